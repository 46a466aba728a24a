/-! ONE RUN -/
def px_wt (S : List Value) : Nat := (S.map fun v => v.category).sum
def px_take (n : Nat) (S : List Value) : Option (List Value × List Value) := if n ≤ S.length then some ((S.take n).reverse, S.drop n) else none
def px_ent : List Value → px_L
  | [] => []
  | v :: t => if v.category = 2 then some v :: none :: px_ent t else some v :: px_ent t
def px_entry (n : Nat) (as : List Value) : px_L := px_ent as ++ List.replicate (n - (px_ent as).length) none
def px_retv (M : px_M) : Instr → List Value → Option (Option Value)
  | .ireturn, [.int x] => match px_Mr M with
    | some ty => if narrow ty (.int x) = .int x then some (some (.int x)) else none
    | none => none
  | .lreturn, [.long x] => match px_Mr M with
    | some .long => some (some (.long x))
    | _ => none
  | .areturn, [.ref r] => match px_Mr M with
    | some (.object _) => some (some (.ref r))
    | some (.array _) => some (some (.ref r))
    | _ => none
  | .areturn, [.null] => match px_Mr M with
    | some (.object _) => some (some .null)
    | some (.array _) => some (some .null)
    | _ => none
  | .return_, [] => match px_Mr M with
    | none => some none
    | some _ => none
  | _, _ => none
def px_kind : Instr → Option (Nat × Nat)
  | .invokestatic i => some (0, i)
  | .invokevirtual i => some (1, i)
  | .invokespecial i => some (2, i)
  | _ => none
def px_recv (M' : px_M) (h : px_H) : Nat → List Value → Bool
  | 0, _ => true
  | 1, .ref r :: _ => match h.2[r]? with
    | some (.inl (c, _)) => decide (c = px_Mo M')
    | _ => false
  | 2, .ref _ :: _ => decide ((px_Mm M').name = "<init>")
  | _, _ => false
/-- what a caller must have left for a callee -/
def px_fitM (M M' : px_M) (w : Nat) : Bool := decide (px_Mf M' + 1 ≤ px_Mf M ∧ w + (px_Ml M' + 11) + px_Mw M' ≤ px_Mw M)
def px_hand (hs : List px_Hd) (pc c : Nat) : Option Nat := (hs.find? (fun q => decide (q.1 ≤ pc) && decide (pc < q.2.1) && decide (q.2.2.2.2 = c))).map (fun q => q.2.2.1)
/-- 'new E, dup, E.<init>, athrow' -/
def px_thr (G : px_G) (k : Nat) (M : px_M) (pc : Nat) (S : List Value) (h : px_H) (idx : Nat) : Option px_H :=
  match px_Gk G (px_Mo M) idx, px_Gi G k (pc + 3), px_Gi G k (pc + 4), px_Gi G k (pc + 7) with
  | some c, some (.dup, 1), some (.invokespecial ic, 3), some (.athrow, 1) =>
    if px_NC ≤ c ∧ px_Gc G (px_Mo M) ic = some (2000 + c) ∧ px_Mh M = [] ∧ 6 ≤ px_Mf M ∧ px_wt S + 81 ≤ px_Mw M ∧ h.2.length + 1 ≤ px_CT ∧ h.1 + 6 ≤ px_ST
    then some (h.1 + 6, h.2 ++ [.inl (c, [])]) else none
  | _, _, _, _ => none
/-- System.arraycopy of bytes -/
def px_cp (h : px_H) (s d : Nat) (sp dp n : Int32) : Option px_H := match h.2[s]?, h.2[d]? with
  | some (.inr (0, n0, .inl f)), some (.inr (0, n1, .inl g)) =>
    if (¬ sp < 0 ∧ ¬ dp < 0 ∧ ¬ n < 0) ∧ sp.toNatClampNeg + n.toNatClampNeg ≤ n0 ∧ dp.toNatClampNeg + n.toNatClampNeg ≤ n1 then some (h.1, h.2.set d (.inr (0, n1, .inl (va_cpy f g sp.toNatClampNeg dp.toNatClampNeg n.toNatClampNeg)))) else none
  | _, _ => none
/-- what the library does in one stroke: Object.<init>, System.arraycopy of bytes, Math.min, length and charAt of a String constant; with the kind of the call and the frames and words that are left -/
def px_prim (fr w : Nat) : Nat → Nat → List Value → px_H → Option (List Value × px_H)
  | 1000, 2, .ref _ :: S, h => if 1 ≤ fr ∧ px_wt S + 12 ≤ w then some (S, h) else none
  | 1001, 0, .int n :: .int dp :: .ref d :: .int sp :: .ref s :: S, h => if 1 ≤ fr ∧ px_wt S + 18 ≤ w then (px_cp h s d sp dp n).map (fun h1 => (S, h1)) else none
  | 1002, 0, .int y :: .int x :: S, h => if 1 ≤ fr ∧ px_wt S + 13 ≤ w then some (.int (if y < x then y else x) :: S, h) else none
  | 1003, 1, .retAddr k :: S, h => if (1 ≤ k ∧ k ≤ 11) ∧ 2 ≤ fr ∧ px_wt S ≤ 8 ∧ 40 ≤ w then some (.int (Int32.ofNat (px_sl.getD (k - 1) 0)) :: S, h) else none
  | 1004, 1, .int i :: .retAddr k :: S, h => if ((1 ≤ k ∧ k ≤ 11) ∧ px_in i (px_sl.getD (k - 1) 0) = true) ∧ 4 ≤ fr ∧ px_wt S ≤ 8 ∧ 85 ≤ w then some (.int ((px_sb.getD (k - 1) []).getD i.toNatClampNeg 0) :: S, h) else none
  | _, _, _, _ => none
abbrev px_O : Type := Option Value ⊕ Nat
def px_run (G : px_G) (sx : Nat × (Nat → Int32)) : Nat → Nat → Nat → px_L → List Value → px_H → Option (px_O × px_H)
  | 0, _, _, _, _, _ => none
  | n + 1, k, pc, L, S, h =>
    match px_Gm G k, px_Gi G k pc with
    | some M, some (i, _) =>
      match px_kind i with
      | some (kd, idx) =>
        match px_Gc G (px_Mo M) idx with
        | none => none
        | some k' =>
          if k' < 1000 then
            match px_Gm G k' with
            | none => none
            | some M' =>
              match px_take (px_Ma M') S with
              | none => none
              | some (as, rest) =>
                if px_recv M' h kd as = true ∧ px_fitM M M' (px_wt rest) = true ∧ (px_ent as).length ≤ px_Ml M' then
                  match px_run G sx n k' 0 (px_entry (px_Ml M') as) [] h with
                  | none => none
                  | some (.inl v, h1) => px_run G sx n k (pc + 3) L (v.toList ++ rest) h1
                  | some (.inr r, h1) =>
                    if px_Mh M = [] then some (.inr r, h1) else
                    match h1.2[r]? with
                    | some (.inl (c, _)) => match px_hand (px_Mh M) pc c with
                      | none => none
                      | some hp => px_run G sx n k hp L [.ref r] h1
                    | _ => none
                else none
          else match px_prim (px_Mf M) (px_Mw M) k' kd S h with
            | some (S1, h1) => px_run G sx n k (pc + 3) L S1 h1
            | none => none
      | none =>
        match px_retv M i S with
        | some v => some (.inl v, h)
        | none =>
          match px_one G sx M pc L S h i with
          | some (pc', L', S', h') => px_run G sx n k pc' L' S' h'
          | none => match i with
            | .new idx => (px_thr G k M pc S h idx).map (fun h' => (.inr h.2.length, h'))
            | _ => none
    | _, _ => none
