/-! WHERE A METHOD STANDS, AND ITS SIMPLE INSTRUCTIONS -/
def px_ty (cl : List vw_C) (t : Nat) : FieldType := if t = 0 then .byte else if t = 1 then .int else if t = 2 then .long else if t = 3 then .boolean else .object ((cl[t - 10]?).elim "" (fun q => q.1))
def px_tys (cl : List vw_C) (cA : Nat → ClassId) : List (ClassId × FieldType) := px_tags.map (fun t => (cA t, px_ty cl t))
theorem px_tys_at (cl : List vw_C) (cA : Nat → ClassId) {t : Nat} (h : t ∈ px_tags) : ∃ t0 : Nat, (px_tys cl cA)[t0]? = some (cA t, px_ty cl t) := by
  obtain ⟨i, hi⟩ := List.getElem?_of_mem h
  exact ⟨i, by simp [px_tys, List.getElem?_map, hi]⟩
def px_Act (p : Program) (s : State) (m : MethodId) (args : Array Value) (meth : Method) (c : Code) (M : px_M) (sx : Nat × (Nat → Int32)) (D : va_G) (cl : List vw_C) (cA : Nat → ClassId) (b0 : Nat) (sc : Nat → Nat) (Ts : List Jvm.Cond) (h0 : px_H) : Prop :=
  (p.tables.exec = Jvm.exec ∧ c.code = px_Mb M ∧ c.maxLocals = px_Ml M ∧ s.vm.findClass (px_Mn M) = some m.cls ∧ (∀ w ∈ Ts, w.before args s = true)) ∧
  (meth.sig.returnType = px_Mr M ∧ meth.locks = false ∧ meth.name = (px_Mm M).name ∧ c.exceptionTable.toList.map (fun h => (h.startPc, h.endPc, h.handlerPc, h.catchType)) = (px_Mh M).map (fun q => (q.1, q.2.1, q.2.2.1, q.2.2.2.1))) ∧
  (va_K D cl (px_tys cl cA) s ∧ va_X (sc 0) sx.1 sx.2 s s.heap ∧ sc 0 < b0 ∧ s.heap.size = b0 + h0.2.length ∧ va_P D cl (px_ws cA b0 sc h0.2) s.heap ∧ px_Str b0 sc s) ∧
  (va_Zq "java/lang/Throwable" "UNASSIGNED_STACK" "[Ljava/lang/StackTraceElement;" (fun q => b0 ≤ q) s s.heap ∧ va_Zq "java/lang/Throwable" "SUPPRESSED_SENTINEL" "Ljava/util/List;" (fun q => b0 ≤ q) s s.heap ∧
    ∀ c1 c2, px_NC ≤ c1 → px_NC ≤ c2 → c1 < cl.length → c2 < cl.length → s.vm.assignable (D.1 c1) (D.1 c2) = decide (c1 = c2)) ∧
  ((∀ (c : Nat) (q : vw_C), cl[c]? = some q → 10 + c ∈ px_tags → va_AO q.1 s) ∧ px_LS "java/lang/Throwable" "UNASSIGNED_STACK" "[Ljava/lang/StackTraceElement;" b0 s s.heap ∧ px_LS "java/lang/Throwable" "SUPPRESSED_SENTINEL" "Ljava/util/List;" b0 s s.heap)
/-- the machine stands at pc with these locals, this stack, this heap, and comes to Q -/
def px_W (p : Program) (l : Launch) (e : Env) (R : Room) (s : State) (m : MethodId) (args : Array Value) (below : List Frame) (meth : Method) (c : Code) (Q : State → Prop) (D : va_G) (cl : List vw_C) (cA : Nat → ClassId) (b0 : Nat) (sc : Nat → Nat) (h0 : px_H) (pc : Nat) (L : px_L) (S : List Value) (h : px_H) : Prop :=
  (h0.2.length ≤ h.2.length ∧ h.2.length ≤ px_CT) → (h0.1 ≤ h.1 ∧ h.1 ≤ px_ST) → ∀ (H : Heap) (locs : List Loc) (ls : Array Slot), H.size = b0 + h.2.length → va_P D cl (px_ws cA b0 sc h.2) H → va_S (fun q => b0 ≤ q) s.heap H locs → px_loc b0 sc ls L →
    W p l e R s m args below meth c H locs (h.2.length - h0.2.length) (h.1 - h0.1) Q (F0 m pc ls (S.map (px_rv b0 sc)))
section PXS
variable {p : Program} {l : Launch} {e : Env} {R : Room} {s : State} {m : MethodId} {args : Array Value} {below : List Frame} {meth : Method} {c : Code} {Q : State → Prop}
variable {sx : Nat × (Nat → Int32)} {M : px_M} {D : va_G} {cl : List vw_C} {cA : Nat → ClassId} {b0 : Nat} {sc : Nat → Nat} {Ts : List Jvm.Cond} {h0 : px_H}
variable {pc tgt : Nat} {L : px_L} {S : List Value} {h : px_H}
/-- an instruction that leaves heap and locals -/
theorem px_keep {pc' : Nat} {S' : List Value} (k : px_W p l e R s m args below meth c Q D cl cA b0 sc h0 pc' L S' h)
    (row : ∀ (H : Heap) (locs : List Loc) (cells slots : Nat) (ls : Array Slot), px_loc b0 sc ls L → W p l e R s m args below meth c H locs cells slots Q (F0 m pc' ls (S'.map (px_rv b0 sc))) → W p l e R s m args below meth c H locs cells slots Q (F0 m pc ls (S.map (px_rv b0 sc)))) :
    px_W p l e R s m args below meth c Q D cl cA b0 sc h0 pc L S h := fun a b H locs ls z P hS hl => row H locs _ _ ls hl (k a b H locs ls z P hS hl)
theorem px_load {ok : Value → Bool} {i : Nat} {v : Value} (h : px_ld L i ok = some v) {ls : Array Slot} (hl : px_loc b0 sc ls L) : ls[i]? = some (.val (px_rv b0 sc v)) := hl.2.2 i v (px_ld_inv h).1
theorem px_asInt {v : Value} (h : px_isInt v = true) : ∃ x, v = .int x := by cases v <;> simp [px_isInt] at h; exact ⟨_, rfl⟩
theorem px_asLong {v : Value} (h : px_isLong v = true) : ∃ x, v = .long x := by cases v <;> simp [px_isLong] at h; exact ⟨_, rfl⟩
theorem px_asRef (b0 : Nat) (sc : Nat → Nat) {v : Value} (h : px_isRef v = true) : px_rv b0 sc v = .null ∨ ∃ a, px_rv b0 sc v = .ref a := by
  cases v <;> simp [px_isRef] at h
  · exact Or.inl rfl
  · exact Or.inr ⟨_, rfl⟩
  · exact Or.inr ⟨_, rfl⟩
theorem px_aload (hx : p.tables.exec = Jvm.exec) (hb : c.code = px_Mb M) {i : Nat} (hd : decode (px_Mb M) pc = .ok (.aload i, 2)) {v : Value} (h1 : px_ld L i px_isRef = some v) (k : px_W p l e R s m args below meth c Q D cl cA b0 sc h0 (pc + 2) L (v :: S) h) : px_W p l e R s m args below meth c Q D cl cA b0 sc h0 pc L S h :=
  px_keep k fun H locs cells slots ls hl kk => by
    have hg := px_load h1 hl
    have hr := px_asRef b0 sc (px_ld_inv h1).2
    simp only [List.map_cons] at kk
    rcases hr with hr | ⟨a, hr⟩
    · rw [hr] at hg kk; exact lv_aloadN hx hb hd hg kk
    · rw [hr] at hg kk; exact lv_aload hx hb hd hg kk
theorem px_aload_n (hx : p.tables.exec = Jvm.exec) (hb : c.code = px_Mb M) {i : Fin 4} (hd : decode (px_Mb M) pc = .ok (.aload_n i, 1)) {v : Value} (h1 : px_ld L i px_isRef = some v) (k : px_W p l e R s m args below meth c Q D cl cA b0 sc h0 (pc + 1) L (v :: S) h) : px_W p l e R s m args below meth c Q D cl cA b0 sc h0 pc L S h :=
  px_keep k fun H locs cells slots ls hl kk => by
    have hg := px_load h1 hl
    have hr := px_asRef b0 sc (px_ld_inv h1).2
    simp only [List.map_cons] at kk
    rcases hr with hr | ⟨a, hr⟩
    · rw [hr] at hg kk; exact lv_aload_nN hx hb hd rfl hg kk
    · rw [hr] at hg kk; exact lv_aload_n hx hb hd rfl hg kk
theorem px_iload (hx : p.tables.exec = Jvm.exec) (hb : c.code = px_Mb M) {i : Nat} (hd : decode (px_Mb M) pc = .ok (.iload i, 2)) {v : Value} (h1 : px_ld L i px_isInt = some v) (k : px_W p l e R s m args below meth c Q D cl cA b0 sc h0 (pc + 2) L (v :: S) h) : px_W p l e R s m args below meth c Q D cl cA b0 sc h0 pc L S h :=
  px_keep k fun H locs cells slots ls hl kk => by
    obtain ⟨x, rfl⟩ := px_asInt (px_ld_inv h1).2
    exact lv_iload hx hb hd (px_load h1 hl) kk
theorem px_iload_n (hx : p.tables.exec = Jvm.exec) (hb : c.code = px_Mb M) {i : Fin 4} (hd : decode (px_Mb M) pc = .ok (.iload_n i, 1)) {v : Value} (h1 : px_ld L i px_isInt = some v) (k : px_W p l e R s m args below meth c Q D cl cA b0 sc h0 (pc + 1) L (v :: S) h) : px_W p l e R s m args below meth c Q D cl cA b0 sc h0 pc L S h :=
  px_keep k fun H locs cells slots ls hl kk => by
    obtain ⟨x, rfl⟩ := px_asInt (px_ld_inv h1).2
    exact lv_iload_n hx hb hd rfl (px_load h1 hl) kk
theorem px_lload (hx : p.tables.exec = Jvm.exec) (hb : c.code = px_Mb M) {i : Nat} (hd : decode (px_Mb M) pc = .ok (.lload i, 2)) {v : Value} (h1 : px_ld L i px_isLong = some v) (k : px_W p l e R s m args below meth c Q D cl cA b0 sc h0 (pc + 2) L (v :: S) h) : px_W p l e R s m args below meth c Q D cl cA b0 sc h0 pc L S h :=
  px_keep k fun H locs cells slots ls hl kk => by
    obtain ⟨x, rfl⟩ := px_asLong (px_ld_inv h1).2
    exact lv_lload hx hb hd (px_load h1 hl) kk
theorem px_lload_n (hx : p.tables.exec = Jvm.exec) (hb : c.code = px_Mb M) {i : Fin 4} (hd : decode (px_Mb M) pc = .ok (.lload_n i, 1)) {v : Value} (h1 : px_ld L i px_isLong = some v) (k : px_W p l e R s m args below meth c Q D cl cA b0 sc h0 (pc + 1) L (v :: S) h) : px_W p l e R s m args below meth c Q D cl cA b0 sc h0 pc L S h :=
  px_keep k fun H locs cells slots ls hl kk => by
    obtain ⟨x, rfl⟩ := px_asLong (px_ld_inv h1).2
    exact lv_lload_n hx hb hd rfl (px_load h1 hl) kk
theorem px_istore (hx : p.tables.exec = Jvm.exec) (hb : c.code = px_Mb M) {i : Nat} (hd : decode (px_Mb M) pc = .ok (.istore i, 2)) {v : Value} (h1 : px_isInt v = true) (hi : i < L.length) (k : px_W p l e R s m args below meth c Q D cl cA b0 sc h0 (pc + 2) (px_st1 L i v) S h) : px_W p l e R s m args below meth c Q D cl cA b0 sc h0 pc L (v :: S) h := fun a b H locs ls z P hS hl => by
  obtain ⟨x, rfl⟩ := px_asInt h1
  exact lv_istore hx hb hd hl.has hi rfl fun ls' hl' => k a b H locs ls' z P hS (px_loc.st1 hl')
theorem px_istore_n (hx : p.tables.exec = Jvm.exec) (hb : c.code = px_Mb M) {i : Fin 4} (hd : decode (px_Mb M) pc = .ok (.istore_n i, 1)) {v : Value} (h1 : px_isInt v = true) (hi : (i : Nat) < L.length) (k : px_W p l e R s m args below meth c Q D cl cA b0 sc h0 (pc + 1) (px_st1 L i v) S h) : px_W p l e R s m args below meth c Q D cl cA b0 sc h0 pc L (v :: S) h := fun a b H locs ls z P hS hl => by
  obtain ⟨x, rfl⟩ := px_asInt h1
  exact lv_istore_n hx hb hd rfl hl.has hi rfl fun ls' hl' => k a b H locs ls' z P hS (px_loc.st1 hl')
theorem px_lstore (hx : p.tables.exec = Jvm.exec) (hb : c.code = px_Mb M) {i : Nat} (hd : decode (px_Mb M) pc = .ok (.lstore i, 2)) {x : Int64} (hi : i + 1 < L.length) (k : px_W p l e R s m args below meth c Q D cl cA b0 sc h0 (pc + 2) (px_st2 L i (.long x)) S h) : px_W p l e R s m args below meth c Q D cl cA b0 sc h0 pc L (.long x :: S) h := fun a b H locs ls z P hS hl =>
  lv_lstore hx hb hd hl.has hi rfl fun ls' hl' => k a b H locs ls' z P hS (px_loc.st2 (v := .long x) hl')
theorem px_lstore_n (hx : p.tables.exec = Jvm.exec) (hb : c.code = px_Mb M) {i : Fin 4} (hd : decode (px_Mb M) pc = .ok (.lstore_n i, 1)) {x : Int64} (hi : (i : Nat) + 1 < L.length) (k : px_W p l e R s m args below meth c Q D cl cA b0 sc h0 (pc + 1) (px_st2 L i (.long x)) S h) : px_W p l e R s m args below meth c Q D cl cA b0 sc h0 pc L (.long x :: S) h := fun a b H locs ls z P hS hl =>
  lv_lstore_n hx hb hd rfl hl.has hi rfl fun ls' hl' => k a b H locs ls' z P hS (px_loc.st2 (v := .long x) hl')
theorem px_astore (hx : p.tables.exec = Jvm.exec) (hb : c.code = px_Mb M) {i : Nat} (hd : decode (px_Mb M) pc = .ok (.astore i, 2)) {v : Value} (h1 : px_isRef v = true) (hi : i < L.length) (k : px_W p l e R s m args below meth c Q D cl cA b0 sc h0 (pc + 2) (px_st1 L i v) S h) : px_W p l e R s m args below meth c Q D cl cA b0 sc h0 pc L (v :: S) h := fun a b H locs ls z P hS hl => by
  rw [List.map_cons]
  have hk : ∀ ls', lv_has ls' L.length ((i, px_rv b0 sc v) :: (px_as b0 sc L).filter (fun q => !(q.1 == i) && !(q.1 + 1 == i && q.2.category == 2))) → _ := fun ls' hl' => k a b H locs ls' z P hS (px_loc.st1 hl')
  rcases px_asRef b0 sc h1 with hr | ⟨ad, hr⟩
  · rw [hr] at hk ⊢
    exact lv_astoreN hx hb hd hl.has hi rfl hk
  · rw [hr] at hk ⊢
    exact lv_astore hx hb hd hl.has hi rfl hk
theorem px_astore_n (hx : p.tables.exec = Jvm.exec) (hb : c.code = px_Mb M) {i : Fin 4} (hd : decode (px_Mb M) pc = .ok (.astore_n i, 1)) {v : Value} (h1 : px_isRef v = true) (hi : (i : Nat) < L.length) (k : px_W p l e R s m args below meth c Q D cl cA b0 sc h0 (pc + 1) (px_st1 L i v) S h) : px_W p l e R s m args below meth c Q D cl cA b0 sc h0 pc L (v :: S) h := fun a b H locs ls z P hS hl => by
  rw [List.map_cons]
  have hk : ∀ ls', lv_has ls' L.length (((i : Nat), px_rv b0 sc v) :: (px_as b0 sc L).filter (fun q => !(q.1 == (i : Nat)) && !(q.1 + 1 == (i : Nat) && q.2.category == 2))) → _ := fun ls' hl' => k a b H locs ls' z P hS (px_loc.st1 hl')
  rcases px_asRef b0 sc h1 with hr | ⟨ad, hr⟩
  · rw [hr] at hk ⊢
    exact lv_astore_nN hx hb hd rfl hl.has hi rfl hk
  · rw [hr] at hk ⊢
    exact lv_astore_n hx hb hd rfl hl.has hi rfl hk
theorem px_iinc (hx : p.tables.exec = Jvm.exec) (hb : c.code = px_Mb M) {i : Nat} {n : Int} (hd : decode (px_Mb M) pc = .ok (.iinc i n, 3)) {x : Int32} (h1 : px_ld L i px_isInt = some (.int x)) (k : px_W p l e R s m args below meth c Q D cl cA b0 sc h0 (pc + 3) (px_st1 L i (.int (x + Int32.ofInt n))) S h) : px_W p l e R s m args below meth c Q D cl cA b0 sc h0 pc L S h := fun a b H locs ls z P hS hl => by
  have hg := (px_ld_inv h1).1
  obtain ⟨kk, hkk⟩ := List.getElem?_of_mem (px_as_mem (b0 := b0) (sc := sc) hg)
  exact lv_iinc hx hb hd hl.has hkk rfl (List.getElem?_eq_some_iff.mp hg).1 rfl fun ls' hl' => k a b H locs ls' z P hS (px_loc.st1 (v := .int (x + Int32.ofInt n)) hl')
theorem px_tgt {off : Int} (h : 0 ≤ (pc : Int) + off) : (pc : Int) + off = ((((pc : Int) + off).toNat : Nat) : Int) := by omega
theorem px_jmp_inv {off : Int} {b : Bool} {pc' : Nat} {L' : px_L} {S' : List Value} {h' : px_H} (h1 : px_jmp pc off b L S h = some (pc', L', S', h')) : 0 ≤ (pc : Int) + off ∧ L' = L ∧ S' = S ∧ h' = h ∧ ((b = true ∧ pc' = ((pc : Int) + off).toNat) ∨ (b = false ∧ pc' = pc + 3)) := by
  unfold px_jmp at h1
  split at h1
  · next ht =>
    cases h1
    refine ⟨ht, rfl, rfl, rfl, ?_⟩
    cases b
    · exact Or.inr ⟨rfl, rfl⟩
    · exact Or.inl ⟨rfl, rfl⟩
  · cases h1
theorem px_if (hx : p.tables.exec = Jvm.exec) (hb : c.code = px_Mb M) {cd : ClassFile.Cond} {off : Int} (hd : decode (px_Mb M) pc = .ok (.ifCond cd off, 3)) {x : Int32} {pc' : Nat} {L' : px_L} {S' : List Value} {h' : px_H} (h1 : px_jmp pc off (px_c1 cd x) L S h = some (pc', L', S', h')) (k : px_W p l e R s m args below meth c Q D cl cA b0 sc h0 pc' L' S' h') : px_W p l e R s m args below meth c Q D cl cA b0 sc h0 pc L (.int x :: S) h := by
  obtain ⟨ht, rfl, rfl, rfl, hc⟩ := px_jmp_inv h1
  refine px_keep k fun H locs cells slots ls hl kk => ?_
  rcases hc with ⟨hc, rfl⟩ | ⟨hc, rfl⟩
  · cases cd
    · exact lv_if_eq hx hb hd (px_tgt ht) (fun _ => kk) (fun q => absurd (of_decide_eq_true hc) q)
    · exact lv_if_ne hx hb hd (px_tgt ht) (fun _ => kk) (fun q => absurd q (of_decide_eq_true hc))
    · exact lv_if_lt hx hb hd (px_tgt ht) (fun _ => kk) (fun q => absurd (of_decide_eq_true hc) q)
    · exact lv_if_ge hx hb hd (px_tgt ht) (fun _ => kk) (fun q => absurd (of_decide_eq_true hc) q)
    · exact lv_if_gt hx hb hd (px_tgt ht) (fun _ => kk) (fun q => absurd (of_decide_eq_true hc) q)
    · exact lv_if_le hx hb hd (px_tgt ht) (fun _ => kk) (fun q => absurd (of_decide_eq_true hc) q)
  · cases cd
    · exact lv_if_eq hx hb hd (px_tgt ht) (fun q => absurd q (of_decide_eq_false hc)) (fun _ => kk)
    · exact lv_if_ne hx hb hd (px_tgt ht) (fun q => absurd q (of_decide_eq_false hc)) (fun _ => kk)
    · exact lv_if_lt hx hb hd (px_tgt ht) (fun q => absurd q (of_decide_eq_false hc)) (fun _ => kk)
    · exact lv_if_ge hx hb hd (px_tgt ht) (fun q => absurd q (of_decide_eq_false hc)) (fun _ => kk)
    · exact lv_if_gt hx hb hd (px_tgt ht) (fun q => absurd q (of_decide_eq_false hc)) (fun _ => kk)
    · exact lv_if_le hx hb hd (px_tgt ht) (fun q => absurd q (of_decide_eq_false hc)) (fun _ => kk)
theorem px_icmp (hx : p.tables.exec = Jvm.exec) (hb : c.code = px_Mb M) {cd : ClassFile.Cond} {off : Int} (hd : decode (px_Mb M) pc = .ok (.if_icmp cd off, 3)) {x y : Int32} {pc' : Nat} {L' : px_L} {S' : List Value} {h' : px_H} (h1 : px_jmp pc off (px_c2 cd x y) L S h = some (pc', L', S', h')) (k : px_W p l e R s m args below meth c Q D cl cA b0 sc h0 pc' L' S' h') : px_W p l e R s m args below meth c Q D cl cA b0 sc h0 pc L (.int y :: .int x :: S) h := by
  obtain ⟨ht, rfl, rfl, rfl, hc⟩ := px_jmp_inv h1
  refine px_keep k fun H locs cells slots ls hl kk => ?_
  rcases hc with ⟨hc, rfl⟩ | ⟨hc, rfl⟩
  · cases cd
    · exact lv_icmp_eq hx hb hd (px_tgt ht) (fun _ => kk) (fun q => absurd (of_decide_eq_true hc) q)
    · exact lv_icmp_ne hx hb hd (px_tgt ht) (fun _ => kk) (fun q => absurd q (of_decide_eq_true hc))
    · exact lv_icmp_lt hx hb hd (px_tgt ht) (fun _ => kk) (fun q => absurd (of_decide_eq_true hc) q)
    · exact lv_icmp_ge hx hb hd (px_tgt ht) (fun _ => kk) (fun q => absurd (of_decide_eq_true hc) q)
    · exact lv_icmp_gt hx hb hd (px_tgt ht) (fun _ => kk) (fun q => absurd (of_decide_eq_true hc) q)
    · exact lv_icmp_le hx hb hd (px_tgt ht) (fun _ => kk) (fun q => absurd (of_decide_eq_true hc) q)
  · cases cd
    · exact lv_icmp_eq hx hb hd (px_tgt ht) (fun q => absurd q (of_decide_eq_false hc)) (fun _ => kk)
    · exact lv_icmp_ne hx hb hd (px_tgt ht) (fun q => absurd q (of_decide_eq_false hc)) (fun _ => kk)
    · exact lv_icmp_lt hx hb hd (px_tgt ht) (fun q => absurd q (of_decide_eq_false hc)) (fun _ => kk)
    · exact lv_icmp_ge hx hb hd (px_tgt ht) (fun q => absurd q (of_decide_eq_false hc)) (fun _ => kk)
    · exact lv_icmp_gt hx hb hd (px_tgt ht) (fun q => absurd q (of_decide_eq_false hc)) (fun _ => kk)
    · exact lv_icmp_le hx hb hd (px_tgt ht) (fun q => absurd q (of_decide_eq_false hc)) (fun _ => kk)
end PXS
