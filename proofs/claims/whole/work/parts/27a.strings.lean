/-! STRING CONSTANTS: length AND charAt, walked through the library's own code -/
def ps_yL : MethodName := ⟨"java/lang/String", "length", "()I"⟩
def ps_yC : MethodName := ⟨"java/lang/String", "coder", "()B"⟩
def ps_yA : MethodName := ⟨"java/lang/String", "charAt", "(I)C"⟩
def ps_yI : MethodName := ⟨"java/lang/String", "isLatin1", "()Z"⟩
def ps_yS : MethodName := ⟨"java/lang/StringLatin1", "charAt", "([BI)C"⟩
def ps_yX : MethodName := ⟨"java/lang/String", "checkIndex", "(II)V"⟩
def ps_yP : MethodName := ⟨"jdk/internal/util/Preconditions", "checkIndex", "(IILjava/util/function/BiFunction;)I"⟩
def ps_fV : Jvm.Cond := .fieldLink "java/lang/String" 9 "java/lang/String" "value" "[B"
def ps_fC : Jvm.Cond := .fieldLink "java/lang/String" 15 "java/lang/String" "coder" "B"
def ps_fZ : Jvm.Cond := .fieldLink "java/lang/String" 38 "java/lang/String" "COMPACT_STRINGS" "Z"
def ps_fF : Jvm.Cond := .fieldLink "java/lang/String" 1053 "jdk/internal/util/Preconditions" "SIOOBE_FORMATTER" "Ljava/util/function/BiFunction;"
def ps_wC : List Jvm.Cond := [.code ps_yC prog_20_method_152_code 1 (some .byte), ps_fZ, ps_fC]
def ps_wL : List Jvm.Cond := .code ps_yL prog_20_method_54_code 1 (some .int) :: ps_fV :: wsV "java/lang/String" 335 "java/lang/String" ps_yC ps_wC
def ps_wI : List Jvm.Cond := [.code ps_yI prog_20_method_154_code 1 (some .boolean), ps_fZ, ps_fC]
def ps_wP : List Jvm.Cond := [.code ps_yP prog_27_method_11_code 3 (some .int)]
def ps_wX : List Jvm.Cond := .code ps_yX prog_20_method_155_code 2 none :: ps_fF :: va_wsS "java/lang/String" 1059 ps_yP ps_wP
def ps_wS : List Jvm.Cond := .code ps_yS prog_21_method_2_code 2 (some .char) :: va_wsS "java/lang/StringLatin1" 9 ps_yX ps_wX
def ps_wA : List Jvm.Cond := .code ps_yA prog_20_method_56_code 2 (some .char) :: ps_fV :: (wsV "java/lang/String" 492 "java/lang/String" ps_yI ps_wI ++ va_wsS "java/lang/String" 495 ps_yS ps_wS)
theorem ps_good {ws : List Jvm.Cond} (h : ws.all goodWord = true) {big : List Jvm.Cond} (hm : ∀ w ∈ ws, w ∈ big) : GoodIn big ws := fun w hw => ⟨hm w hw, good_of_word (List.all_eq_true.mp h w hw)⟩
theorem ps_gL : GoodIn ps_wL (wsV "java/lang/String" 335 "java/lang/String" ps_yC ps_wC) := ps_good (by decide +kernel) fun w hw => List.mem_cons_of_mem _ (List.mem_cons_of_mem _ hw)
theorem ps_gX : GoodIn ps_wX (va_wsS "java/lang/String" 1059 ps_yP ps_wP) := ps_good (by decide +kernel) fun w hw => List.mem_cons_of_mem _ (List.mem_cons_of_mem _ hw)
theorem ps_gS : GoodIn ps_wS (va_wsS "java/lang/StringLatin1" 9 ps_yX ps_wX) := ps_good (by decide +kernel) fun w hw => List.mem_cons_of_mem _ hw
theorem ps_gA1 : GoodIn ps_wA (wsV "java/lang/String" 492 "java/lang/String" ps_yI ps_wI) := ps_good (by decide +kernel) fun w hw => List.mem_cons_of_mem _ (List.mem_cons_of_mem _ (List.mem_append_left _ hw))
theorem ps_gA2 : GoodIn ps_wA (va_wsS "java/lang/String" 495 ps_yS ps_wS) := ps_good (by decide +kernel) fun w hw => List.mem_cons_of_mem _ (List.mem_cons_of_mem _ (List.mem_append_right _ hw))
theorem ps_dC_0 : decode prog_20_method_152_code 0 = .ok (.getstatic 38, 3) := by decide +kernel
theorem ps_dC_3 : decode prog_20_method_152_code 3 = .ok (.ifCond .eq 10, 3) := by decide +kernel
theorem ps_dC_6 : decode prog_20_method_152_code 6 = .ok (.aload_n 0, 1) := by decide +kernel
theorem ps_dC_7 : decode prog_20_method_152_code 7 = .ok (.getfield 15, 3) := by decide +kernel
theorem ps_dC_10 : decode prog_20_method_152_code 10 = .ok (.goto 4, 3) := by decide +kernel
theorem ps_dC_14 : decode prog_20_method_152_code 14 = .ok (.ireturn, 1) := by decide +kernel
theorem ps_dL_0 : decode prog_20_method_54_code 0 = .ok (.aload_n 0, 1) := by decide +kernel
theorem ps_dL_1 : decode prog_20_method_54_code 1 = .ok (.getfield 9, 3) := by decide +kernel
theorem ps_dL_4 : decode prog_20_method_54_code 4 = .ok (.arraylength, 1) := by decide +kernel
theorem ps_dL_5 : decode prog_20_method_54_code 5 = .ok (.aload_n 0, 1) := by decide +kernel
theorem ps_dL_6 : decode prog_20_method_54_code 6 = .ok (.invokevirtual 335, 3) := by decide +kernel
theorem ps_dL_9 : decode prog_20_method_54_code 9 = .ok (.ishr, 1) := by decide +kernel
theorem ps_dL_10 : decode prog_20_method_54_code 10 = .ok (.ireturn, 1) := by decide +kernel
theorem ps_dI_0 : decode prog_20_method_154_code 0 = .ok (.getstatic 38, 3) := by decide +kernel
theorem ps_dI_3 : decode prog_20_method_154_code 3 = .ok (.ifCond .eq 14, 3) := by decide +kernel
theorem ps_dI_6 : decode prog_20_method_154_code 6 = .ok (.aload_n 0, 1) := by decide +kernel
theorem ps_dI_7 : decode prog_20_method_154_code 7 = .ok (.getfield 15, 3) := by decide +kernel
theorem ps_dI_10 : decode prog_20_method_154_code 10 = .ok (.ifCond .ne 7, 3) := by decide +kernel
theorem ps_dI_13 : decode prog_20_method_154_code 13 = .ok (.iconst 1, 1) := by decide +kernel
theorem ps_dI_14 : decode prog_20_method_154_code 14 = .ok (.goto 4, 3) := by decide +kernel
theorem ps_dI_18 : decode prog_20_method_154_code 18 = .ok (.ireturn, 1) := by decide +kernel
theorem ps_dP_0 : decode prog_27_method_11_code 0 = .ok (.iload_n 0, 1) := by decide +kernel
theorem ps_dP_1 : decode prog_27_method_11_code 1 = .ok (.ifCond .lt 8, 3) := by decide +kernel
theorem ps_dP_4 : decode prog_27_method_11_code 4 = .ok (.iload_n 0, 1) := by decide +kernel
theorem ps_dP_5 : decode prog_27_method_11_code 5 = .ok (.iload_n 1, 1) := by decide +kernel
theorem ps_dP_6 : decode prog_27_method_11_code 6 = .ok (.if_icmp .lt 10, 3) := by decide +kernel
theorem ps_dP_16 : decode prog_27_method_11_code 16 = .ok (.iload_n 0, 1) := by decide +kernel
theorem ps_dP_17 : decode prog_27_method_11_code 17 = .ok (.ireturn, 1) := by decide +kernel
theorem ps_dX_0 : decode prog_20_method_155_code 0 = .ok (.iload_n 0, 1) := by decide +kernel
theorem ps_dX_1 : decode prog_20_method_155_code 1 = .ok (.iload_n 1, 1) := by decide +kernel
theorem ps_dX_2 : decode prog_20_method_155_code 2 = .ok (.getstatic 1053, 3) := by decide +kernel
theorem ps_dX_5 : decode prog_20_method_155_code 5 = .ok (.invokestatic 1059, 3) := by decide +kernel
theorem ps_dX_8 : decode prog_20_method_155_code 8 = .ok (.pop, 1) := by decide +kernel
theorem ps_dX_9 : decode prog_20_method_155_code 9 = .ok (.return_, 1) := by decide +kernel
theorem ps_dS_0 : decode prog_21_method_2_code 0 = .ok (.iload_n 1, 1) := by decide +kernel
theorem ps_dS_1 : decode prog_21_method_2_code 1 = .ok (.aload_n 0, 1) := by decide +kernel
theorem ps_dS_2 : decode prog_21_method_2_code 2 = .ok (.arraylength, 1) := by decide +kernel
theorem ps_dS_3 : decode prog_21_method_2_code 3 = .ok (.invokestatic 9, 3) := by decide +kernel
theorem ps_dS_6 : decode prog_21_method_2_code 6 = .ok (.aload_n 0, 1) := by decide +kernel
theorem ps_dS_7 : decode prog_21_method_2_code 7 = .ok (.iload_n 1, 1) := by decide +kernel
theorem ps_dS_8 : decode prog_21_method_2_code 8 = .ok (.baload, 1) := by decide +kernel
theorem ps_dS_9 : decode prog_21_method_2_code 9 = .ok (.sipush 255, 3) := by decide +kernel
theorem ps_dS_12 : decode prog_21_method_2_code 12 = .ok (.iand, 1) := by decide +kernel
theorem ps_dS_13 : decode prog_21_method_2_code 13 = .ok (.i2c, 1) := by decide +kernel
theorem ps_dS_14 : decode prog_21_method_2_code 14 = .ok (.ireturn, 1) := by decide +kernel
theorem ps_dA_0 : decode prog_20_method_56_code 0 = .ok (.aload_n 0, 1) := by decide +kernel
theorem ps_dA_1 : decode prog_20_method_56_code 1 = .ok (.invokevirtual 492, 3) := by decide +kernel
theorem ps_dA_4 : decode prog_20_method_56_code 4 = .ok (.ifCond .eq 12, 3) := by decide +kernel
theorem ps_dA_7 : decode prog_20_method_56_code 7 = .ok (.aload_n 0, 1) := by decide +kernel
theorem ps_dA_8 : decode prog_20_method_56_code 8 = .ok (.getfield 9, 3) := by decide +kernel
theorem ps_dA_11 : decode prog_20_method_56_code 11 = .ok (.iload_n 1, 1) := by decide +kernel
theorem ps_dA_12 : decode prog_20_method_56_code 12 = .ok (.invokestatic 495, 3) := by decide +kernel
theorem ps_dA_15 : decode prog_20_method_56_code 15 = .ok (.ireturn, 1) := by decide +kernel
/-- what is known of a String constant at a: its bytes at t -/
def ps_St (b0 a t n : Nat) (f : Nat → Int32) (U : State) : Prop :=
  va_O "java/lang/String" a (fun q => b0 ≤ q) U U.heap ∧ va_OF "java/lang/String" "coder" "B" (.int 0) a (fun q => b0 ≤ q) U U.heap ∧ va_OF "java/lang/String" "value" "[B" (.ref t) a (fun q => b0 ≤ q) U U.heap ∧ va_T .byte t n (fun j => .int (f j)) (fun q => b0 ≤ q) U U.heap ∧
  va_Z "java/lang/String" "COMPACT_STRINGS" "Z" (.int 1) (fun q => b0 ≤ q) U U.heap ∧ va_Zq "jdk/internal/util/Preconditions" "SIOOBE_FORMATTER" "Ljava/util/function/BiFunction;" (fun q => b0 ≤ q) U U.heap
theorem ps_St.moved {b0 a t n : Nat} {f : Nat → Int32} {u U : State} (h : ps_St b0 a t n f u) (hvm : u.vm.Alike U.vm) (hh : U.heap = u.heap) : ps_St b0 a t n f U := by
  obtain ⟨h1, h2, h3, h4, h5, h6⟩ := h
  unfold ps_St
  rw [hh]
  exact ⟨va_O.moved hvm h1, va_OF.moved hvm h2, va_OF.moved hvm h3, va_T.moved hvm h4, va_Z.moved hvm h5, va_Zq.moved hvm h6⟩
def ps_Qi (v : Int32) : Array Value → State → Outcome → State → Prop := fun _ st oc t => oc = .returned (some (.int v)) ∧ t.heap = st.heap
def ps_Qv : Array Value → State → Outcome → State → Prop := fun _ st oc t => oc = .returned none ∧ t.heap = st.heap
def ps_Pc (av : List Value) (b0 a t n : Nat) (f : Nat → Int32) : Array Value → State → Prop := fun v U => v = av.toArray ∧ ps_St b0 a t n f U
theorem ps_blind {av : List Value} {b0 a t n : Nat} {f : Nat → Int32} : FrameBlind (ps_Pc av b0 a t n f) := fun v U g mk q => ⟨q.1, q.2.moved (U := U.calling g mk v) (Vm.Alike.refl U.vm) rfl⟩
section PSW
variable {p : Program} {l : Launch} {e : Env} {R : Room} {s : State} {m : MethodId} {args : Array Value} {below : List Frame} {meth : Method} {c : Code} {H : Heap} {locs : List Loc} {cells slots : Nat} {Q : State → Prop}
variable {cc : ByteArray} {pc : Nat} {ls : Array Slot} {rest st0 : List Value} {A : Nat → Prop} {a : Array Value}
theorem ps_getf (hexec : p.tables.exec = Jvm.exec) (hb : c.code = cc) {o n d own : String} {v : Value} {q index : Nat} (hE : va_OF o n d v q A s s.heap) (hS : va_S A s.heap H locs) (hown : s.vm.findClass own = some m.cls) (hlink : (Jvm.Cond.fieldLink own index o n d).before args s = true) (hdg : decode cc pc = .ok (.getfield index, 3))
    (kk : W p l e R s m args below meth c H locs cells slots Q (F0 m (pc + 3) ls (v :: rest))) : W p l e R s m args below meth c H locs cells slots Q (F0 m pc ls (.ref q :: rest)) := by
  obtain ⟨cf, k, fi, f, cell, h1, h2, h3, h4, h5, h6⟩ := hE.kept hS.2.1
  exact W.getf hexec hb hown hlink h1 h2 h3 h4 (v := v) h5 rfl rfl hdg kk
theorem ps_ci {v : Int32} (hr : CallRun p l e R s m args below meth c H locs cells slots 0 0 (F0 m pc ls st0) rest (ps_Qi v a) (fun _ => False)) (kk : W p l e R s m args below meth c H locs cells slots Q (F0 m (pc + 3) ls (.int v :: rest))) : W p l e R s m args below meth c H locs cells slots Q (F0 m pc ls st0) := by
  intro T hT X
  obtain ⟨w, st₀, t, T', L, h0, X', hL, e1, ⟨hv, hh⟩, st⟩ := hr T hT X
  cases hv
  obtain ⟨t2, a1, b1⟩ := kk T' (by rw [e1, hh, h0]) (Stand.forget X' (fun q h => (hL q h).elim))
  exact ⟨t2, st t2 a1, b1⟩
theorem ps_cv (hr : CallRun p l e R s m args below meth c H locs cells slots 0 0 (F0 m pc ls st0) rest (ps_Qv a) (fun _ => False)) (kk : W p l e R s m args below meth c H locs cells slots Q (F0 m (pc + 3) ls rest)) : W p l e R s m args below meth c H locs cells slots Q (F0 m pc ls st0) := by
  intro T hT X
  obtain ⟨w, st₀, t, T', L, h0, X', hL, e1, ⟨hv, hh⟩, st⟩ := hr T hT X
  cases hv
  obtain ⟨t2, a1, b1⟩ := kk T' (by rw [e1, hh, h0]) (Stand.forget X' (fun q h => (hL q h).elim))
  exact ⟨t2, st t2 a1, b1⟩
theorem ps_recv {b0 q t n : Nat} {f : Nat → Int32} (h : ps_St b0 q t n f s) (hH : H = s.heap) : ∃ cell : Cell, H[q]? = some cell ∧ cell.vm.isStatics = false ∧ s.vm.findClass "java/lang/String" = some cell.cls := by
  subst hH
  obtain ⟨cell, h1, h2, h3, -⟩ := h.1
  exact ⟨cell, h1, h2, h3⟩
end PSW
set_option maxHeartbeats 4000000 in
set_option maxRecDepth 100000 in
theorem ps_coder (l : Launch) (b0 a t n : Nat) (f : Nat → Int32) : Met l ps_yC ps_wC { frames := 0, cells := 0, slots := 0, locals := 0 } (ps_Pc [.ref a] b0 a t n f) (ps_Qi 0) 0 0 (fun _ => False) := by
  refine Met.ofW (cc := prog_20_method_152_code) (maxL := 1) (ret := some .byte) (by decide) rfl ?_
  intro p e s m args below meth c s₁ B hml hv
  obtain ⟨rfl, hSt⟩ := hv
  have hSt' := hSt
  obtain ⟨hO, hC, hV, hT, hZ, hF⟩ := hSt'
  have hx := B.exec
  have hb := B.bytes
  have hr := B.returns
  have hts := atoms_spec (ws := ps_wC) B.pre
  have hown : s.vm.findClass "java/lang/String" = some m.cls := findClass_of_methodNamed B.named
  have hlocks := B.notSynchronized
  have hS : va_S (fun q => b0 ≤ q) s.heap s.heap [] := va_S.rf
  have hl := lv_entry ([.ref a]) (n := 1) (Nat.le_of_ble_eq_true rfl)
  rw [lg_entry_eq]
  generalize (lg_sl ([.ref a]) ++ List.replicate (1 - (lg_sl ([.ref a])).length) Slot.unset).toArray = ls at hl ⊢
  have hl : lv_has ls 1 [(0, .ref a)] := hl
  refine va_gets hx hb hZ hS hown (hts ps_fZ (by simp [ps_wC])) (fun _ h => h) ps_dC_0 ?_
  refine lv_if_eq (tgt := 13) hx hb ps_dC_3 (by decide) (fun h => absurd h (by decide)) (fun _ => ?_)
  refine lv_aload_n hx hb ps_dC_6 rfl (lv_at hl 0 rfl) ?_
  refine ps_getf hx hb hC hS hown (hts ps_fC (by simp [ps_wC])) ps_dC_7 ?_
  refine lv_goto (tgt := 14) hx hb ps_dC_10 (by decide) ?_
  exact W.zret hx hb hr (by decide) (fun t ht _ => ⟨rfl, ht⟩) (fun _ h => by cases h) ps_dC_14
set_option maxHeartbeats 4000000 in
set_option maxRecDepth 100000 in
theorem ps_isLatin (l : Launch) (b0 a t n : Nat) (f : Nat → Int32) : Met l ps_yI ps_wI { frames := 0, cells := 0, slots := 0, locals := 0 } (ps_Pc [.ref a] b0 a t n f) (ps_Qi 1) 0 0 (fun _ => False) := by
  refine Met.ofW (cc := prog_20_method_154_code) (maxL := 1) (ret := some .boolean) (by decide) rfl ?_
  intro p e s m args below meth c s₁ B hml hv
  obtain ⟨rfl, hSt⟩ := hv
  have hSt' := hSt
  obtain ⟨hO, hC, hV, hT, hZ, hF⟩ := hSt'
  have hx := B.exec
  have hb := B.bytes
  have hr := B.returns
  have hts := atoms_spec (ws := ps_wI) B.pre
  have hown : s.vm.findClass "java/lang/String" = some m.cls := findClass_of_methodNamed B.named
  have hlocks := B.notSynchronized
  have hS : va_S (fun q => b0 ≤ q) s.heap s.heap [] := va_S.rf
  have hl := lv_entry ([.ref a]) (n := 1) (Nat.le_of_ble_eq_true rfl)
  rw [lg_entry_eq]
  generalize (lg_sl ([.ref a]) ++ List.replicate (1 - (lg_sl ([.ref a])).length) Slot.unset).toArray = ls at hl ⊢
  have hl : lv_has ls 1 [(0, .ref a)] := hl
  refine va_gets hx hb hZ hS hown (hts ps_fZ (by simp [ps_wI])) (fun _ h => h) ps_dI_0 ?_
  refine lv_if_eq (tgt := 17) hx hb ps_dI_3 (by decide) (fun h => absurd h (by decide)) (fun _ => ?_)
  refine lv_aload_n hx hb ps_dI_6 rfl (lv_at hl 0 rfl) ?_
  refine ps_getf hx hb hC hS hown (hts ps_fC (by simp [ps_wI])) ps_dI_7 ?_
  refine lv_if_ne (tgt := 17) hx hb ps_dI_10 (by decide) (fun h => absurd rfl h) (fun _ => ?_)
  refine lv_iconst (v := 1) hx hb ps_dI_13 (by decide) ?_
  refine lv_goto (tgt := 18) hx hb ps_dI_14 (by decide) ?_
  exact W.zret hx hb hr (by decide) (fun t ht _ => ⟨rfl, ht⟩) (fun _ h => by cases h) ps_dI_18
set_option maxHeartbeats 4000000 in
set_option maxRecDepth 100000 in
theorem ps_len (l : Launch) (b0 a t n : Nat) (f : Nat → Int32) (hn : n < 1000) : Met l ps_yL ps_wL { frames := 1, cells := 0, slots := 0, locals := 20 } (ps_Pc [.ref a] b0 a t n f) (ps_Qi (Int32.ofNat n)) 0 0 (fun _ => False) := by
  refine Met.ofW (cc := prog_20_method_54_code) (maxL := 1) (ret := some .int) (by decide) rfl ?_
  intro p e s m args below meth c s₁ B hml hv
  obtain ⟨rfl, hSt⟩ := hv
  have hSt' := hSt
  obtain ⟨hO, hC, hV, hT, hZ, hF⟩ := hSt'
  have hx := B.exec
  have hb := B.bytes
  have hr := B.returns
  have hts := atoms_spec (ws := ps_wL) B.pre
  have hown : s.vm.findClass "java/lang/String" = some m.cls := findClass_of_methodNamed B.named
  have hlocks := B.notSynchronized
  have hS : va_S (fun q => b0 ≤ q) s.heap s.heap [] := va_S.rf
  have hl := lv_entry ([.ref a]) (n := 1) (Nat.le_of_ble_eq_true rfl)
  rw [lg_entry_eq]
  generalize (lg_sl ([.ref a]) ++ List.replicate (1 - (lg_sl ([.ref a])).length) Slot.unset).toArray = ls at hl ⊢
  have hl : lv_has ls 1 [(0, .ref a)] := hl
  refine lv_aload_n hx hb ps_dL_0 rfl (lv_at hl 0 rfl) ?_
  refine ps_getf hx hb hV hS hown (hts ps_fV (by simp [ps_wL])) ps_dL_1 ?_
  refine va_tlen hx hb hT hS rfl ps_dL_4 ?_
  refine lv_aload_n hx hb ps_dL_5 rfl (lv_at hl 0 rfl) ?_
  refine ps_ci (W.runV (As := []) (rest := [.int (Int32.ofNat n)]) ⟨hx, hb, hml, hown, hts⟩ (ps_coder l b0 a t n f) (cwV 0 hts ps_gL rfl rfl rfl (by decide +kernel) ⟨Nat.le_of_ble_eq_true rfl, Nat.le_of_ble_eq_true rfl⟩) ⟨ps_blind, ps_recv hSt rfl, fun U hU hW => ⟨rfl, hSt.moved hW.alike hU⟩⟩ rfl rfl hl.1 rfl (lv_room (Nat.le_of_ble_eq_true rfl)) ps_dL_6 ⟨Nat.zero_le _, Nat.zero_le _⟩) ?_
  refine lv_ishr hx hb ps_dL_9 ?_
  rw [show Int32.ofNat n >>> ((0 : Int32) &&& 31) = Int32.ofNat n from sc_shr0 (n := n) (by omega)]
  exact W.iret hx hb hr (fun t ht _ => ⟨rfl, ht⟩) (fun _ h => by cases h) ps_dL_10
set_option maxHeartbeats 4000000 in
set_option maxRecDepth 100000 in
theorem ps_pre (l : Launch) (b0 a t n : Nat) (f : Nat → Int32) (x : Value) (hx3 : x = .null ∨ ∃ q, x = .ref q) (i j : Int32) (h0 : ¬ i < 0) (hij : i < j) : Met l ps_yP ps_wP { frames := 0, cells := 0, slots := 0, locals := 0 } (ps_Pc [.int i, .int j, x] b0 a t n f) (ps_Qi i) 0 0 (fun _ => False) := by
  refine Met.ofW (cc := prog_27_method_11_code) (maxL := 3) (ret := some .int) (by decide) rfl ?_
  intro p e s m args below meth c s₁ B hml hv
  obtain ⟨rfl, hSt⟩ := hv
  have hx := B.exec
  have hb := B.bytes
  have hr := B.returns
  have hlocks := B.notSynchronized
  have hc : x.category = 1 := by rcases hx3 with rfl | ⟨q, rfl⟩ <;> rfl
  have hl := lv_entry ([.int i, .int j, x]) (n := 3) (by rcases hx3 with rfl | ⟨q, rfl⟩ <;> exact Nat.le_of_ble_eq_true rfl)
  rw [lg_entry_eq]
  generalize (lg_sl ([.int i, .int j, x]) ++ List.replicate (3 - (lg_sl ([.int i, .int j, x])).length) Slot.unset).toArray = ls at hl ⊢
  have hl : lv_has ls 3 [(0, .int i), (1, .int j), (2, x)] := by rcases hx3 with rfl | ⟨q, rfl⟩ <;> exact hl
  refine lv_iload_n hx hb ps_dP_0 rfl (lv_at hl 0 rfl) ?_
  refine lv_if_lt (tgt := 9) hx hb ps_dP_1 (by decide) (fun h => absurd h h0) (fun _ => ?_)
  refine lv_iload_n hx hb ps_dP_4 rfl (lv_at hl 0 rfl) ?_
  refine lv_iload_n hx hb ps_dP_5 rfl (lv_at hl 1 rfl) ?_
  refine lv_icmp_lt (tgt := 16) hx hb ps_dP_6 (by decide) (fun _ => ?_) (fun h => absurd hij h)
  refine lv_iload_n hx hb ps_dP_16 rfl (lv_at hl 0 rfl) ?_
  exact W.iret hx hb hr (fun t ht _ => ⟨rfl, ht⟩) (fun _ h => by cases h) ps_dP_17
set_option maxHeartbeats 4000000 in
set_option maxRecDepth 100000 in
theorem ps_check (l : Launch) (b0 a t n : Nat) (f : Nat → Int32) (i j : Int32) (h0 : ¬ i < 0) (hij : i < j) : Met l ps_yX ps_wX { frames := 1, cells := 0, slots := 0, locals := 22 } (ps_Pc [.int i, .int j] b0 a t n f) (ps_Qv) 0 0 (fun _ => False) := by
  refine Met.ofW (cc := prog_20_method_155_code) (maxL := 2) (ret := none) (by decide) rfl ?_
  intro p e s m args below meth c s₁ B hml hv
  obtain ⟨rfl, hSt⟩ := hv
  have hSt' := hSt
  obtain ⟨hO, hC, hV, hT, hZ, hF⟩ := hSt'
  have hx := B.exec
  have hb := B.bytes
  have hr := B.returns
  have hts := atoms_spec (ws := ps_wX) B.pre
  have hown : s.vm.findClass "java/lang/String" = some m.cls := findClass_of_methodNamed B.named
  have hlocks := B.notSynchronized
  have hS : va_S (fun q => b0 ≤ q) s.heap s.heap [] := va_S.rf
  have hl := lv_entry ([.int i, .int j]) (n := 2) (Nat.le_of_ble_eq_true rfl)
  rw [lg_entry_eq]
  generalize (lg_sl ([.int i, .int j]) ++ List.replicate (2 - (lg_sl ([.int i, .int j])).length) Slot.unset).toArray = ls at hl ⊢
  have hl : lv_has ls 2 [(0, .int i), (1, .int j)] := hl
  refine lv_iload_n hx hb ps_dX_0 rfl (lv_at hl 0 rfl) ?_
  refine lv_iload_n hx hb ps_dX_1 rfl (lv_at hl 1 rfl) ?_
  have go : ∀ x : Value, (x = .null ∨ ∃ q, x = .ref q) → va_Z "jdk/internal/util/Preconditions" "SIOOBE_FORMATTER" "Ljava/util/function/BiFunction;" x (fun q => b0 ≤ q) s s.heap → W p l e (headSpec ps_wX { frames := 1, cells := 0, slots := 0, locals := 22 }).room s m ([Value.int i, Value.int j] : List Value).toArray below meth c s.heap [] 0 0 (MQ below ps_Qv ([Value.int i, Value.int j] : List Value).toArray s 0 0 (fun _ => False)) (F0 m 2 ls [.int j, .int i]) := by
    intro x hx3 hZx
    refine va_gets hx hb hZx hS hown (hts ps_fF (by simp [ps_wX])) (fun _ h => h) ps_dX_2 ?_
    refine ps_ci (W.runS (As := [.int i, .int j, x]) (rest := []) ⟨hx, hb, hml, hown, hts⟩ (ps_pre l b0 a t n f x hx3 i j h0 hij) (va_cwS 3 hts ps_gX rfl rfl rfl (by decide +kernel) ⟨Nat.le_of_ble_eq_true rfl, Nat.le_of_ble_eq_true rfl⟩) ⟨ps_blind, fun U hU hW => ⟨rfl, hSt.moved hW.alike hU⟩⟩ rfl rfl hl.1 rfl (lv_room (Nat.le_of_ble_eq_true rfl)) ps_dX_5 ⟨Nat.zero_le _, Nat.zero_le _⟩) ?_
    refine lv_pop hx hb ps_dX_8 rfl ?_
    exact W.vret hx hb hr (fun t ht _ => ⟨rfl, ht⟩) (fun _ h => by cases h) ps_dX_9
  rcases hF with hF | ⟨q, hF⟩
  · exact go _ (Or.inl rfl) hF
  · exact go _ (Or.inr ⟨q, rfl⟩) hF
set_option maxHeartbeats 4000000 in
set_option maxRecDepth 100000 in
theorem ps_latin (l : Launch) (b0 a t n : Nat) (f : Nat → Int32) (hn : n < 1000) (i : Int32) (hi : vp_in i n) (hf : f i.toNatClampNeg &&& 255 = f i.toNatClampNeg) : Met l ps_yS ps_wS { frames := 2, cells := 0, slots := 0, locals := 43 } (ps_Pc [.ref t, .int i] b0 a t n f) (ps_Qi (f i.toNatClampNeg)) 0 0 (fun _ => False) := by
  refine Met.ofW (cc := prog_21_method_2_code) (maxL := 2) (ret := some .char) (by decide) rfl ?_
  intro p e s m args below meth c s₁ B hml hv
  obtain ⟨rfl, hSt⟩ := hv
  have hSt' := hSt
  obtain ⟨hO, hC, hV, hT, hZ, hF⟩ := hSt'
  have hx := B.exec
  have hb := B.bytes
  have hr := B.returns
  have hts := atoms_spec (ws := ps_wS) B.pre
  have hown : s.vm.findClass "java/lang/StringLatin1" = some m.cls := findClass_of_methodNamed B.named
  have hlocks := B.notSynchronized
  have hS : va_S (fun q => b0 ≤ q) s.heap s.heap [] := va_S.rf
  have hl := lv_entry ([.ref t, .int i]) (n := 2) (Nat.le_of_ble_eq_true rfl)
  rw [lg_entry_eq]
  generalize (lg_sl ([.ref t, .int i]) ++ List.replicate (2 - (lg_sl ([.ref t, .int i])).length) Slot.unset).toArray = ls at hl ⊢
  have hl : lv_has ls 2 [(0, .ref t), (1, .int i)] := hl
  have h0 : ¬ i < 0 := fun h => hi (Or.inl h)
  have hij : i < Int32.ofNat n := by
    obtain ⟨k1, k2⟩ := vp_in_iff.mp hi
    rw [Int32.lt_iff_toInt_lt, Int32.toInt_ofNat_of_lt (by omega)]
    exact k2
  refine lv_iload_n hx hb ps_dS_0 rfl (lv_at hl 1 rfl) ?_
  refine lv_aload_n hx hb ps_dS_1 rfl (lv_at hl 0 rfl) ?_
  refine va_tlen hx hb hT hS rfl ps_dS_2 ?_
  refine ps_cv (W.runS (As := [.int i, .int (Int32.ofNat n)]) (rest := []) ⟨hx, hb, hml, hown, hts⟩ (ps_check l b0 a t n f i (Int32.ofNat n) h0 hij) (va_cwS 2 hts ps_gS rfl rfl rfl (by decide +kernel) ⟨Nat.le_of_ble_eq_true rfl, Nat.le_of_ble_eq_true rfl⟩) ⟨ps_blind, fun U hU hW => ⟨rfl, hSt.moved hW.alike hU⟩⟩ rfl rfl hl.1 rfl (lv_room (Nat.le_of_ble_eq_true rfl)) ps_dS_3 ⟨Nat.zero_le _, Nat.zero_le _⟩) ?_
  refine lv_aload_n hx hb ps_dS_6 rfl (lv_at hl 0 rfl) ?_
  refine lv_iload_n hx hb ps_dS_7 rfl (lv_at hl 1 rfl) ?_
  refine va_tb hx hb hT hS hi rfl ps_dS_8 ?_
  refine lv_sipush (v := 255) hx hb ps_dS_9 (by decide) ?_
  refine lv_iand hx hb ps_dS_12 ?_
  refine lv_i2c hx hb ps_dS_13 (sc_c2 _) ?_
  refine W.zret hx hb hr (sc_nar _) (fun t ht _ => ⟨by rw [hf], ht⟩) (fun _ h => by cases h) ps_dS_14
set_option maxHeartbeats 4000000 in
set_option maxRecDepth 100000 in
theorem ps_char (l : Launch) (b0 a t n : Nat) (f : Nat → Int32) (hn : n < 1000) (i : Int32) (hi : vp_in i n) (hf : f i.toNatClampNeg &&& 255 = f i.toNatClampNeg) : Met l ps_yA ps_wA { frames := 3, cells := 0, slots := 0, locals := 64 } (ps_Pc [.ref a, .int i] b0 a t n f) (ps_Qi (f i.toNatClampNeg)) 0 0 (fun _ => False) := by
  refine Met.ofW (cc := prog_20_method_56_code) (maxL := 2) (ret := some .char) (by decide) rfl ?_
  intro p e s m args below meth c s₁ B hml hv
  obtain ⟨rfl, hSt⟩ := hv
  have hSt' := hSt
  obtain ⟨hO, hC, hV, hT, hZ, hF⟩ := hSt'
  have hx := B.exec
  have hb := B.bytes
  have hr := B.returns
  have hts := atoms_spec (ws := ps_wA) B.pre
  have hown : s.vm.findClass "java/lang/String" = some m.cls := findClass_of_methodNamed B.named
  have hlocks := B.notSynchronized
  have hS : va_S (fun q => b0 ≤ q) s.heap s.heap [] := va_S.rf
  have hl := lv_entry ([.ref a, .int i]) (n := 2) (Nat.le_of_ble_eq_true rfl)
  rw [lg_entry_eq]
  generalize (lg_sl ([.ref a, .int i]) ++ List.replicate (2 - (lg_sl ([.ref a, .int i])).length) Slot.unset).toArray = ls at hl ⊢
  have hl : lv_has ls 2 [(0, .ref a), (1, .int i)] := hl
  refine lv_aload_n hx hb ps_dA_0 rfl (lv_at hl 0 rfl) ?_
  refine ps_ci (W.runV (As := []) (rest := []) ⟨hx, hb, hml, hown, hts⟩ (ps_isLatin l b0 a t n f) (cwV 0 hts ps_gA1 rfl rfl rfl (by decide +kernel) ⟨Nat.le_of_ble_eq_true rfl, Nat.le_of_ble_eq_true rfl⟩) ⟨ps_blind, ps_recv hSt rfl, fun U hU hW => ⟨rfl, hSt.moved hW.alike hU⟩⟩ rfl rfl hl.1 rfl (lv_room (Nat.le_of_ble_eq_true rfl)) ps_dA_1 ⟨Nat.zero_le _, Nat.zero_le _⟩) ?_
  refine lv_if_eq (tgt := 16) hx hb ps_dA_4 (by decide) (fun h => absurd h (by decide)) (fun _ => ?_)
  refine lv_aload_n hx hb ps_dA_7 rfl (lv_at hl 0 rfl) ?_
  refine ps_getf hx hb hV hS hown (hts ps_fV (by simp [ps_wA])) ps_dA_8 ?_
  refine lv_iload_n hx hb ps_dA_11 rfl (lv_at hl 1 rfl) ?_
  refine ps_ci (W.runS (As := [.ref t, .int i]) (rest := []) ⟨hx, hb, hml, hown, hts⟩ (ps_latin l b0 a t n f hn i hi hf) (va_cwS 2 hts ps_gA2 rfl rfl rfl (by decide +kernel) ⟨Nat.le_of_ble_eq_true rfl, Nat.le_of_ble_eq_true rfl⟩) ⟨ps_blind, fun U hU hW => ⟨rfl, hSt.moved hW.alike hU⟩⟩ rfl rfl hl.1 rfl (lv_room (Nat.le_of_ble_eq_true rfl)) ps_dA_12 ⟨Nat.zero_le _, Nat.zero_le _⟩) ?_
  exact W.zret hx hb hr (by rw [← hf]; exact sc_nar _) (fun t ht _ => ⟨rfl, ht⟩) (fun _ h => by cases h) ps_dA_15
