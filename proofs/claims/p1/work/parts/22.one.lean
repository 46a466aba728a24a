/-! THE SIMPLE INSTRUCTIONS, ALL OF THEM -/
/-- how long an instruction is (0: a switch) -/
def px_ln : Instr → Nat
  | .bipush _ | .ldc _ | .iload _ | .lload _ | .aload _ | .istore _ | .lstore _ | .astore _ | .newarray _ => 2
  | .sipush _ | .ldc_w _ | .ldc2_w _ | .iinc _ _ | .ifCond _ _ | .if_icmp _ _ | .if_acmp _ _ | .ifnull _ | .ifnonnull _ | .goto _ | .getfield _ | .putfield _ | .new _ | .anewarray _ | .invokestatic _ | .invokevirtual _ | .invokespecial _ => 3
  | .tableswitch _ _ _ _ | .lookupswitch _ _ => 0
  | _ => 1
/-- the heap's instructions, proved elsewhere -/
def px_heapy : Instr → Bool
  | .getfield _ | .putfield _ | .iaload | .baload | .laload | .aaload | .iastore | .bastore | .lastore | .aastore | .arraylength | .newarray _ | .anewarray _ | .new _ => true
  | .ldc _ | .ldc_w _ | .ldc2_w _ => true
  | _ => false
section PX1
variable {p : Program} {l : Launch} {e : Env} {R : Room} {s : State} {m : MethodId} {args : Array Value} {below : List Frame} {meth : Method} {c : Code} {Q : State → Prop}
variable {G : px_G} {sx : Nat × (Nat → Int32)} {M : px_M} {D : va_G} {cl : List vw_C} {cA : Nat → ClassId} {b0 : Nat} {sc : Nat → Nat} {h0 : px_H}
variable {pc pc' : Nat} {L L' : px_L} {S S' : List Value} {h h' : px_H}
theorem px_sto_inv {i : Nat} {ok : Value → Bool} {q : Nat} (h1 : px_sto q L h i ok S = some (pc', L', S', h')) : ∃ v, S = v :: S' ∧ ok v = true ∧ i < L.length ∧ pc' = q ∧ L' = px_st1 L i v ∧ h' = h := by
  cases S with
  | nil => simp [px_sto] at h1
  | cons v S =>
    simp only [px_sto] at h1
    split at h1
    · next hk => cases h1; exact ⟨v, rfl, hk.1, hk.2, rfl, rfl, rfl⟩
    · cases h1
theorem px_sto2_inv {i q : Nat} (h1 : px_sto2 q L h i S = some (pc', L', S', h')) : ∃ x, S = .long x :: S' ∧ i + 1 < L.length ∧ pc' = q ∧ L' = px_st2 L i (.long x) ∧ h' = h := by
  unfold px_sto2 at h1
  split at h1
  · split at h1
    · next hk => cases h1; exact ⟨_, rfl, hk, rfl, rfl, rfl⟩
    · cases h1
  · cases h1
theorem px_acmp_inv (b0 : Nat) (sc : Nat → Nat) {b : Bool} {S0 : List Value} (h : px_acmp S = some (b, S0)) : ∃ rx ry : Option Nat, S.map (px_rv b0 sc) = va_rf ry :: va_rf rx :: S0.map (px_rv b0 sc) ∧ (b = true ↔ rx = ry) := by
  unfold px_acmp at h
  split at h <;> cases h
  · next a c => exact ⟨some (b0 + c), some (b0 + a), rfl, by simp⟩
  · exact ⟨none, none, rfl, by simp⟩
  · next c => exact ⟨some (b0 + c), none, rfl, by simp⟩
  · next c => exact ⟨none, some (b0 + c), rfl, by simp⟩
theorem px_one_simple (hx : p.tables.exec = Jvm.exec) (hb : c.code = px_Mb M) {i : Instr} {len : Nat} (hh : px_heapy i = false) (hd : decode (px_Mb M) pc = .ok (i, len)) (hlen : px_ln i = 0 ∨ len = px_ln i)
    (h1 : px_one G sx M pc L S h i = some (pc', L', S', h')) (k : px_W p l e R s m args below meth c Q D cl cA b0 sc h0 pc' L' S' h') : px_W p l e R s m args below meth c Q D cl cA b0 sc h0 pc L S h := by
  cases i
  case iconst n => rcases hlen with q | rfl; (· cases q); cases h1; exact px_keep k fun H locs cells slots ls hl kk => lv_iconst hx hb hd rfl kk
  case bipush n => rcases hlen with q | rfl; (· cases q); cases h1; exact px_keep k fun H locs cells slots ls hl kk => lv_bipush hx hb hd rfl kk
  case sipush n => rcases hlen with q | rfl; (· cases q); cases h1; exact px_keep k fun H locs cells slots ls hl kk => lv_sipush hx hb hd rfl kk
  case lconst n => rcases hlen with q | rfl; (· cases q); cases h1; exact px_keep k fun H locs cells slots ls hl kk => lv_lconst hx hb hd rfl kk
  case aconst_null => rcases hlen with q | rfl; (· cases q); cases h1; exact px_keep k fun H locs cells slots ls hl kk => lv_null hx hb hd kk
  case iload i => rcases hlen with q | rfl; (· cases q); obtain ⟨h2, rfl, rfl, rfl⟩ := px_to_inv h1; obtain ⟨v, h3, rfl⟩ := Option.map_eq_some_iff.mp h2; exact px_iload hx hb hd h3 k
  case iload_n i => rcases hlen with q | rfl; (· cases q); obtain ⟨h2, rfl, rfl, rfl⟩ := px_to_inv h1; obtain ⟨v, h3, rfl⟩ := Option.map_eq_some_iff.mp h2; exact px_iload_n hx hb hd h3 k
  case lload i => rcases hlen with q | rfl; (· cases q); obtain ⟨h2, rfl, rfl, rfl⟩ := px_to_inv h1; obtain ⟨v, h3, rfl⟩ := Option.map_eq_some_iff.mp h2; exact px_lload hx hb hd h3 k
  case lload_n i => rcases hlen with q | rfl; (· cases q); obtain ⟨h2, rfl, rfl, rfl⟩ := px_to_inv h1; obtain ⟨v, h3, rfl⟩ := Option.map_eq_some_iff.mp h2; exact px_lload_n hx hb hd h3 k
  case aload i => rcases hlen with q | rfl; (· cases q); obtain ⟨h2, rfl, rfl, rfl⟩ := px_to_inv h1; obtain ⟨v, h3, rfl⟩ := Option.map_eq_some_iff.mp h2; exact px_aload hx hb hd h3 k
  case aload_n i => rcases hlen with q | rfl; (· cases q); obtain ⟨h2, rfl, rfl, rfl⟩ := px_to_inv h1; obtain ⟨v, h3, rfl⟩ := Option.map_eq_some_iff.mp h2; exact px_aload_n hx hb hd h3 k
  case istore i => rcases hlen with q | rfl; (· cases q); obtain ⟨v, rfl, h2, h3, rfl, rfl, rfl⟩ := px_sto_inv h1; exact px_istore hx hb hd h2 h3 k
  case istore_n i => rcases hlen with q | rfl; (· cases q); obtain ⟨v, rfl, h2, h3, rfl, rfl, rfl⟩ := px_sto_inv h1; exact px_istore_n hx hb hd h2 h3 k
  case lstore i => rcases hlen with q | rfl; (· cases q); obtain ⟨v, rfl, h2, rfl, rfl, rfl⟩ := px_sto2_inv h1; exact px_lstore hx hb hd h2 k
  case lstore_n i => rcases hlen with q | rfl; (· cases q); obtain ⟨v, rfl, h2, rfl, rfl, rfl⟩ := px_sto2_inv h1; exact px_lstore_n hx hb hd h2 k
  case astore i => rcases hlen with q | rfl; (· cases q); obtain ⟨v, rfl, h2, h3, rfl, rfl, rfl⟩ := px_sto_inv h1; exact px_astore hx hb hd h2 h3 k
  case astore_n i => rcases hlen with q | rfl; (· cases q); obtain ⟨v, rfl, h2, h3, rfl, rfl, rfl⟩ := px_sto_inv h1; exact px_astore_n hx hb hd h2 h3 k
  case iinc i n =>
    rcases hlen with q | rfl; (· cases q)
    simp only [px_one, px_inc] at h1
    split at h1
    · next x hq => cases h1; exact px_iinc hx hb hd hq k
    · cases h1
  case iadd => rcases hlen with q | rfl; (· cases q); obtain ⟨h2, rfl, rfl, rfl⟩ := px_to_inv h1; obtain ⟨x, y, S0, rfl, rfl⟩ := px_ii_inv h2; exact px_keep k fun H locs cells slots ls hl kk => lv_iadd hx hb hd kk
  case isub => rcases hlen with q | rfl; (· cases q); obtain ⟨h2, rfl, rfl, rfl⟩ := px_to_inv h1; obtain ⟨x, y, S0, rfl, rfl⟩ := px_ii_inv h2; exact px_keep k fun H locs cells slots ls hl kk => lv_isub hx hb hd kk
  case imul => rcases hlen with q | rfl; (· cases q); obtain ⟨h2, rfl, rfl, rfl⟩ := px_to_inv h1; obtain ⟨x, y, S0, rfl, rfl⟩ := px_ii_inv h2; exact px_keep k fun H locs cells slots ls hl kk => lv_imul hx hb hd kk
  case iand => rcases hlen with q | rfl; (· cases q); obtain ⟨h2, rfl, rfl, rfl⟩ := px_to_inv h1; obtain ⟨x, y, S0, rfl, rfl⟩ := px_ii_inv h2; exact px_keep k fun H locs cells slots ls hl kk => lv_iand hx hb hd kk
  case ior => rcases hlen with q | rfl; (· cases q); obtain ⟨h2, rfl, rfl, rfl⟩ := px_to_inv h1; obtain ⟨x, y, S0, rfl, rfl⟩ := px_ii_inv h2; exact px_keep k fun H locs cells slots ls hl kk => lv_ior hx hb hd kk
  case ixor => rcases hlen with q | rfl; (· cases q); obtain ⟨h2, rfl, rfl, rfl⟩ := px_to_inv h1; obtain ⟨x, y, S0, rfl, rfl⟩ := px_ii_inv h2; exact px_keep k fun H locs cells slots ls hl kk => lv_ixor hx hb hd kk
  case ishl => rcases hlen with q | rfl; (· cases q); obtain ⟨h2, rfl, rfl, rfl⟩ := px_to_inv h1; obtain ⟨x, y, S0, rfl, rfl⟩ := px_ii_inv h2; exact px_keep k fun H locs cells slots ls hl kk => lv_ishl hx hb hd kk
  case ishr => rcases hlen with q | rfl; (· cases q); obtain ⟨h2, rfl, rfl, rfl⟩ := px_to_inv h1; obtain ⟨x, y, S0, rfl, rfl⟩ := px_ii_inv h2; exact px_keep k fun H locs cells slots ls hl kk => lv_ishr hx hb hd kk
  case iushr => rcases hlen with q | rfl; (· cases q); obtain ⟨h2, rfl, rfl, rfl⟩ := px_to_inv h1; obtain ⟨x, y, S0, rfl, rfl⟩ := px_ii_inv h2; exact px_keep k fun H locs cells slots ls hl kk => lv_iushr hx hb hd rfl kk
  case ladd => rcases hlen with q | rfl; (· cases q); obtain ⟨h2, rfl, rfl, rfl⟩ := px_to_inv h1; obtain ⟨x, y, S0, rfl, rfl⟩ := px_jj_inv h2; exact px_keep k fun H locs cells slots ls hl kk => lv_ladd hx hb hd kk
  case lsub => rcases hlen with q | rfl; (· cases q); obtain ⟨h2, rfl, rfl, rfl⟩ := px_to_inv h1; obtain ⟨x, y, S0, rfl, rfl⟩ := px_jj_inv h2; exact px_keep k fun H locs cells slots ls hl kk => lv_lsub hx hb hd kk
  case lmul => rcases hlen with q | rfl; (· cases q); obtain ⟨h2, rfl, rfl, rfl⟩ := px_to_inv h1; obtain ⟨x, y, S0, rfl, rfl⟩ := px_jj_inv h2; exact px_keep k fun H locs cells slots ls hl kk => lv_lmul hx hb hd kk
  case land => rcases hlen with q | rfl; (· cases q); obtain ⟨h2, rfl, rfl, rfl⟩ := px_to_inv h1; obtain ⟨x, y, S0, rfl, rfl⟩ := px_jj_inv h2; exact px_keep k fun H locs cells slots ls hl kk => lv_land hx hb hd kk
  case lor => rcases hlen with q | rfl; (· cases q); obtain ⟨h2, rfl, rfl, rfl⟩ := px_to_inv h1; obtain ⟨x, y, S0, rfl, rfl⟩ := px_jj_inv h2; exact px_keep k fun H locs cells slots ls hl kk => lv_lor hx hb hd kk
  case lxor => rcases hlen with q | rfl; (· cases q); obtain ⟨h2, rfl, rfl, rfl⟩ := px_to_inv h1; obtain ⟨x, y, S0, rfl, rfl⟩ := px_jj_inv h2; exact px_keep k fun H locs cells slots ls hl kk => lv_lxor hx hb hd kk
  case lshl => rcases hlen with q | rfl; (· cases q); obtain ⟨h2, rfl, rfl, rfl⟩ := px_to_inv h1; obtain ⟨x, y, S0, rfl, rfl⟩ := px_ji_inv h2; exact px_keep k fun H locs cells slots ls hl kk => lv_lshl hx hb hd rfl kk
  case lshr => rcases hlen with q | rfl; (· cases q); obtain ⟨h2, rfl, rfl, rfl⟩ := px_to_inv h1; obtain ⟨x, y, S0, rfl, rfl⟩ := px_ji_inv h2; exact px_keep k fun H locs cells slots ls hl kk => lv_lshr hx hb hd rfl kk
  case lushr => rcases hlen with q | rfl; (· cases q); obtain ⟨h2, rfl, rfl, rfl⟩ := px_to_inv h1; obtain ⟨x, y, S0, rfl, rfl⟩ := px_ji_inv h2; exact px_keep k fun H locs cells slots ls hl kk => lv_lushr hx hb hd rfl kk
  case idiv =>
    rcases hlen with q | rfl; (· cases q)
    simp only [px_one] at h1
    split at h1
    · split at h1
      · cases h1
      · next hq => cases h1; exact px_keep k fun H locs cells slots ls hl kk => lv_idiv hx hb hd hq kk
    · cases h1
  case irem =>
    rcases hlen with q | rfl; (· cases q)
    simp only [px_one] at h1
    split at h1
    · split at h1
      · cases h1
      · next hq => cases h1; exact px_keep k fun H locs cells slots ls hl kk => lv_irem hx hb hd hq kk
    · cases h1
  case ineg => rcases hlen with q | rfl; (· cases q); obtain ⟨h2, rfl, rfl, rfl⟩ := px_to_inv h1; obtain ⟨x, S0, rfl, rfl⟩ := px_i1_inv h2; exact px_keep k fun H locs cells slots ls hl kk => lv_ineg hx hb hd kk
  case i2l => rcases hlen with q | rfl; (· cases q); obtain ⟨h2, rfl, rfl, rfl⟩ := px_to_inv h1; obtain ⟨x, S0, rfl, rfl⟩ := px_i1_inv h2; exact px_keep k fun H locs cells slots ls hl kk => lv_i2l hx hb hd rfl kk
  case i2b => rcases hlen with q | rfl; (· cases q); obtain ⟨h2, rfl, rfl, rfl⟩ := px_to_inv h1; obtain ⟨x, S0, rfl, rfl⟩ := px_i1_inv h2; exact px_keep k fun H locs cells slots ls hl kk => lv_i2b hx hb hd rfl kk
  case i2s => rcases hlen with q | rfl; (· cases q); obtain ⟨h2, rfl, rfl, rfl⟩ := px_to_inv h1; obtain ⟨x, S0, rfl, rfl⟩ := px_i1_inv h2; exact px_keep k fun H locs cells slots ls hl kk => lv_i2s hx hb hd rfl kk
  case i2c => rcases hlen with q | rfl; (· cases q); obtain ⟨h2, rfl, rfl, rfl⟩ := px_to_inv h1; obtain ⟨x, S0, rfl, rfl⟩ := px_i1_inv h2; exact px_keep k fun H locs cells slots ls hl kk => lv_i2c hx hb hd rfl kk
  case l2i => rcases hlen with q | rfl; (· cases q); obtain ⟨h2, rfl, rfl, rfl⟩ := px_to_inv h1; obtain ⟨x, S0, rfl, rfl⟩ := px_j1_inv h2; exact px_keep k fun H locs cells slots ls hl kk => lv_l2i hx hb hd rfl kk
  case lcmp =>
    rcases hlen with q | rfl; (· cases q)
    simp only [px_one] at h1
    split at h1
    · cases h1; exact px_keep k fun H locs cells slots ls hl kk => W.lcmp hx hb hd kk
    · cases h1
  case dup =>
    rcases hlen with q | rfl; (· cases q)
    obtain ⟨h2, rfl, rfl, rfl⟩ := px_to_inv h1
    unfold px_dup at h2
    split at h2
    · split at h2
      · next hq => cases h2; exact px_keep k fun H locs cells slots ls hl kk => lv_dup hx hb hd ((px_rv_cat b0 sc _).trans hq) kk
      · cases h2
    · cases h2
  case pop =>
    rcases hlen with q | rfl; (· cases q)
    obtain ⟨h2, rfl, rfl, rfl⟩ := px_to_inv h1
    unfold px_pop at h2
    split at h2
    · split at h2
      · next hq => cases h2; exact px_keep k fun H locs cells slots ls hl kk => lv_pop hx hb hd ((px_rv_cat b0 sc _).trans hq) kk
      · cases h2
    · cases h2
  case dup_x1 =>
    rcases hlen with q | rfl; (· cases q)
    obtain ⟨h2, rfl, rfl, rfl⟩ := px_to_inv h1
    unfold px_dup_x1 at h2
    split at h2
    · split at h2
      · next hq => cases h2; exact px_keep k fun H locs cells slots ls hl kk => lv_dup_x1 hx hb hd ((px_rv_cat b0 sc _).trans hq.1) ((px_rv_cat b0 sc _).trans hq.2) kk
      · cases h2
    · cases h2
  case dup_x2 =>
    rcases hlen with q | rfl; (· cases q)
    obtain ⟨h2, rfl, rfl, rfl⟩ := px_to_inv h1
    unfold px_dup_x2 at h2
    split at h2
    · split at h2
      · next hq => cases h2; exact px_keep k fun H locs cells slots ls hl kk => lv_dup_x2 hx hb hd ((px_rv_cat b0 sc _).trans hq.1) ((px_rv_cat b0 sc _).trans hq.2.1) ((px_rv_cat b0 sc _).trans hq.2.2) kk
      · cases h2
    · cases h2
  case dup2 =>
    rcases hlen with q | rfl; (· cases q)
    obtain ⟨h2, rfl, rfl, rfl⟩ := px_to_inv h1
    unfold px_dup2 at h2
    split at h2
    · next a S0 =>
      split at h2
      · next hq => cases h2; exact px_keep k fun H locs cells slots ls hl kk => lv_dup2_2 hx hb hd ((px_rv_cat b0 sc _).trans hq) kk
      · next hq =>
        have hq1 : a.category = 1 := (lv_cat a).resolve_right hq
        split at h2
        · split at h2
          · next hr => cases h2; exact px_keep k fun H locs cells slots ls hl kk => lv_dup2_11 hx hb hd ((px_rv_cat b0 sc _).trans hq1) ((px_rv_cat b0 sc _).trans hr) kk
          · cases h2
        · cases h2
    · cases h2
  case pop2 =>
    rcases hlen with q | rfl; (· cases q)
    obtain ⟨h2, rfl, rfl, rfl⟩ := px_to_inv h1
    unfold px_pop2 at h2
    split at h2
    · next a S0 =>
      split at h2
      · next hq => cases h2; exact px_keep k fun H locs cells slots ls hl kk => lv_pop2_2 hx hb hd ((px_rv_cat b0 sc _).trans hq) kk
      · next hq =>
        have hq1 : a.category = 1 := (lv_cat a).resolve_right hq
        split at h2
        · split at h2
          · next hr => cases h2; exact px_keep k fun H locs cells slots ls hl kk => lv_pop2_11 hx hb hd ((px_rv_cat b0 sc _).trans hq1) ((px_rv_cat b0 sc _).trans hr) kk
          · cases h2
        · cases h2
    · cases h2
  case ifCond cd off =>
    rcases hlen with q | rfl; (· cases q)
    simp only [px_one] at h1
    split at h1
    · exact px_if hx hb hd h1 k
    · cases h1
  case if_icmp cd off =>
    rcases hlen with q | rfl; (· cases q)
    simp only [px_one] at h1
    split at h1
    · exact px_icmp hx hb hd h1 k
    · cases h1
  case goto off =>
    rcases hlen with q | rfl; (· cases q)
    obtain ⟨ht, rfl, rfl, rfl, hc⟩ := px_jmp_inv h1
    rcases hc with ⟨-, rfl⟩ | ⟨hc, -⟩
    · exact px_keep k fun H locs cells slots ls hl kk => lv_goto hx hb hd (px_tgt ht) kk
    · cases hc
  case ifnull off =>
    rcases hlen with q | rfl; (· cases q)
    simp only [px_one, px_null] at h1
    split at h1
    · next b S0 hq =>
      obtain ⟨ht, rfl, rfl, rfl, hc⟩ := px_jmp_inv h1
      split at hq <;> cases hq
      · rcases hc with ⟨hc, -⟩ | ⟨-, rfl⟩; (· cases hc); exact px_keep k fun H locs cells slots ls hl kk => lv_ifnull hx hb hd kk
      · rcases hc with ⟨hc, -⟩ | ⟨-, rfl⟩; (· cases hc); exact px_keep k fun H locs cells slots ls hl kk => lv_ifnull hx hb hd kk
      · rcases hc with ⟨-, rfl⟩ | ⟨hc, -⟩; (· exact px_keep k fun H locs cells slots ls hl kk => lv_ifnullN hx hb hd (px_tgt ht) kk); cases hc
    · cases h1
  case ifnonnull off =>
    rcases hlen with q | rfl; (· cases q)
    simp only [px_one, px_null] at h1
    split at h1
    · next b S0 hq =>
      obtain ⟨ht, rfl, rfl, rfl, hc⟩ := px_jmp_inv h1
      split at hq <;> cases hq
      · rcases hc with ⟨-, rfl⟩ | ⟨hc, -⟩; (· exact px_keep k fun H locs cells slots ls hl kk => lv_ifnonnull hx hb hd (px_tgt ht) kk); cases hc
      · rcases hc with ⟨-, rfl⟩ | ⟨hc, -⟩; (· exact px_keep k fun H locs cells slots ls hl kk => lv_ifnonnull hx hb hd (px_tgt ht) kk); cases hc
      · rcases hc with ⟨hc, -⟩ | ⟨-, rfl⟩; (· cases hc); exact px_keep k fun H locs cells slots ls hl kk => lv_ifnonnullN hx hb hd kk
    · cases h1
  case if_acmp cd off =>
    rcases hlen with q | rfl; (· cases q)
    cases cd
    · simp only [px_one] at h1
      split at h1
      · next b S0 hq =>
        obtain ⟨ht, rfl, rfl, rfl, hc⟩ := px_jmp_inv h1
        obtain ⟨rx, ry, hS, hbq⟩ := px_acmp_inv b0 sc hq
        refine px_keep k fun H locs cells slots ls hl kk => ?_
        rw [hS]
        rcases hc with ⟨hc, rfl⟩ | ⟨hc, rfl⟩
        · exact lv_acmp_eq hx hb hd (px_tgt ht) (fun _ => kk) (fun q => absurd (hbq.mp hc) q)
        · exact lv_acmp_eq hx hb hd (px_tgt ht) (fun q => absurd (hbq.mpr q) (by rw [hc]; decide)) (fun _ => kk)
      · cases h1
    · simp only [px_one] at h1
      split at h1
      · next b S0 hq =>
        obtain ⟨ht, rfl, rfl, rfl, hc⟩ := px_jmp_inv h1
        obtain ⟨rx, ry, hS, hbq⟩ := px_acmp_inv b0 sc hq
        refine px_keep k fun H locs cells slots ls hl kk => ?_
        rw [hS]
        rcases hc with ⟨hc, rfl⟩ | ⟨hc, rfl⟩
        · exact lv_acmp_ne hx hb hd (px_tgt ht) (fun _ => kk) (fun q => absurd (hbq.mpr q) (by simp at hc; rw [hc]; decide))
        · exact lv_acmp_ne hx hb hd (px_tgt ht) (fun q => absurd (hbq.mp (by simpa using hc)) q) (fun _ => kk)
      · cases h1
  case tableswitch d lo hi offs =>
    simp only [px_one, px_tsw] at h1
    split at h1
    · split at h1
      · next hq =>
        split at h1
        · next ht => cases h1; exact px_keep k fun H locs cells slots ls hl kk => lv_tableOut hx hb hd hq (px_tgt ht) kk
        · cases h1
      · next hq =>
        split at h1
        · next o ho =>
          split at h1
          · next ht => cases h1; exact px_keep k fun H locs cells slots ls hl kk => lv_tableIn hx hb hd (fun q => hq (Or.inl q)) (fun q => hq (Or.inr q)) ho (px_tgt ht) kk
          · cases h1
        · cases h1
    · cases h1
  case lookupswitch d ps =>
    simp only [px_one, px_lsw] at h1
    split at h1
    · split at h1
      · next hq => cases h1; exact px_keep k fun H locs cells slots ls hl kk => lv_lookup hx hb hd hq.1 rfl (px_tgt hq.2) kk
      · cases h1
    · cases h1
  all_goals first | (simp [px_one] at h1; done) | (simp [px_heapy] at hh; done)
end PX1
