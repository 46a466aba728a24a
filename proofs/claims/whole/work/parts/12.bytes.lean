/-! ARRAYS OF BYTES HOLD BYTES -/
def px_cok (c : px_C) : Prop := ∀ (n : Nat) (f : Nat → Int32), c = .inr (0, n, .inl f) → ∀ j, fits .byte (.int (f j)) = true
def px_Byt (h : px_H) : Prop := ∀ c ∈ h.2, px_cok c
theorem px_Byt.set {h : px_H} (b : px_Byt h) {x r : Nat} {c : px_C} (hc : px_cok c) : px_Byt (x, h.2.set r c) := fun q hq => by
  rcases List.mem_or_eq_of_mem_set hq with hq | hq
  · exact b q hq
  · rw [hq]; exact hc
theorem px_Byt.app {h : px_H} (b : px_Byt h) {x : Nat} {c : px_C} (hc : px_cok c) : px_Byt (x, h.2 ++ [c]) := fun q hq => by
  rcases List.mem_append.mp hq with hq | hq
  · exact b q hq
  · rw [List.mem_singleton.mp hq]; exact hc
theorem px_Byt.at {h : px_H} (b : px_Byt h) {r n : Nat} {f : Nat → Int32} (hr : h.2[r]? = some (.inr (0, n, .inl f))) (j : Nat) : fits .byte (.int (f j)) = true := b _ (List.mem_of_getElem? hr) n f rfl j
theorem px_cok_o {q : Nat × List Value} : px_cok (.inl q) := fun _ _ e => by cases e
theorem px_cok_t {t n : Nat} {a : px_A} (ht : t ≠ 0) : px_cok (.inr (t, n, a)) := fun _ _ e => by cases e; exact absurd rfl ht
theorem px_cok_a {t n : Nat} {a : (Nat → Int64) ⊕ (Nat → Option Nat)} : px_cok (.inr (t, n, .inr a)) := fun _ _ e => by cases e
theorem px_nar_fit (x : Int32) : fits .byte (.int (px_nar 0 x)) = true := by
  have h1 := Int8.minValue_le_toInt x.toInt8
  have h2 := Int8.toInt_le x.toInt8
  have e : (px_nar 0 x).toInt = x.toInt8.toInt := Int8.toInt_toInt32 _
  show (decide (-128 ≤ px_nar 0 x) && decide (px_nar 0 x ≤ 127)) = true
  simp only [Bool.and_eq_true, decide_eq_true_eq, Int32.le_iff_toInt_le, e]
  exact ⟨h1, h2⟩
theorem px_cok_u {t n k : Nat} {x : Int32} {f : Nat → Int32} (hf : px_cok (.inr (t, n, .inl f))) : px_cok (.inr (t, n, .inl (px_up f k (px_nar t x)))) := fun n' f' e j => by
  cases e
  unfold px_up
  split
  · exact px_nar_fit x
  · exact hf n f rfl j
theorem px_to_h {pc pc' : Nat} {L L' : px_L} {h h' : px_H} {o : Option (List Value)} {S' : List Value} (q : px_to pc L h o = some (pc', L', S', h')) : h' = h := by
  cases o with
  | none => cases q
  | some S => cases q; rfl
theorem px_toH_h {pc pc' : Nat} {L L' : px_L} {h' : px_H} {o : Option (List Value × px_H)} {S' : List Value} (q : px_toH pc L o = some (pc', L', S', h')) : o = some (S', h') := by
  cases o with
  | none => cases q
  | some S => cases q; rfl
section BYT
variable {G : px_G} {sx : Nat × (Nat → Int32)} {M : px_M} {pc pc' : Nat} {L L' : px_L} {S S' : List Value} {h h' : px_H}
theorem px_put_byt {idx : Nat} (b : px_Byt h) (e : px_put G M idx S h = some (S', h')) : px_Byt h' := by
  unfold px_put at e
  repeat' (split at e)
  all_goals first | (cases e; done) | (cases e; exact b.set px_cok_o)
theorem px_iast_byt {tags : List Nat} (b : px_Byt h) (e : px_iast tags S h = some (S', h')) : px_Byt h' := by
  unfold px_iast at e
  split at e
  · split at e
    · next hr =>
      split at e
      · cases e
        exact b.set (px_cok_u (b _ (List.mem_of_getElem? hr)))
      · cases e
    · cases e
  · cases e
theorem px_last_byt (b : px_Byt h) (e : px_last S h = some (S', h')) : px_Byt h' := by
  unfold px_last at e
  repeat' (split at e)
  all_goals first | (cases e; done) | (cases e; exact b.set px_cok_a)
theorem px_aast_byt (b : px_Byt h) (e : px_aast S h = some (S', h')) : px_Byt h' := by
  unfold px_aast at e
  repeat' (split at e)
  all_goals first | (cases e; done) | (cases e; exact b.set px_cok_a)
theorem px_newa_byt {o : Option (Nat × px_A)} (ho : ∀ t a n, o = some (t, a) → px_cok (.inr (t, n, a))) (b : px_Byt h) (e : px_newa o S h = some (S', h')) : px_Byt h' := by
  unfold px_newa at e
  split at e
  · split at e
    · cases e
      exact b.app (ho _ _ _ rfl)
    · cases e
  · cases e
theorem px_new_byt {o : Option Nat} (b : px_Byt h) (e : px_new G o S h = some (S', h')) : px_Byt h' := by
  unfold px_new at e
  repeat' (split at e)
  all_goals first | (cases e; done) | (cases e; exact b.app px_cok_o)
theorem px_atag_ok {aty : ArrayType} : ∀ t a n, px_atag aty = some (t, a) → px_cok (.inr (t, n, a)) := by
  intro t a n e
  cases aty <;> simp only [px_atag] at e <;> first | (cases e; done) | skip
  all_goals cases e
  all_goals first | exact px_cok_a | (exact px_cok_t (by decide)) | (intro n' f' e' j; cases e'; rfl)
theorem px_sto_h {i q : Nat} {ok : Value → Bool} (h1 : px_sto q L h i ok S = some (pc', L', S', h')) : h' = h := by
  unfold px_sto at h1
  repeat' (split at h1)
  all_goals first | (cases h1; done) | (cases h1; rfl)
theorem px_sto2_h {i q : Nat} (h1 : px_sto2 q L h i S = some (pc', L', S', h')) : h' = h := by
  unfold px_sto2 at h1
  repeat' (split at h1)
  all_goals first | (cases h1; done) | (cases h1; rfl)
theorem px_jmp_h {off : Int} {b : Bool} {S0 : List Value} (h1 : px_jmp pc off b L S0 h = some (pc', L', S', h')) : h' = h := by
  unfold px_jmp at h1
  split at h1
  · cases h1; rfl
  · cases h1
theorem px_one_byt {i : Instr} (b : px_Byt h) (h1 : px_one G sx M pc L S h i = some (pc', L', S', h')) : px_Byt h' := by
  cases i
  case putfield idx => exact px_put_byt b (px_toH_h h1)
  case iastore => exact px_iast_byt b (px_toH_h h1)
  case bastore => exact px_iast_byt b (px_toH_h h1)
  case lastore => exact px_last_byt b (px_toH_h h1)
  case aastore => exact px_aast_byt b (px_toH_h h1)
  case newarray t => exact px_newa_byt px_atag_ok b (px_toH_h h1)
  case anewarray idx =>
    refine px_newa_byt ?_ b (px_toH_h h1)
    intro t a n e
    cases hk : px_Gk G (px_Mo M) idx with
    | none => rw [hk] at e; cases e
    | some c => rw [hk] at e; cases e; exact px_cok_a
  case new idx => exact px_new_byt b (px_toH_h h1)
  case if_acmp cd off =>
    cases cd <;> simp only [px_one] at h1 <;> (try (split at h1)) <;> first | (rw [px_jmp_h h1]; exact b) | (cases h1; done)
  all_goals first
    | (rw [px_to_h h1]; exact b)
    | (rw [px_sto_h h1]; exact b)
    | (rw [px_sto2_h h1]; exact b)
    | (rw [px_jmp_h h1]; exact b)
    | (simp only [px_one] at h1; cases h1; done)
    | (simp only [px_one] at h1; cases h1; exact b)
    | skip
  all_goals simp only [px_one, px_inc, px_tsw, px_lsw] at h1
  all_goals (repeat' (split at h1))
  all_goals first
    | (cases h1; done)
    | (cases h1; exact b)
    | (rw [px_jmp_h h1]; exact b)
theorem px_cp_byt {s d : Nat} {sp dp n : Int32} (b : px_Byt h) (e : px_cp h s d sp dp n = some h') : px_Byt h' := by
  unfold px_cp at e
  split at e
  · next hs hd =>
    split at e
    · cases e
      refine b.set ?_
      intro n' f' e j
      cases e
      unfold va_cpy
      split
      · exact b.at hs _
      · exact b.at hd _
    · cases e
  · cases e
theorem px_prim_byt {fr w k kd : Nat} (b : px_Byt h) (e : px_prim fr w k kd S h = some (S', h')) : px_Byt h' := by
  unfold px_prim at e
  split at e
  · split at e
    · cases e; exact b
    · cases e
  · split at e
    · obtain ⟨h2, hq, he⟩ := Option.map_eq_some_iff.mp e
      cases he
      exact px_cp_byt b hq
    · cases e
  · split at e
    · cases e; exact b
    · cases e
  · split at e
    · cases e; exact b
    · cases e
  · split at e
    · cases e; exact b
    · cases e
  · cases e
theorem px_thr_byt {k idx : Nat} (b : px_Byt h) (e : px_thr G k M pc S h idx = some h') : px_Byt h' := by
  unfold px_thr at e
  split at e
  · split at e
    · cases e; exact b.app px_cok_o
    · cases e
  · cases e
end BYT
theorem px_run_byt {G : px_G} {sx : Nat × (Nat → Int32)} {n : Nat} : ∀ {k pc : Nat} {L : px_L} {S : List Value} {h h' : px_H} {o : px_O}, px_Byt h → px_run G sx n k pc L S h = some (o, h') → px_Byt h' := by
  induction n with
  | zero => intro k pc L S h h' o _ hr; simp [px_run] at hr
  | succ n ih =>
    intro k pc L S h h' o b hr
    rw [px_run] at hr
    split at hr
    · next M i len hM hi =>
      split at hr
      · split at hr
        · cases hr
        · split at hr
          · split at hr
            · cases hr
            · split at hr
              · cases hr
              · split at hr
                · split at hr
                  · cases hr
                  · next hin => exact ih (ih b hin) hr
                  · next hin =>
                    split at hr
                    · cases hr; exact ih b hin
                    · split at hr
                      · split at hr
                        · cases hr
                        · exact ih (ih b hin) hr
                      · cases hr
                · cases hr
          · split at hr
            · next hp => exact ih (px_prim_byt b hp) hr
            · cases hr
      · split at hr
        · cases hr; exact b
        · split at hr
          · next h1 => exact ih (px_one_byt b h1) hr
          · split at hr
            · obtain ⟨h3, hth, he⟩ := Option.map_eq_some_iff.mp hr
              cases he
              exact px_thr_byt b hth
            · cases hr
    · cases hr
