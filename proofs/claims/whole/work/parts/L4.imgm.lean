/-! AN IMAGE OUT OF ITS BYTES, as both sides hold it -/
def imgM (bb : Nat → Int32) (nl ns : Nat) (pos na nv : Nat → Nat) : aM := ((nl, layB bb), ns, na, fun s => nmF bb (pos s) (na s), nv, fun s j => (bb (pos s + 2 + na s + j)).toNatClampNeg)
set_option maxRecDepth 16384 in
theorem byt_nI {x : Int32} (h : x &&& 255 = x) : x = nI x.toNatClampNeg ∧ x.toNatClampNeg < 256 := by
  have e : x = nI (x.toBitVec.toNat % 256) := by
    have : nI x.toBitVec.toNat = x := by
      apply Int32.toBitVec_inj.mp
      show BitVec.ofNat 32 x.toBitVec.toNat = x.toBitVec
      rw [BitVec.ofNat_toNat, BitVec.setWidth_eq]
    rw [← nI_255, this]; exact h.symm
  have b : x.toBitVec.toNat % 256 < 256 := Nat.mod_lt _ (by decide)
  generalize x.toBitVec.toNat % 256 = y at e b
  subst e
  rw [nI_clamp (by omega)]
  exact ⟨rfl, b⟩
section IMGM
variable {h h' : px_H} {I l nl ns : Nat} {bb v : Nat → Int32} {P pos na nv : Nat → Nat}
set_option maxRecDepth 16384 in
theorem imgM_ok (ok : imgOK bb l nl ns pos na nv) (hb : ∀ k, k < l → bb k &&& 255 = bb k) : imOK (imgM bb nl ns pos na nv) := by
  have hp : ∀ s, s < ns → pos s + 2 + na s + nv s ≤ l := fun s hs => by
    have := img_pos ok (ns - (s + 1)) (s + 1) (by omega)
    rw [(ok.2.2.2.2.2.2.1 s hs).2.2.2] at this; exact this
  obtain ⟨a1, a2, ⟨a3, a9, a10⟩, a4, a5, a6, a7, a8⟩ := ok
  refine ⟨a1, a2, fun s hs => ⟨(a7 s hs).1, ⟨fun j hj => ?_, fun j hj => if_neg (by have hj : na s ≤ j := hj; omega)⟩, fun k hk => ?_⟩, fun s t hst ht => ?_⟩
  · have hj : j < na s := hj
    obtain ⟨c, c1, c2⟩ := a9 s j hs hj
    show 97 ≤ nmF bb (pos s) (na s) j ∧ nmF bb (pos s) (na s) j ≤ 122
    unfold nmF
    rw [if_pos hj, c1, nI_clamp (by omega)]; exact c2
  · have hk : k < nv s := hk
    have := hp s hs
    exact (byt_nI (hb (pos s + 2 + na s + k) (by omega))).2
  · obtain ⟨k, k1, k2⟩ := a10 s t hst ht
    exact ⟨k, k1, k2⟩
set_option maxRecDepth 16384 in
theorem imC_tk2 (ok : imgOK bb l nl ns pos na nv) (hb : ∀ k, k < l → bb k &&& 255 = bb k) (tk : tk2 h h' I nl ns bb P pos na nv) : imC h' I P (imgM bb nl ns pos na nv) := by
  have hp : ∀ s, s < ns → pos s + 2 + na s + nv s ≤ l := fun s hs => by
    have := img_pos ok (ns - (s + 1)) (s + 1) (by omega)
    rw [(ok.2.2.2.2.2.2.1 s hs).2.2.2] at this; exact this
  obtain ⟨-, -, t3, t4, t5⟩ := tk
  refine ⟨t3, t4, fun s hs => ?_⟩
  have hs : s < ns := hs
  have := hp s hs
  obtain ⟨F, G, u1, u2, u3, u4⟩ := t5 s hs
  refine ⟨F, G, u1, fun j hj => ?_, u3, fun j hj => ?_⟩
  · have hj : j < na s := hj
    obtain ⟨c1, c2⟩ := byt_nI (hb (pos s + 1 + j) (by omega))
    show F j &&& 255 = nI (nmF bb (pos s) (na s) j) ∧ nmF bb (pos s) (na s) j < 256
    unfold nmF
    rw [if_pos hj]
    exact ⟨(u2 j hj).trans c1, c2⟩
  · have hj : j < nv s := hj
    obtain ⟨c1, c2⟩ := byt_nI (hb (pos s + 2 + na s + j) (by omega))
    exact ⟨(u4 j hj).trans c1, c2⟩
set_option maxRecDepth 16384 in
theorem imR_mtk (ok : imgOK bb l nl ns pos na nv) (hb : ∀ k, k < l → bb k &&& 255 = bb k) (v1 : v 36 = nI nl) (v2 : v 38 = nI ns) (tm : mtk h h' v nl ns bb pos na nv) : imR h' v (imgM bb nl ns pos na nv) := by
  have hp : ∀ s, s < ns → pos s + 2 + na s + nv s ≤ l := fun s hs => by
    have := img_pos ok (ns - (s + 1)) (s + 1) (by omega)
    rw [(ok.2.2.2.2.2.2.1 s hs).2.2.2] at this; exact this
  obtain ⟨L, NM, NS, VL, VS, ⟨-, -, -, bL, bNM, bNS, bVL, bVS⟩, x1, x2⟩ := tm
  refine ⟨v1, v2, L, NM, NS, VL, VS, bL, bNM, bNS, bVL, bVS, x1, fun s hs => ?_⟩
  have hs : s < ns := hs
  have := hp s hs
  obtain ⟨y1, y2, y3, y4⟩ := x2 s hs
  refine ⟨y1, y2, fun k hk => ?_, fun k hk => ?_⟩
  · have hk : k < na s := hk
    obtain ⟨c1, c2⟩ := byt_nI (hb (pos s + 1 + k) (by omega))
    show NM (8 * s + k) = nI (nmF bb (pos s) (na s) k)
    unfold nmF
    rw [if_pos hk]; exact (y3 k hk).trans c1
  · have hk : k < nv s := hk
    obtain ⟨c1, c2⟩ := byt_nI (hb (pos s + 2 + na s + k) (by omega))
    exact (y4 k hk).trans c1
/-- the image of nothing -/
def imE : aM := ((0, fun _ => 0), 0, fun _ => 0, fun _ _ => 0, fun _ => 0, fun _ _ => 0)
set_option maxRecDepth 16384 in
theorem imE_ok : imOK imE := ⟨Nat.zero_le _, Nat.zero_le _, fun s hs => absurd hs (Nat.not_lt_zero s), fun s t _ ht => absurd ht (Nat.not_lt_zero t)⟩
end IMGM
