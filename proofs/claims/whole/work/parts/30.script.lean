/-! the law's script: an int array outside the world, at the cell SPB + 400 -/
def px_law (Lx : Nat) (xs : Nat → Int32) : MX → Prop := fun X => va_X (k_ad (x_K X) (SPB + 400)) Lx xs (x_s X) (x_s X).heap ∧ k_ad (x_K X) (SPB + 400) < (x_s X).heap.size ∧ ¬ k_A (x_K X) (k_ad (x_K X) (SPB + 400))
abbrev C_law (Lx : Nat) (xs : Nat → Int32) : CX := (cL_law, RL, 4, 14, 534, "law", some .boolean, px_law Lx xs)
theorem XOK.px {C : CX} {X : MX} (h : XOK C X) : c_px C X := h.2.2.2.2.2.2.2.2.2.2.2.2.2
def e_scl (Lx : Nat) (r : DE Nat) : DE Int32 := fun L M => (r L M).bind fun p => if p.1 = SPB + 400 then some (Int32.ofNat Lx, p.2) else none
def e_scr (Lx : Nat) (xs : Nat → Int32) (r : DE Nat) (ix : DE Int32) : DE Int32 := fun L M => (r L M).bind fun p => (ix L p.2).bind fun q => if p.1 = SPB + 400 ∧ 0 ≤ q.1 ∧ q.1.toNatClampNeg < Lx then some (xs q.1.toNatClampNeg, q.2) else none
theorem ec_scl {Lx : Nat} {xs : Nat → Int32} {k pc p1 : Nat} {r : DE Nat} (hr : EC (C_law Lx xs) Value.ref k pc p1 r) (hd : decode cL_law p1 = .ok (.arraylength, 1)) : EC (C_law Lx xs) Value.int k pc (p1 + 1) (e_scl Lx r) := by
  intro L M v M' he
  obtain ⟨⟨id, M1⟩, h1, h2⟩ := bind_some he
  obtain ⟨g, w⟩ := hr L M id _ h1
  simp only at h2
  by_cases hc : id = SPB + 400
  · rw [if_pos hc] at h2
    cases h2
    subst hc
    refine ⟨g, fun X hX st hk hf ww => w X hX st hk hf (fun hm ls H locs hl hP hS => ?_)⟩
    have hp : px_law Lx xs X := hX.px
    exact va_slen hX.1 hX.2.1 hp.1 hp.2.1 hp.2.2 hS hd (ww hm ls H locs hl hP hS)
  · rw [if_neg hc] at h2; cases h2
theorem ec_scr {Lx : Nat} {xs : Nat → Int32} {k pc p1 p2 : Nat} {r : DE Nat} {ix : DE Int32} (hr : EC (C_law Lx xs) Value.ref k pc p1 r) (hi : EC (C_law Lx xs) Value.int (1 + k) p1 p2 ix) (hd : decode cL_law p2 = .ok (.iaload, 1)) : EC (C_law Lx xs) Value.int k pc (p2 + 1) (e_scr Lx xs r ix) := by
  intro L M v M' he
  obtain ⟨⟨id, M1⟩, h1, h2⟩ := bind_some he
  obtain ⟨⟨i, M2⟩, h3, h4⟩ := bind_some h2
  obtain ⟨g1, w1⟩ := hr L M id _ h1
  obtain ⟨g2, w2⟩ := hi L M1 i _ h3
  simp only at h4
  by_cases hc : id = SPB + 400 ∧ 0 ≤ i ∧ i.toNatClampNeg < Lx
  · rw [if_pos hc] at h4
    obtain ⟨rfl, c2, c3⟩ := hc
    cases h4
    refine ⟨g1.tr g2, fun X hX st hk hf w => w1 X hX st hk (g2.tr hf) (w2 X hX (.ref _ :: st) (by rw [csum_cons]; show 1 + csum st ≤ 1 + k; omega) hf (fun hm ls H locs hl hP hS => ?_))⟩
    have hp : px_law Lx xs X := hX.px
    exact va_sld hX.1 hX.2.1 hp.1 hp.2.1 hp.2.2 hS (vpi_of c2 c3) hd (w hm ls H locs hl hP hS)
  · rw [if_neg hc] at h4; cases h4
