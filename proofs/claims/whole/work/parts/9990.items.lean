/-! items: where the cursor goes, on both sides, and what an item does -/
theorem wB_uni {T : Nat → Nat} {t p : Nat} {ws us : List Nat} (h1 : wB T t p ws = true) (h2 : wB T t p us = true) : ws = us := by
  obtain ⟨a1, a2, a3⟩ := of_decide_eq_true h1
  obtain ⟨b1, b2, b3⟩ := of_decide_eq_true h2
  have el : ws.length = us.length := by omega
  refine List.ext_getElem el (fun i c1 c2 => ?_)
  have x := a3 i c1
  have y := b3 i c2
  rw [x] at y
  rw [List.getD_eq_getElem?_getD, List.getD_eq_getElem?_getD, List.getElem?_eq_getElem c1, List.getElem?_eq_getElem c2] at y
  exact y
theorem kd_else {T : Nat → Nat} {t p : Nat} {ws : List Nat} (h : wB T t p ws = true) (hw : ∀ i, i < 7 → ws ≠ ks i) : kd T t p = -1 := kd_no T t p (fun i hi c => hw i hi (wB_uni h c))
theorem kd_roof {T : Nat → Nat} {t p : Nat} (h : wB T t p w_roof = true) : kd T t p = -1 := kd_else h (by decide)
theorem kd_wind {T : Nat → Nat} {t p : Nat} (h : wB T t p w_wind = true) : kd T t p = -1 := kd_else h (by decide)
theorem roof_wind {T : Nat → Nat} {t p : Nat} (h : wB T t p w_roof = true) : ¬ wB T t p w_wind = true := fun c => absurd (wB_uni h c) (by decide)
theorem kd_rng (T : Nat → Nat) (t p : Nat) : kd T t p = -1 ∨ ∃ k, k ≤ 6 ∧ kd T t p = nI k := by
  unfold kd
  split
  · exact Or.inr ⟨0, by omega, rfl⟩
  · split
    · exact Or.inr ⟨1, by omega, rfl⟩
    · split
      · exact Or.inr ⟨2, by omega, rfl⟩
      · split
        · exact Or.inr ⟨3, by omega, rfl⟩
        · split
          · exact Or.inr ⟨4, by omega, rfl⟩
          · split
            · exact Or.inr ⟨5, by omega, rfl⟩
            · split
              · exact Or.inr ⟨6, by omega, rfl⟩
              · exact Or.inl rfl
theorem nd_tf (T : Nat → Nat) (t p : Nat) : nd T t true (p, false) = (tE T t p, false) := rfl
theorem nd_ff (T : Nat → Nat) (t p : Nat) : nd T t false (p, false) = (p, true) := rfl
theorem nm_wr {T : Nat → Nat} {t most : Nat} {q : Nat × Bool} (h : q.2 = true) : nm T t most q = q := nd_wr h
theorem nw_wr {T : Nat → Nat} {t : Nat} {ws : List Nat} {q : Nat × Bool} (h : q.2 = true) : nw T t ws q = q := nd_wr h
theorem hB_wr {T : Nat → Nat} {t : Nat} {ws : List Nat} {q : Nat × Bool} (h : q.2 = true) : hB T t ws q = false := by unfold hB; rw [h]; rfl
theorem ph_wr {T : Nat → Nat} {t most : Nat} {ws : List Nat} {q : Nat × Bool} (h : q.2 = true) : ph T t ws most q = q := ph_no (hB_wr h)
theorem chP_wr {T : Nat → Nat} {t : Nat} {q : Nat × Bool} (h : q.2 = true) : chP T t q = q := by
  have a1 : cA T t q = q := by unfold cA; rw [nw_wr h, nm_wr h, nw_wr h, nm_wr h]
  have a2 : cH T t q = q := by unfold cH; rw [a1, ph_wr h]
  have a3 : cF T t q = q := by unfold cF; rw [a2, ph_wr h]
  unfold chP
  rw [a3]
  unfold cQ
  rw [hB_wr h]
  rfl
theorem wnX_wr {T : Nat → Nat} {t : Nat} {q : Nat × Bool} (h : q.2 = true) : wnX T t q = q := by
  unfold wnX
  rw [nm_wr h, wq_wr h]
theorem wnR_wr {T : Nat → Nat} {t : Nat} {q : Nat × Bool} (h : q.2 = true) : wnR T t q = q := by
  unfold wnR
  rw [nm_wr h, if_neg (fun c => absurd (c.1.symm.trans h) (by decide)), wnX_wr h]
noncomputable def itX (T : Nat → Nat) (t p m : Nat) : Nat × Bool := if wB T t p w_roof = true then rfP T t (tE T t p, false) else if wB T t p w_wind = true then wnX T t (tE T t p, false) else if 0 ≤ kd T t p ∧ m < 8 then chP T t (tE T t p, false) else (p, true)
noncomputable def itR (T : Nat → Nat) (t p m : Nat) : Nat × Bool := if wB T t p w_roof = true then rfP T t (tE T t p, false) else if wB T t p w_wind = true then wnR T t (tE T t p, false) else if 0 ≤ kd T t p ∧ m < 8 then chP T t (tE T t p, false) else (p, true)
noncomputable def itM (T : Nat → Nat) (t p m : Nat) : Nat := if 0 ≤ kd T t p then m + 1 else m
/-- the town behind a chimney's item, q behind its kind -/
noncomputable def ceX (T : Nat → Nat) (t m : Nat) (k : Int32) (q : Nat × Bool) (F : FN) : FN := chX F m k (nI (cOw T t q)) (nI (cCe T t q)) (nI (pv T t w_high (cA T t q) 1)) (nI (pv T t w_fire (cH T t q) 20)) (nI (pv T t w_from (cF T t q) 0)) (nI (cLo T t (cF T t q)))
noncomputable def ceR (T : Nat → Nat) (t m : Nat) (k : Int32) (q : Nat × Bool) (σ : Nat → Int32) : Nat → Int32 := chR σ m k (nI (cOw T t q)) (nI (cCe T t q)) (nI (pv T t w_high (cA T t q) 1)) (nI (pv T t w_fire (cH T t q) 20)) (nI (pv T t w_from (cF T t q) 0)) (nI (cLo T t (cF T t q)))
noncomputable def rfV (T : Nat → Nat) (t : Nat) (q : Nat × Bool) : Nat := nN T t (nw T t w_of (nm T t 35 q)).1
noncomputable def efX (T : Nat → Nat) (t p m : Nat) (F : FN) : FN := if wB T t p w_roof = true then row F 2 (upd (F 2) (nN T t (tE T t p)) (nI (rfV T t (tE T t p, false)))) else if wB T t p w_wind = true then row F 3 (wR T t (nm T t 23 (tE T t p, false)) (nN T t (tE T t p)) (F 3) (wdK T t (nm T t 23 (tE T t p, false)) (nN T t (tE T t p)) + 1)) else ceX T t m (kd T t p) (tE T t p, false) F
noncomputable def efR (T : Nat → Nat) (t p m : Nat) (σ : Nat → Int32) : Nat → Int32 := if wB T t p w_roof = true then upd σ (3 + nN T t (tE T t p)) (nI (rfV T t (tE T t p, false))) else if wB T t p w_wind = true then wR T t (nm T t 23 (tE T t p, false)) (39 + nN T t (tE T t p)) σ (wdK T t (nm T t 23 (tE T t p, false)) (nN T t (tE T t p)) + 1) else ceR T t m (kd T t p) (tE T t p, false) σ
