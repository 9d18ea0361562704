/-! what an item does keeps the relation of town and row -/
theorem TV.trait {σ : Nat → Int32} {m k j v : Nat} (h : TV σ m) (hm : m ≤ 8) (hk : k < m) (hj : j < 7) (hv : v ≤ lim j) : TV (upd σ (63 + 7 * k + j) (nI v)) m := by
  refine h.sig hm (fun i hi => upd_ne _ _ (by omega)) (fun c hc => by rw [upd_ne _ _ (by omega)]; exact h.2.1 c hc) (fun c hc => by rw [upd_ne _ _ (by omega)]; exact h.2.2.1 c hc) (fun s hs => by rw [upd_ne _ _ (by omega)]; exact h.2.2.2.1 s hs) (fun k' hk' j' hj' => ?_)
  by_cases c : 63 + 7 * k' + j' = 63 + 7 * k + j
  · rw [c, upd_self]
    have : j' = j := by omega
    subst this
    exact ⟨v, hv, rfl⟩
  · rw [upd_ne _ _ c]; exact h.2.2.2.2 k' hk' j' hj'
theorem TV.roof {σ : Nat → Int32} {m c v : Nat} (h : TV σ m) (hm : m ≤ 8) (hc : c < 36) (hv : v < 6) : TV (upd σ (3 + c) (nI v)) m := by
  refine h.sig hm (fun i hi => upd_ne _ _ (by omega)) (fun c' hc' => ?_) (fun c hc => by rw [upd_ne _ _ (by omega)]; exact h.2.2.1 c hc) (fun s hs => by rw [upd_ne _ _ (by omega)]; exact h.2.2.2.1 s hs) (fun k' hk' j' hj' => by rw [upd_ne _ _ (by omega)]; exact h.2.2.2.2 k' hk' j' hj')
  by_cases e : 3 + c' = 3 + c
  · rw [e, upd_self]; exact Or.inr ⟨v, hv, rfl⟩
  · rw [upd_ne _ _ e]; exact h.2.1 c' hc'
theorem TV.wind {σ : Nat → Int32} {m c v : Nat} (h : TV σ m) (hm : m ≤ 8) (hc : c < 24) (hv : v < 5) : TV (upd σ (39 + c) (nI v)) m := by
  refine h.sig hm (fun i hi => upd_ne _ _ (by omega)) (fun c hc => by rw [upd_ne _ _ (by omega)]; exact h.2.1 c hc) (fun c' hc' => ?_) (fun s hs => by rw [upd_ne _ _ (by omega)]; exact h.2.2.2.1 s hs) (fun k' hk' j' hj' => by rw [upd_ne _ _ (by omega)]; exact h.2.2.2.2 k' hk' j' hj')
  by_cases e : 39 + c' = 39 + c
  · rw [e, upd_self]; exact ⟨v, hv, rfl⟩
  · rw [upd_ne _ _ e]; exact h.2.2.1 c' hc'
theorem ef_wind {T : Nat → Nat} {t m a : Nat} {q : Nat × Bool} {F : FN} {σ : Nat → Int32} (hT : TR F 1 σ m) (hV : TV σ m) : ∀ k, a + k ≤ 24 → (wq T t q k).2 = false → TR (row F 3 (wR T t q a (F 3) k)) 1 (wR T t q (39 + a) σ k) m ∧ TV (wR T t q (39 + a) σ k) m := fun k => by
  have hm := hT.1.2.2.2.2
  induction k with
  | zero =>
    intro _ _
    refine ⟨?_, hV⟩
    show TR (row F 3 (F 3)) 1 σ m
    rw [row_same]
    exact hT
  | succ k ih =>
    intro h1 h2
    obtain ⟨i1, i2⟩ := ih (by omega) (nd_ok h2).1
    have v4 := nm_most h2
    have e1 : wR T t q (39 + a) σ (k + 1) = upd (wR T t q (39 + a) σ k) (39 + (a + k)) (nI (nN T t (wq T t q k).1)) := by
      rw [show 39 + (a + k) = 39 + a + k by omega]; rfl
    have e2 : wR T t q a (F 3) (k + 1) = upd (wR T t q a (F 3) k) (a + k) (nI (nN T t (wq T t q k).1)) := rfl
    rw [e1, e2]
    have := i1.plain (x := 3) (k := a + k) (i := 39 + (a + k)) (v := nI (nN T t (wq T t q k).1)) (by omega)
    rw [row_row, row_self] at this
    exact ⟨this, i2.wind hm (by omega) (by omega)⟩
theorem pv_le {T : Nat → Nat} {t most d : Nat} {ws : List Nat} {q : Nat × Bool} (h : (ph T t ws most q).2 = false) (hd : d ≤ most) : pv T t ws q d ≤ most := by
  unfold pv
  cases r : hB T t ws q with
  | false => exact hd
  | true => rw [ph_yes r] at h; exact nm_most h
theorem ef_chim {T : Nat → Nat} {t m k : Nat} {q : Nat × Bool} {F : FN} {σ : Nat → Int32} (hT : TR F 1 σ m) (hV : TV σ m) (h8 : m < 8) (hk : k ≤ 6) (hok : (chP T t q).2 = false) : TR (ceX T t m (nI k) q F) 1 (ceR T t m (nI k) q σ) (m + 1) ∧ TV (ceR T t m (nI k) q σ) (m + 1) := by
  obtain ⟨o1, o2, o3, o4⟩ := chP_ok hok
  have l1 : cOw T t q ≤ 5 := nm_most o4
  have l2 : cCe T t q ≤ 35 := nm_most o3
  have l3 : pv T t w_high (cA T t q) 1 ≤ 9 := pv_le o2 (by omega)
  have l4 : pv T t w_fire (cH T t q) 20 ≤ 99 := pv_le o1 (by omega)
  have l56 : pv T t w_from (cF T t q) 0 ≤ 23 ∧ cLo T t (cF T t q) ≤ 24 := by
    have hq : (cQ T t (cF T t q)).2 = false := hok
    unfold cQ at hq
    unfold cLo
    cases r : hB T t w_from (cF T t q) with
    | false => refine ⟨?_, by simp⟩; unfold pv; rw [r]; simp
    | true =>
      rw [r] at hq
      have b := (nd_ok (nd_ok hq).1).1
      exact ⟨pv_le b (by omega), nm_most hq⟩
  have hc : chId 1 m + 3 < 39 := by unfold chId; omega
  have hc1 : 1 < chId 1 m := by unfold chId; omega
  have hz := hT.2.2.2.2.2.2 m (Nat.le_refl _) h8
  unfold ceX ceR
  generalize cOw T t q = ow at l1 ⊢
  generalize cCe T t q = ce at l2 ⊢
  generalize pv T t w_high (cA T t q) 1 = hi at l3 ⊢
  generalize pv T t w_fire (cH T t q) 20 = fi at l4 ⊢
  generalize pv T t w_from (cF T t q) 0 = fr at l56 ⊢
  generalize cLo T t (cF T t q) = lo at l56 ⊢
  have n1 : TR (row F 104 σ) 1 ((row F 104 σ) 104) m := by
    rw [row_self]
    exact hT.congr (fun j _ hj => row_ne _ _ (by omega))
  have n2 := n1.new h8 (nI k) (nI ow) (nI ce)
  rw [row_self] at n2
  have n3 : TR (raiX F m (nI k) (nI ow) (nI ce)) 1 (newR σ m (nI k) (nI ow) (nI ce)) (m + 1) := n2.congr (fun j _ hj => (raiX_congr h8 (fun x hx => row_ne _ _ (by omega)) _ _ _ j (by omega)).symm)
  have n4 := hV.new hz h8 hk l1 l2
  unfold chX chR
  generalize raiX F m (nI k) (nI ow) (nI ce) = G at n3 ⊢
  generalize newR σ m (nI k) (nI ow) (nI ce) = τ at n3 n4 ⊢
  have a3 := n3.trait (k := m) (j := 3) (v := nI hi) (by omega) (by omega)
  have a4 := a3.trait (k := m) (j := 4) (v := nI fi) (by omega) (by omega)
  rw [row_row, row_self] at a4
  have a5 := a4.trait (k := m) (j := 5) (v := nI fr) (by omega) (by omega)
  rw [row_row, row_self] at a5
  have a6 := a5.trait (k := m) (j := 6) (v := nI lo) (by omega) (by omega)
  rw [row_row, row_self] at a6
  refine ⟨a6, ?_⟩
  exact (((n4.trait (k := m) (j := 3) (by omega) (by omega) (by omega) l3).trait (k := m) (j := 4) (by omega) (by omega) (by omega) l4).trait (k := m) (j := 5) (by omega) (by omega) (by omega) l56.1).trait (k := m) (j := 6) (by omega) (by omega) (by omega) l56.2
theorem ef_TR {T : Nat → Nat} {t p m : Nat} {F : FN} {σ : Nat → Int32} (hT : TR F 1 σ m) (hV : TV σ m) (hok : (itX T t p m).2 = false) : TR (efX T t p m F) 1 (efR T t p m σ) (itM T t p m) ∧ TV (efR T t p m σ) (itM T t p m) := by
  have hm := hT.1.2.2.2.2
  by_cases c1 : wB T t p w_roof = true
  · have hq : (rfP T t (tE T t p, false)).2 = false := by unfold itX at hok; rw [if_pos c1] at hok; exact hok
    have l1 : nN T t (tE T t p) ≤ 35 := nm_most (nd_ok (nd_ok hq).1).1
    have l2 : rfV T t (tE T t p, false) ≤ 5 := nm_most hq
    rw [itM_roof (Or.inl c1)]
    unfold efX efR
    rw [if_pos c1, if_pos c1]
    exact ⟨hT.plain (x := 2) (k := nN T t (tE T t p)) (i := 3 + nN T t (tE T t p)) (by omega), hV.roof hm (by omega) (by omega)⟩
  · by_cases c2 : wB T t p w_wind = true
    · have hq : (wnX T t (tE T t p, false)).2 = false := by unfold itX at hok; rw [if_neg c1, if_pos c2] at hok; exact hok
      have h0 : (nm T t 23 (tE T t p, false)).2 = false := wq_ok hq 0 (by omega)
      have l1 : nN T t (tE T t p) ≤ 23 := nm_most h0
      have day := wdK_day (T := T) (t := t) (q := nm T t 23 (tE T t p, false)) l1 _ (Nat.le_refl _)
      rw [itM_roof (Or.inr c2)]
      unfold efX efR
      rw [if_neg c1, if_neg c1, if_pos c2, if_pos c2]
      exact ef_wind hT hV _ (by omega) hq
    · rcases itX_told hok with (c | c) | ⟨-, -, k0, h8, hq⟩
      · exact absurd c c1
      · exact absurd c c2
      · rw [itM_kd k0]
        unfold efX efR
        rw [if_neg c1, if_neg c1, if_neg c2, if_neg c2]
        rcases kd_rng T t p with e | ⟨k, hk, e⟩
        · rw [e] at k0; exact absurd k0 (by decide)
        · rw [e]; exact ef_chim hT hV h8 hk hq
noncomputable def tσ (T : Nat → Nat) (t m : Nat) (σ : Nat → Int32) : Nat → Nat → Int32
  | 0 => σ
  | i + 1 => efR T t (tq T t m i).1 (tq T t m i).2 (tσ T t m σ i)
theorem tF_TR {T : Nat → Nat} {t m : Nat} {f : FN} {σ : Nat → Int32} (hT : TR f 1 σ m) (hV : TV σ m) : ∀ i, (∀ j, j < i → (tI T t m j).2 = false) → TR (tF T t m f i) 1 (tσ T t m σ i) (tq T t m i).2 ∧ TV (tσ T t m σ i) (tq T t m i).2 := fun i => by
  induction i with
  | zero => intro _; exact ⟨hT, hV⟩
  | succ i ih =>
    intro h
    obtain ⟨a, b⟩ := ih (fun j hj => h j (by omega))
    exact ef_TR a b (h i (by omega))
