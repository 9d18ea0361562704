/-! a chimney's item of the class, both readings -/
theorem X1_readChimney0 (f : FN) {T : Nat → Nat} {t : Nat} {q : Nat × Bool} (h : cuX f T t q.1 q.2) (kd : Int32) (hs : f 77 1 = 0) : ∃ g, D_X1_readChimney [.ref 77, .ref 1, .int kd] (memOf f) = some (.null, memOf g) ∧ (∀ x, x ≠ 77 → x ≠ 78 → g x = f x) ∧ g 77 = upd (f 77) 2 (f 77 2 + 1) ∧ cuX g T t (chP T t q).1 (chP T t q).2 := by
  obtain ⟨ow, ce, hi, fi, fr, lo, g, A1, A2, A3, A4, -⟩ := rdc_half f h kd
  refine ⟨g, A1 g (X1_sure0 g kd ow ce hi fi fr lo ?_), A2, A3, A4⟩
  rw [A3, upd_ne _ _ (by omega)]; exact hs
theorem chX_ne (f : FN) {m j : Nat} (kd ow ce hi fi fr lo : Int32) (h1 : j ≠ 1) (h : ¬ (chId 1 m ≤ j ∧ j ≤ chId 1 m + 3)) : chX f m kd ow ce hi fi fr lo j = f j := by
  unfold chX raiX
  rw [row_ne _ _ (by omega), row_ne _ _ h1, begX_ne _ _ _ _ h]
theorem raiX_congr {f g : FN} {m : Nat} (hm : m < 8) (e : ∀ x, x < 39 → g x = f x) (kd ow ce : Int32) : ∀ x, x < 39 → raiX g m kd ow ce x = raiX f m kd ow ce x := fun x hx => by
  have hc : chId 1 m + 3 < 39 := by unfold chId; omega
  have b : ∀ x, x < 39 → begX g (chId 1 m) kd ow ce x = begX f (chId 1 m) kd ow ce x := fun x hx => by
    unfold begX row
    rw [e _ (show chId 1 m + 1 < 39 by omega), e _ (show chId 1 m + 2 < 39 by omega), e _ (show chId 1 m + 3 < 39 by omega), e _ (show chId 1 m < 39 by omega), e x hx]
  unfold raiX
  by_cases c : x = 1
  · subst c; rw [row_self, row_self, e 1 (by omega)]
  · rw [row_ne _ _ c, row_ne _ _ c, b x hx]
theorem chX_congr {f g : FN} {m : Nat} (hm : m < 8) (e : ∀ x, x < 39 → g x = f x) (kd ow ce hi fi fr lo : Int32) : ∀ x, x < 39 → chX g m kd ow ce hi fi fr lo x = chX f m kd ow ce hi fi fr lo x := fun x hx => by
  have r := raiX_congr hm e kd ow ce
  unfold chX
  by_cases c : x = chId 1 m + 1
  · subst c; rw [row_self, row_self, r _ hx]
  · rw [row_ne _ _ c, row_ne _ _ c, r x hx]
theorem X1_readChimney1 (f : FN) {T : Nat → Nat} {t m : Nat} {q : Nat × Bool} (h : cuX f T t q.1 q.2) (hm : m < 8) (em : f 1 2 = nI m) (kd : Int32) (hs : f 77 1 = 1) (hok : (chP T t q).2 = false) : ∃ g, D_X1_readChimney [.ref 77, .ref 1, .int kd] (memOf f) = some (.null, memOf g) ∧ (∀ x, x < 39 → g x = chX f m kd (nI (cOw T t q)) (nI (cCe T t q)) (nI (pv T t w_high (cA T t q) 1)) (nI (pv T t w_fire (cH T t q) 20)) (nI (pv T t w_from (cF T t q) 0)) (nI (cLo T t (cF T t q))) x) ∧ (∀ x, ¬ x < 39 → x ≠ 77 → x ≠ 78 → g x = f x) ∧ g 77 = upd (f 77) 2 (f 77 2 + 1) ∧ cuX g T t (chP T t q).1 (chP T t q).2 := by
  obtain ⟨ow, ce, hi, fi, fr, lo, g, A1, A2, A3, A4, A5⟩ := rdc_half f h kd
  obtain ⟨rfl, rfl, v3, v4, v5, v6⟩ := A5 hok
  have hc : chId 1 m + 3 < 39 := by unfold chId; omega
  have sg := X1_sure1 g hm (by rw [A2 1 (by omega) (by omega)]; exact em) kd (nI (cOw T t q)) (nI (cCe T t q)) hi fi fr lo (by rw [A3, upd_ne _ _ (by omega)]; exact hs)
  rw [v3, v4, v5, v6] at sg
  have ne : ∀ x, ¬ x < 39 → chX g m kd (nI (cOw T t q)) (nI (cCe T t q)) (nI (pv T t w_high (cA T t q) 1)) (nI (pv T t w_fire (cH T t q) 20)) (nI (pv T t w_from (cF T t q) 0)) (nI (cLo T t (cF T t q))) x = g x := fun x hx => chX_ne g _ _ _ _ _ _ _ (by omega) (by omega)
  refine ⟨_, A1 _ sg, fun x hx => chX_congr hm (fun x hx => A2 x (by omega) (by omega)) _ _ _ _ _ _ _ x hx, fun x h0 h1 h2 => by rw [ne x h0]; exact A2 x h1 h2, by rw [ne 77 (by omega)]; exact A3, ?_⟩
  obtain ⟨c1, c2, c3, c4⟩ := A4
  have r78 := ne 78 (by omega)
  have r79 := ne 79 (by omega)
  exact ⟨c1, by unfold TPX at c2 ⊢; rw [r78, r79]; exact c2, by unfold TKX at c3 ⊢; rw [r78]; exact c3, by rw [r78]; exact c4⟩
