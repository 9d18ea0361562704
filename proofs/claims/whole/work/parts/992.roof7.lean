/-! roof items of the reference -/
theorem X7_needs' (f : FN) {T : Nat → Nat} {t : Nat} {q : Nat × Bool} (h : cuR f T t q.1 q.2) (b : Bool) : ∃ g, D_X7_needs [.ref 103, .int (b2i b)] (memOf f) = some (.null, memOf g) ∧ (∀ x, x ≠ 103 → g x = f x) ∧ (∀ y, ¬ (13 ≤ y ∧ y ≤ 16) → g 103 y = f 103 y) ∧ cuR g T t (nd T t b q).1 (nd T t b q).2 := by
  obtain ⟨g, A1, A2, A3, A4⟩ := X7_needsC f h b
  exact ⟨g, A1, A2, fun y hy => A3 y (by omega) (by omega) (by omega), A4⟩
theorem X7_needsW (f : FN) {T : Nat → Nat} {t : Nat} {q : Nat × Bool} {C : Int64} {ws : List Nat} (h : cuR f T t q.1 q.2) (h0 : ¬ (0 : Int64) = C) (hc : (woJ T t (tS T t q.1) (tE T t q.1) = C) = (wB T t q.1 ws = true)) : ∃ (z : Int64) (g : FN), D_X7_word [.ref 103] (memOf f) = some (.long z, memOf f) ∧ D_X7_needs [.ref 103, .int (b2i (decide (z = C)))] (memOf f) = some (.null, memOf g) ∧ (∀ x, x ≠ 103 → g x = f x) ∧ (∀ y, ¬ (13 ≤ y ∧ y ≤ 16) → g 103 y = f 103 y) ∧ cuR g T t (nw T t ws q).1 (nw T t ws q).2 := by
  have e : ∀ z : Int64, z = (if q.2 then 0 else woJ T t (tS T t q.1) (tE T t q.1)) → nd T t (decide (z = C)) q = nw T t ws q := fun z hz => by
    cases hq : q.2 with
    | true => unfold nw; rw [nd_wr hq, nd_wr hq]
    | false =>
      rw [hq] at hz
      simp only [Bool.false_eq_true, if_false] at hz
      subst hz
      unfold nw
      congr 1
      cases r : wB T t q.1 ws with
      | true => rw [r] at hc; exact decide_eq_true (hc ▸ rfl)
      | false => rw [r] at hc; exact decide_eq_false (fun c => by rw [hc] at c; exact absurd c (by decide))
  obtain ⟨g, A1, A2, A3, A4⟩ := X7_needs' f h (decide ((if q.2 then 0 else woJ T t (tS T t q.1) (tE T t q.1)) = C))
  refine ⟨_, g, X7_wordC f h, A1, A2, A3, ?_⟩
  rw [e _ rfl] at A4
  exact A4
theorem X7_number' (f : FN) {T : Nat → Nat} {t most : Nat} {q : Nat × Bool} (h : cuR f T t q.1 q.2) (hm : most ≤ 99) : ∃ g, D_X7_number [.ref 103, .int 0, .int (nI most)] (memOf f) = some (.null, memOf g) ∧ (∀ x, x ≠ 103 → g x = f x) ∧ (∀ y, ¬ (13 ≤ y ∧ y ≤ 16) → g 103 y = f 103 y) ∧ cuR g T t (nm T t most q).1 (nm T t most q).2 ∧ ((nm T t most q).2 = false → g 103 15 = nI (nN T t q.1)) := X7_numberC f h hm
theorem nm_most {T : Nat → Nat} {t most : Nat} {q : Nat × Bool} (h : (nm T t most q).2 = false) : nN T t q.1 ≤ most := (of_decide_eq_true (nd_ok h).2).2
