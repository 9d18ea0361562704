/-! THE RELATION between the class's numbers and the reference's -/
def csI (n : Nat) (g : Nat → Nat) : Nat := match n with
  | 0 => 0
  | n + 1 => csI n g + g n
/-- chimney k of the reference's row is the chimney at cell i -/
def CR (f : FN) (i : Nat) (σ : Nat → Int32) (k : Nat) : Prop := (∀ j, j < 7 → σ (63 + 7 * k + j) = f (i + 1) j) ∧ (∀ c, c < 36 → σ (125 + 36 * k + c) = f (i + 2) c) ∧ (∀ c, c < 36 → σ (413 + 36 * k + c) = f (i + 3) c) ∧ σ (701 + k) = f i 3 ∧ σ (709 + k) = f i 4 ∧ σ (717 + k) = f i 5
def CZ (σ : Nat → Int32) (k : Nat) : Prop := (∀ c, c < 36 → σ (125 + 36 * k + c) = 0) ∧ (∀ c, c < 36 → σ (413 + 36 * k + c) = 0) ∧ σ (701 + k) = 0 ∧ σ (709 + k) = 0 ∧ σ (717 + k) = 0
/-- the town at cell b is the row σ, with m chimneys -/
def TR (f : FN) (b : Nat) (σ : Nat → Int32) (m : Nat) : Prop := (σ 0 = f b 0 ∧ σ 1 = f b 2 ∧ σ 2 = f b 1 ∧ f b 2 = nI m ∧ m ≤ 8) ∧ (∀ c, c < 36 → σ (3 + c) = f (b + 1) c) ∧ (∀ c, c < 24 → σ (39 + c) = f (b + 2) c) ∧ (∀ o, o < 6 → σ (119 + o) = f (b + 3) o) ∧ (∀ s, s < 10 → σ (725 + s) = f (b + 4) s) ∧ (∀ k, k < m → CR f (chId b k) σ k) ∧ ∀ k, m ≤ k → k < 8 → CZ σ k
def lim (j : Nat) : Nat := match j with
  | 0 => 6
  | 1 => 5
  | 2 => 35
  | 3 => 9
  | 4 => 99
  | 5 => 23
  | _ => 24
/-- the numbers of a row are in their bounds: hour h, smoke is conserved, books are bounded by what settled -/
def TV (σ : Nat → Int32) (m : Nat) : Prop := (∃ h, h ≤ 9999 ∧ σ 0 = nI h ∧ ∃ (A S : Nat → Nat → Nat) (O T B : Nat → Nat), (∀ k, k < m → (∀ c, c < 36 → σ (125 + 36 * k + c) = nI (A k c)) ∧ (∀ c, c < 36 → σ (413 + 36 * k + c) = nI (S k c)) ∧ σ (701 + k) = nI (O k) ∧ σ (709 + k) = nI (T k) ∧ σ (717 + k) = nI (B k) ∧ csI 36 (A k) + csI 36 (S k) + O k + T k = B k ∧ B k ≤ 203 * h) ∧ ∀ o, o < 6 → (σ (119 + o)).toInt ≤ (6 * csI m (fun k => csI 36 (S k)) : Nat) ∧ -((6 * csI m (fun k => csI 36 (S k)) : Nat) : Int) ≤ (σ (119 + o)).toInt) ∧ (∀ c, c < 36 → σ (3 + c) = -1 ∨ ∃ o, o < 6 ∧ σ (3 + c) = nI o) ∧ (∀ c, c < 24 → ∃ w, w < 5 ∧ σ (39 + c) = nI w) ∧ (∀ s, s < 10 → σ (725 + s) = -1 ∨ ∃ k, k < m ∧ σ (725 + s) = nI k) ∧ ∀ k, k < m → ∀ j, j < 7 → ∃ v, v ≤ lim j ∧ σ (63 + 7 * k + j) = nI v
/-- what is outside the towns -/
def SR2 (f : FN) : Prop := (∀ j, j < 7 → f 81 j = f 107 j) ∧ (∃ t, t ≤ 120 ∧ f 78 1 = nI t ∧ f 103 12 = nI t) ∧ (∀ i, i < 120 → f 79 i = f 111 i ∧ ∃ v, v < 256 ∧ f 79 i = nI v) ∧ ∀ s, s < 4 → (f (95 + 2 * s) 0 = f 112 s ∧ (f 112 s = 0 ∨ f 112 s = 8 ∨ f 112 s = 16 ∨ f 112 s = 32)) ∧ (∃ n, n ≤ 40 ∧ f (95 + 2 * s) 1 = nI n ∧ f 113 s = nI n ∧ (f 112 s = 0 → n = 0)) ∧ ∀ i, i < 40 → f (96 + 2 * s) i = f 114 (40 * s + i)
def REL (f : FN) : Prop := (∃ m, TR f 1 (f 104) m ∧ TV (f 104) m) ∧ (f 0 2 = f 103 4 ∧ (f 0 2 = 0 ∨ f 0 2 = 1)) ∧ (f 0 2 = 1 → ∃ m, TR f 39 (f 105) m ∧ TV (f 105) m) ∧ SR2 f
theorem CR.congr {f g : FN} {i k : Nat} {σ : Nat → Int32} (h : CR f i σ k) (h0 : ∀ j, i ≤ j → j ≤ i + 3 → g j = f j) : CR g i σ k := by
  unfold CR at h ⊢
  rw [h0 i (by omega) (by omega), h0 (i + 1) (by omega) (by omega), h0 (i + 2) (by omega) (by omega), h0 (i + 3) (by omega) (by omega)]
  exact h
theorem TR.congr {f g : FN} {b m : Nat} {σ : Nat → Int32} (h : TR f b σ m) (h0 : ∀ j, b ≤ j → j ≤ b + 37 → g j = f j) : TR g b σ m := by
  obtain ⟨h1, h2, h3, h4, h5, h6, h7⟩ := h
  have hm := h1.2.2.2.2
  refine ⟨?_, ?_, ?_, ?_, ?_, fun k hk => ?_, h7⟩
  · rw [h0 b (by omega) (by omega)]; exact h1
  · rw [h0 (b + 1) (by omega) (by omega)]; exact h2
  · rw [h0 (b + 2) (by omega) (by omega)]; exact h3
  · rw [h0 (b + 3) (by omega) (by omega)]; exact h4
  · rw [h0 (b + 4) (by omega) (by omega)]; exact h5
  · exact (h6 k hk).congr fun j hj1 hj2 => h0 j (by unfold chId at hj1; omega) (by unfold chId at hj2; omega)
/-- the class answers as the reference does -/
def AGR (DX DR : MDen) (args : List Value) (f : FN) : Prop := ∃ (r : Int32) (f1 f2 : FN), DX (.ref 0 :: args) (memOf f) = some (.int r, memOf f1) ∧ DR (.ref 103 :: args) (memOf f1) = some (.int r, memOf f2) ∧ REL f2
/-- a change of cells that the towns don't hold -/
theorem REL.side {f g : FN} (h : REL f) (h0 : ∀ j, j < 77 → g j = f j) (h1 : ∀ j, 103 ≤ j → j ≤ 105 → g j = f j) (h2 : SR2 g) : REL g := by
  obtain ⟨⟨m, a1, a2⟩, ⟨b1, b2⟩, b3, b4⟩ := h
  have e104 := h1 104 (by omega) (by omega)
  have e105 := h1 105 (by omega) (by omega)
  have e103 := h1 103 (by omega) (by omega)
  have e0 := h0 0 (by omega)
  refine ⟨⟨m, ?_, by rw [e104]; exact a2⟩, ⟨by rw [e0, e103]; exact b1, by rw [e0]; exact b2⟩, fun hk => ?_, h2⟩
  · rw [e104]; exact a1.congr fun j _ hj => h0 j (by omega)
  · rw [e0] at hk
    obtain ⟨m', c1, c2⟩ := b3 hk
    refine ⟨m', ?_, by rw [e105]; exact c2⟩
    rw [e105]; exact c1.congr fun j _ hj => h0 j (by omega)
/-- a finding is counted on both sides -/
def fnd (f : FN) (j : Nat) : FN := row (row f 81 (upd (f 81) j (f 81 j + 1))) 107 (upd (f 107) j (f 107 j + 1))
theorem REL.find {f : FN} (h : REL f) (j : Nat) : REL (fnd f j) := by
  refine h.side (fun i hi => ?_) (fun i h1 h2 => ?_) ?_
  · unfold fnd; rw [row_ne _ _ (by omega), row_ne _ _ (by omega)]
  · unfold fnd; rw [row_ne _ _ (by omega), row_ne _ _ (by omega)]
  · obtain ⟨-, -, -, s1, s2, s3, s4⟩ := h
    have e : ∀ i, i ≠ 81 → i ≠ 107 → fnd f j i = f i := fun i h1 h2 => by unfold fnd; rw [row_ne _ _ h2, row_ne _ _ h1]
    refine ⟨fun i hi => ?_, ?_, ?_, fun s hs => ?_⟩
    · have e1 : fnd f j 81 = upd (f 81) j (f 81 j + 1) := by unfold fnd; rw [row_ne _ _ (by omega), row_self]
      have e2 : fnd f j 107 = upd (f 107) j (f 107 j + 1) := by unfold fnd; rw [row_self]
      rw [e1, e2]
      unfold upd
      by_cases hij : i = j
      · subst hij; simp [s1 i hi]
      · simp [hij, s1 i hi]
    · rw [e 78 (by omega) (by omega), e 103 (by omega) (by omega)]; exact s2
    · rw [e 79 (by omega) (by omega), e 111 (by omega) (by omega)]; exact s3
    · rw [e 112 (by omega) (by omega), e 113 (by omega) (by omega), e 114 (by omega) (by omega), e (95 + 2 * s) (by omega) (by omega), e (96 + 2 * s) (by omega) (by omega)]; exact s4 s hs
