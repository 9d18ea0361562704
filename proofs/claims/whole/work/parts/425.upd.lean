/-! single updates of a town and of its row -/
theorem upd_ne (f : Nat → Int32) {j k : Nat} (x : Int32) (h : j ≠ k) : upd f k x j = f j := by unfold upd; simp [h]
theorem upd_self (f : Nat → Int32) (k : Nat) (x : Int32) : upd f k x k = x := by unfold upd; simp
theorem CR.sig {f : FN} {i k : Nat} {σ τ : Nat → Int32} (h : CR f i σ k) (h0 : ∀ i, (63 + 7 * k ≤ i ∧ i < 70 + 7 * k) ∨ (125 + 36 * k ≤ i ∧ i < 161 + 36 * k) ∨ (413 + 36 * k ≤ i ∧ i < 449 + 36 * k) ∨ i = 701 + k ∨ i = 709 + k ∨ i = 717 + k → τ i = σ i) : CR f i τ k := by
  obtain ⟨h1, h2, h3, h4, h5, h6⟩ := h
  refine ⟨fun j hj => ?_, fun c hc => ?_, fun c hc => ?_, ?_, ?_, ?_⟩
  · rw [h0 _ (by omega)]; exact h1 j hj
  · rw [h0 _ (by omega)]; exact h2 c hc
  · rw [h0 _ (by omega)]; exact h3 c hc
  · rw [h0 _ (by omega)]; exact h4
  · rw [h0 _ (by omega)]; exact h5
  · rw [h0 _ (by omega)]; exact h6
theorem CZ.sig {k : Nat} {σ τ : Nat → Int32} (h : CZ σ k) (h0 : ∀ i, (125 + 36 * k ≤ i ∧ i < 161 + 36 * k) ∨ (413 + 36 * k ≤ i ∧ i < 449 + 36 * k) ∨ i = 701 + k ∨ i = 709 + k ∨ i = 717 + k → τ i = σ i) : CZ τ k := by
  obtain ⟨h2, h3, h4, h5, h6⟩ := h
  refine ⟨fun c hc => ?_, fun c hc => ?_, ?_, ?_, ?_⟩
  · rw [h0 _ (by omega)]; exact h2 c hc
  · rw [h0 _ (by omega)]; exact h3 c hc
  · rw [h0 _ (by omega)]; exact h4
  · rw [h0 _ (by omega)]; exact h5
  · rw [h0 _ (by omega)]; exact h6
/-- an update outside the chimneys -/
theorem TR.plain {f : FN} {b m x k i : Nat} {σ : Nat → Int32} {v : Int32} (h : TR f b σ m) (hx : (x = b ∧ k = 0 ∧ i = 0) ∨ (x = b ∧ k = 1 ∧ i = 2) ∨ (x = b + 1 ∧ k < 36 ∧ i = 3 + k) ∨ (x = b + 2 ∧ k < 24 ∧ i = 39 + k) ∨ (x = b + 3 ∧ k < 6 ∧ i = 119 + k) ∨ (x = b + 4 ∧ k < 10 ∧ i = 725 + k)) : TR (row f x (upd (f x) k v)) b (upd σ i v) m := by
  obtain ⟨⟨a1, a2, a3, a4, a5⟩, h2, h3, h4, h5, h6, h7⟩ := h
  have hR : ∀ (y j i' : Nat), (y = x ∧ j = k ↔ i' = i) → σ i' = f y j → upd σ i v i' = row f x (upd (f x) k v) y j := by
    intro y j i' hi hs
    by_cases hc : i' = i
    · obtain ⟨rfl, rfl⟩ := hi.mpr hc
      subst hc
      rw [upd_self, row_self, upd_self]
    · rw [upd_ne _ _ hc]
      by_cases hy : y = x
      · subst hy
        rw [row_self, upd_ne _ _ (fun hj => hc (hi.mp ⟨rfl, hj⟩))]
        exact hs
      · rw [row_ne _ _ hy]; exact hs
  have hch : ∀ k', chId b k' ≠ x ∧ chId b k' + 1 ≠ x ∧ chId b k' + 2 ≠ x ∧ chId b k' + 3 ≠ x := by
    intro k'; unfold chId; omega
  refine ⟨⟨hR b 0 0 (by omega) a1, hR b 2 1 (by omega) a2, hR b 1 2 (by omega) a3, ?_, a5⟩, fun c hc => hR (b + 1) c (3 + c) (by omega) (h2 c hc), fun c hc => hR (b + 2) c (39 + c) (by omega) (h3 c hc), fun c hc => hR (b + 3) c (119 + c) (by omega) (h4 c hc), fun c hc => hR (b + 4) c (725 + c) (by omega) (h5 c hc), fun k' hk' => ?_, fun k' h1 h2 => (h7 k' h1 h2).sig (fun j hj => upd_ne _ _ (by omega))⟩
  · by_cases hb : b = x
    · subst hb
      rw [row_self, upd_ne _ _ (by omega)]; exact a4
    · rw [row_ne _ _ hb]; exact a4
  · have hk8 : k' < 8 := by omega
    refine ((h6 k' hk').sig (τ := upd σ i v) (fun j hj => upd_ne _ _ (by omega))).congr (fun j h1 h2 => row_ne _ _ ?_)
    have := hch k'
    omega
/-- an update of a trait -/
theorem TR.trait {f : FN} {b m k j : Nat} {σ : Nat → Int32} {v : Int32} (h : TR f b σ m) (hk : k < m) (hj : j < 7) : TR (row f (chId b k + 1) (upd (f (chId b k + 1)) j v)) b (upd σ (63 + 7 * k + j) v) m := by
  obtain ⟨⟨a1, a2, a3, a4, a5⟩, h2, h3, h4, h5, h6, h7⟩ := h
  have hx : ∀ y, y ≤ b + 5 → y ≠ chId b k + 1 := by intro y hy; unfold chId; omega
  refine ⟨⟨?_, ?_, ?_, ?_, a5⟩, fun c hc => ?_, fun c hc => ?_, fun c hc => ?_, fun c hc => ?_, fun k' hk' => ?_, fun k' h1 h2 => (h7 k' h1 h2).sig (fun i hi => upd_ne _ _ (by omega))⟩
  · rw [upd_ne _ _ (by omega), row_ne _ _ (hx b (by omega))]; exact a1
  · rw [upd_ne _ _ (by omega), row_ne _ _ (hx b (by omega))]; exact a2
  · rw [upd_ne _ _ (by omega), row_ne _ _ (hx b (by omega))]; exact a3
  · rw [row_ne _ _ (hx b (by omega))]; exact a4
  · rw [upd_ne _ _ (by omega), row_ne _ _ (hx _ (by omega))]; exact h2 c hc
  · rw [upd_ne _ _ (by omega), row_ne _ _ (hx _ (by omega))]; exact h3 c hc
  · rw [upd_ne _ _ (by omega), row_ne _ _ (hx _ (by omega))]; exact h4 c hc
  · rw [upd_ne _ _ (by omega), row_ne _ _ (hx _ (by omega))]; exact h5 c hc
  · by_cases e : k' = k
    · subst e
      obtain ⟨c1, c2, c3, c4, c5, c6⟩ := h6 k' hk'
      refine ⟨fun i hi => ?_, fun c hc => ?_, fun c hc => ?_, ?_, ?_, ?_⟩
      · rw [row_self]
        by_cases ei : i = j
        · subst ei; rw [upd_self, upd_self]
        · rw [upd_ne _ _ (by omega), upd_ne _ _ ei]; exact c1 i hi
      · rw [upd_ne _ _ (by omega), row_ne _ _ (by omega)]; exact c2 c hc
      · rw [upd_ne _ _ (by omega), row_ne _ _ (by omega)]; exact c3 c hc
      · rw [upd_ne _ _ (by omega), row_ne _ _ (by omega)]; exact c4
      · rw [upd_ne _ _ (by omega), row_ne _ _ (by omega)]; exact c5
      · rw [upd_ne _ _ (by omega), row_ne _ _ (by omega)]; exact c6
    · refine ((h6 k' hk').sig (τ := upd σ (63 + 7 * k + j) v) (fun i hi => upd_ne _ _ (by omega))).congr (fun i h1 h2 => row_ne _ _ ?_)
      unfold chId at h1 h2 ⊢
      omega
/-- TV of a row that differs where nothing of smoke, hour and books lies -/
theorem TV.sig {σ τ : Nat → Int32} {m : Nat} (h : TV σ m) (hm : m ≤ 8) (h0 : ∀ i, i = 0 ∨ (119 ≤ i ∧ i < 725) → τ i = σ i) (h1 : ∀ c, c < 36 → τ (3 + c) = -1 ∨ ∃ o, o < 6 ∧ τ (3 + c) = nI o) (h2 : ∀ c, c < 24 → ∃ w, w < 5 ∧ τ (39 + c) = nI w) (h3 : ∀ s, s < 10 → τ (725 + s) = -1 ∨ ∃ k, k < m ∧ τ (725 + s) = nI k) (h4 : ∀ k, k < m → ∀ j, j < 7 → ∃ v, v ≤ lim j ∧ τ (63 + 7 * k + j) = nI v) : TV τ m := by
  obtain ⟨⟨hh, a1, a2, A, S, O, T, B, a3, a4⟩, -, -, -, -⟩ := h
  refine ⟨⟨hh, a1, by rw [h0 0 (by omega)]; exact a2, A, S, O, T, B, fun k hk => ?_, fun o ho => ?_⟩, h1, h2, h3, h4⟩
  · obtain ⟨c1, c2, c3, c4, c5, c6, c7⟩ := a3 k hk
    refine ⟨fun c hc => ?_, fun c hc => ?_, ?_, ?_, ?_, c6, c7⟩
    · rw [h0 _ (by omega)]; exact c1 c hc
    · rw [h0 _ (by omega)]; exact c2 c hc
    · rw [h0 _ (by omega)]; exact c3
    · rw [h0 _ (by omega)]; exact c4
    · rw [h0 _ (by omega)]; exact c5
  · rw [h0 _ (by omega)]; exact a4 o ho
/-- a change of the town and of its row alone (and of what is only scribbled) -/
theorem REL.town {f g : FN} {m : Nat} (h : REL f) (h0 : ∀ j, j = 0 ∨ (39 ≤ j ∧ j ≤ 81) ∨ (95 ≤ j ∧ j ≤ 102) ∨ j = 105 ∨ j = 107 ∨ (111 ≤ j ∧ j ≤ 114) → g j = f j) (h1 : g 103 4 = f 103 4 ∧ g 103 12 = f 103 12) (hT : TR g 1 (g 104) m) (hV : TV (g 104) m) : REL g := by
  obtain ⟨-, ⟨b1, b2⟩, b3, s1, s2, s3, s4⟩ := h
  refine ⟨⟨m, hT, hV⟩, ⟨by rw [h0 0 (by omega), h1.1]; exact b1, by rw [h0 0 (by omega)]; exact b2⟩, fun hk => ?_, ?_, ?_, ?_, fun s hs => ?_⟩
  · rw [h0 0 (by omega)] at hk
    obtain ⟨m', c1, c2⟩ := b3 hk
    refine ⟨m', ?_, by rw [h0 105 (by omega)]; exact c2⟩
    rw [h0 105 (by omega)]; exact c1.congr fun j _ hj => h0 j (by omega)
  · rw [h0 81 (by omega), h0 107 (by omega)]; exact s1
  · rw [h0 78 (by omega), h1.2]; exact s2
  · rw [h0 79 (by omega), h0 111 (by omega)]; exact s3
  · rw [h0 112 (by omega), h0 113 (by omega), h0 114 (by omega), h0 (95 + 2 * s) (by omega), h0 (96 + 2 * s) (by omega)]; exact s4 s hs
