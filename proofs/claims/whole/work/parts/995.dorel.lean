/-! a do loop over memories known by a predicate; its condition may move the memory -/
theorem do_relc {b : DE Bool} {s : SD} (L : Nat → List Value) (I J : Nat → FN → Prop) (R : FN → Prop) (N : Nat) (hN : N < FU) (hs : ∀ i f, i ≤ N → I i f → ∃ g, s (L i) (memOf f) = some (.inl (L (i + 1), memOf g)) ∧ J i g) (hb : ∀ i f, i < N → J i f → ∃ g, b (L (i + 1)) (memOf f) = some (true, memOf g) ∧ I (i + 1) g) (he : ∀ f, J N f → ∃ g, b (L (N + 1)) (memOf f) = some (false, memOf g) ∧ R g) {f : FN} (h0 : I 0 f) : ∃ g, s_do s b FU (L 0) (memOf f) = some (.inl (L (N + 1), memOf g)) ∧ R g := by
  have key : ∀ k i n f, i + k = N → k < n → I i f → ∃ g, s_do s b n (L i) (memOf f) = some (.inl (L (N + 1), memOf g)) ∧ R g := by
    intro k
    induction k with
    | zero =>
      intro i n f h1 h2 h3
      have e : i = N := by omega
      subst e
      obtain ⟨m, rfl⟩ : ∃ m, n = m + 1 := ⟨n - 1, by omega⟩
      obtain ⟨g, a1, a2⟩ := hs i f (Nat.le_refl _) h3
      obtain ⟨g', b1, b2⟩ := he g a2
      exact ⟨g', by simp [s_do, a1, b1], b2⟩
    | succ k ih =>
      intro i n f h1 h2 h3
      obtain ⟨m, rfl⟩ : ∃ m, n = m + 1 := ⟨n - 1, by omega⟩
      obtain ⟨g, a1, a2⟩ := hs i f (by omega) h3
      obtain ⟨g', b1, b2⟩ := hb i g (by omega) a2
      obtain ⟨g2, c1, c2⟩ := ih (i + 1) m g' (by omega) (by omega) b2
      exact ⟨g2, by simp [s_do, a1, b1, c1], c2⟩
  exact key N 0 FU f (by omega) hN h0
/-! winds: the cursor behind k numbers -/
noncomputable def wq (T : Nat → Nat) (t : Nat) (q : Nat × Bool) : Nat → Nat × Bool
  | 0 => q
  | k + 1 => nm T t 4 (wq T t q k)
/-- behind k + 1 numbers the class reads no more -/
def wdStop (T : Nat → Nat) (t : Nat) (q : Nat × Bool) (h k : Nat) : Prop := ¬ (h + (k + 1) < 24 ∧ (wq T t q (k + 1)).2 = false ∧ tK T t (wq T t q (k + 1)).1 = 2)
theorem wd_ex (T : Nat → Nat) (t : Nat) (q : Nat × Bool) (h : Nat) : ∃ K, K ≤ 24 ∧ wdStop T t q h K ∧ ∀ i, i < K → ¬ wdStop T t q h i := by
  rcases first_ex (wdStop T t q h) 24 with a | a
  · exact a
  · exact absurd (fun c => by have := c.1; omega) (a 24 (by omega))
