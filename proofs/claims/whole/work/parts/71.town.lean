/-! the town as naturals, on both sides -/
theorem ch_ex {α : Type} (d : α) {P : Nat → α → Prop} {n : Nat} (h : ∀ c, c < n → ∃ a, P c a) : ∃ F : Nat → α, ∀ c, c < n → P c (F c) :=
  ⟨fun c => if hc : c < n then Classical.choose (h c hc) else d, fun c hc => by
    simp only [dif_pos hc]; exact Classical.choose_spec (h c hc)⟩
def SP (f : FN) (m : Nat) (TRS : Nat → Nat → Nat) (Q : Nat → SMK) : Prop := ∀ k, k < m → HR (f 104) k (Q k) ∧ HC f (chId 1 k) (Q k) ∧ HTr f (chId 1 k) (TRS k)
def TW (f : FN) (m : Nat) (TRS : Nat → Nat → Nat) (ro : Nat → Option Nat) (wd : Nat → Nat) (Q : Nat → SMK) (bo : Nat → Int) (h : Nat) : Prop := (f 1 0 = nI h ∧ f 104 0 = nI h ∧ h ≤ 9999 ∧ f 1 2 = nI m) ∧ HSt (f 104) m TRS ro wd ∧ SP f m TRS Q ∧ HRo f ro ∧ HWi f wd ∧ (∀ o, o < 6 → f 4 o = iI (bo o) ∧ f 104 (119 + o) = iI (bo o)) ∧ (∀ k, k < m → tot (Q k) = (Q k).2.2.2.2 ∧ (Q k).2.2.2.2 ≤ 203 * h) ∧ ∀ o, o < 6 → bnd (bo o) (csI m (fun k => csI 36 (Q k).2.1))
theorem iI_toInt (x : Int32) : x = iI x.toInt := (Int32.ofInt_toInt x).symm
theorem TW.ex {f : FN} {m : Nat} (hT : TR f 1 (f 104) m) (hV : TV (f 104) m) : ∃ TRS ro wd Q bo h, TW f m TRS ro wd Q bo h := by
  obtain ⟨⟨a1, a2, a3, a4, a5⟩, t2, t3, t4, t5, t6, t7⟩ := hT
  obtain ⟨⟨h, v1, v2, A, S, O, T, B, v3, v4⟩, v5, v6, v7, v8⟩ := hV
  obtain ⟨TRS, hTRS⟩ := ch_ex (fun _ => 0) (P := fun k (tr : Nat → Nat) => ∀ j, j < 7 → tr j ≤ lim j ∧ f 104 (63 + 7 * k + j) = nI (tr j)) (n := m) (fun k hk => ch_ex 0 (P := fun j v => v ≤ lim j ∧ f 104 (63 + 7 * k + j) = nI v) (n := 7) (fun j hj => v8 k hk j hj))
  obtain ⟨ro, hro⟩ := ch_ex none (P := fun c (r : Option Nat) => f 104 (3 + c) = atv r ∧ ∀ o, r = some o → o < 6) (n := 36) (fun c hc => by
    rcases v5 c hc with e | ⟨o, ho, e⟩
    · exact ⟨none, e, fun o h => by cases h⟩
    · exact ⟨some o, e, fun o' h => by cases h; exact ho⟩)
  obtain ⟨wd, hwd⟩ := ch_ex 0 (P := fun c w => f 104 (39 + c) = nI w ∧ w < 5) (n := 24) (fun c hc => by
    obtain ⟨w, hw, e⟩ := v6 c hc
    exact ⟨w, e, hw⟩)
  refine ⟨TRS, ro, wd, fun k => (A k, S k, O k, T k, B k), fun o => (f 104 (119 + o)).toInt, h, ⟨by rw [← a1]; exact v2, v2, v1, a4⟩, ⟨⟨a2.trans a4, a5⟩, fun k hk => ⟨fun j hj => (hTRS k hk j hj).2, fun j hj => (hTRS k hk j hj).1⟩, hro, hwd⟩, fun k hk => ?_, fun c hc => ⟨by rw [← t2 c hc]; exact (hro c hc).1, (hro c hc).2⟩, fun c hc => ⟨by rw [← t3 c hc]; exact (hwd c hc).1, (hwd c hc).2⟩, fun o ho => ⟨by rw [← t4 o ho]; exact iI_toInt _, iI_toInt _⟩, fun k hk => ?_, fun o ho => ?_⟩
  · obtain ⟨c1, c2, c3, c4, c5, c6, c7⟩ := v3 k hk
    obtain ⟨d1, d2, d3, d4, d5, d6⟩ := t6 k hk
    refine ⟨⟨c1, c2, c3, c4, c5⟩, ⟨fun c hc => ?_, fun c hc => ?_, ?_, ?_, ?_⟩, fun j hj => ?_⟩
    · rw [← d2 c hc]; exact c1 c hc
    · rw [← d3 c hc]; exact c2 c hc
    · rw [← d4]; exact c3
    · rw [← d5]; exact c4
    · rw [← d6]; exact c5
    · rw [← d1 j hj]; exact (hTRS k hk j hj).2
  · obtain ⟨c1, c2, c3, c4, c5, c6, c7⟩ := v3 k hk
    exact ⟨c6, c7⟩
  · have := v4 o ho
    unfold bnd
    simp only
    omega
theorem TW.A_le {f : FN} {m : Nat} {TRS : Nat → Nat → Nat} {ro : Nat → Option Nat} {wd : Nat → Nat} {Q : Nat → SMK} {bo : Nat → Int} {h : Nat} (w : TW f m TRS ro wd Q bo h) : ∀ k, k < m → ∀ c, c < 36 → (Q k).1 c ≤ 203 * h := by
  intro k hk c hc
  obtain ⟨-, -, -, -, -, -, e, -⟩ := w
  obtain ⟨e1, e2⟩ := e k hk
  have := csI_at (Q k).1 hc
  unfold tot at e1
  omega
/-- a change of what is only scribbled -/
theorem REL.scr {f g : FN} (h : REL f) (h0 : ∀ j, j < 82 ∨ (95 ≤ j ∧ j ≤ 102) ∨ j = 104 ∨ j = 105 ∨ j = 107 ∨ (111 ≤ j ∧ j ≤ 114) → g j = f j) (h1 : g 103 4 = f 103 4 ∧ g 103 12 = f 103 12) : REL g := by
  obtain ⟨⟨m, hT, hV⟩, -⟩ := id h
  refine h.town (m := m) (fun j hj => h0 j (by omega)) h1 ?_ ?_
  · rw [h0 104 (by omega)]; exact hT.congr (fun j _ hj => h0 j (by omega))
  · rw [h0 104 (by omega)]; exact hV
/-- from the naturals back -/
theorem REL.tw {f g : FN} {m : Nat} {TRS : Nat → Nat → Nat} {ro : Nat → Option Nat} {wd : Nat → Nat} {Q : Nat → SMK} {bo : Nat → Int} {h' : Nat} (h : REL f) (hT : TR f 1 (f 104) m) (hV : TV (f 104) m) (w : TW g m TRS ro wd Q bo h') (h0 : ∀ j, j = 0 ∨ j = 5 ∨ (39 ≤ j ∧ j ≤ 81) ∨ (95 ≤ j ∧ j ≤ 102) ∨ j = 105 ∨ j = 107 ∨ (111 ≤ j ∧ j ≤ 114) → g j = f j) (h1 : g 103 4 = f 103 4 ∧ g 103 12 = f 103 12) (hz : g 1 1 = f 1 1 ∧ g 104 2 = f 104 2) (hs : ∀ s, s < 10 → g 104 (725 + s) = f 104 (725 + s)) (hc : ∀ k, m ≤ k → k < 8 → ∀ y, inCh k y → g 104 y = f 104 y) : REL g := by
  obtain ⟨⟨b1, b2, b3, b4⟩, ⟨⟨s1, s2⟩, s3, s4, s5⟩, sp, ro', wd', bk', tk, bn⟩ := w
  obtain ⟨⟨a1, a2, a3, a4, a5⟩, t2, t3, t4, t5, t6, t7⟩ := hT
  obtain ⟨-, v5, v6, v7, v8⟩ := hV
  refine h.town (m := m) (fun j hj => h0 j (by omega)) h1 ⟨⟨?_, ?_, ?_, b4, a5⟩, fun c hc => ?_, fun c hc => ?_, fun o ho => ?_, fun s hs' => ?_, fun k hk => ?_, fun k hk1 hk2 => ?_⟩ ⟨⟨h', b3, b2, fun k => (Q k).1, fun k => (Q k).2.1, fun k => (Q k).2.2.1, fun k => (Q k).2.2.2.1, fun k => (Q k).2.2.2.2, fun k hk => ?_, fun o ho => ?_⟩, fun c hc => ?_, fun c hc => ?_, fun s hs' => ?_, fun k hk j hj => ?_⟩
  · rw [b1, b2]
  · rw [s1, b4]
  · rw [hz.1, hz.2]; exact a3
  · rw [(s4 c hc).1, (ro' c hc).1]
  · rw [(s5 c hc).1, (wd' c hc).1]
  · rw [(bk' o ho).1, (bk' o ho).2]
  · rw [hs s hs', h0 5 (by omega)]; exact t5 s hs'
  · obtain ⟨⟨r1, r2, r3, r4, r5⟩, ⟨c1, c2, c3, c4, c5⟩, tr⟩ := sp k hk
    have tr2 := (s3 k hk).1
    exact ⟨fun j hj => by rw [tr2 j hj, tr j hj], fun c hc => by rw [r1 c hc, c1 c hc], fun c hc => by rw [r2 c hc, c2 c hc], by rw [r3, c3], by rw [r4, c4], by rw [r5, c5]⟩
  · exact (t7 k hk1 hk2).sig (fun y hy => hc k hk1 hk2 y (by unfold inCh; exact hy))
  · obtain ⟨⟨r1, r2, r3, r4, r5⟩, -⟩ := sp k hk
    exact ⟨r1, r2, r3, r4, r5, (tk k hk).1, (tk k hk).2⟩
  · rw [(bk' o ho).2]
    have e := bn o ho
    have mx : csI m (fun k => csI 36 (Q k).2.1) ≤ 8 * (203 * 9999) := by
      have a := csI_le (n := m) (g := fun k => csI 36 (Q k).2.1) (b := 203 * 9999) (fun k hk => by
        obtain ⟨e1, e2⟩ := tk k hk
        unfold tot at e1
        omega)
      exact Nat.le_trans a (Nat.mul_le_mul_right _ a5)
    unfold bnd at e
    have ei : (iI (bo o)).toInt = bo o := Int32.toInt_ofInt_of_le (by omega) (by omega)
    rw [ei]
    simp only
    omega
  · rcases hr : ro c with _ | o
    · left; rw [(s4 c hc).1, hr]; rfl
    · right; exact ⟨o, (s4 c hc).2 o hr, by rw [(s4 c hc).1, hr]; rfl⟩
  · exact ⟨wd c, (s5 c hc).2, (s5 c hc).1⟩
  · rw [hs s hs']; exact v7 s hs'
  · exact ⟨TRS k j, (s3 k hk).2 j hj, (s3 k hk).1 j hj⟩
