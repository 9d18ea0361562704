/-! a loop whose last round goes elsewhere -/
theorem while_fin {b : DE Bool} {s : SD} (L : Nat → List Value) (I : Nat → FN → Prop) (R : FN → Prop) (Lf : List Value) (K : Nat) (hK : K + 1 < FU) (hb : ∀ i f, i ≤ K → I i f → b (L i) (memOf f) = some (true, memOf f)) (hs : ∀ i f, i < K → I i f → ∃ g, s (L i) (memOf f) = some (.inl (L (i + 1), memOf g)) ∧ I (i + 1) g) (hf : ∀ f, I K f → ∃ g, s (L K) (memOf f) = some (.inl (Lf, memOf g)) ∧ R g ∧ b Lf (memOf g) = some (false, memOf g)) {f : FN} (h0 : I 0 f) : ∃ g, s_while b s FU (L 0) (memOf f) = some (.inl (Lf, memOf g)) ∧ R g := by
  have key : ∀ k i n f, i + k = K → k + 1 < n → I i f → ∃ g, s_while b s n (L i) (memOf f) = some (.inl (Lf, memOf g)) ∧ R g := by
    intro k
    induction k with
    | zero =>
      intro i n f h1 h2 h3
      have e : i = K := by omega
      subst e
      obtain ⟨m, rfl⟩ : ∃ m, n = m + 1 + 1 := ⟨n - 2, by omega⟩
      obtain ⟨g, a1, a2, a3⟩ := hf f h3
      exact ⟨g, by rw [while_step (hb i f (Nat.le_refl _) h3) a1, while_end a3], a2⟩
    | succ k ih =>
      intro i n f h1 h2 h3
      obtain ⟨m, rfl⟩ : ∃ m, n = m + 1 := ⟨n - 1, by omega⟩
      obtain ⟨g, a1, a2⟩ := hs i f (by omega) h3
      obtain ⟨g2, c1, c2⟩ := ih (i + 1) m g (by omega) (by omega) a2
      exact ⟨g2, by rw [while_step (hb i f (by omega) h3) a1]; exact c1, c2⟩
  exact key K 0 FU f (by omega) hK h0
noncomputable def wdK (T : Nat → Nat) (t : Nat) (q : Nat × Bool) (h : Nat) : Nat := Classical.choose (wd_ex T t q h)
theorem wdK_ok (T : Nat → Nat) (t : Nat) (q : Nat × Bool) (h : Nat) : wdK T t q h ≤ 24 ∧ wdStop T t q h (wdK T t q h) ∧ ∀ i, i < wdK T t q h → ¬ wdStop T t q h i := Classical.choose_spec (wd_ex T t q h)
theorem wdK_is {T : Nat → Nat} {t : Nat} {q : Nat × Bool} {h K : Nat} (h1 : wdStop T t q h K) (h2 : ∀ i, i < K → ¬ wdStop T t q h i) : K = wdK T t q h := by
  obtain ⟨k1, k2, k3⟩ := wdK_ok T t q h
  rcases Nat.lt_trichotomy K (wdK T t q h) with c | c | c
  · exact absurd h1 (k3 _ c)
  · exact c
  · exact absurd k2 (h2 _ c)
theorem wdK_day {T : Nat → Nat} {t : Nat} {q : Nat × Bool} {h : Nat} (hh : h ≤ 23) : ∀ i, i ≤ wdK T t q h → h + i < 24 ∧ (q.2 = false → (wq T t q i).2 = false ∧ (0 < i → tK T t (wq T t q i).1 = 2)) := fun i hi => by
  obtain ⟨k1, k2, k3⟩ := wdK_ok T t q h
  rcases Nat.eq_zero_or_pos i with r | r
  · subst r; exact ⟨by omega, fun c => ⟨c, fun c => absurd c (by omega)⟩⟩
  · have := Classical.byContradiction fun c => k3 (i - 1) (by omega) c
    have e : i - 1 + 1 = i := by omega
    rw [e] at this
    exact ⟨this.1, fun _ => ⟨this.2.1, fun _ => this.2.2⟩⟩
/-- the cursor of the class behind a wind item, q behind the word -/
noncomputable def wnX (T : Nat → Nat) (t : Nat) (q : Nat × Bool) : Nat × Bool := wq T t (nm T t 23 q) (wdK T t (nm T t 23 q) (nN T t q.1) + 1)
/-- that of the reference: a number past the day's end is wrong -/
noncomputable def wnR (T : Nat → Nat) (t : Nat) (q : Nat × Bool) : Nat × Bool := if (nm T t 23 q).2 = false ∧ (wnX T t q).2 = false ∧ tK T t (wnX T t q).1 = 2 then ((wnX T t q).1, true) else wnX T t q
theorem wq_wr {T : Nat → Nat} {t : Nat} {q : Nat × Bool} (h : q.2 = true) : ∀ n, wq T t q n = q := fun n => by
  induction n with
  | zero => rfl
  | succ n ih => show nm T t 4 (wq T t q n) = q; rw [ih]; exact nd_wr h
theorem wR_735 (T : Nat → Nat) (t : Nat) (q : Nat × Bool) (a : Nat) (r : Nat → Int32) : ∀ k, a + k ≤ 735 → ∀ y, 735 ≤ y → wR T t q a r k y = r y := fun k => by
  induction k with
  | zero => intro _ y _; rfl
  | succ k ih =>
    intro h y hy
    show upd (wR T t q a r k) (a + k) _ y = r y
    rw [upd_ne _ _ (by omega)]
    exact ih (by omega) y hy
theorem wi_cond (f : FN) (c m : Int32) (w : Bool) (h : f 103 16 = b2i w) : WB_X7_windItem_1 [.ref 103, .int c, .int m] (memOf f) = some (decide (m ≠ 0 ∧ w = false), memOf f) := by
  by_cases cm : m = 0
  · simp [WB_X7_windItem_1, m_den, l0, Value.category, s_seq, s_if, s_st, s_ret, s_retz, s_retv, s_skip, s_sc, s_inc, s_call, e_c, e_li, e_lr, e_lj, e_un, e_bin, e_if, e_b, b_not, b_and, b_or, b_of, e_call, a_recv, a_snoc, a_nil, prI, prJ, prR, e_gi, e_gr, e_ai, e_ar, s_as, s_aop, s_pf, s_pfz, s_fop, l_set, l_ok, e_div, e_rem, e_len, s_tab, cm]
  · cases w <;> simp [WB_X7_windItem_1, m_den, l0, Value.category, s_seq, s_if, s_st, s_ret, s_retz, s_retv, s_skip, s_sc, s_inc, s_call, e_c, e_li, e_lr, e_lj, e_un, e_bin, e_if, e_b, b_not, b_and, b_or, b_of, e_call, a_recv, a_snoc, a_nil, prI, prJ, prR, e_gi, e_gr, e_ai, e_ar, s_as, s_aop, s_pf, s_pfz, s_fop, l_set, l_ok, e_div, e_rem, e_len, s_tab, cm, g_103_16, h, b2i]
theorem X7_windLoop (f : FN) {T : Nat → Nat} {t a : Nat} {q : Nat × Bool} (h : cuR f T t q.1 q.2) (hq : q.2 = false) (ha : a ≤ 23) : ∃ (Lf : List Value) (g : FN), W_X7_windItem_1 [.ref 103, .int (nI a), .int 1] (memOf f) = some (.inl (Lf, memOf g)) ∧ (∀ x, x ≠ 103 → x ≠ 104 → g x = f x) ∧ (∀ y, ¬ (13 ≤ y ∧ y ≤ 16) → g 103 y = f 103 y) ∧ (∀ y, 735 ≤ y → g 104 y = f 104 y) ∧ ((wq T t q (wdK T t q a + 1)).2 = false ∧ tK T t (wq T t q (wdK T t q a + 1)).1 = 2 → cuR g T t (wq T t q (wdK T t q a + 1)).1 true) ∧ (¬ ((wq T t q (wdK T t q a + 1)).2 = false ∧ tK T t (wq T t q (wdK T t q a + 1)).1 = 2) → cuR g T t (wq T t q (wdK T t q a + 1)).1 (wq T t q (wdK T t q a + 1)).2 ∧ ((wq T t q (wdK T t q a + 1)).2 = false → g 104 = wR T t q (39 + a) (f 104) (wdK T t q a + 1))) := by
  obtain ⟨k1, k2, k3⟩ := wdK_ok T t q a
  have day := wdK_day (T := T) (t := t) (q := q) ha
  generalize wdK T t q a = K at k1 k2 k3 day
  have w16 : ∀ {g : FN} {p : Nat} {w : Bool}, cuR g T t p w → g 103 16 = b2i w := fun c => c.2.2.2
  have I0 : (∀ x, x ≠ 103 → x ≠ 104 → f x = f x) ∧ (∀ y, ¬ (13 ≤ y ∧ y ≤ 16) → f 103 y = f 103 y) ∧ cuR f T t (wq T t q 0).1 (wq T t q 0).2 ∧ f 104 = wR T t q (39 + a) (f 104) 0 := ⟨fun _ _ _ => rfl, fun _ _ => rfl, h, rfl⟩
  have stp : ∀ (i : Nat) (g : FN), i ≤ K → ((∀ x, x ≠ 103 → x ≠ 104 → g x = f x) ∧ (∀ y, ¬ (13 ≤ y ∧ y ≤ 16) → g 103 y = f 103 y) ∧ cuR g T t (wq T t q i).1 (wq T t q i).2 ∧ g 104 = wR T t q (39 + a) (f 104) i) → ∃ (c m : Int32) (g' : FN), WS_X7_windItem_1 [.ref 103, .int (nI (a + i)), .int 1] (memOf g) = some (.inl ([.ref 103, .int c, .int m], memOf g')) ∧ (∀ x, x ≠ 103 → x ≠ 104 → g' x = f x) ∧ (∀ y, ¬ (13 ≤ y ∧ y ≤ 16) → g' 103 y = f 103 y) ∧ cuR g' T t (wq T t q (i + 1)).1 (wq T t q (i + 1)).2 ∧ ((wq T t q (i + 1)).2 = true → c = nI (a + i) ∧ m = 1 ∧ g' 104 = wR T t q (39 + a) (f 104) i) ∧ ((wq T t q (i + 1)).2 = false → c = nI (a + (i + 1)) ∧ m = b2i (decide (tK T t (wq T t q (i + 1)).1 = 2)) ∧ g' 104 = wR T t q (39 + a) (f 104) (i + 1)) := by
    intro i g hi hI
    obtain ⟨I1, I2, I3, I4⟩ := hI
    obtain ⟨c, m, g', C1, C2, C3, C4, C5, C6⟩ := wi_step g I3 (n := a + i) (day i hi).1
    refine ⟨c, m, g', C1, fun x h1 h2 => by rw [C2 x h1 h2]; exact I1 x h1 h2, fun y hy => by rw [C3 y hy]; exact I2 y hy, C4, fun e => ?_, fun e => ?_⟩
    · obtain ⟨x1, x2, x3⟩ := C5 e
      exact ⟨x1, x2, by rw [x3]; exact I4⟩
    · obtain ⟨x1, x2, x3⟩ := C6 e
      refine ⟨x1, x2, ?_⟩
      rw [x3, I4, show 39 + (a + i) = 39 + a + i by omega]
      rfl
  have ak := (day K (Nat.le_refl _)).1
  have nxt : ∀ (i : Nat) (g : FN), i ≤ K → (wq T t q (i + 1)).2 = false → tK T t (wq T t q (i + 1)).1 = 2 → ((∀ x, x ≠ 103 → x ≠ 104 → g x = f x) ∧ (∀ y, ¬ (13 ≤ y ∧ y ≤ 16) → g 103 y = f 103 y) ∧ cuR g T t (wq T t q i).1 (wq T t q i).2 ∧ g 104 = wR T t q (39 + a) (f 104) i) → ∃ g', WS_X7_windItem_1 [.ref 103, .int (nI (a + i)), .int 1] (memOf g) = some (.inl ([.ref 103, .int (nI (a + (i + 1))), .int 1], memOf g')) ∧ (∀ x, x ≠ 103 → x ≠ 104 → g' x = f x) ∧ (∀ y, ¬ (13 ≤ y ∧ y ≤ 16) → g' 103 y = f 103 y) ∧ cuR g' T t (wq T t q (i + 1)).1 (wq T t q (i + 1)).2 ∧ g' 104 = wR T t q (39 + a) (f 104) (i + 1) := by
    intro i g hi e1 e2 hI
    obtain ⟨c, m, g', C1, C2, C3, C4, -, C6⟩ := stp i g hi hI
    obtain ⟨rfl, rfl, x3⟩ := C6 e1
    rw [decide_eq_true e2] at C1
    exact ⟨g', C1, C2, C3, C4, x3⟩
  have wk : ∀ i, i ≤ K → (wq T t q i).2 = false := fun i hi => ((day i hi).2 hq).1
  have bt : ∀ i (g : FN), i ≤ K → ((∀ x, x ≠ 103 → x ≠ 104 → g x = f x) ∧ (∀ y, ¬ (13 ≤ y ∧ y ≤ 16) → g 103 y = f 103 y) ∧ cuR g T t (wq T t q i).1 (wq T t q i).2 ∧ g 104 = wR T t q (39 + a) (f 104) i) → WB_X7_windItem_1 [.ref 103, .int (nI (a + i)), .int 1] (memOf g) = some (true, memOf g) := fun i g hi hI => by
    have := wi_cond g (nI (a + i)) 1 _ (w16 hI.2.2.1)
    rw [wk i hi] at this
    exact this
  by_cases cw : (wq T t q (K + 1)).2 = true
  · have F := while_fin (b := WB_X7_windItem_1) (s := WS_X7_windItem_1) (fun i => [.ref 103, .int (nI (a + i)), .int 1]) (fun i g => (∀ x, x ≠ 103 → x ≠ 104 → g x = f x) ∧ (∀ y, ¬ (13 ≤ y ∧ y ≤ 16) → g 103 y = f 103 y) ∧ cuR g T t (wq T t q i).1 (wq T t q i).2 ∧ g 104 = wR T t q (39 + a) (f 104) i) (fun g => (∀ x, x ≠ 103 → x ≠ 104 → g x = f x) ∧ (∀ y, ¬ (13 ≤ y ∧ y ≤ 16) → g 103 y = f 103 y) ∧ cuR g T t (wq T t q (K + 1)).1 (wq T t q (K + 1)).2 ∧ g 104 = wR T t q (39 + a) (f 104) K) [.ref 103, .int (nI (a + K)), .int 1] K (by unfold FU; omega) bt (fun i g hi hI => nxt i g (by omega) (wk (i + 1) (by omega)) (((day (i + 1) (by omega)).2 hq).2 (by omega)) hI) (fun g hI => ?_) (f := f) I0
    · obtain ⟨g, F1, F2, F3, F4, F5⟩ := F
      refine ⟨_, g, F1, F2, F3, fun y hy => by rw [F5]; exact wR_735 T t q (39 + a) (f 104) K (by omega) y hy, fun c => absurd (c.1.symm.trans cw) (by decide), fun _ => ⟨F4, fun c => absurd (c.symm.trans cw) (by decide)⟩⟩
    · obtain ⟨c, m, g', C1, C2, C3, C4, C5, -⟩ := stp K g (Nat.le_refl _) hI
      obtain ⟨rfl, rfl, x3⟩ := C5 cw
      refine ⟨g', C1, ⟨C2, C3, C4, x3⟩, ?_⟩
      have := wi_cond g' (nI (a + K)) 1 _ (w16 C4)
      rw [cw] at this
      exact this
  · have cw' : (wq T t q (K + 1)).2 = false := by
      cases r : (wq T t q (K + 1)).2 with
      | false => rfl
      | true => exact absurd r cw
    by_cases ct : tK T t (wq T t q (K + 1)).1 = 2
    · have a24 : a + (K + 1) = 24 := by
        have : ¬ a + (K + 1) < 24 := fun c => k2 ⟨c, cw', ct⟩
        omega
      have F := while_fin (b := WB_X7_windItem_1) (s := WS_X7_windItem_1) (fun i => [.ref 103, .int (nI (a + i)), .int 1]) (fun i g => (∀ x, x ≠ 103 → x ≠ 104 → g x = f x) ∧ (∀ y, ¬ (13 ≤ y ∧ y ≤ 16) → g 103 y = f 103 y) ∧ cuR g T t (wq T t q i).1 (wq T t q i).2 ∧ g 104 = wR T t q (39 + a) (f 104) i) (fun g => (∀ x, x ≠ 103 → x ≠ 104 → g x = f x) ∧ (∀ y, ¬ (13 ≤ y ∧ y ≤ 16) → g 103 y = f 103 y) ∧ cuR g T t (wq T t q (K + 1)).1 true ∧ g 104 = wR T t q (39 + a) (f 104) (K + 1)) [.ref 103, .int (nI 24), .int 1] (K + 1) (by unfold FU; omega) (fun i g hi hI => ?_) (fun i g hi hI => ?_) (fun g hI => ?_) (f := f) I0
      · obtain ⟨g, F1, F2, F3, F4, F5⟩ := F
        exact ⟨_, g, F1, F2, F3, fun y hy => by rw [F5]; exact wR_735 T t q (39 + a) (f 104) (K + 1) (by omega) y hy, fun _ => F4, fun c => absurd ⟨cw', ct⟩ c⟩
      · have := wi_cond g (nI (a + i)) 1 _ (w16 hI.2.2.1)
        by_cases e : i = K + 1
        · rw [e] at this ⊢
          rw [cw'] at this
          exact this
        · rw [wk i (by omega)] at this
          exact this
      · by_cases e : i = K
        · subst e
          exact nxt i g (Nat.le_refl _) cw' ct hI
        · exact nxt i g (by omega) (wk (i + 1) (by omega)) (((day (i + 1) (by omega)).2 hq).2 (by omega)) hI
      · obtain ⟨I1, I2, I3, I4⟩ := hI
        rw [cw'] at I3
        obtain ⟨g', C1, C2, C3, C4⟩ := wi_over g I3
        refine ⟨g', ?_, ⟨fun x h1 h2 => by rw [C2 x h1]; exact I1 x h1 h2, fun y hy => by rw [C3 y hy]; exact I2 y hy, C4, by rw [C2 104 (by omega)]; exact I4⟩, ?_⟩
        · show WS_X7_windItem_1 [.ref 103, .int (nI (a + (K + 1))), .int 1] (memOf g) = _
          rw [a24]
          exact C1
        · exact wi_cond g' (nI 24) 1 _ (w16 C4)
    · have F := while_fin (b := WB_X7_windItem_1) (s := WS_X7_windItem_1) (fun i => [.ref 103, .int (nI (a + i)), .int 1]) (fun i g => (∀ x, x ≠ 103 → x ≠ 104 → g x = f x) ∧ (∀ y, ¬ (13 ≤ y ∧ y ≤ 16) → g 103 y = f 103 y) ∧ cuR g T t (wq T t q i).1 (wq T t q i).2 ∧ g 104 = wR T t q (39 + a) (f 104) i) (fun g => (∀ x, x ≠ 103 → x ≠ 104 → g x = f x) ∧ (∀ y, ¬ (13 ≤ y ∧ y ≤ 16) → g 103 y = f 103 y) ∧ cuR g T t (wq T t q (K + 1)).1 (wq T t q (K + 1)).2 ∧ g 104 = wR T t q (39 + a) (f 104) (K + 1)) [.ref 103, .int (nI (a + (K + 1))), .int 0] K (by unfold FU; omega) bt (fun i g hi hI => nxt i g (by omega) (wk (i + 1) (by omega)) (((day (i + 1) (by omega)).2 hq).2 (by omega)) hI) (fun g hI => ?_) (f := f) I0
      · obtain ⟨g, F1, F2, F3, F4, F5⟩ := F
        exact ⟨_, g, F1, F2, F3, fun y hy => by rw [F5]; exact wR_735 T t q (39 + a) (f 104) (K + 1) (by omega) y hy, fun c => absurd c.2 ct, fun _ => ⟨F4, fun _ => F5⟩⟩
      · obtain ⟨c, m, g', C1, C2, C3, C4, -, C6⟩ := stp K g (Nat.le_refl _) hI
        obtain ⟨rfl, rfl, x3⟩ := C6 cw'
        rw [decide_eq_false ct] at C1
        refine ⟨g', C1, ⟨C2, C3, C4, x3⟩, ?_⟩
        have := wi_cond g' (nI (a + (K + 1))) 0 _ (w16 C4)
        rw [this]
        simp
