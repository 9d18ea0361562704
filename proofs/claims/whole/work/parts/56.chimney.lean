/-! chimney: a new chimney on both sides -/
theorem wrt0 (f : FN) {i : Nat} (h : isCh i) (x : Int32) : gm_wr (memOf f) (i + 1) 0 x = some (memOf (row f (i + 1) (upd (f (i + 1)) 0 x))) := wrt f h (j := 0) (by omega) x
theorem wrt1 (f : FN) {i : Nat} (h : isCh i) (x : Int32) : gm_wr (memOf f) (i + 1) 1 x = some (memOf (row f (i + 1) (upd (f (i + 1)) 1 x))) := wrt f h (j := 1) (by omega) x
theorem wrt2 (f : FN) {i : Nat} (h : isCh i) (x : Int32) : gm_wr (memOf f) (i + 1) 2 x = some (memOf (row f (i + 1) (upd (f (i + 1)) 2 x))) := wrt f h (j := 2) (by omega) x
theorem wrt3 (f : FN) {i : Nat} (h : isCh i) (x : Int32) : gm_wr (memOf f) (i + 1) 3 x = some (memOf (row f (i + 1) (upd (f (i + 1)) 3 x))) := wrt f h (j := 3) (by omega) x
theorem wrt4 (f : FN) {i : Nat} (h : isCh i) (x : Int32) : gm_wr (memOf f) (i + 1) 4 x = some (memOf (row f (i + 1) (upd (f (i + 1)) 4 x))) := wrt f h (j := 4) (by omega) x
theorem wrt5 (f : FN) {i : Nat} (h : isCh i) (x : Int32) : gm_wr (memOf f) (i + 1) 5 x = some (memOf (row f (i + 1) (upd (f (i + 1)) 5 x))) := wrt f h (j := 5) (by omega) x
theorem wrt6 (f : FN) {i : Nat} (h : isCh i) (x : Int32) : gm_wr (memOf f) (i + 1) 6 x = some (memOf (row f (i + 1) (upd (f (i + 1)) 6 x))) := wrt f h (j := 6) (by omega) x
theorem X7_at0 (k : Nat) (M : GM) : D_X7_at [.int (nI k), .int 0] M = some (.int (nI (63 + 7 * k)), M) := X7_at k 0 M
theorem X7_at1 (k : Nat) (M : GM) : D_X7_at [.int (nI k), .int 1] M = some (.int (nI (63 + 7 * k + 1)), M) := X7_at k 1 M
theorem X7_at2 (k : Nat) (M : GM) : D_X7_at [.int (nI k), .int 2] M = some (.int (nI (63 + 7 * k + 2)), M) := X7_at k 2 M
theorem X7_at3 (k : Nat) (M : GM) : D_X7_at [.int (nI k), .int 3] M = some (.int (nI (63 + 7 * k + 3)), M) := X7_at k 3 M
theorem X7_at4 (k : Nat) (M : GM) : D_X7_at [.int (nI k), .int 4] M = some (.int (nI (63 + 7 * k + 4)), M) := X7_at k 4 M
theorem X7_at5 (k : Nat) (M : GM) : D_X7_at [.int (nI k), .int 5] M = some (.int (nI (63 + 7 * k + 5)), M) := X7_at k 5 M
theorem X7_at6 (k : Nat) (M : GM) : D_X7_at [.int (nI k), .int 6] M = some (.int (nI (63 + 7 * k + 6)), M) := X7_at k 6 M
def begX (f : FN) (i : Nat) (kd ow ce : Int32) : FN := row (row (row (row f (i + 1) (upd (upd (upd (upd (upd (upd (upd (f (i + 1)) 0 kd) 1 ow) 2 ce) 3 1) 4 20) 5 0) 6 24)) (i + 2) (fil 36 0 (f (i + 2)))) (i + 3) (fil 36 0 (f (i + 3)))) i (upd (upd (upd (f i) 3 0) 4 0) 5 0)
theorem X0_begin (f : FN) {i : Nat} (h : isCh i) (kd ow ce : Int32) : D_X0_begin [.ref i, .int kd, .int ow, .int ce] (memOf f) = some (.null, memOf (begX f i kd ow ce)) := by
  have F2 := fun g : FN => J7_fill g h.2.2.1 (by omega) 0
  have F3 := fun g : FN => J7_fill g h.2.2.2 (by omega) 0
  have n1 : i + 2 ≠ i + 1 := by omega
  have n2 : i + 3 ≠ i + 1 := by omega
  have n3 : i + 3 ≠ i + 2 := by omega
  have n4 : i ≠ i + 1 := by omega
  have n5 : i ≠ i + 2 := by omega
  have n6 : i ≠ i + 3 := by omega
  simp [D_X0_begin, S_X0_begin, m_den, l0, Value.category, s_seq, s_if, s_st, s_ret, s_retz, s_retv, s_skip, s_sc, s_inc, s_call, e_c, e_li, e_lr, e_lj, e_un, e_bin, e_if, e_b, b_not, b_and, b_or, b_of, e_call, a_recv, a_snoc, a_nil, prI, prJ, prR, e_gi, e_gr, e_ai, e_ar, s_as, s_aop, s_pf, s_pfz, s_fop, l_set, l_ok, e_div, e_rem, e_len, s_tab, gch0 _ h, gch1 _ h, gch2 _ h, wrt0 _ h, wrt1 _ h, wrt2 _ h, wrt3 _ h, wrt4 _ h, wrt5 _ h, wrt6 _ h, pch3 _ h, pch4 _ h, pch5 _ h, F2, F3, row_row, row_self, row_ne _ _ n1, row_ne _ _ n2, row_ne _ _ n3, row_ne _ _ n4, row_ne _ _ n5, row_ne _ _ n6, begX]
theorem chId_ne1 (k : Nat) : (1 : Nat) ≠ chId 1 k ∧ (1 : Nat) ≠ chId 1 k + 1 ∧ (1 : Nat) ≠ chId 1 k + 2 ∧ (1 : Nat) ≠ chId 1 k + 3 := by unfold chId; omega
theorem begX_ne (f : FN) {i j : Nat} (kd ow ce : Int32) (h : ¬ (i ≤ j ∧ j ≤ i + 3)) : begX f i kd ow ce j = f j := by
  unfold begX
  rw [row_ne _ _ (by omega), row_ne _ _ (by omega), row_ne _ _ (by omega), row_ne _ _ (by omega)]
def raiX (f : FN) (m : Nat) (kd ow ce : Int32) : FN := row (begX f (chId 1 m) kd ow ce) 1 (upd (f 1) 2 (nI (m + 1)))
theorem X5_raise (f : FN) {m : Nat} (hm : m < 8) (em : f 1 2 = nI m) (kd ow ce : Int32) : D_X5_raise [.ref 1, .int kd, .int ow, .int ce] (memOf f) = some (.int (nI m), memOf (raiX f m kd ow ce)) := by
  have hC := isCh_town (b := 1) (Or.inl rfl) hm
  have e1 : begX f (chId 1 m) kd ow ce 1 = f 1 := begX_ne _ _ _ _ (by unfold chId; omega)
  have e2 : nI (m + 1) - 1 = nI m := nI_s (a := m + 1) (b := 1) (by omega)
  simp [D_X5_raise, S_X5_raise, m_den, l0, Value.category, s_seq, s_if, s_st, s_ret, s_retz, s_retv, s_skip, s_sc, s_inc, s_call, e_c, e_li, e_lr, e_lj, e_un, e_bin, e_if, e_b, b_not, b_and, b_or, b_of, e_call, a_recv, a_snoc, a_nil, prI, prJ, prR, e_gi, e_gr, e_ai, e_ar, s_as, s_aop, s_pf, s_pfz, s_fop, l_set, l_ok, e_div, e_rem, e_len, s_tab, g_1_7, g_1_2, em, rr_6 f hm, rcch _ hC, X0_begin f hC, e1, p_1_2, nI_next, row_self, upd_self, e2, raiX]
theorem X5_isFull (f : FN) {m : Nat} (hm : m ≤ 8) (em : f 1 2 = nI m) : D_X5_isFull [.ref 1] (memOf f) = some (.int (if m = 8 then 1 else 0), memOf f) := by
  by_cases c : m = 8
  · subst c
    have e : (8 : Int32) ≤ nI 8 := by decide
    simp [D_X5_isFull, S_X5_isFull, m_den, l0, Value.category, s_seq, s_if, s_st, s_ret, s_retz, s_retv, s_skip, s_sc, s_inc, s_call, e_c, e_li, e_lr, e_lj, e_un, e_bin, e_if, e_b, b_not, b_and, b_or, b_of, e_call, a_recv, a_snoc, a_nil, prI, prJ, prR, e_gi, e_gr, e_ai, e_ar, s_as, s_aop, s_pf, s_pfz, s_fop, l_set, l_ok, e_div, e_rem, e_len, s_tab, g_1_2, em, e]
  · have e : ¬ (8 : Int32) ≤ nI m := fun q => absurd ((nI_le_iff (a := 8) (b := m) (by omega) (by omega)).mp q) (by omega)
    simp [D_X5_isFull, S_X5_isFull, m_den, l0, Value.category, s_seq, s_if, s_st, s_ret, s_retz, s_retv, s_skip, s_sc, s_inc, s_call, e_c, e_li, e_lr, e_lj, e_un, e_bin, e_if, e_b, b_not, b_and, b_or, b_of, e_call, a_recv, a_snoc, a_nil, prI, prJ, prR, e_gi, e_gr, e_ai, e_ar, s_as, s_aop, s_pf, s_pfz, s_fop, l_set, l_ok, e_div, e_rem, e_len, s_tab, g_1_2, em, e, c]

def newR (σ : Nat → Int32) (m : Nat) (kd ow ce : Int32) : Nat → Int32 := upd (upd (upd (upd (upd (upd (upd (upd σ (63 + 7 * m) kd) (63 + 7 * m + 1) ow) (63 + 7 * m + 2) ce) (63 + 7 * m + 3) 1) (63 + 7 * m + 4) 20) (63 + 7 * m + 5) 0) (63 + 7 * m + 6) 24) 1 (nI (m + 1))
theorem X7_newChimney (f : FN) {m : Nat} (hm : m < 8) (em : f 104 1 = nI m) (kd ow ce : Int32) : D_X7_newChimney [.ref 103, .int kd, .int ow, .int ce] (memOf f) = some (.int (nI m), memOf (row f 104 (newR (f 104) m kd ow ce))) := by
  have n0 : (1 : Nat) ≠ 63 + 7 * m := by omega
  have n1 : (1 : Nat) ≠ 63 + 7 * m + 1 := by omega
  have n2 : (1 : Nat) ≠ 63 + 7 * m + 2 := by omega
  have n3 : (1 : Nat) ≠ 63 + 7 * m + 3 := by omega
  have n4 : (1 : Nat) ≠ 63 + 7 * m + 4 := by omega
  have n5 : (1 : Nat) ≠ 63 + 7 * m + 5 := by omega
  have n6 : (1 : Nat) ≠ 63 + 7 * m + 6 := by omega
  simp [D_X7_newChimney, S_X7_newChimney, m_den, l0, Value.category, s_seq, s_if, s_st, s_ret, s_retz, s_retv, s_skip, s_sc, s_inc, s_call, e_c, e_li, e_lr, e_lj, e_un, e_bin, e_if, e_b, b_not, b_and, b_or, b_of, e_call, a_recv, a_snoc, a_nil, prI, prJ, prR, e_gi, e_gr, e_ai, e_ar, s_as, s_aop, s_pf, s_pfz, s_fop, l_set, l_ok, e_div, e_rem, e_len, s_tab, g_103_0, rd_104_1, wr_104_1, em, X7_at0, X7_at1, X7_at2, X7_at3, X7_at4, X7_at5, X7_at6, wr_104 _ (show 63 + 7 * m < 735 by omega), wr_104 _ (show 63 + 7 * m + 1 < 735 by omega), wr_104 _ (show 63 + 7 * m + 2 < 735 by omega), wr_104 _ (show 63 + 7 * m + 3 < 735 by omega), wr_104 _ (show 63 + 7 * m + 4 < 735 by omega), wr_104 _ (show 63 + 7 * m + 5 < 735 by omega), wr_104 _ (show 63 + 7 * m + 6 < 735 by omega), row_row, row_self, upd_ne _ _ n0, upd_ne _ _ n1, upd_ne _ _ n2, upd_ne _ _ n3, upd_ne _ _ n4, upd_ne _ _ n5, upd_ne _ _ n6, nI_next, newR]
theorem newR_ne (σ : Nat → Int32) {m j : Nat} (kd ow ce : Int32) (h1 : j ≠ 1) (h2 : ¬ (63 + 7 * m ≤ j ∧ j < 70 + 7 * m)) : newR σ m kd ow ce j = σ j := by
  unfold newR
  rw [upd_ne _ _ h1, upd_ne _ _ (by omega), upd_ne _ _ (by omega), upd_ne _ _ (by omega), upd_ne _ _ (by omega), upd_ne _ _ (by omega), upd_ne _ _ (by omega), upd_ne _ _ (by omega)]
theorem newR_1 (σ : Nat → Int32) (m : Nat) (kd ow ce : Int32) : newR σ m kd ow ce 1 = nI (m + 1) := by unfold newR; rw [upd_self]
theorem newR_t (σ g : Nat → Int32) {m : Nat} (hm : m < 8) (kd ow ce : Int32) : ∀ j, j < 7 → newR σ m kd ow ce (63 + 7 * m + j) = upd (upd (upd (upd (upd (upd (upd g 0 kd) 1 ow) 2 ce) 3 1) 4 20) 5 0) 6 24 j := by
  intro j hj
  unfold newR upd
  rcases lt7 hj with rfl | rfl | rfl | rfl | rfl | rfl | rfl <;> simp <;> (intro q; omega)

theorem TR.new {f : FN} {m : Nat} (h : TR f 1 (f 104) m) (hm : m < 8) (kd ow ce : Int32) : TR (raiX f m kd ow ce) 1 (newR (f 104) m kd ow ce) (m + 1) := by
  obtain ⟨⟨a1, a2, a3, a4, a5⟩, h2, h3, h4, h5, h6, h7⟩ := h
  have E : ∀ j, j ≠ 1 → ¬ (chId 1 m ≤ j ∧ j ≤ chId 1 m + 3) → raiX f m kd ow ce j = f j := fun j q1 q2 => by unfold raiX; rw [row_ne _ _ q1, begX_ne _ _ _ _ q2]
  have E1 : raiX f m kd ow ce 1 = upd (f 1) 2 (nI (m + 1)) := by unfold raiX; rw [row_self]
  have D : ∀ j, j ≠ 1 → raiX f m kd ow ce j = begX f (chId 1 m) kd ow ce j := fun j q1 => by unfold raiX; rw [row_ne _ _ q1]
  refine ⟨⟨?_, ?_, ?_, ?_, by omega⟩, fun c hc => ?_, fun c hc => ?_, fun c hc => ?_, fun c hc => ?_, fun k hk => ?_, fun k h1 h8 => (h7 k (by omega) h8).sig (fun i hi => newR_ne _ _ _ _ (by omega) (by omega))⟩
  · rw [newR_ne _ _ _ _ (by omega) (by omega), E1, upd_ne _ _ (by omega)]; exact a1
  · rw [newR_1, E1, upd_self]
  · rw [newR_ne _ _ _ _ (by omega) (by omega), E1, upd_ne _ _ (by omega)]; exact a3
  · rw [E1, upd_self]
  · rw [newR_ne _ _ _ _ (by omega) (by omega), E _ (by omega) (by unfold chId; omega)]; exact h2 c hc
  · rw [newR_ne _ _ _ _ (by omega) (by omega), E _ (by omega) (by unfold chId; omega)]; exact h3 c hc
  · rw [newR_ne _ _ _ _ (by omega) (by omega), E _ (by omega) (by unfold chId; omega)]; exact h4 c hc
  · rw [newR_ne _ _ _ _ (by omega) (by omega), E _ (by omega) (by unfold chId; omega)]; exact h5 c hc
  · by_cases e : k = m
    · subst e
      obtain ⟨z1, z2, z3, z4, z5⟩ := h7 k (Nat.le_refl _) hm
      have q0 : chId 1 k ≠ 1 := by unfold chId; omega
      have q1 : chId 1 k + 1 ≠ 1 := by unfold chId; omega
      have q2 : chId 1 k + 2 ≠ 1 := by unfold chId; omega
      have q3 : chId 1 k + 3 ≠ 1 := by unfold chId; omega
      refine ⟨fun j hj => ?_, fun c hc => ?_, fun c hc => ?_, ?_, ?_, ?_⟩
      · rw [D _ q1]
        unfold begX
        rw [row_ne _ _ (by omega), row_ne _ _ (by omega), row_ne _ _ (by omega), row_self]
        exact newR_t _ _ hm kd ow ce j hj
      · rw [newR_ne _ _ _ _ (by omega) (by omega), z1 c hc, D _ q2]
        unfold begX
        rw [row_ne _ _ (by omega), row_ne _ _ (by omega), row_self, fil_in _ _ hc]
      · rw [newR_ne _ _ _ _ (by omega) (by omega), z2 c hc, D _ q3]
        unfold begX
        rw [row_ne _ _ (by omega), row_self, fil_in _ _ hc]
      · rw [newR_ne _ _ _ _ (by omega) (by omega), z3, D _ q0]
        unfold begX
        rw [row_self, upd_ne _ _ (by omega), upd_ne _ _ (by omega), upd_self]
      · rw [newR_ne _ _ _ _ (by omega) (by omega), z4, D _ q0]
        unfold begX
        rw [row_self, upd_ne _ _ (by omega), upd_self]
      · rw [newR_ne _ _ _ _ (by omega) (by omega), z5, D _ q0]
        unfold begX
        rw [row_self, upd_self]
    · refine ((h6 k (by omega)).sig (τ := newR (f 104) m kd ow ce) (fun i hi => newR_ne _ _ _ _ (by omega) (by omega))).congr (fun j h1 h2 => E j ?_ ?_)
      · unfold chId at h1; omega
      · unfold chId at h1 h2 ⊢; omega
theorem csI_congr {n : Nat} {g h : Nat → Nat} (e : ∀ i, i < n → g i = h i) : csI n g = csI n h := by
  induction n with
  | zero => rfl
  | succ n ih => show csI n g + g n = csI n h + h n; rw [ih (fun i hi => e i (by omega)), e n (by omega)]
theorem csI_zero (n : Nat) : csI n (fun _ => 0) = 0 := by
  induction n with
  | zero => rfl
  | succ n ih => show csI n (fun _ => 0) + 0 = 0; rw [ih]
theorem TV.new {σ : Nat → Int32} {m kd ow ce : Nat} (h : TV σ m) (hz : CZ σ m) (hm : m < 8) (hkd : kd ≤ 6) (ho : ow ≤ 5) (hc : ce ≤ 35) : TV (newR σ m (nI kd) (nI ow) (nI ce)) (m + 1) := by
  obtain ⟨⟨hh, a1, a2, A, S, O, T, B, a3, a4⟩, v1, v2, v3, v4⟩ := h
  obtain ⟨z1, z2, z3, z4, z5⟩ := hz
  have N : ∀ j, j ≠ 1 → ¬ (63 + 7 * m ≤ j ∧ j < 70 + 7 * m) → newR σ m (nI kd) (nI ow) (nI ce) j = σ j := fun j q1 q2 => newR_ne _ _ _ _ q1 q2
  refine ⟨⟨hh, a1, by rw [N _ (by omega) (by omega)]; exact a2, fun k c => if k = m then 0 else A k c, fun k c => if k = m then 0 else S k c, fun k => if k = m then 0 else O k, fun k => if k = m then 0 else T k, fun k => if k = m then 0 else B k, fun k hk => ?_, fun o ho => ?_⟩, fun c hc => ?_, fun c hc => ?_, fun s hs => ?_, fun k hk j hj => ?_⟩
  · by_cases e : k = m
    · subst e
      simp only [if_true]
      refine ⟨fun c hc => ?_, fun c hc => ?_, ?_, ?_, ?_, ?_, ?_⟩
      · rw [N _ (by omega) (by omega)]; exact z1 c hc
      · rw [N _ (by omega) (by omega)]; exact z2 c hc
      · rw [N _ (by omega) (by omega)]; exact z3
      · rw [N _ (by omega) (by omega)]; exact z4
      · rw [N _ (by omega) (by omega)]; exact z5
      · rw [csI_zero]
      · omega
    · simp only [if_neg e]
      obtain ⟨c1, c2, c3, c4, c5, c6, c7⟩ := a3 k (by omega)
      refine ⟨fun c hc => ?_, fun c hc => ?_, ?_, ?_, ?_, c6, c7⟩
      · rw [N _ (by omega) (by omega)]; exact c1 c hc
      · rw [N _ (by omega) (by omega)]; exact c2 c hc
      · rw [N _ (by omega) (by omega)]; exact c3
      · rw [N _ (by omega) (by omega)]; exact c4
      · rw [N _ (by omega) (by omega)]; exact c5
  · have e : csI (m + 1) (fun k => csI 36 (fun c => if k = m then 0 else S k c)) = csI m (fun k => csI 36 (S k)) := by
      show csI m (fun k => csI 36 (fun c => if k = m then 0 else S k c)) + csI 36 (fun c => if m = m then 0 else S m c) = _
      rw [csI_congr (h := fun k => csI 36 (S k)) (fun k hk => by simp only [if_neg (show k ≠ m by omega)])]
      simp only [if_true]
      rw [csI_zero]
      omega
    rw [e, N _ (by omega) (by omega)]
    exact a4 o ho
  · rw [N _ (by omega) (by omega)]; exact v1 c hc
  · rw [N _ (by omega) (by omega)]; exact v2 c hc
  · rw [N _ (by omega) (by omega)]
    rcases v3 s hs with q | ⟨k, q1, q2⟩
    · exact Or.inl q
    · exact Or.inr ⟨k, by omega, q2⟩
  · by_cases e : k = m
    · subst e
      rw [newR_t σ σ hm _ _ _ j hj]
      rcases lt7 hj with rfl | rfl | rfl | rfl | rfl | rfl | rfl
      · exact ⟨kd, hkd, by simp [upd]⟩
      · exact ⟨ow, ho, by simp [upd]⟩
      · exact ⟨ce, hc, by simp [upd]⟩
      · exact ⟨1, by simp [lim], by simp [upd]; rfl⟩
      · exact ⟨20, by simp [lim], by simp [upd]; rfl⟩
      · exact ⟨0, by simp [lim], by simp [upd]; rfl⟩
      · exact ⟨24, by simp [lim], by simp [upd]; rfl⟩
    · rw [N _ (by omega) (by omega)]; exact v4 k (by omega) j hj
theorem X6_chimney_no0 (f : FN) {a b c : Int32} (h : ¬ (0 ≤ a ∧ a ≤ 6 ∧ 0 ≤ b ∧ b ≤ 5 ∧ 0 ≤ c ∧ c ≤ 35)) : D_X6_chimney [.ref 0, .int a, .int b, .int c] (memOf f) = some (.int (-1000001), memOf (row f 81 (upd (f 81) 0 (f 81 0 + 1)))) := by
  by_cases h1 : 0 ≤ a
  · by_cases h2 : a ≤ 6
    · by_cases h3 : 0 ≤ b
      · by_cases h4 : b ≤ 5
        · by_cases h5 : 0 ≤ c
          · have h6 : ¬ (c ≤ 35) := fun q => h ⟨h1, h2, h3, h4, h5, q⟩
            simp [D_X6_chimney, S_X6_chimney, m_den, l0, Value.category, s_seq, s_if, s_st, s_ret, s_retz, s_retv, s_skip, s_sc, s_inc, s_call, e_c, e_li, e_lr, e_lj, e_un, e_bin, e_if, e_b, b_not, b_and, b_or, b_of, e_call, a_recv, a_snoc, a_nil, prI, prJ, prR, e_gi, e_gr, e_ai, e_ar, s_as, s_aop, s_pf, s_pfz, s_fop, l_set, l_ok, e_div, e_rem, e_len, s_tab, X6_isKind, X6_isOwner, X6_isCell, rc_0, X6_fin_0, h1, h2, h3, h4, h5, h6]
          · simp [D_X6_chimney, S_X6_chimney, m_den, l0, Value.category, s_seq, s_if, s_st, s_ret, s_retz, s_retv, s_skip, s_sc, s_inc, s_call, e_c, e_li, e_lr, e_lj, e_un, e_bin, e_if, e_b, b_not, b_and, b_or, b_of, e_call, a_recv, a_snoc, a_nil, prI, prJ, prR, e_gi, e_gr, e_ai, e_ar, s_as, s_aop, s_pf, s_pfz, s_fop, l_set, l_ok, e_div, e_rem, e_len, s_tab, X6_isKind, X6_isOwner, X6_isCell, rc_0, X6_fin_0, h1, h2, h3, h4, h5]
        · simp [D_X6_chimney, S_X6_chimney, m_den, l0, Value.category, s_seq, s_if, s_st, s_ret, s_retz, s_retv, s_skip, s_sc, s_inc, s_call, e_c, e_li, e_lr, e_lj, e_un, e_bin, e_if, e_b, b_not, b_and, b_or, b_of, e_call, a_recv, a_snoc, a_nil, prI, prJ, prR, e_gi, e_gr, e_ai, e_ar, s_as, s_aop, s_pf, s_pfz, s_fop, l_set, l_ok, e_div, e_rem, e_len, s_tab, X6_isKind, X6_isOwner, X6_isCell, rc_0, X6_fin_0, h1, h2, h3, h4]
      · simp [D_X6_chimney, S_X6_chimney, m_den, l0, Value.category, s_seq, s_if, s_st, s_ret, s_retz, s_retv, s_skip, s_sc, s_inc, s_call, e_c, e_li, e_lr, e_lj, e_un, e_bin, e_if, e_b, b_not, b_and, b_or, b_of, e_call, a_recv, a_snoc, a_nil, prI, prJ, prR, e_gi, e_gr, e_ai, e_ar, s_as, s_aop, s_pf, s_pfz, s_fop, l_set, l_ok, e_div, e_rem, e_len, s_tab, X6_isKind, X6_isOwner, X6_isCell, rc_0, X6_fin_0, h1, h2, h3]
    · simp [D_X6_chimney, S_X6_chimney, m_den, l0, Value.category, s_seq, s_if, s_st, s_ret, s_retz, s_retv, s_skip, s_sc, s_inc, s_call, e_c, e_li, e_lr, e_lj, e_un, e_bin, e_if, e_b, b_not, b_and, b_or, b_of, e_call, a_recv, a_snoc, a_nil, prI, prJ, prR, e_gi, e_gr, e_ai, e_ar, s_as, s_aop, s_pf, s_pfz, s_fop, l_set, l_ok, e_div, e_rem, e_len, s_tab, X6_isKind, X6_isOwner, X6_isCell, rc_0, X6_fin_0, h1, h2]
  · simp [D_X6_chimney, S_X6_chimney, m_den, l0, Value.category, s_seq, s_if, s_st, s_ret, s_retz, s_retv, s_skip, s_sc, s_inc, s_call, e_c, e_li, e_lr, e_lj, e_un, e_bin, e_if, e_b, b_not, b_and, b_or, b_of, e_call, a_recv, a_snoc, a_nil, prI, prJ, prR, e_gi, e_gr, e_ai, e_ar, s_as, s_aop, s_pf, s_pfz, s_fop, l_set, l_ok, e_div, e_rem, e_len, s_tab, X6_isKind, X6_isOwner, X6_isCell, rc_0, X6_fin_0, h1]
theorem X7_chimney_no0 (f : FN) {a b c : Int32} (h : ¬ (0 ≤ a ∧ a ≤ 6 ∧ 0 ≤ b ∧ b ≤ 5 ∧ 0 ≤ c ∧ c ≤ 35)) : D_X7_chimney [.ref 103, .int a, .int b, .int c] (memOf f) = some (.int (-1000001), memOf (row f 107 (upd (f 107) 0 (f 107 0 + 1)))) := by
  by_cases h1 : 0 ≤ a
  · by_cases h2 : a ≤ 6
    · by_cases h3 : 0 ≤ b
      · by_cases h4 : b ≤ 5
        · by_cases h5 : 0 ≤ c
          · have h6 : ¬ (c ≤ 35) := fun q => h ⟨h1, h2, h3, h4, h5, q⟩
            simp [D_X7_chimney, S_X7_chimney, m_den, l0, Value.category, s_seq, s_if, s_st, s_ret, s_retz, s_retv, s_skip, s_sc, s_inc, s_call, e_c, e_li, e_lr, e_lj, e_un, e_bin, e_if, e_b, b_not, b_and, b_or, b_of, e_call, a_recv, a_snoc, a_nil, prI, prJ, prR, e_gi, e_gr, e_ai, e_ar, s_as, s_aop, s_pf, s_pfz, s_fop, l_set, l_ok, e_div, e_rem, e_len, s_tab, X7_in, X7_isOwner, X7_isCell, j_le_6, j_ge_0, rc_103, X7_fin_0, h1, h2, h3, h4, h5, h6]
          · simp [D_X7_chimney, S_X7_chimney, m_den, l0, Value.category, s_seq, s_if, s_st, s_ret, s_retz, s_retv, s_skip, s_sc, s_inc, s_call, e_c, e_li, e_lr, e_lj, e_un, e_bin, e_if, e_b, b_not, b_and, b_or, b_of, e_call, a_recv, a_snoc, a_nil, prI, prJ, prR, e_gi, e_gr, e_ai, e_ar, s_as, s_aop, s_pf, s_pfz, s_fop, l_set, l_ok, e_div, e_rem, e_len, s_tab, X7_in, X7_isOwner, X7_isCell, j_le_6, j_ge_0, rc_103, X7_fin_0, h1, h2, h3, h4, h5]
        · simp [D_X7_chimney, S_X7_chimney, m_den, l0, Value.category, s_seq, s_if, s_st, s_ret, s_retz, s_retv, s_skip, s_sc, s_inc, s_call, e_c, e_li, e_lr, e_lj, e_un, e_bin, e_if, e_b, b_not, b_and, b_or, b_of, e_call, a_recv, a_snoc, a_nil, prI, prJ, prR, e_gi, e_gr, e_ai, e_ar, s_as, s_aop, s_pf, s_pfz, s_fop, l_set, l_ok, e_div, e_rem, e_len, s_tab, X7_in, X7_isOwner, X7_isCell, j_le_6, j_ge_0, rc_103, X7_fin_0, h1, h2, h3, h4]
      · simp [D_X7_chimney, S_X7_chimney, m_den, l0, Value.category, s_seq, s_if, s_st, s_ret, s_retz, s_retv, s_skip, s_sc, s_inc, s_call, e_c, e_li, e_lr, e_lj, e_un, e_bin, e_if, e_b, b_not, b_and, b_or, b_of, e_call, a_recv, a_snoc, a_nil, prI, prJ, prR, e_gi, e_gr, e_ai, e_ar, s_as, s_aop, s_pf, s_pfz, s_fop, l_set, l_ok, e_div, e_rem, e_len, s_tab, X7_in, X7_isOwner, X7_isCell, j_le_6, j_ge_0, rc_103, X7_fin_0, h1, h2, h3]
    · simp [D_X7_chimney, S_X7_chimney, m_den, l0, Value.category, s_seq, s_if, s_st, s_ret, s_retz, s_retv, s_skip, s_sc, s_inc, s_call, e_c, e_li, e_lr, e_lj, e_un, e_bin, e_if, e_b, b_not, b_and, b_or, b_of, e_call, a_recv, a_snoc, a_nil, prI, prJ, prR, e_gi, e_gr, e_ai, e_ar, s_as, s_aop, s_pf, s_pfz, s_fop, l_set, l_ok, e_div, e_rem, e_len, s_tab, X7_in, X7_isOwner, X7_isCell, j_le_6, j_ge_0, rc_103, X7_fin_0, h1, h2]
  · simp [D_X7_chimney, S_X7_chimney, m_den, l0, Value.category, s_seq, s_if, s_st, s_ret, s_retz, s_retv, s_skip, s_sc, s_inc, s_call, e_c, e_li, e_lr, e_lj, e_un, e_bin, e_if, e_b, b_not, b_and, b_or, b_of, e_call, a_recv, a_snoc, a_nil, prI, prJ, prR, e_gi, e_gr, e_ai, e_ar, s_as, s_aop, s_pf, s_pfz, s_fop, l_set, l_ok, e_div, e_rem, e_len, s_tab, X7_in, X7_isOwner, X7_isCell, j_le_6, j_ge_0, rc_103, X7_fin_0, h1]
theorem agr_chimney {f : FN} (h : REL f) (a b c : Int32) : AGR D_X6_chimney D_X7_chimney [.int a, .int b, .int c] f := by
  obtain ⟨⟨m, hT, hV⟩, -⟩ := id h
  have em : f 1 2 = nI m := hT.1.2.2.2.1
  have em' : f 104 1 = nI m := hT.1.2.1.trans em
  have hm := hT.1.2.2.2.2
  by_cases hc : 0 ≤ a ∧ a ≤ 6 ∧ 0 ≤ b ∧ b ≤ 5 ∧ 0 ≤ c ∧ c ≤ 35
  · obtain ⟨a1, a2, a3, a4, a5, a6⟩ := hc
    by_cases e8 : m = 8
    · subst e8
      refine agr_find (j := 1) (v := -1000002) h ?_ (fun g hg => ?_)
      · simp [D_X6_chimney, S_X6_chimney, m_den, l0, Value.category, s_seq, s_if, s_st, s_ret, s_retz, s_retv, s_skip, s_sc, s_inc, s_call, e_c, e_li, e_lr, e_lj, e_un, e_bin, e_if, e_b, b_not, b_and, b_or, b_of, e_call, a_recv, a_snoc, a_nil, prI, prJ, prR, e_gi, e_gr, e_ai, e_ar, s_as, s_aop, s_pf, s_pfz, s_fop, l_set, l_ok, e_div, e_rem, e_len, s_tab, X6_isKind, X6_isOwner, X6_isCell, a1, a2, a3, a4, a5, a6, g_0_0, rc_0, rc_1, X5_isFull f hm em, X6_fin_1]
      · have e : g 104 1 = 8 := by rw [hg.1, em']; rfl
        simp [D_X7_chimney, S_X7_chimney, m_den, l0, Value.category, s_seq, s_if, s_st, s_ret, s_retz, s_retv, s_skip, s_sc, s_inc, s_call, e_c, e_li, e_lr, e_lj, e_un, e_bin, e_if, e_b, b_not, b_and, b_or, b_of, e_call, a_recv, a_snoc, a_nil, prI, prJ, prR, e_gi, e_gr, e_ai, e_ar, s_as, s_aop, s_pf, s_pfz, s_fop, l_set, l_ok, e_div, e_rem, e_len, s_tab, X7_in, X7_isOwner, X7_isCell, j_le_6, j_ge_0, a1, a2, a3, a4, a5, a6, g_103_0, rd_104_1, e, rc_103, X7_fin_1]
    · have h8 : m < 8 := by omega
      obtain ⟨kd, hk, rfl⟩ := in_ex (n := 6) ⟨a1, a2⟩ (by omega)
      obtain ⟨ow, ho, rfl⟩ := in_ex (n := 5) ⟨a3, a4⟩ (by omega)
      obtain ⟨ce, hce, rfl⟩ := in_ex (n := 35) ⟨a5, a6⟩ (by omega)
      have e9 : ¬ nI m = (8 : Int32) := fun q => e8 ((nI_inj (a := m) (b := 8) (by omega) (by omega)).mp q)
      have E : ∀ j, j ≠ 1 → ¬ (chId 1 m ≤ j ∧ j ≤ chId 1 m + 3) → raiX f m (nI kd) (nI ow) (nI ce) j = f j := fun j q1 q2 => by unfold raiX; rw [row_ne _ _ q1, begX_ne _ _ _ _ q2]
      have e104 := E 104 (by omega) (by unfold chId; omega)
      have em2 : raiX f m (nI kd) (nI ow) (nI ce) 104 1 = nI m := by rw [e104]; exact em'
      refine ⟨nI m, raiX f m (nI kd) (nI ow) (nI ce), row (raiX f m (nI kd) (nI ow) (nI ce)) 104 (newR (f 104) m (nI kd) (nI ow) (nI ce)), ?_, ?_, ?_⟩
      · simp [D_X6_chimney, S_X6_chimney, m_den, l0, Value.category, s_seq, s_if, s_st, s_ret, s_retz, s_retv, s_skip, s_sc, s_inc, s_call, e_c, e_li, e_lr, e_lj, e_un, e_bin, e_if, e_b, b_not, b_and, b_or, b_of, e_call, a_recv, a_snoc, a_nil, prI, prJ, prR, e_gi, e_gr, e_ai, e_ar, s_as, s_aop, s_pf, s_pfz, s_fop, l_set, l_ok, e_div, e_rem, e_len, s_tab, X6_isKind, X6_isOwner, X6_isCell, a1, a2, a3, a4, a5, a6, g_0_0, rc_1, X5_isFull f hm em, e8, X5_raise f h8 em]
      · have x := X7_newChimney (raiX f m (nI kd) (nI ow) (nI ce)) h8 em2 (nI kd) (nI ow) (nI ce)
        rw [e104] at x
        simp [D_X7_chimney, S_X7_chimney, m_den, l0, Value.category, s_seq, s_if, s_st, s_ret, s_retz, s_retv, s_skip, s_sc, s_inc, s_call, e_c, e_li, e_lr, e_lj, e_un, e_bin, e_if, e_b, b_not, b_and, b_or, b_of, e_call, a_recv, a_snoc, a_nil, prI, prJ, prR, e_gi, e_gr, e_ai, e_ar, s_as, s_aop, s_pf, s_pfz, s_fop, l_set, l_ok, e_div, e_rem, e_len, s_tab, X7_in, X7_isOwner, X7_isCell, j_le_6, j_ge_0, a1, a2, a3, a4, a5, a6, g_103_0, rd_104_1, em2, e9, rc_103, x]
      · have e2 : row (raiX f m (nI kd) (nI ow) (nI ce)) 104 (newR (f 104) m (nI kd) (nI ow) (nI ce)) 104 = newR (f 104) m (nI kd) (nI ow) (nI ce) := row_self _ _ _
        refine h.town (m := m + 1) (fun j hj => ?_) ⟨?_, ?_⟩ ?_ ?_
        · rw [row_ne _ _ (by omega), E _ (by omega) (by unfold chId; omega)]
        · rw [row_ne _ _ (by omega), E _ (by omega) (by unfold chId; omega)]
        · rw [row_ne _ _ (by omega), E _ (by omega) (by unfold chId; omega)]
        · rw [e2]
          exact (hT.new h8 (nI kd) (nI ow) (nI ce)).congr (fun j h1 h2 => row_ne _ _ (by omega))
        · rw [e2]
          exact hV.new (hT.2.2.2.2.2.2 m (Nat.le_refl _) h8) h8 (by omega) (by omega) (by omega)
  · exact agr_find h (X6_chimney_no0 f hc) (fun g _ => X7_chimney_no0 g hc)
