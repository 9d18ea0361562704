/-! drift: in place, from the far side on -/
def pr (w k y : Nat) : Bool := if w = 1 ∨ w = 4 then decide (y < k) else decide (36 ≤ y + k)
def cy (w k : Nat) : Nat := if w = 1 ∨ w = 4 then k else 35 - k
theorem cy_lt {w k : Nat} (h : k < 36) : cy w k < 36 := by unfold cy; split <;> omega
theorem mvbk_fin : ∀ w : Fin 5, ∀ y : Fin 36, ∀ x : Fin 36, (bk x.1 w.1 = some y.1 ↔ mv y.1 w.1 = some x.1) := by decide +kernel
theorem mvbk {w x y : Nat} (hw : w < 5) (hx : x < 36) (hy : y < 36) : bk x w = some y ↔ mv y w = some x := mvbk_fin ⟨w, hw⟩ ⟨y, hy⟩ ⟨x, hx⟩
theorem bk_fin : ∀ w : Fin 5, ∀ x : Fin 36, ∀ y, bk x.1 w.1 = some y → y < 36 := by
  intro w x y h
  have hx := x.2
  unfold bk at h
  split at h <;> first | exact mv_lt hx h | cases h
theorem bk_lt {w x y : Nat} (hw : w < 5) (hx : x < 36) (h : bk x w = some y) : y < 36 := bk_fin ⟨w, hw⟩ ⟨x, hx⟩ y h
theorem mvo_fin : ∀ w : Fin 5, ∀ y : Fin 36, ∀ x : Fin 36, mv y.1 w.1 = some x.1 → (if w.1 = 1 ∨ w.1 = 4 then x.1 < y.1 else y.1 < x.1) := by decide +kernel
theorem mvo {w x y : Nat} (hw : w < 5) (hy : y < 36) (h : mv y w = some x) : x < 36 ∧ if w = 1 ∨ w = 4 then x < y else y < x := ⟨mv_lt hy h, mvo_fin ⟨w, hw⟩ ⟨y, hy⟩ ⟨x, mv_lt hy h⟩ h⟩
theorem pr_succ {w k z : Nat} (hk : k < 36) (hz : z < 36) : pr w (k + 1) z = true ↔ pr w k z = true ∨ z = cy w k := by
  unfold pr cy; split <;> simp only [decide_eq_true_iff] <;> omega
theorem pr_cy {w k : Nat} (hk : k < 36) : ¬ pr w k (cy w k) = true := by
  unfold pr cy; split <;> simp only [decide_eq_true_iff] <;> omega
theorem pr_0 {w z : Nat} (hz : z < 36) : ¬ pr w 0 z = true := by
  unfold pr; split <;> simp only [decide_eq_true_iff] <;> omega
theorem pr_36 {w z : Nat} (hz : z < 36) : pr w 36 z = true := by
  unfold pr; split <;> simp only [decide_eq_true_iff] <;> omega
/-- where the cell at hand goes has been left; where its own comes from hasn't -/
theorem pr_to {w k x : Nat} (hw : w < 5) (hk : k < 36) (h : mv (cy w k) w = some x) : pr w k x = true := by
  have a := mvo hw (cy_lt hk) h
  unfold pr cy at *
  split at a <;> rename_i c
  · simp only [if_pos c] at a ⊢; simp only [decide_eq_true_iff]; omega
  · simp only [if_neg c] at a ⊢; simp only [decide_eq_true_iff]; omega
theorem pr_from {w k z : Nat} (hw : w < 5) (hk : k < 36) (h : bk (cy w k) w = some z) : ¬ pr w (k + 1) z = true := by
  have hz := bk_lt hw (cy_lt hk) h
  have a := (mvo hw hz ((mvbk hw (cy_lt hk) hz).mp h)).2
  unfold pr cy at *
  split at a <;> rename_i c
  · simp only [if_pos c] at a ⊢; simp only [decide_eq_true_iff]; omega
  · simp only [if_neg c] at a ⊢; simp only [decide_eq_true_iff]; omega
def dv (A : Nat → Nat) (w k x : Nat) : Nat := match bk x w with
  | some y => if pr w k y = true then A y else if pr w k x = true then 0 else A x
  | none => if pr w k x = true then 0 else A x
theorem dv_0 {A : Nat → Nat} {w x : Nat} (hw : w < 5) (hx : x < 36) : dv A w 0 x = A x := by
  unfold dv
  split
  · rename_i y h
    rw [if_neg (pr_0 (bk_lt hw hx h)), if_neg (pr_0 hx)]
  · rw [if_neg (pr_0 hx)]
theorem dv_36 {A : Nat → Nat} {w x : Nat} (hw : w < 5) (hx : x < 36) : dv A w 36 x = mvA A w x := by
  unfold dv mvA
  cases hb : bk x w with
  | some y => simp only; rw [if_pos (pr_36 (bk_lt hw hx hb))]
  | none => simp only; rw [if_pos (pr_36 hx)]
theorem dv_at {A : Nat → Nat} {w k : Nat} (hw : w < 5) (hk : k < 36) : dv A w k (cy w k) = A (cy w k) := by
  unfold dv
  split
  · rename_i y h
    have hy := bk_lt hw (cy_lt hk) h
    rw [if_neg (fun q => pr_from hw hk h ((pr_succ hk hy).mpr (Or.inl q))), if_neg (pr_cy hk)]
  · rw [if_neg (pr_cy hk)]
theorem dv_to {A : Nat → Nat} {w k x : Nat} (hw : w < 5) (hk : k < 36) (h : mv (cy w k) w = some x) : dv A w k x = 0 := by
  have hx := mv_lt (cy_lt hk) h
  unfold dv
  rw [(mvbk hw hx (cy_lt hk)).mpr h]
  simp only
  rw [if_neg (pr_cy hk), if_pos (pr_to hw hk h)]
theorem dv_succ {A : Nat → Nat} {w k x : Nat} (hw : w < 5) (hk : k < 36) (hx : x < 36) : dv A w (k + 1) x = if mv (cy w k) w = some x then A (cy w k) else if x = cy w k then 0 else dv A w k x := by
  by_cases c1 : mv (cy w k) w = some x
  · rw [if_pos c1]
    unfold dv
    rw [(mvbk hw hx (cy_lt hk)).mpr c1]
    simp only
    rw [if_pos ((pr_succ hk (cy_lt hk)).mpr (Or.inr rfl))]
  · rw [if_neg c1]
    by_cases c2 : x = cy w k
    · rw [if_pos c2]
      unfold dv
      split
      · rename_i y h
        rw [if_neg (pr_from hw hk (c2 ▸ h)), if_pos ((pr_succ hk hx).mpr (Or.inr c2))]
      · rw [if_pos ((pr_succ hk hx).mpr (Or.inr c2))]
    · rw [if_neg c2]
      have ex : pr w (k + 1) x = true ↔ pr w k x = true := by
        rw [pr_succ hk hx]; exact ⟨fun q => q.resolve_right c2, Or.inl⟩
      unfold dv
      split
      · rename_i y h
        have hy := bk_lt hw hx h
        have ey : pr w (k + 1) y = true ↔ pr w k y = true := by
          rw [pr_succ hk hy]
          refine ⟨fun q => q.resolve_right (fun e => c1 ?_), Or.inl⟩
          rw [← e]; exact (mvbk hw hx hy).mp h
        simp only [ex, ey]
      · simp only [ex]
/-- what is out behind k cells -/
def ov (A : Nat → Nat) (w k : Nat) : Nat := csI 36 (fun z => if pr w k z = true ∧ mv z w = none then A z else 0)
theorem ov_0 (A : Nat → Nat) (w : Nat) : ov A w 0 = 0 := by
  unfold ov
  rw [csI_congr (h := fun _ => 0) (fun z hz => by simp only [pr_0 hz, false_and, if_false]; rfl), csI_zero]
theorem ov_36 (A : Nat → Nat) (w : Nat) : ov A w 36 = outA A w := by
  unfold ov outA
  exact csI_congr (fun z hz => by simp only [pr_36 hz, true_and])
theorem ov_succ {A : Nat → Nat} {w k : Nat} (hk : k < 36) : ov A w (k + 1) = ov A w k + if mv (cy w k) w = none then A (cy w k) else 0 := by
  unfold ov
  refine csI_upd (cy_lt (w := w) hk) (fun z hz hne => ?_) ?_
  · have e : pr w (k + 1) z = true ↔ pr w k z = true := by
      rw [pr_succ hk hz]; exact ⟨fun q => q.resolve_right hne, Or.inl⟩
    simp only [e]
  · have e : pr w (k + 1) (cy w k) = true := (pr_succ hk (cy_lt hk)).mpr (Or.inr rfl)
    simp only [e, true_and]
    rw [if_neg (show ¬ (pr w k (cy w k) = true ∧ mv (cy w k) w = none) from fun q => pr_cy hk q.1), Nat.zero_add]
theorem rd_ws (M : GM) {w : Nat} (hw : w < 5) : ∃ z, gm_rd M (SPB + 4) (nI w) = some z ∧ (z < 0 ↔ w = 1 ∨ w = 4) := by
  rcases lt5 hw with rfl | rfl | rfl | rfl | rfl
  · exact ⟨0, rd_st (i := 0) M rfl rfl (by omega), by decide⟩
  · exact ⟨-6, rd_ws1 M, by decide⟩
  · exact ⟨1, rd_ws2 M, by decide⟩
  · exact ⟨6, rd_ws3 M, by decide⟩
  · exact ⟨-1, rd_ws4 M, by decide⟩
theorem nI_nm1 {x : Nat} (h : x < 2 ^ 31) : ¬ nI x = -1 := fun e => absurd (e ▸ nI_pos' h : (0 : Int32) ≤ -1) (by decide)
theorem X0_moveTo_none (f : FN) {i y : Nat} (h : isCh i) (hy : y < 36) : D_X0_moveTo [.ref i, .int (-1), .int (nI y)] (memOf f) = some (.null, memOf (row (row f i (upd (f i) 3 (f i 3 + f (i + 2) y))) (i + 2) (upd (f (i + 2)) y 0))) := by
  have n1 : i + 2 ≠ i := by omega
  simp [D_X0_moveTo, S_X0_moveTo, m_den, l0, Value.category, s_seq, s_if, s_st, s_ret, s_retz, s_retv, s_skip, s_sc, s_inc, s_call, e_c, e_li, e_lr, e_lj, e_un, e_bin, e_if, e_b, b_not, b_and, b_or, b_of, e_call, a_recv, a_snoc, a_nil, prI, prJ, prR, e_gi, e_gr, e_ai, e_ar, s_as, s_aop, s_pf, s_pfz, s_fop, l_set, l_ok, e_div, e_rem, e_len, s_tab, gch3 f h, gch1 _ h, rda f h hy, wra _ h hy, pch3 f h, row_ne _ _ n1]
theorem X0_moveTo_some (f : FN) {i x y : Nat} (h : isCh i) (hx : x < 36) (hy : y < 36) : D_X0_moveTo [.ref i, .int (nI x), .int (nI y)] (memOf f) = some (.null, memOf (row f (i + 2) (upd (upd (f (i + 2)) x (f (i + 2) y)) y 0))) := by
  have n1 := nI_nm1 (x := x) (by omega)
  simp [D_X0_moveTo, S_X0_moveTo, m_den, l0, Value.category, s_seq, s_if, s_st, s_ret, s_retz, s_retv, s_skip, s_sc, s_inc, s_call, e_c, e_li, e_lr, e_lj, e_un, e_bin, e_if, e_b, b_not, b_and, b_or, b_of, e_call, a_recv, a_snoc, a_nil, prI, prJ, prR, e_gi, e_gr, e_ai, e_ar, s_as, s_aop, s_pf, s_pfz, s_fop, l_set, l_ok, e_div, e_rem, e_len, s_tab, n1, gch1 _ h, rda f h hy, wra _ h hy, wra _ h hx, row_row, row_self]
theorem X0_drift (f : FN) {i w : Nat} {q : SMK} (h : isCh i) (hw : w < 5) (hw0 : w ≠ 0) (hq : HC f i q) (hb : ∀ c, c < 36 → q.1 c < 2 ^ 31) : ∃ g, D_X0_drift [.ref i, .int (nI w)] (memOf f) = some (.null, memOf g) ∧ HC g i (smWind w q) ∧ ∀ j, j ≠ i → j ≠ i + 2 → g j = f j := by
  obtain ⟨q1, q2, q3, q4, q5⟩ := hq
  have key := while_rel (b := WB_X0_drift_1) (s := WS_X0_drift_1) (fun k => [.ref i, .int (nI w), .int (nI k)]) (fun k g => (∀ j, j ≠ i → j ≠ i + 2 → g j = f j) ∧ (∀ c, c < 36 → g (i + 2) c = nI (dv q.1 w k c)) ∧ g i 3 = nI (q.2.2.1 + ov q.1 w k) ∧ g i 4 = nI q.2.2.2.1 ∧ g i 5 = nI q.2.2.2.2) 36 (by unfold FU; omega) (fun k g hk hI => ?_) (fun k g hk hI => ?_) (fun g hI => ?_) (f := f) ⟨fun _ _ _ => rfl, fun c hc => by rw [q1 c hc, dv_0 hw hc], by rw [ov_0]; exact q3, q4, q5⟩
  · obtain ⟨g, W, I1, I2, I3, I4, I5⟩ := key
    refine ⟨g, ?_, ⟨fun c hc => ?_, fun c hc => ?_, ?_, ?_, ?_⟩, I1⟩
    · have W' : W_X0_drift_1 [.ref i, .int (nI w), .int 0] (memOf f) = some (.inl ([.ref i, .int (nI w), .int (nI 36)], memOf g)) := W
      simp [D_X0_drift, S_X0_drift, m_den, l0, Value.category, s_seq, s_if, s_st, s_ret, s_retz, s_retv, s_skip, s_sc, s_inc, s_call, e_c, e_li, e_lr, e_lj, e_un, e_bin, e_if, e_b, b_not, b_and, b_or, b_of, e_call, a_recv, a_snoc, a_nil, prI, prJ, prR, e_gi, e_gr, e_ai, e_ar, s_as, s_aop, s_pf, s_pfz, s_fop, l_set, l_ok, e_div, e_rem, e_len, s_tab, W']
    · unfold smWind; rw [if_neg hw0, I2 c hc, dv_36 hw hc]
    · unfold smWind; rw [if_neg hw0, I1 _ (by omega) (by omega)]; exact q2 c hc
    · unfold smWind; rw [if_neg hw0, I3, ov_36]
    · unfold smWind; rw [if_neg hw0]; exact I4
    · unfold smWind; rw [if_neg hw0]; exact I5
  · have e : nI k < (36 : Int32) := lt_lit (n := 36) hk (by omega)
    simp [WB_X0_drift_1, m_den, l0, Value.category, s_seq, s_if, s_st, s_ret, s_retz, s_retv, s_skip, s_sc, s_inc, s_call, e_c, e_li, e_lr, e_lj, e_un, e_bin, e_if, e_b, b_not, b_and, b_or, b_of, e_call, a_recv, a_snoc, a_nil, prI, prJ, prR, e_gi, e_gr, e_ai, e_ar, s_as, s_aop, s_pf, s_pfz, s_fop, l_set, l_ok, e_div, e_rem, e_len, s_tab, e]
  · obtain ⟨I1, I2, I3, I4, I5⟩ := hI
    have hy := cy_lt (w := w) hk
    obtain ⟨z, hz, hz2⟩ := rd_ws (memOf g) hw
    have hcy : ∀ M : GM, e_if (e_un (fun (x : Int32) => decide (x < 0)) (e_ai (e_c (SPB + 4)) (e_li 1))) (e_li 2) (e_bin (fun (x y : Int32) => x - y) (e_c (35 : Int32)) (e_li 2)) [.ref i, .int (nI w), .int (nI k)] (memOf g) = some (nI (cy w k), memOf g) := by
      intro M
      have s35 : (35 : Int32) - nI k = nI (35 - k) := nI_s (a := 35) (b := k) (by omega)
      by_cases c : w = 1 ∨ w = 4
      · simp [e_if, e_un, e_ai, e_c, e_li, e_bin, hz, hz2.mpr c, cy, c]
      · have c' : ¬ z < 0 := fun q => c (hz2.mp q)
        have c3 : cy w k = 35 - k := by unfold cy; rw [if_neg c]
        simp [e_if, e_un, e_ai, e_c, e_li, e_bin, hz, c', c3, s35]
    have hcy := hcy (memOf g)
    have ea : g (i + 2) (cy w k) = nI (q.1 (cy w k)) := by rw [I2 _ hy, dv_at hw hk]
    by_cases c0 : q.1 (cy w k) = 0
    · have ea0 : ¬ 0 < g (i + 2) (cy w k) := by rw [ea, c0]; decide
      refine ⟨g, ?_, I1, fun c hc => ?_, ?_, I4, I5⟩
      · simp [WS_X0_drift_1, s_seq, s_sc, s_st, hcy, l_ok, l_set, Value.category, s_if, e_un, e_ai, e_gr, e_lr, e_li, gch1 g h, rda g h hy, ea0, s_skip, s_inc, nI_next]
      · rw [I2 c hc, dv_succ hw hk hc]
        by_cases c1 : mv (cy w k) w = some c
        · rw [if_pos c1, dv_to hw hk c1, c0]
        · rw [if_neg c1]
          by_cases c2 : c = cy w k
          · rw [if_pos c2, c2, dv_at hw hk, c0]
          · rw [if_neg c2]
      · rw [I3, ov_succ hk, c0]
        congr 1
        split <;> rfl
    · have ea0 : 0 < g (i + 2) (cy w k) := by
        rw [ea]
        exact (nI_lt_iff (a := 0) (by omega) (hb _ hy)).mpr (by omega)
      have cb := X0_cellBeside (memOf g) hy hw
      cases c1 : mv (cy w k) w with
      | none =>
        rw [c1] at cb
        have cb' : D_X0_cellBeside [.int (nI (cy w k)), .int (nI w)] (memOf g) = some (.int (-1), memOf g) := cb
        refine ⟨row (row g i (upd (g i) 3 (g i 3 + g (i + 2) (cy w k)))) (i + 2) (upd (g (i + 2)) (cy w k) 0), ?_, fun j h1 h2 => ?_, fun c hc => ?_, ?_, ?_, ?_⟩
        · simp [WS_X0_drift_1, s_seq, s_sc, s_st, hcy, l_ok, l_set, Value.category, s_if, e_un, e_ai, e_gr, e_lr, e_li, gch1 g h, rda g h hy, ea0, s_call, a_recv, a_snoc, a_nil, e_call, prI, cb', rcch g h, X0_moveTo_none g h hy, s_inc, nI_next]
        · rw [row_ne _ _ h2, row_ne _ _ h1]; exact I1 j h1 h2
        · rw [row_self, dv_succ hw hk hc, c1]
          unfold upd
          simp only [reduceCtorEq, if_false]
          by_cases c2 : c = cy w k
          · rw [if_pos c2, if_pos c2]; rfl
          · rw [if_neg c2, if_neg c2]; exact I2 c hc
        · rw [row_ne _ _ (by omega), row_self, upd_self, I3, ea, nI_a, ov_succ hk, if_pos c1, Nat.add_assoc]
        · rw [row_ne _ _ (by omega), row_self, upd_ne _ _ (by omega)]; exact I4
        · rw [row_ne _ _ (by omega), row_self, upd_ne _ _ (by omega)]; exact I5
      | some x =>
        rw [c1] at cb
        have hx := mv_lt hy c1
        have cb' : D_X0_cellBeside [.int (nI (cy w k)), .int (nI w)] (memOf g) = some (.int (nI x), memOf g) := cb
        have hxy : x ≠ cy w k := fun e => pr_cy (w := w) hk (e ▸ pr_to hw hk c1)
        refine ⟨row g (i + 2) (upd (upd (g (i + 2)) x (g (i + 2) (cy w k))) (cy w k) 0), ?_, fun j h1 h2 => ?_, fun c hc => ?_, ?_, ?_, ?_⟩
        · simp [WS_X0_drift_1, s_seq, s_sc, s_st, hcy, l_ok, l_set, Value.category, s_if, e_un, e_ai, e_gr, e_lr, e_li, gch1 g h, rda g h hy, ea0, s_call, a_recv, a_snoc, a_nil, e_call, prI, cb', rcch g h, X0_moveTo_some g h hx hy, s_inc, nI_next]
        · rw [row_ne _ _ h2]; exact I1 j h1 h2
        · rw [row_self, dv_succ hw hk hc, c1]
          unfold upd
          by_cases c2 : c = cy w k
          · rw [if_pos c2, if_neg (fun e => hxy ((Option.some.inj e).trans c2)), if_pos c2]; rfl
          · rw [if_neg c2]
            by_cases c3 : c = x
            · rw [if_pos c3, if_pos (by rw [c3]), ea]
            · rw [if_neg c3, if_neg (fun e => c3 (Option.some.inj e).symm), if_neg c2]; exact I2 c hc
        · rw [row_ne _ _ (by omega), I3, ov_succ hk, c1]; rfl
        · rw [row_ne _ _ (by omega)]; exact I4
        · rw [row_ne _ _ (by omega)]; exact I5
  · have e : ¬ nI 36 < (36 : Int32) := nlt_lit (n := 36) (by omega)
    simp [WB_X0_drift_1, m_den, l0, Value.category, s_seq, s_if, s_st, s_ret, s_retz, s_retv, s_skip, s_sc, s_inc, s_call, e_c, e_li, e_lr, e_lj, e_un, e_bin, e_if, e_b, b_not, b_and, b_or, b_of, e_call, a_recv, a_snoc, a_nil, prI, prJ, prR, e_gi, e_gr, e_ai, e_ar, s_as, s_aop, s_pf, s_pfz, s_fop, l_set, l_ok, e_div, e_rem, e_len, s_tab, e]
