/-! cellBeside for the winds 1 and 4 -/
theorem tab_at {e : DE Int32} {lo hi : Int} {arms : List (Nat × SD)} {dfl : SD} {L : List Value} {M M' : GM} {x : Int32} {a : Nat × SD} (he : e L M = some (x, M')) (h1 : ¬ (x.toInt < lo ∨ hi < x.toInt)) (h2 : arms[(x.toInt - lo).toNat]? = some a) : s_tab e lo hi arms dfl L M = a.2 L M' := by
  unfold s_tab; rw [he]; simp only [Option.bind_some]; rw [if_neg h1, h2]
def cbT : SD := (s_tab (e_li 1) (1) (4) [(32, (s_st Value.int 2 (e_b (e_bin (fun (x y : Int32) => decide (x < y)) (e_li 0) (e_c (6 : Int32)))))),
  (47, (s_st Value.int 2 (e_b (e_bin (fun (x y : Int32) => decide (x = y)) (e_rem (e_li 0) (e_c (6 : Int32))) (e_c (5 : Int32)))))),
  (64, (s_st Value.int 2 (e_b (e_bin (fun (x y : Int32) => decide (y ≤ x)) (e_li 0) (e_c (30 : Int32)))))),
  (79, (s_st Value.int 2 (e_b (e_un (fun (x : Int32) => decide (x = 0)) (e_rem (e_li 0) (e_c (6 : Int32)))))))] (s_st Value.int 2 (e_c (1 : Int32))))
def cbR : SD := (s_ret Value.int (e_if (b_of (e_li 2)) (e_c (-1 : Int32)) (e_bin (fun (x y : Int32) => x + y) (e_li 0) (e_ai (e_c (SPB + 4)) (e_li 1)))))
theorem cb_eq : S_X0_cellBeside = s_seq s_skip (s_seq cbT cbR) := rfl
theorem cb_R (M : GM) (x w z : Int32) (b : Bool) (hr : gm_rd M (SPB + 4) w = some z) : cbR [.int x, .int w, .int (if b then 1 else 0)] M = some (.inr (.int (if b then -1 else x + z), M)) := by
  cases b <;> simp [cbR, s_ret, e_if, b_of, e_li, e_c, e_bin, e_ai, hr]
theorem cb_gen (M : GM) (x w z : Int32) (b : Bool) (hT : cbT [.int x, .int w] M = some (.inl ([.int x, .int w, .int (if b then 1 else 0)], M))) (hr : gm_rd M (SPB + 4) w = some z) : D_X0_cellBeside [.int x, .int w] M = some (.int (if b then -1 else x + z), M) := by
  have e : l0 [.int x, .int w] = [.int x, .int w] := rfl
  have e2 : S_X0_cellBeside [.int x, .int w] M = some (.inr (.int (if b then -1 else x + z), M)) := by
    rw [cb_eq]
    show ((cbT [.int x, .int w] M).bind _) = _
    rw [hT]
    exact cb_R M x w z b hr
  unfold D_X0_cellBeside m_den
  rw [e, e2]
  rfl
theorem cb_T1 (M : GM) (x : Int32) : cbT [.int x, .int 1] M = some (.inl ([.int x, .int 1, .int (if decide (x < 6) then 1 else 0)], M)) := by
  unfold cbT
  rw [tab_at (x := 1) (M' := M) rfl (by decide) rfl]
  rfl
theorem cb_T4 (M : GM) (x : Int32) : cbT [.int x, .int 4] M = some (.inl ([.int x, .int 4, .int (if decide (x - x / 6 * 6 = 0) then 1 else 0)], M)) := by
  unfold cbT
  rw [tab_at (x := 4) (M' := M) rfl (by decide) rfl]
  rfl
theorem X0_cb1 (M : GM) {c : Nat} (hc : c < 36) : D_X0_cellBeside [.int (nI c), .int 1] M = some (.int (atv (mv c 1)), M) := by
  rw [cb_gen M (nI c) 1 _ _ (cb_T1 M _) (rd_ws1 M)]
  have q : nI c < 6 ↔ c < 6 := nI_lt_iff (a := c) (b := 6) (by omega) (by omega)
  unfold mv
  by_cases k : c < 6
  · rw [if_pos (decide_eq_true (q.mpr k)), if_pos k]; rfl
  · rw [if_neg (by rw [decide_eq_true_iff]; exact fun h => k (q.mp h)), if_neg k, nI_m6 (by omega)]; rfl
theorem X0_cb4 (M : GM) {c : Nat} (hc : c < 36) : D_X0_cellBeside [.int (nI c), .int 4] M = some (.int (atv (mv c 4)), M) := by
  rw [cb_gen M (nI c) 4 _ _ (cb_T4 M _) (rd_ws4 M), rem6 (a := c) (by omega)]
  have q : nI (c % 6) = 0 ↔ c % 6 = 0 := nI_inj (a := c % 6) (b := 0) (by omega) (by omega)
  unfold mv
  by_cases k : c % 6 = 0
  · rw [if_pos (decide_eq_true (q.mpr k)), if_pos k]; rfl
  · rw [if_neg (by rw [decide_eq_true_iff]; exact fun h => k (q.mp h)), if_neg k, nI_m1 (by omega)]; rfl
theorem X0_cellBeside (M : GM) {c w : Nat} (hc : c < 36) (hw : w < 5) : D_X0_cellBeside [.int (nI c), .int (nI w)] M = some (.int (atv (mv c w)), M) := by
  rcases lt5 hw with rfl | rfl | rfl | rfl | rfl
  · exact X0_cb0 M c
  · exact X0_cb1 M hc
  · exact X0_cb2 M hc
  · exact X0_cb3 M hc
  · exact X0_cb4 M hc
/-! loops over a memory that is known by a predicate -/
theorem while_rel {b : DE Bool} {s : SD} (L : Nat → List Value) (I : Nat → FN → Prop) (N : Nat) (hN : N < FU) (hb : ∀ i f, i < N → I i f → b (L i) (memOf f) = some (true, memOf f)) (hs : ∀ i f, i < N → I i f → ∃ g, s (L i) (memOf f) = some (.inl (L (i + 1), memOf g)) ∧ I (i + 1) g) (he : ∀ f, I N f → b (L N) (memOf f) = some (false, memOf f)) {f : FN} (h0 : I 0 f) : ∃ g, s_while b s FU (L 0) (memOf f) = some (.inl (L N, memOf g)) ∧ I N g := by
  have key : ∀ k i n f, i + k = N → k < n → I i f → ∃ g, s_while b s n (L i) (memOf f) = some (.inl (L N, memOf g)) ∧ I N g := by
    intro k
    induction k with
    | zero =>
      intro i n f h1 h2 h3
      have e : i = N := by omega
      subst e
      obtain ⟨m, rfl⟩ : ∃ m, n = m + 1 := ⟨n - 1, by omega⟩
      exact ⟨f, while_end (he f h3), h3⟩
    | succ k ih =>
      intro i n f h1 h2 h3
      obtain ⟨m, rfl⟩ : ∃ m, n = m + 1 := ⟨n - 1, by omega⟩
      obtain ⟨g, h4, h5⟩ := hs i f (by omega) h3
      rw [while_step (hb i f (by omega) h3) h4]
      exact ih (i + 1) m g (by omega) (by omega) h5
  exact key N 0 FU f (by omega) hN h0
