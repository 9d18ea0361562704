/-! the items of a text one behind another -/
theorem tE_ge (T : Nat → Nat) {t p : Nat} (h : p ≤ t) : p ≤ tE T t p ∧ tE T t p ≤ t ∧ (tK T t p ≠ 0 → p + 1 ≤ tE T t p ∧ tS T t p < t) ∧ (tK T t p = 0 → tS T t p = t) ∧ p ≤ tS T t p := by
  obtain ⟨⟨a, b⟩, c, d, e⟩ := tk_ok T h
  rcases e with ⟨e1, e2, e3⟩ | ⟨e1, e2, e3, e4, e5, e6⟩
  · exact ⟨by omega, by omega, fun q => absurd e2 q, fun _ => e1, a⟩
  · have := srt_le (T (tS T t p))
    exact ⟨by omega, by omega, fun _ => ⟨by omega, e1⟩, fun q => by omega, a⟩
def fw (t : Nat) (q r : Nat × Bool) : Prop := q.1 ≤ t → q.1 ≤ r.1 ∧ r.1 ≤ t
theorem fw_refl (t : Nat) (q : Nat × Bool) : fw t q q := fun h => ⟨Nat.le_refl _, h⟩
theorem fw_trans {t : Nat} {q r s : Nat × Bool} (h1 : fw t q r) (h2 : fw t r s) : fw t q s := fun h => by
  have a := h1 h
  have b := h2 a.2
  exact ⟨by omega, b.2⟩
theorem fw_nd (T : Nat → Nat) (t : Nat) (b : Bool) (q : Nat × Bool) : fw t q (nd T t b q) := fun h => by
  unfold nd
  split
  · exact ⟨Nat.le_refl _, h⟩
  · split
    · have := tE_ge T h
      exact ⟨this.1, this.2.1⟩
    · exact ⟨Nat.le_refl _, h⟩
theorem fw_ph (T : Nat → Nat) (t : Nat) (ws : List Nat) (most : Nat) (q : Nat × Bool) : fw t q (ph T t ws most q) := by
  cases r : hB T t ws q with
  | false => rw [ph_no r]; exact fw_refl t q
  | true => rw [ph_yes r]; exact fw_trans (fw_nd T t _ _) (fw_nd T t _ _)
theorem fw_wq (T : Nat → Nat) (t : Nat) (q : Nat × Bool) : ∀ k, fw t q (wq T t q k) := fun k => by
  induction k with
  | zero => exact fw_refl t q
  | succ k ih => exact fw_trans ih (fw_nd T t _ _)
theorem fw_chP (T : Nat → Nat) (t : Nat) (q : Nat × Bool) : fw t q (chP T t q) := by
  have a : fw t q (cA T t q) := fw_trans (fw_nd T t _ _) (fw_trans (fw_nd T t _ _) (fw_trans (fw_nd T t _ _) (fw_nd T t _ _)))
  have b : fw t q (cF T t q) := fw_trans a (fw_trans (fw_ph T t _ _ _) (fw_ph T t _ _ _))
  refine fw_trans b ?_
  unfold chP cQ
  split
  · exact fw_trans (fw_ph T t _ _ _) (fw_trans (fw_nd T t _ _) (fw_nd T t _ _))
  · exact fw_refl t _
theorem fw_itX (T : Nat → Nat) {t p : Nat} (m : Nat) (h : p ≤ t) : p ≤ (itX T t p m).1 ∧ (itX T t p m).1 ≤ t := by
  have e : fw t (p, false) (tE T t p, false) := fun _ => by have := tE_ge T h; exact ⟨this.1, this.2.1⟩
  unfold itX
  split
  · exact fw_trans e (fw_trans (fw_nd T t _ _) (fw_trans (fw_nd T t _ _) (fw_nd T t _ _))) h
  · split
    · exact fw_trans e (fw_trans (fw_nd T t _ _) (fw_wq T t _ _)) h
    · split
      · exact fw_trans e (fw_chP T t _) h
      · exact ⟨Nat.le_refl _, h⟩
/-- before item i: the cursor, and how many chimneys are told -/
noncomputable def tq (T : Nat → Nat) (t m : Nat) : Nat → Nat × Nat
  | 0 => (0, m)
  | i + 1 => (tE T t (itX T t (tq T t m i).1 (tq T t m i).2).1, itM T t (tq T t m i).1 (tq T t m i).2)
/-- the cursor behind item i -/
noncomputable def tI (T : Nat → Nat) (t m i : Nat) : Nat × Bool := itX T t (tq T t m i).1 (tq T t m i).2
def tGo (T : Nat → Nat) (t m i : Nat) : Prop := (tI T t m i).2 = false ∧ tK T t (tI T t m i).1 = 3
theorem tq_ge {T : Nat → Nat} {t m : Nat} : ∀ i, (∀ j, j < i → tGo T t m j) → i ≤ (tq T t m i).1 ∧ (tq T t m i).1 ≤ t := fun i => by
  induction i with
  | zero => intro _; exact ⟨Nat.zero_le _, Nat.zero_le _⟩
  | succ i ih =>
    intro h
    have a := ih (fun j hj => h j (by omega))
    have b := fw_itX T (tq T t m i).2 a.2
    have c := tE_ge T b.2
    have d := c.2.2.1 (by rw [show tK T t (itX T t (tq T t m i).1 (tq T t m i).2).1 = 3 from (h i (by omega)).2]; omega)
    show i + 1 ≤ tE T t (itX T t (tq T t m i).1 (tq T t m i).2).1 ∧ tE T t (itX T t (tq T t m i).1 (tq T t m i).2).1 ≤ t
    omega
theorem tGo_lt {T : Nat → Nat} {t m i : Nat} (h : ∀ j, j ≤ i → tGo T t m j) : i < t := by
  have a := tq_ge i (fun j hj => h j (by omega))
  have b := fw_itX T (tq T t m i).2 a.2
  have c := tE_ge T b.2
  have d := c.2.2.1 (by rw [show tK T t (itX T t (tq T t m i).1 (tq T t m i).2).1 = 3 from (h i (Nat.le_refl _)).2]; omega)
  omega
theorem tN_ex (T : Nat → Nat) {t : Nat} (m : Nat) (ht : t ≤ 120) : ∃ N, N ≤ 120 ∧ ¬ tGo T t m N ∧ ∀ i, i < N → tGo T t m i := by
  rcases first_ex (fun i => ¬ tGo T t m i) 120 with ⟨K, hK, hZ, hlt⟩ | hno
  · exact ⟨K, hK, hZ, fun i hi => Classical.byContradiction (hlt i hi)⟩
  · have := tGo_lt (i := 120) (fun j hj => Classical.byContradiction (hno j hj))
    omega
theorem itM_le {T : Nat → Nat} {t p m : Nat} (h : (itX T t p m).2 = false) (hm : m ≤ 8) : itM T t p m ≤ 8 := by
  rcases itX_told h with c | ⟨-, -, c1, c2, -⟩
  · rw [itM_roof c]; exact hm
  · rw [itM_kd c1]; omega
theorem tq_m {T : Nat → Nat} {t m : Nat} (hm : m ≤ 8) : ∀ i, (∀ j, j < i → tGo T t m j) → (tq T t m i).2 ≤ 8 := fun i => by
  induction i with
  | zero => intro _; exact hm
  | succ i ih =>
    intro h
    exact itM_le (h i (by omega)).1 (ih (fun j hj => h j (by omega)))
/-- whether the text is at fault, found behind its last item N -/
noncomputable def tB (T : Nat → Nat) (t m N : Nat) : Bool := (tI T t m N).2 || decide (tK T t (tI T t m N).1 ≠ 0)
theorem X4_rewind (f : FN) {T : Nat → Nat} {t : Nat} (hT : TPX f T t) : ∃ g, D_X4_rewind [.ref 78] (memOf f) = some (.null, memOf g) ∧ (∀ x, x ≠ 78 → g x = f x) ∧ cuX g T t 0 false := by
  obtain ⟨f1, hf⟩ : ∃ f1, f1 = row f 78 (upd (upd (f 78) 2 (-1)) 5 0) := ⟨_, rfl⟩
  have e1 : f1 78 1 = f 78 1 := by rw [hf, row_self, upd_ne _ _ (by omega), upd_ne _ _ (by omega)]
  have e2 : f1 78 2 = -1 := by rw [hf, row_self, upd_ne _ _ (by omega), upd_self]
  have e5 : f1 78 5 = nI 0 := by rw [hf, row_self, upd_self]; rfl
  have en : ∀ x, x ≠ 78 → f1 x = f x := fun x hx => by rw [hf, row_ne _ _ hx]
  have hT1 : TPX f1 T t := ⟨by rw [e1]; exact hT.1, hT.2.1, fun i hi => by rw [en 79 (by omega)]; exact hT.2.2 i hi⟩
  obtain ⟨g, A1, A2, A3, A4, A5, A6, A7⟩ := X4_next f1 hT1 e5 (tk_ok T (Nat.zero_le t))
  rw [hf] at A1
  refine ⟨g, ?_, fun x hx => by rw [A2 x hx, en x hx], Nat.zero_le _, ⟨by rw [A3]; exact hT1.1, hT.2.1, fun i hi => by rw [A2 79 (by omega)]; exact hT1.2.2 i hi⟩, ⟨A5, A6, A7⟩, ?_⟩
  · simp [D_X4_rewind, S_X4_rewind, m_den, l0, Value.category, s_seq, s_if, s_st, s_ret, s_retz, s_retv, s_skip, s_sc, s_inc, s_call, e_c, e_li, e_lr, e_lj, e_un, e_bin, e_if, e_b, b_not, b_and, b_or, b_of, e_call, a_recv, a_snoc, a_nil, prI, prJ, prR, e_gi, e_gr, e_ai, e_ar, s_as, s_aop, s_pf, s_pfz, s_fop, l_set, l_ok, e_div, e_rem, e_len, s_tab, p_78_2, p_78_5, row_row, row_self, rc_78, A1]
  · rw [A4, e2]; rfl
