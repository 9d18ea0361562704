/-! hours of one chimney -/
def bM (tr : Nat → Nat) (cl : Nat) : Nat := if litN (tr 5) (tr 6) cl then burM (tr 0) (tr 4) cl else 0
def run (tr wd bb : Nat → Nat) (h : Nat) : Nat → SMK → SMK
  | 0, q => q
  | n + 1, q => stp tr (wd ((h + n) % 24)) (bb ((h + n) % 24)) (run tr wd bb h n q)
def ptR (tr wd bb : Nat → Nat) (h n : Nat) (q : SMK) : Nat → Nat := ptp tr (wd ((h + n) % 24)) (bb ((h + n) % 24)) (run tr wd bb h n q)
def tlR (tr wd bb : Nat → Nat) (ro : Nat → Option Nat) (h n0 : Nat) (q : SMK) : Nat → TL → TL
  | 0, t => t
  | n + 1, t => tlS 36 (ptR tr wd bb h (n0 + n) q) (woM (tr 0)) (tr 1) ro (tlR tr wd bb ro h n0 q n t)
def WD (wd : Nat → Nat) : Prop := ∀ c, c < 24 → wd c < 5
theorem HWi.wd {f : FN} {wd : Nat → Nat} (h : HWi f wd) : WD wd := fun c hc => (h c hc).2
theorem run_le {tr wd bb : Nat → Nat} {h M : Nat} {q : SMK} (hw : WD wd) (hb : ∀ c, c < 24 → bb c ≤ 203) (hq : ∀ c, c < 36 → q.1 c ≤ M) : ∀ n c, c < 36 → (run tr wd bb h n q).1 c ≤ M + 203 * n := by
  intro n
  induction n with
  | zero => exact hq
  | succ n ih =>
    intro c hc
    have hm : (h + n) % 24 < 24 := Nat.mod_lt _ (by omega)
    have a := stp_le (tr := tr) (b := bb ((h + n) % 24)) (hw _ hm) ih c hc
    have b := hb _ hm
    show (stp tr (wd ((h + n) % 24)) (bb ((h + n) % 24)) (run tr wd bb h n q)).1 c ≤ M + 203 * (n + 1)
    omega
theorem bM_le {tr : Nat → Nat} (hb : TB tr) (cl : Nat) : bM tr cl ≤ 203 := by
  have hfr : tr 4 ≤ 99 := hb 4 (by omega)
  unfold bM
  split
  · exact burM_le hfr
  · omega
theorem X5_playHours (f : FN) {i h n0 n : Nat} {q : SMK} {tr wd : Nat → Nat} {ro : Nat → Option Nat} {t : TL} (hC : isCh i) (hi : 3 < i ∧ i + 3 < 86) (hh : f 1 0 = nI h) (hq : HC f i (run tr wd (bM tr) h n0 q)) (ht : HTr f i tr) (hb : TB tr) (hR : HRo f ro) (hW : HWi f wd) (hT : HT f t) (hA : ∀ c, c < 36 → q.1 c ≤ 203 * h) (hN : h + n0 + n ≤ 10100) : ∃ g, D_X5_playHours [.ref 1, .ref i, .int (nI n0), .int (nI n), .ref 86] (memOf f) = some (.null, memOf g) ∧ HC g i (run tr wd (bM tr) h (n0 + n) q) ∧ HT g (tlR tr wd (bM tr) ro h n0 q n t) ∧ ∀ j, j ≠ i → j ≠ i + 2 → j ≠ i + 3 → ¬ (86 ≤ j ∧ j ≤ 89) → g j = f j := by
  have f5 : tr 5 < 24 := by have := hb 5 (by omega); simp only [lim] at this; omega
  have f6 : tr 6 ≤ 24 := hb 6 (by omega)
  have key := while_rel (b := WB_X5_playHours_1) (s := WS_X5_playHours_1) (fun k => [.ref 1, .ref i, .int (nI n0), .int (nI n), .ref 86, .int (nI k)]) (fun k g => (∀ j, j ≠ i → j ≠ i + 2 → j ≠ i + 3 → ¬ (86 ≤ j ∧ j ≤ 89) → g j = f j) ∧ HC g i (run tr wd (bM tr) h (n0 + k) q) ∧ HT g (tlR tr wd (bM tr) ro h n0 q k t)) n (by unfold FU; omega) (fun k g hk hI => ?_) (fun k g hk hI => ?_) (fun g hI => ?_) (f := f) ⟨fun _ _ _ _ _ => rfl, hq, hT⟩
  · obtain ⟨g, W, I1, I2, I3⟩ := key
    refine ⟨g, ?_, I2, I3, I1⟩
    have W' : W_X5_playHours_1 [.ref 1, .ref i, .int (nI n0), .int (nI n), .ref 86, .int 0] (memOf f) = some (.inl ([.ref 1, .ref i, .int (nI n0), .int (nI n), .ref 86, .int (nI n)], memOf g)) := W
    simp [D_X5_playHours, S_X5_playHours, m_den, l0, Value.category, s_seq, s_if, s_st, s_ret, s_retz, s_retv, s_skip, s_sc, s_inc, s_call, e_c, e_li, e_lr, e_lj, e_un, e_bin, e_if, e_b, b_not, b_and, b_or, b_of, e_call, a_recv, a_snoc, a_nil, prI, prJ, prR, e_gi, e_gr, e_ai, e_ar, s_as, s_aop, s_pf, s_pfz, s_fop, l_set, l_ok, e_div, e_rem, e_len, s_tab, W']
  · have e : nI k < nI n := (nI_lt_iff (by omega) (by omega)).mpr hk
    simp [WB_X5_playHours_1, m_den, l0, Value.category, s_seq, s_if, s_st, s_ret, s_retz, s_retv, s_skip, s_sc, s_inc, s_call, e_c, e_li, e_lr, e_lj, e_un, e_bin, e_if, e_b, b_not, b_and, b_or, b_of, e_call, a_recv, a_snoc, a_nil, prI, prJ, prR, e_gi, e_gr, e_ai, e_ar, s_as, s_aop, s_pf, s_pfz, s_fop, l_set, l_ok, e_div, e_rem, e_len, s_tab, e]
  · obtain ⟨I1, I2, I3⟩ := hI
    have e1 := I1 1 (by omega) (by omega) (by omega) (by omega)
    have hm : (h + n0 + k) % 24 < 24 := Nat.mod_lt _ (by omega)
    have r : nI h + nI n0 + nI k - (nI h + nI n0 + nI k) / 24 * 24 = nI ((h + n0 + k) % 24) := by
      rw [nI_a, nI_a]; exact rem24 (by omega)
    have hTr := ht.congr (I1 (i + 1) (by omega) (by omega) (by omega) (by omega))
    have Lt := X0_isLitAt g hC f5 f6 hm (hTr 5 (by omega)) (hTr 6 (by omega))
    have hA' : ∀ c, c < 36 → (run tr wd (bM tr) h (n0 + k) q).1 c ≤ 2999000 := fun c hc => by
      have := run_le (tr := tr) (h := h) hW.wd (fun c _ => bM_le hb c) hA (n0 + k) c hc
      omega
    obtain ⟨g2, P1, P2, P3, P4⟩ := X5_playClock g (b := litN (tr 5) (tr 6) ((h + n0 + k) % 24)) hC hi I2 hTr hb (hR.congr (I1 2 (by omega) (by omega) (by omega) (by omega))) (hW.congr (I1 3 (by omega) (by omega) (by omega) (by omega))) I3 hm hA'
    refine ⟨g2, ?_, fun j h1 h2 h3 h4 => by rw [P4 j h1 h2 h3 h4, I1 j h1 h2 h3 h4], ?_, ?_⟩
    · have g10 : g 1 0 = nI h := by rw [e1]; exact hh
      simp [WS_X5_playHours_1, m_den, l0, Value.category, s_seq, s_if, s_st, s_ret, s_retz, s_retv, s_skip, s_sc, s_inc, s_call, e_c, e_li, e_lr, e_lj, e_un, e_bin, e_if, e_b, b_not, b_and, b_or, b_of, e_call, a_recv, a_snoc, a_nil, prI, prJ, prR, e_gi, e_gr, e_ai, e_ar, s_as, s_aop, s_pf, s_pfz, s_fop, l_set, l_ok, e_div, e_rem, e_len, s_tab, g_1_0, g10, r, rcch g hC, rc_1, Lt, P1, nI_next]
    · rw [Nat.add_assoc] at P2; exact P2
    · rw [Nat.add_assoc] at P3; exact P3
  · have e : ¬ nI n < nI n := Int32.lt_irrefl
    simp [WB_X5_playHours_1, m_den, l0, Value.category, s_seq, s_if, s_st, s_ret, s_retz, s_retv, s_skip, s_sc, s_inc, s_call, e_c, e_li, e_lr, e_lj, e_un, e_bin, e_if, e_b, b_not, b_and, b_or, b_of, e_call, a_recv, a_snoc, a_nil, prI, prJ, prR, e_gi, e_gr, e_ai, e_ar, s_as, s_aop, s_pf, s_pfz, s_fop, l_set, l_ok, e_div, e_rem, e_len, s_tab, e]
/-! the tally in closed form -/
def dS (tr wd bb : Nat → Nat) (h j : Nat) (q : SMK) : Nat := csI 36 (ptR tr wd bb h j q)
def dC (tr wd bb : Nat → Nat) (ro : Nat → Option Nat) (h j : Nat) (q : SMK) (o : Nat) : Int := ciI 36 (fun c => kC (ptR tr wd bb h j q c) (woM (tr 0)) (tr 1) (ro c) o)
def dO (tr wd bb : Nat → Nat) (ro : Nat → Option Nat) (h j : Nat) (q : SMK) (o : Nat) : Nat := csI 36 (fun c => kO (ptR tr wd bb h j q c) (ro c) o)
def dD (tr wd bb : Nat → Nat) (ro : Nat → Option Nat) (h j : Nat) (q : SMK) (o : Nat) : Nat := csI 36 (fun c => kD (ptR tr wd bb h j q c) (woM (tr 0)) (ro c) o)
theorem tlR_eq (tr wd bb : Nat → Nat) (ro : Nat → Option Nat) (h n0 : Nat) (q : SMK) (n : Nat) (t : TL) : tlR tr wd bb ro h n0 q n t = (t.1 + csI n (fun j => dS tr wd bb h (n0 + j) q), fun o => t.2.1 o + ciI n (fun j => dC tr wd bb ro h (n0 + j) q o), fun o => t.2.2.1 o + csI n (fun j => dO tr wd bb ro h (n0 + j) q o), fun o => t.2.2.2 o + csI n (fun j => dD tr wd bb ro h (n0 + j) q o)) := by
  induction n with
  | zero => simp only [tlR, csI, ciI, Nat.add_zero, Int.add_zero]
  | succ n ih =>
    show tlS 36 (ptR tr wd bb h (n0 + n) q) (woM (tr 0)) (tr 1) ro (tlR tr wd bb ro h n0 q n t) = _
    rw [ih]
    simp only [tlS, csI, ciI, Nat.add_assoc, Int.add_assoc, dS, dC, dO, dD]
