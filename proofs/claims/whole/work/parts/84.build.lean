/-! build -/
theorem stp_Sc (tr : Nat → Nat) (w b : Nat) (q : SMK) (c : Nat) : (stp tr w b q).2.1 c = q.2.1 c + ptp tr w b q c := by
  have e : (smWind w (smBurn (tr 2) b q)).2.1 = q.2.1 := by unfold smWind smBurn; split <;> rfl
  unfold stp smSet ptp
  simp only
  rw [e]
theorem run_Sc (tr wd bb : Nat → Nat) (h : Nat) (q : SMK) (c : Nat) : ∀ n, (run tr wd bb h n q).2.1 c = q.2.1 c + csI n (fun j => ptR tr wd bb h j q c) := by
  intro n
  induction n with
  | zero => rfl
  | succ n ih =>
    show (stp _ _ _ _).2.1 c = _
    rw [stp_Sc, ih, csI_succ]
    unfold ptR
    omega
def coT (TRS : Nat → Nat → Nat) (wd : Nat → Nat) (h : Nat) (Q : Nat → SMK) (n o c k : Nat) : Int := if TRS k 1 = o then 0 else (csI n (fun j => ptR (TRS k) wd (bM (TRS k)) h j (Q k) c) : Nat) * woM (TRS k 0)
def coC (TRS : Nat → Nat → Nat) (wd : Nat → Nat) (h : Nat) (Q : Nat → SMK) (n o m c : Nat) : Int := ciI m (coT TRS wd h Q n o c)
theorem X6_addCosts (g : FN) {i : Nat} {q q' : SMK} {tr : Nat → Nat} {d : Nat → Nat} {co : Nat → Int} (hi : isCh i) (hi2 : i + 3 < 82) (hq : HC g i q) (h82 : HC g 82 q') (hd : ∀ c, c < 36 → q'.2.1 c = q.2.1 c + d c) (ht : HTr g i tr) (hb : TB tr) (hc : ∀ c, c < 36 → g 94 c = iI (co c)) : ∃ g2, D_X6_addCosts [.ref 0, .ref i] (memOf g) = some (.null, memOf g2) ∧ (∀ x, x ≠ 94 → g2 x = g x) ∧ ∀ c, c < 36 → g2 94 c = iI (co c + (d c : Int) * woM (tr 0)) := by
  have k0 : tr 0 < 7 := by have := hb 0 (by omega); simp only [lim] at this; omega
  have WO := X0_worth g hi k0 (ht 0 (by omega))
  rw [woM_eq k0] at WO
  have key := while_rel (b := WB_X6_addCosts_1) (s := WS_X6_addCosts_1) (fun j => [.ref 0, .ref i, .int (iI (woM (tr 0))), .int (nI j)]) (fun j f => (∀ x, x ≠ 94 → f x = g x) ∧ ∀ c, c < 36 → f 94 c = iI (if c < j then co c + (d c : Int) * woM (tr 0) else co c)) 36 (by unfold FU; omega) (fun j f hj hI => ?_) (fun j f hj hI => ?_) (fun f hI => ?_) (f := g) ⟨fun _ _ => rfl, fun c hc' => by rw [if_neg (by omega)]; exact hc c hc'⟩
  · obtain ⟨g2, W, I1, I2⟩ := key
    refine ⟨g2, ?_, I1, fun c hc' => by rw [I2 c hc', if_pos hc']⟩
    have W' : W_X6_addCosts_1 [.ref 0, .ref i, .int (iI (woM (tr 0))), .int 0] (memOf g) = some (.inl ([.ref 0, .ref i, .int (iI (woM (tr 0))), .int (nI 36)], memOf g2)) := W
    simp [D_X6_addCosts, S_X6_addCosts, m_den, l0, Value.category, s_seq, s_if, s_st, s_ret, s_retz, s_retv, s_skip, s_sc, s_inc, s_call, e_c, e_li, e_lr, e_lj, e_un, e_bin, e_if, e_b, b_not, b_and, b_or, b_of, e_call, a_recv, a_snoc, a_nil, prI, prJ, prR, e_gi, e_gr, e_ai, e_ar, s_as, s_aop, s_pf, s_pfz, s_fop, l_set, l_ok, e_div, e_rem, e_len, s_tab, rcch g hi, WO, W']
  · have e : nI j < (36 : Int32) := lt_lit (n := 36) hj (by omega)
    simp [WB_X6_addCosts_1, m_den, l0, Value.category, s_seq, s_if, s_st, s_ret, s_retz, s_retv, s_skip, s_sc, s_inc, s_call, e_c, e_li, e_lr, e_lj, e_un, e_bin, e_if, e_b, b_not, b_and, b_or, b_of, e_call, a_recv, a_snoc, a_nil, prI, prJ, prR, e_gi, e_gr, e_ai, e_ar, s_as, s_aop, s_pf, s_pfz, s_fop, l_set, l_ok, e_div, e_rem, e_len, s_tab, e]
  · obtain ⟨I1, I2⟩ := hI
    have r1 := rd_85 f hj
    rw [I1 85 (by omega)] at r1
    have r1' : gm_rd (memOf f) 85 (nI j) = some (nI (q.2.1 j + d j)) := by rw [r1, ← hd j hj]; exact congrArg some (h82.2.1 j hj)
    have r2 := rds f hi hj
    rw [I1 (i + 3) (by omega), hq.2.1 j hj] at r2
    have e1 : (nI (q.2.1 j + d j) - nI (q.2.1 j)) * iI (woM (tr 0)) = iI ((d j : Int) * woM (tr 0)) := by
      rw [nI_s (by omega), Nat.add_sub_cancel_left, iI_n, iI_m]
    refine ⟨row f 94 (upd (f 94) j (f 94 j + iI ((d j : Int) * woM (tr 0)))), ?_, fun x hx => by rw [row_ne _ _ hx]; exact I1 x hx, fun c hc' => ?_⟩
    · simp [WS_X6_addCosts_1, m_den, l0, Value.category, s_seq, s_if, s_st, s_ret, s_retz, s_retv, s_skip, s_sc, s_inc, s_call, e_c, e_li, e_lr, e_lj, e_un, e_bin, e_if, e_b, b_not, b_and, b_or, b_of, e_call, a_recv, a_snoc, a_nil, prI, prJ, prR, e_gi, e_gr, e_ai, e_ar, s_as, s_aop, s_pf, s_pfz, s_fop, l_set, l_ok, e_div, e_rem, e_len, s_tab, g_0_12, g_0_6, g_82_2, gch2 f hi, rd_94 f hj, wr_94 f hj, r1', r2, e1, nI_next]
    · rw [row_self]
      by_cases e : c = j
      · subst e; rw [upd_self, I2 c hc', if_neg (by omega), if_pos (by omega), iI_a]
      · rw [upd_ne _ _ e, I2 c hc']
        by_cases e2 : c < j
        · rw [if_pos e2, if_pos (by omega)]
        · rw [if_neg e2, if_neg (by omega)]
  · have e : ¬ nI 36 < (36 : Int32) := nlt_lit (n := 36) (by omega)
    simp [WB_X6_addCosts_1, m_den, l0, Value.category, s_seq, s_if, s_st, s_ret, s_retz, s_retv, s_skip, s_sc, s_inc, s_call, e_c, e_li, e_lr, e_lj, e_un, e_bin, e_if, e_b, b_not, b_and, b_or, b_of, e_call, a_recv, a_snoc, a_nil, prI, prJ, prR, e_gi, e_gr, e_ai, e_ar, s_as, s_aop, s_pf, s_pfz, s_fop, l_set, l_ok, e_div, e_rem, e_len, s_tab, e]
theorem X6_playCosts (f : FN) {m : Nat} {TRS : Nat → Nat → Nat} {ro : Nat → Option Nat} {wd : Nat → Nat} {Q : Nat → SMK} {bo : Nat → Int} {h : Nat} (w : TW f m TRS ro wd Q bo h) {o n : Nat} (ho : o < 6) (hN : h + n ≤ 9999) : ∃ g, D_X6_playCosts [.ref 0, .int (nI o), .int (nI n)] (memOf f) = some (.null, memOf g) ∧ (∀ x, ¬ (82 ≤ x ∧ x ≤ 89) → x ≠ 94 → g x = f x) ∧ ∀ c, c < 36 → g 94 c = iI (coC TRS wd h Q n o m c) := by
  have m8 := w.2.1.1.2
  have hAl := w.A_le
  have F0 := J7_fill f sh_94 (by omega) 0
  obtain ⟨f0, h0⟩ : ∃ f0, f0 = row f 94 (fil 36 0 (f 94)) := ⟨_, rfl⟩
  rw [← h0] at F0
  obtain ⟨f1, T1, T2, T3⟩ := X3_begin f0
  have key := while_rel (b := WB_X6_playCosts_1) (s := WS_X6_playCosts_1) (fun c => [.ref 0, .int (nI o), .int (nI n), .int (nI c)]) (fun c g => (∀ x, ¬ (82 ≤ x ∧ x ≤ 89) → x ≠ 94 → g x = f x) ∧ (∃ t, HT g t) ∧ ∀ x, x < 36 → g 94 x = iI (coC TRS wd h Q n o c x)) m (by unfold FU; omega) (fun c g hc hI => ?_) (fun c g hc hI => ?_) (fun g hI => ?_) (f := f1) ⟨fun x h1 h2 => by rw [T3 x (by omega), h0, row_ne _ _ h2], ⟨_, T2⟩, fun x hx => by rw [T3 94 (by omega), h0, row_self, fil_in _ _ hx]; rfl⟩
  · obtain ⟨g, W, I1, -, I3⟩ := key
    refine ⟨g, ?_, I1, I3⟩
    have W' : W_X6_playCosts_1 [.ref 0, .int (nI o), .int (nI n), .int 0] (memOf f1) = some (.inl ([.ref 0, .int (nI o), .int (nI n), .int (nI m)], memOf g)) := W
    simp [D_X6_playCosts, S_X6_playCosts, m_den, l0, Value.category, s_seq, s_if, s_st, s_ret, s_retz, s_retv, s_skip, s_sc, s_inc, s_call, e_c, e_li, e_lr, e_lj, e_un, e_bin, e_if, e_b, b_not, b_and, b_or, b_of, e_call, a_recv, a_snoc, a_nil, prI, prJ, prR, e_gi, e_gr, e_ai, e_ar, s_as, s_aop, s_pf, s_pfz, s_fop, l_set, l_ok, e_div, e_rem, e_len, s_tab, g_0_12, F0, g_0_7, rc_86, T1, W']
  · have e1 : g 1 2 = nI m := by rw [hI.1 1 (by omega) (by omega)]; exact w.1.2.2.2
    have e : nI c < nI m := (nI_lt_iff (by omega) (by omega)).mpr hc
    simp [WB_X6_playCosts_1, m_den, l0, Value.category, s_seq, s_if, s_st, s_ret, s_retz, s_retv, s_skip, s_sc, s_inc, s_call, e_c, e_li, e_lr, e_lj, e_un, e_bin, e_if, e_b, b_not, b_and, b_or, b_of, e_call, a_recv, a_snoc, a_nil, prI, prJ, prR, e_gi, e_gr, e_ai, e_ar, s_as, s_aop, s_pf, s_pfz, s_fop, l_set, l_ok, e_div, e_rem, e_len, s_tab, g_0_0, g_1_2, e1, e]
  · obtain ⟨I1, ⟨t, I2⟩, I3⟩ := hI
    have wg := w.congr (g := g) (fun j hj => I1 j (by omega) (by omega)) (I1 104 (by omega) (by omega))
    have hC := isCh_town (b := 1) (c := c) (Or.inl rfl) (by omega)
    have hcc : 7 ≤ chId 1 c ∧ chId 1 c + 3 ≤ 38 := by unfold chId; omega
    obtain ⟨⟨b1, b2, b3, b4⟩, hS, sp, ro', wd', bk', tk, bn⟩ := id wg
    have t1 := (sp c hc).2.2 1 (by omega)
    have k1 : TRS c 1 < 6 := by have := (hS.2.1 c hc).2 1 (by omega); simp only [lim] at this; omega
    have es : ∀ x, coC TRS wd h Q n o (c + 1) x = coC TRS wd h Q n o c x + coT TRS wd h Q n o x c := fun x => rfl
    by_cases co : TRS c 1 = o
    · have q : nI (TRS c 1) = nI o := by rw [co]
      refine ⟨g, ?_, I1, ⟨t, I2⟩, fun x hx => ?_⟩
      · rw [q] at t1
        simp [WS_X6_playCosts_1, m_den, l0, Value.category, s_seq, s_if, s_st, s_ret, s_retz, s_retv, s_skip, s_sc, s_inc, s_call, e_c, e_li, e_lr, e_lj, e_un, e_bin, e_if, e_b, b_not, b_and, b_or, b_of, e_call, a_recv, a_snoc, a_nil, prI, prJ, prR, e_gi, e_gr, e_ai, e_ar, s_as, s_aop, s_pf, s_pfz, s_fop, l_set, l_ok, e_div, e_rem, e_len, s_tab, g_0_0, g_1_7, rr_6 g (show c < 8 by omega), gch0 g hC, rdt1 g hC, t1, nI_next]
      · rw [I3 x hx, es]
        unfold coT
        rw [if_pos co, Int.add_zero]
    · have q : ¬ nI (TRS c 1) = nI o := fun e => co ((nI_inj (by omega) (by omega)).mp e)
      obtain ⟨g1, U1, U2, U3, U4⟩ := trial_take g sp hc m8
      obtain ⟨g2, P1, P2, P3, P4⟩ := X5_playHours g1 (n0 := 0) (n := n) (q := Q c) isCh_82 (by omega) (by rw [U4 1 (by omega)]; exact b1) U2 U3 (hS.2.1 c hc).2 (ro'.congr (U4 2 (by omega))) (wd'.congr (U4 3 (by omega))) (I2.congr (fun j h1 h2 => U4 j (by omega))) (hAl c hc) (by omega)
      rw [Nat.zero_add] at P2
      have E2 : ∀ x, ¬ (82 ≤ x ∧ x ≤ 89) → g2 x = g x := fun x hx => by rw [P4 x (by omega) (by omega) (by omega) (by omega), U4 x (by omega)]
      obtain ⟨g3, A1, A2, A3⟩ := X6_addCosts g2 (i := chId 1 c) (q := Q c) (tr := TRS c) (d := fun x => csI n (fun j => ptR (TRS c) wd (bM (TRS c)) h j (Q c) x)) (co := coC TRS wd h Q n o c) hC (by omega) ((sp c hc).2.1.congr (fun j h1 h2 _ => E2 j (by omega))) P2 (fun x _ => run_Sc _ _ _ _ _ x n) ((sp c hc).2.2.congr (E2 _ (by omega))) (hS.2.1 c hc).2 (fun x hx => by rw [E2 94 (by omega)]; exact I3 x hx)
      refine ⟨g3, ?_, fun x h1 h2 => by rw [A2 x h2, E2 x h1]; exact I1 x h1 h2, ⟨_, P3.congr (fun j h1 h2 => A2 j (by omega))⟩, fun x hx => ?_⟩
      · have z : nI 0 = 0 := rfl
        rw [z] at P1
        simp [WS_X6_playCosts_1, m_den, l0, Value.category, s_seq, s_if, s_st, s_ret, s_retz, s_retv, s_skip, s_sc, s_inc, s_call, e_c, e_li, e_lr, e_lj, e_un, e_bin, e_if, e_b, b_not, b_and, b_or, b_of, e_call, a_recv, a_snoc, a_nil, prI, prJ, prR, e_gi, e_gr, e_ai, e_ar, s_as, s_aop, s_pf, s_pfz, s_fop, l_set, l_ok, e_div, e_rem, e_len, s_tab, g_0_0, g_1_7, rr_6 g (show c < 8 by omega), gch0 g hC, rdt1 g hC, t1, q, g_0_6, rc_82, U1, g_0_7, rc_1, P1, rc_0, A1, nI_next]
      · rw [A3 x hx, es]
        unfold coT
        rw [if_neg co]
  · have e1 : g 1 2 = nI m := by rw [hI.1 1 (by omega) (by omega)]; exact w.1.2.2.2
    have e : ¬ nI m < nI m := Int32.lt_irrefl
    simp [WB_X6_playCosts_1, m_den, l0, Value.category, s_seq, s_if, s_st, s_ret, s_retz, s_retv, s_skip, s_sc, s_inc, s_call, e_c, e_li, e_lr, e_lj, e_un, e_bin, e_if, e_b, b_not, b_and, b_or, b_of, e_call, a_recv, a_snoc, a_nil, prI, prJ, prR, e_gi, e_gr, e_ai, e_ar, s_as, s_aop, s_pf, s_pfz, s_fop, l_set, l_ok, e_div, e_rem, e_len, s_tab, g_0_0, g_1_2, e1, e]
/-! the first best among some -/
def bs2 (fr : Nat → Bool) (B : Nat → Nat → Bool) : Nat → Option Nat
  | 0 => none
  | c + 1 => if fr c then (match bs2 fr B c with
    | none => some c
    | some b => if B c b then some c else some b) else bs2 fr B c
theorem bs2_lt {fr : Nat → Bool} {B : Nat → Nat → Bool} : ∀ {c b : Nat}, bs2 fr B c = some b → b < c ∧ fr b = true := by
  intro c
  induction c with
  | zero => intro b h; cases h
  | succ c ih =>
    intro b h
    unfold bs2 at h
    split at h
    · rename_i hf
      split at h
      · cases h; exact ⟨by omega, hf⟩
      · rename_i b' hb'
        split at h
        · cases h; exact ⟨by omega, hf⟩
        · cases h
          have := ih hb'
          exact ⟨by omega, this.2⟩
    · have := ih h
      exact ⟨by omega, this.2⟩
theorem bs2_congr {fr : Nat → Bool} {B C : Nat → Nat → Bool} {n : Nat} (h : ∀ v b, v < n → b < n → fr v = true → fr b = true → B v b = C v b) : bs2 fr B n = bs2 fr C n := by
  induction n with
  | zero => rfl
  | succ n ih =>
    have e := ih (fun v b h1 h2 => h v b (by omega) (by omega))
    unfold bs2
    rw [e]
    split
    · rename_i hf
      split
      · rfl
      · rename_i b hb
        have hl := bs2_lt hb
        rw [h n b (by omega) (by omega) hf hl.2]
    · rfl
def ms2 (fr : Nat → Bool) (B : Nat → Nat → Bool) (Y : Nat → Int32) (c : Nat) : Int32 := match bs2 fr B c with
  | none => 0
  | some b => Y b
theorem bs2_off {fr : Nat → Bool} {B : Nat → Nat → Bool} {c : Nat} (h : fr c = false) : bs2 fr B (c + 1) = bs2 fr B c := by
  show (if fr c then _ else bs2 fr B c) = _
  rw [h]; rfl
theorem bs2_first {fr : Nat → Bool} {B : Nat → Nat → Bool} {c : Nat} (h : fr c = true) (h2 : bs2 fr B c = none) : bs2 fr B (c + 1) = some c := by
  show (if fr c then (match bs2 fr B c with
    | none => some c
    | some b => if B c b then some c else some b) else bs2 fr B c) = _
  rw [h, h2]; rfl
theorem bs2_some {fr : Nat → Bool} {B : Nat → Nat → Bool} {c b : Nat} (h : fr c = true) (h2 : bs2 fr B c = some b) : bs2 fr B (c + 1) = if B c b then some c else some b := by
  show (if fr c then (match bs2 fr B c with
    | none => some c
    | some b => if B c b then some c else some b) else bs2 fr B c) = _
  rw [h, h2]; rfl
