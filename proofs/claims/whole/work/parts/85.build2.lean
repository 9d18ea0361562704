/-! build agrees -/
theorem ciI_upd {n y : Nat} {v : Int} {G H : Nat → Int} (hy : y < n) (h : ∀ z, z < n → z ≠ y → H z = G z) (h2 : H y = G y + v) : ciI n H = ciI n G + v := by
  induction n with
  | zero => exact absurd hy (by omega)
  | succ n ih =>
    show ciI n H + H n = ciI n G + G n + v
    by_cases e : y = n
    · subst e
      rw [ciI_congr (h := G) (fun i hi => h i (by omega) (by omega)), h2]; omega
    · rw [ih (by omega) (fun z hz hne => h z (by omega) hne), h n (by omega) (fun q => e q.symm)]; omega
theorem ciI_neg (n : Nat) (g : Nat → Int) : ciI n (fun i => -(g i)) = -(ciI n g) := by
  induction n with
  | zero => rfl
  | succ n ih => show ciI n (fun i => -(g i)) + -(g n) = -(ciI n g + g n); rw [ih]; omega
theorem ciI_mulr (n : Nat) (p : Nat → Nat) (wo : Int) : ciI n (fun i => (p i : Int) * wo) = (csI n p : Nat) * wo := by
  induction n with
  | zero => simp [ciI, csI]
  | succ n ih =>
    show ciI n (fun i => (p i : Int) * wo) + (p n : Int) * wo = ((csI n p + p n : Nat) : Int) * wo
    rw [ih, Int.natCast_add, Int.add_mul]
def roU (ro : Nat → Option Nat) (c o : Nat) : Nat → Option Nat := fun x => if x = c then some o else ro x
theorem nC_roof {TRS : Nat → Nat → Nat} {wd : Nat → Nat} {ro : Nat → Option Nat} {h : Nat} {Q : Nat → SMK} {c o : Nat} (hc : c < 36) (hr : ro c = none) (i k : Nat) : nC TRS wd (roU ro c o) h Q i k o = nC TRS wd ro h Q i k o + -(if TRS k 1 = o then 0 else (ptR (TRS k) wd (bM (TRS k)) h i (Q k) c : Int) * woM (TRS k 0)) := by
  unfold nC dC
  refine ciI_upd hc (fun z _ hne => ?_) ?_
  · unfold roU; rw [if_neg hne]
  · unfold roU
    rw [if_pos rfl, hr]
    unfold kC
    simp only [if_true]
    by_cases e : TRS k 1 = o
    · rw [if_pos e, if_pos e.symm, Int.sub_self, Int.mul_zero]; rfl
    · rw [if_neg e, if_neg (fun q => e q.symm), Int.zero_sub, Int.mul_neg, Int.mul_one, Int.zero_add]
def baseC (TRS : Nat → Nat → Nat) (wd : Nat → Nat) (ro : Nat → Option Nat) (h : Nat) (Q : Nat → SMK) (m n o : Nat) : Int := ciI n (fun i => ciI m (fun k => nC TRS wd ro h Q i k o))
theorem book_roof {TRS : Nat → Nat → Nat} {wd : Nat → Nat} {ro : Nat → Option Nat} {h : Nat} {Q : Nat → SMK} {m n c o : Nat} (hc : c < 36) (hr : ro c = none) : ciI n (fun i => ciI m (fun k => nC TRS wd (roU ro c o) h Q i k o)) = baseC TRS wd ro h Q m n o - coC TRS wd h Q n o m c := by
  have e1 : ciI n (fun i => ciI m (fun k => nC TRS wd (roU ro c o) h Q i k o)) = baseC TRS wd ro h Q m n o + ciI n (fun i => ciI m (fun k => -(if TRS k 1 = o then 0 else (ptR (TRS k) wd (bM (TRS k)) h i (Q k) c : Int) * woM (TRS k 0)))) := by
    unfold baseC
    rw [← ciI_addf]
    refine ciI_congr (fun i _ => ?_)
    rw [← ciI_addf]
    exact ciI_congr (fun k _ => nC_roof hc hr i k)
  rw [e1, ciI_swap]
  have e2 : ciI m (fun k => ciI n (fun i => -(if TRS k 1 = o then 0 else (ptR (TRS k) wd (bM (TRS k)) h i (Q k) c : Int) * woM (TRS k 0)))) = -(coC TRS wd h Q n o m c) := by
    unfold coC
    rw [← ciI_neg]
    refine ciI_congr (fun k _ => ?_)
    rw [ciI_neg]
    unfold coT
    by_cases e : TRS k 1 = o
    · simp only [if_pos e]; rw [ciI_zero]
    · simp only [if_neg e]; rw [ciI_mulr]
  rw [e2]; omega
theorem coC_bnd {f : FN} {m : Nat} {TRS : Nat → Nat → Nat} {ro : Nat → Option Nat} {wd : Nat → Nat} {Q : Nat → SMK} {bo : Nat → Int} {h : Nat} (w : TW f m TRS ro wd Q bo h) {n c : Nat} (hN : h + n ≤ 9999) (hc : c < 36) (o : Nat) : bnd (coC TRS wd h Q n o m c) 16238376 := by
  have m8 := w.2.1.1.2
  have a : bnd (coC TRS wd h Q n o m c) (csI m (fun i => csI n (fun j => nS TRS wd h Q j i))) := by
    refine ciI_bnd (fun k _ => ?_)
    unfold coT
    by_cases e : TRS k 1 = o
    · rw [if_pos e]; unfold bnd; omega
    · rw [if_neg e]
      have l : csI n (fun j => ptR (TRS k) wd (bM (TRS k)) h j (Q k) c) ≤ csI n (fun j => nS TRS wd h Q j k) := csI_mono (fun j _ => csI_at _ hc)
      obtain ⟨w1, w2⟩ := woM_bnd (TRS k 0)
      obtain ⟨p, ep⟩ : ∃ p, p = csI n (fun j => ptR (TRS k) wd (bM (TRS k)) h j (Q k) c) := ⟨_, rfl⟩
      rw [← ep] at l ⊢
      have m1 : (p : Int) * woM (TRS k 0) ≤ p * 6 := Int.mul_le_mul_of_nonneg_left w2 (Int.natCast_nonneg p)
      have m2 : (p : Int) * (-6) ≤ p * woM (TRS k 0) := Int.mul_le_mul_of_nonneg_left w1 (Int.natCast_nonneg p)
      unfold bnd
      omega
  have d : csI m (fun i => csI n (fun j => nS TRS wd h Q j i)) ≤ m * 2029797 := by
    refine csI_le (fun i hi => ?_)
    have := w.sum_le hi (w.2.1.2.1 i hi).2 n
    unfold nS
    omega
  have e : m * 2029797 ≤ 8 * 2029797 := Nat.mul_le_mul_right _ m8
  unfold bnd at *
  omega
theorem baseC_bnd {f : FN} {m : Nat} {TRS : Nat → Nat → Nat} {ro : Nat → Option Nat} {wd : Nat → Nat} {Q : Nat → SMK} {bo : Nat → Int} {h : Nat} (w : TW f m TRS ro wd Q bo h) {n : Nat} (hN : h + n ≤ 9999) (o : Nat) (ho : o < 6) : bnd (bo o + baseC TRS wd ro h Q m n o) 16238376 := by
  have m8 := w.2.1.1.2
  have a : bnd (bo o) (csI m (fun k => csI 36 (Q k).2.1)) := w.2.2.2.2.2.2.2 o ho
  have b : bnd (baseC TRS wd ro h Q m n o) (csI m (fun i => csI n (fun j => nS TRS wd h Q j i))) := by
    unfold baseC
    rw [ciI_swap]
    exact ciI_bnd (fun i _ => ciI_bnd (fun j _ => dC_bnd _ _ _ _ _ _ _ _))
  have c := bnd_add a b
  have d : csI m (fun k => csI 36 (Q k).2.1) + csI m (fun i => csI n (fun j => nS TRS wd h Q j i)) ≤ m * 2029797 := by
    rw [← csI_addf]
    refine csI_le (fun i hi => ?_)
    have := w.sum_le hi (w.2.1.2.1 i hi).2 n
    unfold nS
    omega
  have e : m * 2029797 ≤ 8 * 2029797 := Nat.mul_le_mul_right _ m8
  unfold bnd at *
  omega
theorem X6_build_W (f : FN) {ro : Nat → Option Nat} (hR : HRo f ro) (o n : Int32) {X : Nat → Int32} {B : Nat → Nat → Bool} (hX : ∀ c, c < 36 → f 94 c = X c) (eB : B = fun v b => decide (X v < X b)) : W_X6_build_1 [.ref 0, .int o, .int n, .int (-1), .int 0] (memOf f) = some (.inl ([.ref 0, .int o, .int n, .int (atv (bs2 (fun c => (ro c).isNone) B 36)), .int (nI 36)], memOf f)) := by
  have key := while_count (b := WB_X6_build_1) (s := WS_X6_build_1) (fun c => ([.ref 0, .int o, .int n, .int (atv (bs2 (fun c => (ro c).isNone) B c)), .int (nI c)], memOf f)) 36 (by unfold FU; omega) (fun c hc => ?_) (fun c hc => ?_) ?_
  · exact key
  · have e : nI c < (36 : Int32) := lt_lit (n := 36) hc (by omega)
    simp [WB_X6_build_1, m_den, l0, Value.category, s_seq, s_if, s_st, s_ret, s_retz, s_retv, s_skip, s_sc, s_inc, s_call, e_c, e_li, e_lr, e_lj, e_un, e_bin, e_if, e_b, b_not, b_and, b_or, b_of, e_call, a_recv, a_snoc, a_nil, prI, prJ, prR, e_gi, e_gr, e_ai, e_ar, s_as, s_aop, s_pf, s_pfz, s_fop, l_set, l_ok, e_div, e_rem, e_len, s_tab, e]
  · have r2 := rd_2 f hc
    rw [(hR c hc).1] at r2
    have r94 := rd_94 f hc
    rw [hX c hc] at r94
    cases hr : ro c with
    | some r =>
      have e : ((nI r : Int32) < 0) = False := eq_false (Int32.not_lt.mpr (nI_pos' (by have := (hR c hc).2 r hr; omega)))
      rw [hr] at r2
      have r2' : gm_rd (memOf f) 2 (nI c) = some (nI r) := r2
      rw [bs2_off (by simp [hr])]
      simp [WS_X6_build_1, m_den, l0, Value.category, s_seq, s_if, s_st, s_ret, s_retz, s_retv, s_skip, s_sc, s_inc, s_call, e_c, e_li, e_lr, e_lj, e_un, e_bin, e_if, e_b, b_not, b_and, b_or, b_of, e_call, a_recv, a_snoc, a_nil, prI, prJ, prR, e_gi, e_gr, e_ai, e_ar, s_as, s_aop, s_pf, s_pfz, s_fop, l_set, l_ok, e_div, e_rem, e_len, s_tab, g_0_0, g_1_3, r2', e, nI_next]
    | none =>
      rw [hr] at r2
      generalize ez : atv none = z at r2
      have e : (z < 0) = True := eq_true (by rw [← ez]; decide)
      cases hb : bs2 (fun c => (ro c).isNone) B c with
      | none =>
        rw [bs2_first (by simp [hr]) hb]
        have e1 : atv (some c) = nI c := rfl
        generalize ez2 : atv none = z2
        have e2 : (z2 = -1) = True := eq_true (by rw [← ez2]; rfl)
        simp [WS_X6_build_1, m_den, l0, Value.category, s_seq, s_if, s_st, s_ret, s_retz, s_retv, s_skip, s_sc, s_inc, s_call, e_c, e_li, e_lr, e_lj, e_un, e_bin, e_if, e_b, b_not, b_and, b_or, b_of, e_call, a_recv, a_snoc, a_nil, prI, prJ, prR, e_gi, e_gr, e_ai, e_ar, s_as, s_aop, s_pf, s_pfz, s_fop, l_set, l_ok, e_div, e_rem, e_len, s_tab, g_0_0, g_1_3, r2, e, e2, e1, nI_next]
      | some b =>
        have hb36 : b < 36 := by have := (bs2_lt hb).1; omega
        rw [bs2_some (by simp [hr]) hb]
        have e1 : atv (some b) = nI b := rfl
        have e1c : atv (some c) = nI c := rfl
        have e2 := nI_nm1 (x := b) (by omega)
        have rb := rd_94 f hb36
        rw [hX b hb36] at rb
        by_cases q : X c < X b
        · have qB : B c b = true := by rw [eB]; exact decide_eq_true q
          rw [if_pos qB, e1, e1c]
          simp [WS_X6_build_1, m_den, l0, Value.category, s_seq, s_if, s_st, s_ret, s_retz, s_retv, s_skip, s_sc, s_inc, s_call, e_c, e_li, e_lr, e_lj, e_un, e_bin, e_if, e_b, b_not, b_and, b_or, b_of, e_call, a_recv, a_snoc, a_nil, prI, prJ, prR, e_gi, e_gr, e_ai, e_ar, s_as, s_aop, s_pf, s_pfz, s_fop, l_set, l_ok, e_div, e_rem, e_len, s_tab, g_0_0, g_1_3, r2, e, e2, g_0_12, r94, rb, q, nI_next]
        · have qB : ¬ B c b = true := by rw [eB]; simp only [decide_eq_true_iff]; exact q
          rw [if_neg qB, e1]
          simp [WS_X6_build_1, m_den, l0, Value.category, s_seq, s_if, s_st, s_ret, s_retz, s_retv, s_skip, s_sc, s_inc, s_call, e_c, e_li, e_lr, e_lj, e_un, e_bin, e_if, e_b, b_not, b_and, b_or, b_of, e_call, a_recv, a_snoc, a_nil, prI, prJ, prR, e_gi, e_gr, e_ai, e_ar, s_as, s_aop, s_pf, s_pfz, s_fop, l_set, l_ok, e_div, e_rem, e_len, s_tab, g_0_0, g_1_3, r2, e, e2, g_0_12, r94, rb, q, nI_next]
  · have e : ¬ nI 36 < (36 : Int32) := nlt_lit (n := 36) (by omega)
    simp [WB_X6_build_1, m_den, l0, Value.category, s_seq, s_if, s_st, s_ret, s_retz, s_retv, s_skip, s_sc, s_inc, s_call, e_c, e_li, e_lr, e_lj, e_un, e_bin, e_if, e_b, b_not, b_and, b_or, b_of, e_call, a_recv, a_snoc, a_nil, prI, prJ, prR, e_gi, e_gr, e_ai, e_ar, s_as, s_aop, s_pf, s_pfz, s_fop, l_set, l_ok, e_div, e_rem, e_len, s_tab, e]
theorem X7_build_W (f : FN) {m : Nat} {TRS : Nat → Nat → Nat} {ro : Nat → Option Nat} {wd : Nat → Nat} {Q : Nat → SMK} {bo : Nat → Int} {h : Nat} (w : TW f m TRS ro wd Q bo h) (h6 : ∀ y, y < 735 → f 106 y = f 104 y) {o n : Nat} (ho : o < 6) (hN : h + n ≤ 9999) {Y : Nat → Int32} {B : Nat → Nat → Bool} (eY : Y = fun c => iI (bo o + (baseC TRS wd ro h Q m n o - coC TRS wd h Q n o m c))) (eB : B = fun v b => decide (Y b < Y v)) : ∃ y g, W_X7_build_1 [.ref 103, .int (nI o), .int (nI n), .int (-1), .int 0, .int 0] (memOf f) = some (.inl ([.ref 103, .int (nI o), .int (nI n), .int (atv (bs2 (fun c => (ro c).isNone) B 36)), .int y, .int (nI 36)], memOf g)) ∧ (∀ x, x ≠ 103 → x ≠ 108 → x ≠ 109 → g x = f x) ∧ ∀ y, y ≠ 9 → g 103 y = f 103 y := by
  have hAl := w.A_le
  have m8 := w.2.1.1.2
  obtain ⟨⟨b1, b2, b3, b4⟩, hS, sp, ro', wd', bk', tk, bn⟩ := id w
  have key := while_rel (b := WB_X7_build_1) (s := WS_X7_build_1) (fun c => [.ref 103, .int (nI o), .int (nI n), .int (atv (bs2 (fun c => (ro c).isNone) B c)), .int (ms2 (fun c => (ro c).isNone) B Y c), .int (nI c)]) (fun c g => (∀ x, x ≠ 103 → x ≠ 108 → x ≠ 109 → g x = f x) ∧ ∀ y, y ≠ 9 → g 103 y = f 103 y) 36 (by unfold FU; omega) (fun c g hc hI => ?_) (fun c g hc hI => ?_) (fun g hI => ?_) (f := f) ⟨fun _ _ _ _ => rfl, fun _ _ => rfl⟩
  · obtain ⟨g, W, I⟩ := key
    exact ⟨_, g, W, I⟩
  · have e : nI c < (36 : Int32) := lt_lit (n := 36) hc (by omega)
    simp [WB_X7_build_1, m_den, l0, Value.category, s_seq, s_if, s_st, s_ret, s_retz, s_retv, s_skip, s_sc, s_inc, s_call, e_c, e_li, e_lr, e_lj, e_un, e_bin, e_if, e_b, b_not, b_and, b_or, b_of, e_call, a_recv, a_snoc, a_nil, prI, prJ, prR, e_gi, e_gr, e_ai, e_ar, s_as, s_aop, s_pf, s_pfz, s_fop, l_set, l_ok, e_div, e_rem, e_len, s_tab, e]
  · obtain ⟨I1, I2⟩ := hI
    have e4 := I1 104 (by omega) (by omega) (by omega)
    have i3 : (3 : Int32) + nI c = nI (3 + c) := nI_a 3 c
    have r3 := rd_104 g (show 3 + c < 735 by omega)
    rw [e4, (hS.2.2.1 c hc).1] at r3
    cases hr : ro c with
    | some r =>
      have e : ((nI r : Int32) < 0) = False := eq_false (Int32.not_lt.mpr (nI_pos' (by have := (ro' c hc).2 r hr; omega)))
      rw [hr] at r3
      have r3' : gm_rd (memOf g) 104 (nI (3 + c)) = some (nI r) := r3
      refine ⟨g, ?_, I1, I2⟩
      have em : ms2 (fun c => (ro c).isNone) B Y (c + 1) = ms2 (fun c => (ro c).isNone) B Y c := by unfold ms2; rw [bs2_off (by simp [hr])]
      rw [em, bs2_off (by simp [hr])]
      simp [WS_X7_build_1, m_den, l0, Value.category, s_seq, s_if, s_st, s_ret, s_retz, s_retv, s_skip, s_sc, s_inc, s_call, e_c, e_li, e_lr, e_lj, e_un, e_bin, e_if, e_b, b_not, b_and, b_or, b_of, e_call, a_recv, a_snoc, a_nil, prI, prJ, prR, e_gi, e_gr, e_ai, e_ar, s_as, s_aop, s_pf, s_pfz, s_fop, l_set, l_ok, e_div, e_rem, e_len, s_tab, g_103_0, i3, r3', e, nI_next]
    | none =>
      rw [hr] at r3
      generalize ez : atv none = z at r3
      have e : (z < 0) = True := eq_true (by rw [← ez]; decide)
      obtain ⟨g1, h1⟩ : ∃ g1, g1 = row g 104 (upd (g 104) (3 + c) (nI o)) := ⟨_, rfl⟩
      have wr := wr_104 g (show 3 + c < 735 by omega) (nI o)
      rw [← h1] at wr
      have g14 : g1 104 = upd (f 104) (3 + c) (nI o) := by rw [h1, row_self, e4]
      have hS1 : HSt (g1 104) m TRS (roU ro c o) wd := by
        rw [g14]
        obtain ⟨⟨s1, s2⟩, s3, s4, s5⟩ := hS
        refine ⟨⟨by rw [upd_ne _ _ (by omega)]; exact s1, s2⟩, fun k hk => ⟨fun j hj => by rw [upd_ne _ _ (by omega)]; exact (s3 k hk).1 j hj, (s3 k hk).2⟩, fun x hx => ?_, fun x hx => by rw [upd_ne _ _ (by omega)]; exact s5 x hx⟩
        unfold roU
        by_cases ex : x = c
        · subst ex
          rw [upd_self, if_pos rfl]
          exact ⟨rfl, fun o' h => by cases h; exact ho⟩
        · rw [upd_ne _ _ (by omega), if_neg ex]; exact s4 x hx
      obtain ⟨g2, P1, P2, P3, P4⟩ := X7_bookBehind g1 (n := n) (o := o) (Q := Q) (bo := bo) (s0 := f 104) hS1 (by rw [g14, upd_ne _ _ (by omega)]; exact b2) (fun x hx => by
        rw [g14]; exact (sp x hx).1.sig (fun y hy => upd_ne _ _ (by unfold inCh at hy; omega))) hAl hN (fun o ho => by rw [g14, upd_ne _ _ (by omega)]; exact (bk' o ho).2) (fun y hy => by rw [h1, row_ne _ _ (by omega), I1 106 (by omega) (by omega) (by omega)]; exact h6 y hy) (fun y hy => by rw [g14, upd_ne _ _ (by omega)]) ho
      rw [book_roof hc hr] at P1
      have P1' : D_X7_bookBehind [.ref 103, .int (nI o), .int (nI n)] (memOf g1) = some (.int (Y c), memOf g2) := by rw [P1, eY]
      refine ⟨g2, ?_, fun x c1 c2 c3 => ?_, fun y hy => by rw [P4 y hy, h1, row_ne _ _ (by omega)]; exact I2 y hy⟩
      · cases hb : bs2 (fun c => (ro c).isNone) B c with
        | none =>
          have em : ms2 (fun c => (ro c).isNone) B Y (c + 1) = Y c := by unfold ms2; rw [bs2_first (by simp [hr]) hb]
          have em2 : ms2 (fun c => (ro c).isNone) B Y c = 0 := by unfold ms2; rw [hb]
          rw [em, em2, bs2_first (by simp [hr]) hb]
          have e1 : atv (some c) = nI c := rfl
          generalize ez2 : atv none = z2
          have e2 : (z2 < 0) = True := eq_true (by rw [← ez2]; decide)
          simp [WS_X7_build_1, m_den, l0, Value.category, s_seq, s_if, s_st, s_ret, s_retz, s_retv, s_skip, s_sc, s_inc, s_call, e_c, e_li, e_lr, e_lj, e_un, e_bin, e_if, e_b, b_not, b_and, b_or, b_of, e_call, a_recv, a_snoc, a_nil, prI, prJ, prR, e_gi, e_gr, e_ai, e_ar, s_as, s_aop, s_pf, s_pfz, s_fop, l_set, l_ok, e_div, e_rem, e_len, s_tab, g_103_0, i3, r3, e, wr, rc_103, P1', e2, e1, nI_next]
        | some b =>
          have hb36 : b < 36 := by have := (bs2_lt hb).1; omega
          have em2 : ms2 (fun c => (ro c).isNone) B Y c = Y b := by unfold ms2; rw [hb]
          have e1 : atv (some b) = nI b := rfl
          have e1c : atv (some c) = nI c := rfl
          have e2 : (nI b < 0) = False := eq_false (Int32.not_lt.mpr (nI_pos' (by omega)))
          by_cases q : Y b < Y c
          · have qB : B c b = true := by rw [eB]; exact decide_eq_true q
            have eb : bs2 (fun c => (ro c).isNone) B (c + 1) = some c := by rw [bs2_some (by simp [hr]) hb, if_pos qB]
            have em : ms2 (fun c => (ro c).isNone) B Y (c + 1) = Y c := by unfold ms2; rw [eb]
            rw [em, em2, eb, e1, e1c]
            simp [WS_X7_build_1, m_den, l0, Value.category, s_seq, s_if, s_st, s_ret, s_retz, s_retv, s_skip, s_sc, s_inc, s_call, e_c, e_li, e_lr, e_lj, e_un, e_bin, e_if, e_b, b_not, b_and, b_or, b_of, e_call, a_recv, a_snoc, a_nil, prI, prJ, prR, e_gi, e_gr, e_ai, e_ar, s_as, s_aop, s_pf, s_pfz, s_fop, l_set, l_ok, e_div, e_rem, e_len, s_tab, g_103_0, i3, r3, e, wr, rc_103, P1', e2, q, nI_next]
          · have qB : ¬ B c b = true := by rw [eB]; simp only [decide_eq_true_iff]; exact q
            have eb : bs2 (fun c => (ro c).isNone) B (c + 1) = some b := by rw [bs2_some (by simp [hr]) hb, if_neg qB]
            have em : ms2 (fun c => (ro c).isNone) B Y (c + 1) = Y b := by unfold ms2; rw [eb]
            rw [em, em2, eb, e1]
            simp [WS_X7_build_1, m_den, l0, Value.category, s_seq, s_if, s_st, s_ret, s_retz, s_retv, s_skip, s_sc, s_inc, s_call, e_c, e_li, e_lr, e_lj, e_un, e_bin, e_if, e_b, b_not, b_and, b_or, b_of, e_call, a_recv, a_snoc, a_nil, prI, prJ, prR, e_gi, e_gr, e_ai, e_ar, s_as, s_aop, s_pf, s_pfz, s_fop, l_set, l_ok, e_div, e_rem, e_len, s_tab, g_103_0, i3, r3, e, wr, rc_103, P1', e2, q, nI_next]
      · by_cases c' : x = 104
        · subst c'; exact P2
        · rw [P3 x c1 c' c2 c3, h1, row_ne _ _ c']; exact I1 x c1 c2 c3
  · have e : ¬ nI 36 < (36 : Int32) := nlt_lit (n := 36) (by omega)
    simp [WB_X7_build_1, m_den, l0, Value.category, s_seq, s_if, s_st, s_ret, s_retz, s_retv, s_skip, s_sc, s_inc, s_call, e_c, e_li, e_lr, e_lj, e_un, e_bin, e_if, e_b, b_not, b_and, b_or, b_of, e_call, a_recv, a_snoc, a_nil, prI, prJ, prR, e_gi, e_gr, e_ai, e_ar, s_as, s_aop, s_pf, s_pfz, s_fop, l_set, l_ok, e_div, e_rem, e_len, s_tab, e]
theorem X6_build_no0 (f : FN) {o n : Int32} (h : ¬ (0 ≤ o ∧ o ≤ 5 ∧ 1 ≤ n ∧ n ≤ 24)) : D_X6_build [.ref 0, .int o, .int n] (memOf f) = some (.int (-1000001), memOf (row f 81 (upd (f 81) 0 (f 81 0 + 1)))) := by
  by_cases h1 : 0 ≤ o
  · by_cases h2 : o ≤ 5
    · by_cases h3 : 1 ≤ n
      · have h4 : ¬ (n ≤ 24) := fun q => h ⟨h1, h2, h3, q⟩
        simp [D_X6_build, S_X6_build, m_den, l0, Value.category, s_seq, s_if, s_st, s_ret, s_retz, s_retv, s_skip, s_sc, s_inc, s_call, e_c, e_li, e_lr, e_lj, e_un, e_bin, e_if, e_b, b_not, b_and, b_or, b_of, e_call, a_recv, a_snoc, a_nil, prI, prJ, prR, e_gi, e_gr, e_ai, e_ar, s_as, s_aop, s_pf, s_pfz, s_fop, l_set, l_ok, e_div, e_rem, e_len, s_tab, X6_isOwner, X6_isIn, rc_0, X6_fin_0, h1, h2, h3, h4]
      · simp [D_X6_build, S_X6_build, m_den, l0, Value.category, s_seq, s_if, s_st, s_ret, s_retz, s_retv, s_skip, s_sc, s_inc, s_call, e_c, e_li, e_lr, e_lj, e_un, e_bin, e_if, e_b, b_not, b_and, b_or, b_of, e_call, a_recv, a_snoc, a_nil, prI, prJ, prR, e_gi, e_gr, e_ai, e_ar, s_as, s_aop, s_pf, s_pfz, s_fop, l_set, l_ok, e_div, e_rem, e_len, s_tab, X6_isOwner, X6_isIn, rc_0, X6_fin_0, h1, h2, h3]
    · simp [D_X6_build, S_X6_build, m_den, l0, Value.category, s_seq, s_if, s_st, s_ret, s_retz, s_retv, s_skip, s_sc, s_inc, s_call, e_c, e_li, e_lr, e_lj, e_un, e_bin, e_if, e_b, b_not, b_and, b_or, b_of, e_call, a_recv, a_snoc, a_nil, prI, prJ, prR, e_gi, e_gr, e_ai, e_ar, s_as, s_aop, s_pf, s_pfz, s_fop, l_set, l_ok, e_div, e_rem, e_len, s_tab, X6_isOwner, X6_isIn, rc_0, X6_fin_0, h1, h2]
  · simp [D_X6_build, S_X6_build, m_den, l0, Value.category, s_seq, s_if, s_st, s_ret, s_retz, s_retv, s_skip, s_sc, s_inc, s_call, e_c, e_li, e_lr, e_lj, e_un, e_bin, e_if, e_b, b_not, b_and, b_or, b_of, e_call, a_recv, a_snoc, a_nil, prI, prJ, prR, e_gi, e_gr, e_ai, e_ar, s_as, s_aop, s_pf, s_pfz, s_fop, l_set, l_ok, e_div, e_rem, e_len, s_tab, X6_isOwner, X6_isIn, rc_0, X6_fin_0, h1]
theorem X7_build_no0 (f : FN) {o n : Int32} (h : ¬ (0 ≤ o ∧ o ≤ 5 ∧ 1 ≤ n ∧ n ≤ 24)) : D_X7_build [.ref 103, .int o, .int n] (memOf f) = some (.int (-1000001), memOf (row f 107 (upd (f 107) 0 (f 107 0 + 1)))) := by
  by_cases h1 : 0 ≤ o
  · by_cases h2 : o ≤ 5
    · by_cases h3 : 1 ≤ n
      · have h4 : ¬ (n ≤ 24) := fun q => h ⟨h1, h2, h3, q⟩
        simp [D_X7_build, S_X7_build, m_den, l0, Value.category, s_seq, s_if, s_st, s_ret, s_retz, s_retv, s_skip, s_sc, s_inc, s_call, e_c, e_li, e_lr, e_lj, e_un, e_bin, e_if, e_b, b_not, b_and, b_or, b_of, e_call, a_recv, a_snoc, a_nil, prI, prJ, prR, e_gi, e_gr, e_ai, e_ar, s_as, s_aop, s_pf, s_pfz, s_fop, l_set, l_ok, e_div, e_rem, e_len, s_tab, X7_isOwner, X7_isDay, rc_103, X7_fin_0, h1, h2, h3, h4]
      · simp [D_X7_build, S_X7_build, m_den, l0, Value.category, s_seq, s_if, s_st, s_ret, s_retz, s_retv, s_skip, s_sc, s_inc, s_call, e_c, e_li, e_lr, e_lj, e_un, e_bin, e_if, e_b, b_not, b_and, b_or, b_of, e_call, a_recv, a_snoc, a_nil, prI, prJ, prR, e_gi, e_gr, e_ai, e_ar, s_as, s_aop, s_pf, s_pfz, s_fop, l_set, l_ok, e_div, e_rem, e_len, s_tab, X7_isOwner, X7_isDay, rc_103, X7_fin_0, h1, h2, h3]
    · simp [D_X7_build, S_X7_build, m_den, l0, Value.category, s_seq, s_if, s_st, s_ret, s_retz, s_retv, s_skip, s_sc, s_inc, s_call, e_c, e_li, e_lr, e_lj, e_un, e_bin, e_if, e_b, b_not, b_and, b_or, b_of, e_call, a_recv, a_snoc, a_nil, prI, prJ, prR, e_gi, e_gr, e_ai, e_ar, s_as, s_aop, s_pf, s_pfz, s_fop, l_set, l_ok, e_div, e_rem, e_len, s_tab, X7_isOwner, X7_isDay, rc_103, X7_fin_0, h1, h2]
  · simp [D_X7_build, S_X7_build, m_den, l0, Value.category, s_seq, s_if, s_st, s_ret, s_retz, s_retv, s_skip, s_sc, s_inc, s_call, e_c, e_li, e_lr, e_lj, e_un, e_bin, e_if, e_b, b_not, b_and, b_or, b_of, e_call, a_recv, a_snoc, a_nil, prI, prJ, prR, e_gi, e_gr, e_ai, e_ar, s_as, s_aop, s_pf, s_pfz, s_fop, l_set, l_ok, e_div, e_rem, e_len, s_tab, X7_isOwner, X7_isDay, rc_103, X7_fin_0, h1]
theorem agr_build {f : FN} (h : REL f) (y u : Int32) : AGR D_X6_build D_X7_build [.int y, .int u] f := by
  obtain ⟨⟨m, hT, hV⟩, -⟩ := id h
  obtain ⟨TRS, ro, wd, Q, bo, hh, w⟩ := TW.ex hT hV
  obtain ⟨⟨b1, b2, b3, b4⟩, hS, sp, ro', wd', bk', tk, bn⟩ := id w
  by_cases hc : 0 ≤ y ∧ y ≤ 5 ∧ 1 ≤ u ∧ u ≤ 24
  · obtain ⟨o, ho, rfl⟩ := in_ex (n := 5) ⟨hc.1, hc.2.1⟩ (by omega)
    obtain ⟨a3, a4, a5, a6⟩ := hc
    obtain ⟨n, hn, rfl⟩ := in_ex (n := 24) ⟨Int32.le_trans (by decide) a5, a6⟩ (by omega)
    have hq := hor (h := hh) (n := n) b3 (by omega)
    by_cases hN : hh + n ≤ 9999
    · obtain ⟨X, eX⟩ : ∃ X : Nat → Int32, X = fun c => iI (coC TRS wd hh Q n o m c) := ⟨_, rfl⟩
      obtain ⟨Y, eY⟩ : ∃ Y : Nat → Int32, Y = fun c => iI (bo o + (baseC TRS wd ro hh Q m n o - coC TRS wd hh Q n o m c)) := ⟨_, rfl⟩
      obtain ⟨BX, eBX⟩ : ∃ B : Nat → Nat → Bool, B = fun v b => decide (X v < X b) := ⟨_, rfl⟩
      obtain ⟨BY, eBY⟩ : ∃ B : Nat → Nat → Bool, B = fun v b => decide (Y b < Y v) := ⟨_, rfl⟩
      obtain ⟨g0, A1, A2, A3⟩ := X6_playCosts f w (o := o) (n := n) (by omega) hN
      have W6 := X6_build_W g0 (ro'.congr (A2 2 (by omega) (by omega))) (nI o) (nI n) (X := X) (B := BX) (fun c hc => by rw [A3 c hc, eX]) eBX
      have eq : bs2 (fun c => (ro c).isNone) BX 36 = bs2 (fun c => (ro c).isNone) BY 36 := by
        refine bs2_congr (fun v b hv hb _ _ => ?_)
        rw [eBX, eBY]
        simp only
        have c1 := coC_bnd w hN hv o
        have c2 := coC_bnd w hN hb o
        have c3 := baseC_bnd w hN o (by omega)
        have e1 : X v < X b ↔ coC TRS wd hh Q n o m v < coC TRS wd hh Q n o m b := by
          rw [eX]; exact iI_lt_iff (by unfold bnd at *; omega) (by unfold bnd at *; omega)
        have e2 : Y b < Y v ↔ bo o + (baseC TRS wd ro hh Q m n o - coC TRS wd hh Q n o m b) < bo o + (baseC TRS wd ro hh Q m n o - coC TRS wd hh Q n o m v) := by
          rw [eY]; exact iI_lt_iff (by unfold bnd at *; omega) (by unfold bnd at *; omega)
        rw [decide_eq_decide, e1, e2]
        omega
      rw [eq] at W6
      have K : ∀ g1 : FN, (∀ x, ¬ (81 ≤ x ∧ x ≤ 94) → g1 x = f x) → ∃ y2 p0 g2, D_X7_puts [.ref 103] (memOf g1) = some (.null, memOf p0) ∧ W_X7_build_1 [.ref 103, .int (nI o), .int (nI n), .int (-1), .int 0, .int 0] (memOf p0) = some (.inl ([.ref 103, .int (nI o), .int (nI n), .int (atv (bs2 (fun c => (ro c).isNone) BY 36)), .int y2, .int (nI 36)], memOf g2)) ∧ (∀ x, x ≠ 103 → x ≠ 106 → x ≠ 108 → x ≠ 109 → g2 x = g1 x) ∧ ∀ y, y ≠ 9 → g2 103 y = g1 103 y := fun g1 hg => by
        obtain ⟨p0, U1, U2, U3⟩ := X7_puts g1
        have P4 : p0 104 = f 104 := by rw [U2 104 (by omega), hg 104 (by omega)]
        have wp := w.congr (g := p0) (fun j hj => by rw [U2 j (by omega), hg j (by omega)]) P4
        obtain ⟨y2, g2, C1, C2, C3⟩ := X7_build_W p0 wp (fun y hy => by rw [U3 y hy, hg 104 (by omega), P4]) (o := o) (n := n) (by omega) hN eY eBY
        exact ⟨y2, p0, g2, U1, C1, fun x c1 c2 c3 c4 => by rw [C2 x c1 c3 c4, U2 x c2], fun y hy => by rw [C3 y hy, U2 103 (by omega)]⟩
      cases hb : bs2 (fun c => (ro c).isNone) BY 36 with
      | none =>
        obtain ⟨g1, hg1⟩ : ∃ g1, g1 = row g0 81 (upd (g0 81) 3 (g0 81 3 + 1)) := ⟨_, rfl⟩
        have fin := X6_fin_3 g0
        rw [← hg1] at fin
        obtain ⟨y2, p0, g2, U1, C1, C2, C3⟩ := K g1 (fun x hx => by rw [hg1, row_ne _ _ (by omega)]; exact A2 x (by omega) (by omega))
        rw [hb] at W6 C1
        generalize ez : atv none = z at W6 C1
        have q1 : (z = -1) = True := eq_true (by rw [← ez]; rfl)
        have q2 : (z < 0) = True := eq_true (by rw [← ez]; decide)
        have g5 : g1 104 0 = nI hh := by rw [hg1, row_ne _ _ (by omega), A2 104 (by omega) (by omega)]; exact b2
        refine ⟨-1000004, g1, row g2 107 (upd (g2 107) 3 (g2 107 3 + 1)), ?_, ?_, ?_⟩
        · simp [D_X6_build, S_X6_build, m_den, l0, Value.category, s_seq, s_if, s_st, s_ret, s_retz, s_retv, s_skip, s_sc, s_inc, s_call, e_c, e_li, e_lr, e_lj, e_un, e_bin, e_if, e_b, b_not, b_and, b_or, b_of, e_call, a_recv, a_snoc, a_nil, prI, prJ, prR, e_gi, e_gr, e_ai, e_ar, s_as, s_aop, s_pf, s_pfz, s_fop, l_set, l_ok, e_div, e_rem, e_len, s_tab, X6_isOwner, X6_isIn, a3, a4, a5, a6, rc_0, X6_hasHours, b1, hq, hN, A1, W6, q1, fin]
        · simp [D_X7_build, S_X7_build, m_den, l0, Value.category, s_seq, s_if, s_st, s_ret, s_retz, s_retv, s_skip, s_sc, s_inc, s_call, e_c, e_li, e_lr, e_lj, e_un, e_bin, e_if, e_b, b_not, b_and, b_or, b_of, e_call, a_recv, a_snoc, a_nil, prI, prJ, prR, e_gi, e_gr, e_ai, e_ar, s_as, s_aop, s_pf, s_pfz, s_fop, l_set, l_ok, e_div, e_rem, e_len, s_tab, X7_isOwner, X7_isDay, g5, a3, a4, a5, a6, rc_103, X7_isTooFar, hq, hN, U1, C1, q2, X7_fin_3]
        · refine (h.find 3).trial (fun x c1 c2 c3 c4 c5 c6 c7 => ?_) (fun y hy => ?_)
          · unfold fnd
            by_cases c7 : x = 107
            · subst c7; rw [row_self, row_self, C2 107 (by omega) (by omega) (by omega) (by omega), hg1, row_ne _ _ (by omega), A2 107 (by omega) (by omega)]
            · rw [row_ne _ _ c7, row_ne _ _ c7, C2 x c2 c3 c4 c5, hg1]
              by_cases c8 : x = 81
              · subst c8; rw [row_self, row_self, A2 81 (by omega) (by omega)]
              · rw [row_ne _ _ c8, row_ne _ _ c8, A2 x (by omega) (by omega)]
          · unfold fnd
            rw [row_ne _ _ (by omega), row_ne _ _ (by omega), row_ne _ _ (by omega), C3 y (by omega), hg1, row_ne _ _ (by omega), A2 103 (by omega) (by omega)]
      | some b =>
        obtain ⟨y2, p0, g2, U1, C1, C2, C3⟩ := K g0 (fun x hx => A2 x (by omega) (by omega))
        have hb36 : b < 36 := (bs2_lt hb).1
        rw [hb] at W6 C1
        have e1 : atv (some b) = nI b := rfl
        rw [e1] at W6 C1
        have q1 := nI_nm1 (x := b) (by omega)
        have q2 : (nI b < 0) = False := eq_false (Int32.not_lt.mpr (nI_pos' (by omega)))
        have g5 : g0 104 0 = nI hh := by rw [A2 104 (by omega) (by omega)]; exact b2
        refine ⟨nI b, g0, g2, ?_, ?_, ?_⟩
        · simp [D_X6_build, S_X6_build, m_den, l0, Value.category, s_seq, s_if, s_st, s_ret, s_retz, s_retv, s_skip, s_sc, s_inc, s_call, e_c, e_li, e_lr, e_lj, e_un, e_bin, e_if, e_b, b_not, b_and, b_or, b_of, e_call, a_recv, a_snoc, a_nil, prI, prJ, prR, e_gi, e_gr, e_ai, e_ar, s_as, s_aop, s_pf, s_pfz, s_fop, l_set, l_ok, e_div, e_rem, e_len, s_tab, X6_isOwner, X6_isIn, a3, a4, a5, a6, rc_0, X6_hasHours, b1, hq, hN, A1, W6, q1]
        · simp [D_X7_build, S_X7_build, m_den, l0, Value.category, s_seq, s_if, s_st, s_ret, s_retz, s_retv, s_skip, s_sc, s_inc, s_call, e_c, e_li, e_lr, e_lj, e_un, e_bin, e_if, e_b, b_not, b_and, b_or, b_of, e_call, a_recv, a_snoc, a_nil, prI, prJ, prR, e_gi, e_gr, e_ai, e_ar, s_as, s_aop, s_pf, s_pfz, s_fop, l_set, l_ok, e_div, e_rem, e_len, s_tab, X7_isOwner, X7_isDay, g5, a3, a4, a5, a6, rc_103, X7_isTooFar, hq, hN, U1, C1, q2]
        · refine h.trial (fun x c1 c2 c3 c4 c5 c6 c7 => ?_) (fun y hy => ?_)
          · rw [C2 x c2 c3 c4 c5, A2 x (by omega) (by omega)]
          · rw [C3 y (by omega), A2 103 (by omega) (by omega)]
    · refine agr_find (j := 4) (v := -1000005) h ?_ (fun g hg => ?_)
      · simp [D_X6_build, S_X6_build, m_den, l0, Value.category, s_seq, s_if, s_st, s_ret, s_retz, s_retv, s_skip, s_sc, s_inc, s_call, e_c, e_li, e_lr, e_lj, e_un, e_bin, e_if, e_b, b_not, b_and, b_or, b_of, e_call, a_recv, a_snoc, a_nil, prI, prJ, prR, e_gi, e_gr, e_ai, e_ar, s_as, s_aop, s_pf, s_pfz, s_fop, l_set, l_ok, e_div, e_rem, e_len, s_tab, X6_isOwner, X6_isIn, a3, a4, a5, a6, rc_0, X6_hasHours, b1, hq, hN, X6_fin_4]
      · have b2' : g 104 0 = nI hh := by rw [hg.1]; exact b2
        simp [D_X7_build, S_X7_build, m_den, l0, Value.category, s_seq, s_if, s_st, s_ret, s_retz, s_retv, s_skip, s_sc, s_inc, s_call, e_c, e_li, e_lr, e_lj, e_un, e_bin, e_if, e_b, b_not, b_and, b_or, b_of, e_call, a_recv, a_snoc, a_nil, prI, prJ, prR, e_gi, e_gr, e_ai, e_ar, s_as, s_aop, s_pf, s_pfz, s_fop, l_set, l_ok, e_div, e_rem, e_len, s_tab, X7_isOwner, X7_isDay, a3, a4, a5, a6, rc_103, X7_isTooFar, b2', hq, hN, X7_fin_4]
  · exact agr_find h (X6_build_no0 f hc) (fun g _ => X7_build_no0 g hc)
