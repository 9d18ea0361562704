/-! choosing: the first best of a row -/
def am (B : Nat → Nat → Bool) : Nat → Nat
  | 0 => 0
  | n + 1 => if B (n + 1) (am B n) then n + 1 else am B n
theorem am_le (B : Nat → Nat → Bool) (n : Nat) : am B n ≤ n := by
  induction n with
  | zero => exact Nat.le_refl _
  | succ n ih => unfold am; split <;> omega
theorem am_congr {B C : Nat → Nat → Bool} {n : Nat} (h : ∀ v b, v ≤ n → b ≤ n → B v b = C v b) : am B n = am C n := by
  induction n with
  | zero => rfl
  | succ n ih =>
    have e := ih (fun v b h1 h2 => h v b (by omega) (by omega))
    have l := am_le C n
    unfold am
    rw [e, h (n + 1) (am C n) (by omega) (by omega)]
def bI (z : Int32) (B : Nat → Nat → Bool) : Nat → Int32
  | 0 => z
  | i + 1 => nI (am B i)
def mI (X : Nat → Int32) (B : Nat → Nat → Bool) : Nat → Int32
  | 0 => 0
  | i + 1 => X (am B i)
theorem iI_lt_iff {a b : Int} (h1 : -2 ^ 31 ≤ a ∧ a < 2 ^ 31) (h2 : -2 ^ 31 ≤ b ∧ b < 2 ^ 31) : iI a < iI b ↔ a < b := by
  have ea : (iI a).toInt = a := Int32.toInt_ofInt_of_le h1.1 h1.2
  have eb : (iI b).toInt = b := Int32.toInt_ofInt_of_le h2.1 h2.2
  rw [Int32.lt_iff_toInt_lt, ea, eb]
def updN (tr : Nat → Nat) (j v : Nat) : Nat → Nat := fun i => if i = j then v else tr i
theorem updN_TB {tr : Nat → Nat} {j v : Nat} (h : TB tr) (hv : v ≤ lim j) : TB (updN tr j v) := by
  intro i hi
  unfold updN
  by_cases c : i = j
  · rw [if_pos c, c]; exact hv
  · rw [if_neg c]; exact h i hi
theorem TW.sum_le {f : FN} {m : Nat} {TRS : Nat → Nat → Nat} {ro : Nat → Option Nat} {wd : Nat → Nat} {Q : Nat → SMK} {bo : Nat → Int} {h : Nat} (w : TW f m TRS ro wd Q bo h) {k : Nat} (hk : k < m) {tr : Nat → Nat} (hb : TB tr) (n : Nat) : csI 36 (Q k).2.1 + csI n (fun j => dS tr wd (bM tr) h j (Q k)) ≤ 203 * h + 203 * n := by
  obtain ⟨⟨b1, b2, b3, b4⟩, hS, sp, ro', wd', bk', tk, bn⟩ := w
  have hwd : WD wd := fun c hc => (hS.2.2.2 c hc).2
  have k2 : tr 2 < 36 := by have := hb 2 (by omega); simp only [lim] at this; omega
  have a := run_tot (bb := bM tr) (h := h) hwd k2 (tk k hk).1 n
  have b := run_B (tr := tr) (wd := wd) (h := h) (fun c _ => bM_le hb c) (tk k hk).2 n
  have c := run_S (tr := tr) (wd := wd) (bb := bM tr) (h := h) (q := Q k) n
  unfold tot at a
  omega
theorem X6_playWith (f : FN) {m : Nat} {TRS : Nat → Nat → Nat} {ro : Nat → Option Nat} {wd : Nat → Nat} {Q : Nat → SMK} {bo : Nat → Int} {h : Nat} (w : TW f m TRS ro wd Q bo h) {k j v n : Nat} (hk : k < m) (hj : j < 7) (hv : v ≤ lim j) (hN : h + n ≤ 9999) : ∃ g, D_X6_playWith [.ref 0, .int (nI k), .int (nI j), .int (nI v), .int (nI n)] (memOf f) = some (.null, memOf g) ∧ (∀ x, ¬ (82 ≤ x ∧ x ≤ 89) → g x = f x) ∧ HC g 82 (run (updN (TRS k) j v) wd (bM (updN (TRS k) j v)) h n (Q k)) ∧ HT g (tlR (updN (TRS k) j v) wd (bM (updN (TRS k) j v)) ro h 0 (Q k) n tl0) := by
  have m8 := w.2.1.1.2
  have hAl := w.A_le
  obtain ⟨f1, T1, T2, T3⟩ := X3_begin f
  have w1 := w.congr (g := f1) (fun j hj => T3 j (by omega)) (T3 104 (by omega))
  obtain ⟨f2, U1, U2, U3, U4⟩ := trial_take f1 w1.2.2.1 hk m8
  obtain ⟨f3, h3⟩ : ∃ f3, f3 = row f2 83 (upd (f2 83) j (nI v)) := ⟨_, rfl⟩
  have F3 : ∀ x, ¬ (82 ≤ x ∧ x ≤ 89) → f3 x = f x := fun x hx => by rw [h3, row_ne _ _ (by omega), U4 x (by omega), T3 x (by omega)]
  have w3 := w.congr (g := f3) (fun j hj => F3 j (by omega)) (F3 104 (by omega))
  have wr := wr_83 f2 hj (nI v)
  rw [← h3] at wr
  obtain ⟨g, P1, P2, P3, P4⟩ := X5_playHours f3 (n0 := 0) (n := n) (q := Q k) (tr := updN (TRS k) j v) (ro := ro) (t := tl0) isCh_82 (by omega) w3.1.1 (U2.congr (fun x h1 h2 h4 => by rw [h3, row_ne _ _ h4])) (fun i hi => by
      show f3 83 i = _
      rw [h3, row_self]
      unfold upd updN
      by_cases c : i = j
      · rw [if_pos c, if_pos c]
      · rw [if_neg c, if_neg c]; exact U3 i hi) (updN_TB (w.2.1.2.1 k hk).2 hv) w3.2.2.2.1 w3.2.2.2.2.1 (T2.congr (fun x h1 h2 => by rw [h3, row_ne _ _ (by omega), U4 x (by omega)])) (hAl k hk) (by omega)
  rw [Nat.zero_add] at P2
  refine ⟨g, ?_, fun x hx => by rw [P4 x (by omega) (by omega) (by omega) (by omega)]; exact F3 x hx, P2, P3⟩
  have z : nI 0 = 0 := rfl
  rw [z] at P1
  simp [D_X6_playWith, S_X6_playWith, m_den, l0, Value.category, s_seq, s_if, s_st, s_ret, s_retz, s_retv, s_skip, s_sc, s_inc, s_call, e_c, e_li, e_lr, e_lj, e_un, e_bin, e_if, e_b, b_not, b_and, b_or, b_of, e_call, a_recv, a_snoc, a_nil, prI, prJ, prR, e_gi, e_gr, e_ai, e_ar, s_as, s_aop, s_pf, s_pfz, s_fop, l_set, l_ok, e_div, e_rem, e_len, s_tab, g_0_7, rc_86, T1, g_0_6, g_0_0, g_1_7, rr_6 _ (show k < 8 by omega), rc_82, U1, g_82_0, wr, rc_1, P1]
/-- a trial of the reference -/
theorem X7_bookBehind (f : FN) {m n o h : Nat} {TRS : Nat → Nat → Nat} {ro : Nat → Option Nat} {wd : Nat → Nat} {Q : Nat → SMK} {bo : Nat → Int} {s0 : Nat → Int32} (hS : HSt (f 104) m TRS ro wd) (hh : f 104 0 = nI h) (hR : ∀ k, k < m → HR (f 104) k (Q k)) (hA : ∀ k, k < m → ∀ c, c < 36 → (Q k).1 c ≤ 203 * h) (hN : h + n ≤ 9999) (hb : ∀ o, o < 6 → f 104 (119 + o) = iI (bo o)) (h6 : ∀ y, y < 735 → f 106 y = s0 y) (h4 : ∀ y, 735 ≤ y → f 104 y = s0 y) (ho : o < 6) : ∃ g, D_X7_bookBehind [.ref 103, .int (nI o), .int (nI n)] (memOf f) = some (.int (iI (bo o + ciI n (fun i => ciI m (fun k => nC TRS wd ro h Q i k o)))), memOf g) ∧ g 104 = s0 ∧ (∀ x, x ≠ 103 → x ≠ 104 → x ≠ 108 → x ≠ 109 → g x = f x) ∧ ∀ y, y ≠ 9 → g 103 y = f 103 y := by
  obtain ⟨f', p2, H1, H2, H3, H4⟩ := X7_hoursGo f (n := n) hS hh hR hA hN
  obtain ⟨p3, B1, B2, B3⟩ := pbk_of H4 hS.1.2 (s0 := s0) (fun y hy => by rw [H2 106 (by omega)]; exact h6 y hy) (fun y hy => by rw [H2 104 (by omega)]; exact h4 y hy)
  obtain ⟨P1, P2, P3, P4, P5, P6, P7, P8⟩ := H4
  refine ⟨p3, ?_, B2, fun x c1 c2 c3 c4 => by rw [B3 x c2, P1 x c1 c2 c3 c4, H2 x c4], fun y hy => by rw [B3 103 (by omega), P2 y hy, H2 103 (by omega)]⟩
  have i1 : (119 : Int32) + nI o = nI (119 + o) := nI_a 119 o
  have r := rd_104 p2 (show 119 + o < 735 by omega)
  rw [P6 bo (fun o ho => by rw [H2 104 (by omega)]; exact hb o ho) o ho] at r
  simp [D_X7_bookBehind, S_X7_bookBehind, m_den, l0, Value.category, s_seq, s_if, s_st, s_ret, s_retz, s_retv, s_skip, s_sc, s_inc, s_call, e_c, e_li, e_lr, e_lj, e_un, e_bin, e_if, e_b, b_not, b_and, b_or, b_of, e_call, a_recv, a_snoc, a_nil, prI, prJ, prR, e_gi, e_gr, e_ai, e_ar, s_as, s_aop, s_pf, s_pfz, s_fop, l_set, l_ok, e_div, e_rem, e_len, s_tab, rc_103, H1, g_103_0, i1, r, B1]
theorem X7_dirtIn (f : FN) {m n o h : Nat} {TRS : Nat → Nat → Nat} {ro : Nat → Option Nat} {wd : Nat → Nat} {Q : Nat → SMK} {s0 : Nat → Int32} (hS : HSt (f 104) m TRS ro wd) (hh : f 104 0 = nI h) (hR : ∀ k, k < m → HR (f 104) k (Q k)) (hA : ∀ k, k < m → ∀ c, c < 36 → (Q k).1 c ≤ 203 * h) (hN : h + n ≤ 9999) (h6 : ∀ y, y < 735 → f 106 y = s0 y) (h4 : ∀ y, 735 ≤ y → f 104 y = s0 y) (ho : o < 6) : ∃ g, D_X7_dirtIn [.ref 103, .int (nI o), .int (nI n)] (memOf f) = some (.int (nI (csI n (fun i => csI m (fun k => nD TRS wd ro h Q i k o)))), memOf g) ∧ g 104 = s0 ∧ (∀ x, x ≠ 103 → x ≠ 104 → x ≠ 108 → x ≠ 109 → g x = f x) ∧ ∀ y, y ≠ 9 → g 103 y = f 103 y := by
  obtain ⟨f', p2, H1, H2, H3, H4⟩ := X7_hoursGo f (n := n) hS hh hR hA hN
  obtain ⟨p3, B1, B2, B3⟩ := pbk_of H4 hS.1.2 (s0 := s0) (fun y hy => by rw [H2 106 (by omega)]; exact h6 y hy) (fun y hy => by rw [H2 104 (by omega)]; exact h4 y hy)
  obtain ⟨P1, P2, P3, P4, P5, P6, P7, P8⟩ := H4
  refine ⟨p3, ?_, B2, fun x c1 c2 c3 c4 => by rw [B3 x c2, P1 x c1 c2 c3 c4, H2 x c4], fun y hy => by rw [B3 103 (by omega), P2 y hy, H2 103 (by omega)]⟩
  have r := rd_109 p3 ho
  rw [B3 109 (by omega), P7 (fun _ => 0) H3 o ho, Nat.zero_add] at r
  simp [D_X7_dirtIn, S_X7_dirtIn, m_den, l0, Value.category, s_seq, s_if, s_st, s_ret, s_retz, s_retv, s_skip, s_sc, s_inc, s_call, e_c, e_li, e_lr, e_lj, e_un, e_bin, e_if, e_b, b_not, b_and, b_or, b_of, e_call, a_recv, a_snoc, a_nil, prI, prJ, prR, e_gi, e_gr, e_ai, e_ar, s_as, s_aop, s_pf, s_pfz, s_fop, l_set, l_ok, e_div, e_rem, e_len, s_tab, rc_103, H1, g_103_6, r, B1]
/-! one chimney is another: sums over the town -/
theorem ciI_split {m k : Nat} (F : Nat → Int) (hk : k < m) : ciI m F = ciI m (fun i => if i = k then 0 else F i) + F k := by
  induction m with
  | zero => exact absurd hk (by omega)
  | succ m ih =>
    show ciI m F + F m = ciI m (fun i => if i = k then 0 else F i) + (if m = k then 0 else F m) + F k
    by_cases c : m = k
    · subst c
      rw [if_pos rfl, Int.add_zero, ciI_congr (g := fun i => if i = m then 0 else F i) (h := F) (fun i hi => by rw [if_neg (by omega)])]
    · rw [if_neg c, ih (by omega)]; omega
theorem csI_split {m k : Nat} (F : Nat → Nat) (hk : k < m) : csI m F = csI m (fun i => if i = k then 0 else F i) + F k := by
  induction m with
  | zero => exact absurd hk (by omega)
  | succ m ih =>
    show csI m F + F m = csI m (fun i => if i = k then 0 else F i) + (if m = k then 0 else F m) + F k
    by_cases c : m = k
    · subst c
      rw [if_pos rfl, Nat.add_zero, csI_congr (g := fun i => if i = m then 0 else F i) (h := F) (fun i hi => by rw [if_neg (by omega)])]
    · rw [if_neg c, ih (by omega)]; omega
def updT (TRS : Nat → Nat → Nat) (k : Nat) (tr : Nat → Nat) : Nat → Nat → Nat := fun i => if i = k then tr else TRS i
theorem HSt.trait {σ : Nat → Int32} {m : Nat} {TRS : Nat → Nat → Nat} {ro : Nat → Option Nat} {wd : Nat → Nat} (h : HSt σ m TRS ro wd) {k j v : Nat} (hk : k < m) (hj : j < 7) (hv : v ≤ lim j) : HSt (upd σ (63 + 7 * k + j) (nI v)) m (updT TRS k (updN (TRS k) j v)) ro wd := by
  obtain ⟨⟨a1, a2⟩, b, c, d⟩ := h
  refine ⟨⟨by rw [upd_ne _ _ (by omega)]; exact a1, a2⟩, fun i hi => ⟨fun x hx => ?_, ?_⟩, fun x hx => ?_, fun x hx => ?_⟩
  · unfold updT
    by_cases e : i = k
    · subst e
      rw [if_pos rfl]
      unfold updN
      by_cases e2 : x = j
      · subst e2; rw [upd_self, if_pos rfl]
      · rw [upd_ne _ _ (by omega), if_neg e2]; exact (b i hi).1 x hx
    · rw [if_neg e, upd_ne _ _ (by omega)]; exact (b i hi).1 x hx
  · unfold updT
    by_cases e : i = k
    · rw [if_pos e]; exact updN_TB (b k hk).2 hv
    · rw [if_neg e]; exact (b i hi).2
  · rw [upd_ne _ _ (by omega)]; exact c x hx
  · rw [upd_ne _ _ (by omega)]; exact d x hx
/-- the book of an owner when chimney k is tr: its own part apart -/
def restC (TRS : Nat → Nat → Nat) (wd : Nat → Nat) (ro : Nat → Option Nat) (h : Nat) (Q : Nat → SMK) (m n k o : Nat) : Int := ciI m (fun i => if i = k then 0 else ciI n (fun j => nC TRS wd ro h Q j i o))
def gC (tr wd : Nat → Nat) (ro : Nat → Option Nat) (h : Nat) (q : SMK) (n o : Nat) : Int := ciI n (fun j => dC tr wd (bM tr) ro h j q o)
def restD (TRS : Nat → Nat → Nat) (wd : Nat → Nat) (ro : Nat → Option Nat) (h : Nat) (Q : Nat → SMK) (m n k o : Nat) : Nat := csI m (fun i => if i = k then 0 else csI n (fun j => nD TRS wd ro h Q j i o))
def gD (tr wd : Nat → Nat) (ro : Nat → Option Nat) (h : Nat) (q : SMK) (n o : Nat) : Nat := csI n (fun j => dD tr wd (bM tr) ro h j q o)
theorem book_split {m n k o h : Nat} {TRS : Nat → Nat → Nat} {tr wd : Nat → Nat} {ro : Nat → Option Nat} {Q : Nat → SMK} (hk : k < m) : ciI n (fun i => ciI m (fun x => nC (updT TRS k tr) wd ro h Q i x o)) = restC TRS wd ro h Q m n k o + gC tr wd ro h (Q k) n o := by
  rw [ciI_swap, ciI_split _ hk]
  congr 1
  · unfold restC
    refine ciI_congr (fun i _ => ?_)
    by_cases e : i = k
    · rw [if_pos e, if_pos e]
    · rw [if_neg e, if_neg e]
      unfold nC updT
      simp only [if_neg e]
  · unfold gC nC updT
    simp only [if_true]
theorem dirt_split {m n k o h : Nat} {TRS : Nat → Nat → Nat} {tr wd : Nat → Nat} {ro : Nat → Option Nat} {Q : Nat → SMK} (hk : k < m) : csI n (fun i => csI m (fun x => nD (updT TRS k tr) wd ro h Q i x o)) = restD TRS wd ro h Q m n k o + gD tr wd ro h (Q k) n o := by
  rw [csI_swap, csI_split _ hk]
  congr 1
  · unfold restD
    refine csI_congr (fun i _ => ?_)
    by_cases e : i = k
    · rw [if_pos e, if_pos e]
    · rw [if_neg e, if_neg e]
      unfold nD updT
      simp only [if_neg e]
  · unfold gD nD updT
    simp only [if_true]
theorem gC_bnd {f : FN} {m : Nat} {TRS : Nat → Nat → Nat} {ro : Nat → Option Nat} {wd : Nat → Nat} {Q : Nat → SMK} {bo : Nat → Int} {h : Nat} (w : TW f m TRS ro wd Q bo h) {k n : Nat} (hk : k < m) (hN : h + n ≤ 9999) {tr : Nat → Nat} (hb : TB tr) (o : Nat) : bnd (gC tr wd ro h (Q k) n o) 2029797 := by
  have a := w.sum_le hk hb n
  have b : bnd (gC tr wd ro h (Q k) n o) (csI n (fun j => dS tr wd (bM tr) h j (Q k))) := ciI_bnd (fun j _ => dC_bnd _ _ _ _ _ _ _ _)
  unfold bnd at *
  omega
theorem restC_bnd {f : FN} {m : Nat} {TRS : Nat → Nat → Nat} {ro : Nat → Option Nat} {wd : Nat → Nat} {Q : Nat → SMK} {bo : Nat → Int} {h : Nat} (w : TW f m TRS ro wd Q bo h) {k n : Nat} (hN : h + n ≤ 9999) (o : Nat) (ho : o < 6) : bnd (bo o + restC TRS wd ro h Q m n k o) 32476752 := by
  have m8 := w.2.1.1.2
  have a : bnd (bo o) (csI m (fun k => csI 36 (Q k).2.1)) := w.2.2.2.2.2.2.2 o ho
  have b : bnd (restC TRS wd ro h Q m n k o) (csI m (fun i => csI n (fun j => nS TRS wd h Q j i))) := by
    refine ciI_bnd (fun i _ => ?_)
    by_cases e : i = k
    · simp only [if_pos e]; unfold bnd; omega
    · simp only [if_neg e]; exact ciI_bnd (fun j _ => dC_bnd _ _ _ _ _ _ _ _)
  have c := bnd_add a b
  have d : csI m (fun k => csI 36 (Q k).2.1) + csI m (fun i => csI n (fun j => nS TRS wd h Q j i)) ≤ m * 2029797 := by
    rw [← csI_addf]
    refine csI_le (fun i hi => ?_)
    have := w.sum_le hi (w.2.1.2.1 i hi).2 n
    unfold nS
    omega
  have e : m * 2029797 ≤ 8 * 2029797 := Nat.mul_le_mul_right _ m8
  unfold bnd at *
  omega
