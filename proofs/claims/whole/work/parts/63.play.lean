/-! System.arraycopy; a chimney's copy; the tally begins; playing clocks and hours -/
theorem sl_cpy (f g : Nat → Int32) {a b u v k : Nat} (ha : u + k ≤ a) (hb : v + k ≤ b) : l_cpy (sl_of f (List.replicate a none)) (sl_of g (List.replicate b none)) u v k = sl_of (put v k (fun j => f (u + j)) g) (List.replicate b none) := by
  apply List.ext_getElem?
  intro j
  rw [l_cpy_at (by rw [sl_len]; simpa using ha) (by rw [sl_len]; simpa using hb), sl_at, sl_at, sl_at]
  unfold put
  by_cases c : v ≤ j ∧ j < v + k
  · rw [if_pos c]
    have e1 : (List.replicate a (none : Option Nat))[u + (j - v)]? = some none := by rw [List.getElem?_replicate, if_pos (by omega)]
    have e2 : (List.replicate b (none : Option Nat))[j]? = some none := by rw [List.getElem?_replicate, if_pos (by omega)]
    rw [e1, e2]
    simp [c]
  · rw [if_neg c]
    by_cases c2 : j < b
    · have e2 : (List.replicate b (none : Option Nat))[j]? = some none := by rw [List.getElem?_replicate, if_pos (by omega)]
      rw [e2]; simp [c]
    · have e2 : (List.replicate b (none : Option Nat))[j]? = none := by rw [List.getElem?_replicate, if_neg (by omega)]
      rw [e2]; rfl
theorem s_cpy_of {r0 r1 : DE Nat} {sp dp n : DE Int32} {L : List Value} {f : FN} {s d a b u v k : Nat} (h0 : r0 L (memOf f) = some (s, memOf f)) (h1 : sp L (memOf f) = some (nI u, memOf f)) (h2 : r1 L (memOf f) = some (d, memOf f)) (h3 : dp L (memOf f) = some (nI v, memOf f)) (h4 : n L (memOf f) = some (nI k, memOf f)) (hs : shp[s]? = some (ia a)) (hd : shp[d]? = some (ia b)) (ha : u + k ≤ a) (hb : v + k ≤ b) (ha2 : a < 2 ^ 31) (hb2 : b < 2 ^ 31) : s_cpy r0 sp r1 dp n L (memOf f) = some (.inl (L, memOf (row f d (put v k (fun j => f s (u + j)) (f d))))) := by
  have eu : (nI u).toNatClampNeg = u := nI_clamp (by omega)
  have ev : (nI v).toNatClampNeg = v := nI_clamp (by omega)
  have ek : (nI k).toNatClampNeg = k := nI_clamp (by omega)
  have ps : (memOf f)[s]? = some (10, sl_of (f s) (List.replicate a none)) := mem_of f hs
  have pd : (memOf f)[d]? = some (10, sl_of (f d) (List.replicate b none)) := mem_of f hd
  have st := mem_set f hd (put v k (fun j => f s (u + j)) (f d))
  unfold s_cpy
  rw [h0]; simp only [Option.bind_some]
  rw [h1]; simp only [Option.bind_some]
  rw [h2]; simp only [Option.bind_some]
  rw [h3]; simp only [Option.bind_some]
  rw [h4]; simp only [Option.bind_some]
  rw [ps, pd]
  simp only [eu, ev, ek]
  rw [if_pos ⟨⟨trivial, trivial⟩, nI_pos' (by omega), nI_pos' (by omega), nI_pos' (by omega), by rw [sl_len]; simpa using ha, by rw [sl_len]; simpa using hb⟩, sl_cpy _ _ ha hb]
  exact congrArg (fun z => some (Sum.inl (L, z))) st
/-- a chimney takes what another one is -/
theorem X0_take (f : FN) {i j : Nat} (hi : isCh i) (hj : isCh j) (hd : i + 3 < j ∨ j + 3 < i) : ∃ g, D_X0_take [.ref i, .ref j] (memOf f) = some (.null, memOf g) ∧ (∀ x, x < 7 → g (i + 1) x = f (j + 1) x) ∧ (∀ x, x < 36 → g (i + 2) x = f (j + 2) x) ∧ (∀ x, x < 36 → g (i + 3) x = f (j + 3) x) ∧ g i 3 = f j 3 ∧ g i 4 = f j 4 ∧ g i 5 = f j 5 ∧ ∀ x, ¬ (i ≤ x ∧ x ≤ i + 3) → g x = f x := by
  have c1 : ∀ g : FN, s_cpy (e_gr 0 0 (e_lr 1)) (e_c (0 : Int32)) (e_gr 0 0 (e_lr 0)) (e_c (0 : Int32)) (e_c (7 : Int32)) [.ref i, .ref j] (memOf g) = some (.inl ([.ref i, .ref j], memOf (row g (i + 1) (put 0 7 (fun x => g (j + 1) (0 + x)) (g (i + 1)))))) := fun g => s_cpy_of (s := j + 1) (d := i + 1) (u := 0) (v := 0) (k := 7) (by simp [e_gr, e_lr, gch0 g hj]) rfl (by simp [e_gr, e_lr, gch0 g hi]) rfl rfl hj.2.1 hi.2.1 (by omega) (by omega) (by omega) (by omega)
  have c2 : ∀ g : FN, s_cpy (e_gr 0 1 (e_lr 1)) (e_c (0 : Int32)) (e_gr 0 1 (e_lr 0)) (e_c (0 : Int32)) (e_c (36 : Int32)) [.ref i, .ref j] (memOf g) = some (.inl ([.ref i, .ref j], memOf (row g (i + 2) (put 0 36 (fun x => g (j + 2) (0 + x)) (g (i + 2)))))) := fun g => s_cpy_of (s := j + 2) (d := i + 2) (u := 0) (v := 0) (k := 36) (by simp [e_gr, e_lr, gch1 g hj]) rfl (by simp [e_gr, e_lr, gch1 g hi]) rfl rfl hj.2.2.1 hi.2.2.1 (by omega) (by omega) (by omega) (by omega)
  have c3 : ∀ g : FN, s_cpy (e_gr 0 2 (e_lr 1)) (e_c (0 : Int32)) (e_gr 0 2 (e_lr 0)) (e_c (0 : Int32)) (e_c (36 : Int32)) [.ref i, .ref j] (memOf g) = some (.inl ([.ref i, .ref j], memOf (row g (i + 3) (put 0 36 (fun x => g (j + 3) (0 + x)) (g (i + 3)))))) := fun g => s_cpy_of (s := j + 3) (d := i + 3) (u := 0) (v := 0) (k := 36) (by simp [e_gr, e_lr, gch2 g hj]) rfl (by simp [e_gr, e_lr, gch2 g hi]) rfl rfl hj.2.2.2 hi.2.2.2 (by omega) (by omega) (by omega) (by omega)
  obtain ⟨g1, h1⟩ : ∃ g1, g1 = row f (i + 1) (put 0 7 (fun x => f (j + 1) (0 + x)) (f (i + 1))) := ⟨_, rfl⟩
  obtain ⟨g2, h2⟩ : ∃ g2, g2 = row g1 (i + 2) (put 0 36 (fun x => g1 (j + 2) (0 + x)) (g1 (i + 2))) := ⟨_, rfl⟩
  obtain ⟨g3, h3⟩ : ∃ g3, g3 = row g2 (i + 3) (put 0 36 (fun x => g2 (j + 3) (0 + x)) (g2 (i + 3))) := ⟨_, rfl⟩
  have x1 := c1 f
  have x2 := c2 g1
  have x3 := c3 g2
  rw [← h1] at x1
  rw [← h2] at x2
  rw [← h3] at x3
  have n1 : j ≠ i := by omega
  have P : ∀ (n a : Nat) (u v : Nat → Int32), a < n → put 0 n (fun x => u (0 + x)) v a = u a := fun n a u v ha => by
    have := put_in (a := 0) (fun x => u (0 + x)) v ha
    simpa using this
  have E : ∀ x, x ≠ i + 1 → x ≠ i + 2 → x ≠ i + 3 → g3 x = f x := fun x a b c => by
    rw [h3, row_ne _ _ c, h2, row_ne _ _ b, h1, row_ne _ _ a]
  have ej := E j (by omega) (by omega) (by omega)
  have ei := E i (by omega) (by omega) (by omega)
  refine ⟨row g3 i (upd (upd (upd (f i) 3 (f j 3)) 4 (f j 4)) 5 (f j 5)), ?_, fun x hx => ?_, fun x hx => ?_, fun x hx => ?_, ?_, ?_, ?_, fun x hx => ?_⟩
  · simp [D_X0_take, S_X0_take, m_den, l0, Value.category, s_seq, s_if, s_st, s_ret, s_retz, s_retv, s_skip, s_sc, s_inc, s_call, e_c, e_li, e_lr, e_lj, e_un, e_bin, e_if, e_b, b_not, b_and, b_or, b_of, e_call, a_recv, a_snoc, a_nil, prI, prJ, prR, e_gi, e_gr, e_ai, e_ar, s_as, s_aop, s_pf, s_pfz, s_fop, l_set, l_ok, e_div, e_rem, e_len, s_tab, x1, x2, x3, gch3 _ hj, gch4 _ hj, gch5 _ hj, pch3 _ hi, pch4 _ hi, pch5 _ hi, row_self, row_row, row_ne _ _ n1, ej, ei]
  · rw [row_ne _ _ (by omega), h3, row_ne _ _ (by omega), h2, row_ne _ _ (by omega), h1, row_self, P _ _ _ _ hx]
  · rw [row_ne _ _ (by omega), h3, row_ne _ _ (by omega), h2, row_self, P _ _ _ _ hx, h1, row_ne _ _ (by omega)]
  · rw [row_ne _ _ (by omega), h3, row_self, P _ _ _ _ hx, h2, row_ne _ _ (by omega), h1, row_ne _ _ (by omega)]
  · rw [row_self, upd_ne _ _ (by omega), upd_ne _ _ (by omega), upd_self]
  · rw [row_self, upd_ne _ _ (by omega), upd_self]
  · rw [row_self, upd_self]
  · rw [row_ne _ _ (by omega)]; exact E x (by omega) (by omega) (by omega)
def tl0 : TL := (0, fun _ => 0, fun _ => 0, fun _ => 0)
theorem X3_begin (f : FN) : ∃ g, D_X3_begin [.ref 86] (memOf f) = some (.null, memOf g) ∧ HT g tl0 ∧ ∀ j, ¬ (86 ≤ j ∧ j ≤ 89) → g j = f j := by
  have F7 := fun g : FN => J7_fill g sh_87 (by omega) 0
  have F8 := fun g : FN => J7_fill g sh_88 (by omega) 0
  have F9 := fun g : FN => J7_fill g sh_89 (by omega) 0
  refine ⟨row (row (row (row f 86 (upd (f 86) 0 0)) 87 (fil 6 0 (f 87))) 88 (fil 6 0 (f 88))) 89 (fil 6 0 (f 89)), ?_, ⟨?_, fun o h => ?_, fun o h => ?_, fun o h => ?_⟩, fun j hj => ?_⟩
  · simp [D_X3_begin, S_X3_begin, m_den, l0, Value.category, s_seq, s_if, s_st, s_ret, s_retz, s_retv, s_skip, s_sc, s_inc, s_call, e_c, e_li, e_lr, e_lj, e_un, e_bin, e_if, e_b, b_not, b_and, b_or, b_of, e_call, a_recv, a_snoc, a_nil, prI, prJ, prR, e_gi, e_gr, e_ai, e_ar, s_as, s_aop, s_pf, s_pfz, s_fop, l_set, l_ok, e_div, e_rem, e_len, s_tab, p_86_0, g_86_1, g_86_2, g_86_3, F7, F8, F9, row_ne]
  · rw [row_ne _ _ (by omega), row_ne _ _ (by omega), row_ne _ _ (by omega), row_self, upd_self]; rfl
  · rw [row_ne _ _ (by omega), row_ne _ _ (by omega), row_self, fil_in _ _ h]; rfl
  · rw [row_ne _ _ (by omega), row_self, fil_in _ _ h]; rfl
  · rw [row_self, fil_in _ _ h]; rfl
  · rw [row_ne _ _ (by omega), row_ne _ _ (by omega), row_ne _ _ (by omega), row_ne _ _ (by omega)]
def HWi (f : FN) (wd : Nat → Nat) : Prop := ∀ c, c < 24 → f 3 c = nI (wd c) ∧ wd c < 5
def stp (tr : Nat → Nat) (w b : Nat) (q : SMK) : SMK := smSet (sooM (tr 0) (tr 3)) (smWind w (smBurn (tr 2) b q))
def ptp (tr : Nat → Nat) (w b : Nat) (q : SMK) : Nat → Nat := pt (sooM (tr 0) (tr 3)) (smWind w (smBurn (tr 2) b q))
theorem smBurn_0 (ce : Nat) (q : SMK) : smBurn ce 0 q = q := by
  unfold smBurn
  have e : (fun c => if c = ce then q.1 c + 0 else q.1 c) = q.1 := by funext c; split <;> rfl
  rw [e]; rfl
theorem pt_calm (so : Nat) (q : SMK) (c : Nat) : pt so (smWind 0 q) c = 0 := by unfold pt smWind; simp
theorem smSet_calm (so : Nat) (q : SMK) : smSet so (smWind 0 q) = smWind 0 q := by
  unfold smSet
  have e1 : (fun c => (smWind 0 q).1 c - pt so (smWind 0 q) c) = (smWind 0 q).1 := by funext c; rw [pt_calm]; rfl
  have e2 : (fun c => (smWind 0 q).2.1 c + pt so (smWind 0 q) c) = (smWind 0 q).2.1 := by funext c; rw [pt_calm]; rfl
  rw [e1, e2]
theorem ciI_congr {n : Nat} {g h : Nat → Int} (e : ∀ i, i < n → g i = h i) : ciI n g = ciI n h := by
  induction n with
  | zero => rfl
  | succ n ih => show ciI n g + g n = ciI n h + h n; rw [ih (fun i hi => e i (by omega)), e n (by omega)]
theorem ciI_zero (n : Nat) : ciI n (fun _ => 0) = 0 := by
  induction n with
  | zero => rfl
  | succ n ih => show ciI n (fun _ => 0) + 0 = 0; rw [ih]; rfl
theorem tlS_0 {n : Nat} {p : Nat → Nat} (wo : Int) (ow : Nat) (ro : Nat → Option Nat) (t : TL) (h : ∀ c, c < n → p c = 0) : tlS n p wo ow ro t = t := by
  unfold tlS
  have e1 : csI n p = 0 := by rw [csI_congr h, csI_zero]
  have e2 : ∀ o, ciI n (fun c => kC (p c) wo ow (ro c) o) = 0 := fun o => by
    rw [ciI_congr (h := fun _ => 0) (fun c hc => by rw [h c hc, kC_0]), ciI_zero]
  have e3 : ∀ o, csI n (fun c => kO (p c) (ro c) o) = 0 := fun o => by
    rw [csI_congr (h := fun _ => 0) (fun c hc => by rw [h c hc, kO_0]), csI_zero]
  have e4 : ∀ o, csI n (fun c => kD (p c) wo (ro c) o) = 0 := fun o => by
    rw [csI_congr (h := fun _ => 0) (fun c hc => by rw [h c hc, kD_0]), csI_zero]
  simp only [e1, e2, e3, e4, Nat.add_zero, Int.add_zero]
theorem HT.congr {f g : FN} {t : TL} (h : HT f t) (e : ∀ j, 86 ≤ j → j ≤ 89 → g j = f j) : HT g t := by
  unfold HT at h ⊢
  rw [e 86 (by omega) (by omega), e 87 (by omega) (by omega), e 88 (by omega) (by omega), e 89 (by omega) (by omega)]
  exact h
theorem HTr.congr {f g : FN} {i : Nat} {tr : Nat → Nat} (h : HTr f i tr) (e : g (i + 1) = f (i + 1)) : HTr g i tr := by
  unfold HTr at h ⊢; rw [e]; exact h
theorem HRo.congr {f g : FN} {ro : Nat → Option Nat} (h : HRo f ro) (e : g 2 = f 2) : HRo g ro := by
  unfold HRo at h ⊢; rw [e]; exact h
theorem HWi.congr {f g : FN} {wd : Nat → Nat} (h : HWi f wd) (e : g 3 = f 3) : HWi g wd := by
  unfold HWi at h ⊢; rw [e]; exact h
theorem HC.congr {f g : FN} {i : Nat} {q : SMK} (h : HC f i q) (e : ∀ j, i ≤ j → j ≤ i + 3 → j ≠ i + 1 → g j = f j) : HC g i q := by
  unfold HC at h ⊢
  rw [e i (by omega) (by omega) (by omega), e (i + 2) (by omega) (by omega) (by omega), e (i + 3) (by omega) (by omega) (by omega)]
  exact h
theorem smBurn_le {ce b M : Nat} {q : SMK} (h : ∀ c, c < 36 → q.1 c ≤ M) : ∀ c, c < 36 → (smBurn ce b q).1 c ≤ M + b := by
  intro c hc
  have := h c hc
  unfold smBurn
  simp only
  split <;> omega
theorem smWind_le {w M : Nat} {q : SMK} (hw : w < 5) (h : ∀ c, c < 36 → q.1 c ≤ M) : ∀ c, c < 36 → (smWind w q).1 c ≤ M := by
  intro c hc
  unfold smWind
  split
  · exact Nat.zero_le _
  · show mvA q.1 w c ≤ M
    unfold mvA
    split
    · rename_i d hd
      exact h d (bk_lt hw hc hd)
    · exact Nat.zero_le _
theorem stp_le {tr : Nat → Nat} {w b M : Nat} {q : SMK} (hw : w < 5) (h : ∀ c, c < 36 → q.1 c ≤ M) : ∀ c, c < 36 → (stp tr w b q).1 c ≤ M + b := by
  intro c hc
  have := smWind_le (w := w) hw (smBurn_le (ce := tr 2) (b := b) h) c hc
  unfold stp smSet
  show (smWind w (smBurn (tr 2) b q)).1 c - _ ≤ M + b
  omega
theorem X5_playClock (f : FN) {i cl : Nat} {b : Bool} {q : SMK} {tr wd : Nat → Nat} {ro : Nat → Option Nat} {t : TL} (h : isCh i) (hi : 3 < i ∧ i + 3 < 86) (hq : HC f i q) (ht : HTr f i tr) (hb : TB tr) (hR : HRo f ro) (hW : HWi f wd) (hT : HT f t) (hc : cl < 24) (hA : ∀ c, c < 36 → q.1 c ≤ 2999000) : ∃ g, D_X5_playClock [.ref 1, .ref i, .int (nI cl), .int (if b then 1 else 0), .ref 86] (memOf f) = some (.null, memOf g) ∧ HC g i (stp tr (wd cl) (if b then burM (tr 0) (tr 4) cl else 0) q) ∧ HT g (tlS 36 (ptp tr (wd cl) (if b then burM (tr 0) (tr 4) cl else 0) q) (woM (tr 0)) (tr 1) ro t) ∧ ∀ j, j ≠ i → j ≠ i + 2 → j ≠ i + 3 → ¬ (86 ≤ j ∧ j ≤ 89) → g j = f j := by
  have hfr : tr 4 ≤ 99 := hb 4 (by omega)
  have hbl := burM_le (kd := tr 0) (clock := cl) hfr
  obtain ⟨bu, ebu⟩ : ∃ bu, bu = (if b then burM (tr 0) (tr 4) cl else 0) := ⟨_, rfl⟩
  have hbu : bu ≤ 203 := by rw [ebu]; split <;> omega
  -- the burning
  have hB : ∃ g1, s_if (b_of (e_li 3)) (s_call D_X0_burnAt 2 (a_recv 0 (a_snoc Value.int (a_snoc Value.ref a_nil (e_lr 1)) (e_li 2)))) s_skip [.ref 1, .ref i, .int (nI cl), .int (if b then 1 else 0), .ref 86] (memOf f) = some (.inl ([.ref 1, .ref i, .int (nI cl), .int (if b then 1 else 0), .ref 86], memOf g1)) ∧ HC g1 i (smBurn (tr 2) bu q) ∧ ∀ j, j ≠ i → j ≠ i + 2 → g1 j = f j := by
    cases b with
    | false =>
      refine ⟨f, ?_, ?_, fun _ _ _ => rfl⟩
      · simp [s_if, b_of, e_li, s_skip]
      · rw [ebu]; simp only [Bool.false_eq_true, if_false]; rw [smBurn_0]; exact hq
    | true =>
      obtain ⟨g1, a1, a2, a3⟩ := X0_burnAt f h hq ht hb hc
      refine ⟨g1, ?_, ?_, a3⟩
      · simp [s_if, b_of, e_li, s_call, a_recv, a_snoc, a_nil, e_lr, rcch f h, a1]
      · rw [ebu]; simp only [if_true]; exact a2
  obtain ⟨g1, B1, B2, B3⟩ := hB
  rw [← ebu]
  have hW1 := hW.congr (B3 3 (by omega) (by omega))
  have rw3 : gm_rd (memOf g1) 3 (nI cl) = some (nI (wd cl)) := by rw [rd_3 g1 hc, (hW1 cl hc).1]
  have hA1 := smBurn_le (ce := tr 2) (b := bu) hA
  by_cases c0 : wd cl = 0
  · obtain ⟨g2, D1, D2, D3⟩ := X0_comeDown g1 h B2
    refine ⟨g2, ?_, ?_, ?_, fun j h1 h2 h3 h4 => by rw [D3 j h1 h2, B3 j h1 h2]⟩
    · have rw0 : gm_rd (memOf g1) 3 (nI cl) = some 0 := by rw [rw3, c0]; rfl
      simp [D_X5_playClock, S_X5_playClock, m_den, l0, Value.category, s_seq, B1]
      simp [m_den, l0, Value.category, s_seq, s_if, s_st, s_ret, s_retz, s_retv, s_skip, s_sc, s_inc, s_call, e_c, e_li, e_lr, e_lj, e_un, e_bin, e_if, e_b, b_not, b_and, b_or, b_of, e_call, a_recv, a_snoc, a_nil, prI, prJ, prR, e_gi, e_gr, e_ai, e_ar, s_as, s_aop, s_pf, s_pfz, s_fop, l_set, l_ok, e_div, e_rem, e_len, s_tab, g_1_4, rw0, rcch g1 h, D1]
    · rw [c0]; unfold stp; rw [smSet_calm]; exact D2
    · rw [c0, tlS_0 _ _ _ _ (fun c _ => by unfold ptp; rw [pt_calm])]
      exact hT.congr (fun j h1 h2 => by rw [D3 j (by omega) (by omega), B3 j (by omega) (by omega)])
  · have hw5 := (hW cl hc).2
    obtain ⟨g2, D1, D2, D3⟩ := X0_drift g1 h hw5 c0 B2 (fun c hc => by have := hA1 c hc; omega)
    have E2 : ∀ j, j ≠ i → j ≠ i + 2 → g2 j = f j := fun j h1 h2 => by rw [D3 j h1 h2, B3 j h1 h2]
    obtain ⟨g3, S1, S2, S3, S4⟩ := X0_settle g2 h (by omega) D2 (ht.congr (E2 _ (by omega) (by omega))) hb (hR.congr (E2 2 (by omega) (by omega))) (hT.congr (fun j _ _ => E2 j (by omega) (by omega))) (fun c hc => by have := smWind_le hw5 hA1 c hc; omega)
    refine ⟨g3, ?_, S2, S3, fun j h1 h2 h3 h4 => by rw [S4 j h2 h3 h4, E2 j h1 h2]⟩
    have n0 : ¬ nI (wd cl) = 0 := fun e => c0 ((nI_inj (a := wd cl) (b := 0) (by omega) (by omega)).mp e)
    simp [D_X5_playClock, S_X5_playClock, m_den, l0, Value.category, s_seq, B1]
    simp [m_den, l0, Value.category, s_seq, s_if, s_st, s_ret, s_retz, s_retv, s_skip, s_sc, s_inc, s_call, e_c, e_li, e_lr, e_lj, e_un, e_bin, e_if, e_b, b_not, b_and, b_or, b_of, e_call, a_recv, a_snoc, a_nil, prI, prJ, prR, e_gi, e_gr, e_ai, e_ar, s_as, s_aop, s_pf, s_pfz, s_fop, l_set, l_ok, e_div, e_rem, e_len, s_tab, g_1_4, g_1_3, rw3, n0, rcch _ h, D1, S1]
