/-! the tally, and settling -/
def iI (z : Int) : Int32 := Int32.ofInt z
theorem iI_a (a b : Int) : iI a + iI b = iI (a + b) := (Int32.ofInt_add a b).symm
theorem iI_s (a b : Int) : iI a - iI b = iI (a - b) := (Int32.ofInt_sub a b).symm
theorem iI_m (a b : Int) : iI a * iI b = iI (a * b) := (Int32.ofInt_mul a b).symm
theorem iI_n (n : Nat) : nI n = iI (n : Int) := (Int32.ofInt_eq_ofNat).symm
def ciI (n : Nat) (g : Nat → Int) : Int := match n with
  | 0 => 0
  | n + 1 => ciI n g + g n
abbrev TL : Type := Nat × (Nat → Int) × (Nat → Nat) × (Nat → Nat)
def HT (f : FN) (t : TL) : Prop := f 86 0 = nI t.1 ∧ (∀ o, o < 6 → f 87 o = iI (t.2.1 o)) ∧ (∀ o, o < 6 → f 88 o = nI (t.2.2.1 o)) ∧ ∀ o, o < 6 → f 89 o = nI (t.2.2.2 o)
def kC (p : Nat) (wo : Int) (ow : Nat) (r : Option Nat) (o : Nat) : Int := match r with
  | none => 0
  | some r => (p : Int) * wo * ((if o = ow then 1 else 0) - (if o = r then 1 else 0))
def kO (p : Nat) (r : Option Nat) (o : Nat) : Nat := if r = some o then p else 0
def kD (p : Nat) (wo : Int) (r : Option Nat) (o : Nat) : Nat := if r = some o ∧ wo < 0 then p else 0
def tlS (n : Nat) (p : Nat → Nat) (wo : Int) (ow : Nat) (ro : Nat → Option Nat) (t : TL) : TL := (t.1 + csI n p, fun o => t.2.1 o + ciI n (fun c => kC (p c) wo ow (ro c) o), fun o => t.2.2.1 o + csI n (fun c => kO (p c) (ro c) o), fun o => t.2.2.2 o + csI n (fun c => kD (p c) wo (ro c) o))
def woM (kd : Nat) : Int := match kd with
  | 0 => 0
  | 1 => 2
  | 2 => -3
  | 3 => -1
  | 4 => 3
  | 5 => -6
  | _ => -1
theorem woM_fin : ∀ k : Fin 7, worthN k.1 = iI (woM k.1) ∧ (iI (woM k.1) < 0 ↔ woM k.1 < 0) := by decide +kernel
theorem woM_eq {kd : Nat} (h : kd < 7) : worthN kd = iI (woM kd) := (woM_fin ⟨kd, h⟩).1
theorem woM_neg {kd : Nat} (h : kd < 7) : iI (woM kd) < 0 ↔ woM kd < 0 := (woM_fin ⟨kd, h⟩).2
def addX (f : FN) (p wo : Int32) (ow r : Nat) (d : Int32) : FN := row (row (row (row f 86 (upd (f 86) 0 (f 86 0 + p))) 88 (upd (f 88) r (f 88 r + p))) 89 (upd (f 89) r (f 89 r + d))) 87 (upd (upd (f 87) r (f 87 r - p * wo)) ow (upd (f 87) r (f 87 r - p * wo) ow + p * wo))
theorem X3_add_none (f : FN) (p wo ow : Int32) : D_X3_add [.ref 86, .int p, .int wo, .int ow, .int (-1)] (memOf f) = some (.null, memOf (row f 86 (upd (f 86) 0 (f 86 0 + p)))) := by
  have e : ¬ (0 : Int32) ≤ -1 := by decide
  simp [D_X3_add, S_X3_add, m_den, l0, Value.category, s_seq, s_if, s_st, s_ret, s_retz, s_retv, s_skip, s_sc, s_inc, s_call, e_c, e_li, e_lr, e_lj, e_un, e_bin, e_if, e_b, b_not, b_and, b_or, b_of, e_call, a_recv, a_snoc, a_nil, prI, prJ, prR, e_gi, e_gr, e_ai, e_ar, s_as, s_aop, s_pf, s_pfz, s_fop, l_set, l_ok, e_div, e_rem, e_len, s_tab, g_86_0, p_86_0, e]
theorem X3_add_some (f : FN) (p wo : Int32) {ow r : Nat} (ho : ow < 6) (hr : r < 6) : D_X3_add [.ref 86, .int p, .int wo, .int (nI ow), .int (nI r)] (memOf f) = some (.null, memOf (addX f p wo ow r (if wo < 0 then p else 0))) := by
  have e : (0 : Int32) ≤ nI r := nI_pos' (by omega)
  by_cases c : wo < 0 <;> simp [D_X3_add, S_X3_add, m_den, l0, Value.category, s_seq, s_if, s_st, s_ret, s_retz, s_retv, s_skip, s_sc, s_inc, s_call, e_c, e_li, e_lr, e_lj, e_un, e_bin, e_if, e_b, b_not, b_and, b_or, b_of, e_call, a_recv, a_snoc, a_nil, prI, prJ, prR, e_gi, e_gr, e_ai, e_ar, s_as, s_aop, s_pf, s_pfz, s_fop, l_set, l_ok, e_div, e_rem, e_len, s_tab, g_86_0, p_86_0, e, c, g_86_1, g_86_2, g_86_3, rd_87 _ hr, rd_87 _ ho, wr_87 _ hr, wr_87 _ ho, rd_88 _ hr, wr_88 _ hr, rd_89 _ hr, wr_89 _ hr, row_self, row_ne, row_row, addX]
theorem X3_add (f : FN) {t : TL} {p ow : Nat} {wo : Int} {r : Option Nat} (hT : HT f t) (ho : ow < 6) (hr : ∀ o, r = some o → o < 6) (hn : iI wo < 0 ↔ wo < 0) : ∃ g, D_X3_add [.ref 86, .int (nI p), .int (iI wo), .int (nI ow), .int (atv r)] (memOf f) = some (.null, memOf g) ∧ HT g (t.1 + p, fun o => t.2.1 o + kC p wo ow r o, fun o => t.2.2.1 o + kO p r o, fun o => t.2.2.2 o + kD p wo r o) ∧ ∀ j, ¬ (86 ≤ j ∧ j ≤ 89) → g j = f j := by
  obtain ⟨t1, t2, t3, t4⟩ := hT
  cases r with
  | none =>
    refine ⟨_, X3_add_none f _ _ _, ⟨?_, fun o h => ?_, fun o h => ?_, fun o h => ?_⟩, fun j hj => row_ne _ _ (by omega)⟩
    · rw [row_self, upd_self, t1, nI_a]
    · rw [row_ne _ _ (by omega), t2 o h]; unfold kC; simp
    · rw [row_ne _ _ (by omega), t3 o h]; unfold kO; simp
    · rw [row_ne _ _ (by omega), t4 o h]; unfold kD; simp
  | some r =>
    have hr' := hr r rfl
    refine ⟨_, X3_add_some f _ _ ho hr', ⟨?_, fun o h => ?_, fun o h => ?_, fun o h => ?_⟩, fun j hj => ?_⟩
    · unfold addX
      rw [row_ne _ _ (by omega), row_ne _ _ (by omega), row_ne _ _ (by omega), row_self, upd_self, t1, nI_a]
    · unfold addX
      rw [row_self]
      have e : nI p * iI wo = iI (p * wo) := by rw [iI_n, iI_m]
      have er : upd (f 87) r (f 87 r - nI p * iI wo) = fun x => if x = r then iI (t.2.1 r - p * wo) else f 87 x := by
        funext x; unfold upd; rw [e, t2 r hr', iI_s]
      rw [er, e]
      unfold upd kC
      by_cases c1 : o = ow
      · subst c1
        by_cases c2 : o = r
        · subst c2; simp only [if_true]; rw [iI_a]; congr 1; omega
        · simp only [if_true, if_neg c2]; rw [t2 o h, iI_a]; congr 1; rw [Int.sub_zero, Int.mul_one]
      · by_cases c2 : o = r
        · subst c2; simp only [if_true, if_neg c1]; congr 1; rw [Int.zero_sub, Int.mul_neg, Int.mul_one, Int.sub_eq_add_neg]
        · simp only [if_neg c1, if_neg c2]; rw [t2 o h]; congr 1; rw [Int.sub_self, Int.mul_zero, Int.add_zero]
    · unfold addX
      show _ = nI (t.2.2.1 o + kO p (some r) o)
      rw [row_ne _ _ (by omega), row_ne _ _ (by omega), row_self]
      unfold upd kO
      by_cases c : o = r
      · subst c; simp only [if_true]; rw [t3 o h, nI_a]
      · rw [if_neg c, if_neg (fun e => c (Option.some.inj e).symm), Nat.add_zero]; exact t3 o h
    · unfold addX
      show _ = nI (t.2.2.2 o + kD p wo (some r) o)
      rw [row_ne _ _ (by omega), row_self]
      unfold upd kD
      by_cases c : o = r
      · subst c
        by_cases c2 : wo < 0
        · rw [if_pos rfl, if_pos (hn.mpr c2), if_pos ⟨rfl, c2⟩, t4 o h, nI_a]
        · rw [if_pos rfl, if_neg (fun q => c2 (hn.mp q)), if_neg (fun q => c2 q.2), Nat.add_zero, t4 o h, Int32.add_zero]
      · rw [if_neg c, if_neg (fun e => c (Option.some.inj e.1).symm), Nat.add_zero]; exact t4 o h
    · unfold addX
      rw [row_ne _ _ (by omega), row_ne _ _ (by omega), row_ne _ _ (by omega), row_ne _ _ (by omega)]
def HRo (f : FN) (ro : Nat → Option Nat) : Prop := ∀ c, c < 36 → f 2 c = atv (ro c) ∧ ∀ o, ro c = some o → o < 6
theorem kC_0 (wo : Int) (ow : Nat) (r : Option Nat) (o : Nat) : kC 0 wo ow r o = 0 := by unfold kC; cases r <;> simp
theorem kO_0 (r : Option Nat) (o : Nat) : kO 0 r o = 0 := by unfold kO; split <;> rfl
theorem kD_0 (wo : Int) (r : Option Nat) (o : Nat) : kD 0 wo r o = 0 := by unfold kD; split <;> rfl
theorem X0_settle (f : FN) {i : Nat} {q : SMK} {tr : Nat → Nat} {ro : Nat → Option Nat} {t : TL} (h : isCh i) (hi : 2 < i ∧ i + 3 < 86) (hq : HC f i q) (ht : HTr f i tr) (hb : TB tr) (hR : HRo f ro) (hT : HT f t) (hA : ∀ c, c < 36 → q.1 c ≤ 3000000) : ∃ g, D_X0_settle [.ref i, .ref 2, .ref 86] (memOf f) = some (.null, memOf g) ∧ HC g i (smSet (sooM (tr 0) (tr 3)) q) ∧ HT g (tlS 36 (pt (sooM (tr 0) (tr 3)) q) (woM (tr 0)) (tr 1) ro t) ∧ ∀ j, j ≠ i + 2 → j ≠ i + 3 → ¬ (86 ≤ j ∧ j ≤ 89) → g j = f j := by
  have k0 : tr 0 < 7 := by have := hb 0 (by omega); simp only [lim] at this; omega
  have k1 : tr 1 < 6 := by have := hb 1 (by omega); simp only [lim] at this; omega
  have k3 : tr 3 < 10 := by have := hb 3 (by omega); simp only [lim] at this; omega
  have SO := X0_sooty f h k0 (ht 0 (by omega)) (ht 3 (by omega))
  rw [sooM_eq k0 k3] at SO
  have WO := X0_worth f h k0 (ht 0 (by omega))
  rw [woM_eq k0] at WO
  have hso := sooM_le (tr 0) (tr 3)
  obtain ⟨q1, q2, q3, q4, q5⟩ := hq
  obtain ⟨so, eso⟩ : ∃ so, so = sooM (tr 0) (tr 3) := ⟨_, rfl⟩
  obtain ⟨wo, ewo⟩ : ∃ wo, wo = woM (tr 0) := ⟨_, rfl⟩
  have hneg := woM_neg k0
  rw [← eso] at SO hso ⊢
  rw [← ewo] at WO hneg ⊢
  have key := while_rel (b := WB_X0_settle_1) (s := WS_X0_settle_1) (fun k => [.ref i, .ref 2, .ref 86, .int (nI so), .int (iI wo), .int (nI k)]) (fun k g => (∀ j, j ≠ i + 2 → j ≠ i + 3 → ¬ (86 ≤ j ∧ j ≤ 89) → g j = f j) ∧ (∀ c, c < 36 → g (i + 2) c = nI (if c < k then q.1 c - pt so q c else q.1 c)) ∧ (∀ c, c < 36 → g (i + 3) c = nI (if c < k then q.2.1 c + pt so q c else q.2.1 c)) ∧ HT g (tlS k (pt so q) wo (tr 1) ro t)) 36 (by unfold FU; omega) (fun k g hk hI => ?_) (fun k g hk hI => ?_) (fun g hI => ?_) (f := f) ⟨fun _ _ _ _ => rfl, fun c hc => by rw [q1 c hc, if_neg (by omega)], fun c hc => by rw [q2 c hc, if_neg (by omega)], ?_⟩
  · obtain ⟨g, W, I1, I2, I3, I4⟩ := key
    refine ⟨g, ?_, ⟨fun c hc => ?_, fun c hc => ?_, ?_, ?_, ?_⟩, I4, I1⟩
    · have W' : W_X0_settle_1 [.ref i, .ref 2, .ref 86, .int (nI so), .int (iI wo), .int 0] (memOf f) = some (.inl ([.ref i, .ref 2, .ref 86, .int (nI so), .int (iI wo), .int (nI 36)], memOf g)) := W
      simp [D_X0_settle, S_X0_settle, m_den, l0, Value.category, s_seq, s_if, s_st, s_ret, s_retz, s_retv, s_skip, s_sc, s_inc, s_call, e_c, e_li, e_lr, e_lj, e_un, e_bin, e_if, e_b, b_not, b_and, b_or, b_of, e_call, a_recv, a_snoc, a_nil, prI, prJ, prR, e_gi, e_gr, e_ai, e_ar, s_as, s_aop, s_pf, s_pfz, s_fop, l_set, l_ok, e_div, e_rem, e_len, s_tab, rcch f h, SO, WO, W']
    · rw [I2 c hc, if_pos hc]; rfl
    · rw [I3 c hc, if_pos hc]; rfl
    · rw [I1 _ (by omega) (by omega) (by omega)]; exact q3
    · rw [I1 _ (by omega) (by omega) (by omega)]; exact q4
    · rw [I1 _ (by omega) (by omega) (by omega)]; exact q5
  · have e : nI k < (36 : Int32) := lt_lit (n := 36) hk (by omega)
    simp [WB_X0_settle_1, m_den, l0, Value.category, s_seq, s_if, s_st, s_ret, s_retz, s_retv, s_skip, s_sc, s_inc, s_call, e_c, e_li, e_lr, e_lj, e_un, e_bin, e_if, e_b, b_not, b_and, b_or, b_of, e_call, a_recv, a_snoc, a_nil, prI, prJ, prR, e_gi, e_gr, e_ai, e_ar, s_as, s_aop, s_pf, s_pfz, s_fop, l_set, l_ok, e_div, e_rem, e_len, s_tab, e]
  · obtain ⟨I1, I2, I3, I4⟩ := hI
    have ea : g (i + 2) k = nI (q.1 k) := by rw [I2 k hk, if_neg (by omega)]
    have es : g (i + 3) k = nI (q.2.1 k) := by rw [I3 k hk, if_neg (by omega)]
    have hAk := hA k hk
    have hmul : q.1 k * so < 2 ^ 31 := by
      have := Nat.mul_le_mul hAk hso
      omega
    have ep : nI (q.1 k) * nI so / 100 = nI (pt so q k) := by rw [nI_m]; exact nI_d (b := 100) hmul (by omega)
    have hp : pt so q k ≤ q.1 k := by
      unfold pt
      have := Nat.mul_le_mul (Nat.le_refl (q.1 k)) hso
      omega
    have rT := rdt1 g h
    rw [I1 _ (by omega) (by omega) (by omega), ht 1 (by omega)] at rT
    have rR := rd_2 g hk
    rw [I1 2 (by omega) (by omega) (by omega), (hR k hk).1] at rR
    by_cases c0 : pt so q k = 0
    · have ep0 : nI (q.1 k) * nI so / 100 = 0 := by rw [ep, c0]; rfl
      refine ⟨g, ?_, I1, fun c hc => ?_, fun c hc => ?_, ?_⟩
      · simp [WS_X0_settle_1, m_den, l0, Value.category, s_seq, s_if, s_st, s_ret, s_retz, s_retv, s_skip, s_sc, s_inc, s_call, e_c, e_li, e_lr, e_lj, e_un, e_bin, e_if, e_b, b_not, b_and, b_or, b_of, e_call, a_recv, a_snoc, a_nil, prI, prJ, prR, e_gi, e_gr, e_ai, e_ar, s_as, s_aop, s_pf, s_pfz, s_fop, l_set, l_ok, e_div, e_rem, e_len, s_tab, gch1 g h, rda g h hk, ea, ep0, nI_next]
      · rw [I2 c hc]
        by_cases e : c = k
        · subst e; rw [if_neg (by omega), if_pos (by omega), c0]; rfl
        · by_cases e2 : c < k
          · rw [if_pos e2, if_pos (by omega)]
          · rw [if_neg e2, if_neg (by omega)]
      · rw [I3 c hc]
        by_cases e : c = k
        · subst e; rw [if_neg (by omega), if_pos (by omega), c0]; rfl
        · by_cases e2 : c < k
          · rw [if_pos e2, if_pos (by omega)]
          · rw [if_neg e2, if_neg (by omega)]
      · have e : tlS (k + 1) (pt so q) wo (tr 1) ro t = tlS k (pt so q) wo (tr 1) ro t := by
          simp only [tlS, csI, ciI, c0, kC_0, kO_0, kD_0, Nat.add_zero, Int.add_zero]
        rw [e]; exact I4
    · have ep0 : 0 < nI (pt so q k) := (nI_lt_iff (a := 0) (by omega) (by omega)).mpr (by omega)
      obtain ⟨g2, hg2⟩ : ∃ g2, g2 = row (row g (i + 2) (upd (g (i + 2)) k (nI (q.1 k) - nI (pt so q k)))) (i + 3) (upd (g (i + 3)) k (nI (q.2.1 k) + nI (pt so q k))) := ⟨_, rfl⟩
      have e2 : ∀ j, j ≠ i + 2 → j ≠ i + 3 → g2 j = g j := fun j h1 h2 => by rw [hg2, row_ne _ _ h2, row_ne _ _ h1]
      have hT2 : HT g2 (tlS k (pt so q) wo (tr 1) ro t) := by
        unfold HT at I4 ⊢
        rw [e2 86 (by omega) (by omega), e2 87 (by omega) (by omega), e2 88 (by omega) (by omega), e2 89 (by omega) (by omega)]
        exact I4
      obtain ⟨g3, A1, A2, A3⟩ := X3_add g2 (p := pt so q k) (ow := tr 1) (wo := wo) (r := ro k) hT2 k1 (hR k hk).2 hneg
      have rT2 : gm_rd (memOf g2) (i + 1) 1 = some (nI (tr 1)) := by
        rw [rdt1 g2 h, e2 _ (by omega) (by omega), I1 _ (by omega) (by omega) (by omega), ht 1 (by omega)]
      have rR2 : gm_rd (memOf g2) 2 (nI k) = some (atv (ro k)) := by
        rw [rd_2 g2 hk, e2 _ (by omega) (by omega), I1 _ (by omega) (by omega) (by omega), (hR k hk).1]
      refine ⟨g3, ?_, fun j h1 h2 h3 => ?_, fun c hc => ?_, fun c hc => ?_, ?_⟩
      · have n1 : i + 3 ≠ i + 2 := by omega
        have w1 := wra g h hk (nI (q.1 k) - nI (pt so q k))
        have w2 := wrs (row g (i + 2) (upd (g (i + 2)) k (nI (q.1 k) - nI (pt so q k)))) h hk (nI (q.2.1 k) + nI (pt so q k))
        rw [row_ne _ _ n1, ← hg2] at w2
        have rs := rds (row g (i + 2) (upd (g (i + 2)) k (nI (q.1 k) - nI (pt so q k)))) h hk
        rw [row_ne _ _ n1, es] at rs
        simp [WS_X0_settle_1, m_den, l0, Value.category, s_seq, s_if, s_st, s_ret, s_retz, s_retv, s_skip, s_sc, s_inc, s_call, e_c, e_li, e_lr, e_lj, e_un, e_bin, e_if, e_b, b_not, b_and, b_or, b_of, e_call, a_recv, a_snoc, a_nil, prI, prJ, prR, e_gi, e_gr, e_ai, e_ar, s_as, s_aop, s_pf, s_pfz, s_fop, l_set, l_ok, e_div, e_rem, e_len, s_tab, gch1 _ h, gch2 _ h, gch0 _ h, rda g h hk, ea, ep, ep0, w1, rs, w2, rT2, rR2, rc_86, A1, nI_next]
      · rw [A3 j h3, e2 j h1 h2]; exact I1 j h1 h2 h3
      · rw [A3 _ (by omega), hg2, row_ne _ _ (by omega), row_self]
        unfold upd
        by_cases e : c = k
        · subst e; rw [if_pos rfl, if_pos (by omega), nI_s hp]
        · rw [if_neg e, I2 c hc]
          by_cases e3 : c < k
          · rw [if_pos e3, if_pos (by omega)]
          · rw [if_neg e3, if_neg (by omega)]
      · rw [A3 _ (by omega), hg2, row_self]
        unfold upd
        by_cases e : c = k
        · subst e; rw [if_pos rfl, if_pos (by omega), nI_a]
        · rw [if_neg e, I3 c hc]
          by_cases e3 : c < k
          · rw [if_pos e3, if_pos (by omega)]
          · rw [if_neg e3, if_neg (by omega)]
      · have e : tlS (k + 1) (pt so q) wo (tr 1) ro t = ((tlS k (pt so q) wo (tr 1) ro t).1 + pt so q k, fun o => (tlS k (pt so q) wo (tr 1) ro t).2.1 o + kC (pt so q k) wo (tr 1) (ro k) o, fun o => (tlS k (pt so q) wo (tr 1) ro t).2.2.1 o + kO (pt so q k) (ro k) o, fun o => (tlS k (pt so q) wo (tr 1) ro t).2.2.2 o + kD (pt so q k) wo (ro k) o) := by
          simp only [tlS, csI, ciI, Nat.add_assoc, Int.add_assoc]
        rw [e]; exact A2
  · have e : ¬ nI 36 < (36 : Int32) := nlt_lit (n := 36) (by omega)
    simp [WB_X0_settle_1, m_den, l0, Value.category, s_seq, s_if, s_st, s_ret, s_retz, s_retv, s_skip, s_sc, s_inc, s_call, e_c, e_li, e_lr, e_lj, e_un, e_bin, e_if, e_b, b_not, b_and, b_or, b_of, e_call, a_recv, a_snoc, a_nil, prI, prJ, prR, e_gi, e_gr, e_ai, e_ar, s_as, s_aop, s_pf, s_pfz, s_fop, l_set, l_ok, e_div, e_rem, e_len, s_tab, e]
  · have e : tlS 0 (pt so q) wo (tr 1) ro t = t := by simp only [tlS, csI, ciI, Nat.add_zero, Int.add_zero]
    rw [e]; exact hT
