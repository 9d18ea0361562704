/-! THE SMOKE OF ONE CHIMNEY, in naturals: in the air, settled, out, down in town, burnt -/
abbrev SMK : Type := (Nat → Nat) × (Nat → Nat) × Nat × Nat × Nat
def bk (c w : Nat) : Option Nat := match w with
  | 1 => mv c 3
  | 2 => mv c 4
  | 3 => mv c 1
  | 4 => mv c 2
  | _ => none
def mvA (A : Nat → Nat) (w c : Nat) : Nat := match bk c w with
  | some d => A d
  | none => 0
def outA (A : Nat → Nat) (w : Nat) : Nat := csI 36 (fun c => if mv c w = none then A c else 0)
def smBurn (ce b : Nat) (q : SMK) : SMK := (fun c => if c = ce then q.1 c + b else q.1 c, q.2.1, q.2.2.1, q.2.2.2.1, q.2.2.2.2 + b)
def smWind (w : Nat) (q : SMK) : SMK := if w = 0 then (fun _ => 0, q.2.1, q.2.2.1, q.2.2.2.1 + csI 36 q.1, q.2.2.2.2) else (mvA q.1 w, q.2.1, q.2.2.1 + outA q.1 w, q.2.2.2.1, q.2.2.2.2)
def pt (so : Nat) (q : SMK) (c : Nat) : Nat := q.1 c * so / 100
def smSet (so : Nat) (q : SMK) : SMK := (fun c => q.1 c - pt so q c, fun c => q.2.1 c + pt so q c, q.2.2.1, q.2.2.2.1, q.2.2.2.2)
/-- the chimney at cell i holds this smoke -/
def HC (f : FN) (i : Nat) (q : SMK) : Prop := (∀ c, c < 36 → f (i + 2) c = nI (q.1 c)) ∧ (∀ c, c < 36 → f (i + 3) c = nI (q.2.1 c)) ∧ f i 3 = nI q.2.2.1 ∧ f i 4 = nI q.2.2.2.1 ∧ f i 5 = nI q.2.2.2.2
def HTr (f : FN) (i : Nat) (tr : Nat → Nat) : Prop := ∀ j, j < 7 → f (i + 1) j = nI (tr j)
def TB (tr : Nat → Nat) : Prop := ∀ j, j < 7 → tr j ≤ lim j
def burM (kd fire clock : Nat) : Nat := match kd with
  | 3 => 2 * fire
  | 4 => if clock < 12 then fire else 0
  | 6 => 2 * fire + 5
  | _ => fire
theorem burM_eq (kd fire clock : Nat) : burnN kd fire clock = nI (burM kd fire clock) := by
  have e2 : (2 : Int32) * nI fire = nI (2 * fire) := nI_m 2 fire
  have e5 : nI (2 * fire) + (5 : Int32) = nI (2 * fire + 5) := nI_a (2 * fire) 5
  unfold burnN burM
  split
  · exact e2
  · split <;> rfl
  · show (2 : Int32) * nI fire + 5 = nI (2 * fire + 5)
    rw [e2, e5]
  · rename_i h1 h2 h3
    split
    · exact absurd rfl h1
    · exact absurd rfl h2
    · exact absurd rfl h3
    · rfl
theorem burM_le {kd fire clock : Nat} (h : fire ≤ 99) : burM kd fire clock ≤ 203 := by
  unfold burM
  split
  · omega
  · split <;> omega
  · omega
  · omega
def sooM (kd hi : Nat) : Nat := (match kd with
  | 5 => 50
  | 6 => 60
  | _ => 30) - 3 * hi
theorem sooM_fin : ∀ k : Fin 7, ∀ h : Fin 10, sootyN k.1 h.1 = nI (sooM k.1 h.1) := by decide +kernel
theorem sooM_eq {kd hi : Nat} (hk : kd < 7) (hh : hi < 10) : sootyN kd hi = nI (sooM kd hi) := sooM_fin ⟨kd, hk⟩ ⟨hi, hh⟩
theorem sooM_le (kd hi : Nat) : sooM kd hi ≤ 60 := by
  unfold sooM
  split <;> omega
theorem csI_upd {n y v : Nat} {G H : Nat → Nat} (hy : y < n) (h : ∀ z, z < n → z ≠ y → H z = G z) (h2 : H y = G y + v) : csI n H = csI n G + v := by
  induction n with
  | zero => exact absurd hy (by omega)
  | succ n ih =>
    show csI n H + H n = csI n G + G n + v
    by_cases e : y = n
    · subst e
      rw [csI_congr (h := G) (fun i hi => h i (by omega) (by omega)), h2]; omega
    · rw [ih (by omega) (fun z hz hne => h z (by omega) hne), h n (by omega) (fun q => e q.symm)]; omega
/-- the class's burning -/
theorem X0_burnAt (f : FN) {i cl : Nat} {q : SMK} {tr : Nat → Nat} (h : isCh i) (hq : HC f i q) (ht : HTr f i tr) (hb : TB tr) (hc : cl < 24) : ∃ g, D_X0_burnAt [.ref i, .int (nI cl)] (memOf f) = some (.null, memOf g) ∧ HC g i (smBurn (tr 2) (burM (tr 0) (tr 4) cl) q) ∧ ∀ j, j ≠ i → j ≠ i + 2 → g j = f j := by
  have k0 : tr 0 < 7 := by have := hb 0 (by omega); simp only [lim] at this; omega
  have k2 : tr 2 < 36 := by have := hb 2 (by omega); simp only [lim] at this; omega
  have B := X0_burnsAt f h k0 hc (ht 0 (by omega)) (ht 4 (by omega))
  rw [burM_eq] at B
  have t2 := ht 2 (by omega)
  obtain ⟨q1, q2, q3, q4, q5⟩ := hq
  refine ⟨row (row f (i + 2) (upd (f (i + 2)) (tr 2) (f (i + 2) (tr 2) + nI (burM (tr 0) (tr 4) cl)))) i (upd (f i) 5 (f i 5 + nI (burM (tr 0) (tr 4) cl))), ?_, ⟨fun c hc => ?_, fun c hc => ?_, ?_, ?_, ?_⟩, fun j h1 h2 => ?_⟩
  · have n1 : i ≠ i + 2 := by omega
    simp [D_X0_burnAt, S_X0_burnAt, m_den, l0, Value.category, s_seq, s_if, s_st, s_ret, s_retz, s_retv, s_skip, s_sc, s_inc, s_call, e_c, e_li, e_lr, e_lj, e_un, e_bin, e_if, e_b, b_not, b_and, b_or, b_of, e_call, a_recv, a_snoc, a_nil, prI, prJ, prR, e_gi, e_gr, e_ai, e_ar, s_as, s_aop, s_pf, s_pfz, s_fop, l_set, l_ok, e_div, e_rem, e_len, s_tab, rcch f h, B, gch0 f h, gch1 f h, rdt2 f h, t2, rda f h k2, wra f h k2, gch5 _ h, pch5 _ h, row_ne _ _ n1]
  · rw [row_ne _ _ (by omega), row_self]
    unfold upd smBurn
    by_cases e : c = tr 2
    · subst e; simp only [if_true]; rw [q1 _ k2, nI_a]
    · simp only [if_neg e]; exact q1 c hc
  · rw [row_ne _ _ (by omega), row_ne _ _ (by omega)]; exact q2 c hc
  · rw [row_self, upd_ne _ _ (by omega)]; exact q3
  · rw [row_self, upd_ne _ _ (by omega)]; exact q4
  · rw [row_self, upd_self, q5, nI_a]; rfl
  · rw [row_ne _ _ h1, row_ne _ _ h2]
theorem X0_comeDown (f : FN) {i : Nat} {q : SMK} (h : isCh i) (hq : HC f i q) : ∃ g, D_X0_comeDown [.ref i] (memOf f) = some (.null, memOf g) ∧ HC g i (smWind 0 q) ∧ ∀ j, j ≠ i → j ≠ i + 2 → g j = f j := by
  obtain ⟨q1, q2, q3, q4, q5⟩ := hq
  have key := while_rel (b := WB_X0_comeDown_1) (s := WS_X0_comeDown_1) (fun k => [.ref i, .int (nI k)]) (fun k g => (∀ j, j ≠ i → j ≠ i + 2 → g j = f j) ∧ (∀ c, c < 36 → g (i + 2) c = nI (if c < k then 0 else q.1 c)) ∧ g i 3 = nI q.2.2.1 ∧ g i 4 = nI (q.2.2.2.1 + csI k q.1) ∧ g i 5 = nI q.2.2.2.2) 36 (by unfold FU; omega) (fun k g hk hI => ?_) (fun k g hk hI => ?_) (fun g hI => ?_) (f := f) ⟨fun _ _ _ => rfl, fun c hc => by rw [q1 c hc, if_neg (by omega)], q3, q4, q5⟩
  · obtain ⟨g, W, I1, I2, I3, I4, I5⟩ := key
    refine ⟨g, ?_, ⟨fun c hc => ?_, fun c hc => ?_, I3, I4, I5⟩, I1⟩
    · have W' : W_X0_comeDown_1 [.ref i, .int 0] (memOf f) = some (.inl ([.ref i, .int (nI 36)], memOf g)) := W
      simp [D_X0_comeDown, S_X0_comeDown, m_den, l0, Value.category, s_seq, s_if, s_st, s_ret, s_retz, s_retv, s_skip, s_sc, s_inc, s_call, e_c, e_li, e_lr, e_lj, e_un, e_bin, e_if, e_b, b_not, b_and, b_or, b_of, e_call, a_recv, a_snoc, a_nil, prI, prJ, prR, e_gi, e_gr, e_ai, e_ar, s_as, s_aop, s_pf, s_pfz, s_fop, l_set, l_ok, e_div, e_rem, e_len, s_tab, W']
    · rw [I2 c hc, if_pos hc]; rfl
    · rw [I1 _ (by omega) (by omega)]; exact q2 c hc
  · have e : nI k < (36 : Int32) := lt_lit (n := 36) hk (by omega)
    simp [WB_X0_comeDown_1, m_den, l0, Value.category, s_seq, s_if, s_st, s_ret, s_retz, s_retv, s_skip, s_sc, s_inc, s_call, e_c, e_li, e_lr, e_lj, e_un, e_bin, e_if, e_b, b_not, b_and, b_or, b_of, e_call, a_recv, a_snoc, a_nil, prI, prJ, prR, e_gi, e_gr, e_ai, e_ar, s_as, s_aop, s_pf, s_pfz, s_fop, l_set, l_ok, e_div, e_rem, e_len, s_tab, e]
  · obtain ⟨I1, I2, I3, I4, I5⟩ := hI
    have n1 : i + 2 ≠ i := by omega
    refine ⟨row (row g i (upd (g i) 4 (g i 4 + g (i + 2) k))) (i + 2) (upd (g (i + 2)) k 0), ?_, fun j h1 h2 => ?_, fun c hc => ?_, ?_, ?_, ?_⟩
    · simp [WS_X0_comeDown_1, m_den, l0, Value.category, s_seq, s_if, s_st, s_ret, s_retz, s_retv, s_skip, s_sc, s_inc, s_call, e_c, e_li, e_lr, e_lj, e_un, e_bin, e_if, e_b, b_not, b_and, b_or, b_of, e_call, a_recv, a_snoc, a_nil, prI, prJ, prR, e_gi, e_gr, e_ai, e_ar, s_as, s_aop, s_pf, s_pfz, s_fop, l_set, l_ok, e_div, e_rem, e_len, s_tab, gch4 g h, gch1 _ h, rda g h hk, wra _ h hk, pch4 g h, row_ne _ _ n1, nI_next]
    · rw [row_ne _ _ h2, row_ne _ _ h1]; exact I1 j h1 h2
    · rw [row_self]
      unfold upd
      by_cases e : c = k
      · subst e; rw [if_pos rfl, if_pos (by omega)]; rfl
      · rw [if_neg e, I2 c hc]
        by_cases e2 : c < k
        · rw [if_pos e2, if_pos (by omega)]
        · rw [if_neg e2, if_neg (by omega)]
    · rw [row_ne _ _ (by omega), row_self, upd_ne _ _ (by omega)]; exact I3
    · rw [row_ne _ _ (by omega), row_self, upd_self, I4, I2 k hk, if_neg (by omega), nI_a, Nat.add_assoc]; rfl
    · rw [row_ne _ _ (by omega), row_self, upd_ne _ _ (by omega)]; exact I5
  · have e : ¬ nI 36 < (36 : Int32) := nlt_lit (n := 36) (by omega)
    simp [WB_X0_comeDown_1, m_den, l0, Value.category, s_seq, s_if, s_st, s_ret, s_retz, s_retv, s_skip, s_sc, s_inc, s_call, e_c, e_li, e_lr, e_lj, e_un, e_bin, e_if, e_b, b_not, b_and, b_or, b_of, e_call, a_recv, a_snoc, a_nil, prI, prJ, prR, e_gi, e_gr, e_ai, e_ar, s_as, s_aop, s_pf, s_pfz, s_fop, l_set, l_ok, e_div, e_rem, e_len, s_tab, e]
