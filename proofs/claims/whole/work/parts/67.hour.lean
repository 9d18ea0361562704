/-! the reference: settles, hour -/
def orB (n : Nat) (h : Nat → Bool) : Bool := match n with
  | 0 => false
  | n + 1 => orB n h || h n
theorem X7_settles (f : FN) {k : Nat} {q : SMK} {tr : Nat → Nat} {ro : Nat → Option Nat} (hk : k < 8) (hq : HR (f 104) k q) (ht : HRt (f 104) k tr) (hb : TB tr) (hR : HRoR (f 104) ro) (hA : ∀ c, c < 36 → q.1 c ≤ 3000000) : ∃ g, D_X7_settles [.ref 103, .int (nI k)] (memOf f) = some (.int (nI (csI 36 (pt (sooM (tr 0) (tr 3)) q))), memOf g) ∧ HR (g 104) k (smSet (sooM (tr 0) (tr 3)) q) ∧ (∀ x, x ≠ 103 → x ≠ 104 → x ≠ 109 → g x = f x) ∧ (∀ y, y ≠ 9 → g 103 y = f 103 y) ∧ (∀ rb, f 103 9 = b2i rb → g 103 9 = b2i (rb || orB 36 (fun c => hitB k (pt (sooM (tr 0) (tr 3)) q c) (ro c) (f 103 7) (f 103 8)))) ∧ (∀ y, ¬ (119 ≤ y ∧ y < 125) → ¬ (125 + 36 * k ≤ y ∧ y < 161 + 36 * k) → ¬ (413 + 36 * k ≤ y ∧ y < 449 + 36 * k) → g 104 y = f 104 y) ∧ (∀ bo : Nat → Int, (∀ o, o < 6 → f 104 (119 + o) = iI (bo o)) → ∀ o, o < 6 → g 104 (119 + o) = iI (bo o + ciI 36 (fun c => kC (pt (sooM (tr 0) (tr 3)) q c) (woM (tr 0)) (tr 1) (ro c) o))) ∧ ∀ di : Nat → Nat, (∀ o, o < 6 → f 109 o = nI (di o)) → ∀ o, o < 6 → g 109 o = nI (di o + csI 36 (fun c => kD (pt (sooM (tr 0) (tr 3)) q c) (woM (tr 0)) (ro c) o)) := by
  have k0 : tr 0 < 7 := by have := hb 0 (by omega); simp only [lim] at this; omega
  have k3 : tr 3 < 10 := by have := hb 3 (by omega); simp only [lim] at this; omega
  have hso := sooM_le (tr 0) (tr 3)
  have SO : ∀ g : FN, (∀ y, 63 ≤ y → y < 119 → g 104 y = f 104 y) → D_X7_sooty [.ref 103, .int (nI k)] (memOf g) = some (.int (nI (sooM (tr 0) (tr 3))), memOf g) := fun g hg => by
    rw [← sooM_eq k0 k3]
    exact X7_sooty g hk k0 k3 (by rw [hg _ (by omega) (by omega)]; exact ht 0 (by omega)) (by rw [hg _ (by omega) (by omega)]; exact ht 3 (by omega))
  obtain ⟨q1, q2, q3, q4, q5⟩ := hq
  obtain ⟨so, eso⟩ : ∃ so, so = sooM (tr 0) (tr 3) := ⟨_, rfl⟩
  rw [← eso] at SO hso ⊢
  have key := while_rel (b := WB_X7_settles_1) (s := WS_X7_settles_1) (fun j => [.ref 103, .int (nI k), .int (nI (csI j (pt so q))), .int (nI j)]) (fun j g => (∀ x, x ≠ 103 → x ≠ 104 → x ≠ 109 → g x = f x) ∧ (∀ y, y ≠ 9 → g 103 y = f 103 y) ∧ (∀ rb, f 103 9 = b2i rb → g 103 9 = b2i (rb || orB j (fun c => hitB k (pt so q c) (ro c) (f 103 7) (f 103 8)))) ∧ (∀ y, ¬ (119 ≤ y ∧ y < 125) → ¬ (125 + 36 * k ≤ y ∧ y < 161 + 36 * k) → ¬ (413 + 36 * k ≤ y ∧ y < 449 + 36 * k) → g 104 y = f 104 y) ∧ (∀ c, c < 36 → g 104 (125 + 36 * k + c) = nI (if c < j then q.1 c - pt so q c else q.1 c)) ∧ (∀ c, c < 36 → g 104 (413 + 36 * k + c) = nI (if c < j then q.2.1 c + pt so q c else q.2.1 c)) ∧ (∀ bo : Nat → Int, (∀ o, o < 6 → f 104 (119 + o) = iI (bo o)) → ∀ o, o < 6 → g 104 (119 + o) = iI (bo o + ciI j (fun c => kC (pt so q c) (woM (tr 0)) (tr 1) (ro c) o))) ∧ ∀ di : Nat → Nat, (∀ o, o < 6 → f 109 o = nI (di o)) → ∀ o, o < 6 → g 109 o = nI (di o + csI j (fun c => kD (pt so q c) (woM (tr 0)) (ro c) o))) 36 (by unfold FU; omega) (fun j g hj hI => ?_) (fun j g hj hI => ?_) (fun g hI => ?_) (f := f) ⟨fun _ _ _ _ => rfl, fun _ _ => rfl, fun rb h => by rw [h]; simp [orB], fun _ _ _ _ => rfl, fun c hc => by rw [q1 c hc, if_neg (by omega)], fun c hc => by rw [q2 c hc, if_neg (by omega)], fun bo h o ho => by rw [h o ho]; simp [ciI], fun di h o ho => by rw [h o ho]; simp [csI]⟩
  · obtain ⟨g, W, I1, I2, I3, I4, I5, I6, I7, I8⟩ := key
    refine ⟨g, ?_, ⟨fun c hc => ?_, fun c hc => ?_, ?_, ?_, ?_⟩, I1, I2, I3, I4, I7, I8⟩
    · have W' : W_X7_settles_1 [.ref 103, .int (nI k), .int 0, .int 0] (memOf f) = some (.inl ([.ref 103, .int (nI k), .int (nI (csI 36 (pt so q))), .int (nI 36)], memOf g)) := W
      simp [D_X7_settles, S_X7_settles, m_den, l0, Value.category, s_seq, s_if, s_st, s_ret, s_retz, s_retv, s_skip, s_sc, s_inc, s_call, e_c, e_li, e_lr, e_lj, e_un, e_bin, e_if, e_b, b_not, b_and, b_or, b_of, e_call, a_recv, a_snoc, a_nil, prI, prJ, prR, e_gi, e_gr, e_ai, e_ar, s_as, s_aop, s_pf, s_pfz, s_fop, l_set, l_ok, e_div, e_rem, e_len, s_tab, W']
    · rw [I5 c hc, if_pos hc]; rfl
    · rw [I6 c hc, if_pos hc]; rfl
    · rw [I4 _ (by omega) (by omega) (by omega)]; exact q3
    · rw [I4 _ (by omega) (by omega) (by omega)]; exact q4
    · rw [I4 _ (by omega) (by omega) (by omega)]; exact q5
  · have e : nI j < (36 : Int32) := lt_lit (n := 36) hj (by omega)
    simp [WB_X7_settles_1, m_den, l0, Value.category, s_seq, s_if, s_st, s_ret, s_retz, s_retv, s_skip, s_sc, s_inc, s_call, e_c, e_li, e_lr, e_lj, e_un, e_bin, e_if, e_b, b_not, b_and, b_or, b_of, e_call, a_recv, a_snoc, a_nil, prI, prJ, prR, e_gi, e_gr, e_ai, e_ar, s_as, s_aop, s_pf, s_pfz, s_fop, l_set, l_ok, e_div, e_rem, e_len, s_tab, e]
  · obtain ⟨I1, I2, I3, I4, I5, I6, I7, I8⟩ := hI
    have hAj := hA j hj
    have hmul : q.1 j * so < 2 ^ 31 := by
      have := Nat.mul_le_mul hAj hso
      omega
    have ep : nI (q.1 j) * nI so / 100 = nI (pt so q j) := by rw [nI_m]; exact nI_d (b := 100) hmul (by omega)
    have hp : pt so q j ≤ q.1 j := by
      unfold pt
      have := Nat.mul_le_mul (Nat.le_refl (q.1 j)) hso
      omega
    have r1 := rd_104 g (show 125 + 36 * k + j < 735 by omega)
    rw [I5 j hj, if_neg (by omega)] at r1
    have r2 := rd_104 g (show 3 + j < 735 by omega)
    rw [I4 _ (by omega) (by omega) (by omega), (hR j hj).1] at r2
    obtain ⟨ga, hga⟩ : ∃ ga, ga = row g 104 (upd (g 104) (125 + 36 * k + j) (nI (q.1 j) - nI (pt so q j))) := ⟨_, rfl⟩
    have w1 := wr_104 g (show 125 + 36 * k + j < 735 by omega) (nI (q.1 j) - nI (pt so q j))
    rw [← hga] at w1
    have r3 : gm_rd (memOf ga) 104 (nI (413 + 36 * k + j)) = some (nI (q.2.1 j)) := by
      rw [rd_104 ga (show 413 + 36 * k + j < 735 by omega), hga, row_self, upd_ne _ _ (by omega), I6 j hj, if_neg (by omega)]
    obtain ⟨gb, hgb⟩ : ∃ gb, gb = row ga 104 (upd (ga 104) (413 + 36 * k + j) (nI (q.2.1 j) + nI (pt so q j))) := ⟨_, rfl⟩
    have w2 := wr_104 ga (show 413 + 36 * k + j < 735 by omega) (nI (q.2.1 j) + nI (pt so q j))
    rw [← hgb] at w2
    have eb : ∀ x, x ≠ 104 → gb x = g x := fun x hx => by rw [hgb, row_ne _ _ hx, hga, row_ne _ _ hx]
    have eb4 : ∀ y, y ≠ 125 + 36 * k + j → y ≠ 413 + 36 * k + j → gb 104 y = g 104 y := fun y h1 h2 => by
      rw [hgb, row_self, upd_ne _ _ h2, hga, row_self, upd_ne _ _ h1]
    have ht' : HRt (gb 104) k tr := fun x hx => by rw [eb4 _ (by omega) (by omega), I4 _ (by omega) (by omega) (by omega)]; exact ht x hx
    obtain ⟨g2, A1, A2, A3, A4, A5, A6, A7⟩ := stA_of gb (p := pt so q j) (r := ro j) (nI (csI j (pt so q)) + nI (pt so q j)) (nI j) hk (by omega) (hR j hj).2 ht' hb
    refine ⟨g2, ?_, fun x h1 h2 h3 => by rw [A2 x h1 h2 h3, eb x h2]; exact I1 x h1 h2 h3, fun y hy => by rw [A3 y hy, eb 103 (by omega)]; exact I2 y hy, fun rb h => ?_, fun y h1 h2 h3 => by rw [A5 y h1, eb4 y (by omega) (by omega)]; exact I4 y h1 h2 h3, fun c hc => ?_, fun c hc => ?_, fun bo h o ho => ?_, fun di h o ho => ?_⟩
    · have i3 : (3 : Int32) + nI j = nI (3 + j) := nI_a 3 j
      have so' := SO g (fun y h1 h2 => I4 y (by omega) (by omega) (by omega))
      rw [nI_a] at A1 w2
      rw [st_eq]
      simp [s_seq, s_sc, s_st, s_aop, s_inc, e_div, e_bin, e_ai, e_gr, e_lr, e_li, e_c, e_call, a_recv, a_snoc, a_nil, prI, l_set, l_ok, Value.category, g_103_0, rc_103, i125, i413, i3, r1, r2, r3, so', ep, w1, w2, A1, nI_next, nI_a, csI_succ]
    · have := A4 (rb || orB j (fun c => hitB k (pt so q c) (ro c) (f 103 7) (f 103 8))) (by rw [eb 103 (by omega)]; exact I3 rb h)
      rw [this, eb 103 (by omega), I2 7 (by omega), I2 8 (by omega), Bool.or_assoc]; rfl
    · rw [A5 _ (by omega)]
      by_cases e : c = j
      · subst e
        rw [hgb, row_self, upd_ne _ _ (by omega), hga, row_self, upd_self, if_pos (by omega), nI_s hp]
      · rw [eb4 _ (by omega) (by omega), I5 c hc]
        by_cases e3 : c < j
        · rw [if_pos e3, if_pos (by omega)]
        · rw [if_neg e3, if_neg (by omega)]
    · rw [A5 _ (by omega)]
      by_cases e : c = j
      · subst e
        rw [hgb, row_self, upd_self, if_pos (by omega), nI_a]
      · rw [eb4 _ (by omega) (by omega), I6 c hc]
        by_cases e3 : c < j
        · rw [if_pos e3, if_pos (by omega)]
        · rw [if_neg e3, if_neg (by omega)]
    · rw [A6 _ (fun o ho => by rw [eb4 _ (by omega) (by omega)]; exact I7 bo h o ho) o ho, Int.add_assoc]; rfl
    · rw [A7 _ (fun o ho => by rw [eb 109 (by omega)]; exact I8 di h o ho) o ho, Nat.add_assoc]; rfl
  · have e : ¬ nI 36 < (36 : Int32) := nlt_lit (n := 36) (by omega)
    simp [WB_X7_settles_1, m_den, l0, Value.category, s_seq, s_if, s_st, s_ret, s_retz, s_retv, s_skip, s_sc, s_inc, s_call, e_c, e_li, e_lr, e_lj, e_un, e_bin, e_if, e_b, b_not, b_and, b_or, b_of, e_call, a_recv, a_snoc, a_nil, prI, prJ, prR, e_gi, e_gr, e_ai, e_ar, s_as, s_aop, s_pf, s_pfz, s_fop, l_set, l_ok, e_div, e_rem, e_len, s_tab, e]
