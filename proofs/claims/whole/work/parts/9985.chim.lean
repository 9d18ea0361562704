/-! a chimney's item: the cursor behind its parts, and the class's optional numbers -/
noncomputable def hB (T : Nat → Nat) (t : Nat) (ws : List Nat) (q : Nat × Bool) : Bool := !q.2 && wB T t q.1 ws
noncomputable def ph (T : Nat → Nat) (t : Nat) (ws : List Nat) (most : Nat) (q : Nat × Bool) : Nat × Bool := phP T t most (hB T t ws q) q
noncomputable def pv (T : Nat → Nat) (t : Nat) (ws : List Nat) (q : Nat × Bool) (d : Nat) : Nat := if hB T t ws q then nN T t (nd T t true q).1 else d
def dvz (z d : Int32) : Int32 := if z < 0 then d else z
theorem dvz_n (v : Nat) (d : Int32) (h : v < 2 ^ 31) : dvz (nI v) d = nI v := by
  unfold dvz; rw [if_neg (Int32.not_lt.mpr (nI_pos' h))]
theorem dvz_m (d : Int32) : dvz (-1) d = d := by unfold dvz; rw [if_pos (by decide)]
theorem ph_no {T : Nat → Nat} {t most : Nat} {ws : List Nat} {q : Nat × Bool} (h : hB T t ws q = false) : ph T t ws most q = q := by unfold ph phP; rw [h]; rfl
theorem ph_yes {T : Nat → Nat} {t most : Nat} {ws : List Nat} {q : Nat × Bool} (h : hB T t ws q = true) : ph T t ws most q = nm T t most (nd T t true q) := by unfold ph phP; rw [h]; rfl
theorem ph_ok {T : Nat → Nat} {t most : Nat} {ws : List Nat} {q : Nat × Bool} (h : (ph T t ws most q).2 = false) : q.2 = false := by
  cases r : hB T t ws q with
  | false => rw [ph_no r] at h; exact h
  | true => rw [ph_yes r] at h; exact (nd_ok (nd_ok h).1).1
theorem lim_le (j : Nat) : lim j ≤ 99 := by unfold lim; split <;> omega
theorem X4_opt (f : FN) {T : Nat → Nat} {t j m : Nat} {ws : List Nat} {q : Nat × Bool} (h : cuX f T t q.1 q.2) (hw : isWd (SPB + 100 + j) ws) (hm : m < 7) (L : List Value) : ∃ (z : Int32) (g : FN), optE j m (.ref 77 :: L) (memOf f) = some (z, memOf g) ∧ (∀ x, x ≠ 78 → g x = f x) ∧ cuX g T t (ph T t ws (lim m) q).1 (ph T t ws (lim m) q).2 ∧ ∀ d : Nat, (ph T t ws (lim m) q).2 = false → dvz z (nI d) = nI (pv T t ws q d) := by
  obtain ⟨b, g1, e, A1, A2, A3, A4⟩ := X4_passWord' f h hw
  have eb : b = hB T t ws q := e
  cases b with
  | false =>
    have hb : hB T t ws q = false := eb.symm
    refine ⟨-1, g1, ?_, A2, ?_, fun d _ => ?_⟩
    · simp [optE, m_den, l0, Value.category, s_seq, s_if, s_st, s_ret, s_retz, s_retv, s_skip, s_sc, s_inc, s_call, e_c, e_li, e_lr, e_lj, e_un, e_bin, e_if, e_b, b_not, b_and, b_or, b_of, e_call, a_recv, a_snoc, a_nil, prI, prJ, prR, e_gi, e_gr, e_ai, e_ar, s_as, s_aop, s_pf, s_pfz, s_fop, l_set, l_ok, e_div, e_rem, e_len, s_tab, g_77_0, rc_78, A1, b2i]
    · rw [ph_no hb]; exact A4 rfl
    · unfold pv; rw [hb, dvz_m]; rfl
  | true =>
    have hb : hB T t ws q = true := eb.symm
    obtain ⟨q2, A5⟩ := A3 rfl
    obtain ⟨v, g2, B1, B2, B3, B4, B5⟩ := X4_needNumber' g1 (q := nd T t true q) (most := lim m) A5 (lim_le m)
    have rl : ∀ M, gm_rd M SPB (nI m) = some (nI (lim m)) := fun M => rd_lim M hm
    have l99 := lim_le m
    refine ⟨nI v, g2, ?_, fun x hx => by rw [B2 x hx, A2 x hx], ?_, fun d hq => ?_⟩
    · simp [optE, m_den, l0, Value.category, s_seq, s_if, s_st, s_ret, s_retz, s_retv, s_skip, s_sc, s_inc, s_call, e_c, e_li, e_lr, e_lj, e_un, e_bin, e_if, e_b, b_not, b_and, b_or, b_of, e_call, a_recv, a_snoc, a_nil, prI, prJ, prR, e_gi, e_gr, e_ai, e_ar, s_as, s_aop, s_pf, s_pfz, s_fop, l_set, l_ok, e_div, e_rem, e_len, s_tab, g_77_0, rc_78, A1, b2i, rl, B1]
    · rw [ph_yes hb]; exact B3
    · rw [ph_yes hb] at hq
      unfold pv
      rw [hb, dvz_n v _ (by omega), B5 hq]
      rfl
def fromS : SD := s_if (b_of (e_call prI D_X4_passWord 2 (a_recv 4 (a_snoc Value.ref (a_snoc Value.ref a_nil (e_gr 1 0 (e_lr 0))) (e_c (SPB + 100 + 6)))))) (s_seq (s_st Value.int 7 (e_call prI D_X4_needNumber 2 (a_recv 4 (a_snoc Value.int (a_snoc Value.ref a_nil (e_gr 1 0 (e_lr 0))) (e_ai (e_c (SPB + 0)) (e_c (5 : Int32)))))))
  (s_seq (s_call D_X4_needWord 2 (a_recv 4 (a_snoc Value.ref (a_snoc Value.ref a_nil (e_gr 1 0 (e_lr 0))) (e_c (SPB + 100 + 7)))))
  (s_st Value.int 8 (e_call prI D_X4_needNumber 2 (a_recv 4 (a_snoc Value.int (a_snoc Value.ref a_nil (e_gr 1 0 (e_lr 0))) (e_ai (e_c (SPB + 0)) (e_c (6 : Int32))))))))) s_skip
/-- behind 'from n long n', if it stands there -/
noncomputable def cQ (T : Nat → Nat) (t : Nat) (q : Nat × Bool) : Nat × Bool := if hB T t w_from q then nm T t 24 (nw T t w_long (ph T t w_from 23 q)) else q
noncomputable def cLo (T : Nat → Nat) (t : Nat) (q : Nat × Bool) : Nat := if hB T t w_from q then nN T t (nw T t w_long (ph T t w_from 23 q)).1 else 24
theorem X1_from (f : FN) {T : Nat → Nat} {t : Nat} {q : Nat × Bool} (h : cuX f T t q.1 q.2) (kd ow ce hi fi : Int32) : ∃ (z7 z8 : Int32) (g : FN), fromS [.ref 77, .ref 1, .int kd, .int ow, .int ce, .int hi, .int fi, .int (-1), .int (-1)] (memOf f) = some (.inl ([.ref 77, .ref 1, .int kd, .int ow, .int ce, .int hi, .int fi, .int z7, .int z8], memOf g)) ∧ (∀ x, x ≠ 78 → g x = f x) ∧ cuX g T t (cQ T t q).1 (cQ T t q).2 ∧ ((cQ T t q).2 = false → dvz z7 0 = nI (pv T t w_from q 0) ∧ dvz z8 24 = nI (cLo T t q)) := by
  obtain ⟨b, g1, e, A1, A2, A3, A4⟩ := X4_passWord' f h iw_from
  have eb : b = hB T t w_from q := e
  have A1' : D_X4_passWord [.ref 78, .ref (SPB + 106)] (memOf f) = some (.int (b2i b), memOf g1) := A1
  cases b with
  | false =>
    have hb : hB T t w_from q = false := eb.symm
    have c : cQ T t q = q := by unfold cQ; rw [hb]; rfl
    refine ⟨-1, -1, g1, ?_, A2, ?_, fun _ => ⟨?_, ?_⟩⟩
    · simp [fromS, m_den, l0, Value.category, s_seq, s_if, s_st, s_ret, s_retz, s_retv, s_skip, s_sc, s_inc, s_call, e_c, e_li, e_lr, e_lj, e_un, e_bin, e_if, e_b, b_not, b_and, b_or, b_of, e_call, a_recv, a_snoc, a_nil, prI, prJ, prR, e_gi, e_gr, e_ai, e_ar, s_as, s_aop, s_pf, s_pfz, s_fop, l_set, l_ok, e_div, e_rem, e_len, s_tab, g_77_0, rc_78, A1', b2i]
    · rw [c]; exact A4 rfl
    · unfold pv; rw [hb, dvz_m]; rfl
    · unfold cLo; rw [hb, dvz_m]; rfl
  | true =>
    have hb : hB T t w_from q = true := eb.symm
    obtain ⟨q2, A5⟩ := A3 rfl
    obtain ⟨v, g2, B1, B2, B3, B4, B5⟩ := X4_needNumber' g1 (q := nd T t true q) (most := 23) A5 (by omega)
    have ep : nm T t 23 (nd T t true q) = ph T t w_from 23 q := (ph_yes hb).symm
    rw [ep] at B3 B5
    obtain ⟨g3, C1, C2, C3⟩ := X4_needWord' g2 (q := ph T t w_from 23 q) B3 iw_long
    obtain ⟨u, g4, D1, D2, D3, D4, D5⟩ := X4_needNumber' g3 (q := nw T t w_long (ph T t w_from 23 q)) (most := 24) C3 (by omega)
    have c : cQ T t q = nm T t 24 (nw T t w_long (ph T t w_from 23 q)) := by unfold cQ; rw [hb]; rfl
    have r5 : ∀ M, gm_rd M SPB 5 = some (nI 23) := fun M => rd_lim M (j := 5) (by omega)
    have r6 : ∀ M, gm_rd M SPB 6 = some (nI 24) := fun M => rd_lim M (j := 6) (by omega)
    have C1' : D_X4_needWord [.ref 78, .ref (SPB + 107)] (memOf g2) = some (.null, memOf g3) := C1
    refine ⟨nI v, nI u, g4, ?_, fun x hx => by rw [D2 x hx, C2 x hx, B2 x hx, A2 x hx], by rw [c]; exact D3, fun hq => ?_⟩
    · simp [fromS, m_den, l0, Value.category, s_seq, s_if, s_st, s_ret, s_retz, s_retv, s_skip, s_sc, s_inc, s_call, e_c, e_li, e_lr, e_lj, e_un, e_bin, e_if, e_b, b_not, b_and, b_or, b_of, e_call, a_recv, a_snoc, a_nil, prI, prJ, prR, e_gi, e_gr, e_ai, e_ar, s_as, s_aop, s_pf, s_pfz, s_fop, l_set, l_ok, e_div, e_rem, e_len, s_tab, g_77_0, rc_78, A1', b2i, r5, r6, B1, C1', D1]
    · rw [c] at hq
      have h1 := D5 hq
      have h2 := B5 (nd_ok (nd_ok hq).1).1
      refine ⟨?_, ?_⟩
      · unfold pv; rw [hb, dvz_n v _ (by omega), h2]; rfl
      · unfold cLo; rw [hb, dvz_n u _ (by omega), h1]; rfl
