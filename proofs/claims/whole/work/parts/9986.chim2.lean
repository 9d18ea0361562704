/-! a chimney's item of the class: what it does where the text is sure -/
def trS (j i : Nat) : SD := s_as (e_lr 9) (e_c (nI j)) (e_if (e_un (fun (x : Int32) => decide (x < 0)) (e_li i)) (e_ai (e_lr 9) (e_c (nI j))) (e_li i))
def sureS : SD := s_if (b_and (b_of (e_gi 1 1 (e_lr 0))) (b_not (b_of (e_call prI D_X5_isFull 1 (a_recv 5 (a_snoc Value.ref a_nil (e_lr 1))))))) (s_sc 9 (s_seq (s_st Value.ref 9 (e_gr 0 0 (e_ar 0 (e_gr 5 7 (e_lr 1)) (e_call prI D_X5_raise 4 (a_recv 5 (a_snoc Value.int (a_snoc Value.int (a_snoc Value.int (a_snoc Value.ref a_nil (e_lr 1)) (e_li 2)) (e_li 3)) (e_li 4)))))))
  (s_seq (trS 3 5) (s_seq (trS 4 6) (s_seq (trS 5 7) (trS 6 8)))))) s_skip
theorem rdc_eq : S_X1_readChimney = (s_seq (s_seq (s_call D_X4_needWord 2 (a_recv 4 (a_snoc Value.ref (a_snoc Value.ref a_nil (e_gr 1 0 (e_lr 0))) (e_c (SPB + 100 + 2)))))
  (s_seq (s_st Value.int 3 (e_call prI D_X4_needNumber 2 (a_recv 4 (a_snoc Value.int (a_snoc Value.ref a_nil (e_gr 1 0 (e_lr 0))) (e_c (5 : Int32))))))
  (s_seq (s_call D_X4_needWord 2 (a_recv 4 (a_snoc Value.ref (a_snoc Value.ref a_nil (e_gr 1 0 (e_lr 0))) (e_c (SPB + 100 + 3)))))
  (s_seq (s_st Value.int 4 (e_call prI D_X4_needNumber 2 (a_recv 4 (a_snoc Value.int (a_snoc Value.ref a_nil (e_gr 1 0 (e_lr 0))) (e_c (35 : Int32))))))
  (s_seq (s_st Value.int 5 (optE 4 3))
  (s_seq (s_st Value.int 6 (optE 5 4))
  (s_seq (s_st Value.int 7 (e_c (-1 : Int32)))
  (s_seq (s_st Value.int 8 (e_c (-1 : Int32)))
  (s_seq fromS
  (s_seq (s_fop (fun (x y : Int32) => x + y) 1 2 (e_lr 0) (e_c (1 : Int32)))
  sureS))))))))))
  s_retv) := rfl
def cL9 (kd ow ce hi fi fr lo : Int32) : List Value := [.ref 77, .ref 1, .int kd, .int ow, .int ce, .int hi, .int fi, .int fr, .int lo]
theorem trS_ok (f : FN) {c j i : Nat} {L : List Value} {x : Int32} (hc : isCh c) (hj : j < 7) (h9 : L[9]? = some (.ref (c + 1))) (hi : L[i]? = some (.int x)) : trS j i L (memOf f) = some (.inl (L, memOf (row f (c + 1) (upd (f (c + 1)) j (dvz x (f (c + 1) j)))))) := by
  have r := rdt f hc hj
  have w := fun y => wrt f hc hj y
  unfold dvz
  by_cases cx : x < 0 <;> simp [trS, s_as, e_lr, e_c, e_if, e_un, e_li, e_ai, h9, hi, cx, r, w]
theorem X1_sure0 (f : FN) (kd ow ce hi fi fr lo : Int32) (hs : f 77 1 = 0) : sureS (cL9 kd ow ce hi fi fr lo) (memOf f) = some (.inl (cL9 kd ow ce hi fi fr lo, memOf f)) := by
  simp [sureS, cL9, m_den, l0, Value.category, s_seq, s_if, s_st, s_ret, s_retz, s_retv, s_skip, s_sc, s_inc, s_call, e_c, e_li, e_lr, e_lj, e_un, e_bin, e_if, e_b, b_not, b_and, b_or, b_of, e_call, a_recv, a_snoc, a_nil, prI, prJ, prR, e_gi, e_gr, e_ai, e_ar, s_as, s_aop, s_pf, s_pfz, s_fop, l_set, l_ok, e_div, e_rem, e_len, s_tab, g_77_1, hs]
def chX (f : FN) (m : Nat) (kd ow ce hi fi fr lo : Int32) : FN := row (raiX f m kd ow ce) (chId 1 m + 1) (upd (upd (upd (upd (raiX f m kd ow ce (chId 1 m + 1)) 3 hi) 4 fi) 5 fr) 6 lo)
theorem raiX_t (f : FN) (m : Nat) (kd ow ce : Int32) : raiX f m kd ow ce (chId 1 m + 1) 3 = 1 ∧ raiX f m kd ow ce (chId 1 m + 1) 4 = 20 ∧ raiX f m kd ow ce (chId 1 m + 1) 5 = 0 ∧ raiX f m kd ow ce (chId 1 m + 1) 6 = 24 := by
  have e : raiX f m kd ow ce (chId 1 m + 1) = upd (upd (upd (upd (upd (upd (upd (f (chId 1 m + 1)) 0 kd) 1 ow) 2 ce) 3 1) 4 20) 5 0) 6 24 := by
    unfold raiX begX
    rw [row_ne _ _ (by unfold chId; omega), row_ne _ _ (by omega), row_ne _ _ (by omega), row_ne _ _ (by omega), row_self]
  rw [e]
  refine ⟨?_, ?_, ?_, ?_⟩
  · rw [upd_ne _ _ (by omega), upd_ne _ _ (by omega), upd_ne _ _ (by omega), upd_self]
  · rw [upd_ne _ _ (by omega), upd_ne _ _ (by omega), upd_self]
  · rw [upd_ne _ _ (by omega), upd_self]
  · rw [upd_self]
theorem X1_sure1 (f : FN) {m : Nat} (hm : m < 8) (em : f 1 2 = nI m) (kd ow ce hi fi fr lo : Int32) (hs : f 77 1 = 1) : sureS (cL9 kd ow ce hi fi fr lo) (memOf f) = some (.inl (cL9 kd ow ce hi fi fr lo, memOf (chX f m kd ow ce (dvz hi 1) (dvz fi 20) (dvz fr 0) (dvz lo 24)))) := by
  have hC := isCh_town (b := 1) (Or.inl rfl) hm
  have fu := X5_isFull f (show m ≤ 8 by omega) em
  rw [if_neg (show m ≠ 8 by omega)] at fu
  have ra := X5_raise f hm em kd ow ce
  obtain ⟨t3, t4, t5, t6⟩ := raiX_t f m kd ow ce
  have ex : chX f m kd ow ce (dvz hi 1) (dvz fi 20) (dvz fr 0) (dvz lo 24) = row (raiX f m kd ow ce) (chId 1 m + 1) (upd (upd (upd (upd (raiX f m kd ow ce (chId 1 m + 1)) 3 (dvz hi 1)) 4 (dvz fi 20)) 5 (dvz fr 0)) 6 (dvz lo 24)) := rfl
  rw [ex]
  generalize raiX f m kd ow ce = g at ra t3 t4 t5 t6 ⊢
  have s3 := trS_ok g (j := 3) (i := 5) (L := [.ref 77, .ref 1, .int kd, .int ow, .int ce, .int hi, .int fi, .int fr, .int lo, .ref (chId 1 m + 1)]) (x := hi) hC (by omega) rfl rfl
  rw [t3] at s3
  have s4 := trS_ok (row g (chId 1 m + 1) (upd (g (chId 1 m + 1)) 3 (dvz hi 1))) (j := 4) (i := 6) (L := [.ref 77, .ref 1, .int kd, .int ow, .int ce, .int hi, .int fi, .int fr, .int lo, .ref (chId 1 m + 1)]) (x := fi) hC (by omega) rfl rfl
  rw [row_row, row_self, upd_ne _ _ (by omega), t4] at s4
  have s5 := trS_ok (row g (chId 1 m + 1) (upd (upd (g (chId 1 m + 1)) 3 (dvz hi 1)) 4 (dvz fi 20))) (j := 5) (i := 7) (L := [.ref 77, .ref 1, .int kd, .int ow, .int ce, .int hi, .int fi, .int fr, .int lo, .ref (chId 1 m + 1)]) (x := fr) hC (by omega) rfl rfl
  rw [row_row, row_self, upd_ne _ _ (by omega), upd_ne _ _ (by omega), t5] at s5
  have s6 := trS_ok (row g (chId 1 m + 1) (upd (upd (upd (g (chId 1 m + 1)) 3 (dvz hi 1)) 4 (dvz fi 20)) 5 (dvz fr 0))) (j := 6) (i := 8) (L := [.ref 77, .ref 1, .int kd, .int ow, .int ce, .int hi, .int fi, .int fr, .int lo, .ref (chId 1 m + 1)]) (x := lo) hC (by omega) rfl rfl
  rw [row_row, row_self, upd_ne _ _ (by omega), upd_ne _ _ (by omega), upd_ne _ _ (by omega), t6] at s6
  simp [sureS, cL9, m_den, l0, Value.category, s_seq, s_if, s_st, s_ret, s_retz, s_retv, s_skip, s_sc, s_inc, s_call, e_c, e_li, e_lr, e_lj, e_un, e_bin, e_if, e_b, b_not, b_and, b_or, b_of, e_call, a_recv, a_snoc, a_nil, prI, prJ, prR, e_gi, e_gr, e_ai, e_ar, s_as, s_aop, s_pf, s_pfz, s_fop, l_set, l_ok, e_div, e_rem, e_len, s_tab, g_77_1, hs, rc_1, fu, g_1_7, ra, rr_6 g hm, gch0 g hC, s3, s4, s5, s6]
noncomputable def cA (T : Nat → Nat) (t : Nat) (q : Nat × Bool) : Nat × Bool := nm T t 35 (nw T t w_at (nm T t 5 (nw T t w_of q)))
noncomputable def cOw (T : Nat → Nat) (t : Nat) (q : Nat × Bool) : Nat := nN T t (nw T t w_of q).1
noncomputable def cCe (T : Nat → Nat) (t : Nat) (q : Nat × Bool) : Nat := nN T t (nw T t w_at (nm T t 5 (nw T t w_of q))).1
noncomputable def cH (T : Nat → Nat) (t : Nat) (q : Nat × Bool) : Nat × Bool := ph T t w_high 9 (cA T t q)
noncomputable def cF (T : Nat → Nat) (t : Nat) (q : Nat × Bool) : Nat × Bool := ph T t w_fire 99 (cH T t q)
/-- the cursor behind a chimney's item, q behind its kind -/
noncomputable def chP (T : Nat → Nat) (t : Nat) (q : Nat × Bool) : Nat × Bool := cQ T t (cF T t q)
theorem cQ_ok {T : Nat → Nat} {t : Nat} {q : Nat × Bool} (h : (cQ T t q).2 = false) : q.2 = false := by
  unfold cQ at h
  cases r : hB T t w_from q with
  | false => rw [r] at h; exact h
  | true => rw [r] at h; exact ph_ok (nd_ok (nd_ok h).1).1
theorem chP_ok {T : Nat → Nat} {t : Nat} {q : Nat × Bool} (h : (chP T t q).2 = false) : (cF T t q).2 = false ∧ (cH T t q).2 = false ∧ (cA T t q).2 = false ∧ (nm T t 5 (nw T t w_of q)).2 = false := by
  have a := cQ_ok h
  have b := ph_ok a
  have c := ph_ok b
  exact ⟨a, b, c, (nd_ok (nd_ok c).1).1⟩
theorem rdc_half (f : FN) {T : Nat → Nat} {t : Nat} {q : Nat × Bool} (h : cuX f T t q.1 q.2) (kd : Int32) : ∃ (ow ce hi fi fr lo : Int32) (g : FN), (∀ g', sureS (cL9 kd ow ce hi fi fr lo) (memOf g) = some (.inl (cL9 kd ow ce hi fi fr lo, memOf g')) → D_X1_readChimney [.ref 77, .ref 1, .int kd] (memOf f) = some (.null, memOf g')) ∧ (∀ x, x ≠ 77 → x ≠ 78 → g x = f x) ∧ g 77 = upd (f 77) 2 (f 77 2 + 1) ∧ cuX g T t (chP T t q).1 (chP T t q).2 ∧ ((chP T t q).2 = false → ow = nI (cOw T t q) ∧ ce = nI (cCe T t q) ∧ dvz hi 1 = nI (pv T t w_high (cA T t q) 1) ∧ dvz fi 20 = nI (pv T t w_fire (cH T t q) 20) ∧ dvz fr 0 = nI (pv T t w_from (cF T t q) 0) ∧ dvz lo 24 = nI (cLo T t (cF T t q))) := by
  obtain ⟨g1, A1, A2, A3⟩ := X4_needWord' f h iw_of
  obtain ⟨ow, g2, B1, B2, B3, B4, B5⟩ := X4_needNumber' g1 (q := nw T t w_of q) (most := 5) A3 (by omega)
  obtain ⟨g3, C1, C2, C3⟩ := X4_needWord' g2 (q := nm T t 5 (nw T t w_of q)) B3 iw_at
  obtain ⟨ce, g4, D1, D2, D3, D4, D5⟩ := X4_needNumber' g3 (q := nw T t w_at (nm T t 5 (nw T t w_of q))) (most := 35) C3 (by omega)
  obtain ⟨hi, g5, E1, E2, E3, E4⟩ := X4_opt g4 (q := cA T t q) (j := 4) (m := 3) D3 iw_high (by omega) [.ref 1, .int kd, .int (nI ow), .int (nI ce)]
  obtain ⟨fi, g6, F1, F2, F3, F4⟩ := X4_opt g5 (q := cH T t q) (j := 5) (m := 4) E3 iw_fire (by omega) [.ref 1, .int kd, .int (nI ow), .int (nI ce), .int hi]
  obtain ⟨fr, lo, g7, G1, G2, G3, G4⟩ := X1_from g6 (q := cF T t q) F3 kd (nI ow) (nI ce) hi fi
  have A1' : D_X4_needWord [.ref 78, .ref (SPB + 102)] (memOf f) = some (.null, memOf g1) := A1
  have C1' : D_X4_needWord [.ref 78, .ref (SPB + 103)] (memOf g2) = some (.null, memOf g3) := C1
  have B1' : D_X4_needNumber [.ref 78, .int 5] (memOf g1) = some (.int (nI ow), memOf g2) := B1
  have D1' : D_X4_needNumber [.ref 78, .int 35] (memOf g3) = some (.int (nI ce), memOf g4) := D1
  have e7 : ∀ x, x ≠ 78 → g7 x = f x := fun x hx => by rw [G2 x hx, F2 x hx, E2 x hx, D2 x hx, C2 x hx, B2 x hx, A2 x hx]
  have r78 : row g7 77 (upd (g7 77) 2 (g7 77 2 + 1)) 78 = g7 78 := row_ne _ _ (by omega)
  have r79 : row g7 77 (upd (g7 77) 2 (g7 77 2 + 1)) 79 = g7 79 := row_ne _ _ (by omega)
  refine ⟨nI ow, nI ce, hi, fi, fr, lo, row g7 77 (upd (g7 77) 2 (g7 77 2 + 1)), fun g' hg' => ?_, fun x h1 h2 => by rw [row_ne _ _ h1]; exact e7 x h2, ?_, ?_, fun hq => ?_⟩
  · unfold cL9 at hg'
    unfold D_X1_readChimney
    rw [rdc_eq]
    simp [m_den, l0, Value.category, s_seq, s_if, s_st, s_ret, s_retz, s_retv, s_skip, s_sc, s_inc, s_call, e_c, e_li, e_lr, e_lj, e_un, e_bin, e_if, e_b, b_not, b_and, b_or, b_of, e_call, a_recv, a_snoc, a_nil, prI, prJ, prR, e_gi, e_gr, e_ai, e_ar, s_as, s_aop, s_pf, s_pfz, s_fop, l_set, l_ok, e_div, e_rem, e_len, s_tab, g_77_0, rc_78, A1', B1', C1', D1', E1, F1, G1, g_77_2, p_77_2, hg']
  · rw [row_self, e7 77 (by omega)]
  · obtain ⟨c1, c2, c3, c4⟩ := G3
    exact ⟨c1, by unfold TPX at c2 ⊢; rw [r78, r79]; exact c2, by unfold TKX at c3 ⊢; rw [r78]; exact c3, by rw [r78]; exact c4⟩
  · obtain ⟨o1, o2, o3, o4⟩ := chP_ok hq
    obtain ⟨x7, x8⟩ := G4 hq
    exact ⟨congrArg nI (B5 o4), congrArg nI (D5 o3), E4 1 o2, F4 20 o1, x7, x8⟩
