/-! towns -/
theorem rp_split (x y : Int32) {n k : Nat} (hk : k < n) : (rp x k ++ rp y (n - k)).set k (.int x) = rp x (k + 1) ++ rp y (n - (k + 1)) := by
  have e1 : n - k = (n - (k + 1)) + 1 := by omega
  have e2 : rp y (n - k) = .int y :: rp y (n - (k + 1)) := by unfold rp; rw [e1, List.replicate_succ]
  have e3 : rp x (k + 1) = rp x k ++ [.int x] := by unfold rp; rw [List.replicate_succ']
  rw [List.set_append_right _ _ (by rw [rp_len]; omega), rp_len, Nat.sub_self, e2, e3]
  simp
theorem fillM (M : GM) {id n : Nat} {x y : Int32} (h : M[id]? = some (10, rp y n)) (hn : n ≤ 200) : D_J7_fill_53178 [.ref id, .int x] M = some (.null, M.set id (10, rp x n)) := by
  have hid : id < M.length := (List.getElem?_eq_some_iff.mp h).1
  have e0 : M.set id (10, rp x 0 ++ rp y (n - 0)) = M := by
    apply List.ext_getElem?
    intro j
    rw [List.getElem?_set]
    by_cases c : id = j
    · subst c; rw [if_pos rfl, if_pos hid, h]; rfl
    · rw [if_neg c]
  have at_ : ∀ k, (M.set id (10, rp x k ++ rp y (n - k)))[id]? = some (10, rp x k ++ rp y (n - k)) := fun k => by rw [List.getElem?_set, if_pos rfl, if_pos hid]
  have W : W_J7_fill_53178_1 [.ref id, .int x, .int 0, .int (nI n)] M = some (.inl ([.ref id, .int x, .int (nI n), .int (nI n)], M.set id (10, rp x n))) := by
    have key := while_count (b := WB_J7_fill_53178_1) (s := WS_J7_fill_53178_1) (fun k => ([.ref id, .int x, .int (nI k), .int (nI n)], M.set id (10, rp x k ++ rp y (n - k)))) n (by unfold FU; omega) (fun k hk => ?_) (fun k hk => ?_) ?_
    · simp only [e0] at key
      have e : rp x n ++ rp y (n - n) = rp x n := by rw [Nat.sub_self]; unfold rp; simp
      rw [e] at key
      exact key
    · have e : nI k < nI n := (nI_lt_iff (by omega) (by omega)).mpr hk
      simp [WB_J7_fill_53178_1, m_den, l0, Value.category, s_seq, s_if, s_st, s_ret, s_retz, s_retv, s_skip, s_sc, s_inc, s_call, e_c, e_li, e_lr, e_lj, e_un, e_bin, e_if, e_b, b_not, b_and, b_or, b_of, e_call, a_recv, a_snoc, a_nil, prI, prJ, prR, e_gi, e_gr, e_ai, e_ar, s_as, s_aop, s_pf, s_pfz, s_fop, l_set, l_ok, e_div, e_rem, e_len, s_tab, e]
    · have ec : (nI k).toNatClampNeg = k := nI_clamp (by omega)
      have e2 : (0 : Int32) ≤ nI k := nI_pos' (by omega)
      have w : gm_wr (M.set id (10, rp x k ++ rp y (n - k))) id (nI k) x = some (M.set id (10, rp x (k + 1) ++ rp y (n - (k + 1)))) := by
        unfold gm_wr
        rw [if_pos e2, at_ k]
        simp only [Option.bind_some, ec]
        rw [if_pos ⟨trivial, by rw [List.length_append, rp_len, rp_len]; omega⟩, rp_split x y hk, List.set_set]
      simp [WS_J7_fill_53178_1, m_den, l0, Value.category, s_seq, s_if, s_st, s_ret, s_retz, s_retv, s_skip, s_sc, s_inc, s_call, e_c, e_li, e_lr, e_lj, e_un, e_bin, e_if, e_b, b_not, b_and, b_or, b_of, e_call, a_recv, a_snoc, a_nil, prI, prJ, prR, e_gi, e_gr, e_ai, e_ar, s_as, s_aop, s_pf, s_pfz, s_fop, l_set, l_ok, e_div, e_rem, e_len, s_tab, w, nI_next]
    · have e : ¬ nI n < nI n := Int32.lt_irrefl
      simp [WB_J7_fill_53178_1, m_den, l0, Value.category, s_seq, s_if, s_st, s_ret, s_retz, s_retv, s_skip, s_sc, s_inc, s_call, e_c, e_li, e_lr, e_lj, e_un, e_bin, e_if, e_b, b_not, b_and, b_or, b_of, e_call, a_recv, a_snoc, a_nil, prI, prJ, prR, e_gi, e_gr, e_ai, e_ar, s_as, s_aop, s_pf, s_pfz, s_fop, l_set, l_ok, e_div, e_rem, e_len, s_tab, e]
  have en : Int32.ofNat n = nI n := rfl
  simp [D_J7_fill_53178, S_J7_fill_53178, m_den, l0, Value.category, s_seq, s_if, s_st, s_ret, s_retz, s_retv, s_skip, s_sc, s_inc, s_call, e_c, e_li, e_lr, e_lj, e_un, e_bin, e_if, e_b, b_not, b_and, b_or, b_of, e_call, a_recv, a_snoc, a_nil, prI, prJ, prR, e_gi, e_gr, e_ai, e_ar, s_as, s_aop, s_pf, s_pfz, s_fop, l_set, l_ok, e_div, e_rem, e_len, s_tab, h, rp_len, en, W]
theorem call_fill {A l : GM} {c : Nat × List Value} {L : List Value} {k j n : Nat} (hL : L[0]? = some (.ref A.length)) (hc : c.1 = 5 ∧ c.2[k]? = some (.ref (A.length + (j + 1)))) (hl : l[j]? = some (10, rp 0 n)) (hn : n ≤ 200) : s_call D_J7_fill_53178 2 (a_snoc Value.int (a_snoc Value.ref a_nil (e_gr 5 k (e_lr 0))) (e_c (-1 : Int32))) L (A ++ c :: l) = some (.inl (L, A ++ c :: l.set j (10, rp (-1) n))) := by
  have h : (A ++ c :: l)[A.length + (j + 1)]? = some (10, rp 0 n) := by rw [List.getElem?_append_right (by omega), Nat.add_sub_cancel_left, List.getElem?_cons_succ]; exact hl
  have f := fillM (A ++ c :: l) (x := -1) h hn
  have e : (A ++ c :: l).set (A.length + (j + 1)) (10, rp (-1) n) = A ++ c :: l.set j (10, rp (-1) n) := by rw [List.set_append_right _ _ (by omega), Nat.add_sub_cancel_left, List.set_cons_succ]
  rw [e] at f
  have g : gm_fld (A ++ c :: l) A.length 5 k = some (.ref (A.length + (j + 1))) := by rw [fld_hd, if_pos hc.1, hc.2]
  simp [s_call, a_snoc, a_nil, e_gr, e_lr, hL, g, e_c, f]
theorem pff_newq {A l : GM} {c : Nat × List Value} {L : List Value} {ci k n t : Nat} {z : Int32} (hL : L[0]? = some (.ref A.length)) (hz : z = nI n) (hn : n ≤ 1000) (hc : c.1 = ci ∧ k < c.2.length) : s_pff ci k (e_lr 0) (e_newq t (e_c z)) L (A ++ c :: l) = some (.inl (L, A ++ (ci, c.2.set k (.ref (A.length + (l.length + 1)))) :: (l ++ [(11 + t, List.replicate n .null)]))) := by
  unfold s_pff s_pf
  simp only [e_lr, hL, Option.bind_some, newq_of t hz hn]
  rw [List.append_assoc, List.cons_append, pf_hd, if_pos hc]
  simp
/-- new objects in a row of references -/
theorem aas_new {M : GM} {L : List Value} {t ci cx kx id c : Nat} {fs rs v : List Value} {D : MDen} {N : Nat → GM} {tl : GM} (hD : ∀ B : GM, D [.ref B.length] (B ++ [(ci, fs)]) = some (.null, B ++ N B.length)) (hN : N M.length = (ci, v) :: tl) (hg : e_gr cx kx (e_lr 0) L M = some (id, M)) (hi : e_li 1 L M = some (nI c, M)) (hid : M[id]? = some (11 + t, rs)) (hc : c < rs.length) (hc2 : c < 1000) : s_aas t ci (e_gr cx kx (e_lr 0)) (e_li 1) (e_new ci fs D) L M = some (.inl (L, (M ++ N M.length).set id (11 + t, rs.set c (.ref M.length)))) := by
  have ec : (nI c).toNatClampNeg = c := nI_clamp (by omega)
  have e2 : (0 : Int32) ≤ nI c := nI_pos' (by omega)
  have hl := (List.getElem?_eq_some_iff.mp hid).1
  have a1 : (M ++ N M.length)[id]? = some (11 + t, rs) := by rw [List.getElem?_append_left hl]; exact hid
  have a2 : (M ++ N M.length)[M.length]? = some (ci, v) := by rw [List.getElem?_append_right (Nat.le_refl _), Nat.sub_self, hN]; rfl
  unfold s_aas
  simp only [hg, hi, Option.bind_some, e_new, hD, if_true, e2, ec, a1, a2]
  rw [if_pos ⟨trivial, hc, trivial⟩]
def rfs (n d : Nat) (b c : Nat) : List Value := (List.range c).map (fun i => .ref (n + d * i)) ++ List.replicate (b - c) .null
theorem rfs_len (n d : Nat) {b c : Nat} (h : c ≤ b) : (rfs n d b c).length = b := by unfold rfs; simp; omega
theorem rfs_set (n d : Nat) {b c : Nat} (h : c < b) : (rfs n d b c).set c (.ref (n + d * c)) = rfs n d b (c + 1) := by
  unfold rfs
  have e1 : b - c = (b - (c + 1)) + 1 := by omega
  rw [List.set_append_right _ _ (by simp), e1, List.replicate_succ, List.range_succ]
  simp
def chs (n c : Nat) : GM := (List.range c).flatMap (fun i => chC (n + 4 * i))
theorem chs_succ (n c : Nat) : chs n (c + 1) = chs n c ++ chC (n + 4 * c) := by unfold chs; rw [List.range_succ]; simp
theorem chs_len (n c : Nat) : (chs n c).length = 4 * c := by
  induction c with
  | zero => rfl
  | succ c ih => rw [chs_succ, List.length_append, ih]; simp [chC]; omega
def tnH (n c : Nat) : GM := [(5, [.int 0, .int 1, .int 0, .ref (n + 1), .ref (n + 2), .ref (n + 3), .ref (n + 4), .ref (n + 5)]), (10, rp (-1) 36), (10, rp 0 24), (10, rp 0 6), (10, rp (-1) 10), (11, rfs (n + 6) 4 8 c)]
def tnC (n : Nat) : GM := tnH n 8 ++ chs (n + 6) 8
theorem X5_init_W (A : GM) : W_X5_init_1 [.ref A.length, .int 0] (A ++ (tnH A.length 0 ++ chs (A.length + 6) 0)) = some (.inl ([.ref A.length, .int (nI 8)], A ++ tnC A.length)) := by
  have key := while_count (b := WB_X5_init_1) (s := WS_X5_init_1) (fun c => ([.ref A.length, .int (nI c)], A ++ (tnH A.length c ++ chs (A.length + 6) c))) 8 (by unfold FU; omega) (fun c hc => ?_) (fun c hc => ?_) ?_
  · exact key
  · have e : nI c < (8 : Int32) := lt_lit (n := 8) hc (by omega)
    simp [WB_X5_init_1, m_den, l0, Value.category, s_seq, s_if, s_st, s_ret, s_retz, s_retv, s_skip, s_sc, s_inc, s_call, e_c, e_li, e_lr, e_lj, e_un, e_bin, e_if, e_b, b_not, b_and, b_or, b_of, e_call, a_recv, a_snoc, a_nil, prI, prJ, prR, e_gi, e_gr, e_ai, e_ar, s_as, s_aop, s_pf, s_pfz, s_fop, l_set, l_ok, e_div, e_rem, e_len, s_tab, e]
  · obtain ⟨M, eM⟩ : ∃ M, M = A ++ (tnH A.length c ++ chs (A.length + 6) c) := ⟨_, rfl⟩
    have hlen : M.length = A.length + 6 + 4 * c := by rw [eM, List.length_append, List.length_append, chs_len]; simp [tnH]; omega
    have g7 : gm_fld M A.length 5 7 = some (.ref (A.length + 5)) := by
      rw [eM]; unfold tnH
      rw [List.cons_append, fld_hd, if_pos rfl]; rfl
    have m5 : M[A.length + 5]? = some (11 + 0, rfs (A.length + 6) 4 8 c) := by
      rw [eM, List.getElem?_append_right (by omega), Nat.add_sub_cancel_left]; rfl
    have st := aas_new (M := M) (L := [.ref A.length, .int (nI c)]) (t := 0) (ci := 0) (cx := 5) (kx := 7) (id := A.length + 5) (c := c) (rs := rfs (A.length + 6) 4 8 c) (fs := [.null, .null, .null, .int 0, .int 0, .int 0]) (D := D_X0_init) (N := chC) X0_init rfl (by simp [e_gr, e_lr, g7]) rfl m5 (by rw [rfs_len _ _ (by omega)]; exact hc) (by omega)
    have e1 : (M ++ chC M.length).set (A.length + 5) (11 + 0, (rfs (A.length + 6) 4 8 c).set c (.ref M.length)) = A ++ (tnH A.length (c + 1) ++ chs (A.length + 6) (c + 1)) := by
      rw [hlen, rfs_set _ _ hc, chs_succ, eM, List.append_assoc, List.append_assoc, List.set_append_right _ _ (by omega), Nat.add_sub_cancel_left]
      rfl
    rw [e1] at st
    simp only [← eM]
    simp [WS_X5_init_1, s_seq, st, s_inc, l_set, l_ok, Value.category, nI_next]
  · have e : ¬ nI 8 < (8 : Int32) := nlt_lit (n := 8) (by omega)
    simp [WB_X5_init_1, m_den, l0, Value.category, s_seq, s_if, s_st, s_ret, s_retz, s_retv, s_skip, s_sc, s_inc, s_call, e_c, e_li, e_lr, e_lj, e_un, e_bin, e_if, e_b, b_not, b_and, b_or, b_of, e_call, a_recv, a_snoc, a_nil, prI, prJ, prR, e_gi, e_gr, e_ai, e_ar, s_as, s_aop, s_pf, s_pfz, s_fop, l_set, l_ok, e_div, e_rem, e_len, s_tab, e]
theorem X5_init (A : GM) : D_X5_init [.ref A.length] (A ++ [(5, [.int 0, .int 0, .int 0, .null, .null, .null, .null, .null])]) = some (.null, A ++ tnC A.length) := by
  have e : S_X5_init [.ref A.length] (A ++ [(5, [.int 0, .int 0, .int 0, .null, .null, .null, .null, .null])]) = some (.inr (.null, A ++ tnC A.length)) := by
    unfold S_X5_init
    refine (seq_l (obj_l (by rfl))).trans ?_
    refine (seq_l (pf_int (by rfl) (by simp))).trans ?_
    refine (seq_l (pf_int (by rfl) (by simp))).trans ?_
    refine (seq_l (pf_int (by rfl) (by simp))).trans ?_
    refine (seq_l (pff_newi (n := 36) (by rfl) (by rfl) (by omega) (by simp))).trans ?_
    refine (seq_l (pff_newi (n := 24) (by rfl) (by rfl) (by omega) (by simp))).trans ?_
    refine (seq_l (pff_newi (n := 6) (by rfl) (by rfl) (by omega) (by simp))).trans ?_
    refine (seq_l (pff_newi (n := 10) (by rfl) (by rfl) (by omega) (by simp))).trans ?_
    refine (seq_l (pff_newq (n := 8) (by rfl) (by rfl) (by omega) (by simp))).trans ?_
    have W := X5_init_W A
    have F : ∀ M, M = A ++ (5, [.int 0, .int 1, .int 0, .ref (A.length + 1), .ref (A.length + 2), .ref (A.length + 3), .ref (A.length + 4), .ref (A.length + 5)]) :: [(10, rp 0 36), (10, rp 0 24), (10, rp 0 6), (10, rp 0 10), (11 + 0, List.replicate 8 .null)] → s_seq (s_seq (s_call D_J7_fill_53178 2 (a_snoc Value.int (a_snoc Value.ref a_nil (e_gr 5 3 (e_lr 0))) (e_c (-1 : Int32)))) (s_seq (s_call D_J7_fill_53178 2 (a_snoc Value.int (a_snoc Value.ref a_nil (e_gr 5 6 (e_lr 0))) (e_c (-1 : Int32)))) (s_sc 1 (s_seq (s_st Value.int 1 (e_c (0 : Int32))) W_X5_init_1)))) s_retv [.ref A.length] M = some (.inr (.null, A ++ tnC A.length)) := by
      intro M eM
      rw [eM]
      have c1 := call_fill (A := A) (c := (5, [.int 0, .int 1, .int 0, .ref (A.length + 1), .ref (A.length + 2), .ref (A.length + 3), .ref (A.length + 4), .ref (A.length + 5)])) (l := [(10, rp 0 36), (10, rp 0 24), (10, rp 0 6), (10, rp 0 10), (11 + 0, List.replicate 8 .null)]) (L := [.ref A.length]) (k := 3) (j := 0) (n := 36) rfl ⟨rfl, rfl⟩ rfl (by omega)
      have c2 := call_fill (A := A) (c := (5, [.int 0, .int 1, .int 0, .ref (A.length + 1), .ref (A.length + 2), .ref (A.length + 3), .ref (A.length + 4), .ref (A.length + 5)])) (l := [(10, rp (-1) 36), (10, rp 0 24), (10, rp 0 6), (10, rp 0 10), (11 + 0, List.replicate 8 .null)]) (L := [.ref A.length]) (k := 6) (j := 3) (n := 10) rfl ⟨rfl, rfl⟩ rfl (by omega)
      have c1' : s_call D_J7_fill_53178 2 (a_snoc Value.int (a_snoc Value.ref a_nil (e_gr 5 3 (e_lr 0))) (e_c (-1 : Int32))) [.ref A.length] (A ++ (5, [.int 0, .int 1, .int 0, .ref (A.length + 1), .ref (A.length + 2), .ref (A.length + 3), .ref (A.length + 4), .ref (A.length + 5)]) :: [(10, rp 0 36), (10, rp 0 24), (10, rp 0 6), (10, rp 0 10), (11 + 0, List.replicate 8 .null)]) = some (.inl ([.ref A.length], A ++ (5, [.int 0, .int 1, .int 0, .ref (A.length + 1), .ref (A.length + 2), .ref (A.length + 3), .ref (A.length + 4), .ref (A.length + 5)]) :: [(10, rp (-1) 36), (10, rp 0 24), (10, rp 0 6), (10, rp 0 10), (11 + 0, List.replicate 8 .null)])) := c1
      have c2' : s_call D_J7_fill_53178 2 (a_snoc Value.int (a_snoc Value.ref a_nil (e_gr 5 6 (e_lr 0))) (e_c (-1 : Int32))) [.ref A.length] (A ++ (5, [.int 0, .int 1, .int 0, .ref (A.length + 1), .ref (A.length + 2), .ref (A.length + 3), .ref (A.length + 4), .ref (A.length + 5)]) :: [(10, rp (-1) 36), (10, rp 0 24), (10, rp 0 6), (10, rp 0 10), (11 + 0, List.replicate 8 .null)]) = some (.inl ([.ref A.length], A ++ (tnH A.length 0 ++ chs (A.length + 6) 0))) := c2
      have s3 : s_sc 1 (s_seq (s_st Value.int 1 (e_c (0 : Int32))) W_X5_init_1) [.ref A.length] (A ++ (tnH A.length 0 ++ chs (A.length + 6) 0)) = some (.inl ([.ref A.length], A ++ tnC A.length)) := by
        have z : s_seq (s_st Value.int 1 (e_c (0 : Int32))) W_X5_init_1 [.ref A.length] (A ++ (tnH A.length 0 ++ chs (A.length + 6) 0)) = some (.inl ([.ref A.length, .int (nI 8)], A ++ tnC A.length)) := (seq_l (by rfl)).trans W
        simp only [s_sc, z, Option.bind_some]
        rfl
      rw [seq_l ((seq_l c1').trans ((seq_l c2').trans s3))]
      rfl
    exact F _ (by simp)
  have e0 : l0 [.ref A.length] = [.ref A.length] := rfl
  unfold D_X5_init m_den
  rw [e0, e]
  rfl
