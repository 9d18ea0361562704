/-! both constructors -/
theorem tnC_len (n : Nat) : (tnC n).length = 38 := by unfold tnC; rw [List.length_append, chs_len]; rfl
def shs (c : Nat) : GM := (List.range c).flatMap (fun i => shC (95 + 2 * i))
theorem shs_succ (c : Nat) : shs (c + 1) = shs c ++ shC (95 + 2 * c) := by unfold shs; rw [List.range_succ]; simp
theorem shs_len (c : Nat) : (shs c).length = 2 * c := by
  induction c with
  | zero => rfl
  | succ c ih => rw [shs_succ, List.length_append, ih]; simp [shC]; omega
def hd6 : Nat × List Value := (6, [.ref 1, .ref 39, .int 0, .ref 77, .ref 80, .ref 81, .ref 82, .ref 86, .ref 90, .ref 91, .ref 92, .ref 93, .ref 94])
def pr6 : GM := tnC 1 ++ (tnC 39 ++ rdC 77)
def po6 : GM := (10, rp 0 7) :: (chC 82 ++ (taC 86 ++ [(10, rp 0 6), (10, rp 0 8), (10, rp 0 8), (10, rp 0 40), (10, rp 0 36)]))
def mm6 (c : Nat) : GM := hd6 :: (pr6 ++ (12, rfs 95 2 4 c) :: (po6 ++ shs c))
theorem pr6_len : pr6.length = 79 := by unfold pr6; rw [List.length_append, List.length_append, tnC_len, tnC_len]; rfl
theorem mm6_len (c : Nat) : (mm6 c).length = 95 + 2 * c := by
  unfold mm6
  rw [List.length_cons, List.length_append, pr6_len, List.length_cons, List.length_append, shs_len]
  simp [po6, chC, taC]; omega
theorem X6_init_W : W_X6_init_1 [.ref 0, .int 0] (mm6 0) = some (.inl ([.ref 0, .int (nI 4)], mm6 4)) := by
  have key := while_count (b := WB_X6_init_1) (s := WS_X6_init_1) (fun c => ([.ref 0, .int (nI c)], mm6 c)) 4 (by unfold FU; omega) (fun c hc => ?_) (fun c hc => ?_) ?_
  · exact key
  · have e : nI c < (4 : Int32) := lt_lit (n := 4) hc (by omega)
    simp [WB_X6_init_1, m_den, l0, Value.category, s_seq, s_if, s_st, s_ret, s_retz, s_retv, s_skip, s_sc, s_inc, s_call, e_c, e_li, e_lr, e_lj, e_un, e_bin, e_if, e_b, b_not, b_and, b_or, b_of, e_call, a_recv, a_snoc, a_nil, prI, prJ, prR, e_gi, e_gr, e_ai, e_ar, s_as, s_aop, s_pf, s_pfz, s_fop, l_set, l_ok, e_div, e_rem, e_len, s_tab, e]
  · have g4 : gm_fld (mm6 c) 0 6 4 = some (.ref 80) := by
      have := fld_hd [] hd6 (pr6 ++ (12, rfs 95 2 4 c) :: (po6 ++ shs c)) 6 4
      exact this
    have m80 : (mm6 c)[80]? = some (11 + 1, rfs 95 2 4 c) := by
      unfold mm6
      rw [List.getElem?_cons_succ, List.getElem?_append_right (by rw [pr6_len]; omega), pr6_len]; rfl
    have st := aas_new (M := mm6 c) (L := [.ref 0, .int (nI c)]) (t := 1) (ci := 2) (cx := 6) (kx := 4) (id := 80) (c := c) (rs := rfs 95 2 4 c) (fs := [.int 0, .int 0, .null]) (D := D_X2_init) (N := shC) X2_init rfl (by simp [e_gr, e_lr, g4]) rfl m80 (by rw [rfs_len _ _ (by omega)]; exact hc) (by omega)
    have e1 : (mm6 c ++ shC (mm6 c).length).set 80 (11 + 1, (rfs 95 2 4 c).set c (.ref (mm6 c).length)) = mm6 (c + 1) := by
      rw [mm6_len, rfs_set _ _ hc]
      unfold mm6
      rw [shs_succ, List.cons_append, List.set_cons_succ, List.append_assoc, List.set_append_right _ _ (by rw [pr6_len]; omega), pr6_len]
      simp
    rw [e1] at st
    simp only []
    simp [WS_X6_init_1, s_seq, st, s_inc, l_set, l_ok, Value.category, nI_next]
  · have e : ¬ nI 4 < (4 : Int32) := nlt_lit (n := 4) (by omega)
    simp [WB_X6_init_1, m_den, l0, Value.category, s_seq, s_if, s_st, s_ret, s_retz, s_retv, s_skip, s_sc, s_inc, s_call, e_c, e_li, e_lr, e_lj, e_un, e_bin, e_if, e_b, b_not, b_and, b_or, b_of, e_call, a_recv, a_snoc, a_nil, prI, prJ, prR, e_gi, e_gr, e_ai, e_ar, s_as, s_aop, s_pf, s_pfz, s_fop, l_set, l_ok, e_div, e_rem, e_len, s_tab, e]
theorem X6_tail (A : GM) (hA : A = []) {M : GM} (eM : M = A ++ mm6 0) : s_seq (s_sc 1 (s_seq (s_st Value.int 1 (e_c (0 : Int32))) W_X6_init_1)) s_retv [.ref A.length] M = some (.inr (.null, A ++ mm6 4)) := by
  subst hA
  rw [eM]
  have s3 : s_sc 1 (s_seq (s_st Value.int 1 (e_c (0 : Int32))) W_X6_init_1) [.ref 0] (mm6 0) = some (.inl ([.ref 0], mm6 4)) := by
    have z : s_seq (s_st Value.int 1 (e_c (0 : Int32))) W_X6_init_1 [.ref 0] (mm6 0) = some (.inl ([.ref 0, .int (nI 4)], mm6 4)) := (seq_l (by rfl)).trans X6_init_W
    simp only [s_sc, z, Option.bind_some]
    rfl
  exact (seq_l s3).trans rfl
theorem X6_body (A : GM) (hA : A = []) : S_X6_init [.ref A.length] (A ++ [(6, [.null, .null, .int 0, .null, .null, .null, .null, .null, .null, .null, .null, .null, .null])]) = some (.inr (.null, A ++ mm6 4)) := by
    have hl : A.length = 0 := by rw [hA]; rfl
    unfold S_X6_init
    refine (seq_l (obj_l (by rfl))).trans ?_
    refine (seq_l (pff_new X5_init (by rfl) (by simp))).trans ?_
    refine (seq_l (pff_new X5_init (by rfl) (by simp))).trans ?_
    refine (seq_l (pfz_int (by rfl) (by simp))).trans ?_
    refine (seq_l (pff_new X1_init (by rfl) (by simp))).trans ?_
    refine (seq_l (pff_newq (n := 4) (by rfl) (by rfl) (by omega) (by simp))).trans ?_
    refine (seq_l (pff_newi (n := 7) (by rfl) (by rfl) (by omega) (by simp))).trans ?_
    refine (seq_l (pff_new X0_init (by rfl) (by simp))).trans ?_
    refine (seq_l (pff_new X3_init (by rfl) (by simp))).trans ?_
    refine (seq_l (pff_newi (n := 6) (by rfl) (by rfl) (by omega) (by simp))).trans ?_
    refine (seq_l (pff_newi (n := 8) (by rfl) (by rfl) (by omega) (by simp))).trans ?_
    refine (seq_l (pff_newi (n := 8) (by rfl) (by rfl) (by omega) (by simp))).trans ?_
    refine (seq_l (pff_newi (n := 40) (by rfl) (by rfl) (by omega) (by simp))).trans ?_
    refine (seq_l (pff_newi (n := 36) (by rfl) (by rfl) (by omega) (by simp))).trans ?_
    refine X6_tail A hA ?_
    have r0 : rfs 95 2 4 0 = List.replicate 4 .null := rfl
    have s0 : shs 0 = [] := rfl
    have l1' : ∀ n, (rdC n).length = 3 := fun _ => rfl
    have l2 : ∀ n, (chC n).length = 4 := fun _ => rfl
    have l3 : ∀ n, (taC n).length = 4 := fun _ => rfl
    simp [mm6, hd6, pr6, po6, r0, s0, tnC_len, l1', l2, l3, hl]
