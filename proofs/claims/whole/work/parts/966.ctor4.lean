/-! the reference's constructor -/
theorem X6_init (A : GM) (hA : A = []) : D_X6_init [.ref A.length] (A ++ [(6, [.null, .null, .int 0, .null, .null, .null, .null, .null, .null, .null, .null, .null, .null])]) = some (.null, A ++ mm6 4) := by
  have e0 : l0 [.ref A.length] = [.ref A.length] := rfl
  unfold D_X6_init m_den
  rw [e0, X6_body A hA]
  rfl
theorem X6_new (L : List Value) : e_new 6 [.null, .null, .int 0, .null, .null, .null, .null, .null, .null, .null, .null, .null, .null] D_X6_init L [] = some (0, mm6 4) := by
  unfold e_new
  rw [X6_init [] rfl]
  simp
def hd7 (n : Nat) : Nat × List Value := (7, [.ref (n + 1), .ref (n + 2), .ref (n + 3), .ref (n + 4), .int 0, .ref (n + 5), .ref (n + 6), .int 0, .int 0, .int 0, .ref (n + 7), .ref (n + 8), .int 0, .int 0, .int 0, .int 0, .int 0, .ref (n + 9), .ref (n + 10), .ref (n + 11), .ref (n + 12)])
def re7 : GM := [(10, rp 0 735), (10, rp 0 735), (10, rp 0 7), (10, rp 0 36), (10, rp 0 6), (10, rp 0 6), (10, rp 0 120), (10, rp 0 4), (10, rp 0 4), (10, rp 0 160), (10, rp 0 40)]
def rs7 (σ : Nat → Int32) : Nat × List Value := (10, sl_of σ (List.replicate 735 none))
def mm7 (A : GM) (σ : Nat → Int32) : GM := A ++ hd7 A.length :: rs7 σ :: re7
theorem rp_sl (x : Int32) (n : Nat) : rp x n = sl_of (fun _ => x) (List.replicate n none) := by
  apply List.ext_getElem?
  intro j
  rw [sl_at]
  unfold rp
  rw [List.getElem?_replicate, List.getElem?_replicate]
  by_cases c : j < n
  · rw [if_pos c, if_pos c]; rfl
  · rw [if_neg c, if_neg c]; rfl
theorem wr7 (A : GM) (σ : Nat → Int32) {i : Nat} (hi : i < 735) (x : Int32) : gm_wr (mm7 A σ) (A.length + 1) (nI i) x = some (mm7 A (upd σ i x)) := by
  have ec : (nI i).toNatClampNeg = i := nI_clamp (by omega)
  have e2 : (0 : Int32) ≤ nI i := nI_pos' (by omega)
  have g : (mm7 A σ)[A.length + 1]? = some (rs7 σ) := by
    unfold mm7
    rw [List.getElem?_append_right (by omega), Nat.add_sub_cancel_left]; rfl
  unfold gm_wr
  rw [if_pos e2, g]
  unfold rs7
  simp only [Option.bind_some, ec]
  rw [if_pos ⟨trivial, by rw [sl_len, List.length_replicate]; exact hi⟩, sl_set _ _ _ _ (by rw [List.getElem?_replicate, if_pos hi])]
  unfold mm7
  rw [List.set_append_right _ _ (by omega), Nat.add_sub_cancel_left]
  rfl
theorem fl7 (A : GM) (σ : Nat → Int32) : gm_fld (mm7 A σ) A.length 7 0 = some (.ref (A.length + 1)) := by
  unfold mm7
  rw [fld_hd]; rfl
theorem W7_1 (A : GM) (σ : Nat → Int32) : W_X7_init_1 [.ref A.length, .int 0] (mm7 A σ) = some (.inl ([.ref A.length, .int (nI 36)], mm7 A (put 3 36 (fun _ => -1) σ))) := by
  have key := while_count (b := WB_X7_init_1) (s := WS_X7_init_1) (fun c => ([.ref A.length, .int (nI c)], mm7 A (put 3 c (fun _ => -1) σ))) 36 (by unfold FU; omega) (fun c hc => ?_) (fun c hc => ?_) ?_
  · simp only [put_0] at key
    exact key
  · have e : nI c < (36 : Int32) := lt_lit (n := 36) hc (by omega)
    simp [WB_X7_init_1, m_den, l0, Value.category, s_seq, s_if, s_st, s_ret, s_retz, s_retv, s_skip, s_sc, s_inc, s_call, e_c, e_li, e_lr, e_lj, e_un, e_bin, e_if, e_b, b_not, b_and, b_or, b_of, e_call, a_recv, a_snoc, a_nil, prI, prJ, prR, e_gi, e_gr, e_ai, e_ar, s_as, s_aop, s_pf, s_pfz, s_fop, l_set, l_ok, e_div, e_rem, e_len, s_tab, e]
  · have i3 : (3 : Int32) + nI c = nI (3 + c) := nI_a 3 c
    have w := wr7 A (put 3 c (fun _ => -1) σ) (i := 3 + c) (by omega) (-1)
    rw [put_succ 3 c (fun _ => -1) σ] at w
    simp [WS_X7_init_1, m_den, l0, Value.category, s_seq, s_if, s_st, s_ret, s_retz, s_retv, s_skip, s_sc, s_inc, s_call, e_c, e_li, e_lr, e_lj, e_un, e_bin, e_if, e_b, b_not, b_and, b_or, b_of, e_call, a_recv, a_snoc, a_nil, prI, prJ, prR, e_gi, e_gr, e_ai, e_ar, s_as, s_aop, s_pf, s_pfz, s_fop, l_set, l_ok, e_div, e_rem, e_len, s_tab, fl7, i3, w, nI_next]
  · have e : ¬ nI 36 < (36 : Int32) := nlt_lit (n := 36) (by omega)
    simp [WB_X7_init_1, m_den, l0, Value.category, s_seq, s_if, s_st, s_ret, s_retz, s_retv, s_skip, s_sc, s_inc, s_call, e_c, e_li, e_lr, e_lj, e_un, e_bin, e_if, e_b, b_not, b_and, b_or, b_of, e_call, a_recv, a_snoc, a_nil, prI, prJ, prR, e_gi, e_gr, e_ai, e_ar, s_as, s_aop, s_pf, s_pfz, s_fop, l_set, l_ok, e_div, e_rem, e_len, s_tab, e]
theorem W7_2 (A : GM) (σ : Nat → Int32) : W_X7_init_2 [.ref A.length, .int 0] (mm7 A σ) = some (.inl ([.ref A.length, .int (nI 10)], mm7 A (put 725 10 (fun _ => -1) σ))) := by
  have key := while_count (b := WB_X7_init_2) (s := WS_X7_init_2) (fun c => ([.ref A.length, .int (nI c)], mm7 A (put 725 c (fun _ => -1) σ))) 10 (by unfold FU; omega) (fun c hc => ?_) (fun c hc => ?_) ?_
  · simp only [put_0] at key
    exact key
  · have e : nI c < (10 : Int32) := lt_lit (n := 10) hc (by omega)
    simp [WB_X7_init_2, m_den, l0, Value.category, s_seq, s_if, s_st, s_ret, s_retz, s_retv, s_skip, s_sc, s_inc, s_call, e_c, e_li, e_lr, e_lj, e_un, e_bin, e_if, e_b, b_not, b_and, b_or, b_of, e_call, a_recv, a_snoc, a_nil, prI, prJ, prR, e_gi, e_gr, e_ai, e_ar, s_as, s_aop, s_pf, s_pfz, s_fop, l_set, l_ok, e_div, e_rem, e_len, s_tab, e]
  · have i3 : (725 : Int32) + nI c = nI (725 + c) := nI_a 725 c
    have w := wr7 A (put 725 c (fun _ => -1) σ) (i := 725 + c) (by omega) (-1)
    rw [put_succ 725 c (fun _ => -1) σ] at w
    simp [WS_X7_init_2, m_den, l0, Value.category, s_seq, s_if, s_st, s_ret, s_retz, s_retv, s_skip, s_sc, s_inc, s_call, e_c, e_li, e_lr, e_lj, e_un, e_bin, e_if, e_b, b_not, b_and, b_or, b_of, e_call, a_recv, a_snoc, a_nil, prI, prJ, prR, e_gi, e_gr, e_ai, e_ar, s_as, s_aop, s_pf, s_pfz, s_fop, l_set, l_ok, e_div, e_rem, e_len, s_tab, fl7, i3, w, nI_next]
  · have e : ¬ nI 10 < (10 : Int32) := nlt_lit (n := 10) (by omega)
    simp [WB_X7_init_2, m_den, l0, Value.category, s_seq, s_if, s_st, s_ret, s_retz, s_retv, s_skip, s_sc, s_inc, s_call, e_c, e_li, e_lr, e_lj, e_un, e_bin, e_if, e_b, b_not, b_and, b_or, b_of, e_call, a_recv, a_snoc, a_nil, prI, prJ, prR, e_gi, e_gr, e_ai, e_ar, s_as, s_aop, s_pf, s_pfz, s_fop, l_set, l_ok, e_div, e_rem, e_len, s_tab, e]
def sg7 : Nat → Int32 := put 725 10 (fun _ => -1) (put 3 36 (fun _ => -1) (upd (fun _ => 0) 2 1))
theorem X7_tail (A : GM) {M : GM} (eM : M = mm7 A (fun _ => 0)) : s_seq (s_seq (s_as (e_gr 7 0 (e_lr 0)) (e_c (2 : Int32)) (e_c (1 : Int32))) (s_seq (s_sc 1 (s_seq (s_st Value.int 1 (e_c (0 : Int32))) W_X7_init_1)) (s_sc 1 (s_seq (s_st Value.int 1 (e_c (0 : Int32))) W_X7_init_2)))) s_retv [.ref A.length] M = some (.inr (.null, mm7 A sg7)) := by
  rw [eM]
  have w2 : gm_wr (mm7 A (fun _ => 0)) (A.length + 1) 2 1 = some (mm7 A (upd (fun _ => 0) 2 1)) := wr7 A (fun _ => 0) (i := 2) (by omega) 1
  have s1 : s_as (e_gr 7 0 (e_lr 0)) (e_c (2 : Int32)) (e_c (1 : Int32)) [.ref A.length] (mm7 A (fun _ => 0)) = some (.inl ([.ref A.length], mm7 A (upd (fun _ => 0) 2 1))) := by
    simp [s_as, e_gr, e_lr, fl7, e_c, w2]
  have s2 : ∀ σ, s_sc 1 (s_seq (s_st Value.int 1 (e_c (0 : Int32))) W_X7_init_1) [.ref A.length] (mm7 A σ) = some (.inl ([.ref A.length], mm7 A (put 3 36 (fun _ => -1) σ))) := fun σ => by
    have z : s_seq (s_st Value.int 1 (e_c (0 : Int32))) W_X7_init_1 [.ref A.length] (mm7 A σ) = some (.inl ([.ref A.length, .int (nI 36)], mm7 A (put 3 36 (fun _ => -1) σ))) := (seq_l (by rfl)).trans (W7_1 A σ)
    simp only [s_sc, z, Option.bind_some]
    rfl
  have s3 : ∀ σ, s_sc 1 (s_seq (s_st Value.int 1 (e_c (0 : Int32))) W_X7_init_2) [.ref A.length] (mm7 A σ) = some (.inl ([.ref A.length], mm7 A (put 725 10 (fun _ => -1) σ))) := fun σ => by
    have z : s_seq (s_st Value.int 1 (e_c (0 : Int32))) W_X7_init_2 [.ref A.length] (mm7 A σ) = some (.inl ([.ref A.length, .int (nI 10)], mm7 A (put 725 10 (fun _ => -1) σ))) := (seq_l (by rfl)).trans (W7_2 A σ)
    simp only [s_sc, z, Option.bind_some]
    rfl
  rw [seq_l ((seq_l s1).trans ((seq_l (s2 _)).trans (s3 _)))]
  rfl
theorem X7_body (A : GM) : S_X7_init [.ref A.length] (A ++ [(7, [.null, .null, .null, .null, .int 0, .null, .null, .int 0, .int 0, .int 0, .null, .null, .int 0, .int 0, .int 0, .int 0, .int 0, .null, .null, .null, .null])]) = some (.inr (.null, mm7 A sg7)) := by
  unfold S_X7_init
  refine (seq_l (obj_l (by rfl))).trans ?_
  refine (seq_l (pff_newi (n := 735) (by rfl) (by rfl) (by omega) (by simp))).trans ?_
  refine (seq_l (pff_newi (n := 735) (by rfl) (by rfl) (by omega) (by simp))).trans ?_
  refine (seq_l (pff_newi (n := 735) (by rfl) (by rfl) (by omega) (by simp))).trans ?_
  refine (seq_l (pff_newi (n := 7) (by rfl) (by rfl) (by omega) (by simp))).trans ?_
  refine (seq_l (pff_newi (n := 36) (by rfl) (by rfl) (by omega) (by simp))).trans ?_
  refine (seq_l (pff_newi (n := 6) (by rfl) (by rfl) (by omega) (by simp))).trans ?_
  refine (seq_l (pff_newi (n := 6) (by rfl) (by rfl) (by omega) (by simp))).trans ?_
  refine (seq_l (pff_newi (n := 120) (by rfl) (by rfl) (by omega) (by simp))).trans ?_
  refine (seq_l (pff_newi (n := 4) (by rfl) (by rfl) (by omega) (by simp))).trans ?_
  refine (seq_l (pff_newi (n := 4) (by rfl) (by rfl) (by omega) (by simp))).trans ?_
  refine (seq_l (pff_newi (n := 160) (by rfl) (by rfl) (by omega) (by simp))).trans ?_
  refine (seq_l (pff_newi (n := 40) (by rfl) (by rfl) (by omega) (by simp))).trans ?_
  refine X7_tail A ?_
  unfold mm7 rs7 re7 hd7
  rw [← rp_sl]
  simp
theorem X7_init (A : GM) : D_X7_init [.ref A.length] (A ++ [(7, [.null, .null, .null, .null, .int 0, .null, .null, .int 0, .int 0, .int 0, .null, .null, .int 0, .int 0, .int 0, .int 0, .int 0, .null, .null, .null, .null])]) = some (.null, mm7 A sg7) := by
  have e0 : l0 [.ref A.length] = [.ref A.length] := rfl
  unfold D_X7_init m_den
  rw [e0, X7_body A]
  rfl
theorem X7_new (A : GM) (L : List Value) : e_new 7 [.null, .null, .null, .null, .int 0, .null, .null, .int 0, .int 0, .int 0, .null, .null, .int 0, .int 0, .int 0, .int 0, .int 0, .null, .null, .null, .null] D_X7_init L A = some (A.length, mm7 A sg7) := by
  unfold e_new
  rw [X7_init A]
  simp
