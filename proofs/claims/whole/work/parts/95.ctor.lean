/-! THE CONSTRUCTORS: new cells at the end of any memory -/
def rp (x : Int32) (n : Nat) : List Value := List.replicate n (.int x)
theorem rp_len (x : Int32) (n : Nat) : (rp x n).length = n := by unfold rp; simp
theorem pf_hd (A : GM) (c : Nat × List Value) (l : GM) (ci k : Nat) (v : Value) : gm_pf (A ++ c :: l) A.length ci k v = if c.1 = ci ∧ k < c.2.length then some (A ++ (ci, c.2.set k v) :: l) else none := by
  unfold gm_pf
  rw [List.getElem?_append_right (Nat.le_refl _), Nat.sub_self]
  simp [List.set_append_right]
theorem fld_hd (A : GM) (c : Nat × List Value) (l : GM) (ci k : Nat) : gm_fld (A ++ c :: l) A.length ci k = if c.1 = ci then c.2[k]? else none := by
  unfold gm_fld
  rw [List.getElem?_append_right (Nat.le_refl _), Nat.sub_self]
  simp
theorem newi_of {z : Int32} {n : Nat} (hz : z = nI n) (hn : n ≤ 1000) (L : List Value) (M : GM) : e_newi (e_c z) L M = some (M.length, M ++ [(10, rp 0 n)]) := by
  have e : (nI n).toNatClampNeg = n := nI_clamp (by omega)
  have e2 : (0 : Int32) ≤ nI n := nI_pos' (by omega)
  rw [hz]
  simp [e_newi, e_c, e, e2, hn, rp]
theorem newq_of {z : Int32} {n : Nat} (t : Nat) (hz : z = nI n) (hn : n ≤ 1000) (L : List Value) (M : GM) : e_newq t (e_c z) L M = some (M.length, M ++ [(11 + t, List.replicate n .null)]) := by
  have e : (nI n).toNatClampNeg = n := nI_clamp (by omega)
  have e2 : (0 : Int32) ≤ nI n := nI_pos' (by omega)
  rw [hz]
  simp [e_newq, e_c, e, e2, hn]
theorem pff_newi {A l : GM} {c : Nat × List Value} {L : List Value} {ci k n : Nat} {z : Int32} (hL : L[0]? = some (.ref A.length)) (hz : z = nI n) (hn : n ≤ 1000) (hc : c.1 = ci ∧ k < c.2.length) : s_pff ci k (e_lr 0) (e_newi (e_c z)) L (A ++ c :: l) = some (.inl (L, A ++ (ci, c.2.set k (.ref (A.length + (l.length + 1)))) :: (l ++ [(10, rp 0 n)]))) := by
  unfold s_pff s_pf
  simp only [e_lr, hL, Option.bind_some, newi_of hz hn]
  rw [List.append_assoc, List.cons_append, pf_hd, if_pos hc]
  simp
theorem pf_int {A l : GM} {c : Nat × List Value} {L : List Value} {ci k : Nat} {x : Int32} (hL : L[0]? = some (.ref A.length)) (hc : c.1 = ci ∧ k < c.2.length) : s_pf Value.int ci k (e_lr 0) (e_c x) L (A ++ c :: l) = some (.inl (L, A ++ (ci, c.2.set k (.int x)) :: l)) := by
  unfold s_pf
  simp only [e_lr, hL, Option.bind_some, e_c]
  rw [pf_hd, if_pos hc]
  rfl
theorem pfz_int {A l : GM} {c : Nat × List Value} {L : List Value} {ci k : Nat} (hL : L[0]? = some (.ref A.length)) (hc : c.1 = ci ∧ k < c.2.length) : s_pfz ci k (e_lr 0) (e_c (0 : Int32)) L (A ++ c :: l) = some (.inl (L, A ++ (ci, c.2.set k (.int 0)) :: l)) := by
  unfold s_pfz
  simp only [e_lr, hL, Option.bind_some, e_c]
  rw [pf_hd, if_pos hc]
  rfl
theorem seq_l {a b : SD} {L L2 : List Value} {M M2 : GM} (h : a L M = some (.inl (L2, M2))) : s_seq a b L M = b L2 M2 := by simp [s_seq, h]
theorem obj_l {L : List Value} {M : GM} {r : Nat} (h : L[0]? = some (.ref r)) : s_obj (e_lr 0) L M = some (.inl (L, M)) := by simp [s_obj, e_lr, h]
def chC (n : Nat) : GM := [(0, [.ref (n + 1), .ref (n + 2), .ref (n + 3), .int 0, .int 0, .int 0]), (10, rp 0 7), (10, rp 0 36), (10, rp 0 36)]
theorem X0_init (A : GM) : D_X0_init [.ref A.length] (A ++ [(0, [.null, .null, .null, .int 0, .int 0, .int 0])]) = some (.null, A ++ chC A.length) := by
  have e : S_X0_init [.ref A.length] (A ++ [(0, [.null, .null, .null, .int 0, .int 0, .int 0])]) = some (.inr (.null, A ++ chC A.length)) := by
    unfold S_X0_init
    refine (seq_l (obj_l (by rfl))).trans ?_
    refine (seq_l (pff_newi (n := 7) (by rfl) (by rfl) (by omega) (by simp))).trans ?_
    refine (seq_l (pff_newi (n := 36) (by rfl) (by rfl) (by omega) (by simp))).trans ?_
    refine (seq_l (pff_newi (n := 36) (by rfl) (by rfl) (by omega) (by simp))).trans ?_
    refine (seq_l (pf_int (by rfl) (by simp))).trans ?_
    refine (seq_l (pf_int (by rfl) (by simp))).trans ?_
    refine (seq_l (pf_int (by rfl) (by simp))).trans ?_
    simp [s_retv, chC]
  have e0 : l0 [.ref A.length] = [.ref A.length] := rfl
  unfold D_X0_init m_den
  rw [e0, e]
  rfl
def shC (n : Nat) : GM := [(2, [.int 0, .int 0, .ref (n + 1)]), (10, rp 0 40)]
def taC (n : Nat) : GM := [(3, [.int 0, .ref (n + 1), .ref (n + 2), .ref (n + 3)]), (10, rp 0 6), (10, rp 0 6), (10, rp 0 6)]
def tpC (n : Nat) : GM := [(4, [.ref (n + 1), .int 0, .int (-1), .int 0, .int 0, .int 0]), (10, rp 0 120)]
def rdC (n : Nat) : GM := (1, [.ref (n + 1), .int 0, .int 0]) :: tpC (n + 1)
theorem X2_init (A : GM) : D_X2_init [.ref A.length] (A ++ [(2, [.int 0, .int 0, .null])]) = some (.null, A ++ shC A.length) := by
  have e : S_X2_init [.ref A.length] (A ++ [(2, [.int 0, .int 0, .null])]) = some (.inr (.null, A ++ shC A.length)) := by
    unfold S_X2_init
    refine (seq_l (obj_l (by rfl))).trans ?_
    refine (seq_l (pf_int (by rfl) (by simp))).trans ?_
    refine (seq_l (pf_int (by rfl) (by simp))).trans ?_
    refine (seq_l (pff_newi (n := 40) (by rfl) (by rfl) (by omega) (by simp))).trans ?_
    simp [s_retv, shC]
  have e0 : l0 [.ref A.length] = [.ref A.length] := rfl
  unfold D_X2_init m_den
  rw [e0, e]
  rfl
theorem X3_init (A : GM) : D_X3_init [.ref A.length] (A ++ [(3, [.int 0, .null, .null, .null])]) = some (.null, A ++ taC A.length) := by
  have e : S_X3_init [.ref A.length] (A ++ [(3, [.int 0, .null, .null, .null])]) = some (.inr (.null, A ++ taC A.length)) := by
    unfold S_X3_init
    refine (seq_l (obj_l (by rfl))).trans ?_
    refine (seq_l (pf_int (by rfl) (by simp))).trans ?_
    refine (seq_l (pff_newi (n := 6) (by rfl) (by rfl) (by omega) (by simp))).trans ?_
    refine (seq_l (pff_newi (n := 6) (by rfl) (by rfl) (by omega) (by simp))).trans ?_
    refine (seq_l (pff_newi (n := 6) (by rfl) (by rfl) (by omega) (by simp))).trans ?_
    simp [s_retv, taC]
  have e0 : l0 [.ref A.length] = [.ref A.length] := rfl
  unfold D_X3_init m_den
  rw [e0, e]
  rfl
theorem X4_init (A : GM) : D_X4_init [.ref A.length] (A ++ [(4, [.null, .int 0, .int 0, .int 0, .int 0, .int 0])]) = some (.null, A ++ tpC A.length) := by
  have e : S_X4_init [.ref A.length] (A ++ [(4, [.null, .int 0, .int 0, .int 0, .int 0, .int 0])]) = some (.inr (.null, A ++ tpC A.length)) := by
    unfold S_X4_init
    refine (seq_l (obj_l (by rfl))).trans ?_
    refine (seq_l (pff_newi (n := 120) (by rfl) (by rfl) (by omega) (by simp))).trans ?_
    refine (seq_l (pf_int (by rfl) (by simp))).trans ?_
    refine (seq_l (pf_int (by rfl) (by simp))).trans ?_
    refine (seq_l (pf_int (by rfl) (by simp))).trans ?_
    refine (seq_l (pf_int (by rfl) (by simp))).trans ?_
    refine (seq_l (pf_int (by rfl) (by simp))).trans ?_
    simp [s_retv, tpC]
  have e0 : l0 [.ref A.length] = [.ref A.length] := rfl
  unfold D_X4_init m_den
  rw [e0, e]
  rfl
theorem pff_new {A l : GM} {c : Nat × List Value} {L : List Value} {ci k cj : Nat} {fs : List Value} {D : MDen} {N : Nat → GM} (hD : ∀ B : GM, D [.ref B.length] (B ++ [(cj, fs)]) = some (.null, B ++ N B.length)) (hL : L[0]? = some (.ref A.length)) (hc : c.1 = ci ∧ k < c.2.length) : s_pff ci k (e_lr 0) (e_new cj fs D) L (A ++ c :: l) = some (.inl (L, A ++ (ci, c.2.set k (.ref (A.length + (l.length + 1)))) :: (l ++ N (A.length + (l.length + 1))))) := by
  unfold s_pff s_pf
  simp only [e_lr, hL, Option.bind_some, e_new, hD]
  simp only [if_true, Option.bind_some]
  have e : (A ++ c :: l).length = A.length + (l.length + 1) := by simp
  rw [e, List.append_assoc, List.cons_append, pf_hd, if_pos hc]
  rfl
theorem X1_init (A : GM) : D_X1_init [.ref A.length] (A ++ [(1, [.null, .int 0, .int 0])]) = some (.null, A ++ rdC A.length) := by
  have e : S_X1_init [.ref A.length] (A ++ [(1, [.null, .int 0, .int 0])]) = some (.inr (.null, A ++ rdC A.length)) := by
    unfold S_X1_init
    refine (seq_l (obj_l (by rfl))).trans ?_
    refine (seq_l (pff_new X4_init (by rfl) (by simp))).trans ?_
    refine (seq_l (pfz_int (by rfl) (by simp))).trans ?_
    refine (seq_l (pf_int (by rfl) (by simp))).trans ?_
    simp [s_retv, rdC]
  have e0 : l0 [.ref A.length] = [.ref A.length] := rfl
  unfold D_X1_init m_den
  rw [e0, e]
  rfl
