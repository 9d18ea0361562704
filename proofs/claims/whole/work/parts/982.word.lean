/-! words: the class -/
def wEq (T : Nat → Nat) (s e k : Nat) (ws : List Nat) : Bool := decide (k = 1 ∧ e = s + ws.length ∧ ∀ i, i < ws.length → T (s + i) = ws.getD i 0)
/-- the class's tape with a token at hand -/
def TKX (g : FN) (s e k : Nat) : Prop := g 78 3 = nI k ∧ g 78 4 = nI s ∧ g 78 5 = nI e
def isWd (id : Nat) (ws : List Nat) : Prop := str_len id = some (nI ws.length) ∧ ws.length ≤ 100 ∧ (∀ i, i < ws.length → str_chr id (nI i) = some (nI (ws.getD i 0))) ∧ ∀ i, i < ws.length → ws.getD i 0 < 256
theorem X4_isWord (f : FN) {T : Nat → Nat} {t s e k id : Nat} {ws : List Nat} (hT : TPX f T t) (hk : TKX f s e k) (hb : s ≤ e ∧ e ≤ t ∧ k ≤ 4) (hw : isWd id ws) : D_X4_isWord [.ref 78, .ref id] (memOf f) = some (.int (b2i (wEq T s e k ws)), memOf f) := by
  obtain ⟨t1, t2, t3⟩ := hT
  obtain ⟨k1, k2, k3⟩ := hk
  obtain ⟨w1, w2, w3, w4⟩ := hw
  have q1 : (nI k = (1 : Int32)) = (k = 1) := propext (nI_inj (a := k) (b := 1) (by omega) (by omega))
  have es : nI e - nI s = nI (e - s) := nI_s hb.1
  have q2 : (nI (e - s) = nI ws.length) = (e - s = ws.length) := propext (nI_inj (by omega) (by omega))
  by_cases c1 : k = 1
  · have c1' := eq_true c1
    by_cases c2 : e - s = ws.length
    · have c2' := eq_true c2
      have cb : ∀ i, i < ws.length → WB_X4_isWord_1 [.ref 78, .ref id, .int (nI i)] (memOf f) = some (true, memOf f) := fun i hi => by
        have e' : nI i < nI ws.length := (nI_lt_iff (by omega) (by omega)).mpr hi
        simp [WB_X4_isWord_1, m_den, l0, Value.category, s_seq, s_if, s_st, s_ret, s_retz, s_retv, s_skip, s_sc, s_inc, s_call, e_c, e_li, e_lr, e_lj, e_un, e_bin, e_if, e_b, b_not, b_and, b_or, b_of, e_call, a_recv, a_snoc, a_nil, prI, prJ, prR, e_gi, e_gr, e_ai, e_ar, s_as, s_aop, s_pf, s_pfz, s_fop, l_set, l_ok, e_div, e_rem, e_len, s_tab, e_slen, w1, e']
      have rr : ∀ i, i < ws.length → gm_rd (memOf f) 79 (nI s + nI i) = some (nI (T (s + i))) := fun i hi => by
        rw [nI_a, rd_79 f (show s + i < 120 by omega), (t3 _ (by omega)).1]
      rcases first_ex (fun i => ws.length ≤ i ∨ ¬ T (s + i) = ws.getD i 0) ws.length with ⟨K, hK, hZ, hlt⟩ | hno
      · have hlt' : ∀ i, i < K → i < ws.length ∧ T (s + i) = ws.getD i 0 := fun i hi => by
          have := hlt i hi
          exact ⟨Nat.lt_of_not_le (fun q => this (Or.inl q)), Classical.byContradiction (fun q => this (Or.inr q))⟩
        have cs : ∀ i, i < ws.length → T (s + i) = ws.getD i 0 → WS_X4_isWord_1 [.ref 78, .ref id, .int (nI i)] (memOf f) = some (.inl ([.ref 78, .ref id, .int (nI (i + 1))], memOf f)) := fun i hi he => by
          have r := rr i hi
          rw [he] at r
          simp only [WS_X4_isWord_1, s_seq, s_if, e_bin, e_ai, e_gr, e_lr, e_gi, e_li, e_char, List.getElem?_cons_zero, List.getElem?_cons_succ, Option.bind_some, g_78_0, g_78_4, k2, r, w3 i hi]
          simp [s_skip, s_inc, l_set, l_ok, Value.category, nI_next]
        by_cases c : K = ws.length
        · have we : wEq T s e k ws = true := decide_eq_true ⟨c1, by omega, fun i hi => (hlt' i (by omega)).2⟩
          have key := while_count (b := WB_X4_isWord_1) (s := WS_X4_isWord_1) (fun i => ([.ref 78, .ref id, .int (nI i)], memOf f)) ws.length (by unfold FU; omega) (fun i hi => cb i hi) (fun i hi => cs i hi (hlt' i (by omega)).2) (by
            have e' : ¬ nI ws.length < nI ws.length := Int32.lt_irrefl
            simp [WB_X4_isWord_1, m_den, l0, Value.category, s_seq, s_if, s_st, s_ret, s_retz, s_retv, s_skip, s_sc, s_inc, s_call, e_c, e_li, e_lr, e_lj, e_un, e_bin, e_if, e_b, b_not, b_and, b_or, b_of, e_call, a_recv, a_snoc, a_nil, prI, prJ, prR, e_gi, e_gr, e_ai, e_ar, s_as, s_aop, s_pf, s_pfz, s_fop, l_set, l_ok, e_div, e_rem, e_len, s_tab, e_slen, w1, e'])
          have W : W_X4_isWord_1 [.ref 78, .ref id, .int 0] (memOf f) = some (.inl ([.ref 78, .ref id, .int (nI ws.length)], memOf f)) := key
          rw [we]
          simp [D_X4_isWord, S_X4_isWord, m_den, l0, Value.category, s_seq, s_if, s_st, s_ret, s_retz, s_retv, s_skip, s_sc, s_inc, s_call, e_c, e_li, e_lr, e_lj, e_un, e_bin, e_if, e_b, b_not, b_and, b_or, b_of, e_call, a_recv, a_snoc, a_nil, prI, prJ, prR, e_gi, e_gr, e_ai, e_ar, s_as, s_aop, s_pf, s_pfz, s_fop, l_set, l_ok, e_div, e_rem, e_len, s_tab, g_78_3, g_78_4, g_78_5, k1, k2, k3, q1, c1', es, e_slen, w1, q2, c2', W, b2i]
        · have hne := hZ.resolve_left (by omega)
          have we : wEq T s e k ws = false := decide_eq_false (fun q => hne (q.2.2 K (by omega)))
          have key := while_found (b := WB_X4_isWord_1) (s := WS_X4_isWord_1) (fun i => ([.ref 78, .ref id, .int (nI i)], memOf f)) K (.int 0, memOf f) (by unfold FU; omega) (fun i hi => cb i (by omega)) (fun i hi => cs i (by omega) (hlt' i hi).2) (by
            have r := rr K (by omega)
            have tK : T (s + K) < 256 := (t3 _ (by omega)).2
            have wK := w4 K (by omega)
            have ne : ¬ nI (T (s + K)) = nI (ws.getD K 0) := fun q => hne ((nI_inj (by omega) (by omega)).mp q)
            simp only [WS_X4_isWord_1, s_seq, s_if, e_bin, e_ai, e_gr, e_lr, e_gi, e_li, e_char, List.getElem?_cons_zero, List.getElem?_cons_succ, Option.bind_some, g_78_0, g_78_4, k2, r, w3 K (by omega)]
            rw [decide_eq_true ne]
            simp [s_retz, e_c])
          have W : W_X4_isWord_1 [.ref 78, .ref id, .int 0] (memOf f) = some (.inr (.int 0, memOf f)) := key
          rw [we]
          simp [D_X4_isWord, S_X4_isWord, m_den, l0, Value.category, s_seq, s_if, s_st, s_ret, s_retz, s_retv, s_skip, s_sc, s_inc, s_call, e_c, e_li, e_lr, e_lj, e_un, e_bin, e_if, e_b, b_not, b_and, b_or, b_of, e_call, a_recv, a_snoc, a_nil, prI, prJ, prR, e_gi, e_gr, e_ai, e_ar, s_as, s_aop, s_pf, s_pfz, s_fop, l_set, l_ok, e_div, e_rem, e_len, s_tab, g_78_3, g_78_4, g_78_5, k1, k2, k3, q1, c1', es, e_slen, w1, q2, c2', W, b2i]
      · exact absurd (Or.inl (Nat.le_refl _)) (hno ws.length (Nat.le_refl _))
    · have we : wEq T s e k ws = false := decide_eq_false (fun q => c2 (by omega))
      rw [we]
      simp [D_X4_isWord, S_X4_isWord, m_den, l0, Value.category, s_seq, s_if, s_st, s_ret, s_retz, s_retv, s_skip, s_sc, s_inc, s_call, e_c, e_li, e_lr, e_lj, e_un, e_bin, e_if, e_b, b_not, b_and, b_or, b_of, e_call, a_recv, a_snoc, a_nil, prI, prJ, prR, e_gi, e_gr, e_ai, e_ar, s_as, s_aop, s_pf, s_pfz, s_fop, l_set, l_ok, e_div, e_rem, e_len, s_tab, g_78_3, g_78_4, g_78_5, k1, k2, k3, q1, c1', es, e_slen, w1, q2, c2, b2i]
  · have we : wEq T s e k ws = false := decide_eq_false (fun q => c1 q.1)
    rw [we]
    simp [D_X4_isWord, S_X4_isWord, m_den, l0, Value.category, s_seq, s_if, s_st, s_ret, s_retz, s_retv, s_skip, s_sc, s_inc, s_call, e_c, e_li, e_lr, e_lj, e_un, e_bin, e_if, e_b, b_not, b_and, b_or, b_of, e_call, a_recv, a_snoc, a_nil, prI, prJ, prR, e_gi, e_gr, e_ai, e_ar, s_as, s_aop, s_pf, s_pfz, s_fop, l_set, l_ok, e_div, e_rem, e_len, s_tab, g_78_3, k1, q1, c1, b2i]
/-! words: the reference's numbers of them -/
def cd (d : Nat → Nat) : Nat → Nat
  | 0 => 0
  | n + 1 => if 36028797018963967 < cd d n then cd d n else 32 * cd d n + d n
def cdO : List Nat → Nat → Nat
  | _, 0 => 0
  | ws, n + 1 => 32 * cdO ws n + ws.getD n 0
theorem cd_big (d : Nat → Nat) {n : Nat} (h : 36028797018963967 < cd d n) : ∀ m, 36028797018963967 < cd d (n + m) := by
  intro m
  induction m with
  | zero => exact h
  | succ m ih => show 36028797018963967 < cd d ((n + m) + 1); unfold cd; rw [if_pos ih]; exact ih
theorem cd_pos {d : Nat → Nat} {n : Nat} (hd : ∀ i, i < n + 1 → 1 ≤ d i) : 1 ≤ cd d (n + 1) := by
  unfold cd
  split
  · omega
  · have := hd n (by omega); omega
theorem cd_lt {d : Nat → Nat} {n : Nat} (hd : ∀ i, i < n → d i ≤ 26) : cd d n < 2 ^ 61 := by
  induction n with
  | zero => unfold cd; omega
  | succ n ih =>
    have a := ih (fun i hi => hd i (by omega))
    have b := hd n (by omega)
    unfold cd
    split
    · exact a
    · omega
theorem cd_eq {d : Nat → Nat} {ws : List Nat} : ∀ (l n : Nat), (∀ i, i < n → 1 ≤ d i ∧ d i ≤ 26) → (∀ i, i < l → 1 ≤ ws.getD i 0 ∧ ws.getD i 0 ≤ 26) → cdO ws l ≤ 36028797018963967 → (cd d n = cdO ws l ↔ n = l ∧ ∀ i, i < l → d i = ws.getD i 0) := by
  intro l
  induction l with
  | zero =>
    intro n hd hw hc
    cases n with
    | zero => exact ⟨fun _ => ⟨rfl, fun i hi => absurd hi (by omega)⟩, fun _ => rfl⟩
    | succ n =>
      have := cd_pos (n := n) (fun i hi => (hd i hi).1)
      exact ⟨fun q => by rw [show cdO ws 0 = 0 from rfl] at q; omega, fun q => absurd q.1 (by omega)⟩
  | succ l ih =>
    intro n hd hw hc
    have hwl := hw l (by omega)
    have hcl : cdO ws (l + 1) = 32 * cdO ws l + ws.getD l 0 := rfl
    cases n with
    | zero =>
      refine ⟨fun q => ?_, fun q => absurd q.1 (by omega)⟩
      rw [show cd d 0 = 0 from rfl] at q
      omega
    | succ n =>
      have hdn := hd n (by omega)
      have I := ih n (fun i hi => hd i (by omega)) (fun i hi => hw i (by omega)) (by omega)
      by_cases cb : 36028797018963967 < cd d n
      · have e1 : cd d (n + 1) = cd d n := by show (if 36028797018963967 < cd d n then cd d n else 32 * cd d n + d n) = _; rw [if_pos cb]
        rw [e1]
        refine ⟨fun q => by omega, fun q => ?_⟩
        have := I.mpr ⟨by omega, fun i hi => q.2 i (by omega)⟩
        omega
      · have e1 : cd d (n + 1) = 32 * cd d n + d n := by show (if 36028797018963967 < cd d n then cd d n else 32 * cd d n + d n) = _; rw [if_neg cb]
        rw [e1, hcl]
        constructor
        · intro q
          have h1 : cd d n = cdO ws l := by omega
          have h2 : d n = ws.getD l 0 := by omega
          obtain ⟨a, b⟩ := I.mp h1
          subst a
          refine ⟨rfl, fun i hi => ?_⟩
          by_cases ci : i = n
          · subst ci; exact h2
          · exact b i (by omega)
        · rintro ⟨a, b⟩
          have a' : n = l := by omega
          subst a'
          have h1 := I.mpr ⟨rfl, fun i hi => b i (by omega)⟩
          have h2 := b n (by omega)
          omega
