/-! the reference: words told, needs, number -/
theorem j64_toInt {n : Nat} (h : n < 2 ^ 63) : (Int64.ofNat n).toInt = n := Int64.toInt_ofNat_of_lt h
theorem j64_lt {a b : Nat} (ha : a < 2 ^ 63) (hb : b < 2 ^ 63) : Int64.ofNat a < Int64.ofNat b ↔ a < b := by
  rw [Int64.lt_iff_toInt_lt, j64_toInt ha, j64_toInt hb]; omega
theorem j64_inj {a b : Nat} (ha : a < 2 ^ 63) (hb : b < 2 ^ 63) : Int64.ofNat a = Int64.ofNat b ↔ a = b := by
  rw [← Int64.toInt_inj, j64_toInt ha, j64_toInt hb]; omega
theorem j64_nI {x : Nat} (h : x < 2 ^ 31) : (nI x).toInt64 = Int64.ofNat x := by
  apply Int64.toInt_inj.mp
  rw [Int32.toInt_toInt64, nI_toInt h, j64_toInt (by omega)]
theorem vJ_cd {T : Nat → Nat} {s : Nat} : ∀ n, (∀ i, i < n → 97 ≤ T (s + i) ∧ T (s + i) ≤ 122) → vJ T s n = Int64.ofNat (cd (fun i => T (s + i) - 96) n) := by
  intro n
  induction n with
  | zero => intro _; rfl
  | succ n ih =>
    intro h
    have a := ih (fun i hi => h i (by omega))
    have hn := h n (by omega)
    have hl : cd (fun i => T (s + i) - 96) n < 2 ^ 61 := cd_lt (fun i hi => by have := h i (by omega); omega)
    have e1 : nI (T (s + n)) - 96 = nI (T (s + n) - 96) := nI_s (a := T (s + n)) (b := 96) (by omega)
    have e2 : (nI (T (s + n)) - 96).toInt64 = Int64.ofNat (T (s + n) - 96) := by rw [e1]; exact j64_nI (by omega)
    have e3 : (32 : Int64) * Int64.ofNat (cd (fun i => T (s + i) - 96) n) + Int64.ofNat (T (s + n) - 96) = Int64.ofNat (32 * cd (fun i => T (s + i) - 96) n + (T (s + n) - 96)) := by
      rw [show (32 : Int64) = Int64.ofNat 32 from rfl, ← Int64.ofNat_mul, ← Int64.ofNat_add]
    show (if 36028797018963967 < vJ T s n then vJ T s n else 32 * vJ T s n + (nI (T (s + n)) - 96).toInt64) = Int64.ofNat (if 36028797018963967 < cd (fun i => T (s + i) - 96) n then cd (fun i => T (s + i) - 96) n else 32 * cd (fun i => T (s + i) - 96) n + (T (s + n) - 96))
    rw [a, e2, e3]
    have q : (36028797018963967 : Int64) < Int64.ofNat (cd (fun i => T (s + i) - 96) n) ↔ 36028797018963967 < cd (fun i => T (s + i) - 96) n := j64_lt (a := 36028797018963967) (by omega) (by omega)
    by_cases c : 36028797018963967 < cd (fun i => T (s + i) - 96) n
    · rw [if_pos (q.mpr c), if_pos c]
    · rw [if_neg (fun z => c (q.mp z)), if_neg c]
/-- what word() tells of a token when nothing is wrong -/
def woJ (T : Nat → Nat) (t s e : Nat) : Int64 := if !(letB T t s 1) then 0 else vJ T s (e - s)
theorem wordIs {T : Nat → Nat} {t p s e k : Nat} {ws : List Nat} {C : Int64} (hk : TOK T t p s e k) (ht : t ≤ 120) (hw : ∀ i, i < ws.length → 97 ≤ ws.getD i 0 ∧ ws.getD i 0 ≤ 122) (hC : C = Int64.ofNat (cdO (ws.map (fun x => x - 96)) ws.length)) (hC2 : 1 ≤ cdO (ws.map (fun x => x - 96)) ws.length ∧ cdO (ws.map (fun x => x - 96)) ws.length ≤ 36028797018963967) : (woJ T t s e = C) ↔ wEq T s e k ws = true := by
  have gm : ∀ i, i < ws.length → (ws.map (fun x => x - 96)).getD i 0 = ws.getD i 0 - 96 := fun i hi => by
    simp [List.getD_eq_getElem?_getD, List.getElem?_map, List.getElem?_eq_getElem hi]
  obtain ⟨⟨k1, k2⟩, k3, k4, k5⟩ := hk
  unfold woJ wEq
  rw [decide_eq_true_iff]
  by_cases c : letB T t s 1 = true
  · have cl := of_decide_eq_true c
    rcases k5 with ⟨d1, d2, d3⟩ | ⟨d1, d2, d3, d4, d5, d6⟩
    · omega
    · have k1' : k = 1 := by rw [d2]; exact cl.2
      have hl := d6 (Or.inl k1')
      have hlet : ∀ i, i < e - s → 97 ≤ T (s + i) ∧ T (s + i) ≤ 122 := fun i hi => by
        by_cases c0 : i = 0
        · subst c0; exact (srt_1 _).mp cl.2
        · exact (srt_1 _).mp (by rw [hl.1 (s + i) (by omega) (by omega)]; exact k1')
      rw [c]
      simp only [Bool.not_true, Bool.false_eq_true, if_false]
      have lt61 : cd (fun i => T (s + i) - 96) (e - s) < 2 ^ 61 := cd_lt (fun i hi => by have := hlet i hi; omega)
      rw [vJ_cd (e - s) hlet, hC, j64_inj (by omega) (by omega), cd_eq ws.length (e - s) (fun i hi => by have := hlet i hi; omega) (fun i hi => by rw [gm i hi]; have := hw i hi; omega) hC2.2]
      constructor
      · rintro ⟨a, b⟩
        refine ⟨k1', by omega, fun i hi => ?_⟩
        have h1 := b i hi
        rw [gm i hi] at h1
        have h2 := hlet i (by omega)
        have h3 := hw i hi
        omega
      · rintro ⟨-, a, b⟩
        refine ⟨by omega, fun i hi => ?_⟩
        rw [gm i hi, b i hi]
  · have c' : letB T t s 1 = false := by cases h : letB T t s 1 <;> simp_all
    rw [c']
    simp only [Bool.not_false, if_true]
    constructor
    · intro q
      rw [hC, show (0 : Int64) = Int64.ofNat 0 from rfl, j64_inj (by omega) (by omega)] at q
      omega
    · rintro ⟨a, b, d⟩
      rcases k5 with ⟨d1, d2, d3⟩ | ⟨d1, d2, d3, d4, d5, d6⟩
      · omega
      · exact absurd (decide_eq_true ⟨d1, by rw [← d2]; exact a⟩) c
theorem X7_needs_wr (f : FN) (b : Bool) (hw : f 103 16 = 1) : ∃ g, D_X7_needs [.ref 103, .int (b2i b)] (memOf f) = some (.null, memOf g) ∧ (∀ x, x ≠ 103 → g x = f x) ∧ ∀ y, g 103 y = f 103 y := by
  refine ⟨row f 103 (upd (f 103) 16 1), ?_, fun x hx => row_ne _ _ hx, fun y => ?_⟩
  · cases b <;> simp [D_X7_needs, S_X7_needs, m_den, l0, Value.category, s_seq, s_if, s_st, s_ret, s_retz, s_retv, s_skip, s_sc, s_inc, s_call, e_c, e_li, e_lr, e_lj, e_un, e_bin, e_if, e_b, b_not, b_and, b_or, b_of, e_call, a_recv, a_snoc, a_nil, prI, prJ, prR, e_gi, e_gr, e_ai, e_ar, s_as, s_aop, s_pf, s_pfz, s_fop, l_set, l_ok, e_div, e_rem, e_len, s_tab, g_103_16, hw, b2i, p_103_16, row_self, upd_self]
  · rw [row_self]
    unfold upd
    by_cases c : y = 16
    · rw [if_pos c, c, hw]
    · rw [if_neg c]
theorem X7_needs_no (f : FN) (hw : f 103 16 = 0) : ∃ g, D_X7_needs [.ref 103, .int 0] (memOf f) = some (.null, memOf g) ∧ (∀ x, x ≠ 103 → g x = f x) ∧ (∀ y, y ≠ 16 → g 103 y = f 103 y) ∧ g 103 16 = 1 := by
  refine ⟨row f 103 (upd (f 103) 16 1), ?_, fun x hx => row_ne _ _ hx, fun y hy => by rw [row_self, upd_ne _ _ hy], by rw [row_self, upd_self]⟩
  simp [D_X7_needs, S_X7_needs, m_den, l0, Value.category, s_seq, s_if, s_st, s_ret, s_retz, s_retv, s_skip, s_sc, s_inc, s_call, e_c, e_li, e_lr, e_lj, e_un, e_bin, e_if, e_b, b_not, b_and, b_or, b_of, e_call, a_recv, a_snoc, a_nil, prI, prJ, prR, e_gi, e_gr, e_ai, e_ar, s_as, s_aop, s_pf, s_pfz, s_fop, l_set, l_ok, e_div, e_rem, e_len, s_tab, g_103_16, hw, p_103_16, row_self, upd_self]
theorem X7_needs_ok (f : FN) {T : Nat → Nat} {t p s e k : Nat} (hT : TPR f T t) (hp : f 103 14 = nI p) (hk : TOK T t p s e k) (hw : f 103 16 = 0) : ∃ g, D_X7_needs [.ref 103, .int 1] (memOf f) = some (.null, memOf g) ∧ (∀ x, x ≠ 103 → g x = f x) ∧ (∀ y, y ≠ 13 → y ≠ 14 → g 103 y = f 103 y) ∧ g 103 13 = nI s ∧ g 103 14 = nI e := by
  have e0 : row f 103 (upd (f 103) 16 0) = f := by
    funext x y
    unfold row upd
    by_cases c : x = 103
    · subst c
      rw [if_pos rfl]
      by_cases c2 : y = 16
      · rw [if_pos c2, c2, hw]
      · rw [if_neg c2]
    · rw [if_neg c]
  obtain ⟨g, A1, A2, A3, A4, A5⟩ := X7_token f hT hp hk
  refine ⟨g, ?_, A2, A3, A4, A5⟩
  have w := p_103_16 f 0
  rw [e0] at w
  simp [D_X7_needs, S_X7_needs, m_den, l0, Value.category, s_seq, s_if, s_st, s_ret, s_retz, s_retv, s_skip, s_sc, s_inc, s_call, e_c, e_li, e_lr, e_lj, e_un, e_bin, e_if, e_b, b_not, b_and, b_or, b_of, e_call, a_recv, a_snoc, a_nil, prI, prJ, prR, e_gi, e_gr, e_ai, e_ar, s_as, s_aop, s_pf, s_pfz, s_fop, l_set, l_ok, e_div, e_rem, e_len, s_tab, g_103_16, hw, w, rc_103, A1]
