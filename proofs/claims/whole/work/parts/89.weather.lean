/-! winds on both sides; weather, load -/
theorem REL.winds {f g : FN} {W : Nat → Int32} (h : REL f) (e : ∀ x, x ≠ 1 → x ≠ 3 → x ≠ 104 → g x = f x) (e1 : g 1 0 = f 1 0 ∧ g 1 2 = f 1 2) (ez : g 104 2 = g 1 1) (e3 : ∀ c, c < 24 → g 3 c = W c) (e4 : ∀ c, c < 24 → g 104 (39 + c) = W c) (e5 : ∀ y, y ≠ 2 → ¬ (39 ≤ y ∧ y < 63) → g 104 y = f 104 y) (hW : ∀ c, c < 24 → ∃ w, w < 5 ∧ W c = nI w) : REL g := by
  obtain ⟨⟨m, hT, hV⟩, -⟩ := id h
  obtain ⟨⟨a1, a2, a3, a4, a5⟩, t2, t3, t4, t5, t6, t7⟩ := hT
  have hch : ∀ k, k < m → ∀ j, chId 1 k ≤ j → j ≤ chId 1 k + 3 → g j = f j := fun k hk j h1 h2 => e j (by unfold chId at h1; omega) (by unfold chId at h1; omega) (by unfold chId at h2; omega)
  refine h.town (m := m) (fun j hj => e j (by omega) (by omega) (by omega)) ⟨by rw [e 103 (by omega) (by omega) (by omega)], by rw [e 103 (by omega) (by omega) (by omega)]⟩ ⟨⟨?_, ?_, ez, ?_, a5⟩, fun c hc => ?_, fun c hc => ?_, fun o ho => ?_, fun s hs => ?_, fun k hk => ?_, fun k h1 h2 => (t7 k h1 h2).sig (fun i hi => e5 i (by omega) (by omega))⟩ (hV.sig a5 (fun i hi => e5 i (by omega) (by omega)) (fun c hc => ?_) (fun c hc => ?_) (fun s hs => ?_) (fun k hk j hj => ?_))
  · rw [e5 0 (by omega) (by omega), e1.1]; exact a1
  · rw [e5 1 (by omega) (by omega), e1.2]; exact a2
  · rw [e1.2]; exact a4
  · rw [e5 _ (by omega) (by omega), e 2 (by omega) (by omega) (by omega)]; exact t2 c hc
  · rw [e4 c hc, e3 c hc]
  · rw [e5 _ (by omega) (by omega), e 4 (by omega) (by omega) (by omega)]; exact t4 o ho
  · rw [e5 _ (by omega) (by omega), e 5 (by omega) (by omega) (by omega)]; exact t5 s hs
  · exact ((t6 k hk).sig (τ := g 104) (fun i hi => e5 i (by omega) (by omega))).congr (fun j h1 h2 => hch k hk j h1 h2)
  · rw [e5 _ (by omega) (by omega)]; exact hV.2.1 c hc
  · obtain ⟨w, hw, q⟩ := hW c hc
    exact ⟨w, hw, by rw [e4 c hc]; exact q⟩
  · rw [e5 _ (by omega) (by omega)]; exact hV.2.2.2.1 s hs
  · rw [e5 _ (by omega) (by omega)]; exact hV.2.2.2.2 k hk j hj
/-! the draw -/
def lcg (z : Int32) : Int32 := z * 1103515245 + 12345
def drV (z : Int32) : Int32 := (z.toUInt32 >>> ((8 : Int32).toUInt32 &&& Int32.toUInt32 31)).toInt32
theorem dr_ex (z : Int32) : ∃ v, v < 16777216 ∧ drV z = nI v := by
  refine ⟨(z.toUInt32 >>> ((8 : Int32).toUInt32 &&& Int32.toUInt32 31)).toNat, ?_, ?_⟩
  · rw [UInt32.toNat_shiftRight]
    have h8 : ((8 : Int32).toUInt32 &&& Int32.toUInt32 31).toNat % 32 = 8 := by decide
    rw [h8, Nat.shiftRight_eq_div_pow]
    have := z.toUInt32.toNat_lt
    omega
  · unfold drV nI
    apply Int32.toBitVec_inj.mp
    show (z.toUInt32 >>> ((8 : Int32).toUInt32 &&& Int32.toUInt32 31)).toBitVec = BitVec.ofNat 32 (z.toUInt32 >>> ((8 : Int32).toUInt32 &&& Int32.toUInt32 31)).toNat
    apply BitVec.eq_of_toNat_eq
    rw [BitVec.toNat_ofNat]
    exact (Nat.mod_eq_of_lt (UInt32.toNat_lt _)).symm
def hvN (z : Int32) : Nat := (drV z).toNatClampNeg
theorem hv_lt (z : Int32) : hvN z < 16777216 := by
  obtain ⟨v, h1, h2⟩ := dr_ex z
  unfold hvN; rw [h2, nI_clamp (by omega)]; exact h1
theorem hv_eq (z : Int32) : drV z = nI (hvN z) := by
  obtain ⟨v, h1, h2⟩ := dr_ex z
  unfold hvN; rw [h2, nI_clamp (by omega)]
theorem X5_draw (f : FN) : D_X5_draw [.ref 1] (memOf f) = some (.int (nI (hvN (lcg (f 1 1)))), memOf (row f 1 (upd (f 1) 1 (lcg (f 1 1))))) := by
  rw [← hv_eq]
  simp [D_X5_draw, S_X5_draw, m_den, l0, Value.category, s_seq, s_if, s_st, s_ret, s_retz, s_retv, s_skip, s_sc, s_inc, s_call, e_c, e_li, e_lr, e_lj, e_un, e_bin, e_if, e_b, b_not, b_and, b_or, b_of, e_call, a_recv, a_snoc, a_nil, prI, prJ, prR, e_gi, e_gr, e_ai, e_ar, s_as, s_aop, s_pf, s_pfz, s_fop, l_set, l_ok, e_div, e_rem, e_len, s_tab, g_1_1, p_1_1, row_self, upd_self, drV, lcg]
theorem X7_next (f : FN) : D_X7_next [.ref 103] (memOf f) = some (.int (nI (hvN (lcg (f 104 2)))), memOf (row f 104 (upd (f 104) 2 (lcg (f 104 2))))) := by
  rw [← hv_eq]
  simp [D_X7_next, S_X7_next, m_den, l0, Value.category, s_seq, s_if, s_st, s_ret, s_retz, s_retv, s_skip, s_sc, s_inc, s_call, e_c, e_li, e_lr, e_lj, e_un, e_bin, e_if, e_b, b_not, b_and, b_or, b_of, e_call, a_recv, a_snoc, a_nil, prI, prJ, prR, e_gi, e_gr, e_ai, e_ar, s_as, s_aop, s_pf, s_pfz, s_fop, l_set, l_ok, e_div, e_rem, e_len, s_tab, g_103_0, rd_104_2, wr_104_2, row_self, upd_self, drV, lcg]
theorem rem5 {a : Nat} (ha : a < 2 ^ 31) : nI a - nI a / 5 * 5 = nI (a % 5) := nI_r (b := 5) ha (by omega)
def zz (lcg : Int32 → Int32) (z : Int32) : Nat → Int32
  | 0 => z
  | i + 1 => lcg (lcg (zz lcg z i))
def ww (lcg : Int32 → Int32) (hvN : Int32 → Nat) (z : Int32) (W : Nat → Int32) : Nat → Nat → Int32
  | 0 => W
  | i + 1 => fun c => if c = hvN (lcg (zz lcg z i)) % 24 then nI (hvN (lcg (lcg (zz lcg z i))) % 5) else ww lcg hvN z W i c
theorem X6_weather_W1 {lcg : Int32 → Int32} {hvN : Int32 → Nat} (hv_lt : ∀ z, hvN z < 16777216) (X5_draw : ∀ f : FN, D_X5_draw [.ref 1] (memOf f) = some (.int (nI (hvN (lcg (f 1 1)))), memOf (row f 1 (upd (f 1) 1 (lcg (f 1 1)))))) (f : FN) {n : Nat} (hn : n ≤ 24) : ∃ g, W_X6_weather_1 [.ref 0, .int (nI n), .int 0] (memOf f) = some (.inl ([.ref 0, .int (nI n), .int (nI n)], memOf g)) ∧ (∀ x, x ≠ 1 → x ≠ 3 → g x = f x) ∧ g 1 1 = zz lcg (f 1 1) n ∧ (∀ y, y ≠ 1 → g 1 y = f 1 y) ∧ ∀ c, c < 24 → g 3 c = ww lcg hvN (f 1 1) (f 3) n c := by
  have key := while_rel (b := WB_X6_weather_1) (s := WS_X6_weather_1) (fun i => [.ref 0, .int (nI n), .int (nI i)]) (fun i g => (∀ x, x ≠ 1 → x ≠ 3 → g x = f x) ∧ g 1 1 = zz lcg (f 1 1) i ∧ (∀ y, y ≠ 1 → g 1 y = f 1 y) ∧ ∀ c, c < 24 → g 3 c = ww lcg hvN (f 1 1) (f 3) i c) n (by unfold FU; omega) (fun i g hi hI => ?_) (fun i g hi hI => ?_) (fun g hI => ?_) (f := f) ⟨fun _ _ _ => rfl, rfl, fun _ _ => rfl, fun _ _ => rfl⟩
  · exact key
  · have e : nI i < nI n := (nI_lt_iff (by omega) (by omega)).mpr hi
    simp [WB_X6_weather_1, m_den, l0, Value.category, s_seq, s_if, s_st, s_ret, s_retz, s_retv, s_skip, s_sc, s_inc, s_call, e_c, e_li, e_lr, e_lj, e_un, e_bin, e_if, e_b, b_not, b_and, b_or, b_of, e_call, a_recv, a_snoc, a_nil, prI, prJ, prR, e_gi, e_gr, e_ai, e_ar, s_as, s_aop, s_pf, s_pfz, s_fop, l_set, l_ok, e_div, e_rem, e_len, s_tab, e]
  · obtain ⟨I1, I2, I3, I4⟩ := hI
    have d1 := X5_draw g
    rw [I2] at d1
    obtain ⟨g1, h1⟩ : ∃ g1, g1 = row g 1 (upd (g 1) 1 (lcg (zz lcg (f 1 1) i))) := ⟨_, rfl⟩
    rw [← h1] at d1
    have d2 := X5_draw g1
    have e11 : g1 1 1 = lcg (zz lcg (f 1 1) i) := by rw [h1, row_self, upd_self]
    rw [e11] at d2
    obtain ⟨g2, h2⟩ : ∃ g2, g2 = row g1 1 (upd (g1 1) 1 (lcg (lcg (zz lcg (f 1 1) i)))) := ⟨_, rfl⟩
    rw [← h2] at d2
    have r1 := rem24 (a := hvN (lcg (zz lcg (f 1 1) i))) (by have := hv_lt (lcg (zz lcg (f 1 1) i)); omega)
    have r2 := rem5 (a := hvN (lcg (lcg (zz lcg (f 1 1) i)))) (by have := hv_lt (lcg (lcg (zz lcg (f 1 1) i))); omega)
    have hc : hvN (lcg (zz lcg (f 1 1) i)) % 24 < 24 := Nat.mod_lt _ (by omega)
    refine ⟨row g2 3 (upd (g2 3) (hvN (lcg (zz lcg (f 1 1) i)) % 24) (nI (hvN (lcg (lcg (zz lcg (f 1 1) i))) % 5))), ?_, fun x c1 c2 => by rw [row_ne _ _ c2, h2, row_ne _ _ c1, h1, row_ne _ _ c1]; exact I1 x c1 c2, ?_, fun y hy => ?_, fun c hc' => ?_⟩
    · simp [WS_X6_weather_1, m_den, l0, Value.category, s_seq, s_if, s_st, s_ret, s_retz, s_retv, s_skip, s_sc, s_inc, s_call, e_c, e_li, e_lr, e_lj, e_un, e_bin, e_if, e_b, b_not, b_and, b_or, b_of, e_call, a_recv, a_snoc, a_nil, prI, prJ, prR, e_gi, e_gr, e_ai, e_ar, s_as, s_aop, s_pf, s_pfz, s_fop, l_set, l_ok, e_div, e_rem, e_len, s_tab, g_0_0, rc_1, d1, r1, g_1_4, d2, r2, wr_3 g2 hc, nI_next]
    · rw [row_ne _ _ (by omega), h2, row_self, upd_self]; rfl
    · rw [row_ne _ _ (by omega), h2, row_self, upd_ne _ _ hy, h1, row_self, upd_ne _ _ hy]; exact I3 y hy
    · rw [row_self]
      unfold upd
      show _ = if c = hvN (lcg (zz lcg (f 1 1) i)) % 24 then nI (hvN (lcg (lcg (zz lcg (f 1 1) i))) % 5) else ww lcg hvN (f 1 1) (f 3) i c
      by_cases e : c = hvN (lcg (zz lcg (f 1 1) i)) % 24
      · rw [if_pos e, if_pos e]
      · rw [if_neg e, if_neg e, h2, row_ne _ _ (by omega), h1, row_ne _ _ (by omega)]; exact I4 c hc'
  · have e : ¬ nI n < nI n := Int32.lt_irrefl
    simp [WB_X6_weather_1, m_den, l0, Value.category, s_seq, s_if, s_st, s_ret, s_retz, s_retv, s_skip, s_sc, s_inc, s_call, e_c, e_li, e_lr, e_lj, e_un, e_bin, e_if, e_b, b_not, b_and, b_or, b_of, e_call, a_recv, a_snoc, a_nil, prI, prJ, prR, e_gi, e_gr, e_ai, e_ar, s_as, s_aop, s_pf, s_pfz, s_fop, l_set, l_ok, e_div, e_rem, e_len, s_tab, e]
theorem X7_weather_W1 {lcg : Int32 → Int32} {hvN : Int32 → Nat} (hv_lt : ∀ z, hvN z < 16777216) (X7_next : ∀ f : FN, D_X7_next [.ref 103] (memOf f) = some (.int (nI (hvN (lcg (f 104 2)))), memOf (row f 104 (upd (f 104) 2 (lcg (f 104 2)))))) (f : FN) {n : Nat} {z : Int32} {W : Nat → Int32} (hn : n ≤ 24) (hz : f 104 2 = z) (hW : ∀ c, c < 24 → f 104 (39 + c) = W c) : ∃ g, W_X7_weather_1 [.ref 103, .int (nI n), .int 0] (memOf f) = some (.inl ([.ref 103, .int (nI n), .int (nI n)], memOf g)) ∧ (∀ x, x ≠ 104 → g x = f x) ∧ g 104 2 = zz lcg z n ∧ (∀ y, y ≠ 2 → ¬ (39 ≤ y ∧ y < 63) → g 104 y = f 104 y) ∧ ∀ c, c < 24 → g 104 (39 + c) = ww lcg hvN z W n c := by
  have key := while_rel (b := WB_X7_weather_1) (s := WS_X7_weather_1) (fun i => [.ref 103, .int (nI n), .int (nI i)]) (fun i g => (∀ x, x ≠ 104 → g x = f x) ∧ g 104 2 = zz lcg z i ∧ (∀ y, y ≠ 2 → ¬ (39 ≤ y ∧ y < 63) → g 104 y = f 104 y) ∧ ∀ c, c < 24 → g 104 (39 + c) = ww lcg hvN z W i c) n (by unfold FU; omega) (fun i g hi hI => ?_) (fun i g hi hI => ?_) (fun g hI => ?_) (f := f) ⟨fun _ _ => rfl, hz, fun _ _ _ => rfl, hW⟩
  · exact key
  · have e : nI i < nI n := (nI_lt_iff (by omega) (by omega)).mpr hi
    simp [WB_X7_weather_1, m_den, l0, Value.category, s_seq, s_if, s_st, s_ret, s_retz, s_retv, s_skip, s_sc, s_inc, s_call, e_c, e_li, e_lr, e_lj, e_un, e_bin, e_if, e_b, b_not, b_and, b_or, b_of, e_call, a_recv, a_snoc, a_nil, prI, prJ, prR, e_gi, e_gr, e_ai, e_ar, s_as, s_aop, s_pf, s_pfz, s_fop, l_set, l_ok, e_div, e_rem, e_len, s_tab, e]
  · obtain ⟨I1, I2, I3, I4⟩ := hI
    have d1 := X7_next g
    rw [I2] at d1
    obtain ⟨g1, h1⟩ : ∃ g1, g1 = row g 104 (upd (g 104) 2 (lcg (zz lcg z i))) := ⟨_, rfl⟩
    rw [← h1] at d1
    have d2 := X7_next g1
    have e11 : g1 104 2 = lcg (zz lcg z i) := by rw [h1, row_self, upd_self]
    rw [e11] at d2
    obtain ⟨g2, h2⟩ : ∃ g2, g2 = row g1 104 (upd (g1 104) 2 (lcg (lcg (zz lcg z i)))) := ⟨_, rfl⟩
    rw [← h2] at d2
    have r1 := rem24 (a := hvN (lcg (zz lcg z i))) (by have := hv_lt (lcg (zz lcg z i)); omega)
    have r2 := rem5 (a := hvN (lcg (lcg (zz lcg z i)))) (by have := hv_lt (lcg (lcg (zz lcg z i))); omega)
    have hc : hvN (lcg (zz lcg z i)) % 24 < 24 := Nat.mod_lt _ (by omega)
    have i39 : (39 : Int32) + nI (hvN (lcg (zz lcg z i)) % 24) = nI (39 + hvN (lcg (zz lcg z i)) % 24) := nI_a 39 _
    have e2 : ∀ y, y ≠ 2 → g2 104 y = g 104 y := fun y hy => by rw [h2, row_self, upd_ne _ _ hy, h1, row_self, upd_ne _ _ hy]
    refine ⟨row g2 104 (upd (g2 104) (39 + hvN (lcg (zz lcg z i)) % 24) (nI (hvN (lcg (lcg (zz lcg z i))) % 5))), ?_, fun x hx => by rw [row_ne _ _ hx, h2, row_ne _ _ hx, h1, row_ne _ _ hx]; exact I1 x hx, ?_, fun y hy hy2 => ?_, fun c hc' => ?_⟩
    · simp [WS_X7_weather_1, m_den, l0, Value.category, s_seq, s_if, s_st, s_ret, s_retz, s_retv, s_skip, s_sc, s_inc, s_call, e_c, e_li, e_lr, e_lj, e_un, e_bin, e_if, e_b, b_not, b_and, b_or, b_of, e_call, a_recv, a_snoc, a_nil, prI, prJ, prR, e_gi, e_gr, e_ai, e_ar, s_as, s_aop, s_pf, s_pfz, s_fop, l_set, l_ok, e_div, e_rem, e_len, s_tab, g_103_0, rc_103, d1, r1, i39, d2, r2, wr_104 g2 (show 39 + hvN (lcg (zz lcg z i)) % 24 < 735 by omega), nI_next]
    · rw [row_self, upd_ne _ _ (by omega), h2, row_self, upd_self]; rfl
    · rw [row_self, upd_ne _ _ (by omega), e2 y hy]; exact I3 y hy hy2
    · rw [row_self]
      show _ = if c = hvN (lcg (zz lcg z i)) % 24 then nI (hvN (lcg (lcg (zz lcg z i))) % 5) else ww lcg hvN z W i c
      by_cases e : c = hvN (lcg (zz lcg z i)) % 24
      · rw [if_pos e, e, upd_self]
      · rw [if_neg e, upd_ne _ _ (by omega), e2 _ (by omega)]; exact I4 c hc'
  · have e : ¬ nI n < nI n := Int32.lt_irrefl
    simp [WB_X7_weather_1, m_den, l0, Value.category, s_seq, s_if, s_st, s_ret, s_retz, s_retv, s_skip, s_sc, s_inc, s_call, e_c, e_li, e_lr, e_lj, e_un, e_bin, e_if, e_b, b_not, b_and, b_or, b_of, e_call, a_recv, a_snoc, a_nil, prI, prJ, prR, e_gi, e_gr, e_ai, e_ar, s_as, s_aop, s_pf, s_pfz, s_fop, l_set, l_ok, e_div, e_rem, e_len, s_tab, e]
def cal (W : Nat → Int32) (c : Nat) : Int32 := if W c = 0 then 1 else 0
theorem X6_weather_W2 (f : FN) (n : Int32) {W : Nat → Int32} (hW : ∀ c, c < 24 → f 3 c = W c) : W_X6_weather_2 [.ref 0, .int n, .int 0, .int 0] (memOf f) = some (.inl ([.ref 0, .int n, .int (sumI 24 (cal W)), .int (nI 24)], memOf f)) := by
  have key := while_count (b := WB_X6_weather_2) (s := WS_X6_weather_2) (fun i => ([.ref 0, .int n, .int (sumI i (cal W)), .int (nI i)], memOf f)) 24 (by unfold FU; omega) (fun i hi => ?_) (fun i hi => ?_) ?_
  · exact key
  · have e : nI i < (24 : Int32) := lt_lit (n := 24) hi (by omega)
    simp [WB_X6_weather_2, m_den, l0, Value.category, s_seq, s_if, s_st, s_ret, s_retz, s_retv, s_skip, s_sc, s_inc, s_call, e_c, e_li, e_lr, e_lj, e_un, e_bin, e_if, e_b, b_not, b_and, b_or, b_of, e_call, a_recv, a_snoc, a_nil, prI, prJ, prR, e_gi, e_gr, e_ai, e_ar, s_as, s_aop, s_pf, s_pfz, s_fop, l_set, l_ok, e_div, e_rem, e_len, s_tab, e]
  · have r := rd_3 f hi
    rw [hW i hi] at r
    by_cases c : W i = 0
    · have c' := eq_true c
      simp [WS_X6_weather_2, m_den, l0, Value.category, s_seq, s_if, s_st, s_ret, s_retz, s_retv, s_skip, s_sc, s_inc, s_call, e_c, e_li, e_lr, e_lj, e_un, e_bin, e_if, e_b, b_not, b_and, b_or, b_of, e_call, a_recv, a_snoc, a_nil, prI, prJ, prR, e_gi, e_gr, e_ai, e_ar, s_as, s_aop, s_pf, s_pfz, s_fop, l_set, l_ok, e_div, e_rem, e_len, s_tab, g_0_0, g_1_4, r, c', nI_next, sumI, cal]
    · simp [WS_X6_weather_2, m_den, l0, Value.category, s_seq, s_if, s_st, s_ret, s_retz, s_retv, s_skip, s_sc, s_inc, s_call, e_c, e_li, e_lr, e_lj, e_un, e_bin, e_if, e_b, b_not, b_and, b_or, b_of, e_call, a_recv, a_snoc, a_nil, prI, prJ, prR, e_gi, e_gr, e_ai, e_ar, s_as, s_aop, s_pf, s_pfz, s_fop, l_set, l_ok, e_div, e_rem, e_len, s_tab, g_0_0, g_1_4, r, c, nI_next, sumI, cal]
  · have e : ¬ nI 24 < (24 : Int32) := nlt_lit (n := 24) (by omega)
    simp [WB_X6_weather_2, m_den, l0, Value.category, s_seq, s_if, s_st, s_ret, s_retz, s_retv, s_skip, s_sc, s_inc, s_call, e_c, e_li, e_lr, e_lj, e_un, e_bin, e_if, e_b, b_not, b_and, b_or, b_of, e_call, a_recv, a_snoc, a_nil, prI, prJ, prR, e_gi, e_gr, e_ai, e_ar, s_as, s_aop, s_pf, s_pfz, s_fop, l_set, l_ok, e_div, e_rem, e_len, s_tab, e]
theorem X7_weather_W2 (f : FN) (n : Int32) {W : Nat → Int32} (hW : ∀ c, c < 24 → f 104 (39 + c) = W c) : W_X7_weather_2 [.ref 103, .int n, .int 0, .int 0] (memOf f) = some (.inl ([.ref 103, .int n, .int (sumI 24 (cal W)), .int (nI 24)], memOf f)) := by
  have key := while_count (b := WB_X7_weather_2) (s := WS_X7_weather_2) (fun i => ([.ref 103, .int n, .int (sumI i (cal W)), .int (nI i)], memOf f)) 24 (by unfold FU; omega) (fun i hi => ?_) (fun i hi => ?_) ?_
  · exact key
  · have e : nI i < (24 : Int32) := lt_lit (n := 24) hi (by omega)
    simp [WB_X7_weather_2, m_den, l0, Value.category, s_seq, s_if, s_st, s_ret, s_retz, s_retv, s_skip, s_sc, s_inc, s_call, e_c, e_li, e_lr, e_lj, e_un, e_bin, e_if, e_b, b_not, b_and, b_or, b_of, e_call, a_recv, a_snoc, a_nil, prI, prJ, prR, e_gi, e_gr, e_ai, e_ar, s_as, s_aop, s_pf, s_pfz, s_fop, l_set, l_ok, e_div, e_rem, e_len, s_tab, e]
  · have r := rd_104 f (show 39 + i < 735 by omega)
    rw [hW i hi] at r
    have i39 : (39 : Int32) + nI i = nI (39 + i) := nI_a 39 _
    by_cases c : W i = 0
    · have c' := eq_true c
      simp [WS_X7_weather_2, m_den, l0, Value.category, s_seq, s_if, s_st, s_ret, s_retz, s_retv, s_skip, s_sc, s_inc, s_call, e_c, e_li, e_lr, e_lj, e_un, e_bin, e_if, e_b, b_not, b_and, b_or, b_of, e_call, a_recv, a_snoc, a_nil, prI, prJ, prR, e_gi, e_gr, e_ai, e_ar, s_as, s_aop, s_pf, s_pfz, s_fop, l_set, l_ok, e_div, e_rem, e_len, s_tab, g_103_0, i39, r, c', nI_next, sumI, cal]
    · simp [WS_X7_weather_2, m_den, l0, Value.category, s_seq, s_if, s_st, s_ret, s_retz, s_retv, s_skip, s_sc, s_inc, s_call, e_c, e_li, e_lr, e_lj, e_un, e_bin, e_if, e_b, b_not, b_and, b_or, b_of, e_call, a_recv, a_snoc, a_nil, prI, prJ, prR, e_gi, e_gr, e_ai, e_ar, s_as, s_aop, s_pf, s_pfz, s_fop, l_set, l_ok, e_div, e_rem, e_len, s_tab, g_103_0, i39, r, c, nI_next, sumI, cal]
  · have e : ¬ nI 24 < (24 : Int32) := nlt_lit (n := 24) (by omega)
    simp [WB_X7_weather_2, m_den, l0, Value.category, s_seq, s_if, s_st, s_ret, s_retz, s_retv, s_skip, s_sc, s_inc, s_call, e_c, e_li, e_lr, e_lj, e_un, e_bin, e_if, e_b, b_not, b_and, b_or, b_of, e_call, a_recv, a_snoc, a_nil, prI, prJ, prR, e_gi, e_gr, e_ai, e_ar, s_as, s_aop, s_pf, s_pfz, s_fop, l_set, l_ok, e_div, e_rem, e_len, s_tab, e]
theorem ww_ok {lcg : Int32 → Int32} {hvN : Int32 → Nat} {z : Int32} {W : Nat → Int32} (hW : ∀ c, c < 24 → ∃ w, w < 5 ∧ W c = nI w) : ∀ n c, c < 24 → ∃ w, w < 5 ∧ ww lcg hvN z W n c = nI w := by
  intro n
  induction n with
  | zero => exact hW
  | succ n ih =>
    intro c hc
    show ∃ w, w < 5 ∧ (if c = hvN (lcg (zz lcg z n)) % 24 then nI (hvN (lcg (lcg (zz lcg z n))) % 5) else ww lcg hvN z W n c) = nI w
    split
    · exact ⟨_, Nat.mod_lt _ (by omega), rfl⟩
    · exact ih c hc
theorem X6_weather_no0 (f : FN) {n : Int32} (h : ¬ (1 ≤ n ∧ n ≤ 24)) : D_X6_weather [.ref 0, .int n] (memOf f) = some (.int (-1000001), memOf (row f 81 (upd (f 81) 0 (f 81 0 + 1)))) := by
  by_cases h1 : 1 ≤ n
  · have h2 : ¬ (n ≤ 24) := fun q => h ⟨h1, q⟩
    simp [D_X6_weather, S_X6_weather, m_den, l0, Value.category, s_seq, s_if, s_st, s_ret, s_retz, s_retv, s_skip, s_sc, s_inc, s_call, e_c, e_li, e_lr, e_lj, e_un, e_bin, e_if, e_b, b_not, b_and, b_or, b_of, e_call, a_recv, a_snoc, a_nil, prI, prJ, prR, e_gi, e_gr, e_ai, e_ar, s_as, s_aop, s_pf, s_pfz, s_fop, l_set, l_ok, e_div, e_rem, e_len, s_tab, X6_isIn, rc_0, X6_fin_0, h1, h2]
  · simp [D_X6_weather, S_X6_weather, m_den, l0, Value.category, s_seq, s_if, s_st, s_ret, s_retz, s_retv, s_skip, s_sc, s_inc, s_call, e_c, e_li, e_lr, e_lj, e_un, e_bin, e_if, e_b, b_not, b_and, b_or, b_of, e_call, a_recv, a_snoc, a_nil, prI, prJ, prR, e_gi, e_gr, e_ai, e_ar, s_as, s_aop, s_pf, s_pfz, s_fop, l_set, l_ok, e_div, e_rem, e_len, s_tab, X6_isIn, rc_0, X6_fin_0, h1]
theorem X7_weather_no0 (f : FN) {n : Int32} (h : ¬ (1 ≤ n ∧ n ≤ 24)) : D_X7_weather [.ref 103, .int n] (memOf f) = some (.int (-1000001), memOf (row f 107 (upd (f 107) 0 (f 107 0 + 1)))) := by
  by_cases h1 : 1 ≤ n
  · have h2 : ¬ (n ≤ 24) := fun q => h ⟨h1, q⟩
    simp [D_X7_weather, S_X7_weather, m_den, l0, Value.category, s_seq, s_if, s_st, s_ret, s_retz, s_retv, s_skip, s_sc, s_inc, s_call, e_c, e_li, e_lr, e_lj, e_un, e_bin, e_if, e_b, b_not, b_and, b_or, b_of, e_call, a_recv, a_snoc, a_nil, prI, prJ, prR, e_gi, e_gr, e_ai, e_ar, s_as, s_aop, s_pf, s_pfz, s_fop, l_set, l_ok, e_div, e_rem, e_len, s_tab, X7_in, j_le_24, j_ge_1, rc_103, X7_fin_0, h1, h2]
  · simp [D_X7_weather, S_X7_weather, m_den, l0, Value.category, s_seq, s_if, s_st, s_ret, s_retz, s_retv, s_skip, s_sc, s_inc, s_call, e_c, e_li, e_lr, e_lj, e_un, e_bin, e_if, e_b, b_not, b_and, b_or, b_of, e_call, a_recv, a_snoc, a_nil, prI, prJ, prR, e_gi, e_gr, e_ai, e_ar, s_as, s_aop, s_pf, s_pfz, s_fop, l_set, l_ok, e_div, e_rem, e_len, s_tab, X7_in, j_le_24, j_ge_1, rc_103, X7_fin_0, h1]
theorem agr_weather {f : FN} (h : REL f) (x : Int32) : AGR D_X6_weather D_X7_weather [.int x] f := by
  obtain ⟨⟨m, hT, hV⟩, -⟩ := id h
  by_cases hc : 1 ≤ x ∧ x ≤ 24
  · obtain ⟨a1, a2⟩ := hc
    obtain ⟨n, hn, rfl⟩ := in_ex (n := 24) ⟨Int32.le_trans (by decide) a1, a2⟩ (by omega)
    obtain ⟨⟨t0, t1, t2, -⟩, -, t3, -⟩ := id hT
    obtain ⟨g1, A1, A2, A3, A4, A5⟩ := X6_weather_W1 hv_lt X5_draw f (n := n) (by omega)
    have A6 := X6_weather_W2 g1 (nI n) A5
    have e104 := A2 104 (by omega) (by omega)
    obtain ⟨g2, B1, B2, B3, B4, B5⟩ := X7_weather_W1 hv_lt X7_next g1 (n := n) (z := f 1 1) (W := f 3) (by omega) (by rw [e104]; exact t2) (fun c hc => by rw [e104]; exact t3 c hc)
    have B6 := X7_weather_W2 g2 (nI n) B5
    refine ⟨sumI 24 (cal (ww lcg hvN (f 1 1) (f 3) n)), g1, g2, ?_, ?_, ?_⟩
    · simp [D_X6_weather, S_X6_weather, m_den, l0, Value.category, s_seq, s_if, s_st, s_ret, s_retz, s_retv, s_skip, s_sc, s_inc, s_call, e_c, e_li, e_lr, e_lj, e_un, e_bin, e_if, e_b, b_not, b_and, b_or, b_of, e_call, a_recv, a_snoc, a_nil, prI, prJ, prR, e_gi, e_gr, e_ai, e_ar, s_as, s_aop, s_pf, s_pfz, s_fop, l_set, l_ok, e_div, e_rem, e_len, s_tab, X6_isIn, a1, a2, A1, A6]
    · simp [D_X7_weather, S_X7_weather, m_den, l0, Value.category, s_seq, s_if, s_st, s_ret, s_retz, s_retv, s_skip, s_sc, s_inc, s_call, e_c, e_li, e_lr, e_lj, e_un, e_bin, e_if, e_b, b_not, b_and, b_or, b_of, e_call, a_recv, a_snoc, a_nil, prI, prJ, prR, e_gi, e_gr, e_ai, e_ar, s_as, s_aop, s_pf, s_pfz, s_fop, l_set, l_ok, e_div, e_rem, e_len, s_tab, X7_in, j_le_24, j_ge_1, a1, a2, B1, B6]
    · refine h.winds (W := ww lcg hvN (f 1 1) (f 3) n) (fun x c1 c2 c3 => by rw [B2 x c3, A2 x c1 c2]) ⟨?_, ?_⟩ ?_ (fun c hc => ?_) B5 (fun y c1 c2 => by rw [B4 y c1 c2, e104]) (ww_ok (fun c hc => ?_) n)
      · rw [B2 1 (by omega), A4 0 (by omega)]
      · rw [B2 1 (by omega), A4 2 (by omega)]
      · rw [B3, B2 1 (by omega), A3]
      · rw [B2 3 (by omega)]; exact A5 c hc
      · obtain ⟨w, h1, h2⟩ := hV.2.2.1 c hc
        exact ⟨w, h1, by rw [← t3 c hc]; exact h2⟩
  · exact agr_find h (X6_weather_no0 f hc) (fun g _ => X7_weather_no0 g hc)
