/-! image, undo -/
def isTn (d : Nat) : Prop := shp[d]? = some (5, [none, none, none, some (d + 1), some (d + 2), some (d + 3), some (d + 4), some (d + 5)]) ∧ shp[d + 1]? = some (ia 36) ∧ shp[d + 2]? = some (ia 24) ∧ shp[d + 3]? = some (ia 6) ∧ shp[d + 4]? = some (ia 10)
theorem isTn_1 : isTn 1 := ⟨sh_1, sh_2, sh_3, sh_4, sh_5⟩
theorem isTn_39 : isTn 39 := ⟨sh_39, sh_40, sh_41, sh_42, sh_43⟩
theorem X5_take (f : FN) {d s m : Nat} (hds : d = 1 ∧ s = 39 ∨ d = 39 ∧ s = 1) (hd : isTn d) (hs : isTn s) (hm : m ≤ 8) (em : f s 2 = nI m) : ∃ g, D_X5_take [.ref d, .ref s] (memOf f) = some (.null, memOf g) ∧ (∀ y, y < 3 → g d y = f s y) ∧ (∀ c, c < 36 → g (d + 1) c = f (s + 1) c) ∧ (∀ c, c < 24 → g (d + 2) c = f (s + 2) c) ∧ (∀ c, c < 6 → g (d + 3) c = f (s + 3) c) ∧ (∀ c, c < 10 → g (d + 4) c = f (s + 4) c) ∧ (∀ k, k < m → (∀ x, x < 7 → g (chId d k + 1) x = f (chId s k + 1) x) ∧ (∀ x, x < 36 → g (chId d k + 2) x = f (chId s k + 2) x) ∧ (∀ x, x < 36 → g (chId d k + 3) x = f (chId s k + 3) x) ∧ g (chId d k) 3 = f (chId s k) 3 ∧ g (chId d k) 4 = f (chId s k) 4 ∧ g (chId d k) 5 = f (chId s k) 5) ∧ ∀ x, ¬ (d ≤ x ∧ x ≤ d + 37) → g x = f x := by
  have hdb : d = 1 ∨ d = 39 := by omega
  have hsb : s = 1 ∨ s = 39 := by omega
  have nds : s ≠ d := by omega
  obtain ⟨f1, h1⟩ : ∃ f1, f1 = row f d (upd (upd (upd (f d) 0 (f s 0)) 1 (f s 1)) 2 (f s 2)) := ⟨_, rfl⟩
  have P : ∀ (n a : Nat) (u v : Nat → Int32), a < n → put 0 n (fun x => u (0 + x)) v a = u a := fun n a u v ha => by
    have := put_in (a := 0) (fun x => u (0 + x)) v ha
    simpa using this
  obtain ⟨f2, h2⟩ : ∃ f2, f2 = row f1 (d + 1) (put 0 36 (fun x => f1 (s + 1) (0 + x)) (f1 (d + 1))) := ⟨_, rfl⟩
  obtain ⟨f3, h3⟩ : ∃ f3, f3 = row f2 (d + 2) (put 0 24 (fun x => f2 (s + 2) (0 + x)) (f2 (d + 2))) := ⟨_, rfl⟩
  obtain ⟨f4, h4⟩ : ∃ f4, f4 = row f3 (d + 3) (put 0 6 (fun x => f3 (s + 3) (0 + x)) (f3 (d + 3))) := ⟨_, rfl⟩
  obtain ⟨f5, h5⟩ : ∃ f5, f5 = row f4 (d + 4) (put 0 10 (fun x => f4 (s + 4) (0 + x)) (f4 (d + 4))) := ⟨_, rfl⟩
  have gr : ∀ (g : FN) (e k : Nat) (he : isTn e) (r : Nat), [none, none, none, some (e + 1), some (e + 2), some (e + 3), some (e + 4), some (e + 5)][k]? = some (some r) → gm_fld (memOf g) e 5 k = some (.ref r) := fun g e k he r hk => fld_r g he.1 hk
  have c1 : s_cpy (e_gr 5 3 (e_lr 1)) (e_c (0 : Int32)) (e_gr 5 3 (e_lr 0)) (e_c (0 : Int32)) (e_c (36 : Int32)) [.ref d, .ref s] (memOf f1) = some (.inl ([.ref d, .ref s], memOf f2)) := by
    rw [h2]; exact s_cpy_of (s := s + 1) (d := d + 1) (u := 0) (v := 0) (k := 36) (by simp [e_gr, e_lr, gr f1 s 3 hs (s + 1) rfl]) rfl (by simp [e_gr, e_lr, gr f1 d 3 hd (d + 1) rfl]) rfl rfl hs.2.1 hd.2.1 (by omega) (by omega) (by omega) (by omega)
  have c2 : s_cpy (e_gr 5 4 (e_lr 1)) (e_c (0 : Int32)) (e_gr 5 4 (e_lr 0)) (e_c (0 : Int32)) (e_c (24 : Int32)) [.ref d, .ref s] (memOf f2) = some (.inl ([.ref d, .ref s], memOf f3)) := by
    rw [h3]; exact s_cpy_of (s := s + 2) (d := d + 2) (u := 0) (v := 0) (k := 24) (by simp [e_gr, e_lr, gr f2 s 4 hs (s + 2) rfl]) rfl (by simp [e_gr, e_lr, gr f2 d 4 hd (d + 2) rfl]) rfl rfl hs.2.2.1 hd.2.2.1 (by omega) (by omega) (by omega) (by omega)
  have c3 : s_cpy (e_gr 5 5 (e_lr 1)) (e_c (0 : Int32)) (e_gr 5 5 (e_lr 0)) (e_c (0 : Int32)) (e_c (6 : Int32)) [.ref d, .ref s] (memOf f3) = some (.inl ([.ref d, .ref s], memOf f4)) := by
    rw [h4]; exact s_cpy_of (s := s + 3) (d := d + 3) (u := 0) (v := 0) (k := 6) (by simp [e_gr, e_lr, gr f3 s 5 hs (s + 3) rfl]) rfl (by simp [e_gr, e_lr, gr f3 d 5 hd (d + 3) rfl]) rfl rfl hs.2.2.2.1 hd.2.2.2.1 (by omega) (by omega) (by omega) (by omega)
  have c4 : s_cpy (e_gr 5 6 (e_lr 1)) (e_c (0 : Int32)) (e_gr 5 6 (e_lr 0)) (e_c (0 : Int32)) (e_c (10 : Int32)) [.ref d, .ref s] (memOf f4) = some (.inl ([.ref d, .ref s], memOf f5)) := by
    rw [h5]; exact s_cpy_of (s := s + 4) (d := d + 4) (u := 0) (v := 0) (k := 10) (by simp [e_gr, e_lr, gr f4 s 6 hs (s + 4) rfl]) rfl (by simp [e_gr, e_lr, gr f4 d 6 hd (d + 4) rfl]) rfl rfl hs.2.2.2.2 hd.2.2.2.2 (by omega) (by omega) (by omega) (by omega)
  have E5 : ∀ x, ¬ (d ≤ x ∧ x ≤ d + 4) → f5 x = f x := fun x hx => by
    rw [h5, row_ne _ _ (by omega), h4, row_ne _ _ (by omega), h3, row_ne _ _ (by omega), h2, row_ne _ _ (by omega), h1, row_ne _ _ (by omega)]
  have D5 : f5 d = upd (upd (upd (f d) 0 (f s 0)) 1 (f s 1)) 2 (f s 2) := by
    rw [h5, row_ne _ _ (by omega), h4, row_ne _ _ (by omega), h3, row_ne _ _ (by omega), h2, row_ne _ _ (by omega), h1, row_self]
  have key := while_rel (b := WB_X5_take_1) (s := WS_X5_take_1) (fun k => [.ref d, .ref s, .int (nI k)]) (fun k g => (∀ x, ¬ (d + 6 ≤ x ∧ x ≤ d + 37) → g x = f5 x) ∧ ∀ i, i < k → (∀ x, x < 7 → g (chId d i + 1) x = f (chId s i + 1) x) ∧ (∀ x, x < 36 → g (chId d i + 2) x = f (chId s i + 2) x) ∧ (∀ x, x < 36 → g (chId d i + 3) x = f (chId s i + 3) x) ∧ g (chId d i) 3 = f (chId s i) 3 ∧ g (chId d i) 4 = f (chId s i) 4 ∧ g (chId d i) 5 = f (chId s i) 5) m (by unfold FU; omega) (fun k g hk hI => ?_) (fun k g hk hI => ?_) (fun g hI => ?_) (f := f5) ⟨fun _ _ => rfl, fun i hi => absurd hi (by omega)⟩
  · obtain ⟨g, W, I1, I2⟩ := key
    refine ⟨g, ?_, fun y hy => ?_, fun c hc => ?_, fun c hc => ?_, fun c hc => ?_, fun c hc => ?_, I2, fun x hx => ?_⟩
    · have W' : W_X5_take_1 [.ref d, .ref s, .int 0] (memOf f5) = some (.inl ([.ref d, .ref s, .int (nI m)], memOf g)) := W
      have gi : ∀ (g : FN) (k : Nat), k < 3 → gm_fld (memOf g) s 5 k = some (.int (g s k)) := fun g k hk => by
        match k, hk with
        | 0, _ => exact fld_i g hs.1 rfl
        | 1, _ => exact fld_i g hs.1 rfl
        | 2, _ => exact fld_i g hs.1 rfl
        | k + 3, hk => exact absurd hk (by omega)
      have pi : ∀ (g : FN) (k : Nat) (x : Int32), k < 3 → gm_pf (memOf g) d 5 k (.int x) = some (memOf (row g d (upd (g d) k x))) := fun g k x hk => by
        match k, hk with
        | 0, _ => exact pf_i g hd.1 rfl
        | 1, _ => exact pf_i g hd.1 rfl
        | 2, _ => exact pf_i g hd.1 rfl
        | k + 3, hk => exact absurd hk (by omega)
      have i0 := fun g => gi g 0 (by omega)
      have i1 := fun g => gi g 1 (by omega)
      have i2 := fun g => gi g 2 (by omega)
      have p0 := fun g x => pi g 0 x (by omega)
      have p1 := fun g x => pi g 1 x (by omega)
      have p2 := fun g x => pi g 2 x (by omega)
      have hh1 : row (row (row f d (upd (f d) 0 (f s 0))) d (upd (upd (f d) 0 (f s 0)) 1 (f s 1))) d (upd (upd (upd (f d) 0 (f s 0)) 1 (f s 1)) 2 (f s 2)) = f1 := by rw [row_row, row_row, h1]
      have st1 : s_pf Value.int 5 0 (e_lr 0) (e_gi 5 0 (e_lr 1)) [.ref d, .ref s] (memOf f) = some (.inl ([.ref d, .ref s], memOf (row f d (upd (f d) 0 (f s 0))))) := by simp [s_pf, e_lr, e_gi, i0, p0]
      have st2 : s_pf Value.int 5 1 (e_lr 0) (e_gi 5 1 (e_lr 1)) [.ref d, .ref s] (memOf (row f d (upd (f d) 0 (f s 0)))) = some (.inl ([.ref d, .ref s], memOf (row (row f d (upd (f d) 0 (f s 0))) d (upd (upd (f d) 0 (f s 0)) 1 (f s 1))))) := by simp [s_pf, e_lr, e_gi, i1, p1, row_self, row_ne _ _ nds]
      have st3 : s_pf Value.int 5 2 (e_lr 0) (e_gi 5 2 (e_lr 1)) [.ref d, .ref s] (memOf (row (row f d (upd (f d) 0 (f s 0))) d (upd (upd (f d) 0 (f s 0)) 1 (f s 1)))) = some (.inl ([.ref d, .ref s], memOf f1)) := by
        rw [← hh1]
        simp [s_pf, e_lr, e_gi, i2, p2, row_self, row_ne _ _ nds]
      simp [D_X5_take, S_X5_take, m_den, l0, Value.category, s_seq, st1, st2, st3, c1, c2, c3, c4, s_sc, s_st, e_c, l_ok, l_set, W', s_retv]
    · rw [I1 d (by omega), D5]
      unfold upd
      have : y = 0 ∨ y = 1 ∨ y = 2 := by omega
      rcases this with rfl | rfl | rfl <;> simp
    · rw [I1 _ (by omega), h5, row_ne _ _ (by omega), h4, row_ne _ _ (by omega), h3, row_ne _ _ (by omega), h2, row_self, P _ _ _ _ hc, h1, row_ne _ _ (by omega)]
    · rw [I1 _ (by omega), h5, row_ne _ _ (by omega), h4, row_ne _ _ (by omega), h3, row_self, P _ _ _ _ hc, h2, row_ne _ _ (by omega), h1, row_ne _ _ (by omega)]
    · rw [I1 _ (by omega), h5, row_ne _ _ (by omega), h4, row_self, P _ _ _ _ hc, h3, row_ne _ _ (by omega), h2, row_ne _ _ (by omega), h1, row_ne _ _ (by omega)]
    · rw [I1 _ (by omega), h5, row_self, P _ _ _ _ hc, h4, row_ne _ _ (by omega), h3, row_ne _ _ (by omega), h2, row_ne _ _ (by omega), h1, row_ne _ _ (by omega)]
    · rw [I1 x (by omega), E5 x (by omega)]
  · have ed : g d 2 = nI m := by rw [hI.1 d (by omega), D5, upd_self]; exact em
    have gd : gm_fld (memOf g) d 5 2 = some (.int (g d 2)) := fld_i g hd.1 rfl
    have e : nI k < nI m := (nI_lt_iff (by omega) (by omega)).mpr hk
    simp [WB_X5_take_1, m_den, l0, Value.category, s_seq, s_if, s_st, s_ret, s_retz, s_retv, s_skip, s_sc, s_inc, s_call, e_c, e_li, e_lr, e_lj, e_un, e_bin, e_if, e_b, b_not, b_and, b_or, b_of, e_call, a_recv, a_snoc, a_nil, prI, prJ, prR, e_gi, e_gr, e_ai, e_ar, s_as, s_aop, s_pf, s_pfz, s_fop, l_set, l_ok, e_div, e_rem, e_len, s_tab, gd, ed, e]
  · obtain ⟨I1, I2⟩ := hI
    have k8 : k < 8 := by omega
    have hCd := isCh_town hdb k8
    have hCs := isCh_town hsb k8
    have hx : ∀ i, i < 8 → d + 6 ≤ chId d i ∧ chId d i + 3 ≤ d + 37 ∧ s + 6 ≤ chId s i ∧ chId s i + 3 ≤ s + 37 := fun i hi => by unfold chId; omega
    have hxk := hx k k8
    obtain ⟨g2, T1, T2, T3, T4, T5, T6, T7, T8⟩ := X0_take g hCd hCs (by omega)
    have fs : ∀ x, chId s k ≤ x → x ≤ chId s k + 3 → g x = f x := fun x a b => by rw [I1 x (by omega), E5 x (by omega)]
    refine ⟨g2, ?_, fun x hx' => by rw [T8 x (by omega)]; exact I1 x hx', fun i hi => ?_⟩
    · simp [WS_X5_take_1, m_den, l0, Value.category, s_seq, s_if, s_st, s_ret, s_retz, s_retv, s_skip, s_sc, s_inc, s_call, e_c, e_li, e_lr, e_lj, e_un, e_bin, e_if, e_b, b_not, b_and, b_or, b_of, e_call, a_recv, a_snoc, a_nil, prI, prJ, prR, e_gi, e_gr, e_ai, e_ar, s_as, s_aop, s_pf, s_pfz, s_fop, l_set, l_ok, e_div, e_rem, e_len, s_tab, gr g d 7 hd (d + 5) rfl, gr g s 7 hs (s + 5) rfl, rr_ch g hdb k8, rr_ch g hsb k8, rcch g hCd, T1, nI_next]
    · by_cases e : i = k
      · subst e
        exact ⟨fun x hx => by rw [T2 x hx, fs _ (by omega) (by omega)], fun x hx => by rw [T3 x hx, fs _ (by omega) (by omega)], fun x hx => by rw [T4 x hx, fs _ (by omega) (by omega)], by rw [T5, fs _ (by omega) (by omega)], by rw [T6, fs _ (by omega) (by omega)], by rw [T7, fs _ (by omega) (by omega)]⟩
      · have : chId d i + 3 < chId d k ∨ chId d k + 3 < chId d i := by unfold chId; omega
        rw [T8 _ (by omega), T8 _ (by omega), T8 _ (by omega), T8 _ (by omega)]
        exact I2 i (by omega)
  · have ed : g d 2 = nI m := by rw [hI.1 d (by omega), D5, upd_self]; exact em
    have gd : gm_fld (memOf g) d 5 2 = some (.int (g d 2)) := fld_i g hd.1 rfl
    have e : ¬ nI m < nI m := Int32.lt_irrefl
    simp [WB_X5_take_1, m_den, l0, Value.category, s_seq, s_if, s_st, s_ret, s_retz, s_retv, s_skip, s_sc, s_inc, s_call, e_c, e_li, e_lr, e_lj, e_un, e_bin, e_if, e_b, b_not, b_and, b_or, b_of, e_call, a_recv, a_snoc, a_nil, prI, prJ, prR, e_gi, e_gr, e_ai, e_ar, s_as, s_aop, s_pf, s_pfz, s_fop, l_set, l_ok, e_div, e_rem, e_len, s_tab, gd, ed, e]
theorem TR.row735 {f : FN} {b m : Nat} {σ τ : Nat → Int32} (h : TR f b σ m) (e : ∀ y, y < 735 → τ y = σ y) : TR f b τ m := by
  obtain ⟨⟨a1, a2, a3, a4, a5⟩, h2, h3, h4, h5, h6, h7⟩ := h
  refine ⟨⟨by rw [e 0 (by omega)]; exact a1, by rw [e 1 (by omega)]; exact a2, by rw [e 2 (by omega)]; exact a3, a4, a5⟩, fun c hc => by rw [e _ (by omega)]; exact h2 c hc, fun c hc => by rw [e _ (by omega)]; exact h3 c hc, fun c hc => by rw [e _ (by omega)]; exact h4 c hc, fun c hc => by rw [e _ (by omega)]; exact h5 c hc, fun k hk => (h6 k hk).sig (fun i hi => e i (by omega)), fun k k1 k2 => (h7 k k1 k2).sig (fun i hi => e i (by omega))⟩
theorem TV.row735 {σ τ : Nat → Int32} {m : Nat} (h : TV σ m) (hm : m ≤ 8) (e : ∀ y, y < 735 → τ y = σ y) : TV τ m :=
  h.sig hm (fun i hi => e i (by omega)) (fun c hc => by rw [e _ (by omega)]; exact h.2.1 c hc) (fun c hc => by rw [e _ (by omega)]; exact h.2.2.1 c hc) (fun s hs => by rw [e _ (by omega)]; exact h.2.2.2.1 s hs) (fun k hk j hj => by rw [e _ (by omega)]; exact h.2.2.2.2 k hk j hj)
theorem TR.taken {f g : FN} {d s m : Nat} {σ : Nat → Int32} (h : TR f s σ m) (g0 : ∀ y, y < 3 → g d y = f s y) (g1 : ∀ c, c < 36 → g (d + 1) c = f (s + 1) c) (g2 : ∀ c, c < 24 → g (d + 2) c = f (s + 2) c) (g3 : ∀ c, c < 6 → g (d + 3) c = f (s + 3) c) (g4 : ∀ c, c < 10 → g (d + 4) c = f (s + 4) c) (g5 : ∀ k, k < m → (∀ x, x < 7 → g (chId d k + 1) x = f (chId s k + 1) x) ∧ (∀ x, x < 36 → g (chId d k + 2) x = f (chId s k + 2) x) ∧ (∀ x, x < 36 → g (chId d k + 3) x = f (chId s k + 3) x) ∧ g (chId d k) 3 = f (chId s k) 3 ∧ g (chId d k) 4 = f (chId s k) 4 ∧ g (chId d k) 5 = f (chId s k) 5) : TR g d σ m := by
  obtain ⟨⟨a1, a2, a3, a4, a5⟩, h2, h3, h4, h5, h6, h7⟩ := h
  refine ⟨⟨by rw [g0 0 (by omega)]; exact a1, by rw [g0 2 (by omega)]; exact a2, by rw [g0 1 (by omega)]; exact a3, by rw [g0 2 (by omega)]; exact a4, a5⟩, fun c hc => by rw [g1 c hc]; exact h2 c hc, fun c hc => by rw [g2 c hc]; exact h3 c hc, fun c hc => by rw [g3 c hc]; exact h4 c hc, fun c hc => by rw [g4 c hc]; exact h5 c hc, fun k hk => ?_, h7⟩
  obtain ⟨c1, c2, c3, c4, c5, c6⟩ := h6 k hk
  obtain ⟨e1, e2, e3, e4, e5, e6⟩ := g5 k hk
  exact ⟨fun j hj => by rw [e1 j hj]; exact c1 j hj, fun c hc => by rw [e2 c hc]; exact c2 c hc, fun c hc => by rw [e3 c hc]; exact c3 c hc, by rw [e4]; exact c4, by rw [e5]; exact c5, by rw [e6]; exact c6⟩
theorem SR2.congr {f g : FN} (h : SR2 f) (e : ∀ j, j = 78 ∨ j = 79 ∨ j = 81 ∨ (95 ≤ j ∧ j ≤ 102) ∨ j = 107 ∨ (111 ≤ j ∧ j ≤ 114) → g j = f j) (e2 : g 103 12 = f 103 12) : SR2 g := by
  obtain ⟨s1, s2, s3, s4⟩ := h
  refine ⟨?_, ?_, ?_, fun s hs => ?_⟩
  · rw [e 81 (by omega), e 107 (by omega)]; exact s1
  · rw [e 78 (by omega), e2]; exact s2
  · rw [e 79 (by omega), e 111 (by omega)]; exact s3
  · rw [e 112 (by omega), e 113 (by omega), e 114 (by omega), e (95 + 2 * s) (by omega), e (96 + 2 * s) (by omega)]; exact s4 s hs
theorem X7_image_W (f : FN) : ∃ g, W_X7_image_1 [.ref 103, .int 0] (memOf f) = some (.inl ([.ref 103, .int (nI 735)], memOf g)) ∧ (∀ x, x ≠ 105 → g x = f x) ∧ ∀ y, y < 735 → g 105 y = f 104 y := by
  have key := while_rel (b := WB_X7_image_1) (s := WS_X7_image_1) (fun j => [.ref 103, .int (nI j)]) (fun j g => (∀ x, x ≠ 105 → g x = f x) ∧ ∀ c, c < j → g 105 c = f 104 c) 735 (by unfold FU; omega) (fun j g hj hI => ?_) (fun j g hj hI => ?_) (fun g hI => ?_) (f := f) ⟨fun _ _ => rfl, fun c hc => absurd hc (by omega)⟩
  · exact key
  · have e : nI j < (735 : Int32) := lt_lit (n := 735) hj (by omega)
    simp [WB_X7_image_1, m_den, l0, Value.category, s_seq, s_if, s_st, s_ret, s_retz, s_retv, s_skip, s_sc, s_inc, s_call, e_c, e_li, e_lr, e_lj, e_un, e_bin, e_if, e_b, b_not, b_and, b_or, b_of, e_call, a_recv, a_snoc, a_nil, prI, prJ, prR, e_gi, e_gr, e_ai, e_ar, s_as, s_aop, s_pf, s_pfz, s_fop, l_set, l_ok, e_div, e_rem, e_len, s_tab, e]
  · refine ⟨row g 105 (upd (g 105) j (g 104 j)), ?_, fun x hx => by rw [row_ne _ _ hx]; exact hI.1 x hx, fun c hc => ?_⟩
    · simp [WS_X7_image_1, m_den, l0, Value.category, s_seq, s_if, s_st, s_ret, s_retz, s_retv, s_skip, s_sc, s_inc, s_call, e_c, e_li, e_lr, e_lj, e_un, e_bin, e_if, e_b, b_not, b_and, b_or, b_of, e_call, a_recv, a_snoc, a_nil, prI, prJ, prR, e_gi, e_gr, e_ai, e_ar, s_as, s_aop, s_pf, s_pfz, s_fop, l_set, l_ok, e_div, e_rem, e_len, s_tab, g_103_0, g_103_1, rd_104 g hj, wr_105 g hj, nI_next]
    · rw [row_self]; unfold upd
      by_cases e : c = j
      · rw [if_pos e, e, hI.1 104 (by omega)]
      · rw [if_neg e]; exact hI.2 c (by omega)
  · have e : ¬ nI 735 < (735 : Int32) := nlt_lit (n := 735) (by omega)
    simp [WB_X7_image_1, m_den, l0, Value.category, s_seq, s_if, s_st, s_ret, s_retz, s_retv, s_skip, s_sc, s_inc, s_call, e_c, e_li, e_lr, e_lj, e_un, e_bin, e_if, e_b, b_not, b_and, b_or, b_of, e_call, a_recv, a_snoc, a_nil, prI, prJ, prR, e_gi, e_gr, e_ai, e_ar, s_as, s_aop, s_pf, s_pfz, s_fop, l_set, l_ok, e_div, e_rem, e_len, s_tab, e]
theorem X7_undo_W (f : FN) : ∃ g, W_X7_undo_1 [.ref 103, .int 0] (memOf f) = some (.inl ([.ref 103, .int (nI 735)], memOf g)) ∧ (∀ x, x ≠ 104 → g x = f x) ∧ ∀ y, y < 735 → g 104 y = f 105 y := by
  have key := while_rel (b := WB_X7_undo_1) (s := WS_X7_undo_1) (fun j => [.ref 103, .int (nI j)]) (fun j g => (∀ x, x ≠ 104 → g x = f x) ∧ ∀ c, c < j → g 104 c = f 105 c) 735 (by unfold FU; omega) (fun j g hj hI => ?_) (fun j g hj hI => ?_) (fun g hI => ?_) (f := f) ⟨fun _ _ => rfl, fun c hc => absurd hc (by omega)⟩
  · exact key
  · have e : nI j < (735 : Int32) := lt_lit (n := 735) hj (by omega)
    simp [WB_X7_undo_1, m_den, l0, Value.category, s_seq, s_if, s_st, s_ret, s_retz, s_retv, s_skip, s_sc, s_inc, s_call, e_c, e_li, e_lr, e_lj, e_un, e_bin, e_if, e_b, b_not, b_and, b_or, b_of, e_call, a_recv, a_snoc, a_nil, prI, prJ, prR, e_gi, e_gr, e_ai, e_ar, s_as, s_aop, s_pf, s_pfz, s_fop, l_set, l_ok, e_div, e_rem, e_len, s_tab, e]
  · refine ⟨row g 104 (upd (g 104) j (g 105 j)), ?_, fun x hx => by rw [row_ne _ _ hx]; exact hI.1 x hx, fun c hc => ?_⟩
    · simp [WS_X7_undo_1, m_den, l0, Value.category, s_seq, s_if, s_st, s_ret, s_retz, s_retv, s_skip, s_sc, s_inc, s_call, e_c, e_li, e_lr, e_lj, e_un, e_bin, e_if, e_b, b_not, b_and, b_or, b_of, e_call, a_recv, a_snoc, a_nil, prI, prJ, prR, e_gi, e_gr, e_ai, e_ar, s_as, s_aop, s_pf, s_pfz, s_fop, l_set, l_ok, e_div, e_rem, e_len, s_tab, g_103_0, g_103_1, rd_105 g hj, wr_104 g hj, nI_next]
    · rw [row_self]; unfold upd
      by_cases e : c = j
      · rw [if_pos e, e, hI.1 105 (by omega)]
      · rw [if_neg e]; exact hI.2 c (by omega)
  · have e : ¬ nI 735 < (735 : Int32) := nlt_lit (n := 735) (by omega)
    simp [WB_X7_undo_1, m_den, l0, Value.category, s_seq, s_if, s_st, s_ret, s_retz, s_retv, s_skip, s_sc, s_inc, s_call, e_c, e_li, e_lr, e_lj, e_un, e_bin, e_if, e_b, b_not, b_and, b_or, b_of, e_call, a_recv, a_snoc, a_nil, prI, prJ, prR, e_gi, e_gr, e_ai, e_ar, s_as, s_aop, s_pf, s_pfz, s_fop, l_set, l_ok, e_div, e_rem, e_len, s_tab, e]
theorem agr_image {f : FN} (h : REL f) : AGR D_X6_image D_X7_image [] f := by
  obtain ⟨⟨m, hT, hV⟩, ⟨k1, k2⟩, k3, hs⟩ := id h
  have m8 := hT.1.2.2.2.2
  obtain ⟨f1, A1, A2, A3, A4, A5, A6, A7, A8⟩ := X5_take f (d := 39) (s := 1) (m := m) (Or.inr ⟨rfl, rfl⟩) isTn_39 isTn_1 m8 hT.1.2.2.2.1
  obtain ⟨g1, h1⟩ : ∃ g1, g1 = row f1 0 (upd (f1 0) 2 1) := ⟨_, rfl⟩
  have w1 := p_0_2 f1 1
  rw [← h1] at w1
  obtain ⟨g2, B1, B2, B3⟩ := X7_image_W g1
  obtain ⟨g3, h3⟩ : ∃ g3, g3 = row g2 103 (upd (g2 103) 4 1) := ⟨_, rfl⟩
  have w3 := p_103_4 g2 1
  rw [← h3] at w3
  have E1 : ∀ x, x ≠ 0 → ¬ (39 ≤ x ∧ x ≤ 76) → g1 x = f x := fun x c1 c2 => by rw [h1, row_ne _ _ c1, A8 x (by omega)]
  have E3 : ∀ x, x ≠ 0 → ¬ (39 ≤ x ∧ x ≤ 76) → x ≠ 103 → x ≠ 105 → g3 x = f x := fun x c1 c2 c3 c4 => by rw [h3, row_ne _ _ c3, B2 x c4, E1 x c1 c2]
  have e104 := E3 104 (by omega) (by omega) (by omega) (by omega)
  have g105 : ∀ y, y < 735 → g3 105 y = f 104 y := fun y hy => by rw [h3, row_ne _ _ (by omega), B3 y hy, E1 104 (by omega) (by omega)]
  refine ⟨1, g1, g3, ?_, ?_, ⟨m, ?_, ?_⟩, ⟨?_, ?_⟩, fun _ => ⟨m, ?_, ?_⟩, ?_⟩
  · simp [D_X6_image, S_X6_image, m_den, l0, Value.category, s_seq, s_if, s_st, s_ret, s_retz, s_retv, s_skip, s_sc, s_inc, s_call, e_c, e_li, e_lr, e_lj, e_un, e_bin, e_if, e_b, b_not, b_and, b_or, b_of, e_call, a_recv, a_snoc, a_nil, prI, prJ, prR, e_gi, e_gr, e_ai, e_ar, s_as, s_aop, s_pf, s_pfz, s_fop, l_set, l_ok, e_div, e_rem, e_len, s_tab, g_0_0, g_0_1, rc_39, A1, w1]
  · simp [D_X7_image, S_X7_image, m_den, l0, Value.category, s_seq, s_if, s_st, s_ret, s_retz, s_retv, s_skip, s_sc, s_inc, s_call, e_c, e_li, e_lr, e_lj, e_un, e_bin, e_if, e_b, b_not, b_and, b_or, b_of, e_call, a_recv, a_snoc, a_nil, prI, prJ, prR, e_gi, e_gr, e_ai, e_ar, s_as, s_aop, s_pf, s_pfz, s_fop, l_set, l_ok, e_div, e_rem, e_len, s_tab, B1, w3]
  · rw [e104]; exact hT.congr (fun j h1 h2 => E3 j (by omega) (by omega) (by omega) (by omega))
  · rw [e104]; exact hV
  · rw [h3, row_ne _ _ (by omega), B2 0 (by omega), h1, row_self, row_self, upd_self, upd_self]
  · rw [h3, row_ne _ _ (by omega), B2 0 (by omega), h1, row_self, upd_self]; exact Or.inr rfl
  · have t := (hT.taken (g := f1) A2 A3 A4 A5 A6 A7).row735 g105
    exact t.congr (fun j a b => by rw [h3, row_ne _ _ (by omega), B2 j (by omega), h1, row_ne _ _ (by omega)])
  · exact hV.row735 m8 g105
  · exact hs.congr (fun j hj => E3 j (by omega) (by omega) (by omega) (by omega)) (by rw [h3, row_self, upd_ne _ _ (by omega), B2 103 (by omega), E1 103 (by omega) (by omega)])
theorem agr_undo {f : FN} (h : REL f) : AGR D_X6_undo D_X7_undo [] f := by
  obtain ⟨⟨m0, hT0, hV0⟩, ⟨k1, k2⟩, k3, hs⟩ := id h
  rcases k2 with k2 | k2
  · refine agr_find (j := 3) (v := -1000004) h ?_ (fun g hg => ?_)
    · simp [D_X6_undo, S_X6_undo, m_den, l0, Value.category, s_seq, s_if, s_st, s_ret, s_retz, s_retv, s_skip, s_sc, s_inc, s_call, e_c, e_li, e_lr, e_lj, e_un, e_bin, e_if, e_b, b_not, b_and, b_or, b_of, e_call, a_recv, a_snoc, a_nil, prI, prJ, prR, e_gi, e_gr, e_ai, e_ar, s_as, s_aop, s_pf, s_pfz, s_fop, l_set, l_ok, e_div, e_rem, e_len, s_tab, g_0_2, k2, rc_0, X6_fin_3]
    · have e : g 103 4 = 0 := by rw [hg.2.1, ← k1]; exact k2
      simp [D_X7_undo, S_X7_undo, m_den, l0, Value.category, s_seq, s_if, s_st, s_ret, s_retz, s_retv, s_skip, s_sc, s_inc, s_call, e_c, e_li, e_lr, e_lj, e_un, e_bin, e_if, e_b, b_not, b_and, b_or, b_of, e_call, a_recv, a_snoc, a_nil, prI, prJ, prR, e_gi, e_gr, e_ai, e_ar, s_as, s_aop, s_pf, s_pfz, s_fop, l_set, l_ok, e_div, e_rem, e_len, s_tab, g_103_4, e, rc_103, X7_fin_3]
  · obtain ⟨m, hT, hV⟩ := k3 k2
    have m8 := hT.1.2.2.2.2
    obtain ⟨g1, A1, A2, A3, A4, A5, A6, A7, A8⟩ := X5_take f (d := 1) (s := 39) (m := m) (Or.inl ⟨rfl, rfl⟩) isTn_1 isTn_39 m8 hT.1.2.2.2.1
    obtain ⟨g2, B1, B2, B3⟩ := X7_undo_W g1
    have e105 := A8 105 (by omega)
    have g24 : ∀ y, y < 735 → g2 104 y = f 105 y := fun y hy => by rw [B3 y hy, e105]
    have E2 : ∀ x, ¬ (1 ≤ x ∧ x ≤ 38) → x ≠ 104 → g2 x = f x := fun x c1 c2 => by rw [B2 x c2, A8 x (by omega)]
    refine ⟨f 39 0, g1, g2, ?_, ?_, ?_⟩
    · have q : g1 1 0 = f 39 0 := A2 0 (by omega)
      simp [D_X6_undo, S_X6_undo, m_den, l0, Value.category, s_seq, s_if, s_st, s_ret, s_retz, s_retv, s_skip, s_sc, s_inc, s_call, e_c, e_li, e_lr, e_lj, e_un, e_bin, e_if, e_b, b_not, b_and, b_or, b_of, e_call, a_recv, a_snoc, a_nil, prI, prJ, prR, e_gi, e_gr, e_ai, e_ar, s_as, s_aop, s_pf, s_pfz, s_fop, l_set, l_ok, e_div, e_rem, e_len, s_tab, g_0_2, k2, g_0_0, g_0_1, rc_1, A1, g_1_0, q]
    · have q : g1 103 4 = 1 := by rw [A8 103 (by omega), ← k1]; exact k2
      have q2 : g2 104 0 = f 39 0 := by rw [g24 0 (by omega)]; exact hT.1.1
      simp [D_X7_undo, S_X7_undo, m_den, l0, Value.category, s_seq, s_if, s_st, s_ret, s_retz, s_retv, s_skip, s_sc, s_inc, s_call, e_c, e_li, e_lr, e_lj, e_un, e_bin, e_if, e_b, b_not, b_and, b_or, b_of, e_call, a_recv, a_snoc, a_nil, prI, prJ, prR, e_gi, e_gr, e_ai, e_ar, s_as, s_aop, s_pf, s_pfz, s_fop, l_set, l_ok, e_div, e_rem, e_len, s_tab, g_103_4, q, B1, g_103_0, rd_104_0, q2]
    · refine h.town (m := m) (fun j hj => E2 j (by omega) (by omega)) ⟨by rw [E2 103 (by omega) (by omega)], by rw [E2 103 (by omega) (by omega)]⟩ ?_ (hV.row735 m8 g24)
      exact ((hT.taken (g := g1) A2 A3 A4 A5 A6 A7).row735 g24).congr (fun j a b => B2 j (by omega))
