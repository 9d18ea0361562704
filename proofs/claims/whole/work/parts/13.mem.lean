/-! MEMORY: fields, arrays, making -/
theorem gm_ob {K : KX} {M : GM} {id ci : Nat} {sl : List Value} (h : M[id]? = some (ci, sl)) (hc : ci < 10) : (gm_ws K M)[id]? = some (k_ad K id, .inr (ci, sl.map (tv (k_ad K)))) := by
  rw [gm_ws_of h]; simp [gm_cv, hc]
theorem gm_ia {K : KX} {M : GM} {id : Nat} {sl : List Value} (h : M[id]? = some (10, sl)) : (gm_ws K M)[id]? = some (k_ad K id, .inl (k_cA K 0, sl.length, .inl (fun j => iOf (sl.getD j .null)))) := by
  rw [gm_ws_of h]; rfl
theorem gm_ra {K : KX} {M : GM} {id t : Nat} {sl : List Value} (h : M[id]? = some (11 + t, sl)) : (gm_ws K M)[id]? = some (k_ad K id, .inl (k_cA K (1 + t), sl.length, .inr (.inr (.inr (.inr (fun j => rOf (k_ad K) (sl.getD j .null))))))) := by
  rw [gm_ws_of h]
  have h1 : ¬ (11 + t < 10) := by omega
  have h2 : ¬ (11 + t = 10) := by omega
  have h3 : 11 + t - 10 = 1 + t := by omega
  simp only [gm_cv, if_neg h1, if_neg h2, h3]
theorem gm_set_le {M : GM} {id kd : Nat} {sl sl' : List Value} (h : M[id]? = some (kd, sl)) (hl : sl'.length = sl.length) : (M.set id (kd, sl')).length = M.length ∧ gm_sz (M.set id (kd, sl')) = gm_sz M := by
  refine ⟨List.length_set, ?_⟩
  unfold gm_sz
  have e : (M.set id (kd, sl')).map (fun c => c.2.length) = M.map (fun c => c.2.length) := by
    apply List.ext_getElem?
    intro j
    rw [List.getElem?_map, List.getElem?_map, List.getElem?_set]
    by_cases hj : id = j
    · subst hj
      have hlt := (List.getElem?_eq_some_iff.mp h).1
      rw [if_pos rfl, if_pos hlt, h]
      simp [hl]
    · rw [if_neg hj]
  rw [e]
/-- a field of a class, as a method of a class links it -/
def FL (own : String) (idx ci k : Nat) (t : FieldType) (fin : Bool) : Prop := ∃ (Cn : String) (T : u_T) (N : Nat) (ty : Nat → FieldType), vwCl[ci]? = some (Cn, T, N) ∧ ci < 10 ∧ (∀ w ∈ u_ws Cn T N, w ∈ lw_g) ∧ k < N ∧ Cond.fieldLink own idx (T k).1 (T k).2.1 (T k).2.2.1 ∈ lw_g ∧ (∀ k, k < N → parseFieldDescriptor (T k).2.2.1 = some (ty k)) ∧ (∀ a, a < N → ∀ b, b < N → a ≠ b → (T a).2.1 ≠ (T b).2.1) ∧ ty k = t ∧ (T k).2.2.2 = fin ∧ (T k).1 = Cn
theorem wa_get {C : CX} {X : MX} (h : XOK C X) {pc idx ci k : Nat} {t : FieldType} {fin : Bool} (hf : FL (c_own C) idx ci k t fin) (hd : decode (c_cc C) pc = .ok (.getfield idx, 3)) {L st : List Value} {M : GM} {id : Nat} {sl : List Value} {v : Value} (hM : M[id]? = some (ci, sl)) (hv : sl[k]? = some v) (w : WA X (pc + 3) L (v :: st) M) : WA X pc L (.ref id :: st) M := by
  obtain ⟨Cn, T, N, ty, f1, f2, f3, f4, f5, f6, f7, f8, f9, f10⟩ := hf
  intro hm ls H locs hl hP hS
  exact va_get (ref := (T k).1) h.1 h.2.1 h.2.2.2.2.1 f3 h.2.2.2.1 h.K hP.1 id (gm_ob hM f2) f1 k f4 (h.T f5) (fun x hx => hx) (by rw [List.getElem?_map, hv]; rfl) hd (w hm ls H locs hl hP hS)
theorem vmap_set (ad : Nat → Nat) (sl : List Value) (k : Nat) (v : Value) : (sl.map (tv ad)).set k (tv ad v) = (sl.set k v).map (tv ad) := (List.map_set).symm
theorem wa_put {C : CX} {X : MX} (h : XOK C X) {pc idx ci k : Nat} {t : FieldType} (hf : FL (c_own C) idx ci k t false) (hd : decode (c_cc C) pc = .ok (.putfield idx, 3)) {L st : List Value} {M : GM} {id : Nat} {sl : List Value} {v : Value} (hM : M[id]? = some (ci, sl)) (hk : k < sl.length) (hle : gm_le M (x_tg X).2) (hn : narrow t (tv (k_ad (x_K X)) v) = tv (k_ad (x_K X)) v) (hfit : fits t (tv (k_ad (x_K X)) v) = true) (w : WA X (pc + 3) L st (M.set id (ci, sl.set k v))) : WA X pc L (v :: .ref id :: st) M := by
  obtain ⟨Cn, T, N, ty, f1, f2, f3, f4, f5, f6, f7, f8, f9, f10⟩ := hf
  intro hm ls H locs hl hP hS
  have hset := gm_set_le (sl' := sl.set k v) hM List.length_set
  have hD := h.D hle
  have he := gm_ob (K := x_K X) hM f2
  have hap := va_apart (own := c_own C) h.2.2.2.2.1 f3 ty f6 f7 h.K f1
  obtain ⟨r, h1, cell, q1, q2, q3, q4⟩ := hP.1 id _ he
  have hr : r = (Cn, T, N) := Option.some.inj (h1.symm.trans f1)
  subst hr
  obtain ⟨hS1, hfc, kC, hkC, hkind⟩ := h.K.1 ci _ f1
  obtain ⟨cf, kf, fi, f, hi, hsl⟩ := hS1 k f4
  have hlay := h.2.2.2.2.1 _ (f3 _ (u_in_lay f4))
  unfold u_lay at hlay
  rw [if_neg (by rw [f9]; decide)] at hlay
  have hst := (u_facts hfc hkC (u_lays h.2.2.2.2.1 f3 f4) hi).1
  have h6 := u_store hfc hkC hkind hlay hi (by rw [← f8]; exact f6 k f4) hn hfit
  refine W.putK h.1 h.2.1 (f := f) ⟨h.2.2.2.1, h.T f5, ⟨_, _, _, hi⟩, hst⟩ (by rw [q2]; exact h6) q1 q3 (by rw [hsl]; exact k2_hasslot (q4 k f4)) rfl rfl hd fun H' e1 e2 e3 => ?_
  rw [hsl] at e1 ⊢
  have hP' := hP.1.set hD he (e := .inr (ci, (sl.map (tv (k_ad (x_K X)))).set k (tv (k_ad (x_K X)) v))) ⟨_, f1, t_OB.to (V := updV (vp_V (sl.map (tv (k_ad (x_K X))))) k (tv (k_ad (x_K X)) v)) ⟨_, e1, q2, q3, t_set q4 hap f4 _⟩ (fun j _ => vp_updV_set (by rw [List.length_map]; exact hk) _ j)⟩ e3
  have e4 : (gm_ws (x_K X) M).set id (k_ad (x_K X) id, .inr (ci, (sl.map (tv (k_ad (x_K X)))).set k (tv (k_ad (x_K X)) v))) = gm_ws (x_K X) (M.set id (ci, sl.set k v)) := by
    rw [← gm_ws_set]
    congr 2
    simp only [gm_cv, if_pos f2, vmap_set]
  rw [e4] at hP'
  have w' := fun lc hS' => w (by unfold gm_le; rw [hset.1, hset.2]; exact hm) ls H' lc hl ⟨hP', by rw [e2, hP.2, hset.1]⟩ hS'
  simp only [hset.1, hset.2] at w'
  exact w' _ (hS.put e2 e3 (hD.2 id _ he))
theorem wa_putF {C : CX} {X : MX} (h : XOK C X) {pc idx ci k : Nat} {t : FieldType} (hf : FL (c_own C) idx ci k t true) (hcn : ∀ q, vwCl[ci]? = some q → q.1 = c_own C) (hnm : c_nm C = "<init>") (hd : decode (c_cc C) pc = .ok (.putfield idx, 3)) {L st : List Value} {M : GM} {id : Nat} {sl : List Value} {v : Value} (hM : M[id]? = some (ci, sl)) (hk : k < sl.length) (hle : gm_le M (x_tg X).2) (hn : narrow t (tv (k_ad (x_K X)) v) = tv (k_ad (x_K X)) v) (hfit : fits t (tv (k_ad (x_K X)) v) = true) (w : WA X (pc + 3) L st (M.set id (ci, sl.set k v))) : WA X pc L (v :: .ref id :: st) M := by
  obtain ⟨Cn, T, N, ty, f1, f2, f3, f4, f5, f6, f7, f8, f9, f10⟩ := hf
  intro hm ls H locs hl hP hS
  have hset := gm_set_le (sl' := sl.set k v) hM List.length_set
  have hD := h.D hle
  have he := gm_ob (K := x_K X) hM f2
  have hap := va_apart (own := c_own C) h.2.2.2.2.1 f3 ty f6 f7 h.K f1
  obtain ⟨r, h1, cell, q1, q2, q3, q4⟩ := hP.1 id _ he
  have hr : r = (Cn, T, N) := Option.some.inj (h1.symm.trans f1)
  subst hr
  obtain ⟨hS1, hfc, kC, hkC, hkind⟩ := h.K.1 ci _ f1
  obtain ⟨cf, kf, fi, f, hi, hsl⟩ := hS1 k f4
  have hlay := h.2.2.2.2.1 _ (f3 _ (u_in_lay f4))
  unfold u_lay at hlay
  rw [if_pos f9] at hlay
  have hst := (u_facts hfc hkC (u_lays h.2.2.2.2.1 f3 f4) hi).1
  have hcf : (x_m X).cls = cf := by
    obtain ⟨_, _, c', _, _, _, -, -, hf', -, -, -, hown2, -⟩ := Cond.laysFinal_spec hlay
    have e1 : c' = cf := by have := hi.symm.trans hf'; simp at this; exact this.1.symm
    rw [f10, show Cn = c_own C from hcn _ f1] at hown2
    rw [← e1]; exact Option.some.inj (h.2.2.2.1.symm.trans hown2)
  have h6 := u_fits hfc hkC hkind (Or.inr hlay) hi (by rw [← f8]; exact f6 k f4) hn hfit
  refine W.putFinK h.1 h.2.1 h.2.2.2.1 (h.T f5) hi hst hcf (h.2.2.2.2.2.2.2.2.2.2.2.1 hnm) (by rw [q2]; exact h6) q1 q3 (by rw [hsl]; exact k2_hasslot (q4 k f4)) rfl rfl hd fun H' e1 e2 e3 => ?_
  rw [hsl] at e1 ⊢
  have hP' := hP.1.set hD he (e := .inr (ci, (sl.map (tv (k_ad (x_K X)))).set k (tv (k_ad (x_K X)) v))) ⟨_, f1, t_OB.to (V := updV (vp_V (sl.map (tv (k_ad (x_K X))))) k (tv (k_ad (x_K X)) v)) ⟨_, e1, q2, q3, t_set q4 hap f4 _⟩ (fun j _ => vp_updV_set (by rw [List.length_map]; exact hk) _ j)⟩ e3
  have e4 : (gm_ws (x_K X) M).set id (k_ad (x_K X) id, .inr (ci, (sl.map (tv (k_ad (x_K X)))).set k (tv (k_ad (x_K X)) v))) = gm_ws (x_K X) (M.set id (ci, sl.set k v)) := by
    rw [← gm_ws_set]
    congr 2
    simp only [gm_cv, if_pos f2, vmap_set]
  rw [e4] at hP'
  have w' := fun lc hS' => w (by unfold gm_le; rw [hset.1, hset.2]; exact hm) ls H' lc hl ⟨hP', by rw [e2, hP.2, hset.1]⟩ hS'
  simp only [hset.1, hset.2] at w'
  exact w' _ (hS.put e2 e3 (hD.2 id _ he))
theorem iOf_set (sl : List Value) (k : Nat) (hk : k < sl.length) (x : Int32) : (fun j => iOf ((sl.set k (.int x)).getD j .null)) = upd (fun j => iOf (sl.getD j .null)) k x := by
  funext j
  unfold upd
  by_cases hj : j = k
  · subst hj
    simp [List.getD_eq_getElem?_getD, hk, iOf]
  · rw [if_neg hj]
    simp [List.getD_eq_getElem?_getD, List.getElem?_set, Ne.symm hj]
theorem vpi_of {i : Int32} {n : Nat} (h0 : 0 ≤ i) (hn : i.toNatClampNeg < n) : vp_in i n := fun h => h.elim (fun h => absurd h0 (Int32.not_le.mpr h)) (fun h => absurd hn (Nat.not_lt.mpr h))
theorem wa_iald {C : CX} {X : MX} (h : XOK C X) {pc : Nat} (hd : decode (c_cc C) pc = .ok (.iaload, 1)) {L st : List Value} {M : GM} {id : Nat} {sl : List Value} {i v : Int32} (hM : M[id]? = some (10, sl)) (h0 : 0 ≤ i) (hv : sl[i.toNatClampNeg]? = some (.int v)) (w : WA X (pc + 1) L (.int v :: st) M) : WA X pc L (.int i :: .ref id :: st) M := by
  intro hm ls H locs hl hP hS
  refine va_iald h.1 h.2.1 h.K hP.1 id 0 (gm_ia hM) rfl (vpi_of h0 (List.getElem?_eq_some_iff.mp hv).1) hd ?_
  have e : iOf (sl.getD i.toNatClampNeg .null) = v := by simp [List.getD_eq_getElem?_getD, hv, iOf]
  simp only [e]
  exact w hm ls H locs hl hP hS
theorem wa_iald_st {C : CX} {X : MX} (h : XOK C X) {pc : Nat} (hd : decode (c_cc C) pc = .ok (.iaload, 1)) {L st : List Value} {M : GM} {id : Nat} {q : String × List Int32} {i v : Int32} (hM : st_tab[id]? = some q) (h0 : 0 ≤ i) (hv : q.2[i.toNatClampNeg]? = some v) (w : WA X (pc + 1) L (.int v :: st) M) : WA X pc L (.int i :: .ref (SPB + id) :: st) M := by
  intro hm ls H locs hl hP hS
  exact va_ti h.1 h.2.1 (h.I.1 id q hM).2 hS (vpi_of h0 (List.getElem?_eq_some_iff.mp hv).1) (v := .int v) (by simp [List.getD_eq_getElem?_getD, hv]) hd (w hm ls H locs hl hP hS)
theorem wa_iast {C : CX} {X : MX} (h : XOK C X) {pc : Nat} (hd : decode (c_cc C) pc = .ok (.iastore, 1)) {L st : List Value} {M : GM} {id : Nat} {sl : List Value} {i x : Int32} (hM : M[id]? = some (10, sl)) (h0 : 0 ≤ i) (hi : i.toNatClampNeg < sl.length) (hle : gm_le M (x_tg X).2) (w : WA X (pc + 1) L st (M.set id (10, sl.set i.toNatClampNeg (.int x)))) : WA X pc L (.int x :: .int i :: .ref id :: st) M := by
  intro hm ls H locs hl hP hS
  have hset := gm_set_le (sl' := sl.set i.toNatClampNeg (.int x)) hM List.length_set
  have hD := h.D hle
  have ha := gm_ia (K := x_K X) hM
  refine W.iast h.1 h.2.1 (hP.1 id _ ha) ((h.K.2 0 _ rfl).1 sl.length (fun j => .int (iOf (sl.getD j .null)))) (fun q => by cases q) (by show ¬ (i < 0 ∨ (arrV _ _ _).slots.size ≤ _); rw [arrV_size]; exact vpi_of h0 hi) rfl rfl hd fun H1 e z oq => ?_
  have hP' := hP.1.set hD ha (e := gm_cv (x_K X) (10, sl.set i.toNatClampNeg (.int x))) (by
    show H1[_]? = some (vp_cell _ (_, .inl _))
    rw [e, vp_cell_i, vp_cell_i, arrV_store]
    simp only [List.length_set]
    congr 2
    funext q
    have hq2 : iOf ((sl.set i.toNatClampNeg (.int x)).getD q .null) = upd (fun j => iOf (sl.getD j .null)) i.toNatClampNeg x q := congrFun (iOf_set sl _ hi x) q
    rw [hq2]
    by_cases hq : q = i.toNatClampNeg
    · subst hq
      simp [updV, upd]
    · simp [updV, upd, hq]) oq
  rw [gm_ws_set] at hP'
  have w' := fun lc hS' => w (by unfold gm_le; rw [hset.1, hset.2]; exact hm) ls H1 lc hl ⟨hP', by rw [z, hP.2, hset.1]⟩ hS'
  simp only [hset.1, hset.2] at w'
  exact w' _ (hS.put z oq (hD.2 id _ ha))
theorem wa_aald {C : CX} {X : MX} (h : XOK C X) {pc t : Nat} (ht : t < 2) (hd : decode (c_cc C) pc = .ok (.aaload, 1)) {L st : List Value} {M : GM} {id r : Nat} {sl : List Value} {i : Int32} (hM : M[id]? = some (11 + t, sl)) (h0 : 0 ≤ i) (hv : sl[i.toNatClampNeg]? = some (.ref r)) (w : WA X (pc + 1) L (.ref r :: st) M) : WA X pc L (.int i :: .ref id :: st) M := by
  intro hm ls H locs hl hP hS
  have e : rOf (k_ad (x_K X)) (sl.getD i.toNatClampNeg .null) = some (k_ad (x_K X) r) := by simp [List.getD_eq_getElem?_getD, hv, rOf]
  have hw := w hm ls H locs hl hP hS
  have ht2 : t = 0 ∨ t = 1 := by omega
  rcases ht2 with rfl | rfl
  · refine va_aldq (C := RX0) h.1 h.2.1 h.K hP.1 id 1 (gm_ra hM) rfl (vpi_of h0 (List.getElem?_eq_some_iff.mp hv).1) hd ?_
    simp only [e]
    exact hw
  · refine va_aldq (C := RX2) h.1 h.2.1 h.K hP.1 id 2 (gm_ra hM) rfl (vpi_of h0 (List.getElem?_eq_some_iff.mp hv).1) hd ?_
    simp only [e]
    exact hw
theorem wa_alen {C : CX} {X : MX} (h : XOK C X) {pc : Nat} (hd : decode (c_cc C) pc = .ok (.arraylength, 1)) {L st : List Value} {M : GM} {id : Nat} {sl : List Value} (hM : M[id]? = some (10, sl)) (w : WA X (pc + 1) L (.int (Int32.ofNat sl.length) :: st) M) : WA X pc L (.ref id :: st) M := by
  intro hm ls H locs hl hP hS
  exact va_alen h.1 h.2.1 h.K hP.1 id 0 (gm_ia hM) rfl rfl hd (w hm ls H locs hl hP hS)
