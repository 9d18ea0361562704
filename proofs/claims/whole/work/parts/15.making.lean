/-! making cells -/
theorem gm_push_le (M : GM) (c : Nat × List Value) : (M ++ [c]).length = M.length + 1 ∧ gm_sz (M ++ [c]) = gm_sz M + c.2.length := by
  refine ⟨by simp, ?_⟩
  unfold gm_sz
  simp
theorem gm_push_ge (M : GM) (c : Nat × List Value) : gm_le M (M ++ [c]) := by
  have e := gm_push_le M c
  unfold gm_le
  rw [e.1, e.2]
  omega
/-- the world behind a new cell at the heap's end -/
theorem gm_pushed {C : CX} {X : MX} (h : XOK C X) {M : GM} {c : Nat × List Value} {H H1 : Heap} {locs : List Loc} (hle : gm_le (M ++ [c]) (x_tg X).2) (hP : gm_H (x_K X) M H) (hS : va_S (k_A (x_K X)) (x_s X).heap H locs) (z : H1.size = H.size + 1) (oq : ∀ q, q < H.size → H1[q]? = H[q]?) (hat : va_at (k_D (x_K X)) vwCl (H.size, gm_cv (x_K X) c) H1) : k_ad (x_K X) M.length = H.size ∧ gm_H (x_K X) (M ++ [c]) H1 ∧ va_S (k_A (x_K X)) (x_s X).heap H1 locs := by
  have hl : M.length < SPB := by
    have h1 := hle.1
    rw [(gm_push_le M c).1] at h1
    exact Nat.lt_of_lt_of_le (Nat.lt_succ_self _) (Nat.le_trans h1 (Nat.le_of_lt h.2.2.2.2.2.2.2.2.2.1))
  have ead : k_ad (x_K X) M.length = H.size := by rw [h.2.2.2.2.2.2.1 _ hl, hP.2]
  refine ⟨ead, ⟨?_, by rw [z, hP.2, (gm_push_le M c).1]; omega⟩, ⟨Nat.le_trans hS.1 (by omega), fun q h1 h2 => (oq q (Nat.lt_of_lt_of_le h1 hS.1)).trans (hS.2.1 q h1 h2), hS.2.2⟩⟩
  rw [gm_ws_push]
  refine va_P.app (fun k q hk => (hP.1 k q hk).kept (oq q.1 (hP.1 k q hk).lt)) (fun k q hk => ?_)
  have hz : k < 1 := (List.getElem?_eq_some_iff.mp hk).1
  rw [show k = 0 by omega] at hk
  cases hk
  rw [ead]
  exact hat
theorem gm_room {C : CX} {X : MX} (h : XOK C X) {M : GM} {c : Nat × List Value} (hm : gm_le (x_M0 X) M) (hle : gm_le (M ++ [c]) (x_tg X).2) : M.length - (x_M0 X).length + 1 ≤ (x_R X).cells ∧ gm_sz M - gm_sz (x_M0 X) + c.2.length ≤ (x_R X).slots ∧ (M ++ [c]).length - (x_M0 X).length = M.length - (x_M0 X).length + 1 ∧ gm_sz (M ++ [c]) - gm_sz (x_M0 X) = gm_sz M - gm_sz (x_M0 X) + c.2.length := by
  have e := gm_push_le M c
  have h1 := h.2.2.2.2.2.2.2.2.1.2.2
  have h2 := hle
  unfold gm_le at h2 hm
  rw [e.1, e.2] at h2
  rw [e.1, e.2]
  omega
theorem wa_new {C : CX} {X : MX} (h : XOK C X) {pc idx ci N : Nat} {Cn : String} {T : u_T} {ty : Nat → FieldType} {fs : List Value} (f1 : vwCl[ci]? = some (Cn, T, N)) (f2 : ci < 10) (f3 : ∀ w ∈ u_ws Cn T N, w ∈ lw_g) (f6 : ∀ k, k < N → parseFieldDescriptor (T k).2.2.1 = some (ty k)) (hfl : fs.length = N) (hfs : ∀ (ad : Nat → Nat) j, j < N → defaultValue (ty j) = vp_V (fs.map (tv ad)) j) (hcl : Cond.classLink (c_own C) idx Cn ∈ lw_g) (hin : Cond.instantiable Cn N ∈ lw_g) (hini : Cond.initialized Cn ∈ lw_g) (hd : decode (c_cc C) pc = .ok (.new idx, 3)) {L st : List Value} {M : GM} (hle : gm_le (M ++ [(ci, fs)]) (x_tg X).2) (w : WA X (pc + 3) L (.ref M.length :: st) (M ++ [(ci, fs)])) : WA X pc L st M := by
  intro hm ls H locs hl hP hS
  have hr := gm_room h hm hle
  simp only [hfl] at hr
  have hKn := h.K.1 ci _ f1
  refine W.newcK h.1 h.2.1 h.2.2.2.1 (h.T hcl) (h.T hin) (h.T hini) rfl hd hr.1 hr.2.1 hKn.2.1 rfl fun H1 kC hkC e1 z1 o1 => ?_
  have hp := gm_pushed (c := (ci, fs)) (H1 := H1) h hle hP hS z1 o1 (by
    simp only [gm_cv, if_pos f2]
    exact ⟨_, f1, (u_born ty h.2.2.2.2.1 f3 hKn hkC e1 f6).to (hfs _)⟩)
  have w' := w (hm.tr (gm_push_ge _ _)) ls H1 locs hl hp.2.1 hp.2.2
  rw [hr.2.2.1, hr.2.2.2] at w'
  have e5 : (Value.ref M.length :: st).map (tv (k_ad (x_K X))) = Value.ref H.size :: st.map (tv (k_ad (x_K X))) := by
    show Value.ref (k_ad (x_K X) M.length) :: _ = _
    rw [hp.1]
  rw [e5] at w'
  exact w'
theorem iOf_rep (n : Nat) : (fun j => iOf ((List.replicate n (Value.int 0)).getD j .null)) = fun _ => (0 : Int32) := by
  funext j
  by_cases h : j < n
  · simp [List.getD_eq_getElem?_getD, List.getElem?_replicate, h, iOf]
  · simp [List.getD_eq_getElem?_getD, List.getElem?_replicate, h, iOf]
theorem wa_newi {C : CX} {X : MX} (h : XOK C X) {pc : Nat} (hcl : Cond.arrayClass .int ∈ lw_g) (hd : decode (c_cc C) pc = .ok (.newarray .int, 2)) {L st : List Value} {M : GM} {n : Int32} (h0 : 0 ≤ n) (hn : n.toNatClampNeg ≤ 1000) (hle : gm_le (M ++ [(10, List.replicate n.toNatClampNeg (.int 0))]) (x_tg X).2) (w : WA X (pc + 2) L (.ref M.length :: st) (M ++ [(10, List.replicate n.toNatClampNeg (.int 0))])) : WA X pc L (.int n :: st) M := by
  intro hm ls H locs hl hP hS
  have hr := gm_room h hm hle
  simp only [List.length_replicate] at hr
  refine va_newaK (atype := .int) h.1 h.2.1 (h.T hcl) rfl hd rfl (Int32.not_lt.mpr h0) rfl (by show _ * 4 ≤ _; omega) hr.1 hr.2.1 rfl fun H1 cA e1 z1 o1 hAr hNm => ?_
  have hcA : cA = k_cA (x_K X) 0 := by
    have h2 := (h.K.2 0 _ rfl).2
    exact Option.some.inj (hNm.symm.trans h2)
  have hp := gm_pushed (c := (10, List.replicate n.toNatClampNeg (.int 0))) (H1 := H1) h hle hP hS z1 o1 (by
    show H1[H.size]? = some (vp_cell (k_cA (x_K X) 0) ((List.replicate n.toNatClampNeg (Value.int 0)).length, .inl _))
    rw [iOf_rep, List.length_replicate, e1, hcA]
    rfl)
  have w' := w (hm.tr (gm_push_ge _ _)) ls H1 locs hl hp.2.1 hp.2.2
  rw [hr.2.2.1, hr.2.2.2] at w'
  have e5 : (Value.ref M.length :: st).map (tv (k_ad (x_K X))) = Value.ref H.size :: st.map (tv (k_ad (x_K X))) := by
    show Value.ref (k_ad (x_K X) M.length) :: _ = _
    rw [hp.1]
  rw [e5] at w'
  exact w'
theorem rOf_rep (ad : Nat → Nat) (n : Nat) : (fun j => rOf ad ((List.replicate n Value.null).getD j .null)) = fun _ => none := by
  funext j
  by_cases h : j < n
  · simp [List.getD_eq_getElem?_getD, List.getElem?_replicate, h, rOf]
  · simp [List.getD_eq_getElem?_getD, List.getElem?_replicate, h, rOf]
theorem wa_newq {C : CX} {X : MX} (h : XOK C X) {pc idx t : Nat} {Cn : String} (ht : (k_tys (x_K X))[1 + t]? = some (k_cA (x_K X) (1 + t), .object Cn)) (hov : va_AO Cn (x_s X)) (hcl : Cond.classLink (c_own C) idx Cn ∈ lw_g) (hd : decode (c_cc C) pc = .ok (.anewarray idx, 3)) {L st : List Value} {M : GM} {n : Int32} (h0 : 0 ≤ n) (hn : n.toNatClampNeg ≤ 1000) (hle : gm_le (M ++ [(11 + t, List.replicate n.toNatClampNeg .null)]) (x_tg X).2) (w : WA X (pc + 3) L (.ref M.length :: st) (M ++ [(11 + t, List.replicate n.toNatClampNeg .null)])) : WA X pc L (.int n :: st) M := by
  intro hm ls H locs hl hP hS
  have hr := gm_room h hm hle
  simp only [List.length_replicate] at hr
  refine W.anew h.1 h.2.1 h.2.2.2.1 (h.T hcl) (va_AO.use hov) rfl hd rfl (Int32.not_lt.mpr h0) (by omega) hr.1 hr.2.1 fun cA kA comp f1 f2 f3 f4 => ?_
  obtain ⟨kA', comp', g1, g2, g3, g4⟩ := (h.K.2 (1 + t) _ ht).2
  have hcA : cA = k_cA (x_K X) (1 + t) := Option.some.inj (f1.symm.trans g4)
  generalize hH1 : H.push ({ cls := cA, slots := Array.replicate n.toNatClampNeg .null, vm := .none } : Cell) = H1
  have z1 : H1.size = H.size + 1 := by rw [← hH1, Array.size_push]
  have e1 : H1[H.size]? = some (arrV cA n.toNatClampNeg (fun _ => .null)) := by rw [← hH1, Array.getElem?_push_size, ← arrV_new]
  have o1 : ∀ q : Nat, q < H.size → H1[q]? = H[q]? := fun q hq => by rw [← hH1, Array.getElem?_push, if_neg (Nat.ne_of_lt hq)]
  have hp := gm_pushed (c := (11 + t, List.replicate n.toNatClampNeg .null)) (H1 := H1) h hle hP hS z1 o1 (by
    have h1 : ¬ (11 + t < 10) := by omega
    have h2 : ¬ (11 + t = 10) := by omega
    have h3 : 11 + t - 10 = 1 + t := by omega
    simp only [gm_cv, if_neg h1, if_neg h2, h3, rOf_rep, List.length_replicate]
    show H1[H.size]? = some (vp_cell (k_cA (x_K X) (1 + t)) (n.toNatClampNeg, .inr (.inr (.inr (.inr _)))))
    rw [e1, hcA]
    rfl)
  have w' := w (hm.tr (gm_push_ge _ _)) ls H1 locs hl hp.2.1 hp.2.2
  rw [hr.2.2.1, hr.2.2.2] at w'
  have e5 : (Value.ref M.length :: st).map (tv (k_ad (x_K X))) = Value.ref H.size :: st.map (tv (k_ad (x_K X))) := by
    show Value.ref (k_ad (x_K X) M.length) :: _ = _
    rw [hp.1]
  rw [e5] at w'
  exact w'
def e_newi (n : DE Int32) : DE Nat := fun L M => (n L M).bind fun p => if 0 ≤ p.1 ∧ p.1.toNatClampNeg ≤ 1000 then some (p.2.length, p.2 ++ [(10, List.replicate p.1.toNatClampNeg (.int 0))]) else none
def e_newq (t : Nat) (n : DE Int32) : DE Nat := fun L M => (n L M).bind fun p => if 0 ≤ p.1 ∧ p.1.toNatClampNeg ≤ 1000 then some (p.2.length, p.2 ++ [(11 + t, List.replicate p.1.toNatClampNeg .null)]) else none
theorem ec_newi {C : CX} {k pc p1 : Nat} {n : DE Int32} (hn : EC C Value.int k pc p1 n) (hcl : Cond.arrayClass .int ∈ lw_g) (hd : decode (c_cc C) p1 = .ok (.newarray .int, 2)) : EC C Value.ref k pc (p1 + 2) (e_newi n) := by
  intro L M v M' he
  obtain ⟨⟨x, M1⟩, h1, h2⟩ := bind_some he
  obtain ⟨g, w⟩ := hn L M x _ h1
  by_cases hx : 0 ≤ x ∧ x.toNatClampNeg ≤ 1000
  · rw [if_pos hx] at h2
    cases h2
    exact ⟨g.tr (gm_push_ge _ _), fun X hX st hk hf ww => w X hX st hk ((gm_push_ge _ _).tr hf) (wa_newi hX hcl hd hx.1 hx.2 hf ww)⟩
  · rw [if_neg hx] at h2; cases h2
theorem ec_newq {C : CX} {k pc p1 idx t : Nat} {Cn : String} {n : DE Int32} (ht : (t = 0 ∧ Cn = RX0) ∨ (t = 1 ∧ Cn = RX2)) (hn : EC C Value.int k pc p1 n) (hcl : Cond.classLink (c_own C) idx Cn ∈ lw_g) (hd : decode (c_cc C) p1 = .ok (.anewarray idx, 3)) : EC C Value.ref k pc (p1 + 3) (e_newq t n) := by
  intro L M v M' he
  obtain ⟨⟨x, M1⟩, h1, h2⟩ := bind_some he
  obtain ⟨g, w⟩ := hn L M x _ h1
  by_cases hx : 0 ≤ x ∧ x.toNatClampNeg ≤ 1000
  · rw [if_pos hx] at h2
    cases h2
    refine ⟨g.tr (gm_push_ge _ _), fun X hX st hk hf ww => w X hX st hk ((gm_push_ge _ _).tr hf) (wa_newq hX ?_ ?_ hcl hd hx.1 hx.2 hf ww)⟩
    · rcases ht with ⟨rfl, rfl⟩ | ⟨rfl, rfl⟩ <;> rfl
    · rcases ht with ⟨rfl, rfl⟩ | ⟨rfl, rfl⟩
      · exact hX.I.2.2.2.2.1
      · exact hX.I.2.2.2.2.2
  · rw [if_neg hx] at h2; cases h2
/-! a cell into an array of cells -/
def s_aas (t ci : Nat) (r : DE Nat) (ix : DE Int32) (e : DE Nat) : SD := fun L M => (r L M).bind fun p => (ix L p.2).bind fun q => (e L q.2).bind fun u => if 0 ≤ q.1 then match u.2[p.1]?, u.2[u.1]? with
  | some c, some d => if c.1 = 11 + t ∧ q.1.toNatClampNeg < c.2.length ∧ d.1 = ci then some (.inl (L, u.2.set p.1 (11 + t, c.2.set q.1.toNatClampNeg (.ref u.1)))) else none
  | _, _ => none
  else none
theorem wa_aast {C : CX} {X : MX} (h : XOK C X) {pc t ci : Nat} {cl : vw_C} (htc : (t = 0 ∧ ci = 0) ∨ (t = 1 ∧ ci = 2)) (hc : vwCl[ci]? = some cl) (hd : decode (c_cc C) pc = .ok (.aastore, 1)) {L st : List Value} {M : GM} {id r : Nat} {sl vs : List Value} {i : Int32} (hM : M[id]? = some (11 + t, sl)) (hr : M[r]? = some (ci, vs)) (h0 : 0 ≤ i) (hi : i.toNatClampNeg < sl.length) (hle : gm_le M (x_tg X).2) (w : WA X (pc + 1) L st (M.set id (11 + t, sl.set i.toNatClampNeg (.ref r)))) : WA X pc L (.ref r :: .int i :: .ref id :: st) M := by
  intro hm ls H locs hl hP hS
  have hset := gm_set_le (sl' := sl.set i.toNatClampNeg (.ref r)) hM List.length_set
  have hD := h.D hle
  have ha := gm_ra (K := x_K X) hM
  have hci : ci < 10 := by rcases htc with ⟨-, rfl⟩ | ⟨-, rfl⟩ <;> decide
  have hv := gm_ob (K := x_K X) hr hci
  have ht : (k_tys (x_K X))[1 + t]? = some (k_cA (x_K X) (1 + t), .object cl.1) := by
    rcases htc with ⟨rfl, rfl⟩ | ⟨rfl, rfl⟩ <;> (cases hc; rfl)
  obtain ⟨r', hr', cellV, g1, g2, g3, -⟩ := hP.1 r _ hv
  have hcls := (h.K.1 ci cl hc).2
  obtain ⟨kA, comp, k1, k2, k3, -⟩ := (h.K.2 (1 + t) _ ht).2
  have hcomp : comp = (k_D (x_K X)).1 ci := Option.some.inj (k3.symm.trans hcls.1)
  subst hcomp
  obtain ⟨kC, hkC, -⟩ := hcls.2
  refine W.aast h.1 h.2.1 (hP.1 id _ ha) (fun q h => by cases h) (fun h => by cases h) k1 k2 rfl hkC ⟨Int32.not_lt.mpr h0, by show _ < (arrV _ _ _).slots.size; rw [arrV_size]; exact hi⟩ g1 (fun q h => by rw [g3] at h; cases h) (by rw [g2]; exact hkC) (by rw [g2]; exact va_assign hcls) rfl rfl hd fun H1 e z oq => ?_
  have hP' := hP.1.set hD ha (e := gm_cv (x_K X) (11 + t, sl.set i.toNatClampNeg (.ref r))) (by
    have h1 : ¬ (11 + t < 10) := by omega
    have h2 : ¬ (11 + t = 10) := by omega
    have h3 : 11 + t - 10 = 1 + t := by omega
    simp only [gm_cv, if_neg h1, if_neg h2, h3, List.length_set]
    show H1[_]? = some (vp_cell _ (_, .inr (.inr (.inr (.inr _)))))
    rw [e, vp_cell_q, vp_cell_q, arrV_store]
    congr 2
    funext q
    by_cases hq : q = i.toNatClampNeg
    · subst hq
      simp [updV, List.getD_eq_getElem?_getD, hi, rOf, va_rf]
    · simp [updV, hq, List.getD_eq_getElem?_getD, List.getElem?_set, Ne.symm hq]) oq
  rw [gm_ws_set] at hP'
  have w' := fun lc hS' => w (by unfold gm_le; rw [hset.1, hset.2]; exact hm) ls H1 lc hl ⟨hP', by rw [z, hP.2, hset.1]⟩ hS'
  simp only [hset.1, hset.2] at w'
  exact w' _ (hS.put z oq (hD.2 id _ ha))
theorem sc_aas {C : CX} {pc p1 p2 p3 t ci : Nat} {cl : vw_C} {r e : DE Nat} {ix : DE Int32} (htc : (t = 0 ∧ ci = 0) ∨ (t = 1 ∧ ci = 2)) (hc : vwCl[ci]? = some cl) (hr : EC C Value.ref 0 pc p1 r) (hi : EC C Value.int 1 p1 p2 ix) (hv : EC C Value.ref 2 p2 p3 e) (hd : decode (c_cc C) p3 = .ok (.aastore, 1)) : SC C pc (p3 + 1) (s_aas t ci r ix e) := by
  intro L M rr he
  obtain ⟨⟨id, M1⟩, h1, h2⟩ := bind_some he
  obtain ⟨⟨i, M2⟩, h3, h4⟩ := bind_some h2
  obtain ⟨⟨x, M3⟩, h5, h6⟩ := bind_some h4
  obtain ⟨g1, w1⟩ := hr L M id _ h1
  obtain ⟨g2, w2⟩ := hi L M1 i _ h3
  obtain ⟨g3, w3⟩ := hv L M2 x _ h5
  simp only at h6
  by_cases h0 : 0 ≤ i
  · rw [if_pos h0] at h6
    split at h6
    · rename_i c d hc1 hd1
      by_cases hh : c.1 = 11 + t ∧ i.toNatClampNeg < c.2.length ∧ d.1 = ci
      · rw [if_pos hh] at h6
        obtain ⟨e1, e2, e3⟩ := hh
        cases h6
        obtain ⟨a, sl⟩ := c
        obtain ⟨b, vs⟩ := d
        simp only at e1 e2 e3
        subst e1; subst e3
        have g4 := (gm_set_ge (sl' := sl.set i.toNatClampNeg (.ref x)) hc1 List.length_set).1
        exact ⟨g1.tr (g2.tr (g3.tr g4)), fun X hX hf w => w1 X hX [] (Nat.le_refl _) (g2.tr (g3.tr (g4.tr hf))) (w2 X hX [.ref id] (Nat.le_refl _) (g3.tr (g4.tr hf)) (w3 X hX [.int i, .ref id] (Nat.le_refl _) (g4.tr hf) (wa_aast hX htc hc hd hc1 hd1 h0 e2 (g4.tr hf) w)))⟩
      · rw [if_neg hh] at h6; cases h6
    · cases h6
  · rw [if_neg h0] at h6; cases h6
