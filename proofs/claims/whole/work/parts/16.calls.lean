/-! copying -/
def l_cpy (a b : List Value) (sp dp n : Nat) : List Value := b.take dp ++ ((a.drop sp).take n ++ b.drop (dp + n))
theorem l_cpy_len {a b : List Value} {sp dp n : Nat} (h1 : sp + n ≤ a.length) (h2 : dp + n ≤ b.length) : (l_cpy a b sp dp n).length = b.length := by
  unfold l_cpy; simp; omega
theorem l_cpy_at {a b : List Value} {sp dp n : Nat} (h1 : sp + n ≤ a.length) (h2 : dp + n ≤ b.length) (j : Nat) : (l_cpy a b sp dp n)[j]? = if dp ≤ j ∧ j < dp + n then a[sp + (j - dp)]? else b[j]? := by
  unfold l_cpy
  have hl : (b.take dp).length = dp := by simp; omega
  have hm : ((a.drop sp).take n).length = n := by simp; omega
  by_cases c1 : j < dp
  · rw [List.getElem?_append_left (by omega), if_neg (by omega), List.getElem?_take, if_pos c1]
  · rw [List.getElem?_append_right (by omega), hl]
    by_cases c2 : j < dp + n
    · rw [List.getElem?_append_left (by omega), if_pos (by omega), List.getElem?_take, if_pos (by omega), List.getElem?_drop]
    · rw [List.getElem?_append_right (by omega), hm, if_neg (by omega), List.getElem?_drop]
      congr 1; omega
theorem iOf_cpy {a b : List Value} {sp dp n : Nat} (h1 : sp + n ≤ a.length) (h2 : dp + n ≤ b.length) : (fun j => iOf ((l_cpy a b sp dp n).getD j .null)) = va_cpy (fun j => iOf (a.getD j .null)) (fun j => iOf (b.getD j .null)) sp dp n := by
  funext j
  rw [List.getD_eq_getElem?_getD, l_cpy_at h1 h2]
  unfold va_cpy
  by_cases c : dp ≤ j ∧ j < dp + n
  · rw [if_pos c, if_pos c]; simp only [List.getD_eq_getElem?_getD]
  · rw [if_neg c, if_neg c]; simp only [List.getD_eq_getElem?_getD]
theorem gm_top {K : KX} {M : GM} {H : Heap} {i : Nat} {c : Nat × List Value} (hK : k_ok K) (hM : M.length < SPB) (hi : M[i]? = some c) (hP : va_P (k_D K) vwCl (gm_ws K M) H) : k_b K + M.length ≤ H.size := by
  have hl := (List.getElem?_eq_some_iff.mp hi).1
  have hlast : M[M.length - 1]? = some (M[M.length - 1]'(by omega)) := List.getElem?_eq_getElem (by omega)
  have h1 := (hP (M.length - 1) _ (gm_ws_of hlast)).lt
  simp only at h1
  rw [hK _ (by omega)] at h1
  omega
theorem wa_copy {C : CX} {X : MX} (h : XOK C X) {pc idx : Nat} (hl : Cond.methodLink (c_own C) idx arraycopyName ∈ lw_g) (hnat : Cond.native arraycopyName ∈ lw_g) (hstat : Cond.static arraycopyName ∈ lw_g) (hini : Cond.initialized "java/lang/System" ∈ lw_g) (hR : 1 ≤ c_fr C ∧ 18 ≤ c_lo C) (hd : decode (c_cc C) pc = .ok (.invokestatic idx, 3)) {L : List Value} {M : GM} {i0 i1 : Nat} {a b : List Value} {sp dp n : Int32} (h0 : M[i0]? = some (10, a)) (h1 : M[i1]? = some (10, b)) (p1 : 0 ≤ sp) (p2 : 0 ≤ dp) (p3 : 0 ≤ n) (p4 : sp.toNatClampNeg + n.toNatClampNeg ≤ a.length) (p5 : dp.toNatClampNeg + n.toNatClampNeg ≤ b.length) (hle : gm_le M (x_tg X).2) (w : WA X (pc + 3) L [] (M.set i1 (10, l_cpy a b sp.toNatClampNeg dp.toNatClampNeg n.toNatClampNeg))) : WA X pc L [.int n, .int dp, .ref i1, .int sp, .ref i0] M := by
  intro hm ls H locs hll hP hS
  have hset := gm_set_le (sl' := l_cpy a b sp.toNatClampNeg dp.toNatClampNeg n.toNatClampNeg) h1 (l_cpy_len p4 p5)
  have hD := h.D hle
  refine va_copyi (rest := []) h.1 h.2.1 hll.1.symm h.2.2.2.1 (h.T hl) (h.T hnat) (h.T hstat) (h.T hini) h.K hP.1 hD hS i0 i1 0 0 (gm_ia h0) (gm_ia h1) rfl rfl rfl (Int32.not_lt.mpr p1) (Int32.not_lt.mpr p2) (Int32.not_lt.mpr p3) p4 p5 (fun _ _ => rfl) (by rw [h.2.2.2.2.2.2.2.2.1.1]; exact hR.1) (by rw [h.2.2.2.2.2.2.2.2.1.2.1]; exact hR.2) hd fun H1 locs1 hP1 hD1 hS1 => ?_
  have e4 : (gm_ws (x_K X) M).set i1 (k_ad (x_K X) i1, .inl (k_cA (x_K X) 0, b.length, .inl (va_cpy (fun j => iOf (a.getD j .null)) (fun j => iOf (b.getD j .null)) sp.toNatClampNeg dp.toNatClampNeg n.toNatClampNeg))) = gm_ws (x_K X) (M.set i1 (10, l_cpy a b sp.toNatClampNeg dp.toNatClampNeg n.toNatClampNeg)) := by
    rw [← gm_ws_set]
    congr 2
    show _ = Sum.inl (k_cA (x_K X) 0, (l_cpy a b sp.toNatClampNeg dp.toNatClampNeg n.toNatClampNeg).length, Sum.inl _)
    rw [iOf_cpy p4 p5, l_cpy_len p4 p5]
  rw [e4] at hP1
  intro T hT XX
  have hlt : M.length < SPB := Nat.lt_of_le_of_lt hle.1 h.2.2.2.2.2.2.2.2.2.1
  have z1 : k_b (x_K X) + M.length ≤ H1.size := by
    have := gm_top (i := i1) (c := (10, l_cpy a b sp.toNatClampNeg dp.toNatClampNeg n.toNatClampNeg)) h.2.2.2.2.2.2.1 (by rw [hset.1]; exact hlt) (by rw [List.getElem?_set, if_pos rfl, if_pos (List.getElem?_eq_some_iff.mp h1).1]) hP1
    rw [hset.1] at this
    exact this
  have z2 : H1.size ≤ (x_s X).heap.size + (M.length - (x_M0 X).length) := by
    have := XX.same.2.2.1
    rw [← hT]
    exact this
  rw [h.2.2.2.2.2.2.2.2.2.2.1] at z2
  have hm1 := hm.1
  have w' := w (by unfold gm_le; rw [hset.1, hset.2]; exact hm) ls H1 locs1 hll ⟨hP1, by rw [hset.1]; omega⟩ hS1
  rw [hset.1, hset.2] at w'
  exact w' T hT XX
/-! arguments -/
def a_nil : DE (List Value) := fun _ M => some ([], M)
def a_snoc {α : Type} (inj : α → Value) (a : DE (List Value)) (e : DE α) : DE (List Value) := fun L M => (a L M).bind fun p => (e L p.2).bind fun q => some (p.1 ++ [inj q.1], q.2)
theorem ac_nil {C : CX} {k pc : Nat} : AC C k 0 pc pc a_nil := by
  intro L M vs M' he
  cases he
  exact ⟨rfl, gm_le.rf _, fun X hX st hk hf w => w⟩
theorem csum_append (a b : List Value) : csum (a ++ b) = csum a + csum b := by unfold csum; simp
theorem csum_reverse (a : List Value) : csum a.reverse = csum a := by
  induction a with
  | nil => rfl
  | cons x l ih => rw [List.reverse_cons, csum_append, ih, csum_cons, csum_cons]; show csum l + (x.category + 0) = _; omega
theorem ac_snoc {C : CX} {α : Type} {inj : α → Value} {k n c n2 k2 pc p1 p2 : Nat} {a : DE (List Value)} {e : DE α} (ha : AC C k n pc p1 a) (he : EC C inj k2 p1 p2 e) (hk2 : n + k = k2) (hc : ∀ x, (inj x).category = c) (hn2 : n + c = n2) : AC C k n2 pc p2 (a_snoc inj a e) := by
  intro L M vs M' h
  obtain ⟨⟨us, M1⟩, h1, h2⟩ := bind_some h
  obtain ⟨⟨x, M2⟩, h3, h4⟩ := bind_some h2
  cases h4
  obtain ⟨c1, g1, w1⟩ := ha L M us _ h1
  obtain ⟨g2, w2⟩ := he L M1 x _ h3
  refine ⟨by rw [csum_append, c1, ← hn2]; show n + ((inj x).category + 0) = _; rw [hc]; rfl, g1.tr g2, fun X hX st hk hf w => w1 X hX st hk (g2.tr hf) (w2 X hX (us.reverse ++ st) (by rw [csum_append, csum_reverse, c1, ← hk2]; omega) hf ?_)⟩
  simpa using w
/-! methods: what is known of one, its contract -/
abbrev MD : Type := MethodName × CX
def m_ws (d : MD) : List Cond := Cond.code d.1 (c_cc d.2) (c_nL d.2) (c_rt d.2) :: lw_g
def m_rm (d : MD) (M M' : GM) : Room := { frames := c_fr d.2, cells := M'.length - M.length, slots := gm_sz M' - gm_sz M, locals := c_lo d.2 }
def k_pre (K : KX) (M : GM) (U : State) : Prop := gm_H K M U.heap ∧ va_K (k_D K) vwCl (k_tys K) U ∧ k_inv K U U.heap
def rvOf (ad : Nat → Nat) (r : Value) : Option Value := match r with
  | .null => none
  | v => some (tv ad v)
def k_post (K : KX) (r : Value) (M' : GM) : Array Value → State → Outcome → State → Prop := fun _ st o t => o = .returned (rvOf (k_ad K) r) ∧ gm_H K M' t.heap ∧ va_F (k_A K) st t
def CALL (l : Launch) (K : KX) (d : MD) (vs : List Value) (M : GM) (r : Value) (M' : GM) : Prop := Met l d.1 (m_ws d) (m_rm d M M') (va_Pc (vs.map (tv (k_ad K))) (k_pre K M)) (k_post K r M') (M'.length - M.length) (gm_sz M' - gm_sz M) (k_A K)
def MS (d : MD) (D : List Value → GM → Option (Value × GM)) : Prop := ∀ vs M r M', D vs M = some (r, M') → gm_le M M' ∧ ∀ l K, k_ok K → M'.length < SPB → CALL l K d vs M r M'
def MOK (d : MD) (n : Nat) : Prop := Cond.initialized d.1.cls ∈ lw_g ∧ Cond.code d.1 (c_cc d.2) (c_nL d.2) (c_rt d.2) ∈ lw_g ∧ d.1.cls ≠ "java/lang/invoke/MethodHandle" ∧ d.1.cls ≠ "java/lang/invoke/VarHandle" ∧ (parseMethodDescriptor d.1.desc).map (fun d => d.parameters.length) = some n
theorem rv_st (ad : Nat → Nat) (r : Value) (st : List Value) : (rvOf ad r).toList ++ st.map (tv ad) = (retSt r ++ st).map (tv ad) := by cases r <;> rfl
theorem k_pre_blind (K : KX) (M : GM) (vs : List Value) : FrameBlind (va_Pc vs (k_pre K M)) := fun a U g mk q => ⟨q.1, q.2.1, va_K.moved (Vm.Alike.refl U.vm) q.2.2.1, k_inv.same (u := U) rfl q.2.2.2⟩
theorem k_pre_of {C : CX} {X : MX} (h : XOK C X) {M : GM} {H : Heap} {locs : List Loc} (hP : gm_H (x_K X) M H) (hS : va_S (k_A (x_K X)) (x_s X).heap H locs) (U : State) (hU : U.heap = H) (hW : (x_s X).WarmedH U.vm) : k_pre (x_K X) M U := ⟨by rw [hU]; exact hP, va_K.moved hW.alike h.K, by rw [hU]; exact (h.I.kept hS.2.1).warm hW⟩
theorem g_pay {C : CX} {X : MX} (h : XOK C X) {d : MD} {n : Nat} (hm : MOK d n) : ∀ w ∈ m_ws d, ∀ (a' : Array Value) (U : State), (x_s X).WarmedH U.vm → w.before a' U = true := by
  intro w hw a' U hW
  have hg : w ∈ lw_g := by
    rcases List.mem_cons.mp hw with rfl | hw
    · exact hm.2.1
    · exact hw
  exact word_at hW (good_of_word (List.mem_filter.mp hg).2) (h.T hg)
theorem wa_run {C : CX} {X : MX} (h : XOK C X) {pc : Nat} {L st stk : List Value} {M M' : GM} {r : Value} {a : Array Value} (run : ∀ (ls : Array Slot) (H : Heap) (locs : List Loc), lv_has ls (x_c X).maxLocals (lvL (k_ad (x_K X)) L) → gm_H (x_K X) M H → va_S (k_A (x_K X)) (x_s X).heap H locs → gm_le (x_M0 X) M → va_Run (x_p X) (x_l X) (x_e X) (x_R X) (x_s X) (x_m X) (x_args X) (x_below X) (x_meth X) (x_c X) H locs (M.length - (x_M0 X).length) (gm_sz M - gm_sz (x_M0 X)) (M'.length - M.length) (gm_sz M' - gm_sz M) (F0 (x_m X) pc ls (stk.map (tv (k_ad (x_K X))))) (st.map (tv (k_ad (x_K X)))) (k_post (x_K X) r M' a) (k_A (x_K X))) (hg : gm_le M M') (w : WA X (pc + 3) L (retSt r ++ st) M') : WA X pc L stk M := by
  intro hm ls H locs hl hP hS T hT XX
  obtain ⟨v, st₀, t, T', Lc, h0, X', hL, e1, e2, ⟨hv, hP', hz, hk⟩, stp⟩ := run ls H locs hl hP hS hm T hT XX
  rw [h0] at hz hk
  have hv : v = rvOf (k_ad (x_K X)) r := by injection hv
  have w' := w (hm.tr hg) ls T'.heap (locs ++ Lc) hl (by rw [e1]; exact hP') ⟨Nat.le_trans hS.1 (by rw [e1]; exact hz), fun q h1 h2 => by rw [e1, hk q (Nat.lt_of_lt_of_le h1 hS.1) h2]; exact hS.2.1 q h1 h2, fun q hq => by
      rcases List.mem_append.mp hq with h | h
      · exact hS.2.2 q h
      · exact hL q h⟩
  have hm1 := hm.1
  have hm2 := hm.2
  have hg1 := hg.1
  have hg2 := hg.2
  have c1 : M.length - (x_M0 X).length + (M'.length - M.length) = M'.length - (x_M0 X).length := by omega
  have c2 : gm_sz M - gm_sz (x_M0 X) + (gm_sz M' - gm_sz M) = gm_sz M' - gm_sz (x_M0 X) := by omega
  rw [c1, c2] at X'
  obtain ⟨t2, a1, b1⟩ := w' T' rfl X'
  rw [← rv_st, ← hv] at a1
  exact ⟨t2, stp t2 a1, b1⟩
theorem g_fit {C : CX} {X : MX} (h : XOK C X) {M M' : GM} (hm : gm_le (x_M0 X) M) (hg : gm_le M M') (hf : gm_le M' (x_tg X).2) : M.length - (x_M0 X).length + (M'.length - M.length) ≤ (x_R X).cells ∧ gm_sz M - gm_sz (x_M0 X) + (gm_sz M' - gm_sz M) ≤ (x_R X).slots := by
  have h1 := h.2.2.2.2.2.2.2.2.1.2.2
  unfold gm_le at hm hg hf
  omega
theorem wa_callS {C : CX} {X : MX} (h : XOK C X) {d : MD} {pc idx n : Nat} (hok : MOK d n) (hst : Cond.static d.1 ∈ lw_g) (hl : Cond.methodLink (c_own C) idx d.1 ∈ lw_g) (hR : c_fr d.2 + 1 ≤ c_fr C ∧ 8 + (c_nL d.2 + 11) + c_lo d.2 ≤ c_lo C) (hd : decode (c_cc C) pc = .ok (.invokestatic idx, 3)) {L st vs : List Value} {M M' : GM} {r : Value} (hlen : vs.length = n) (hcs : csum st ≤ 8) (hg : gm_le M M') (hf : gm_le M' (x_tg X).2) (hM : CALL (x_l X) (x_K X) d vs M r M') (w : WA X (pc + 3) L (retSt r ++ st) M') : WA X pc L (vs.reverse ++ st) M := by
  refine wa_run h (a := (vs.map (tv (k_ad (x_K X)))).toArray) (fun ls H locs hll hP hS hm => ?_) hg w
  refine va_runS (n := n) (As := vs.map (tv (k_ad (x_K X)))) ⟨h.1, h.2.1, h.2.2.1, h.2.2.2.1, h.2.2.2.2.1⟩ hM ⟨⟨rfl, rfl, ?_, ?_, g_pay h hok, List.mem_cons_self, h.T hok.2.1, h.T hok.1, ⟨hok.2.2.1, hok.2.2.2.1⟩, fun sig hs => ?_, h.T hl⟩, h.T hst⟩ ⟨k_pre_blind _ _ _, fun U hU hW => ⟨rfl, k_pre_of h hP hS U hU hW⟩⟩ rfl (by rw [List.length_map]; exact hlen) (by rw [hll.1]; exact h.2.2.1) (by simp) ?_ hd (g_fit h hm hg hf)
  · rw [h.2.2.2.2.2.2.2.2.1.1]; exact hR.1
  · rw [h.2.2.2.2.2.2.2.2.1.2.1]; exact hR.2
  · have h2 := hok.2.2.2.2
    rw [hs] at h2
    exact (Option.some.inj h2).symm
  · show 2 * 0 + _ ≤ 8
    rw [csum_tv]; omega
def recvOK (ci : Nat) (vs : List Value) (M : GM) : Bool := match vs with
  | .ref i :: _ => match M[i]? with
    | some c => c.1 == ci
    | none => false
  | _ => false
theorem recvOK_some {ci : Nat} {vs : List Value} {M : GM} (h : recvOK ci vs M = true) : ∃ i As sl, vs = .ref i :: As ∧ M[i]? = some (ci, sl) := by
  unfold recvOK at h
  split at h
  · rename_i i As
    split at h
    · rename_i c hc
      obtain ⟨a, sl⟩ := c
      have e : a = ci := by simpa using h
      subst e
      exact ⟨i, As, sl, rfl, hc⟩
    · cases h
  · cases h
theorem wa_callV {C : CX} {X : MX} (h : XOK C X) {d : MD} {pc idx n ci : Nat} {cl : vw_C} (hok : MOK d n) (hc : vwCl[ci]? = some cl) (hci : ci < 10) (hcn : d.1.cls = cl.1) (hin : Cond.instanceMethod d.1 ∈ lw_g) (hse : Cond.selects d.1.cls d.1 d.1 ∈ lw_g) (hl : Cond.methodLink (c_own C) idx d.1 ∈ lw_g) (hR : c_fr d.2 + 1 ≤ c_fr C ∧ 8 + (c_nL d.2 + 11) + c_lo d.2 ≤ c_lo C) (hd : decode (c_cc C) pc = .ok (.invokevirtual idx, 3)) {L st vs : List Value} {M M' : GM} {r : Value} (hlen : vs.length = n + 1) (hre : recvOK ci vs M = true) (hcs : csum st ≤ 8) (hg : gm_le M M') (hf : gm_le M' (x_tg X).2) (hM : CALL (x_l X) (x_K X) d vs M r M') (w : WA X (pc + 3) L (retSt r ++ st) M') : WA X pc L (vs.reverse ++ st) M := by
  obtain ⟨i, As, sl, rfl, hi⟩ := recvOK_some hre
  refine wa_run h (a := (Value.ref (k_ad (x_K X) i) :: As.map (tv (k_ad (x_K X)))).toArray) (fun ls H locs hll hP hS hm => ?_) hg w
  have hre := va_recv h.K hP.1 hc (gm_ob hi hci)
  refine va_runV (n := n) (C := cl.1) (As := As.map (tv (k_ad (x_K X)))) ⟨h.1, h.2.1, h.2.2.1, h.2.2.2.1, h.2.2.2.2.1⟩ hM ⟨⟨rfl, rfl, ?_, ?_, g_pay h hok, List.mem_cons_self, h.T hok.2.1, h.T hok.1, ⟨hok.2.2.1, hok.2.2.2.1⟩, fun sig hs => ?_, h.T hl⟩, h.T hin, by rw [← hcn]; exact h.T hse⟩ ⟨k_pre_blind _ _ _, hre, fun U hU hW => ⟨rfl, k_pre_of h hP hS U hU hW⟩⟩ rfl (by rw [List.length_map]; simpa using hlen) (by rw [hll.1]; exact h.2.2.1) (by simp [tv]) ?_ hd (g_fit h hm hg hf)
  · rw [h.2.2.2.2.2.2.2.2.1.1]; exact hR.1
  · rw [h.2.2.2.2.2.2.2.2.1.2.1]; exact hR.2
  · have h2 := hok.2.2.2.2
    rw [hs] at h2
    exact (Option.some.inj h2).symm
  · show 2 * 0 + _ ≤ 8
    rw [csum_tv]; omega
theorem wa_callI {C : CX} {X : MX} (h : XOK C X) {d : MD} {pc idx n : Nat} (hok : MOK d n) (hrt : c_rt d.2 = none) (hin : Cond.instanceMethod d.1 ∈ lw_g) (hnm : d.1.name = "<init>") (hl : Cond.methodLink (c_own C) idx d.1 ∈ lw_g ∨ (c_own C, idx, d.1) ∈ nm_tab) (hR : c_fr d.2 + 1 ≤ c_fr C ∧ 8 + (c_nL d.2 + 11) + c_lo d.2 ≤ c_lo C) (hd : decode (c_cc C) pc = .ok (.invokespecial idx, 3)) {L st As : List Value} {i : Nat} {M M' : GM} {r : Value} (hlen : As.length = n) (hcs : csum st ≤ 8) (hg : gm_le M M') (hf : gm_le M' (x_tg X).2) (hM : CALL (x_l X) (x_K X) d (.ref i :: As) M r M') (w : WA X (pc + 3) L (retSt r ++ st) M') : WA X pc L ((Value.ref i :: As).reverse ++ st) M := by
  have hpay := g_pay h hok
  have hcode := h.T hok.2.1
  have hM2 := hM
  unfold CALL m_ws at hM2
  unfold m_ws at hpay
  rw [hrt] at hM2 hpay hcode
  refine wa_run h (a := (Value.ref (k_ad (x_K X) i) :: As.map (tv (k_ad (x_K X)))).toArray) (fun ls H locs hll hP hS hm => ?_) hg w
  have r1 : (m_rm d M M').frames + 1 ≤ (x_R X).frames := by rw [h.2.2.2.2.2.2.2.2.1.1]; exact hR.1
  have r2 : 8 + (c_nL d.2 + 11) + (m_rm d M M').locals ≤ (x_R X).locals := by rw [h.2.2.2.2.2.2.2.2.1.2.1]; exact hR.2
  have r3 : ∀ sig, parseMethodDescriptor d.1.desc = some sig → n = sig.parameters.length := fun sig hs => by
    have h2 := hok.2.2.2.2
    rw [hs] at h2
    exact (Option.some.inj h2).symm
  have r4 : 2 * (F0 (x_m X) pc ls (((Value.ref i :: As).reverse ++ st).map (tv (k_ad (x_K X))))).monitorRoom + ((st.map (tv (k_ad (x_K X)))).map fun v => v.category).sum ≤ 8 := by
    show 2 * 0 + _ ≤ 8
    rw [csum_tv]; omega
  rcases hl with hl | hl
  · exact va_runI (As := As.map (tv (k_ad (x_K X)))) ⟨h.1, h.2.1, h.2.2.1, h.2.2.2.1, h.2.2.2.2.1⟩ hM2 ⟨⟨rfl, rfl, r1, r2, hpay, List.mem_cons_self, hcode, h.T hok.1, ⟨hok.2.2.1, hok.2.2.2.1⟩, r3, h.T hl⟩, hnm, h.T hin⟩ ⟨k_pre_blind _ _ _, fun U hU hW => ⟨rfl, k_pre_of h hP hS U hU hW⟩⟩ rfl (by rw [List.length_map]; exact hlen) (by rw [hll.1]; exact h.2.2.1) (by simp [tv]) r4 hd (g_fit h hm hg hf)
  · exact va_runIN (host := RX6) (As := As.map (tv (k_ad (x_K X)))) ⟨h.1, h.2.1, h.2.2.1, h.2.2.2.1, h.2.2.2.2.1⟩ hM2 ⟨⟨⟨rfl, rfl, r1, r2, hpay, List.mem_cons_self⟩, hcode, h.T hok.1, ⟨hok.2.2.1, hok.2.2.2.1⟩, r3, va_Nw.use rfl (h.I.2.2.1 _ hl)⟩, hnm, h.T hin⟩ ⟨k_pre_blind _ _ _, fun U hU hW => ⟨rfl, k_pre_of h hP hS U hU hW⟩⟩ rfl (by rw [List.length_map]; exact hlen) (by rw [hll.1]; exact h.2.2.1) (by simp [tv]) r4 hd (g_fit h hm hg hf)
