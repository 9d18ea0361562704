/-! calls, in expressions and statements; a method's contract out of its body -/
abbrev MDen : Type := List Value → GM → Option (Value × GM)
def prI (v : Value) : Option Int32 := match v with
  | .int x => some x
  | _ => none
def prJ (v : Value) : Option Int64 := match v with
  | .long x => some x
  | _ => none
def prR (v : Value) : Option Nat := match v with
  | .ref x => some x
  | _ => none
def e_call {α : Type} (pr : Value → Option α) (D : MDen) (n : Nat) (a : DE (List Value)) : DE α := fun L M => (a L M).bind fun p => if p.1.length = n then (D p.1 p.2).bind fun q => (pr q.1).bind fun x => some (x, q.2) else none
def a_recv (ci : Nat) (a : DE (List Value)) : DE (List Value) := fun L M => (a L M).bind fun p => if recvOK ci p.1 p.2 then some p else none
def s_call (D : MDen) (n : Nat) (a : DE (List Value)) : SD := fun L M => (a L M).bind fun p => if p.1.length = n then (D p.1 p.2).bind fun q => if q.1 = .null then some (.inl (L, q.2)) else none else none
def s_pop (e : DE Int32) : SD := fun L M => (e L M).bind fun p => some (.inl (L, p.2))
def Inj {α : Type} (pr : Value → Option α) (inj : α → Value) : Prop := ∀ v x, pr v = some x → v = inj x ∧ retSt v = [inj x]
theorem inj_I : Inj prI Value.int := fun v x h => by cases v <;> cases h; exact ⟨rfl, rfl⟩
theorem inj_J : Inj prJ Value.long := fun v x h => by cases v <;> cases h; exact ⟨rfl, rfl⟩
theorem inj_R : Inj prR Value.ref := fun v x h => by cases v <;> cases h; exact ⟨rfl, rfl⟩
/-- what a call site needs -/
def SITE (C : CX) (d : MD) (idx : Nat) : Prop := Cond.methodLink (c_own C) idx d.1 ∈ lw_g ∧ c_fr d.2 + 1 ≤ c_fr C ∧ 8 + (c_nL d.2 + 11) + c_lo d.2 ≤ c_lo C
def MST (d : MD) (n : Nat) : Prop := MOK d n ∧ Cond.static d.1 ∈ lw_g
def MVT (d : MD) (n ci : Nat) : Prop := MOK d n ∧ Cond.instanceMethod d.1 ∈ lw_g ∧ Cond.selects d.1.cls d.1 d.1 ∈ lw_g ∧ ci < 10 ∧ ∃ cl, vwCl[ci]? = some cl ∧ d.1.cls = cl.1
theorem ec_callS {C : CX} {α : Type} {pr : Value → Option α} {inj : α → Value} {k m pc p1 idx n : Nat} {d : MD} {D : MDen} {a : DE (List Value)} (hpr : Inj pr inj) (hD : MS d D) (ht : MST d n) (hs : SITE C d idx) (ha : AC C k m pc p1 a) (hk8 : k ≤ 8) (hd : decode (c_cc C) p1 = .ok (.invokestatic idx, 3)) : EC C inj k pc (p1 + 3) (e_call pr D n a) := by
  intro L M v M' he
  obtain ⟨⟨vs, M1⟩, h1, h2⟩ := bind_some he
  by_cases hn : vs.length = n
  · simp only [if_pos hn] at h2
    obtain ⟨⟨r, M2⟩, h3, h4⟩ := bind_some h2
    obtain ⟨x, h5, h6⟩ := bind_some h4
    cases h6
    obtain ⟨e1, e2⟩ := hpr _ _ h5
    obtain ⟨c1, g1, w1⟩ := ha L M vs _ h1
    obtain ⟨g2, hc⟩ := hD vs M1 r _ h3
    refine ⟨g1.tr g2, fun X hX st hk hf w => w1 X hX st hk (g2.tr hf) (wa_callS hX ht.1 ht.2 hs.1 hs.2 hd hn (Nat.le_trans hk hk8) g2 hf (hc _ _ hX.2.2.2.2.2.2.1 (Nat.lt_of_le_of_lt hf.1 hX.2.2.2.2.2.2.2.2.2.1)) ?_)⟩
    simp only at e2
    rw [e2]
    exact w
  · simp only [if_neg hn] at h2; cases h2
theorem a_recv_some {ci : Nat} {a : DE (List Value)} {L vs : List Value} {M M1 : GM} (h : a_recv ci a L M = some (vs, M1)) : a L M = some (vs, M1) ∧ recvOK ci vs M1 = true := by
  obtain ⟨p, h1, h2⟩ := bind_some h
  by_cases hr : recvOK ci p.1 p.2 = true
  · rw [if_pos hr] at h2
    cases h2
    exact ⟨h1, hr⟩
  · rw [if_neg hr] at h2; cases h2
theorem ec_callV {C : CX} {α : Type} {pr : Value → Option α} {inj : α → Value} {k m pc p1 idx n ci : Nat} {d : MD} {D : MDen} {a : DE (List Value)} (hpr : Inj pr inj) (hD : MS d D) (ht : MVT d n ci) (hs : SITE C d idx) (ha : AC C k m pc p1 a) (hk8 : k ≤ 8) (hd : decode (c_cc C) p1 = .ok (.invokevirtual idx, 3)) : EC C inj k pc (p1 + 3) (e_call pr D (n + 1) (a_recv ci a)) := by
  intro L M v M' he
  obtain ⟨⟨vs, M1⟩, h1, h2⟩ := bind_some he
  obtain ⟨h1, hrv⟩ := a_recv_some h1
  by_cases hn : vs.length = n + 1
  · simp only [if_pos hn] at h2
    obtain ⟨⟨r, M2⟩, h3, h4⟩ := bind_some h2
    obtain ⟨x, h5, h6⟩ := bind_some h4
    cases h6
    obtain ⟨e1, e2⟩ := hpr _ _ h5
    obtain ⟨c1, g1, w1⟩ := ha L M vs _ h1
    obtain ⟨g2, hc⟩ := hD vs M1 r _ h3
    obtain ⟨t1, t2, t3, t4, cl, t5, t6⟩ := ht
    refine ⟨g1.tr g2, fun X hX st hk hf w => w1 X hX st hk (g2.tr hf) (wa_callV hX t1 t5 t4 t6 t2 t3 hs.1 hs.2 hd hn hrv (Nat.le_trans hk hk8) g2 hf (hc _ _ hX.2.2.2.2.2.2.1 (Nat.lt_of_le_of_lt hf.1 hX.2.2.2.2.2.2.2.2.2.1)) ?_)⟩
    simp only at e2
    rw [e2]
    exact w
  · simp only [if_neg hn] at h2; cases h2
theorem sc_callS {C : CX} {m pc p1 idx n : Nat} {d : MD} {D : MDen} {a : DE (List Value)} (hD : MS d D) (ht : MST d n) (hs : SITE C d idx) (ha : AC C 0 m pc p1 a) (hd : decode (c_cc C) p1 = .ok (.invokestatic idx, 3)) : SC C pc (p1 + 3) (s_call D n a) := by
  intro L M rr he
  obtain ⟨⟨vs, M1⟩, h1, h2⟩ := bind_some he
  by_cases hn : vs.length = n
  · simp only [if_pos hn] at h2
    obtain ⟨⟨r, M2⟩, h3, h4⟩ := bind_some h2
    by_cases hr : r = .null
    · simp only [if_pos hr] at h4
      subst hr
      cases h4
      obtain ⟨c1, g1, w1⟩ := ha L M vs _ h1
      obtain ⟨g2, hc⟩ := hD vs M1 .null _ h3
      exact ⟨g1.tr g2, fun X hX hf w => w1 X hX [] (Nat.le_refl _) (g2.tr hf) (wa_callS hX ht.1 ht.2 hs.1 hs.2 hd hn (Nat.zero_le _) g2 hf (hc _ _ hX.2.2.2.2.2.2.1 (Nat.lt_of_le_of_lt hf.1 hX.2.2.2.2.2.2.2.2.2.1)) w)⟩
    · simp only [if_neg hr] at h4; cases h4
  · simp only [if_neg hn] at h2; cases h2
theorem sc_callV {C : CX} {m pc p1 idx n ci : Nat} {d : MD} {D : MDen} {a : DE (List Value)} (hD : MS d D) (ht : MVT d n ci) (hs : SITE C d idx) (ha : AC C 0 m pc p1 a) (hd : decode (c_cc C) p1 = .ok (.invokevirtual idx, 3)) : SC C pc (p1 + 3) (s_call D (n + 1) (a_recv ci a)) := by
  intro L M rr he
  obtain ⟨⟨vs, M1⟩, h1, h2⟩ := bind_some he
  obtain ⟨h1, hrv⟩ := a_recv_some h1
  by_cases hn : vs.length = n + 1
  · simp only [if_pos hn] at h2
    obtain ⟨⟨r, M2⟩, h3, h4⟩ := bind_some h2
    by_cases hr : r = .null
    · simp only [if_pos hr] at h4
      subst hr
      cases h4
      obtain ⟨c1, g1, w1⟩ := ha L M vs _ h1
      obtain ⟨g2, hc⟩ := hD vs M1 .null _ h3
      obtain ⟨t1, t2, t3, t4, cl, t5, t6⟩ := ht
      exact ⟨g1.tr g2, fun X hX hf w => w1 X hX [] (Nat.le_refl _) (g2.tr hf) (wa_callV hX t1 t5 t4 t6 t2 t3 hs.1 hs.2 hd hn hrv (Nat.zero_le _) g2 hf (hc _ _ hX.2.2.2.2.2.2.1 (Nat.lt_of_le_of_lt hf.1 hX.2.2.2.2.2.2.2.2.2.1)) w)⟩
    · simp only [if_neg hr] at h4; cases h4
  · simp only [if_neg hn] at h2; cases h2
theorem sc_pop {C : CX} {pc p1 : Nat} {e : DE Int32} (he0 : EC C Value.int 0 pc p1 e) (hd : decode (c_cc C) p1 = .ok (.pop, 1)) : SC C pc (p1 + 1) (s_pop e) := by
  intro L M r he
  obtain ⟨⟨x, M1⟩, h1, h2⟩ := bind_some he
  cases h2
  obtain ⟨g, w⟩ := he0 L M x _ h1
  exact ⟨g, fun X hX hf ww => w X hX [] (Nat.le_refl _) hf (fun hm ls H locs hl hP hS => lv_pop hX.1 hX.2.1 hd rfl (ww hm ls H locs hl hP hS))⟩
/-- a new object: new, dup, invokespecial of a constructor without arguments -/
def e_new (ci : Nat) (fs : List Value) (D : MDen) : DE Nat := fun _ M => (D [.ref M.length] (M ++ [(ci, fs)])).bind fun q => if q.1 = .null then some (M.length, q.2) else none
def MKS (C : CX) (ci : Nat) (fs : List Value) (idx : Nat) : Prop := ∃ (Cn : String) (T : u_T) (N : Nat) (ty : Nat → FieldType), vwCl[ci]? = some (Cn, T, N) ∧ ci < 10 ∧ (∀ w ∈ u_ws Cn T N, w ∈ lw_g) ∧ (∀ k, k < N → parseFieldDescriptor (T k).2.2.1 = some (ty k)) ∧ fs.length = N ∧ (∀ (ad : Nat → Nat) j, j < N → defaultValue (ty j) = vp_V (fs.map (tv ad)) j) ∧ Cond.classLink (c_own C) idx Cn ∈ lw_g ∧ Cond.instantiable Cn N ∈ lw_g ∧ Cond.initialized Cn ∈ lw_g
def SITI (C : CX) (d : MD) (idx : Nat) : Prop := (Cond.methodLink (c_own C) idx d.1 ∈ lw_g ∨ (c_own C, idx, d.1) ∈ nm_tab) ∧ (c_fr d.2 + 1 ≤ c_fr C ∧ 8 + (c_nL d.2 + 11) + c_lo d.2 ≤ c_lo C) ∧ MOK d 0 ∧ c_rt d.2 = none ∧ Cond.instanceMethod d.1 ∈ lw_g ∧ d.1.name = "<init>"
theorem ec_new {C : CX} {k pc i1 i2 ci : Nat} {fs : List Value} {d : MD} {D : MDen} (hD : MS d D) (hm : MKS C ci fs i1) (hs : SITI C d i2) (hk8 : k + 1 ≤ 8) (d1 : decode (c_cc C) pc = .ok (.new i1, 3)) (d2 : decode (c_cc C) (pc + 3) = .ok (.dup, 1)) (d3 : decode (c_cc C) (pc + 4) = .ok (.invokespecial i2, 3)) : EC C Value.ref k pc (pc + 7) (e_new ci fs D) := by
  intro L M v M' he
  obtain ⟨⟨r, M2⟩, h1, h2⟩ := bind_some he
  by_cases hr : r = .null
  · simp only [if_pos hr] at h2
    subst hr
    cases h2
    obtain ⟨g2, hc⟩ := hD _ _ _ _ h1
    obtain ⟨Cn, T, N, ty, m1, m2, m3, m4, m5, m6, m7, m8, m9⟩ := hm
    obtain ⟨s1, s2, s3, s4, s5, s6⟩ := hs
    refine ⟨(gm_push_ge _ _).tr g2, fun X hX st hk hf w => ?_⟩
    refine wa_new hX m1 m2 m3 m4 m5 m6 m7 m8 m9 d1 (g2.tr hf) ?_
    have k1 := wa_callI (As := []) (st := .ref M.length :: st) hX s3 s4 s5 s6 s1 s2 d3 rfl (by rw [csum_cons]; show 1 + csum st ≤ 8; omega) g2 hf (hc _ _ hX.2.2.2.2.2.2.1 (Nat.lt_of_le_of_lt hf.1 hX.2.2.2.2.2.2.2.2.2.1)) w
    intro hmm ls H locs hl hP hS
    exact lv_dup hX.1 hX.2.1 d2 rfl (k1 hmm ls H locs hl hP hS)
  · simp only [if_neg hr] at h2; cases h2
/-- Object's constructor -/
def s_obj (r : DE Nat) : SD := fun L M => (r L M).bind fun p => some (.inl (L, p.2))
theorem sc_obj {C : CX} {pc p1 idx : Nat} {r : DE Nat} (hr : EC C Value.ref 0 pc p1 r) (hl : Cond.methodLink (c_own C) idx Lib.objectInit ∈ lw_g) (hin : Cond.instanceMethod Lib.objectInit ∈ lw_g) (hcd : Cond.code Lib.objectInit ⟨#[0xb1]⟩ 1 none ∈ lw_g) (hR : 1 ≤ c_fr C ∧ 12 ≤ c_lo C) (hd : decode (c_cc C) p1 = .ok (.invokespecial idx, 3)) : SC C pc (p1 + 3) (s_obj r) := by
  intro L M rr he
  obtain ⟨⟨id, M1⟩, h1, h2⟩ := bind_some he
  cases h2
  obtain ⟨g, w⟩ := hr L M id _ h1
  refine ⟨g, fun X hX hf ww => w X hX [] (Nat.le_refl _) hf (fun hm ls H locs hll hP hS => ?_)⟩
  exact W.objInit (rest := []) hX.1 hX.2.1 hX.2.2.2.1 (hX.T hl) (hX.T hin) (hX.T hcd) rfl (by exact hll.1) rfl hd (by rw [hX.2.2.2.2.2.2.2.2.1.1]; exact hR.1) (by rw [hX.2.2.2.2.2.2.2.2.1.2.1]; exact hR.2) (ww hm ls H locs hll hP hS)
/-- System.arraycopy over rows of ints -/
def s_cpy (r0 : DE Nat) (sp : DE Int32) (r1 : DE Nat) (dp n : DE Int32) : SD := fun L M => (r0 L M).bind fun p0 => (sp L p0.2).bind fun p1 => (r1 L p1.2).bind fun p2 => (dp L p2.2).bind fun p3 => (n L p3.2).bind fun p4 => match p4.2[p0.1]?, p4.2[p2.1]? with
  | some a, some b => if (a.1 = 10 ∧ b.1 = 10) ∧ 0 ≤ p1.1 ∧ 0 ≤ p3.1 ∧ 0 ≤ p4.1 ∧ p1.1.toNatClampNeg + p4.1.toNatClampNeg ≤ a.2.length ∧ p3.1.toNatClampNeg + p4.1.toNatClampNeg ≤ b.2.length then some (.inl (L, p4.2.set p2.1 (10, l_cpy a.2 b.2 p1.1.toNatClampNeg p3.1.toNatClampNeg p4.1.toNatClampNeg))) else none
  | _, _ => none
theorem sc_cpy {C : CX} {pc q1 q2 q3 q4 q5 idx : Nat} {r0 r1 : DE Nat} {sp dp n : DE Int32} (h0 : EC C Value.ref 0 pc q1 r0) (h1 : EC C Value.int 1 q1 q2 sp) (h2 : EC C Value.ref 2 q2 q3 r1) (h3 : EC C Value.int 3 q3 q4 dp) (h4 : EC C Value.int 4 q4 q5 n) (hl : Cond.methodLink (c_own C) idx arraycopyName ∈ lw_g) (hnat : Cond.native arraycopyName ∈ lw_g) (hstat : Cond.static arraycopyName ∈ lw_g) (hini : Cond.initialized "java/lang/System" ∈ lw_g) (hR : 1 ≤ c_fr C ∧ 18 ≤ c_lo C) (hd : decode (c_cc C) q5 = .ok (.invokestatic idx, 3)) : SC C pc (q5 + 3) (s_cpy r0 sp r1 dp n) := by
  intro L M rr he
  obtain ⟨⟨x0, M0⟩, e0, he⟩ := bind_some he
  obtain ⟨⟨x1, M1⟩, e1, he⟩ := bind_some he
  obtain ⟨⟨x2, M2⟩, e2, he⟩ := bind_some he
  obtain ⟨⟨x3, M3⟩, e3, he⟩ := bind_some he
  obtain ⟨⟨x4, M4⟩, e4, he⟩ := bind_some he
  obtain ⟨g0, w0⟩ := h0 L M x0 _ e0
  obtain ⟨g1, w1⟩ := h1 L M0 x1 _ e1
  obtain ⟨g2, w2⟩ := h2 L M1 x2 _ e2
  obtain ⟨g3, w3⟩ := h3 L M2 x3 _ e3
  obtain ⟨g4, w4⟩ := h4 L M3 x4 _ e4
  simp only at he
  split at he
  · rename_i a b ha hb
    obtain ⟨ka, a⟩ := a
    obtain ⟨kb, b⟩ := b
    split at he
    · rename_i hc
      obtain ⟨⟨c1, c2⟩, c3, c4, c5, c6, c7⟩ := hc
      simp only at c1 c2
      subst c1; subst c2
      cases he
      have g5 := (gm_set_ge (sl' := l_cpy a b x1.toNatClampNeg x3.toNatClampNeg x4.toNatClampNeg) hb (l_cpy_len c6 c7)).1
      exact ⟨g0.tr (g1.tr (g2.tr (g3.tr (g4.tr g5)))), fun X hX hf w => w0 X hX [] (Nat.le_refl _) (g1.tr (g2.tr (g3.tr (g4.tr (g5.tr hf))))) (w1 X hX [.ref x0] (Nat.le_refl _) (g2.tr (g3.tr (g4.tr (g5.tr hf)))) (w2 X hX [.int x1, .ref x0] (Nat.le_refl _) (g3.tr (g4.tr (g5.tr hf))) (w3 X hX [.ref x2, .int x1, .ref x0] (Nat.le_refl _) (g4.tr (g5.tr hf)) (w4 X hX [.int x3, .ref x2, .int x1, .ref x0] (Nat.le_refl _) (g5.tr hf) (wa_copy hX hl hnat hstat hini hR hd ha hb c3 c4 c5 c6 c7 (g5.tr hf) w)))))⟩
    · cases he
  · cases he
/-! a method -/
def l0 (vs : List Value) : List Value := vs.flatMap fun v => if v.category = 2 then [v, .null] else [v]
def m_den (nL : Nat) (s : SD) : MDen := fun vs M => if (l0 vs).length ≤ nL then (match s (l0 vs) M with
  | some (.inr q) => some q
  | _ => none) else none
theorem l0_args (ad : Nat → Nat) : ∀ (vs : List Value) (i j : Nat) (v : Value), (l0 vs)[j]? = some v → vnn v = true → (i + j, tv ad v) ∈ lv_args i (vs.map (tv ad)) := by
  intro vs
  induction vs with
  | nil => intro i j v h; simp [l0] at h
  | cons x vs ih =>
    intro i j v h hv
    show (i + j, tv ad v) ∈ (i, tv ad x) :: lv_args (if (tv ad x).category = 2 then i + 2 else i + 1) (vs.map (tv ad))
    rw [tv_cat]
    by_cases hc : x.category = 2
    · have e : l0 (x :: vs) = x :: .null :: l0 vs := by simp [l0, hc]
      rw [e] at h
      rw [if_pos hc]
      match j, h with
      | 0, h => cases h; exact List.mem_cons_self
      | 1, h => cases h; cases hv
      | j + 2, h =>
        have := ih (i + 2) j v h hv
        rw [show i + 2 + j = i + (j + 2) by omega] at this
        exact List.mem_cons_of_mem _ this
    · have e : l0 (x :: vs) = x :: l0 vs := by simp [l0, hc]
      rw [e] at h
      rw [if_neg hc]
      match j, h with
      | 0, h => cases h; exact List.mem_cons_self
      | j + 1, h =>
        have := ih (i + 1) j v h hv
        rw [show i + 1 + j = i + (j + 1) by omega] at this
        exact List.mem_cons_of_mem _ this
theorem l0_len (ad : Nat → Nat) (vs : List Value) : (lg_sl (vs.map (tv ad))).length = (l0 vs).length := by
  induction vs with
  | nil => rfl
  | cons x vs ih =>
    have e1 : lg_sl ((x :: vs).map (tv ad)) = (if (tv ad x).category = 2 then [.val (tv ad x), .second] else [.val (tv ad x)]) ++ lg_sl (vs.map (tv ad)) := by simp [lg_sl]
    have e2 : l0 (x :: vs) = (if x.category = 2 then [x, .null] else [x]) ++ l0 vs := by simp [l0]
    rw [e1, e2, List.length_append, List.length_append, ih, tv_cat]
    by_cases hc : x.category = 2
    · simp [hc]
    · simp [hc]
theorem met_ofWF {l : Launch} {y : MethodName} {ws ws' : List Cond} {rm : Room} {Pc : Array Value → State → Prop} {Qc : Array Value → State → Outcome → State → Prop} {mc ms : Nat} {free : Addr → Prop} {cc : ByteArray} {maxL : Nat} {ret : Option FieldType}
    (hy : plainFor y = true) (hw : ws = Cond.code y cc maxL ret :: ws')
    (body : ∀ p e s m args below meth c s₁, BodyLoose p l y (headSpec ws rm) cc maxL ret e s m args below meth c s₁ → c.maxLocals = maxL → Pc args s →
      W p l e (headSpec ws rm).room s m args below meth c s.heap [] 0 0 (MQ below Qc args s mc ms free) (entryFrame m args maxL)) : Met l y ws rm Pc Qc mc ms free := by
  refine MetFree.of_bodySF (code := cc) (maxLocals := maxL) (ret := ret) hy ?_ ?_
  · intro args s m h hn
    obtain ⟨meth, c, h1, h2, h3, h4, h5, h6, -, -⟩ := Cond.code_spec hn (atoms_spec (ws := ws) h _ (by rw [hw]; exact List.mem_cons_self))
    exact ⟨meth, c, h1, h2, h3, h4, h5, h6⟩
  · intro p e s m args below meth c s₁ B hml hP _
    have hh0 : s₁.heap = s.heap := by rw [B.state]; rfl
    obtain ⟨t, a1, o, b1, b2, b3⟩ := body p e s m args below meth c s₁ B hml hP s₁ hh0 (Stand.of_body B)
    exact ⟨t, o, a1, b1, b2, ⟨b3.1, b3.2⟩⟩
theorem ms_of {d : MD} {pe : Nat} {s : SD} (hs : SC d.2 0 pe s) (hy : plainFor d.1 = true) (ho : c_own d.2 = d.1.cls) (hn : c_nm d.2 = d.1.name) (hp : ∀ X, c_px d.2 X) : MS d (m_den (c_nL d.2) s) := by
  intro vs M r M' hD
  unfold m_den at hD
  by_cases hlen : (l0 vs).length ≤ c_nL d.2
  · rw [if_pos hlen] at hD
    split at hD
    · rename_i q hq
      cases hD
      have h1 := hs _ _ _ hq
      refine ⟨h1.1, fun l K hK hsz => ?_⟩
      refine met_ofWF (cc := c_cc d.2) (maxL := c_nL d.2) (ret := c_rt d.2) hy rfl ?_
      intro p e s0 m args below meth c s₁ B hml hv
      obtain ⟨rfl, hP, hKK, hI⟩ := hv
      let X : MX := (K, p, l, e, (headSpec (m_ws d) (m_rm d M M')).room, s0, m, (vs.map (tv (k_ad K))).toArray, below, meth, c, MQ below (k_post K r M') (vs.map (tv (k_ad K))).toArray s0 (M'.length - M.length) (gm_sz M' - gm_sz M) (k_A K), M, (r, M'))
      have hts := atoms_spec (ws := m_ws d) B.pre
      have hlocks := B.notSynchronized
      have hX : XOK d.2 X := by
        refine ⟨B.exec, B.bytes, hml, by rw [ho]; exact findClass_of_methodNamed B.named, fun w hw => hts w (List.mem_cons_of_mem _ hw), hKK, hK, hI, ⟨rfl, rfl, Nat.le_refl _, Nat.le_refl _⟩, hsz, hP.2, fun e => by rw [← e, hn]; exact (name_of_methodNamed B.named B.method).1, ?_, hp _⟩
        intro pc L hdec hfit hmm ls H locs hl hP' hS
        have hfin : ∀ t : State, t.heap = H → k_post K r M' (vs.map (tv (k_ad K))).toArray s0 (.returned (rvOf (k_ad K) r)) t := fun t ht => ⟨rfl, by rw [ht]; exact hP', hS.F ht⟩
        show W p l e _ s0 m _ below meth c H locs (M'.length - M.length) (gm_sz M' - gm_sz M) (MQ below (k_post K r M') _ s0 (M'.length - M.length) (gm_sz M' - gm_sz M) (k_A K)) (F0 m pc ls ((retSt r).map (tv (k_ad K))))
        have hrt := B.returns
        generalize hrt0 : c_rt d.2 = rt at hdec hfit hrt
        change retFit rt r at hfit
        match rt, hdec, hfit, hrt with
        | none, hdec, hfit, hrt =>
          have e1 : r = .null := hfit
          subst e1
          exact W.vret B.exec B.bytes hrt (fun t ht _ => hfin t ht) hS.2.2 hdec
        | some .long, hdec, hfit, hrt =>
          obtain ⟨x, e1⟩ := hfit
          subst e1
          exact W.lret B.exec B.bytes hrt (fun t ht _ => hfin t ht) hS.2.2 hdec
        | some (.object n), hdec, hfit, hrt =>
          obtain ⟨x, e1⟩ := hfit
          subst e1
          exact W.aret B.exec B.bytes hrt (Or.inl ⟨_, rfl⟩) (Or.inr ⟨_, rfl⟩) (fun t ht _ => hfin t ht) hS.2.2 hdec
        | some (.array n), hdec, hfit, hrt =>
          obtain ⟨x, e1⟩ := hfit
          subst e1
          exact W.aret B.exec B.bytes hrt (Or.inr ⟨_, rfl⟩) (Or.inr ⟨_, rfl⟩) (fun t ht _ => hfin t ht) hS.2.2 hdec
        | some .int, hdec, hfit, hrt =>
          obtain ⟨x, e1, e2⟩ := hfit
          subst e1
          exact W.zret B.exec B.bytes hrt e2 (fun t ht _ => hfin t ht) hS.2.2 hdec
        | some .boolean, hdec, hfit, hrt =>
          obtain ⟨x, e1, e2⟩ := hfit
          subst e1
          exact W.zret B.exec B.bytes hrt e2 (fun t ht _ => hfin t ht) hS.2.2 hdec
        | some .byte, hdec, hfit, hrt =>
          obtain ⟨x, e1, e2⟩ := hfit
          subst e1
          exact W.zret B.exec B.bytes hrt e2 (fun t ht _ => hfin t ht) hS.2.2 hdec
        | some .char, hdec, hfit, hrt =>
          obtain ⟨x, e1, e2⟩ := hfit
          subst e1
          exact W.zret B.exec B.bytes hrt e2 (fun t ht _ => hfin t ht) hS.2.2 hdec
        | some .short, hdec, hfit, hrt =>
          obtain ⟨x, e1, e2⟩ := hfit
          subst e1
          exact W.zret B.exec B.bytes hrt e2 (fun t ht _ => hfin t ht) hS.2.2 hdec
        | some .float, hdec, hfit, hrt =>
          obtain ⟨x, e1, e2⟩ := hfit
          subst e1
          exact W.zret B.exec B.bytes hrt e2 (fun t ht _ => hfin t ht) hS.2.2 hdec
        | some .double, hdec, hfit, hrt =>
          obtain ⟨x, e1, e2⟩ := hfit
          subst e1
          exact W.zret B.exec B.bytes hrt e2 (fun t ht _ => hfin t ht) hS.2.2 hdec
      have hw := h1.2 X hX rfl
      have hl := lv_entry (vs.map (tv (k_ad K))) (n := c_nL d.2) (by rw [l0_len]; exact hlen)
      rw [lg_entry_eq]
      have hl2 := lv_mono hl (l' := lvL (k_ad K) (l0 vs)) (fun q hq => by
        obtain ⟨v, a1, a2, a3⟩ := lvL_mem.mp hq
        obtain ⟨i, w⟩ := q
        simp only at a1 a2
        subst a2
        have := l0_args (k_ad K) vs 0 i v a1 a3
        rwa [Nat.zero_add] at this)
      have hfin := hw (gm_le.rf _) _ s0.heap [] (by show lv_has _ c.maxLocals _; rw [hml]; exact hl2) hP va_S.rf
      have z1 : M.length - M.length = 0 := Nat.sub_self _
      have z2 : gm_sz M - gm_sz M = 0 := Nat.sub_self _
      simp only [X, z1, z2] at hfin
      exact hfin
    · cases hD
  · rw [if_neg hlen] at hD; cases hD
