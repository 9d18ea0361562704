/-! MEMORY, in expressions and statements -/
def gm_fld (M : GM) (id ci k : Nat) : Option Value := (M[id]?).bind fun c => if c.1 = ci then c.2[k]? else none
theorem gm_fld_some {M : GM} {id ci k : Nat} {v : Value} (h : gm_fld M id ci k = some v) : ∃ sl, M[id]? = some (ci, sl) ∧ sl[k]? = some v := by
  obtain ⟨⟨a, sl⟩, h1, h2⟩ := bind_some h
  by_cases e : a = ci
  · subst e
    rw [if_pos rfl] at h2
    exact ⟨sl, h1, h2⟩
  · rw [if_neg e] at h2; cases h2
def e_gi (ci k : Nat) (r : DE Nat) : DE Int32 := fun L M => (r L M).bind fun p => match gm_fld p.2 p.1 ci k with
  | some (.int v) => some (v, p.2)
  | _ => none
def e_gr (ci k : Nat) (r : DE Nat) : DE Nat := fun L M => (r L M).bind fun p => match gm_fld p.2 p.1 ci k with
  | some (.ref v) => some (v, p.2)
  | _ => none
theorem ec_gi {C : CX} {kk pc p1 idx ci k : Nat} {t : FieldType} {fin : Bool} {r : DE Nat} (hr : EC C Value.ref kk pc p1 r) (hf : FL (c_own C) idx ci k t fin) (hd : decode (c_cc C) p1 = .ok (.getfield idx, 3)) : EC C Value.int kk pc (p1 + 3) (e_gi ci k r) := by
  intro L M v M' he
  obtain ⟨⟨id, M1⟩, h1, h2⟩ := bind_some he
  obtain ⟨g, w⟩ := hr L M id _ h1
  simp only at h2
  split at h2
  · rename_i x hx
    cases h2
    obtain ⟨sl, h3, h4⟩ := gm_fld_some hx
    exact ⟨g, fun X hX st hk hle ww => w X hX st hk hle (wa_get hX hf hd h3 h4 ww)⟩
  · cases h2
theorem ec_gr {C : CX} {kk pc p1 idx ci k : Nat} {t : FieldType} {fin : Bool} {r : DE Nat} (hr : EC C Value.ref kk pc p1 r) (hf : FL (c_own C) idx ci k t fin) (hd : decode (c_cc C) p1 = .ok (.getfield idx, 3)) : EC C Value.ref kk pc (p1 + 3) (e_gr ci k r) := by
  intro L M v M' he
  obtain ⟨⟨id, M1⟩, h1, h2⟩ := bind_some he
  obtain ⟨g, w⟩ := hr L M id _ h1
  simp only at h2
  split at h2
  · rename_i x hx
    cases h2
    obtain ⟨sl, h3, h4⟩ := gm_fld_some hx
    exact ⟨g, fun X hX st hk hle ww => w X hX st hk hle (wa_get hX hf hd h3 h4 ww)⟩
  · cases h2
def gm_rd (M : GM) (id : Nat) (i : Int32) : Option Int32 := if 0 ≤ i then (if id < SPB then (M[id]?).bind fun c => if c.1 = 10 then (match c.2[i.toNatClampNeg]? with
  | some (.int v) => some v
  | _ => none) else none else (st_tab[id - SPB]?).bind fun q => q.2[i.toNatClampNeg]?) else none
theorem wa_rd {C : CX} {X : MX} (h : XOK C X) {pc : Nat} (hd : decode (c_cc C) pc = .ok (.iaload, 1)) {L st : List Value} {M : GM} {id : Nat} {i v : Int32} (hr : gm_rd M id i = some v) (w : WA X (pc + 1) L (.int v :: st) M) : WA X pc L (.int i :: .ref id :: st) M := by
  unfold gm_rd at hr
  by_cases h0 : 0 ≤ i
  · rw [if_pos h0] at hr
    by_cases hs : id < SPB
    · rw [if_pos hs] at hr
      obtain ⟨⟨a, sl⟩, h1, h2⟩ := bind_some hr
      by_cases e : a = 10
      · subst e
        rw [if_pos rfl] at h2
        simp only at h2
        split at h2
        · rename_i x hx
          cases h2
          exact wa_iald h hd h1 h0 hx w
        · cases h2
      · rw [if_neg e] at h2; cases h2
    · rw [if_neg hs] at hr
      obtain ⟨q, h1, h2⟩ := bind_some hr
      have e : SPB + (id - SPB) = id := by omega
      have hw := wa_iald_st h hd h1 h0 h2 w
      rw [e] at hw
      exact hw
  · rw [if_neg h0] at hr; cases hr
def e_ai (r : DE Nat) (ix : DE Int32) : DE Int32 := fun L M => (r L M).bind fun p => (ix L p.2).bind fun q => (gm_rd q.2 p.1 q.1).bind fun v => some (v, q.2)
theorem ec_ai {C : CX} {k pc p1 p2 : Nat} {r : DE Nat} {ix : DE Int32} (hr : EC C Value.ref k pc p1 r) (hi : EC C Value.int (1 + k) p1 p2 ix) (hd : decode (c_cc C) p2 = .ok (.iaload, 1)) : EC C Value.int k pc (p2 + 1) (e_ai r ix) := by
  intro L M v M' he
  obtain ⟨⟨id, M1⟩, h1, h2⟩ := bind_some he
  obtain ⟨⟨i, M2⟩, h3, h4⟩ := bind_some h2
  obtain ⟨x, h5, h6⟩ := bind_some h4
  cases h6
  obtain ⟨g1, w1⟩ := hr L M id _ h1
  obtain ⟨g2, w2⟩ := hi L M1 i _ h3
  exact ⟨g1.tr g2, fun X hX st hk hf w => w1 X hX st hk (g2.tr hf) (w2 X hX (.ref id :: st) (by rw [csum_cons]; show 1 + csum st ≤ 1 + k; omega) hf (wa_rd hX hd h5 w))⟩
def gm_rr (M : GM) (id t : Nat) (i : Int32) : Option Nat := if 0 ≤ i then (M[id]?).bind fun c => if c.1 = 11 + t then (match c.2[i.toNatClampNeg]? with
  | some (.ref v) => some v
  | _ => none) else none else none
def e_ar (t : Nat) (r : DE Nat) (ix : DE Int32) : DE Nat := fun L M => (r L M).bind fun p => (ix L p.2).bind fun q => (gm_rr q.2 p.1 t q.1).bind fun v => some (v, q.2)
theorem wa_rr {C : CX} {X : MX} (h : XOK C X) {pc t : Nat} (ht : t < 2) (hd : decode (c_cc C) pc = .ok (.aaload, 1)) {L st : List Value} {M : GM} {id v : Nat} {i : Int32} (hr : gm_rr M id t i = some v) (w : WA X (pc + 1) L (.ref v :: st) M) : WA X pc L (.int i :: .ref id :: st) M := by
  unfold gm_rr at hr
  by_cases h0 : 0 ≤ i
  · rw [if_pos h0] at hr
    obtain ⟨⟨a, sl⟩, h1, h2⟩ := bind_some hr
    by_cases e : a = 11 + t
    · subst e
      rw [if_pos rfl] at h2
      simp only at h2
      split at h2
      · rename_i x hx
        cases h2
        exact wa_aald h ht hd h1 h0 hx w
      · cases h2
    · rw [if_neg e] at h2; cases h2
  · rw [if_neg h0] at hr; cases hr
theorem ec_ar {C : CX} {k pc p1 p2 t : Nat} {r : DE Nat} {ix : DE Int32} (ht : t < 2) (hr : EC C Value.ref k pc p1 r) (hi : EC C Value.int (1 + k) p1 p2 ix) (hd : decode (c_cc C) p2 = .ok (.aaload, 1)) : EC C Value.ref k pc (p2 + 1) (e_ar t r ix) := by
  intro L M v M' he
  obtain ⟨⟨id, M1⟩, h1, h2⟩ := bind_some he
  obtain ⟨⟨i, M2⟩, h3, h4⟩ := bind_some h2
  obtain ⟨x, h5, h6⟩ := bind_some h4
  cases h6
  obtain ⟨g1, w1⟩ := hr L M id _ h1
  obtain ⟨g2, w2⟩ := hi L M1 i _ h3
  exact ⟨g1.tr g2, fun X hX st hk hf w => w1 X hX st hk (g2.tr hf) (w2 X hX (.ref id :: st) (by rw [csum_cons]; show 1 + csum st ≤ 1 + k; omega) hf (wa_rr hX ht hd h5 w))⟩
def e_len (r : DE Nat) : DE Int32 := fun L M => (r L M).bind fun p => match p.2[p.1]? with
  | some (10, sl) => some (Int32.ofNat sl.length, p.2)
  | _ => none
theorem ec_len {C : CX} {k pc p1 : Nat} {r : DE Nat} (hr : EC C Value.ref k pc p1 r) (hd : decode (c_cc C) p1 = .ok (.arraylength, 1)) : EC C Value.int k pc (p1 + 1) (e_len r) := by
  intro L M v M' he
  obtain ⟨⟨id, M1⟩, h1, h2⟩ := bind_some he
  obtain ⟨g, w⟩ := hr L M id _ h1
  simp only at h2
  split at h2
  · rename_i sl hx
    cases h2
    exact ⟨g, fun X hX st hk hle ww => w X hX st hk hle (wa_alen hX hd hx ww)⟩
  · cases h2
/-- a static array of the class -/
theorem ec_st {C : CX} {kk pc idx i : Nat} {q : String × List Int32} (hq : st_tab[i]? = some q) (hl : Cond.fieldLink (c_own C) idx RX6 q.1 "[I" ∈ lw_g) (hd : decode (c_cc C) pc = .ok (.getstatic idx, 3)) : EC C Value.ref kk pc (pc + 3) (e_c (SPB + i)) := ec_c fun X hX L st M w hm ls H locs hll hP hS => va_gets hX.1 hX.2.1 (hX.I.1 i q hq).1 hS hX.2.2.2.1 (hX.T hl) (fun x hx => hx) hd (w hm ls H locs hll hP hS)
theorem ec_stN {C : CX} {kk pc idx i : Nat} {q : String × List Int32} (hq : st_tab[i]? = some q) (hl : (c_own C, idx, q.1) ∈ nf_tab) (hd : decode (c_cc C) pc = .ok (.getstatic idx, 3)) : EC C Value.ref kk pc (pc + 3) (e_c (SPB + i)) := ec_c fun X hX L st M w hm ls H locs hll hP hS => va_getsN (host := RX6) hX.1 hX.2.1 (hX.I.1 i q hq).1 hS hX.2.2.2.1 (va_Nw.use rfl (hX.I.2.2.2.1 (c_own C, idx, q.1) hl)) (fun x hx => hx) hd (w hm ls H locs hll hP hS)
/-- a String constant -/
theorem ec_str {C : CX} {kk pc i : Nat} {q : Nat × String × List Int32} (hq : str_tab[i]? = some q) (ho : c_own C = RX1) (hd : decode (c_cc C) pc = .ok (.ldc q.1, 2)) : EC C Value.ref kk pc (pc + 2) (e_c (SPB + 100 + i)) := ec_c fun X hX L st M w hm ls H locs hll hP hS => va_ldcS hX.1 hX.2.1 (by rw [← ho]; exact hX.2.2.2.1) (hX.I.2.1.2.1 i q hq) hd (w hm ls H locs hll hP hS)
/-! writes -/
def gm_wr (M : GM) (id : Nat) (i x : Int32) : Option GM := if 0 ≤ i then (M[id]?).bind fun c => if c.1 = 10 ∧ i.toNatClampNeg < c.2.length then some (M.set id (10, c.2.set i.toNatClampNeg (.int x))) else none else none
theorem gm_wr_some {M M' : GM} {id : Nat} {i x : Int32} (h : gm_wr M id i x = some M') : 0 ≤ i ∧ ∃ sl, M[id]? = some (10, sl) ∧ i.toNatClampNeg < sl.length ∧ M' = M.set id (10, sl.set i.toNatClampNeg (.int x)) := by
  unfold gm_wr at h
  by_cases h0 : 0 ≤ i
  · rw [if_pos h0] at h
    obtain ⟨⟨a, sl⟩, h1, h2⟩ := bind_some h
    by_cases e : a = 10 ∧ i.toNatClampNeg < sl.length
    · rw [if_pos e] at h2
      obtain ⟨rfl, e2⟩ := e
      exact ⟨h0, sl, h1, e2, (Option.some.inj h2).symm⟩
    · rw [if_neg e] at h2; cases h2
  · rw [if_neg h0] at h; cases h
theorem gm_set_ge {M : GM} {id kd : Nat} {sl sl' : List Value} (h : M[id]? = some (kd, sl)) (hl : sl'.length = sl.length) : gm_le M (M.set id (kd, sl')) ∧ gm_le (M.set id (kd, sl')) M := by
  have e := gm_set_le (sl' := sl') h hl
  unfold gm_le
  rw [e.1, e.2]
  exact ⟨⟨Nat.le_refl _, Nat.le_refl _⟩, ⟨Nat.le_refl _, Nat.le_refl _⟩⟩
theorem wa_wr {C : CX} {X : MX} (h : XOK C X) {pc : Nat} (hd : decode (c_cc C) pc = .ok (.iastore, 1)) {L st : List Value} {M M' : GM} {id : Nat} {i x : Int32} (hr : gm_wr M id i x = some M') (hle : gm_le M' (x_tg X).2) (w : WA X (pc + 1) L st M') : WA X pc L (.int x :: .int i :: .ref id :: st) M := by
  obtain ⟨h0, sl, h1, h2, rfl⟩ := gm_wr_some hr
  exact wa_iast h hd h1 h0 h2 ((gm_set_ge h1 List.length_set).1.tr hle) w
theorem gm_wr_le {M M' : GM} {id : Nat} {i x : Int32} (h : gm_wr M id i x = some M') : gm_le M M' := by
  obtain ⟨h0, sl, h1, h2, rfl⟩ := gm_wr_some h
  exact (gm_set_ge h1 List.length_set).1
def s_as (r : DE Nat) (ix e : DE Int32) : SD := fun L M => (r L M).bind fun p => (ix L p.2).bind fun q => (e L q.2).bind fun u => (gm_wr u.2 p.1 q.1 u.1).bind fun M' => some (.inl (L, M'))
theorem sc_as {C : CX} {pc p1 p2 p3 : Nat} {r : DE Nat} {ix e : DE Int32} (hr : EC C Value.ref 0 pc p1 r) (hi : EC C Value.int 1 p1 p2 ix) (hv : EC C Value.int 2 p2 p3 e) (hd : decode (c_cc C) p3 = .ok (.iastore, 1)) : SC C pc (p3 + 1) (s_as r ix e) := by
  intro L M rr he
  obtain ⟨⟨id, M1⟩, h1, h2⟩ := bind_some he
  obtain ⟨⟨i, M2⟩, h3, h4⟩ := bind_some h2
  obtain ⟨⟨x, M3⟩, h5, h6⟩ := bind_some h4
  obtain ⟨M4, h7, h8⟩ := bind_some h6
  cases h8
  obtain ⟨g1, w1⟩ := hr L M id _ h1
  obtain ⟨g2, w2⟩ := hi L M1 i _ h3
  obtain ⟨g3, w3⟩ := hv L M2 x _ h5
  have g4 := gm_wr_le h7
  exact ⟨g1.tr (g2.tr (g3.tr g4)), fun X hX hf w => w1 X hX [] (Nat.le_refl _) (g2.tr (g3.tr (g4.tr hf))) (w2 X hX [.ref id] (Nat.le_refl _) (g3.tr (g4.tr hf)) (w3 X hX [.int i, .ref id] (Nat.le_refl _) (g4.tr hf) (wa_wr hX hd h7 hf w)))⟩
/-- r[ix] = r[ix] op e, as javac writes it: dup2, iaload, e, op, iastore -/
def s_aop (op : Int32 → Int32 → Int32) (r : DE Nat) (ix e : DE Int32) : SD := fun L M => (r L M).bind fun p => (ix L p.2).bind fun q => (gm_rd q.2 p.1 q.1).bind fun v => (e L q.2).bind fun u => (gm_wr u.2 p.1 q.1 (op v u.1)).bind fun M' => some (.inl (L, M'))
theorem sc_aopW {C : CX} {pc p1 p2 p3 p4 : Nat} {op : Int32 → Int32 → Int32} {r : DE Nat} {ix e : DE Int32} (hr : EC C Value.ref 0 pc p1 r) (hi : EC C Value.int 1 p1 p2 ix) (d1 : decode (c_cc C) p2 = .ok (.dup2, 1)) (d2 : decode (c_cc C) (p2 + 1) = .ok (.iaload, 1)) (hv : EC C Value.int 3 (p2 + 2) p3 e) (hop : ∀ X, XOK C X → ∀ L st M x y, WA X p4 L (.int (op x y) :: st) M → WA X p3 L (.int y :: .int x :: st) M) (hd : decode (c_cc C) p4 = .ok (.iastore, 1)) : SC C pc (p4 + 1) (s_aop op r ix e) := by
  intro L M rr he
  obtain ⟨⟨id, M1⟩, h1, h2⟩ := bind_some he
  obtain ⟨⟨i, M2⟩, h3, h4⟩ := bind_some h2
  obtain ⟨v, h9, h10⟩ := bind_some h4
  obtain ⟨⟨x, M3⟩, h5, h6⟩ := bind_some h10
  obtain ⟨M4, h7, h8⟩ := bind_some h6
  cases h8
  obtain ⟨g1, w1⟩ := hr L M id _ h1
  obtain ⟨g2, w2⟩ := hi L M1 i _ h3
  obtain ⟨g3, w3⟩ := hv L M2 x _ h5
  have g4 := gm_wr_le h7
  refine ⟨g1.tr (g2.tr (g3.tr g4)), fun X hX hf w => w1 X hX [] (Nat.le_refl _) (g2.tr (g3.tr (g4.tr hf))) (w2 X hX [.ref id] (Nat.le_refl _) (g3.tr (g4.tr hf)) ?_)⟩
  have k1 := w3 X hX [.int v, .int i, .ref id] (Nat.le_refl _) (g4.tr hf) (hop X hX L _ _ v x (wa_wr hX hd h7 hf w))
  have k2 := wa_rd hX d2 h9 k1
  intro hm ls H locs hl hP hS
  exact lv_dup2_11 hX.1 hX.2.1 d1 rfl rfl (k2 hm ls H locs hl hP hS)
theorem sc_aop_iadd {C : CX} {pc p1 p2 p3 : Nat} {r : DE Nat} {ix e : DE Int32} (hr : EC C Value.ref 0 pc p1 r) (hi : EC C Value.int 1 p1 p2 ix) (d1 : decode (c_cc C) p2 = .ok (.dup2, 1)) (d2 : decode (c_cc C) (p2 + 1) = .ok (.iaload, 1)) (hv : EC C Value.int 3 (p2 + 2) p3 e) (d3 : decode (c_cc C) p3 = .ok (.iadd, 1)) (hd : decode (c_cc C) (p3 + 1) = .ok (.iastore, 1)) : SC C pc (p3 + 2) (s_aop (fun (x y : Int32) => x + y) r ix e) := sc_aopW hr hi d1 d2 hv (fun X hX L st M x y w hm ls H locs hl hP hS => lv_iadd hX.1 hX.2.1 d3 (w hm ls H locs hl hP hS)) hd
theorem sc_aop_isub {C : CX} {pc p1 p2 p3 : Nat} {r : DE Nat} {ix e : DE Int32} (hr : EC C Value.ref 0 pc p1 r) (hi : EC C Value.int 1 p1 p2 ix) (d1 : decode (c_cc C) p2 = .ok (.dup2, 1)) (d2 : decode (c_cc C) (p2 + 1) = .ok (.iaload, 1)) (hv : EC C Value.int 3 (p2 + 2) p3 e) (d3 : decode (c_cc C) p3 = .ok (.isub, 1)) (hd : decode (c_cc C) (p3 + 1) = .ok (.iastore, 1)) : SC C pc (p3 + 2) (s_aop (fun (x y : Int32) => x - y) r ix e) := sc_aopW hr hi d1 d2 hv (fun X hX L st M x y w hm ls H locs hl hP hS => lv_isub hX.1 hX.2.1 d3 (w hm ls H locs hl hP hS)) hd
theorem sc_aop_imul {C : CX} {pc p1 p2 p3 : Nat} {r : DE Nat} {ix e : DE Int32} (hr : EC C Value.ref 0 pc p1 r) (hi : EC C Value.int 1 p1 p2 ix) (d1 : decode (c_cc C) p2 = .ok (.dup2, 1)) (d2 : decode (c_cc C) (p2 + 1) = .ok (.iaload, 1)) (hv : EC C Value.int 3 (p2 + 2) p3 e) (d3 : decode (c_cc C) p3 = .ok (.imul, 1)) (hd : decode (c_cc C) (p3 + 1) = .ok (.iastore, 1)) : SC C pc (p3 + 2) (s_aop (fun (x y : Int32) => x * y) r ix e) := sc_aopW hr hi d1 d2 hv (fun X hX L st M x y w hm ls H locs hl hP hS => lv_imul hX.1 hX.2.1 d3 (w hm ls H locs hl hP hS)) hd
theorem sc_aop_ior {C : CX} {pc p1 p2 p3 : Nat} {r : DE Nat} {ix e : DE Int32} (hr : EC C Value.ref 0 pc p1 r) (hi : EC C Value.int 1 p1 p2 ix) (d1 : decode (c_cc C) p2 = .ok (.dup2, 1)) (d2 : decode (c_cc C) (p2 + 1) = .ok (.iaload, 1)) (hv : EC C Value.int 3 (p2 + 2) p3 e) (d3 : decode (c_cc C) p3 = .ok (.ior, 1)) (hd : decode (c_cc C) (p3 + 1) = .ok (.iastore, 1)) : SC C pc (p3 + 2) (s_aop (fun (x y : Int32) => x ||| y) r ix e) := sc_aopW hr hi d1 d2 hv (fun X hX L st M x y w hm ls H locs hl hP hS => lv_ior hX.1 hX.2.1 d3 (w hm ls H locs hl hP hS)) hd
def gm_pf (M : GM) (id ci k : Nat) (v : Value) : Option GM := (M[id]?).bind fun c => if c.1 = ci ∧ k < c.2.length then some (M.set id (ci, c.2.set k v)) else none
theorem gm_pf_some {M M' : GM} {id ci k : Nat} {v : Value} (h : gm_pf M id ci k v = some M') : ∃ sl, M[id]? = some (ci, sl) ∧ k < sl.length ∧ M' = M.set id (ci, sl.set k v) := by
  obtain ⟨⟨a, sl⟩, h1, h2⟩ := bind_some h
  by_cases e : a = ci ∧ k < sl.length
  · rw [if_pos e] at h2
    obtain ⟨rfl, e2⟩ := e
    exact ⟨sl, h1, e2, (Option.some.inj h2).symm⟩
  · rw [if_neg e] at h2; cases h2
theorem gm_pf_le {M M' : GM} {id ci k : Nat} {v : Value} (h : gm_pf M id ci k v = some M') : gm_le M M' := by
  obtain ⟨sl, h1, h2, rfl⟩ := gm_pf_some h
  exact (gm_set_ge h1 List.length_set).1
theorem wa_pf {C : CX} {X : MX} (h : XOK C X) {pc idx ci k : Nat} {t : FieldType} (hf : FL (c_own C) idx ci k t false) (hd : decode (c_cc C) pc = .ok (.putfield idx, 3)) {L st : List Value} {M M' : GM} {id : Nat} {v : Value} (hr : gm_pf M id ci k v = some M') (hle : gm_le M' (x_tg X).2) (hn : narrow t (tv (k_ad (x_K X)) v) = tv (k_ad (x_K X)) v) (hfit : fits t (tv (k_ad (x_K X)) v) = true) (w : WA X (pc + 3) L st M') : WA X pc L (v :: .ref id :: st) M := by
  obtain ⟨sl, h1, h2, rfl⟩ := gm_pf_some hr
  exact wa_put h hf hd h1 h2 ((gm_set_ge h1 List.length_set).1.tr hle) hn hfit w
def s_pf {α : Type} (inj : α → Value) (ci k : Nat) (r : DE Nat) (e : DE α) : SD := fun L M => (r L M).bind fun p => (e L p.2).bind fun u => (gm_pf u.2 p.1 ci k (inj u.1)).bind fun M' => some (.inl (L, M'))
def s_pfz (ci k : Nat) (r : DE Nat) (e : DE Int32) : SD := fun L M => (r L M).bind fun p => (e L p.2).bind fun u => if u.1 = 0 ∨ u.1 = 1 then (gm_pf u.2 p.1 ci k (.int u.1)).bind fun M' => some (.inl (L, M')) else none
theorem sc_pf {C : CX} {pc p1 p2 idx ci k : Nat} {r : DE Nat} {e : DE Int32} (hr : EC C Value.ref 0 pc p1 r) (hv : EC C Value.int 1 p1 p2 e) (hf : FL (c_own C) idx ci k .int false) (hd : decode (c_cc C) p2 = .ok (.putfield idx, 3)) : SC C pc (p2 + 3) (s_pf Value.int ci k r e) := by
  intro L M rr he
  obtain ⟨⟨id, M1⟩, h1, h2⟩ := bind_some he
  obtain ⟨⟨x, M2⟩, h3, h4⟩ := bind_some h2
  obtain ⟨M3, h5, h6⟩ := bind_some h4
  cases h6
  obtain ⟨g1, w1⟩ := hr L M id _ h1
  obtain ⟨g2, w2⟩ := hv L M1 x _ h3
  have g3 := gm_pf_le h5
  exact ⟨g1.tr (g2.tr g3), fun X hX hle w => w1 X hX [] (Nat.le_refl _) (g2.tr (g3.tr hle)) (w2 X hX [.ref id] (Nat.le_refl _) (g3.tr hle) (wa_pf hX hf hd h5 hle rfl rfl w))⟩
theorem sc_pfz {C : CX} {pc p1 p2 idx ci k : Nat} {r : DE Nat} {e : DE Int32} (hr : EC C Value.ref 0 pc p1 r) (hv : EC C Value.int 1 p1 p2 e) (hf : FL (c_own C) idx ci k .boolean false) (hd : decode (c_cc C) p2 = .ok (.putfield idx, 3)) : SC C pc (p2 + 3) (s_pfz ci k r e) := by
  intro L M rr he
  obtain ⟨⟨id, M1⟩, h1, h2⟩ := bind_some he
  obtain ⟨⟨x, M2⟩, h3, h4⟩ := bind_some h2
  by_cases hx : x = 0 ∨ x = 1
  · rw [if_pos hx] at h4
    obtain ⟨M3, h5, h6⟩ := bind_some h4
    cases h6
    obtain ⟨g1, w1⟩ := hr L M id _ h1
    obtain ⟨g2, w2⟩ := hv L M1 x _ h3
    have g3 := gm_pf_le h5
    exact ⟨g1.tr (g2.tr g3), fun X hX hle w => w1 X hX [] (Nat.le_refl _) (g2.tr (g3.tr hle)) (w2 X hX [.ref id] (Nat.le_refl _) (g3.tr hle) (wa_pf hX hf hd h5 hle (by rcases hx with rfl | rfl <;> rfl) (by rcases hx with rfl | rfl <;> rfl) w))⟩
  · rw [if_neg hx] at h4; cases h4
/-- r.f = r.f op e: dup, getfield, e, op, putfield -/
def s_fop (op : Int32 → Int32 → Int32) (ci k : Nat) (r : DE Nat) (e : DE Int32) : SD := fun L M => (r L M).bind fun p => match gm_fld p.2 p.1 ci k with
  | some (.int v) => (e L p.2).bind fun u => (gm_pf u.2 p.1 ci k (.int (op v u.1))).bind fun M' => some (.inl (L, M'))
  | _ => none
theorem sc_fopW {C : CX} {pc p1 p3 p4 idx ci k : Nat} {op : Int32 → Int32 → Int32} {r : DE Nat} {e : DE Int32} (hr : EC C Value.ref 0 pc p1 r) (d1 : decode (c_cc C) p1 = .ok (.dup, 1)) (hf : FL (c_own C) idx ci k .int false) (d2 : decode (c_cc C) (p1 + 1) = .ok (.getfield idx, 3)) (hv : EC C Value.int 2 (p1 + 4) p3 e) (hop : ∀ X, XOK C X → ∀ L st M x y, WA X p4 L (.int (op x y) :: st) M → WA X p3 L (.int y :: .int x :: st) M) (hd : decode (c_cc C) p4 = .ok (.putfield idx, 3)) : SC C pc (p4 + 3) (s_fop op ci k r e) := by
  intro L M rr he
  obtain ⟨⟨id, M1⟩, h1, h2⟩ := bind_some he
  simp only at h2
  split at h2
  · rename_i v hx
    obtain ⟨⟨x, M2⟩, h3, h4⟩ := bind_some h2
    obtain ⟨M3, h5, h6⟩ := bind_some h4
    cases h6
    obtain ⟨g1, w1⟩ := hr L M id _ h1
    obtain ⟨g2, w2⟩ := hv L M1 x _ h3
    have g3 := gm_pf_le h5
    obtain ⟨sl, h7, h8⟩ := gm_fld_some hx
    refine ⟨g1.tr (g2.tr g3), fun X hX hle w => w1 X hX [] (Nat.le_refl _) (g2.tr (g3.tr hle)) ?_⟩
    have k1 := w2 X hX [.int v, .ref id] (Nat.le_refl _) (g3.tr hle) (hop X hX L _ _ v x (wa_pf hX hf hd h5 hle rfl rfl w))
    have k2 := wa_get hX hf d2 h7 h8 k1
    intro hm ls H locs hl hP hS
    exact lv_dup hX.1 hX.2.1 d1 rfl (k2 hm ls H locs hl hP hS)
  · cases h2
theorem sc_fop_iadd {C : CX} {pc p1 p3 idx ci k : Nat} {r : DE Nat} {e : DE Int32} (hr : EC C Value.ref 0 pc p1 r) (d1 : decode (c_cc C) p1 = .ok (.dup, 1)) (hf : FL (c_own C) idx ci k .int false) (d2 : decode (c_cc C) (p1 + 1) = .ok (.getfield idx, 3)) (hv : EC C Value.int 2 (p1 + 4) p3 e) (d3 : decode (c_cc C) p3 = .ok (.iadd, 1)) (hd : decode (c_cc C) (p3 + 1) = .ok (.putfield idx, 3)) : SC C pc (p3 + 4) (s_fop (fun (x y : Int32) => x + y) ci k r e) := sc_fopW hr d1 hf d2 hv (fun X hX L st M x y w hm ls H locs hl hP hS => lv_iadd hX.1 hX.2.1 d3 (w hm ls H locs hl hP hS)) hd
theorem sc_fop_isub {C : CX} {pc p1 p3 idx ci k : Nat} {r : DE Nat} {e : DE Int32} (hr : EC C Value.ref 0 pc p1 r) (d1 : decode (c_cc C) p1 = .ok (.dup, 1)) (hf : FL (c_own C) idx ci k .int false) (d2 : decode (c_cc C) (p1 + 1) = .ok (.getfield idx, 3)) (hv : EC C Value.int 2 (p1 + 4) p3 e) (d3 : decode (c_cc C) p3 = .ok (.isub, 1)) (hd : decode (c_cc C) (p3 + 1) = .ok (.putfield idx, 3)) : SC C pc (p3 + 4) (s_fop (fun (x y : Int32) => x - y) ci k r e) := sc_fopW hr d1 hf d2 hv (fun X hX L st M x y w hm ls H locs hl hP hS => lv_isub hX.1 hX.2.1 d3 (w hm ls H locs hl hP hS)) hd
/-- a final field that holds a cell, set in a constructor -/
def s_pff (ci k : Nat) (r e : DE Nat) : SD := s_pf Value.ref ci k r e
theorem sc_pff {C : CX} {pc p1 p2 idx ci k : Nat} {t : FieldType} {r e : DE Nat} (hr : EC C Value.ref 0 pc p1 r) (hv : EC C Value.ref 1 p1 p2 e) (hf : FL (c_own C) idx ci k t true) (hcn : ∀ q, vwCl[ci]? = some q → q.1 = c_own C) (hnm : c_nm C = "<init>") (ht : (∃ n, t = .object n) ∨ ∃ n, t = .array n) (hd : decode (c_cc C) p2 = .ok (.putfield idx, 3)) : SC C pc (p2 + 3) (s_pff ci k r e) := by
  intro L M rr he
  obtain ⟨⟨id, M1⟩, h1, h2⟩ := bind_some he
  obtain ⟨⟨x, M2⟩, h3, h4⟩ := bind_some h2
  obtain ⟨M3, h5, h6⟩ := bind_some h4
  cases h6
  obtain ⟨g1, w1⟩ := hr L M id _ h1
  obtain ⟨g2, w2⟩ := hv L M1 x _ h3
  have g3 := gm_pf_le h5
  refine ⟨g1.tr (g2.tr g3), fun X hX hle w => w1 X hX [] (Nat.le_refl _) (g2.tr (g3.tr hle)) (w2 X hX [.ref id] (Nat.le_refl _) (g3.tr hle) ?_)⟩
  obtain ⟨sl, h7, h8, rfl⟩ := gm_pf_some h5
  exact wa_putF hX hf hcn hnm hd h7 h8 ((gm_set_ge h7 List.length_set).1.tr hle) (by rcases ht with ⟨n, rfl⟩ | ⟨n, rfl⟩ <;> rfl) (by rcases ht with ⟨n, rfl⟩ | ⟨n, rfl⟩ <;> rfl) w
