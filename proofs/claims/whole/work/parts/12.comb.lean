theorem i32_nlt (x y : Int32) : (¬ x < y) = (y ≤ x) := propext Int32.not_lt
theorem i32_nle (x y : Int32) : (¬ x ≤ y) = (y < x) := propext Int32.not_le
/-! EXPRESSIONS -/
def e_c {α : Type} (v : α) : DE α := fun _ M => some (v, M)
def e_li (i : Nat) : DE Int32 := fun L M => match L[i]? with
  | some (.int v) => some (v, M)
  | _ => none
def e_lr (i : Nat) : DE Nat := fun L M => match L[i]? with
  | some (.ref v) => some (v, M)
  | _ => none
def e_lj (i : Nat) : DE Int64 := fun L M => match L[i]? with
  | some (.long v) => some (v, M)
  | _ => none
def e_un {α β : Type} (op : α → β) (a : DE α) : DE β := fun L M => (a L M).bind fun p => some (op p.1, p.2)
def e_bin {α β γ : Type} (op : α → β → γ) (a : DE α) (b : DE β) : DE γ := fun L M => (a L M).bind fun p => (b L p.2).bind fun q => some (op p.1 q.1, q.2)
def e_div (a b : DE Int32) : DE Int32 := fun L M => (a L M).bind fun p => (b L p.2).bind fun q => if q.1 = 0 then none else some (p.1 / q.1, q.2)
def e_rem (a b : DE Int32) : DE Int32 := fun L M => (a L M).bind fun p => (b L p.2).bind fun q => if q.1 = 0 then none else some (p.1 - p.1 / q.1 * q.1, q.2)
def e_if {α : Type} (b : DE Bool) (x y : DE α) : DE α := fun L M => (b L M).bind fun p => if p.1 then x L p.2 else y L p.2
theorem bind_some {α β : Type} {o : Option α} {f : α → Option β} {r : β} (h : o.bind f = some r) : ∃ a, o = some a ∧ f a = some r := by
  cases o with
  | none => cases h
  | some a => exact ⟨a, rfl, h⟩
theorem ec_c {C : CX} {α : Type} {inj : α → Value} {k pc pc' : Nat} {v : α} (h : ∀ X, XOK C X → ∀ L st M, WA X pc' L (inj v :: st) M → WA X pc L st M) : EC C inj k pc pc' (e_c v) := by
  intro L M v' M' he
  cases he
  exact ⟨gm_le.rf _, fun X hX st _ _ w => h X hX L st M w⟩
theorem ec_iconst {C : CX} {k pc : Nat} {n : Int} {v : Int32} (hd : decode (c_cc C) pc = .ok (.iconst n, 1)) (hv : Int32.ofInt n = v) : EC C Value.int k pc (pc + 1) (e_c v) := ec_c fun X hX L st M w hm ls H locs hl hP hS => lv_iconst hX.1 hX.2.1 hd hv (w hm ls H locs hl hP hS)
theorem ec_bipush {C : CX} {k pc : Nat} {n : Int} {v : Int32} (hd : decode (c_cc C) pc = .ok (.bipush n, 2)) (hv : (Int8.ofInt n).toInt32 = v) : EC C Value.int k pc (pc + 2) (e_c v) := ec_c fun X hX L st M w hm ls H locs hl hP hS => lv_bipush hX.1 hX.2.1 hd hv (w hm ls H locs hl hP hS)
theorem ec_sipush {C : CX} {k pc : Nat} {n : Int} {v : Int32} (hd : decode (c_cc C) pc = .ok (.sipush n, 3)) (hv : (Int16.ofInt n).toInt32 = v) : EC C Value.int k pc (pc + 3) (e_c v) := ec_c fun X hX L st M w hm ls H locs hl hP hS => lv_sipush hX.1 hX.2.1 hd hv (w hm ls H locs hl hP hS)
theorem ec_ldc {C : CX} {k pc : Nat} {n : Nat} {v : Int32} (hd : decode (c_cc C) pc = .ok (.ldc n, 2)) (hc : Cond.constant (c_own C) n v ∈ lw_g) : EC C Value.int k pc (pc + 2) (e_c v) := ec_c fun X hX L st M w hm ls H locs hl hP hS => lv_ldc hX.1 hX.2.1 hX.2.2.2.1 (hX.T hc) hd (w hm ls H locs hl hP hS)
theorem ec_ldcw {C : CX} {k pc : Nat} {n : Nat} {v : Int32} (hd : decode (c_cc C) pc = .ok (.ldc_w n, 3)) (hc : Cond.constant (c_own C) n v ∈ lw_g) : EC C Value.int k pc (pc + 3) (e_c v) := ec_c fun X hX L st M w hm ls H locs hl hP hS => lv_ldcw hX.1 hX.2.1 hX.2.2.2.1 (hX.T hc) hd (w hm ls H locs hl hP hS)
theorem ec_lconst {C : CX} {k pc : Nat} {n : Fin 2} {v : Int64} (hd : decode (c_cc C) pc = .ok (.lconst n, 1)) (hv : Int64.ofNat (n : Nat) = v) : EC C Value.long k pc (pc + 1) (e_c v) := ec_c fun X hX L st M w hm ls H locs hl hP hS => lv_lconst hX.1 hX.2.1 hd hv (w hm ls H locs hl hP hS)
theorem ec_ldc2 {C : CX} {k pc : Nat} {n : Nat} {v : Int64} (hd : decode (c_cc C) pc = .ok (.ldc2_w n, 3)) (hc : Cond.constantLong (c_own C) n v ∈ lw_g) : EC C Value.long k pc (pc + 3) (e_c v) := ec_c fun X hX L st M w hm ls H locs hl hP hS => lv_ldc2 hX.1 hX.2.1 hX.2.2.2.1 (hX.T hc) hd (w hm ls H locs hl hP hS)
theorem e_li_some {i : Nat} {L : List Value} {M M' : GM} {v : Int32} (h : e_li i L M = some (v, M')) : L[i]? = some (.int v) ∧ M' = M := by
  unfold e_li at h
  split at h
  · rename_i x hx; cases h; exact ⟨hx, rfl⟩
  · cases h
theorem ec_iload_n {C : CX} {k pc : Nat} {n : Fin 4} {i : Nat} (hd : decode (c_cc C) pc = .ok (.iload_n n, 1)) (hi : (n : Nat) = i) : EC C Value.int k pc (pc + 1) (e_li i) := by
  intro L M v M' he
  obtain ⟨hv, rfl⟩ := e_li_some he
  exact ⟨gm_le.rf _, fun X hX st _ _ w hm ls H locs hl hP hS => lv_iload_n hX.1 hX.2.1 hd hi (lvL_at hl hv rfl) (w hm ls H locs hl hP hS)⟩
theorem ec_iload {C : CX} {k pc : Nat} {i : Nat} (hd : decode (c_cc C) pc = .ok (.iload i, 2)) : EC C Value.int k pc (pc + 2) (e_li i) := by
  intro L M v M' he
  obtain ⟨hv, rfl⟩ := e_li_some he
  exact ⟨gm_le.rf _, fun X hX st _ _ w hm ls H locs hl hP hS => lv_iload hX.1 hX.2.1 hd (lvL_at hl hv rfl) (w hm ls H locs hl hP hS)⟩
theorem e_lr_some {i : Nat} {L : List Value} {M M' : GM} {v : Nat} (h : e_lr i L M = some (v, M')) : L[i]? = some (.ref v) ∧ M' = M := by
  unfold e_lr at h
  split at h
  · rename_i x hx; cases h; exact ⟨hx, rfl⟩
  · cases h
theorem ec_aload_n {C : CX} {k pc : Nat} {n : Fin 4} {i : Nat} (hd : decode (c_cc C) pc = .ok (.aload_n n, 1)) (hi : (n : Nat) = i) : EC C Value.ref k pc (pc + 1) (e_lr i) := by
  intro L M v M' he
  obtain ⟨hv, rfl⟩ := e_lr_some he
  exact ⟨gm_le.rf _, fun X hX st _ _ w hm ls H locs hl hP hS => lv_aload_n hX.1 hX.2.1 hd hi (lvL_at hl hv rfl) (w hm ls H locs hl hP hS)⟩
theorem ec_aload {C : CX} {k pc : Nat} {i : Nat} (hd : decode (c_cc C) pc = .ok (.aload i, 2)) : EC C Value.ref k pc (pc + 2) (e_lr i) := by
  intro L M v M' he
  obtain ⟨hv, rfl⟩ := e_lr_some he
  exact ⟨gm_le.rf _, fun X hX st _ _ w hm ls H locs hl hP hS => lv_aload hX.1 hX.2.1 hd (lvL_at hl hv rfl) (w hm ls H locs hl hP hS)⟩
theorem e_lj_some {i : Nat} {L : List Value} {M M' : GM} {v : Int64} (h : e_lj i L M = some (v, M')) : L[i]? = some (.long v) ∧ M' = M := by
  unfold e_lj at h
  split at h
  · rename_i x hx; cases h; exact ⟨hx, rfl⟩
  · cases h
theorem ec_lload_n {C : CX} {k pc : Nat} {n : Fin 4} {i : Nat} (hd : decode (c_cc C) pc = .ok (.lload_n n, 1)) (hi : (n : Nat) = i) : EC C Value.long k pc (pc + 1) (e_lj i) := by
  intro L M v M' he
  obtain ⟨hv, rfl⟩ := e_lj_some he
  exact ⟨gm_le.rf _, fun X hX st _ _ w hm ls H locs hl hP hS => lv_lload_n hX.1 hX.2.1 hd hi (lvL_at hl hv rfl) (w hm ls H locs hl hP hS)⟩
theorem ec_lload {C : CX} {k pc : Nat} {i : Nat} (hd : decode (c_cc C) pc = .ok (.lload i, 2)) : EC C Value.long k pc (pc + 2) (e_lj i) := by
  intro L M v M' he
  obtain ⟨hv, rfl⟩ := e_lj_some he
  exact ⟨gm_le.rf _, fun X hX st _ _ w hm ls H locs hl hP hS => lv_lload hX.1 hX.2.1 hd (lvL_at hl hv rfl) (w hm ls H locs hl hP hS)⟩
theorem csum_cons (v : Value) (st : List Value) : csum (v :: st) = v.category + csum st := by unfold csum; simp
theorem ec_un {C : CX} {α β : Type} {i1 : α → Value} {i2 : β → Value} {k pc p1 p2 : Nat} {a : DE α} {op : α → β} (ha : EC C i1 k pc p1 a) (hr : ∀ X, XOK C X → ∀ L st M x, WA X p2 L (i2 (op x) :: st) M → WA X p1 L (i1 x :: st) M) : EC C i2 k pc p2 (e_un op a) := by
  intro L M v M' he
  obtain ⟨⟨x, M1⟩, h1, h2⟩ := bind_some he
  cases h2
  obtain ⟨g1, w1⟩ := ha L M x _ h1
  exact ⟨g1, fun X hX st hk hf w => w1 X hX st hk hf (hr X hX L st _ x w)⟩
theorem ec_bin {C : CX} {α β γ : Type} {i1 : α → Value} {i2 : β → Value} {i3 : γ → Value} {k k2 pc p1 p2 p3 : Nat} {a : DE α} {b : DE β} {op : α → β → γ} (ha : EC C i1 k pc p1 a) (hb : EC C i2 k2 p1 p2 b) (hk2 : ∀ x, (i1 x).category + k = k2) (hr : ∀ X, XOK C X → ∀ L st M x y, WA X p3 L (i3 (op x y) :: st) M → WA X p2 L (i2 y :: i1 x :: st) M) : EC C i3 k pc p3 (e_bin op a b) := by
  intro L M v M' he
  obtain ⟨⟨x, M1⟩, h1, h2⟩ := bind_some he
  obtain ⟨⟨y, M2⟩, h3, h4⟩ := bind_some h2
  cases h4
  obtain ⟨g1, w1⟩ := ha L M x _ h1
  obtain ⟨g2, w2⟩ := hb L M1 y _ h3
  exact ⟨g1.tr g2, fun X hX st hk hf w => w1 X hX st hk (g2.tr hf) (w2 X hX (i1 x :: st) (by rw [csum_cons, ← hk2 x]; omega) hf (hr X hX L st _ x y w))⟩
theorem ec_iadd {C : CX} {k pc p1 p2 : Nat} {a b : DE Int32} (ha : EC C Value.int k pc p1 a) (hb : EC C Value.int (1 + k) p1 p2 b) (hd : decode (c_cc C) p2 = .ok (.iadd, 1)) : EC C Value.int k pc (p2 + 1) (e_bin (fun (x y : Int32) => x + y) a b) := ec_bin (i1 := Value.int) (i2 := Value.int) (i3 := Value.int) ha hb (fun _ => rfl) fun X hX L st M x y w hm ls H locs hl hP hS => lv_iadd hX.1 hX.2.1 hd (w hm ls H locs hl hP hS)
theorem ec_isub {C : CX} {k pc p1 p2 : Nat} {a b : DE Int32} (ha : EC C Value.int k pc p1 a) (hb : EC C Value.int (1 + k) p1 p2 b) (hd : decode (c_cc C) p2 = .ok (.isub, 1)) : EC C Value.int k pc (p2 + 1) (e_bin (fun (x y : Int32) => x - y) a b) := ec_bin (i1 := Value.int) (i2 := Value.int) (i3 := Value.int) ha hb (fun _ => rfl) fun X hX L st M x y w hm ls H locs hl hP hS => lv_isub hX.1 hX.2.1 hd (w hm ls H locs hl hP hS)
theorem ec_imul {C : CX} {k pc p1 p2 : Nat} {a b : DE Int32} (ha : EC C Value.int k pc p1 a) (hb : EC C Value.int (1 + k) p1 p2 b) (hd : decode (c_cc C) p2 = .ok (.imul, 1)) : EC C Value.int k pc (p2 + 1) (e_bin (fun (x y : Int32) => x * y) a b) := ec_bin (i1 := Value.int) (i2 := Value.int) (i3 := Value.int) ha hb (fun _ => rfl) fun X hX L st M x y w hm ls H locs hl hP hS => lv_imul hX.1 hX.2.1 hd (w hm ls H locs hl hP hS)
theorem ec_iand {C : CX} {k pc p1 p2 : Nat} {a b : DE Int32} (ha : EC C Value.int k pc p1 a) (hb : EC C Value.int (1 + k) p1 p2 b) (hd : decode (c_cc C) p2 = .ok (.iand, 1)) : EC C Value.int k pc (p2 + 1) (e_bin (fun (x y : Int32) => x &&& y) a b) := ec_bin (i1 := Value.int) (i2 := Value.int) (i3 := Value.int) ha hb (fun _ => rfl) fun X hX L st M x y w hm ls H locs hl hP hS => lv_iand hX.1 hX.2.1 hd (w hm ls H locs hl hP hS)
theorem ec_ior {C : CX} {k pc p1 p2 : Nat} {a b : DE Int32} (ha : EC C Value.int k pc p1 a) (hb : EC C Value.int (1 + k) p1 p2 b) (hd : decode (c_cc C) p2 = .ok (.ior, 1)) : EC C Value.int k pc (p2 + 1) (e_bin (fun (x y : Int32) => x ||| y) a b) := ec_bin (i1 := Value.int) (i2 := Value.int) (i3 := Value.int) ha hb (fun _ => rfl) fun X hX L st M x y w hm ls H locs hl hP hS => lv_ior hX.1 hX.2.1 hd (w hm ls H locs hl hP hS)
theorem ec_ixor {C : CX} {k pc p1 p2 : Nat} {a b : DE Int32} (ha : EC C Value.int k pc p1 a) (hb : EC C Value.int (1 + k) p1 p2 b) (hd : decode (c_cc C) p2 = .ok (.ixor, 1)) : EC C Value.int k pc (p2 + 1) (e_bin (fun (x y : Int32) => x ^^^ y) a b) := ec_bin (i1 := Value.int) (i2 := Value.int) (i3 := Value.int) ha hb (fun _ => rfl) fun X hX L st M x y w hm ls H locs hl hP hS => lv_ixor hX.1 hX.2.1 hd (w hm ls H locs hl hP hS)
theorem ec_ishl {C : CX} {k pc p1 p2 : Nat} {a b : DE Int32} (ha : EC C Value.int k pc p1 a) (hb : EC C Value.int (1 + k) p1 p2 b) (hd : decode (c_cc C) p2 = .ok (.ishl, 1)) : EC C Value.int k pc (p2 + 1) (e_bin (fun (x y : Int32) => x <<< (y &&& 31)) a b) := ec_bin (i1 := Value.int) (i2 := Value.int) (i3 := Value.int) ha hb (fun _ => rfl) fun X hX L st M x y w hm ls H locs hl hP hS => lv_ishl hX.1 hX.2.1 hd (w hm ls H locs hl hP hS)
theorem ec_ishr {C : CX} {k pc p1 p2 : Nat} {a b : DE Int32} (ha : EC C Value.int k pc p1 a) (hb : EC C Value.int (1 + k) p1 p2 b) (hd : decode (c_cc C) p2 = .ok (.ishr, 1)) : EC C Value.int k pc (p2 + 1) (e_bin (fun (x y : Int32) => x >>> (y &&& 31)) a b) := ec_bin (i1 := Value.int) (i2 := Value.int) (i3 := Value.int) ha hb (fun _ => rfl) fun X hX L st M x y w hm ls H locs hl hP hS => lv_ishr hX.1 hX.2.1 hd (w hm ls H locs hl hP hS)
theorem ec_iushr {C : CX} {k pc p1 p2 : Nat} {a b : DE Int32} (ha : EC C Value.int k pc p1 a) (hb : EC C Value.int (1 + k) p1 p2 b) (hd : decode (c_cc C) p2 = .ok (.iushr, 1)) : EC C Value.int k pc (p2 + 1) (e_bin (fun x y => (x.toUInt32 >>> (y.toUInt32 &&& Int32.toUInt32 31)).toInt32) a b) := ec_bin ha hb (fun _ => rfl) fun X hX L st M x y w hm ls H locs hl hP hS => lv_iushr hX.1 hX.2.1 hd rfl (w hm ls H locs hl hP hS)
theorem ec_ladd {C : CX} {k pc p1 p2 : Nat} {a b : DE Int64} (ha : EC C Value.long k pc p1 a) (hb : EC C Value.long (2 + k) p1 p2 b) (hd : decode (c_cc C) p2 = .ok (.ladd, 1)) : EC C Value.long k pc (p2 + 1) (e_bin (fun x y => x + y) a b) := ec_bin ha hb (fun _ => rfl) fun X hX L st M x y w hm ls H locs hl hP hS => lv_ladd hX.1 hX.2.1 hd (w hm ls H locs hl hP hS)
theorem ec_lmul {C : CX} {k pc p1 p2 : Nat} {a b : DE Int64} (ha : EC C Value.long k pc p1 a) (hb : EC C Value.long (2 + k) p1 p2 b) (hd : decode (c_cc C) p2 = .ok (.lmul, 1)) : EC C Value.long k pc (p2 + 1) (e_bin (fun x y => x * y) a b) := ec_bin ha hb (fun _ => rfl) fun X hX L st M x y w hm ls H locs hl hP hS => lv_lmul hX.1 hX.2.1 hd (w hm ls H locs hl hP hS)
theorem ec_lcmp {C : CX} {k pc p1 p2 : Nat} {a b : DE Int64} (ha : EC C Value.long k pc p1 a) (hb : EC C Value.long (2 + k) p1 p2 b) (hd : decode (c_cc C) p2 = .ok (.lcmp, 1)) : EC C Value.int k pc (p2 + 1) (e_bin (fun x y => lg_cmp x y) a b) := ec_bin ha hb (fun _ => rfl) fun X hX L st M x y w hm ls H locs hl hP hS => W.lcmp hX.1 hX.2.1 hd (w hm ls H locs hl hP hS)
theorem ec_i2b {C : CX} {k pc p1 : Nat} {a : DE Int32} (ha : EC C Value.int k pc p1 a) (hd : decode (c_cc C) p1 = .ok (.i2b, 1)) : EC C Value.int k pc (p1 + 1) (e_un (fun x => x.toInt8.toInt32) a) := ec_un ha fun X hX L st M x w hm ls H locs hl hP hS => lv_i2b hX.1 hX.2.1 hd rfl (w hm ls H locs hl hP hS)
theorem ec_i2s {C : CX} {k pc p1 : Nat} {a : DE Int32} (ha : EC C Value.int k pc p1 a) (hd : decode (c_cc C) p1 = .ok (.i2s, 1)) : EC C Value.int k pc (p1 + 1) (e_un (fun x => x.toInt16.toInt32) a) := ec_un ha fun X hX L st M x w hm ls H locs hl hP hS => lv_i2s hX.1 hX.2.1 hd rfl (w hm ls H locs hl hP hS)
theorem ec_i2c {C : CX} {k pc p1 : Nat} {a : DE Int32} (ha : EC C Value.int k pc p1 a) (hd : decode (c_cc C) p1 = .ok (.i2c, 1)) : EC C Value.int k pc (p1 + 1) (e_un (fun x => (x.toUInt32 % 65536).toInt32) a) := ec_un ha fun X hX L st M x w hm ls H locs hl hP hS => lv_i2c hX.1 hX.2.1 hd rfl (w hm ls H locs hl hP hS)
theorem ec_i2l {C : CX} {k pc p1 : Nat} {a : DE Int32} (ha : EC C Value.int k pc p1 a) (hd : decode (c_cc C) p1 = .ok (.i2l, 1)) : EC C Value.long k pc (p1 + 1) (e_un (fun x => x.toInt64) a) := ec_un ha fun X hX L st M x w hm ls H locs hl hP hS => lv_i2l hX.1 hX.2.1 hd rfl (w hm ls H locs hl hP hS)
theorem ec_idiv {C : CX} {k pc p1 p2 : Nat} {a b : DE Int32} (ha : EC C Value.int k pc p1 a) (hb : EC C Value.int (1 + k) p1 p2 b) (hd : decode (c_cc C) p2 = .ok (.idiv, 1)) : EC C Value.int k pc (p2 + 1) (e_div a b) := by
  intro L M v M' he
  obtain ⟨⟨x, M1⟩, h1, h2⟩ := bind_some he
  obtain ⟨⟨y, M2⟩, h3, h4⟩ := bind_some h2
  by_cases hy : y = 0
  · rw [if_pos hy] at h4; cases h4
  · rw [if_neg hy] at h4
    cases h4
    obtain ⟨g1, w1⟩ := ha L M x _ h1
    obtain ⟨g2, w2⟩ := hb L M1 y _ h3
    exact ⟨g1.tr g2, fun X hX st hk hf w => w1 X hX st hk (g2.tr hf) (w2 X hX (.int x :: st) (by rw [csum_cons]; show 1 + csum st ≤ 1 + k; omega) hf (fun hm ls H locs hl hP hS => lv_idiv hX.1 hX.2.1 hd hy (w hm ls H locs hl hP hS)))⟩
theorem ec_irem {C : CX} {k pc p1 p2 : Nat} {a b : DE Int32} (ha : EC C Value.int k pc p1 a) (hb : EC C Value.int (1 + k) p1 p2 b) (hd : decode (c_cc C) p2 = .ok (.irem, 1)) : EC C Value.int k pc (p2 + 1) (e_rem a b) := by
  intro L M v M' he
  obtain ⟨⟨x, M1⟩, h1, h2⟩ := bind_some he
  obtain ⟨⟨y, M2⟩, h3, h4⟩ := bind_some h2
  by_cases hy : y = 0
  · rw [if_pos hy] at h4; cases h4
  · rw [if_neg hy] at h4
    cases h4
    obtain ⟨g1, w1⟩ := ha L M x _ h1
    obtain ⟨g2, w2⟩ := hb L M1 y _ h3
    exact ⟨g1.tr g2, fun X hX st hk hf w => w1 X hX st hk (g2.tr hf) (w2 X hX (.int x :: st) (by rw [csum_cons]; show 1 + csum st ≤ 1 + k; omega) hf (fun hm ls H locs hl hP hS => lv_irem hX.1 hX.2.1 hd hy (w hm ls H locs hl hP hS)))⟩
/-! CONDITIONS -/
def b_not (a : DE Bool) : DE Bool := fun L M => (a L M).bind fun p => some (!p.1, p.2)
def b_and (a b : DE Bool) : DE Bool := fun L M => (a L M).bind fun p => if p.1 then b L p.2 else some (false, p.2)
def b_or (a b : DE Bool) : DE Bool := fun L M => (a L M).bind fun p => if p.1 then some (true, p.2) else b L p.2
def b_of (a : DE Int32) : DE Bool := fun L M => (a L M).bind fun p => some (decide (p.1 ≠ 0), p.2)
def b_tt : DE Bool := fun _ M => some (true, M)
def e_b (b : DE Bool) : DE Int32 := fun L M => (b L M).bind fun p => some (if p.1 then 1 else 0, p.2)
theorem bc_not {C : CX} {k pc pT pF : Nat} {a : DE Bool} (h : BC C k pc pF pT a) : BC C k pc pT pF (b_not a) := by
  intro L M v M' he
  obtain ⟨⟨x, M1⟩, h1, h2⟩ := bind_some he
  cases h2
  obtain ⟨g, w⟩ := h L M x _ h1
  refine ⟨g, fun X hX st hk hf ww => w X hX st hk hf ?_⟩
  cases x <;> exact ww
theorem bc_and {C : CX} {k pc p1 pT pF : Nat} {a b : DE Bool} (ha : BC C k pc p1 pF a) (hb : BC C k p1 pT pF b) : BC C k pc pT pF (b_and a b) := by
  intro L M v M' he
  obtain ⟨⟨x, M1⟩, h1, h2⟩ := bind_some he
  obtain ⟨g, w⟩ := ha L M x _ h1
  cases x with
  | false =>
    cases h2
    exact ⟨g, fun X hX st hk hf ww => w X hX st hk hf ww⟩
  | true =>
    obtain ⟨g2, w2⟩ := hb L M1 v _ h2
    exact ⟨g.tr g2, fun X hX st hk hf ww => w X hX st hk (g2.tr hf) (w2 X hX st hk hf ww)⟩
theorem bc_or {C : CX} {k pc p1 pT pF : Nat} {a b : DE Bool} (ha : BC C k pc pT p1 a) (hb : BC C k p1 pT pF b) : BC C k pc pT pF (b_or a b) := by
  intro L M v M' he
  obtain ⟨⟨x, M1⟩, h1, h2⟩ := bind_some he
  obtain ⟨g, w⟩ := ha L M x _ h1
  cases x with
  | true =>
    cases h2
    exact ⟨g, fun X hX st hk hf ww => w X hX st hk hf ww⟩
  | false =>
    obtain ⟨g2, w2⟩ := hb L M1 v _ h2
    exact ⟨g.tr g2, fun X hX st hk hf ww => w X hX st hk (g2.tr hf) (w2 X hX st hk hf ww)⟩
theorem bc_tt {C : CX} {k pc pF : Nat} : BC C k pc pc pF b_tt := by
  intro L M v M' he
  cases he
  exact ⟨gm_le.rf _, fun X hX st hk hf ww => ww⟩
theorem bc_rel {C : CX} {k pc p1 p2 pT pF : Nat} {a b : DE Int32} {r : Int32 → Int32 → Bool} (ha : EC C Value.int k pc p1 a) (hb : EC C Value.int (1 + k) p1 p2 b) (hr : ∀ X, XOK C X → ∀ L st M x y, WA X (if r x y then pT else pF) L st M → WA X p2 L (.int y :: .int x :: st) M) : BC C k pc pT pF (e_bin r a b) := by
  intro L M v M' he
  obtain ⟨⟨x, M1⟩, h1, h2⟩ := bind_some he
  obtain ⟨⟨y, M2⟩, h3, h4⟩ := bind_some h2
  cases h4
  obtain ⟨g1, w1⟩ := ha L M x _ h1
  obtain ⟨g2, w2⟩ := hb L M1 y _ h3
  exact ⟨g1.tr g2, fun X hX st hk hf w => w1 X hX st hk (g2.tr hf) (w2 X hX (.int x :: st) (by rw [csum_cons]; show 1 + csum st ≤ 1 + k; omega) hf (hr X hX L st _ x y w))⟩
theorem bc_rel0 {C : CX} {k pc p1 pT pF : Nat} {a : DE Int32} {r : Int32 → Bool} (ha : EC C Value.int k pc p1 a) (hr : ∀ X, XOK C X → ∀ L st M x, WA X (if r x then pT else pF) L st M → WA X p1 L (.int x :: st) M) : BC C k pc pT pF (e_un r a) := by
  intro L M v M' he
  obtain ⟨⟨x, M1⟩, h1, h2⟩ := bind_some he
  cases h2
  obtain ⟨g1, w1⟩ := ha L M x _ h1
  exact ⟨g1, fun X hX st hk hf w => w1 X hX st hk hf (hr X hX L st _ x w)⟩
theorem bc_icmp_eq_T {C : CX} {k pc p1 p2 tgt : Nat} {off : Int} {a b : DE Int32} (ha : EC C Value.int k pc p1 a) (hb : EC C Value.int (1 + k) p1 p2 b) (hd : decode (c_cc C) p2 = .ok (.if_icmp .eq off, 3)) (ht : (p2 : Int) + off = (tgt : Int)) : BC C k pc tgt (p2 + 3) (e_bin (fun x y => decide (x = y)) a b) := bc_rel ha hb fun X hX L st M x y w hm ls H locs hl hP hS => lv_icmp_eq hX.1 hX.2.1 hd ht (fun h => by rw [show (decide (x = y)) = true from decide_eq_true h] at w; exact w hm ls H locs hl hP hS) (fun h => by rw [show (decide (x = y)) = false from decide_eq_false h] at w; exact w hm ls H locs hl hP hS)
theorem bc_if_eq_T {C : CX} {k pc p2 tgt : Nat} {off : Int} {a : DE Int32} (ha : EC C Value.int k pc p2 a) (hd : decode (c_cc C) p2 = .ok (.ifCond .eq off, 3)) (ht : (p2 : Int) + off = (tgt : Int)) : BC C k pc tgt (p2 + 3) (e_un (fun x => decide (x = 0)) a) := bc_rel0 ha fun X hX L st M x w hm ls H locs hl hP hS => lv_if_eq hX.1 hX.2.1 hd ht (fun h => by rw [show (decide (x = 0)) = true from decide_eq_true h] at w; exact w hm ls H locs hl hP hS) (fun h => by rw [show (decide (x = 0)) = false from decide_eq_false h] at w; exact w hm ls H locs hl hP hS)
theorem bc_icmp_eq_F {C : CX} {k pc p1 p2 tgt : Nat} {off : Int} {a b : DE Int32} (ha : EC C Value.int k pc p1 a) (hb : EC C Value.int (1 + k) p1 p2 b) (hd : decode (c_cc C) p2 = .ok (.if_icmp .eq off, 3)) (ht : (p2 : Int) + off = (tgt : Int)) : BC C k pc (p2 + 3) tgt (e_bin (fun x y => decide (x ≠ y)) a b) := bc_rel ha hb fun X hX L st M x y w hm ls H locs hl hP hS => lv_icmp_eq hX.1 hX.2.1 hd ht (fun h => by rw [show (decide (x ≠ y)) = false from decide_eq_false (fun n => n h)] at w; exact w hm ls H locs hl hP hS) (fun h => by rw [show (decide (x ≠ y)) = true from decide_eq_true h] at w; exact w hm ls H locs hl hP hS)
theorem bc_if_eq_F {C : CX} {k pc p2 tgt : Nat} {off : Int} {a : DE Int32} (ha : EC C Value.int k pc p2 a) (hd : decode (c_cc C) p2 = .ok (.ifCond .eq off, 3)) (ht : (p2 : Int) + off = (tgt : Int)) : BC C k pc (p2 + 3) tgt (e_un (fun x => decide (x ≠ 0)) a) := bc_rel0 ha fun X hX L st M x w hm ls H locs hl hP hS => lv_if_eq hX.1 hX.2.1 hd ht (fun h => by rw [show (decide (x ≠ 0)) = false from decide_eq_false (fun n => n h)] at w; exact w hm ls H locs hl hP hS) (fun h => by rw [show (decide (x ≠ 0)) = true from decide_eq_true h] at w; exact w hm ls H locs hl hP hS)
theorem bc_icmp_ne_T {C : CX} {k pc p1 p2 tgt : Nat} {off : Int} {a b : DE Int32} (ha : EC C Value.int k pc p1 a) (hb : EC C Value.int (1 + k) p1 p2 b) (hd : decode (c_cc C) p2 = .ok (.if_icmp .ne off, 3)) (ht : (p2 : Int) + off = (tgt : Int)) : BC C k pc tgt (p2 + 3) (e_bin (fun x y => decide (x ≠ y)) a b) := bc_rel ha hb fun X hX L st M x y w hm ls H locs hl hP hS => lv_icmp_ne hX.1 hX.2.1 hd ht (fun h => by rw [show (decide (x ≠ y)) = true from decide_eq_true h] at w; exact w hm ls H locs hl hP hS) (fun h => by rw [show (decide (x ≠ y)) = false from decide_eq_false (fun n => n h)] at w; exact w hm ls H locs hl hP hS)
theorem bc_if_ne_T {C : CX} {k pc p2 tgt : Nat} {off : Int} {a : DE Int32} (ha : EC C Value.int k pc p2 a) (hd : decode (c_cc C) p2 = .ok (.ifCond .ne off, 3)) (ht : (p2 : Int) + off = (tgt : Int)) : BC C k pc tgt (p2 + 3) (e_un (fun x => decide (x ≠ 0)) a) := bc_rel0 ha fun X hX L st M x w hm ls H locs hl hP hS => lv_if_ne hX.1 hX.2.1 hd ht (fun h => by rw [show (decide (x ≠ 0)) = true from decide_eq_true h] at w; exact w hm ls H locs hl hP hS) (fun h => by rw [show (decide (x ≠ 0)) = false from decide_eq_false (fun n => n h)] at w; exact w hm ls H locs hl hP hS)
theorem bc_icmp_ne_F {C : CX} {k pc p1 p2 tgt : Nat} {off : Int} {a b : DE Int32} (ha : EC C Value.int k pc p1 a) (hb : EC C Value.int (1 + k) p1 p2 b) (hd : decode (c_cc C) p2 = .ok (.if_icmp .ne off, 3)) (ht : (p2 : Int) + off = (tgt : Int)) : BC C k pc (p2 + 3) tgt (e_bin (fun x y => decide (x = y)) a b) := bc_rel ha hb fun X hX L st M x y w hm ls H locs hl hP hS => lv_icmp_ne hX.1 hX.2.1 hd ht (fun h => by rw [show (decide (x = y)) = false from decide_eq_false h] at w; exact w hm ls H locs hl hP hS) (fun h => by rw [show (decide (x = y)) = true from decide_eq_true h] at w; exact w hm ls H locs hl hP hS)
theorem bc_if_ne_F {C : CX} {k pc p2 tgt : Nat} {off : Int} {a : DE Int32} (ha : EC C Value.int k pc p2 a) (hd : decode (c_cc C) p2 = .ok (.ifCond .ne off, 3)) (ht : (p2 : Int) + off = (tgt : Int)) : BC C k pc (p2 + 3) tgt (e_un (fun x => decide (x = 0)) a) := bc_rel0 ha fun X hX L st M x w hm ls H locs hl hP hS => lv_if_ne hX.1 hX.2.1 hd ht (fun h => by rw [show (decide (x = 0)) = false from decide_eq_false h] at w; exact w hm ls H locs hl hP hS) (fun h => by rw [show (decide (x = 0)) = true from decide_eq_true h] at w; exact w hm ls H locs hl hP hS)
theorem bc_icmp_lt_T {C : CX} {k pc p1 p2 tgt : Nat} {off : Int} {a b : DE Int32} (ha : EC C Value.int k pc p1 a) (hb : EC C Value.int (1 + k) p1 p2 b) (hd : decode (c_cc C) p2 = .ok (.if_icmp .lt off, 3)) (ht : (p2 : Int) + off = (tgt : Int)) : BC C k pc tgt (p2 + 3) (e_bin (fun x y => decide (x < y)) a b) := bc_rel ha hb fun X hX L st M x y w hm ls H locs hl hP hS => lv_icmp_lt hX.1 hX.2.1 hd ht (fun h => by rw [show (decide (x < y)) = true from decide_eq_true h] at w; exact w hm ls H locs hl hP hS) (fun h => by rw [show (decide (x < y)) = false from decide_eq_false h] at w; exact w hm ls H locs hl hP hS)
theorem bc_if_lt_T {C : CX} {k pc p2 tgt : Nat} {off : Int} {a : DE Int32} (ha : EC C Value.int k pc p2 a) (hd : decode (c_cc C) p2 = .ok (.ifCond .lt off, 3)) (ht : (p2 : Int) + off = (tgt : Int)) : BC C k pc tgt (p2 + 3) (e_un (fun x => decide (x < 0)) a) := bc_rel0 ha fun X hX L st M x w hm ls H locs hl hP hS => lv_if_lt hX.1 hX.2.1 hd ht (fun h => by rw [show (decide (x < 0)) = true from decide_eq_true h] at w; exact w hm ls H locs hl hP hS) (fun h => by rw [show (decide (x < 0)) = false from decide_eq_false h] at w; exact w hm ls H locs hl hP hS)
theorem bc_icmp_lt_F {C : CX} {k pc p1 p2 tgt : Nat} {off : Int} {a b : DE Int32} (ha : EC C Value.int k pc p1 a) (hb : EC C Value.int (1 + k) p1 p2 b) (hd : decode (c_cc C) p2 = .ok (.if_icmp .lt off, 3)) (ht : (p2 : Int) + off = (tgt : Int)) : BC C k pc (p2 + 3) tgt (e_bin (fun x y => decide (y ≤ x)) a b) := bc_rel ha hb fun X hX L st M x y w hm ls H locs hl hP hS => lv_icmp_lt hX.1 hX.2.1 hd ht (fun h => by rw [show (decide (y ≤ x)) = false from decide_eq_false (Int32.not_le.mpr h)] at w; exact w hm ls H locs hl hP hS) (fun h => by rw [show (decide (y ≤ x)) = true from decide_eq_true (Int32.not_lt.mp h)] at w; exact w hm ls H locs hl hP hS)
theorem bc_if_lt_F {C : CX} {k pc p2 tgt : Nat} {off : Int} {a : DE Int32} (ha : EC C Value.int k pc p2 a) (hd : decode (c_cc C) p2 = .ok (.ifCond .lt off, 3)) (ht : (p2 : Int) + off = (tgt : Int)) : BC C k pc (p2 + 3) tgt (e_un (fun x => decide (0 ≤ x)) a) := bc_rel0 ha fun X hX L st M x w hm ls H locs hl hP hS => lv_if_lt hX.1 hX.2.1 hd ht (fun h => by rw [show (decide (0 ≤ x)) = false from decide_eq_false (Int32.not_le.mpr h)] at w; exact w hm ls H locs hl hP hS) (fun h => by rw [show (decide (0 ≤ x)) = true from decide_eq_true (Int32.not_lt.mp h)] at w; exact w hm ls H locs hl hP hS)
theorem bc_icmp_ge_T {C : CX} {k pc p1 p2 tgt : Nat} {off : Int} {a b : DE Int32} (ha : EC C Value.int k pc p1 a) (hb : EC C Value.int (1 + k) p1 p2 b) (hd : decode (c_cc C) p2 = .ok (.if_icmp .ge off, 3)) (ht : (p2 : Int) + off = (tgt : Int)) : BC C k pc tgt (p2 + 3) (e_bin (fun x y => decide (y ≤ x)) a b) := bc_rel ha hb fun X hX L st M x y w hm ls H locs hl hP hS => lv_icmp_ge hX.1 hX.2.1 hd ht (fun h => by rw [show (decide (y ≤ x)) = true from decide_eq_true h] at w; exact w hm ls H locs hl hP hS) (fun h => by rw [show (decide (y ≤ x)) = false from decide_eq_false h] at w; exact w hm ls H locs hl hP hS)
theorem bc_if_ge_T {C : CX} {k pc p2 tgt : Nat} {off : Int} {a : DE Int32} (ha : EC C Value.int k pc p2 a) (hd : decode (c_cc C) p2 = .ok (.ifCond .ge off, 3)) (ht : (p2 : Int) + off = (tgt : Int)) : BC C k pc tgt (p2 + 3) (e_un (fun x => decide (0 ≤ x)) a) := bc_rel0 ha fun X hX L st M x w hm ls H locs hl hP hS => lv_if_ge hX.1 hX.2.1 hd ht (fun h => by rw [show (decide (0 ≤ x)) = true from decide_eq_true h] at w; exact w hm ls H locs hl hP hS) (fun h => by rw [show (decide (0 ≤ x)) = false from decide_eq_false h] at w; exact w hm ls H locs hl hP hS)
theorem bc_icmp_ge_F {C : CX} {k pc p1 p2 tgt : Nat} {off : Int} {a b : DE Int32} (ha : EC C Value.int k pc p1 a) (hb : EC C Value.int (1 + k) p1 p2 b) (hd : decode (c_cc C) p2 = .ok (.if_icmp .ge off, 3)) (ht : (p2 : Int) + off = (tgt : Int)) : BC C k pc (p2 + 3) tgt (e_bin (fun x y => decide (x < y)) a b) := bc_rel ha hb fun X hX L st M x y w hm ls H locs hl hP hS => lv_icmp_ge hX.1 hX.2.1 hd ht (fun h => by rw [show (decide (x < y)) = false from decide_eq_false (Int32.not_lt.mpr h)] at w; exact w hm ls H locs hl hP hS) (fun h => by rw [show (decide (x < y)) = true from decide_eq_true (Int32.not_le.mp h)] at w; exact w hm ls H locs hl hP hS)
theorem bc_if_ge_F {C : CX} {k pc p2 tgt : Nat} {off : Int} {a : DE Int32} (ha : EC C Value.int k pc p2 a) (hd : decode (c_cc C) p2 = .ok (.ifCond .ge off, 3)) (ht : (p2 : Int) + off = (tgt : Int)) : BC C k pc (p2 + 3) tgt (e_un (fun x => decide (x < 0)) a) := bc_rel0 ha fun X hX L st M x w hm ls H locs hl hP hS => lv_if_ge hX.1 hX.2.1 hd ht (fun h => by rw [show (decide (x < 0)) = false from decide_eq_false (Int32.not_lt.mpr h)] at w; exact w hm ls H locs hl hP hS) (fun h => by rw [show (decide (x < 0)) = true from decide_eq_true (Int32.not_le.mp h)] at w; exact w hm ls H locs hl hP hS)
theorem bc_icmp_gt_T {C : CX} {k pc p1 p2 tgt : Nat} {off : Int} {a b : DE Int32} (ha : EC C Value.int k pc p1 a) (hb : EC C Value.int (1 + k) p1 p2 b) (hd : decode (c_cc C) p2 = .ok (.if_icmp .gt off, 3)) (ht : (p2 : Int) + off = (tgt : Int)) : BC C k pc tgt (p2 + 3) (e_bin (fun x y => decide (y < x)) a b) := bc_rel ha hb fun X hX L st M x y w hm ls H locs hl hP hS => lv_icmp_gt hX.1 hX.2.1 hd ht (fun h => by rw [show (decide (y < x)) = true from decide_eq_true h] at w; exact w hm ls H locs hl hP hS) (fun h => by rw [show (decide (y < x)) = false from decide_eq_false h] at w; exact w hm ls H locs hl hP hS)
theorem bc_if_gt_T {C : CX} {k pc p2 tgt : Nat} {off : Int} {a : DE Int32} (ha : EC C Value.int k pc p2 a) (hd : decode (c_cc C) p2 = .ok (.ifCond .gt off, 3)) (ht : (p2 : Int) + off = (tgt : Int)) : BC C k pc tgt (p2 + 3) (e_un (fun x => decide (0 < x)) a) := bc_rel0 ha fun X hX L st M x w hm ls H locs hl hP hS => lv_if_gt hX.1 hX.2.1 hd ht (fun h => by rw [show (decide (0 < x)) = true from decide_eq_true h] at w; exact w hm ls H locs hl hP hS) (fun h => by rw [show (decide (0 < x)) = false from decide_eq_false h] at w; exact w hm ls H locs hl hP hS)
theorem bc_icmp_gt_F {C : CX} {k pc p1 p2 tgt : Nat} {off : Int} {a b : DE Int32} (ha : EC C Value.int k pc p1 a) (hb : EC C Value.int (1 + k) p1 p2 b) (hd : decode (c_cc C) p2 = .ok (.if_icmp .gt off, 3)) (ht : (p2 : Int) + off = (tgt : Int)) : BC C k pc (p2 + 3) tgt (e_bin (fun x y => decide (x ≤ y)) a b) := bc_rel ha hb fun X hX L st M x y w hm ls H locs hl hP hS => lv_icmp_gt hX.1 hX.2.1 hd ht (fun h => by rw [show (decide (x ≤ y)) = false from decide_eq_false (Int32.not_le.mpr h)] at w; exact w hm ls H locs hl hP hS) (fun h => by rw [show (decide (x ≤ y)) = true from decide_eq_true (Int32.not_lt.mp h)] at w; exact w hm ls H locs hl hP hS)
theorem bc_if_gt_F {C : CX} {k pc p2 tgt : Nat} {off : Int} {a : DE Int32} (ha : EC C Value.int k pc p2 a) (hd : decode (c_cc C) p2 = .ok (.ifCond .gt off, 3)) (ht : (p2 : Int) + off = (tgt : Int)) : BC C k pc (p2 + 3) tgt (e_un (fun x => decide (x ≤ 0)) a) := bc_rel0 ha fun X hX L st M x w hm ls H locs hl hP hS => lv_if_gt hX.1 hX.2.1 hd ht (fun h => by rw [show (decide (x ≤ 0)) = false from decide_eq_false (Int32.not_le.mpr h)] at w; exact w hm ls H locs hl hP hS) (fun h => by rw [show (decide (x ≤ 0)) = true from decide_eq_true (Int32.not_lt.mp h)] at w; exact w hm ls H locs hl hP hS)
theorem bc_icmp_le_T {C : CX} {k pc p1 p2 tgt : Nat} {off : Int} {a b : DE Int32} (ha : EC C Value.int k pc p1 a) (hb : EC C Value.int (1 + k) p1 p2 b) (hd : decode (c_cc C) p2 = .ok (.if_icmp .le off, 3)) (ht : (p2 : Int) + off = (tgt : Int)) : BC C k pc tgt (p2 + 3) (e_bin (fun x y => decide (x ≤ y)) a b) := bc_rel ha hb fun X hX L st M x y w hm ls H locs hl hP hS => lv_icmp_le hX.1 hX.2.1 hd ht (fun h => by rw [show (decide (x ≤ y)) = true from decide_eq_true h] at w; exact w hm ls H locs hl hP hS) (fun h => by rw [show (decide (x ≤ y)) = false from decide_eq_false h] at w; exact w hm ls H locs hl hP hS)
theorem bc_if_le_T {C : CX} {k pc p2 tgt : Nat} {off : Int} {a : DE Int32} (ha : EC C Value.int k pc p2 a) (hd : decode (c_cc C) p2 = .ok (.ifCond .le off, 3)) (ht : (p2 : Int) + off = (tgt : Int)) : BC C k pc tgt (p2 + 3) (e_un (fun x => decide (x ≤ 0)) a) := bc_rel0 ha fun X hX L st M x w hm ls H locs hl hP hS => lv_if_le hX.1 hX.2.1 hd ht (fun h => by rw [show (decide (x ≤ 0)) = true from decide_eq_true h] at w; exact w hm ls H locs hl hP hS) (fun h => by rw [show (decide (x ≤ 0)) = false from decide_eq_false h] at w; exact w hm ls H locs hl hP hS)
theorem bc_icmp_le_F {C : CX} {k pc p1 p2 tgt : Nat} {off : Int} {a b : DE Int32} (ha : EC C Value.int k pc p1 a) (hb : EC C Value.int (1 + k) p1 p2 b) (hd : decode (c_cc C) p2 = .ok (.if_icmp .le off, 3)) (ht : (p2 : Int) + off = (tgt : Int)) : BC C k pc (p2 + 3) tgt (e_bin (fun x y => decide (y < x)) a b) := bc_rel ha hb fun X hX L st M x y w hm ls H locs hl hP hS => lv_icmp_le hX.1 hX.2.1 hd ht (fun h => by rw [show (decide (y < x)) = false from decide_eq_false (Int32.not_lt.mpr h)] at w; exact w hm ls H locs hl hP hS) (fun h => by rw [show (decide (y < x)) = true from decide_eq_true (Int32.not_le.mp h)] at w; exact w hm ls H locs hl hP hS)
theorem bc_if_le_F {C : CX} {k pc p2 tgt : Nat} {off : Int} {a : DE Int32} (ha : EC C Value.int k pc p2 a) (hd : decode (c_cc C) p2 = .ok (.ifCond .le off, 3)) (ht : (p2 : Int) + off = (tgt : Int)) : BC C k pc (p2 + 3) tgt (e_un (fun x => decide (0 < x)) a) := bc_rel0 ha fun X hX L st M x w hm ls H locs hl hP hS => lv_if_le hX.1 hX.2.1 hd ht (fun h => by rw [show (decide (0 < x)) = false from decide_eq_false (Int32.not_lt.mpr h)] at w; exact w hm ls H locs hl hP hS) (fun h => by rw [show (decide (0 < x)) = true from decide_eq_true (Int32.not_le.mp h)] at w; exact w hm ls H locs hl hP hS)
theorem bc_of_T {C : CX} {k pc p2 tgt : Nat} {off : Int} {a : DE Int32} (ha : EC C Value.int k pc p2 a) (hd : decode (c_cc C) p2 = .ok (.ifCond .ne off, 3)) (ht : (p2 : Int) + off = (tgt : Int)) : BC C k pc tgt (p2 + 3) (b_of a) := bc_if_ne_T ha hd ht
theorem bc_of_F {C : CX} {k pc p2 tgt : Nat} {off : Int} {a : DE Int32} (ha : EC C Value.int k pc p2 a) (hd : decode (c_cc C) p2 = .ok (.ifCond .eq off, 3)) (ht : (p2 : Int) + off = (tgt : Int)) : BC C k pc (p2 + 3) tgt (b_of a) := bc_if_eq_F ha hd ht
theorem ec_b {C : CX} {k pc pT pF pE : Nat} {b : DE Bool} (hb : BC C k pc pT pF b) (hT : ∀ X, XOK C X → ∀ L st M, WA X pE L (.int 1 :: st) M → WA X pT L st M) (hF : ∀ X, XOK C X → ∀ L st M, WA X pE L (.int 0 :: st) M → WA X pF L st M) : EC C Value.int k pc pE (e_b b) := by
  intro L M v M' he
  obtain ⟨⟨x, M1⟩, h1, h2⟩ := bind_some he
  cases h2
  obtain ⟨g, w⟩ := hb L M x _ h1
  refine ⟨g, fun X hX st hk hf ww => w X hX st hk hf ?_⟩
  cases x
  · exact hF X hX L st _ ww
  · exact hT X hX L st _ ww
theorem ec_bm {C : CX} {k pc pT : Nat} {off : Int} {b : DE Bool} (hb : BC C k pc pT (pT + 4) b) (d1 : decode (c_cc C) pT = .ok (.iconst 1, 1)) (d2 : decode (c_cc C) (pT + 1) = .ok (.goto off, 3)) (ht : ((pT + 1 : Nat) : Int) + off = ((pT + 5 : Nat) : Int)) (d3 : decode (c_cc C) (pT + 4) = .ok (.iconst 0, 1)) : EC C Value.int k pc (pT + 5) (e_b b) :=
  ec_b hb (fun X hX L st M w hm ls H locs hl hP hS => lv_iconst (v := 1) hX.1 hX.2.1 d1 (by decide) (lv_goto (tgt := pT + 5) hX.1 hX.2.1 d2 ht (w hm ls H locs hl hP hS))) (fun X hX L st M w hm ls H locs hl hP hS => lv_iconst (v := 0) hX.1 hX.2.1 d3 (by decide) (w hm ls H locs hl hP hS))
theorem ec_if {C : CX} {α : Type} {inj : α → Value} {k pc pT pF p1 pE : Nat} {off : Int} {b : DE Bool} {x y : DE α} (hb : BC C k pc pT pF b) (hx : EC C inj k pT p1 x) (hd : decode (c_cc C) p1 = .ok (.goto off, 3)) (ht : (p1 : Int) + off = (pE : Int)) (hy : EC C inj k pF pE y) : EC C inj k pc pE (e_if b x y) := by
  intro L M v M' he
  obtain ⟨⟨z, M1⟩, h1, h2⟩ := bind_some he
  obtain ⟨g, w⟩ := hb L M z _ h1
  cases z with
  | true =>
    obtain ⟨g2, w2⟩ := hx L M1 v _ h2
    exact ⟨g.tr g2, fun X hX st hk hf ww => w X hX st hk (g2.tr hf) (w2 X hX st hk hf (fun hm ls H locs hl hP hS => lv_goto hX.1 hX.2.1 hd ht (ww hm ls H locs hl hP hS)))⟩
  | false =>
    obtain ⟨g2, w2⟩ := hy L M1 v _ h2
    exact ⟨g.tr g2, fun X hX st hk hf ww => w X hX st hk (g2.tr hf) (w2 X hX st hk hf ww)⟩
/-! STATEMENTS -/
def s_skip : SD := fun L M => some (.inl (L, M))
def s_seq (a b : SD) : SD := fun L M => (a L M).bind fun r => match r with
  | .inl q => b q.1 q.2
  | .inr q => some (.inr q)
def s_if (c : DE Bool) (a b : SD) : SD := fun L M => (c L M).bind fun p => if p.1 then a L p.2 else b L p.2
def s_st {α : Type} (inj : α → Value) (i : Nat) (e : DE α) : SD := fun L M => (e L M).bind fun p => if l_ok L i then some (.inl (l_set L i (inj p.1), p.2)) else none
def s_stj (i : Nat) (e : DE Int64) : SD := fun L M => (e L M).bind fun p => if l_ok L i then some (.inl (l_set (l_set L i (.long p.1)) (i + 1) .null, p.2)) else none
def s_inc (i : Nat) (n : Int32) : SD := fun L M => match L[i]? with
  | some (.int x) => if l_ok L i then some (.inl (l_set L i (.int (x + n)), M)) else none
  | _ => none
def s_ret {α : Type} (inj : α → Value) (e : DE α) : SD := fun L M => (e L M).bind fun p => some (.inr (inj p.1, p.2))
def s_retz (e : DE Int32) : SD := fun L M => (e L M).bind fun p => if p.1 = 0 ∨ p.1 = 1 then some (.inr (.int p.1, p.2)) else none
def s_retv : SD := fun _ M => some (.inr (.null, M))
def s_sc (n : Nat) (s : SD) : SD := fun L M => (s L M).bind fun r => match r with
  | .inl q => some (.inl (q.1.take n, q.2))
  | .inr q => some (.inr q)
def s_while (b : DE Bool) (s : SD) : Nat → SD
  | 0 => fun _ _ => none
  | n + 1 => fun L M => (b L M).bind fun p => if p.1 then (s L p.2).bind fun r => match r with
    | .inl q => s_while b s n q.1 q.2
    | .inr q => some (.inr q)
    else some (.inl (L, p.2))
def s_do (s : SD) (b : DE Bool) : Nat → SD
  | 0 => fun _ _ => none
  | n + 1 => fun L M => (s L M).bind fun r => match r with
    | .inl q => (b q.1 q.2).bind fun p => if p.1 then s_do s b n q.1 p.2 else some (.inl (q.1, p.2))
    | .inr q => some (.inr q)
theorem sc_skip {C : CX} {pc : Nat} : SC C pc pc s_skip := by
  intro L M r he
  cases he
  exact ⟨gm_le.rf _, fun X hX hf w => w⟩
theorem sc_goto {C : CX} {pc p1 tgt : Nat} {off : Int} {s : SD} (hs : SC C pc p1 s) (hd : decode (c_cc C) p1 = .ok (.goto off, 3)) (ht : (p1 : Int) + off = (tgt : Int)) : SC C pc tgt s := by
  intro L M r he
  have h := hs L M r he
  cases r with
  | inl q => exact ⟨h.1, fun X hX hf w => h.2 X hX hf (fun hm ls H locs hl hP hS => lv_goto hX.1 hX.2.1 hd ht (w hm ls H locs hl hP hS))⟩
  | inr q => exact h
theorem sc_seq {C : CX} {pc p1 p2 : Nat} {a b : SD} (ha : SC C pc p1 a) (hb : SC C p1 p2 b) : SC C pc p2 (s_seq a b) := by
  intro L M r he
  obtain ⟨r1, h1, h2⟩ := bind_some he
  have g1 := ha L M r1 h1
  cases r1 with
  | inr q => cases h2; exact g1
  | inl q =>
    have g2 := hb q.1 q.2 r h2
    cases r with
    | inl q2 => exact ⟨g1.1.tr g2.1, fun X hX hf w => g1.2 X hX (g2.1.tr hf) (g2.2 X hX hf w)⟩
    | inr q2 => exact ⟨g1.1.tr g2.1, fun X hX e => g1.2 X hX (by rw [← e]; exact g2.1) (g2.2 X hX e)⟩
theorem sc_if {C : CX} {pc pT pF p2 : Nat} {c : DE Bool} {a b : SD} (hc : BC C 0 pc pT pF c) (ha : SC C pT p2 a) (hb : SC C pF p2 b) : SC C pc p2 (s_if c a b) := by
  intro L M r he
  obtain ⟨⟨z, M1⟩, h1, h2⟩ := bind_some he
  obtain ⟨g, w⟩ := hc L M z _ h1
  cases z with
  | true =>
    have g2 := ha L M1 r h2
    cases r with
    | inl q => exact ⟨g.tr g2.1, fun X hX hf ww => w X hX [] (Nat.le_refl _) (g2.1.tr hf) (g2.2 X hX hf ww)⟩
    | inr q => exact ⟨g.tr g2.1, fun X hX e => w X hX [] (Nat.le_refl _) (by rw [← e]; exact g2.1) (g2.2 X hX e)⟩
  | false =>
    have g2 := hb L M1 r h2
    cases r with
    | inl q => exact ⟨g.tr g2.1, fun X hX hf ww => w X hX [] (Nat.le_refl _) (g2.1.tr hf) (g2.2 X hX hf ww)⟩
    | inr q => exact ⟨g.tr g2.1, fun X hX e => w X hX [] (Nat.le_refl _) (by rw [← e]; exact g2.1) (g2.2 X hX e)⟩
theorem sc_sc {C : CX} {pc p1 n : Nat} {s : SD} (hs : SC C pc p1 s) : SC C pc p1 (s_sc n s) := by
  intro L M r he
  obtain ⟨r1, h1, h2⟩ := bind_some he
  have g1 := hs L M r1 h1
  cases r1 with
  | inr q => cases h2; exact g1
  | inl q =>
    cases h2
    refine ⟨g1.1, fun X hX hf w => g1.2 X hX hf (fun hm ls H locs hl hP hS => w hm ls H locs (lv_mono hl fun z hz => ?_) hP hS)⟩
    obtain ⟨v, a1, a2, a3⟩ := lvL_mem.mp hz
    rw [List.getElem?_take] at a1
    split at a1
    · exact lvL_mem.mpr ⟨v, a1, a2, a3⟩
    · cases a1
theorem sc_while {C : CX} {pc pB pE : Nat} {b : DE Bool} {s : SD} (hb : BC C 0 pc pB pE b) (hs : SC C pB pc s) : ∀ n, SC C pc pE (s_while b s n) := by
  intro n
  induction n with
  | zero => intro L M r he; cases he
  | succ n ih =>
    intro L M r he
    obtain ⟨⟨z, M1⟩, h1, h2⟩ := bind_some he
    obtain ⟨g, w⟩ := hb L M z _ h1
    cases z with
    | false =>
      cases h2
      exact ⟨g, fun X hX hf ww => w X hX [] (Nat.le_refl _) hf ww⟩
    | true =>
      obtain ⟨r1, h3, h4⟩ := bind_some h2
      have g1 := hs L M1 r1 h3
      cases r1 with
      | inr q =>
        cases h4
        exact ⟨g.tr g1.1, fun X hX e => w X hX [] (Nat.le_refl _) (by rw [← e]; exact g1.1) (g1.2 X hX e)⟩
      | inl q =>
        have g2 := ih q.1 q.2 r h4
        cases r with
        | inl q2 => exact ⟨g.tr (g1.1.tr g2.1), fun X hX hf ww => w X hX [] (Nat.le_refl _) (g1.1.tr (g2.1.tr hf)) (g1.2 X hX (g2.1.tr hf) (g2.2 X hX hf ww))⟩
        | inr q2 => exact ⟨g.tr (g1.1.tr g2.1), fun X hX e => w X hX [] (Nat.le_refl _) (by rw [← e]; exact g1.1.tr g2.1) (g1.2 X hX (by rw [← e]; exact g2.1) (g2.2 X hX e))⟩
theorem sc_do {C : CX} {pc p1 pE : Nat} {b : DE Bool} {s : SD} (hs : SC C pc p1 s) (hb : BC C 0 p1 pc pE b) : ∀ n, SC C pc pE (s_do s b n) := by
  intro n
  induction n with
  | zero => intro L M r he; cases he
  | succ n ih =>
    intro L M r he
    obtain ⟨r1, h1, h2⟩ := bind_some he
    have g1 := hs L M r1 h1
    cases r1 with
    | inr q => cases h2; exact g1
    | inl q =>
      obtain ⟨⟨z, M1⟩, h3, h4⟩ := bind_some h2
      obtain ⟨g, w⟩ := hb q.1 q.2 z _ h3
      cases z with
      | false =>
        cases h4
        exact ⟨g1.1.tr g, fun X hX hf ww => g1.2 X hX (g.tr hf) (w X hX [] (Nat.le_refl _) hf ww)⟩
      | true =>
        have g2 := ih q.1 M1 r h4
        cases r with
        | inl q2 => exact ⟨g1.1.tr (g.tr g2.1), fun X hX hf ww => g1.2 X hX (g.tr (g2.1.tr hf)) (w X hX [] (Nat.le_refl _) (g2.1.tr hf) (g2.2 X hX hf ww))⟩
        | inr q2 => exact ⟨g1.1.tr (g.tr g2.1), fun X hX e => g1.2 X hX (by rw [← e]; exact g.tr g2.1) (w X hX [] (Nat.le_refl _) (by rw [← e]; exact g2.1) (g2.2 X hX e))⟩
theorem sc_stW {C : CX} {α : Type} {inj : α → Value} {pc p1 p2 i : Nat} {e : DE α} (he0 : EC C inj 0 pc p1 e) (hr : ∀ X, XOK C X → ∀ L M x, l_ok L i = true → WA X p2 (l_set L i (inj x)) [] M → WA X p1 L [inj x] M) : SC C pc p2 (s_st inj i e) := by
  intro L M r he
  obtain ⟨⟨x, M1⟩, h1, h2⟩ := bind_some he
  obtain ⟨g, w⟩ := he0 L M x _ h1
  by_cases hok : l_ok L i = true
  · rw [if_pos hok] at h2
    cases h2
    exact ⟨g, fun X hX hf ww => w X hX [] (Nat.le_refl _) hf (hr X hX L _ x hok ww)⟩
  · rw [if_neg hok] at h2; cases h2
theorem sc_istore_n {C : CX} {pc p1 i : Nat} {n : Fin 4} {e : DE Int32} (he : EC C Value.int 0 pc p1 e) (hd : decode (c_cc C) p1 = .ok (.istore_n n, 1)) (hi : (n : Nat) = i) (hn : i < c_nL C) : SC C pc (p1 + 1) (s_st Value.int i e) := sc_stW he fun X hX L M x hok w hm ls H locs hl hP hS => lv_istore_n hX.1 hX.2.1 hd hi hl (by rw [hX.2.2.1]; exact hn) rfl (fun ls' hl' => w hm ls' H locs (lv_stored1 (v := .int x) hl' hok) hP hS)
theorem sc_istore {C : CX} {pc p1 i : Nat} {e : DE Int32} (he : EC C Value.int 0 pc p1 e) (hd : decode (c_cc C) p1 = .ok (.istore i, 2)) (hn : i < c_nL C) : SC C pc (p1 + 2) (s_st Value.int i e) := sc_stW he fun X hX L M x hok w hm ls H locs hl hP hS => lv_istore hX.1 hX.2.1 hd hl (by rw [hX.2.2.1]; exact hn) rfl (fun ls' hl' => w hm ls' H locs (lv_stored1 (v := .int x) hl' hok) hP hS)
theorem sc_astore_n {C : CX} {pc p1 i : Nat} {n : Fin 4} {e : DE Nat} (he : EC C Value.ref 0 pc p1 e) (hd : decode (c_cc C) p1 = .ok (.astore_n n, 1)) (hi : (n : Nat) = i) (hn : i < c_nL C) : SC C pc (p1 + 1) (s_st Value.ref i e) := sc_stW he fun X hX L M x hok w hm ls H locs hl hP hS => lv_astore_n hX.1 hX.2.1 hd hi hl (by rw [hX.2.2.1]; exact hn) rfl (fun ls' hl' => w hm ls' H locs (lv_stored1 (v := .ref x) hl' hok) hP hS)
theorem sc_astore {C : CX} {pc p1 i : Nat} {e : DE Nat} (he : EC C Value.ref 0 pc p1 e) (hd : decode (c_cc C) p1 = .ok (.astore i, 2)) (hn : i < c_nL C) : SC C pc (p1 + 2) (s_st Value.ref i e) := sc_stW he fun X hX L M x hok w hm ls H locs hl hP hS => lv_astore hX.1 hX.2.1 hd hl (by rw [hX.2.2.1]; exact hn) rfl (fun ls' hl' => w hm ls' H locs (lv_stored1 (v := .ref x) hl' hok) hP hS)
theorem sc_lstore_n {C : CX} {pc p1 i : Nat} {n : Fin 4} {e : DE Int64} (he0 : EC C Value.long 0 pc p1 e) (hd : decode (c_cc C) p1 = .ok (.lstore_n n, 1)) (hi : (n : Nat) = i) (hn : i + 1 < c_nL C) : SC C pc (p1 + 1) (s_stj i e) := by
  intro L M r he
  obtain ⟨⟨x, M1⟩, h1, h2⟩ := bind_some he
  obtain ⟨g, w⟩ := he0 L M x _ h1
  by_cases hok : l_ok L i = true
  · rw [if_pos hok] at h2
    cases h2
    exact ⟨g, fun X hX hf ww => w X hX [] (Nat.le_refl _) hf (fun hm ls H locs hl hP hS => lv_lstore_n hX.1 hX.2.1 hd hi hl (by rw [hX.2.2.1]; exact hn) rfl (fun ls' hl' => ww hm ls' H locs (lv_stored2 (v := .long x) hl' hok) hP hS))⟩
  · rw [if_neg hok] at h2; cases h2
theorem sc_iinc {C : CX} {pc i : Nat} {n : Int} {v : Int32} (hd : decode (c_cc C) pc = .ok (.iinc i n, 3)) (hv : Int32.ofInt n = v) (hn : i < c_nL C) : SC C pc (pc + 3) (s_inc i v) := by
  intro L M r he
  unfold s_inc at he
  split at he
  · rename_i x hx
    by_cases hok : l_ok L i = true
    · rw [if_pos hok] at he
      cases he
      refine ⟨gm_le.rf _, fun X hX hf w hm ls H locs hl hP hS => ?_⟩
      obtain ⟨k, hk⟩ := List.getElem?_of_mem (lvL_mem (ad := k_ad (x_K X)) (q := (i, Value.int x)).mpr ⟨.int x, hx, rfl, rfl⟩)
      exact lv_iinc (v := x + v) hX.1 hX.2.1 hd hl hk (by rw [hv]) (by rw [hX.2.2.1]; exact hn) rfl (fun ls' hl' => w hm ls' H locs (lv_stored1 (v := .int (x + v)) hl' hok) hP hS)
    · rw [if_neg hok] at he; cases he
  · cases he
theorem sc_retW {C : CX} {α : Type} {inj : α → Value} {pc p1 p2 : Nat} {e : DE α} (he0 : EC C inj 0 pc p1 e) (hd : decode (c_cc C) p1 = .ok (retOp (c_rt C), 1)) (hs : ∀ x, retSt (inj x) = [inj x]) (hf : ∀ x, retFit (c_rt C) (inj x)) : SC C pc p2 (s_ret inj e) := by
  intro L M r he
  obtain ⟨⟨x, M1⟩, h1, h2⟩ := bind_some he
  cases h2
  obtain ⟨g, w⟩ := he0 L M x _ h1
  refine ⟨g, fun X hX e => ?_⟩
  have hr := hX.2.2.2.2.2.2.2.2.2.2.2.2.1 p1 L hd (by rw [← e]; exact hf x)
  rw [← e] at hr
  refine w X hX [] (Nat.le_refl _) (by rw [← e]; exact gm_le.rf _) ?_
  rw [← hs x]
  exact hr
theorem sc_iret {C : CX} {pc p1 p2 : Nat} {e : DE Int32} (he0 : EC C Value.int 0 pc p1 e) (hd : decode (c_cc C) p1 = .ok (.ireturn, 1)) (hr : c_rt C = some .int) : SC C pc p2 (s_ret Value.int e) := sc_retW he0 (by rw [hr]; exact hd) (fun _ => rfl) (fun x => by rw [hr]; exact ⟨x, rfl, rfl⟩)
theorem sc_lret {C : CX} {pc p1 p2 : Nat} {e : DE Int64} (he0 : EC C Value.long 0 pc p1 e) (hd : decode (c_cc C) p1 = .ok (.lreturn, 1)) (hr : c_rt C = some .long) : SC C pc p2 (s_ret Value.long e) := sc_retW he0 (by rw [hr]; exact hd) (fun _ => rfl) (fun x => by rw [hr]; exact ⟨x, rfl⟩)
theorem sc_aret {C : CX} {pc p1 p2 : Nat} {t : String} {e : DE Nat} (he0 : EC C Value.ref 0 pc p1 e) (hd : decode (c_cc C) p1 = .ok (.areturn, 1)) (hr : c_rt C = some (.object t)) : SC C pc p2 (s_ret Value.ref e) := sc_retW he0 (by rw [hr]; exact hd) (fun _ => rfl) (fun x => by rw [hr]; exact ⟨x, rfl⟩)
theorem sc_zret {C : CX} {pc p1 p2 : Nat} {e : DE Int32} (he0 : EC C Value.int 0 pc p1 e) (hd : decode (c_cc C) p1 = .ok (.ireturn, 1)) (hr : c_rt C = some .boolean) : SC C pc p2 (s_retz e) := by
  intro L M r he
  obtain ⟨⟨x, M1⟩, h1, h2⟩ := bind_some he
  obtain ⟨g, w⟩ := he0 L M x _ h1
  by_cases hx : x = 0 ∨ x = 1
  · rw [if_pos hx] at h2
    cases h2
    refine ⟨g, fun X hX e => ?_⟩
    have hr := hX.2.2.2.2.2.2.2.2.2.2.2.2.1 p1 L (by rw [hr]; exact hd) (by rw [← e, hr]; refine ⟨x, rfl, ?_⟩; rcases hx with rfl | rfl <;> rfl)
    rw [← e] at hr
    exact w X hX [] (Nat.le_refl _) (by rw [← e]; exact gm_le.rf _) hr
  · rw [if_neg hx] at h2; cases h2
theorem sc_vret {C : CX} {pc p2 : Nat} (hd : decode (c_cc C) pc = .ok (.return_, 1)) (hr : c_rt C = none) : SC C pc p2 s_retv := by
  intro L M r he
  cases he
  refine ⟨gm_le.rf _, fun X hX e => ?_⟩
  have hr := hX.2.2.2.2.2.2.2.2.2.2.2.2.1 pc L (by rw [hr]; exact hd) (by rw [← e, hr]; rfl)
  rw [← e] at hr
  exact hr
/-- a switch over a table -/
def s_tab (e : DE Int32) (lo hi : Int) (arms : List (Nat × SD)) (dfl : SD) : SD := fun L M => (e L M).bind fun p => if p.1.toInt < lo ∨ hi < p.1.toInt then dfl L p.2 else match arms[(p.1.toInt - lo).toNat]? with
  | some a => a.2 L p.2
  | none => none
def arms_ok (C : CX) (p2 : Nat) : List (Nat × SD) → Prop
  | [] => True
  | a :: as => SC C a.1 p2 a.2 ∧ arms_ok C p2 as
theorem arms_at {C : CX} {p2 : Nat} : ∀ {as : List (Nat × SD)} {i : Nat} {a : Nat × SD}, arms_ok C p2 as → as[i]? = some a → SC C a.1 p2 a.2
  | [], _, _, _, h => by simp at h
  | x :: xs, 0, a, h, hi => by cases hi; exact h.1
  | x :: xs, i + 1, a, h, hi => arms_at h.2 hi
theorem sc_tab {C : CX} {pc p1 pD p2 len : Nat} {dflt lo hi : Int} {offs : Array Int} {e : DE Int32} {arms : List (Nat × SD)} {dfl : SD} (he0 : EC C Value.int 0 pc p1 e) (hd : decode (c_cc C) p1 = .ok (.tableswitch dflt lo hi offs, len)) (hD : (p1 : Int) + dflt = (pD : Int)) (hdf : SC C pD p2 dfl) (ho : offs.toList.map (fun o => (p1 : Int) + o) = arms.map (fun a => (a.1 : Int))) (ha : arms_ok C p2 arms) : SC C pc p2 (s_tab e lo hi arms dfl) := by
  intro L M r he
  obtain ⟨⟨x, M1⟩, h1, h2⟩ := bind_some he
  obtain ⟨g, w⟩ := he0 L M x _ h1
  by_cases hx : x.toInt < lo ∨ hi < x.toInt
  · rw [if_pos hx] at h2
    have g2 := hdf L M1 r h2
    have hgo : ∀ X, XOK C X → WA X pD L [] M1 → WA X p1 L [.int x] M1 := fun X hX w hm ls H locs hl hP hS => lv_tableOut hX.1 hX.2.1 hd hx hD (w hm ls H locs hl hP hS)
    cases r with
    | inl q => exact ⟨g.tr g2.1, fun X hX hf ww => w X hX [] (Nat.le_refl _) (g2.1.tr hf) (hgo X hX (g2.2 X hX hf ww))⟩
    | inr q => exact ⟨g.tr g2.1, fun X hX e => w X hX [] (Nat.le_refl _) (by rw [← e]; exact g2.1) (hgo X hX (g2.2 X hX e))⟩
  · rw [if_neg hx] at h2
    cases hq : arms[(x.toInt - lo).toNat]? with
    | none => rw [hq] at h2; cases h2
    | some a =>
      rw [hq] at h2
      have g2 := arms_at ha hq L M1 r h2
      have h3 : (offs.toList.map (fun o => (p1 : Int) + o))[(x.toInt - lo).toNat]? = some ((a.1 : Nat) : Int) := by rw [ho, List.getElem?_map, hq]; rfl
      rw [List.getElem?_map] at h3
      obtain ⟨off, h4, h5⟩ : ∃ off, offs.toList[(x.toInt - lo).toNat]? = some off ∧ (p1 : Int) + off = ((a.1 : Nat) : Int) := by
        cases hz : offs.toList[(x.toInt - lo).toNat]? with
        | none => rw [hz] at h3; cases h3
        | some off => rw [hz] at h3; exact ⟨off, rfl, Option.some.inj h3⟩
      have hgo : ∀ X, XOK C X → WA X a.1 L [] M1 → WA X p1 L [.int x] M1 := fun X hX w hm ls H locs hl hP hS => lv_tableIn hX.1 hX.2.1 hd (fun h => hx (Or.inl h)) (fun h => hx (Or.inr h)) (by rw [← Array.getElem?_toList]; exact h4) h5 (w hm ls H locs hl hP hS)
      cases r with
      | inl q => exact ⟨g.tr g2.1, fun X hX hf ww => w X hX [] (Nat.le_refl _) (g2.1.tr hf) (hgo X hX (g2.2 X hX hf ww))⟩
      | inr q => exact ⟨g.tr g2.1, fun X hX e => w X hX [] (Nat.le_refl _) (by rw [← e]; exact g2.1) (hgo X hX (g2.2 X hX e))⟩
