/-! THE MACHINE, ABSTRACTLY: what is fixed of a method (CX), of a run of it (MX), and the judgement WA: from pc, with locals L, stack st, memory M, the machine comes to its end. -/
abbrev MX : Type := KX × Program × Launch × Env × Room × State × MethodId × Array Value × List Frame × Method × Code × (State → Prop) × GM × (Value × GM)
abbrev CX : Type := ByteArray × String × Nat × Nat × Nat × String × Option FieldType × (MX → Prop)
abbrev c_cc (C : CX) : ByteArray := C.1
abbrev c_own (C : CX) : String := C.2.1
abbrev c_nL (C : CX) : Nat := C.2.2.1
abbrev c_fr (C : CX) : Nat := C.2.2.2.1
abbrev c_lo (C : CX) : Nat := C.2.2.2.2.1
abbrev c_nm (C : CX) : String := C.2.2.2.2.2.1
abbrev c_rt (C : CX) : Option FieldType := C.2.2.2.2.2.2.1
abbrev c_px (C : CX) : MX → Prop := C.2.2.2.2.2.2.2
abbrev x_K (X : MX) : KX := X.1
abbrev x_p (X : MX) : Program := X.2.1
abbrev x_l (X : MX) : Launch := X.2.2.1
abbrev x_e (X : MX) : Env := X.2.2.2.1
abbrev x_R (X : MX) : Room := X.2.2.2.2.1
abbrev x_s (X : MX) : State := X.2.2.2.2.2.1
abbrev x_m (X : MX) : MethodId := X.2.2.2.2.2.2.1
abbrev x_args (X : MX) : Array Value := X.2.2.2.2.2.2.2.1
abbrev x_below (X : MX) : List Frame := X.2.2.2.2.2.2.2.2.1
abbrev x_meth (X : MX) : Method := X.2.2.2.2.2.2.2.2.2.1
abbrev x_c (X : MX) : Code := X.2.2.2.2.2.2.2.2.2.2.1
abbrev x_Q (X : MX) : State → Prop := X.2.2.2.2.2.2.2.2.2.2.2.1
abbrev x_M0 (X : MX) : GM := X.2.2.2.2.2.2.2.2.2.2.2.2.1
abbrev x_tg (X : MX) : Value × GM := X.2.2.2.2.2.2.2.2.2.2.2.2.2
def vnn (v : Value) : Bool := match v with
  | .null => false
  | _ => true
theorem vnn_tv (ad : Nat → Nat) (v : Value) : vnn (tv ad v) = vnn v := by cases v <;> rfl
def lvL (ad : Nat → Nat) (L : List Value) : List (Nat × Value) := (L.mapIdx (fun i v => (i, tv ad v))).filter (fun q => vnn q.2)
theorem lvL_mem {ad : Nat → Nat} {L : List Value} {q : Nat × Value} : q ∈ lvL ad L ↔ ∃ v, L[q.1]? = some v ∧ q.2 = tv ad v ∧ vnn v = true := by
  unfold lvL
  rw [List.mem_filter]
  constructor
  · rintro ⟨h, hn⟩
    obtain ⟨i, hi⟩ := List.getElem?_of_mem h
    rw [List.getElem?_mapIdx] at hi
    cases hv : L[i]? with
    | none => rw [hv] at hi; cases hi
    | some v =>
      rw [hv] at hi
      have e := Option.some.inj hi
      subst e
      exact ⟨v, hv, rfl, by rw [vnn_tv] at hn; exact hn⟩
  · rintro ⟨v, hv, e, hn⟩
    refine ⟨List.mem_of_getElem? (i := q.1) ?_, by rw [e, vnn_tv]; exact hn⟩
    rw [List.getElem?_mapIdx, hv]
    obtain ⟨a, b⟩ := q
    simp only at e
    subst e
    rfl
theorem lvL_at {ad : Nat → Nat} {L : List Value} {ls : Array Slot} {n i : Nat} {v : Value} (h : lv_has ls n (lvL ad L)) (hi : L[i]? = some v) (hv : vnn v = true) : ls[i]? = some (.val (tv ad v)) :=
  h.2.2 (i, tv ad v) (lvL_mem.mpr ⟨v, hi, rfl, hv⟩)
theorem lv_mono {ls : Array Slot} {n : Nat} {l l' : List (Nat × Value)} (h : lv_has ls n l) (hs : ∀ q ∈ l', q ∈ l) : lv_has ls n l' := ⟨h.1, h.2.1, fun q hq => h.2.2 q (hs q hq)⟩
def l_set (L : List Value) (i : Nat) (v : Value) : List Value := if i < L.length then L.set i v else L ++ List.replicate (i - L.length) .null ++ [v]
def l_ok (L : List Value) (i : Nat) : Bool := match i with
  | 0 => true
  | j + 1 => match L[j]? with
    | some w => w.category == 1
    | none => true
theorem l_set_at {L : List Value} {i j : Nat} {v w : Value} (h : (l_set L i v)[j]? = some w) (hw : vnn w = true) : (j = i ∧ w = v) ∨ (j ≠ i ∧ L[j]? = some w) := by
  unfold l_set at h
  by_cases hi : i < L.length
  · rw [if_pos hi, List.getElem?_set] at h
    by_cases hj : i = j
    · subst hj
      rw [if_pos rfl, if_pos hi] at h
      exact Or.inl ⟨rfl, (Option.some.inj h).symm⟩
    · rw [if_neg hj] at h
      exact Or.inr ⟨fun e => hj e.symm, h⟩
  · rw [if_neg hi] at h
    by_cases hj : j < L.length
    · rw [List.append_assoc, List.getElem?_append_left hj] at h
      exact Or.inr ⟨by omega, h⟩
    · rw [List.append_assoc, List.getElem?_append_right (by omega)] at h
      by_cases hk : j - L.length < i - L.length
      · rw [List.getElem?_append_left (by simp; exact hk), List.getElem?_replicate, if_pos hk] at h
        rw [← Option.some.inj h] at hw
        cases hw
      · rw [List.getElem?_append_right (by simp; omega)] at h
        have hz : j - L.length - (List.replicate (i - L.length) Value.null).length < 1 := (List.getElem?_eq_some_iff.mp h).1
        rw [List.length_replicate] at hz
        have e : j = i := by omega
        subst e
        simp only [List.length_replicate, Nat.sub_self] at h
        exact Or.inl ⟨rfl, (Option.some.inj h).symm⟩
theorem lv_stored1 {ad : Nat → Nat} {L : List Value} {ls : Array Slot} {n i : Nat} {v : Value} (h : lv_has ls n ((i, tv ad v) :: (lvL ad L).filter (fun q => !(q.1 == i) && !(q.1 + 1 == i && q.2.category == 2)))) (hok : l_ok L i = true) : lv_has ls n (lvL ad (l_set L i v)) := by
  refine lv_mono h fun q hq => ?_
  obtain ⟨w, hw, e, hn⟩ := lvL_mem.mp hq
  obtain ⟨a, b⟩ := q
  simp only at hw e
  subst e
  rcases l_set_at hw hn with ⟨rfl, rfl⟩ | ⟨hne, hL⟩
  · exact List.mem_cons_self
  · refine List.mem_cons_of_mem _ (List.mem_filter.mpr ⟨lvL_mem.mpr ⟨w, hL, rfl, hn⟩, ?_⟩)
    have h1 : (a == i) = false := by simp [hne]
    simp only [h1, Bool.not_false, Bool.true_and, Bool.not_eq_true', Bool.and_eq_false_iff]
    by_cases hs : a + 1 = i
    · right
      subst hs
      have h2 : (match L[a]? with | some w => w.category == 1 | none => true) = true := hok
      rw [hL] at h2
      simp only at h2
      rw [tv_cat]
      have h3 : w.category = 1 := by simpa using h2
      rw [h3]; rfl
    · left; simp [hs]
theorem lv_stored2 {ad : Nat → Nat} {L : List Value} {ls : Array Slot} {n i : Nat} {v : Value} (h : lv_has ls n ((i, tv ad v) :: (lvL ad L).filter (fun q => !(q.1 == i) && (!(q.1 == i + 1) && !(q.1 + 1 == i && q.2.category == 2))))) (hok : l_ok L i = true) : lv_has ls n (lvL ad (l_set (l_set L i v) (i + 1) .null)) := by
  refine lv_mono h fun q hq => ?_
  obtain ⟨w, hw, e, hn⟩ := lvL_mem.mp hq
  obtain ⟨a, b⟩ := q
  simp only at hw e
  subst e
  rcases l_set_at hw hn with ⟨rfl, rfl⟩ | ⟨hne1, hw1⟩
  · cases hn
  rcases l_set_at hw1 hn with ⟨rfl, rfl⟩ | ⟨hne, hL⟩
  · exact List.mem_cons_self
  · refine List.mem_cons_of_mem _ (List.mem_filter.mpr ⟨lvL_mem.mpr ⟨w, hL, rfl, hn⟩, ?_⟩)
    have h1 : (a == i) = false := by simp [hne]
    have h1' : (a == i + 1) = false := by simp [hne1]
    simp only [h1, h1', Bool.not_false, Bool.true_and, Bool.not_eq_true', Bool.and_eq_false_iff]
    by_cases hs : a + 1 = i
    · right
      subst hs
      have h2 : (match L[a]? with | some w => w.category == 1 | none => true) = true := hok
      rw [hL] at h2
      simp only at h2
      rw [tv_cat]
      have h3 : w.category = 1 := by simpa using h2
      rw [h3]; rfl
    · left; simp [hs]
def WA (X : MX) (pc : Nat) (L st : List Value) (M : GM) : Prop := gm_le (x_M0 X) M → ∀ (ls : Array Slot) (H : Heap) (locs : List Loc), lv_has ls (x_c X).maxLocals (lvL (k_ad (x_K X)) L) → gm_H (x_K X) M H → va_S (k_A (x_K X)) (x_s X).heap H locs →
  W (x_p X) (x_l X) (x_e X) (x_R X) (x_s X) (x_m X) (x_args X) (x_below X) (x_meth X) (x_c X) H locs (M.length - (x_M0 X).length) (gm_sz M - gm_sz (x_M0 X)) (x_Q X) (F0 (x_m X) pc ls (st.map (tv (k_ad (x_K X)))))
def retOp (t : Option FieldType) : Instr := match t with
  | none => .return_
  | some .long => .lreturn
  | some (.object _) => .areturn
  | some (.array _) => .areturn
  | some _ => .ireturn
def retSt (v : Value) : List Value := match v with
  | .null => []
  | w => [w]
def retFit (t : Option FieldType) (v : Value) : Prop := match t with
  | none => v = .null
  | some .long => ∃ x, v = .long x
  | some (.object _) => ∃ x, v = .ref x
  | some (.array _) => ∃ x, v = .ref x
  | some t => ∃ x, v = .int x ∧ narrow t (.int x) = .int x
def XOK (C : CX) (X : MX) : Prop :=
  (x_p X).tables.exec = Jvm.exec ∧ (x_c X).code = c_cc C ∧ (x_c X).maxLocals = c_nL C ∧ (x_s X).vm.findClass (c_own C) = some (x_m X).cls ∧ (∀ w ∈ lw_g, w.before (x_args X) (x_s X) = true) ∧
  va_K (k_D (x_K X)) vwCl (k_tys (x_K X)) (x_s X) ∧ k_ok (x_K X) ∧ k_inv (x_K X) (x_s X) (x_s X).heap ∧
  ((x_R X).frames = c_fr C ∧ (x_R X).locals = c_lo C ∧ (x_tg X).2.length - (x_M0 X).length ≤ (x_R X).cells ∧ gm_sz (x_tg X).2 - gm_sz (x_M0 X) ≤ (x_R X).slots) ∧
  (x_tg X).2.length < SPB ∧ (x_s X).heap.size = k_b (x_K X) + (x_M0 X).length ∧ (c_nm C = "<init>" → (x_meth X).name = "<init>") ∧
  (∀ pc L, decode (c_cc C) pc = .ok (retOp (c_rt C), 1) → retFit (c_rt C) (x_tg X).1 → WA X pc L (retSt (x_tg X).1) (x_tg X).2) ∧ c_px C X
theorem XOK.D {C : CX} {X : MX} (h : XOK C X) {M : GM} (hf : gm_le M (x_tg X).2) : va_D (k_A (x_K X)) (gm_ws (x_K X) M) := gm_D h.2.2.2.2.2.2.1 (Nat.lt_of_le_of_lt hf.1 h.2.2.2.2.2.2.2.2.2.1)
theorem XOK.K {C : CX} {X : MX} (h : XOK C X) : va_K (k_D (x_K X)) vwCl (k_tys (x_K X)) (x_s X) := h.2.2.2.2.2.1
theorem XOK.T {C : CX} {X : MX} (h : XOK C X) {w : Cond} (hw : w ∈ lw_g) : w.before (x_args X) (x_s X) = true := h.2.2.2.2.1 w hw
theorem XOK.I {C : CX} {X : MX} (h : XOK C X) : k_inv (x_K X) (x_s X) (x_s X).heap := h.2.2.2.2.2.2.2.1
/-! denotations, and what it is that code does them -/
abbrev DE (α : Type) : Type := List Value → GM → Option (α × GM)
abbrev SR : Type := (List Value × GM) ⊕ (Value × GM)
abbrev SD : Type := List Value → GM → Option SR
def csum (st : List Value) : Nat := (st.map fun v => v.category).sum
theorem csum_tv (ad : Nat → Nat) (st : List Value) : ((st.map (tv ad)).map fun v => v.category).sum = csum st := by
  unfold csum
  rw [List.map_map]
  congr 1
  apply List.map_congr_left
  intro v _
  exact tv_cat ad v
def EC (C : CX) {α : Type} (inj : α → Value) (k pc pc' : Nat) (e : DE α) : Prop := ∀ (L : List Value) (M : GM) (v : α) (M' : GM), e L M = some (v, M') → gm_le M M' ∧ ∀ X, XOK C X → ∀ st, csum st ≤ k → gm_le M' (x_tg X).2 → WA X pc' L (inj v :: st) M' → WA X pc L st M
def BC (C : CX) (k pc pT pF : Nat) (e : DE Bool) : Prop := ∀ (L : List Value) (M : GM) (v : Bool) (M' : GM), e L M = some (v, M') → gm_le M M' ∧ ∀ X, XOK C X → ∀ st, csum st ≤ k → gm_le M' (x_tg X).2 → WA X (if v then pT else pF) L st M' → WA X pc L st M
def SC (C : CX) (pc pc' : Nat) (s : SD) : Prop := ∀ (L : List Value) (M : GM) (r : SR), s L M = some r → match r with
  | .inl q => gm_le M q.2 ∧ ∀ X, XOK C X → gm_le q.2 (x_tg X).2 → WA X pc' q.1 [] q.2 → WA X pc L [] M
  | .inr q => gm_le M q.2 ∧ ∀ X, XOK C X → q = x_tg X → WA X pc L [] M
def AC (C : CX) (k n pc pc' : Nat) (e : DE (List Value)) : Prop := ∀ (L : List Value) (M : GM) (vs : List Value) (M' : GM), e L M = some (vs, M') → csum vs = n ∧ gm_le M M' ∧ ∀ X, XOK C X → ∀ st, csum st ≤ k → gm_le M' (x_tg X).2 → WA X pc' L (vs.reverse ++ st) M' → WA X pc L st M
