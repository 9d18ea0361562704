/-! THE ABSTRACT MEMORY: cells by number; a cell is its kind and its slots. Kinds 0 to 7: objects of vwCl; 10: int[]; 11, 12: arrays of RX0, RX2. -/
abbrev GM : Type := List (Nat × List Value)
def gm_sz (M : GM) : Nat := (M.map (fun c => c.2.length)).sum
def gm_le (M N : GM) : Prop := M.length ≤ N.length ∧ gm_sz M ≤ gm_sz N
theorem gm_le.rf (M : GM) : gm_le M M := ⟨Nat.le_refl _, Nat.le_refl _⟩
theorem gm_le.tr {M N P : GM} (h : gm_le M N) (k : gm_le N P) : gm_le M P := ⟨Nat.le_trans h.1 k.1, Nat.le_trans h.2 k.2⟩
def SPB : Nat := 1048576
abbrev KX : Type := va_G × (Nat → Nat) × (Nat → ClassId) × Nat
abbrev k_D (K : KX) : va_G := K.1
abbrev k_ad (K : KX) : Nat → Nat := K.2.1
abbrev k_cA (K : KX) : Nat → ClassId := K.2.2.1
abbrev k_b (K : KX) : Nat := K.2.2.2
abbrev k_A (K : KX) : Nat → Prop := fun q => K.2.2.2 ≤ q
def tv (ad : Nat → Nat) (v : Value) : Value := match v with
  | .ref i => .ref (ad i)
  | .int x => .int x
  | .long x => .long x
  | w => w
theorem tv_cat (ad : Nat → Nat) (v : Value) : (tv ad v).category = v.category := by cases v <;> rfl
def iOf (v : Value) : Int32 := match v with
  | .int x => x
  | _ => 0
def rOf (ad : Nat → Nat) (v : Value) : Option Nat := match v with
  | .ref i => some (ad i)
  | _ => none
def gm_cv (K : KX) (c : Nat × List Value) : va_E :=
  if c.1 < 10 then .inr (c.1, c.2.map (tv (k_ad K))) else if c.1 = 10 then .inl (k_cA K 0, c.2.length, .inl (fun j => iOf (c.2.getD j .null))) else .inl (k_cA K (c.1 - 10), c.2.length, .inr (.inr (.inr (.inr (fun j => rOf (k_ad K) (c.2.getD j .null))))))
def gm_ws (K : KX) (M : GM) : va_W := M.mapIdx (fun i c => (k_ad K i, gm_cv K c))
def k_tys (K : KX) : List (ClassId × FieldType) := [(k_cA K 0, .int), (k_cA K 1, .object RX0), (k_cA K 2, .object RX2)]
def gm_H (K : KX) (M : GM) (H : Heap) : Prop := va_P (k_D K) vwCl (gm_ws K M) H ∧ H.size = k_b K + M.length
def k_ok (K : KX) : Prop := ∀ i, i < SPB → k_ad K i = k_b K + i
theorem gm_ws_at (K : KX) (M : GM) (i : Nat) : (gm_ws K M)[i]? = (M[i]?).map (fun c => (k_ad K i, gm_cv K c)) := by
  unfold gm_ws; rw [List.getElem?_mapIdx]
theorem gm_ws_of {K : KX} {M : GM} {i : Nat} {c : Nat × List Value} (h : M[i]? = some c) : (gm_ws K M)[i]? = some (k_ad K i, gm_cv K c) := by
  rw [gm_ws_at, h]; rfl
theorem gm_ws_set (K : KX) (M : GM) (i : Nat) (c : Nat × List Value) : (gm_ws K M).set i (k_ad K i, gm_cv K c) = gm_ws K (M.set i c) := by
  apply List.ext_getElem?
  intro j
  rw [gm_ws_at, List.getElem?_set, List.getElem?_set, gm_ws_at]
  by_cases hj : i = j
  · subst hj
    have hl : (gm_ws K M).length = M.length := by unfold gm_ws; rw [List.length_mapIdx]
    rw [if_pos rfl, if_pos rfl, hl]
    by_cases h : i < M.length
    · rw [if_pos h, if_pos h]; rfl
    · rw [if_neg h, if_neg h]; rfl
  · rw [if_neg hj, if_neg hj]
theorem gm_ws_push (K : KX) (M : GM) (c : Nat × List Value) : gm_ws K (M ++ [c]) = gm_ws K M ++ [(k_ad K M.length, gm_cv K c)] := by
  unfold gm_ws; rw [List.mapIdx_append]; simp
theorem gm_D {K : KX} {M : GM} (hK : k_ok K) (hM : M.length < SPB) : va_D (k_A K) (gm_ws K M) := by
  have key : ∀ (i : Nat) (p : Nat × va_E), (gm_ws K M)[i]? = some p → i < M.length ∧ p.1 = k_b K + i := by
    intro i p h
    rw [gm_ws_at] at h
    cases hc : M[i]? with
    | none => rw [hc] at h; cases h
    | some c =>
      rw [hc] at h
      have hl := (List.getElem?_eq_some_iff.mp hc).1
      have e := Option.some.inj h
      exact ⟨hl, by rw [← e]; exact hK i (Nat.lt_trans hl hM)⟩
  refine ⟨fun i j p q hi hj e => ?_, fun k q h => ?_⟩
  · have h1 := (key i p hi).2
    have h2 := (key j q hj).2
    omega
  · show k_b K ≤ q.1
    rw [(key k q h).2]; omega
/-! static tables and String constants -/
def k_st (K : KX) (U : State) (H : Heap) : Prop := ∀ (i : Nat) (q : String × List Int32), st_tab[i]? = some q → va_Z RX6 q.1 "[I" (.ref (k_ad K (SPB + i))) (k_A K) U H ∧ va_T .int (k_ad K (SPB + i)) q.2.length (fun j => .int (q.2.getD j 0)) (k_A K) U H
def k_str (K : KX) (U : State) (H : Heap) : Prop := vk_S 15 (str_tab.map (fun q => q.2.2.length)) (str_tab.map (fun q => q.2.2)) (fun i => k_ad K (SPB + 100 + i)) (fun i => k_ad K (SPB + 200 + i)) (k_A K) U H ∧ (∀ (i : Nat) (q : Nat × String × List Int32), str_tab[i]? = some q → vk_R RX1 q.1 q.2.1 (k_ad K (SPB + 100 + i)) U) ∧ va_Z "java/lang/String" "COMPACT_STRINGS" "Z" (.int 1) (k_A K) U H ∧ (va_Z "jdk/internal/util/Preconditions" "SIOOBE_FORMATTER" "Ljava/util/function/BiFunction;" .null (k_A K) U H ∨ va_Z "jdk/internal/util/Preconditions" "SIOOBE_FORMATTER" "Ljava/util/function/BiFunction;" (.ref (k_ad K (SPB + 300))) (k_A K) U H)
def k_nest (U : State) : Prop := (∀ q ∈ nm_tab, va_Nw (.methodLinkNest q.1 q.2.1 q.2.2 RX6) U) ∧ (∀ q ∈ nf_tab, va_Nw (.fieldLinkNest q.1 q.2.1 RX6 q.2.2 "[I" RX6) U) ∧ va_AO RX0 U ∧ va_AO RX2 U
theorem k_nest.warm {s U : State} (hW : s.WarmedH U.vm) (h : k_nest s) : k_nest U := ⟨fun q hq => va_Nw.warmM hW (h.1 q hq), fun q hq => va_Nw.warmF hW (h.2.1 q hq), va_AO.moved hW.alike h.2.2.1, va_AO.moved hW.alike h.2.2.2⟩
theorem k_nest.same {u U : State} (hv : U.vm = u.vm) (h : k_nest u) : k_nest U :=
  have ha : u.vm.Alike U.vm := by rw [hv]; exact Vm.Alike.refl _
  ⟨fun q hq => va_Nw.same rfl hv.symm (h.1 q hq), fun q hq => va_Nw.same rfl hv.symm (h.2.1 q hq), va_AO.moved ha h.2.2.1, va_AO.moved ha h.2.2.2⟩
def k_inv (K : KX) (U : State) (H : Heap) : Prop := k_st K U H ∧ k_str K U H ∧ k_nest U
theorem k_inv.warm {K : KX} {s U : State} {H : Heap} (hW : s.WarmedH U.vm) (h : k_inv K s H) : k_inv K U H :=
  ⟨fun i q hq => ⟨va_Z.moved hW.alike (h.1 i q hq).1, va_T.moved hW.alike (h.1 i q hq).2⟩, ⟨vk_S.moved hW.alike h.2.1.1, fun i q hq => vk_R.warm hW (h.2.1.2.1 i q hq), va_Z.moved hW.alike h.2.1.2.2.1, h.2.1.2.2.2.imp (va_Z.moved hW.alike) (va_Z.moved hW.alike)⟩, h.2.2.warm hW⟩
theorem k_inv.same {K : KX} {u U : State} {H : Heap} (hv : U.vm = u.vm) (h : k_inv K u H) : k_inv K U H :=
  have ha : u.vm.Alike U.vm := by rw [hv]; exact Vm.Alike.refl _
  ⟨fun i q hq => ⟨va_Z.moved ha (h.1 i q hq).1, va_T.moved ha (h.1 i q hq).2⟩, ⟨vk_S.moved ha h.2.1.1, fun i q hq => vk_R.same hv (h.2.1.2.1 i q hq), va_Z.moved ha h.2.1.2.2.1, h.2.1.2.2.2.imp (va_Z.moved ha) (va_Z.moved ha)⟩, h.2.2.same hv⟩
theorem k_inv.kept {K : KX} {U : State} {H H1 : Heap} (h : k_inv K U H) (hq : ∀ a : Nat, a < H.size → ¬ k_A K a → H1[a]? = H[a]?) : k_inv K U H1 :=
  ⟨fun i q hi => ⟨(h.1 i q hi).1.kept hq, (h.1 i q hi).2.kept hq⟩, ⟨h.2.1.1.kept hq, h.2.1.2.1, h.2.1.2.2.1.kept hq, h.2.1.2.2.2.imp (fun z => z.kept hq) (fun z => z.kept hq)⟩, h.2.2⟩
