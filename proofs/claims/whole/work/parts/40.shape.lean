/-! THE MEMORY BEHIND BOTH CONSTRUCTORS: its shape, and its numbers as a function of cell and slot -/
abbrev FN : Type := Nat → Nat → Int32
abbrev SHC : Type := Nat × List (Option Nat)
def ia (n : Nat) : SHC := (10, List.replicate n none)
def sh_ch (b : Nat) : List SHC := [(0, [some (b + 1), some (b + 2), some (b + 3), none, none, none]), ia 7, ia 36, ia 36]
def sh_town (b : Nat) : List SHC := [(5, [none, none, none, some (b + 1), some (b + 2), some (b + 3), some (b + 4), some (b + 5)]), ia 36, ia 24, ia 6, ia 10, (11, (List.range 8).map (fun c => some (b + 6 + 4 * c)))] ++ (List.range 8).flatMap (fun c => sh_ch (b + 6 + 4 * c))
def shp : List SHC := [(6, [some 1, some 39, none, some 77, some 80, some 81, some 82, some 86, some 90, some 91, some 92, some 93, some 94])] ++ sh_town 1 ++ sh_town 39 ++ [(1, [some 78, none, none]), (4, [some 79, none, none, none, none, none]), ia 120, (12, [some 95, some 97, some 99, some 101]), ia 7] ++ sh_ch 82 ++ [(3, [none, some 87, some 88, some 89]), ia 6, ia 6, ia 6, ia 6, ia 8, ia 8, ia 40, ia 36] ++ [(2, [none, none, some 96]), ia 40, (2, [none, none, some 98]), ia 40, (2, [none, none, some 100]), ia 40, (2, [none, none, some 102]), ia 40] ++ [(7, [some 104, some 105, some 106, some 107, none, some 108, some 109, none, none, none, some 110, some 111, none, none, none, none, none, some 112, some 113, some 114, some 115]), ia 735, ia 735, ia 735, ia 7, ia 36, ia 6, ia 6, ia 120, ia 4, ia 4, ia 160, ia 40]
def sl_of (f : Nat → Int32) (l : List (Option Nat)) : List Value := l.mapIdx (fun k o => match o with
  | none => Value.int (f k)
  | some r => Value.ref r)
theorem mem_ex (f : FN) : ∃ M : GM, M = shp.mapIdx (fun i c => (c.1, sl_of (f i) c.2)) := ⟨_, rfl⟩
/-- by choice: so that nothing unfolds it -/
noncomputable def memOf (f : FN) : GM := Classical.choose (mem_ex f)
theorem mem_eq (f : FN) : memOf f = shp.mapIdx (fun i c => (c.1, sl_of (f i) c.2)) := Classical.choose_spec (mem_ex f)
theorem mem_at (f : FN) (i : Nat) : (memOf f)[i]? = (shp[i]?).map (fun c => (c.1, sl_of (f i) c.2)) := by
  rw [mem_eq, List.getElem?_mapIdx]
theorem mem_of (f : FN) {i : Nat} {c : SHC} (h : shp[i]? = some c) : (memOf f)[i]? = some (c.1, sl_of (f i) c.2) := by
  rw [mem_at, h]; rfl
theorem sl_at (f : Nat → Int32) (l : List (Option Nat)) (k : Nat) : (sl_of f l)[k]? = (l[k]?).map (fun o => match o with
  | none => Value.int (f k)
  | some r => Value.ref r) := by
  unfold sl_of; rw [List.getElem?_mapIdx]
theorem sl_len (f : Nat → Int32) (l : List (Option Nat)) : (sl_of f l).length = l.length := by unfold sl_of; simp
theorem sl_set (f : Nat → Int32) (l : List (Option Nat)) (k : Nat) (x : Int32) (h : l[k]? = some none) : (sl_of f l).set k (.int x) = sl_of (upd f k x) l := by
  apply List.ext_getElem?
  intro j
  rw [sl_at, List.getElem?_set, sl_at, sl_len]
  have hk := (List.getElem?_eq_some_iff.mp h).1
  by_cases hj : k = j
  · subst hj
    rw [if_pos rfl, if_pos hk, h]
    simp [upd]
  · rw [if_neg hj]
    cases hl : l[j]? with
    | none => rfl
    | some o =>
      cases o with
      | none => simp [upd, Ne.symm hj]
      | some r => rfl
def row (f : FN) (i : Nat) (g : Nat → Int32) : FN := fun j => if j = i then g else f j
theorem row_self (f : FN) (i : Nat) (g : Nat → Int32) : row f i g i = g := by unfold row; simp
theorem row_ne (f : FN) {i j : Nat} (g : Nat → Int32) (h : j ≠ i) : row f i g j = f j := by unfold row; simp [h]
theorem row_row (f : FN) (i : Nat) (g h : Nat → Int32) : row (row f i g) i h = row f i h := by
  funext j; unfold row; by_cases hj : j = i <;> simp [hj]
theorem row_same (f : FN) (i : Nat) : row f i (f i) = f := by
  funext j; unfold row; by_cases hj : j = i
  · subst hj; simp
  · simp [hj]
theorem row_comm (f : FN) {i j : Nat} (g h : Nat → Int32) (hij : i ≠ j) : row (row f i g) j h = row (row f j h) i g := by
  funext k; unfold row
  by_cases h1 : k = j
  · subst h1; simp [Ne.symm hij]
  · simp [h1]
theorem mem_set (f : FN) {i : Nat} {c : SHC} (h : shp[i]? = some c) (g : Nat → Int32) : (memOf f).set i (c.1, sl_of g c.2) = memOf (row f i g) := by
  apply List.ext_getElem?
  intro j
  rw [List.getElem?_set, mem_at, mem_at]
  have hi := (List.getElem?_eq_some_iff.mp h).1
  have hl : (memOf f).length = shp.length := by rw [mem_eq]; simp
  by_cases hj : i = j
  · subst hj
    rw [if_pos rfl, hl, if_pos hi, h]
    simp [row]
  · rw [if_neg hj]
    cases hs : shp[j]? with
    | none => rfl
    | some d => simp [row, Ne.symm hj]
theorem shp_len : shp.length = 116 := by decide
theorem ia_at {n k : Nat} (h : k < n) : (ia n).2[k]? = some none := by unfold ia; simp [h]
/-! access -/
theorem rd_ia (f : FN) {i n : Nat} {j : Int32} (h : shp[i]? = some (ia n)) (h0 : 0 ≤ j) (hn : j.toNatClampNeg < n) : gm_rd (memOf f) i j = some (f i j.toNatClampNeg) := by
  have hi : i < SPB := by
    have := (List.getElem?_eq_some_iff.mp h).1
    rw [shp_len] at this
    unfold SPB; omega
  unfold gm_rd
  rw [if_pos h0, if_pos hi, mem_of f h]
  simp only [Option.bind_some]
  rw [show (ia n).1 = 10 from rfl, if_pos rfl, sl_at, ia_at hn]
  rfl
theorem wr_ia (f : FN) {i n : Nat} {j x : Int32} (h : shp[i]? = some (ia n)) (h0 : 0 ≤ j) (hn : j.toNatClampNeg < n) : gm_wr (memOf f) i j x = some (memOf (row f i (upd (f i) j.toNatClampNeg x))) := by
  unfold gm_wr
  rw [if_pos h0, mem_of f h]
  simp only [Option.bind_some]
  rw [show (ia n).1 = 10 from rfl, if_pos ⟨rfl, by rw [sl_len]; unfold ia; simp [hn]⟩, sl_set _ _ _ _ (ia_at hn)]
  exact congrArg some (mem_set f h _)
theorem fld_i (f : FN) {i ci k : Nat} {l : List (Option Nat)} (h : shp[i]? = some (ci, l)) (hk : l[k]? = some none) : gm_fld (memOf f) i ci k = some (.int (f i k)) := by
  unfold gm_fld
  rw [mem_of f h]
  simp [sl_at, hk]
theorem fld_r (f : FN) {i ci k r : Nat} {l : List (Option Nat)} (h : shp[i]? = some (ci, l)) (hk : l[k]? = some (some r)) : gm_fld (memOf f) i ci k = some (.ref r) := by
  unfold gm_fld
  rw [mem_of f h]
  simp [sl_at, hk]
theorem pf_i (f : FN) {i ci k : Nat} {l : List (Option Nat)} {x : Int32} (h : shp[i]? = some (ci, l)) (hk : l[k]? = some none) : gm_pf (memOf f) i ci k (.int x) = some (memOf (row f i (upd (f i) k x))) := by
  unfold gm_pf
  rw [mem_of f h]
  simp only [Option.bind_some]
  rw [if_pos ⟨by trivial, by rw [sl_len]; exact (List.getElem?_eq_some_iff.mp hk).1⟩, sl_set _ _ _ _ hk]
  exact congrArg some (mem_set f h _)
theorem rr_a (f : FN) {i t r : Nat} {j : Int32} {l : List (Option Nat)} (h : shp[i]? = some (11 + t, l)) (h0 : 0 ≤ j) (hk : l[j.toNatClampNeg]? = some (some r)) : gm_rr (memOf f) i t j = some r := by
  unfold gm_rr
  rw [if_pos h0, mem_of f h]
  simp [sl_at, hk]
theorem recv_ok (f : FN) {i ci : Nat} {l : List (Option Nat)} {vs : List Value} (h : shp[i]? = some (ci, l)) : recvOK ci (.ref i :: vs) (memOf f) = true := by
  unfold recvOK
  simp only [mem_of f h]
  simp
theorem mem_len (f : FN) : (memOf f).length = 116 := by rw [mem_eq]; simp [shp_len]
/-! loops -/
theorem while_end {b : DE Bool} {s : SD} {n : Nat} {L : List Value} {M M1 : GM} (hb : b L M = some (false, M1)) : s_while b s (n + 1) L M = some (.inl (L, M1)) := by
  simp [s_while, hb]
theorem while_step {b : DE Bool} {s : SD} {n : Nat} {L L2 : List Value} {M M1 M2 : GM} (hb : b L M = some (true, M1)) (hs : s L M1 = some (.inl (L2, M2))) : s_while b s (n + 1) L M = s_while b s n L2 M2 := by
  simp [s_while, hb, hs]
theorem while_ret {b : DE Bool} {s : SD} {n : Nat} {L : List Value} {M M1 : GM} {q : Value × GM} (hb : b L M = some (true, M1)) (hs : s L M1 = some (.inr q)) : s_while b s (n + 1) L M = some (.inr q) := by
  simp [s_while, hb, hs]
/-- a loop of N rounds through the states St 0 .. St N -/
theorem while_count {b : DE Bool} {s : SD} (St : Nat → List Value × GM) (N : Nat) (hN : N < FU) (hb : ∀ i, i < N → b (St i).1 (St i).2 = some (true, (St i).2)) (hs : ∀ i, i < N → s (St i).1 (St i).2 = some (.inl (St (i + 1)))) (he : b (St N).1 (St N).2 = some (false, (St N).2)) : s_while b s FU (St 0).1 (St 0).2 = some (.inl (St N)) := by
  have key : ∀ k i n, i + k = N → k < n → s_while b s n (St i).1 (St i).2 = some (.inl (St N)) := by
    intro k
    induction k with
    | zero =>
      intro i n h1 h2
      have e : i = N := by omega
      subst e
      obtain ⟨m, rfl⟩ : ∃ m, n = m + 1 := ⟨n - 1, by omega⟩
      rw [while_end he]
    | succ k ih =>
      intro i n h1 h2
      obtain ⟨m, rfl⟩ : ∃ m, n = m + 1 := ⟨n - 1, by omega⟩
      rw [while_step (hb i (by omega)) (hs i (by omega))]
      exact ih (i + 1) m (by omega) (by omega)
  exact key N 0 FU (by omega) hN
/-- a loop that returns in round K -/
theorem while_found {b : DE Bool} {s : SD} (St : Nat → List Value × GM) (K : Nat) (q : Value × GM) (hN : K < FU) (hb : ∀ i, i ≤ K → b (St i).1 (St i).2 = some (true, (St i).2)) (hs : ∀ i, i < K → s (St i).1 (St i).2 = some (.inl (St (i + 1)))) (he : s (St K).1 (St K).2 = some (.inr q)) : s_while b s FU (St 0).1 (St 0).2 = some (.inr q) := by
  have key : ∀ k i n, i + k = K → k < n → s_while b s n (St i).1 (St i).2 = some (.inr q) := by
    intro k
    induction k with
    | zero =>
      intro i n h1 h2
      have e : i = K := by omega
      subst e
      obtain ⟨m, rfl⟩ : ∃ m, n = m + 1 := ⟨n - 1, by omega⟩
      rw [while_ret (hb i (Nat.le_refl _)) he]
    | succ k ih =>
      intro i n h1 h2
      obtain ⟨m, rfl⟩ : ∃ m, n = m + 1 := ⟨n - 1, by omega⟩
      rw [while_step (hb i (by omega)) (hs i (by omega))]
      exact ih (i + 1) m (by omega) (by omega)
  exact key K 0 FU (by omega) hN
/-! the constructors -/
def f_init : FN := fun i k => if i = 2 ∨ i = 40 then -1 else if i = 5 ∨ i = 43 then -1 else if (i = 1 ∨ i = 39) ∧ k = 1 then 1 else if i = 78 ∧ k = 2 then -1 else if i = 104 then (if k = 2 then 1 else if 3 ≤ k ∧ k < 39 then -1 else if 725 ≤ k then -1 else 0) else 0
theorem mem_szv (f : FN) : gm_sz (memOf f) = (shp.map (fun c => c.2.length)).sum := by
  unfold gm_sz
  have e : (memOf f).map (fun c => c.2.length) = shp.map (fun c => c.2.length) := by
    apply List.ext_getElem?
    intro j
    rw [List.getElem?_map, List.getElem?_map, mem_at]
    cases shp[j]? with
    | none => rfl
    | some c => simp [sl_len]
  rw [e]
theorem sh_sum : (shp.map (fun c => c.2.length)).sum ≤ 7302250 := by decide +kernel
theorem mem_sz_le (f : FN) : gm_sz (memOf f) ≤ 7302250 := by rw [mem_szv]; exact sh_sum
