/-! sums, and what is kept of the smoke -/
theorem csI_addf (n : Nat) (g h : Nat → Nat) : csI n (fun i => g i + h i) = csI n g + csI n h := by
  induction n with
  | zero => rfl
  | succ n ih => simp only [csI, ih]; omega
theorem csI_mono {n : Nat} {g h : Nat → Nat} (e : ∀ i, i < n → g i ≤ h i) : csI n g ≤ csI n h := by
  induction n with
  | zero => exact Nat.le_refl _
  | succ n ih =>
    have a := ih (fun i hi => e i (by omega))
    have b := e n (by omega)
    simp only [csI]; omega
theorem csI_swap (n m : Nat) (g : Nat → Nat → Nat) : csI n (fun i => csI m (fun k => g i k)) = csI m (fun k => csI n (fun i => g i k)) := by
  induction n with
  | zero => simp only [csI]; rw [csI_zero]
  | succ n ih => simp only [csI]; rw [ih, csI_addf]
theorem ciI_addf (n : Nat) (g h : Nat → Int) : ciI n (fun i => g i + h i) = ciI n g + ciI n h := by
  induction n with
  | zero => rfl
  | succ n ih => simp only [ciI, ih]; omega
theorem ciI_swap (n m : Nat) (g : Nat → Nat → Int) : ciI n (fun i => ciI m (fun k => g i k)) = ciI m (fun k => ciI n (fun i => g i k)) := by
  induction n with
  | zero => simp only [ciI]; rw [ciI_zero]
  | succ n ih => simp only [ciI]; rw [ih, ciI_addf]
/-- integers held between: each |g i| is at most 6 times h i -/
def bnd (z : Int) (a : Nat) : Prop := z ≤ 6 * (a : Int) ∧ -(6 * (a : Int)) ≤ z
theorem ciI_bnd {n : Nat} {g : Nat → Int} {h : Nat → Nat} (e : ∀ i, i < n → bnd (g i) (h i)) : bnd (ciI n g) (csI n h) := by
  induction n with
  | zero => exact ⟨by simp [ciI, csI], by simp [ciI, csI]⟩
  | succ n ih =>
    have a := ih (fun i hi => e i (by omega))
    have b := e n (by omega)
    unfold bnd at *
    simp only [ciI, csI]
    omega
theorem woM_bnd (kd : Nat) : -6 ≤ woM kd ∧ woM kd ≤ 6 := by
  unfold woM; split <;> omega
theorem kC_bnd (p : Nat) (kd ow : Nat) (r : Option Nat) (o : Nat) : bnd (kC p (woM kd) ow r o) p := by
  obtain ⟨w1, w2⟩ := woM_bnd kd
  have m1 : (p : Int) * woM kd ≤ p * 6 := Int.mul_le_mul_of_nonneg_left w2 (Int.natCast_nonneg p)
  have m2 : (p : Int) * (-6) ≤ p * woM kd := Int.mul_le_mul_of_nonneg_left w1 (Int.natCast_nonneg p)
  unfold bnd kC
  cases r with
  | none => simp only; omega
  | some r =>
    simp only
    have c : ((if o = ow then 1 else 0) - (if o = r then 1 else 0) : Int) = 0 ∨ ((if o = ow then 1 else 0) - (if o = r then 1 else 0) : Int) = 1 ∨ ((if o = ow then 1 else 0) - (if o = r then 1 else 0) : Int) = -1 := by
      split <;> split <;> simp
    rcases c with c | c | c <;> rw [c]
    · rw [Int.mul_zero]; omega
    · rw [Int.mul_one]; omega
    · rw [Int.mul_neg, Int.mul_one]; omega
theorem dC_bnd (tr wd bb : Nat → Nat) (ro : Nat → Option Nat) (h j : Nat) (q : SMK) (o : Nat) : bnd (dC tr wd bb ro h j q o) (dS tr wd bb h j q) := ciI_bnd (fun c _ => kC_bnd _ _ _ _ _)
theorem kD_le (p : Nat) (wo : Int) (r : Option Nat) (o : Nat) : kD p wo r o ≤ p := by unfold kD; split <;> omega
theorem kO_le (p : Nat) (r : Option Nat) (o : Nat) : kO p r o ≤ p := by unfold kO; split <;> omega
theorem dD_le (tr wd bb : Nat → Nat) (ro : Nat → Option Nat) (h j : Nat) (q : SMK) (o : Nat) : dD tr wd bb ro h j q o ≤ dS tr wd bb h j q := csI_mono (fun c _ => kD_le _ _ _ _)
theorem dO_le (tr wd bb : Nat → Nat) (ro : Nat → Option Nat) (h j : Nat) (q : SMK) (o : Nat) : dO tr wd bb ro h j q o ≤ dS tr wd bb h j q := csI_mono (fun c _ => kO_le _ _ _)
/-! smoke is kept -/
def tot (q : SMK) : Nat := csI 36 q.1 + csI 36 q.2.1 + q.2.2.1 + q.2.2.2.1
theorem burn_tot {ce b : Nat} {q : SMK} (h : ce < 36) : tot (smBurn ce b q) = tot q + b := by
  have e : csI 36 (smBurn ce b q).1 = csI 36 q.1 + b := csI_upd h (fun z _ hne => by unfold smBurn; simp only; rw [if_neg hne]) (by unfold smBurn; simp)
  unfold tot
  rw [e]
  show csI 36 q.1 + b + csI 36 q.2.1 + q.2.2.1 + q.2.2.2.1 = _
  omega
theorem mvd_sum {A : Nat → Nat} {w : Nat} (hw : w < 5) : ∀ j, j ≤ 36 → csI 36 (mvd A w j) + csI j (fun c => if mv c w = none then A c else 0) = csI j A := by
  intro j
  induction j with
  | zero =>
    intro _
    rw [csI_congr (h := fun _ => 0) (fun c _ => mvd_0 A w c), csI_zero]; rfl
  | succ j ih =>
    intro hj
    have a := ih (by omega)
    cases hm : mv j w with
    | none =>
      have e : csI 36 (mvd A w (j + 1)) = csI 36 (mvd A w j) := csI_congr (fun c hc => by rw [mvd_succ hw (by omega) hc, hm]; rfl)
      rw [e, csI_succ j, csI_succ j, if_pos hm]; omega
    | some x =>
      have e : csI 36 (mvd A w (j + 1)) = csI 36 (mvd A w j) + A j := csI_upd (mv_lt (by omega) hm) (fun z hz hne => by rw [mvd_succ hw (by omega) hz, hm, if_neg (fun q => hne (Option.some.inj q).symm)]; rfl) (by rw [mvd_succ hw (by omega) (mv_lt (by omega) hm), hm, if_pos rfl])
      rw [e, csI_succ j, csI_succ j, if_neg (by rw [hm]; exact fun q => by cases q)]; omega
theorem wind_tot {w : Nat} {q : SMK} (hw : w < 5) : tot (smWind w q) = tot q := by
  unfold smWind
  by_cases c : w = 0
  · rw [if_pos c]
    unfold tot
    show csI 36 (fun _ => 0) + csI 36 q.2.1 + q.2.2.1 + (q.2.2.2.1 + csI 36 q.1) = _
    rw [csI_zero]; omega
  · rw [if_neg c]
    have e : csI 36 (mvA q.1 w) + outA q.1 w = csI 36 q.1 := by
      rw [csI_congr (g := mvA q.1 w) (h := mvd q.1 w 36) (fun c hc => (mvd_36 hw hc).symm)]
      exact mvd_sum hw 36 (by omega)
    unfold tot
    show csI 36 (mvA q.1 w) + csI 36 q.2.1 + (q.2.2.1 + outA q.1 w) + q.2.2.2.1 = _
    omega
theorem pt_le {so : Nat} (h : so ≤ 60) (q : SMK) (c : Nat) : pt so q c ≤ q.1 c := by
  unfold pt
  have := Nat.mul_le_mul (Nat.le_refl (q.1 c)) h
  omega
theorem set_tot {so : Nat} (h : so ≤ 60) (q : SMK) : tot (smSet so q) = tot q := by
  have e1 : csI 36 (fun c => q.1 c - pt so q c) + csI 36 (pt so q) = csI 36 q.1 := by
    rw [← csI_addf]; exact csI_congr (fun c _ => by have := pt_le h q c; omega)
  have e2 : csI 36 (fun c => q.2.1 c + pt so q c) = csI 36 q.2.1 + csI 36 (pt so q) := csI_addf _ _ _
  unfold tot smSet
  simp only
  rw [e2]; omega
theorem stp_tot {tr : Nat → Nat} {w b : Nat} {q : SMK} (hw : w < 5) (h2 : tr 2 < 36) : tot (stp tr w b q) = tot q + b := by
  unfold stp
  rw [set_tot (sooM_le _ _), wind_tot hw, burn_tot h2]
theorem stp_B (tr : Nat → Nat) (w b : Nat) (q : SMK) : (stp tr w b q).2.2.2.2 = q.2.2.2.2 + b := by
  unfold stp smSet smWind smBurn
  split <;> rfl
theorem stp_S (tr : Nat → Nat) (w b : Nat) (q : SMK) : csI 36 (stp tr w b q).2.1 = csI 36 q.2.1 + csI 36 (ptp tr w b q) := by
  have e : (smWind w (smBurn (tr 2) b q)).2.1 = q.2.1 := by unfold smWind smBurn; split <;> rfl
  unfold stp smSet ptp
  simp only
  rw [csI_addf, e]
theorem run_tot {tr wd bb : Nat → Nat} {h : Nat} {q : SMK} (hw : WD wd) (h2 : tr 2 < 36) (hq : tot q = q.2.2.2.2) : ∀ n, tot (run tr wd bb h n q) = (run tr wd bb h n q).2.2.2.2 := by
  intro n
  induction n with
  | zero => exact hq
  | succ n ih =>
    show tot (stp _ _ _ _) = (stp _ _ _ _).2.2.2.2
    rw [stp_tot (hw _ (Nat.mod_lt _ (by omega))) h2, stp_B, ih]
theorem run_B {tr wd bb : Nat → Nat} {h M : Nat} {q : SMK} (hb : ∀ c, c < 24 → bb c ≤ 203) (hq : q.2.2.2.2 ≤ M) : ∀ n, (run tr wd bb h n q).2.2.2.2 ≤ M + 203 * n := by
  intro n
  induction n with
  | zero => exact hq
  | succ n ih =>
    have b := hb ((h + n) % 24) (Nat.mod_lt _ (by omega))
    show (stp _ _ _ _).2.2.2.2 ≤ _
    rw [stp_B]; omega
theorem run_S {tr wd bb : Nat → Nat} {h : Nat} {q : SMK} : ∀ n, csI 36 (run tr wd bb h n q).2.1 = csI 36 q.2.1 + csI n (fun j => dS tr wd bb h j q) := by
  intro n
  induction n with
  | zero => rfl
  | succ n ih =>
    show csI 36 (stp _ _ _ _).2.1 = _
    rw [stp_S, ih]
    simp only [csI_succ, dS, ptR]
    omega
theorem tlR_0 (tr wd bb : Nat → Nat) (ro : Nat → Option Nat) (h : Nat) (q : SMK) (n : Nat) (t : TL) : tlR tr wd bb ro h 0 q n t = (t.1 + csI n (fun j => dS tr wd bb h j q), fun o => t.2.1 o + ciI n (fun j => dC tr wd bb ro h j q o), fun o => t.2.2.1 o + csI n (fun j => dO tr wd bb ro h j q o), fun o => t.2.2.2 o + csI n (fun j => dD tr wd bb ro h j q o)) := by
  rw [tlR_eq]; simp only [Nat.zero_add]
