/-- what is left to say, of numbers alone: the law answers true -/
def LawPure : Prop := ∀ (Lx : Nat) (xs : Nat → Int32), Lx ≤ 384 → ∃ Mf : GM, S_law Lx xs [.ref (SPB + 400)] [] = some (.inr (.int 1, Mf)) ∧ Mf.length ≤ 600000 ∧ gm_sz Mf ≤ 7302250
set_option maxHeartbeats 4000000 in
set_option maxRecDepth 100000 in
theorem start_of (hpure : LawPure) {p : Program} {e : Env} {s : State} {m : MethodId} {below : List Frame} {meth : Method} {c : Code} (l : Launch) {b L : Nat} {xs : Nat → Int32} (hL : L ≤ 384) (C0 : lw_At p s m meth c b L xs) : W p l e room_1 s m #[Value.ref b] below meth c s.heap [] 0 0 (lw_Z below #[Value.ref b] s) (entryFrame m ([Value.ref b] : List Value).toArray 4) := by
  obtain ⟨hx, hb, hr, hml, hown, hts, hX, hbl, hlocks, hgv⟩ := id C0
  have hg := flat_of_before _ hgv
  have hA : ∀ a : Nat, a < s.heap.size → ¬ (fun q : Nat => s.heap.size ≤ q) a := fun a h => Nat.not_le.mpr h
  -- classes
  obtain ⟨dC, dI, hKc⟩ : ∃ (dC : Nat → ClassId) (dI : Nat → Nat → Nat), ∀ (k : Nat) (q : vw_C), vwCl[k]? = some q → u_Kn s q.1 q.2.1 q.2.2 (dC k) (dI k) := by
    have h1 : ∀ k : Nat, ∃ z : ClassId × (Nat → Nat), ∀ q : vw_C, vwCl[k]? = some q → u_Kn s q.1 q.2.1 q.2.2 z.1 z.2 := by
      intro k
      cases hq : vwCl[k]? with
      | none => exact ⟨(0, fun _ => 0), fun q h => by cases h⟩
      | some q =>
        obtain ⟨cC, iS, hK⟩ := u_known (C := q.1) (T := q.2.1) (N := q.2.2) (n := q.2.2) hts (gn_u k q hq) (hts _ (gn_i q (List.mem_of_getElem? hq)))
        exact ⟨(cC, iS), fun q' h => by cases h; exact hK⟩
    exact ⟨fun k => (h1 k).choose.1, fun k => (h1 k).choose.2, fun k q hq => (h1 k).choose_spec q hq⟩
  -- array classes
  obtain ⟨a0, ka0, co0, i1, i2, i3⟩ := Cond.arrayClass_spec (hts _ gn_a.2.2)
  obtain ⟨co1, a1, ka1, j1, -, j3, j4, j5⟩ := Cond.arrayOver_spec (hts _ gn_a.1)
  obtain ⟨co2, a2, ka2, l1, -, l3, l4, l5⟩ := Cond.arrayOver_spec (hts _ gn_a.2.1)
  -- static arrays
  have hst : ∀ i : Nat, ∃ t : Nat, i < 5 → va_Z RX6 (st_tab.getD i ("", [])).1 "[I" (.ref t) (fun q : Nat => s.heap.size ≤ q) s s.heap ∧ va_T .int t (st_tab.getD i ("", [])).2.length (fun j => .int ((st_tab.getD i ("", [])).2.getD j 0)) (fun q : Nat => s.heap.size ≤ q) s s.heap := by
    intro i
    by_cases hi : i < 5
    · have hlt : (st_tab.getD i ("", [])).2.length < 2 ^ 31 := by
        have : ∀ i, i < 5 → (st_tab.getD i ("", [])).2.length < 2 ^ 31 := by decide
        exact this i hi
      obtain ⟨t, ht, hT⟩ := va_Tof (tm := tm_st i) (ty := .int) (f := fun j => .int ((st_tab.getD i ("", [])).2.getD j 0)) hlt (hg _ (gv_ar i hi)) (va_eqt (hg _ (gv_ln i hi))) (fun j hj => va_eqt (hg _ (gv_el i hi j hj))) hA
      exact ⟨t, fun _ => ⟨va_Zref (hts _ (gv_lay i hi)) (hts _ gs_fm.2.2.2) ht hA, hT⟩⟩
    · exact ⟨0, fun h => absurd h hi⟩
  obtain ⟨tst, htst⟩ : ∃ tst : Nat → Nat, ∀ i : Nat, i < 5 → va_Z RX6 (st_tab.getD i ("", [])).1 "[I" (.ref (tst i)) (fun q : Nat => s.heap.size ≤ q) s s.heap ∧ va_T .int (tst i) (st_tab.getD i ("", [])).2.length (fun j => .int ((st_tab.getD i ("", [])).2.getD j 0)) (fun q : Nat => s.heap.size ≤ q) s s.heap := ⟨fun i => (hst i).choose, fun i hi => (hst i).choose_spec hi⟩
  -- strings
  obtain ⟨adK, adV, hvk, hev⟩ := vk_Sof (args := #[Value.ref b]) (s := s) (N := 15) (tm := tm_str) (len := str_tab.map (fun q => q.2.2.length)) (byt := str_tab.map (fun q => q.2.2)) (A := fun q : Nat => s.heap.size ≤ q) (by decide) (fun i hi => hg _ (gs_ex i hi)) (fun i hi => hg _ (gs_co i hi)) (fun i hi => hg _ (gs_ar i hi)) (fun i hi => hg _ (gs_ln i hi)) (fun i hi j hj => hg _ (gs_el i hi j hj)) (fun i j hi hj hne => (gs_ne i hi j hj hne).imp (fun h => hg _ h) (fun h => hg _ h)) hA
  have hcs := va_Zof (v := .int 1) (hts _ gs_cs.2.1) (hts _ gs_cs.2.2) (va_eqi (hg _ gs_cs.1)) hA
  obtain ⟨fm, hfm⟩ : ∃ fm : Nat, va_Z "jdk/internal/util/Preconditions" "SIOOBE_FORMATTER" "Ljava/util/function/BiFunction;" .null (fun q : Nat => s.heap.size ≤ q) s s.heap ∨ va_Z "jdk/internal/util/Preconditions" "SIOOBE_FORMATTER" "Ljava/util/function/BiFunction;" (.ref fm) (fun q : Nat => s.heap.size ≤ q) s s.heap := by
    rcases va_Zqof (A := fun q : Nat => s.heap.size ≤ q) (hts _ gs_fm.2.1) (hts _ gs_fm.2.2.1) (hg _ gs_fm.1) hA with h | ⟨t, h⟩
    · exact ⟨0, Or.inl h⟩
    · exact ⟨t, Or.inr h⟩
  let ad : Nat → Nat := fun i => if i < SPB then s.heap.size + i else if i < SPB + 100 then tst (i - SPB) else if i < SPB + 200 then adK (i - (SPB + 100)) else if i < SPB + 300 then adV (i - (SPB + 200)) else if i < SPB + 400 then fm else b
  have ad_st : ∀ i, i < 5 → ad (SPB + i) = tst i := fun i hi => by
    show (if SPB + i < SPB then _ else if SPB + i < SPB + 100 then tst (SPB + i - SPB) else _) = _
    rw [if_neg (by omega), if_pos (by omega), show SPB + i - SPB = i by omega]
  have ad_K : ∀ i, i < 15 → ad (SPB + 100 + i) = adK i := fun i hi => by
    show (if SPB + 100 + i < SPB then _ else if SPB + 100 + i < SPB + 100 then _ else if SPB + 100 + i < SPB + 200 then adK (SPB + 100 + i - (SPB + 100)) else _) = _
    rw [if_neg (by omega), if_neg (by omega), if_pos (by omega), show SPB + 100 + i - (SPB + 100) = i by omega]
  have ad_V : ∀ i, i < 15 → ad (SPB + 200 + i) = adV i := fun i hi => by
    show (if SPB + 200 + i < SPB then _ else if SPB + 200 + i < SPB + 100 then _ else if SPB + 200 + i < SPB + 200 then _ else if SPB + 200 + i < SPB + 300 then adV (SPB + 200 + i - (SPB + 200)) else _) = _
    rw [if_neg (by omega), if_neg (by omega), if_neg (by omega), if_pos (by omega), show SPB + 200 + i - (SPB + 200) = i by omega]
  have ad_F : ad (SPB + 300) = fm := by
    show (if SPB + 300 < SPB then _ else if SPB + 300 < SPB + 100 then _ else if SPB + 300 < SPB + 200 then _ else if SPB + 300 < SPB + 300 then _ else if SPB + 300 < SPB + 400 then fm else b) = _
    rw [if_neg (by omega), if_neg (by omega), if_neg (by omega), if_neg (by omega), if_pos (by omega)]
  have ad_b : ad (SPB + 400) = b := by
    show (if SPB + 400 < SPB then _ else if SPB + 400 < SPB + 100 then _ else if SPB + 400 < SPB + 200 then _ else if SPB + 400 < SPB + 300 then _ else if SPB + 400 < SPB + 400 then fm else b) = _
    rw [if_neg (by omega), if_neg (by omega), if_neg (by omega), if_neg (by omega), if_neg (by omega)]
  have ad_ok : ∀ i, i < SPB → ad i = s.heap.size + i := fun i hi => by
    show (if i < SPB then s.heap.size + i else _) = _
    rw [if_pos hi]
  generalize ad = ad at ad_st ad_K ad_V ad_F ad_b ad_ok
  let K : KX := ((dC, dI), ad, fun i => if i = 0 then a0 else if i = 1 then a1 else a2, s.heap.size)
  obtain ⟨Mf, hS, hc1, hc2⟩ := hpure L xs hL
  let X : MX := (K, p, l, e, room_1, s, m, #[Value.ref b], below, meth, c, lw_Z below #[Value.ref b] s, [], (.int 1, Mf))
  have hXK : va_K (k_D K) vwCl (k_tys K) s := by
    refine ⟨hKc, fun k q hq => ?_⟩
    match k, hq with
    | 0, hq => cases hq; exact ⟨fun N z => ⟨(fun k h => by cases h), ka0, i2, co0, i3⟩, i1⟩
    | 1, hq => cases hq; exact ⟨fun N z => ⟨(fun k h => by cases h), ka1, j3, co1, j4⟩, ka1, co1, j3, j4, j1, j5⟩
    | 2, hq => cases hq; exact ⟨fun N z => ⟨(fun k h => by cases h), ka2, l3, co2, l4⟩, ka2, co2, l3, l4, l1, l5⟩
    | k + 3, hq => simp [k_tys] at hq
  have hXI : k_inv K s s.heap := by
    refine ⟨fun i q hq => ?_, ⟨?_, fun i q hq => ?_, hcs, ?_⟩, fun q hq => va_Nw.of rfl (hts _ (gn_m q hq)), fun q hq => va_Nw.of rfl (hts _ (gn_f q hq)), va_AO.of (hts _ gn_a.1), va_AO.of (hts _ gn_a.2.1)⟩
    · have hi : i < 5 := (List.getElem?_eq_some_iff.mp hq).1
      have e1 : st_tab.getD i ("", []) = q := by rw [List.getD_eq_getElem?_getD, hq]; rfl
      have h1 := htst i hi
      rw [e1, ← ad_st i hi] at h1
      exact h1
    · refine ⟨fun i hi => ?_, fun i j hi hj he => hvk.2 i j hi hj (by rw [← ad_K i hi, ← ad_K j hj]; exact he)⟩
      have h1 := hvk.1 i hi
      rw [← ad_K i hi, ← ad_V i hi] at h1
      exact h1
    · have hi : i < 15 := (List.getElem?_eq_some_iff.mp hq).1
      have e1 : str_tab.getD i (0, "", []) = q := by rw [List.getD_eq_getElem?_getD, hq]; rfl
      have h1 := gs_rf i hi
      have h2 := hev i hi
      simp only [tm_str] at h2
      rw [e1] at h1 h2
      have h3 := vk_R.of (hts _ h1) h2
      rw [← ad_K i hi] at h3
      exact h3
    · rw [← ad_F] at hfm
      exact hfm
  have hlt : Mf.length < SPB := by unfold SPB; omega
  have hXO : XOK (C_law L xs) X := by
    refine ⟨hx, hb, hml, hown, fun w hw => hts w (List.mem_filter.mp hw).1, hXK, ad_ok, hXI, ⟨rfl, rfl, ?_, ?_⟩, hlt, rfl, fun h => absurd h (show ¬ ("law" : String) = "<init>" by decide), ?_, ?_⟩
    · show Mf.length - 0 ≤ 600000; omega
    · show gm_sz Mf - 0 ≤ 7302250; omega
    · intro pc Lv hdec hfit hmm ls H locs hl hP hS2
      show W p l e room_1 s m _ below meth c H locs (Mf.length - 0) (gm_sz Mf - 0) (lw_Z below #[Value.ref b] s) (F0 m pc ls [.int 1])
      refine va_forget (fun q hq => hS2.2.2 q hq) ?_
      refine W.widen (k := 600000) (n := 7302250) (by omega) (by omega) ?_
      exact lw_ret hx hb hr hlocks hdec
    · show px_law L xs X
      refine ⟨?_, ?_, ?_⟩
      · show va_X (ad (SPB + 400)) L xs s s.heap; rw [ad_b]; exact hX
      · show ad (SPB + 400) < s.heap.size; rw [ad_b]; exact hbl
      · show ¬ s.heap.size ≤ ad (SPB + 400); rw [ad_b]; exact Nat.not_le.mpr hbl
  have hw := (b_law L xs _ _ _ hS).2 X hXO rfl
  have hl := lv_entry ([.ref b]) (n := 4) (Nat.le_of_ble_eq_true rfl)
  rw [lg_entry_eq]
  refine hw (gm_le.rf _) _ s.heap [] ?_ ⟨fun k q h => by simp [gm_ws] at h, rfl⟩ va_S.rf
  show lv_has _ c.maxLocals _
  rw [hml]
  refine lv_mono hl (fun q hq => ?_)
  obtain ⟨v, b1, b2, b3⟩ := lvL_mem.mp hq
  obtain ⟨i, w⟩ := q
  simp only at b1 b2
  have hi : i < 1 := (List.getElem?_eq_some_iff.mp b1).1
  have e0 : i = 0 := by omega
  subst e0
  cases b1
  subst b2
  show (0, Value.ref (ad (SPB + 400))) ∈ [(0, Value.ref b)]
  rw [ad_b]
  exact List.mem_cons_self
