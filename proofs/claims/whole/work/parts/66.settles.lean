/-! the reference's settling -/
def b2i (b : Bool) : Int32 := if b then 1 else 0
theorem b2i_01 (b : Bool) : (b2i b = 0 ∨ b2i b = 1) = True := by cases b <;> simp [b2i]
def reaE : DE Int32 := (e_b (b_or (b_of (e_gi 7 9 (e_lr 0))) (b_and (e_bin (fun (x y : Int32) => decide (x = y)) (e_li 1) (e_gi 7 7 (e_lr 0))) (e_bin (fun (x y : Int32) => decide (x = y)) (e_li 5) (e_gi 7 8 (e_lr 0))))))
def stA : SD := (s_if (b_and (e_un (fun (x : Int32) => decide (0 ≤ x)) (e_li 5)) (e_un (fun (x : Int32) => decide (0 < x)) (e_li 4))) (s_seq (s_aop (fun (x y : Int32) => x + y) (e_gr 7 6 (e_lr 0)) (e_li 5) (e_if (e_un (fun (x : Int32) => decide (x < 0)) (e_call prI D_X7_worth 2 (a_recv 7 (a_snoc Value.int (a_snoc Value.ref a_nil (e_lr 0)) (e_li 1))))) (e_li 4) (e_c (0 : Int32))))
  (s_seq (s_pfz 7 9 (e_lr 0) reaE)
  (s_if (e_bin (fun (x y : Int32) => decide (x ≠ y)) (e_li 5) (e_call prI D_X7_its 3 (a_recv 7 (a_snoc Value.int (a_snoc Value.int (a_snoc Value.ref a_nil (e_lr 0)) (e_li 1)) (e_c (1 : Int32)))))) (s_seq (s_aop (fun (x y : Int32) => x - y) (e_gr 7 0 (e_lr 0)) (e_bin (fun (x y : Int32) => x + y) (e_c (119 : Int32)) (e_li 5)) (e_bin (fun (x y : Int32) => x * y) (e_li 4) (e_call prI D_X7_worth 2 (a_recv 7 (a_snoc Value.int (a_snoc Value.ref a_nil (e_lr 0)) (e_li 1))))))
  (s_aop (fun (x y : Int32) => x + y) (e_gr 7 0 (e_lr 0)) (e_bin (fun (x y : Int32) => x + y) (e_c (119 : Int32)) (e_call prI D_X7_its 3 (a_recv 7 (a_snoc Value.int (a_snoc Value.int (a_snoc Value.ref a_nil (e_lr 0)) (e_li 1)) (e_c (1 : Int32)))))) (e_bin (fun (x y : Int32) => x * y) (e_li 4) (e_call prI D_X7_worth 2 (a_recv 7 (a_snoc Value.int (a_snoc Value.ref a_nil (e_lr 0)) (e_li 1))))))) s_skip))) s_skip)
theorem st_eq : WS_X7_settles_1 = (s_seq (s_sc 4 (s_seq (s_st Value.int 4 (e_div (e_bin (fun (x y : Int32) => x * y) (e_ai (e_gr 7 0 (e_lr 0)) (e_bin (fun (x y : Int32) => x + y) (e_bin (fun (x y : Int32) => x + y) (e_c (125 : Int32)) (e_bin (fun (x y : Int32) => x * y) (e_c (36 : Int32)) (e_li 1))) (e_li 3))) (e_call prI D_X7_sooty 2 (a_recv 7 (a_snoc Value.int (a_snoc Value.ref a_nil (e_lr 0)) (e_li 1))))) (e_c (100 : Int32))))
  (s_seq (s_st Value.int 5 (e_ai (e_gr 7 0 (e_lr 0)) (e_bin (fun (x y : Int32) => x + y) (e_c (3 : Int32)) (e_li 3))))
  (s_seq (s_aop (fun (x y : Int32) => x - y) (e_gr 7 0 (e_lr 0)) (e_bin (fun (x y : Int32) => x + y) (e_bin (fun (x y : Int32) => x + y) (e_c (125 : Int32)) (e_bin (fun (x y : Int32) => x * y) (e_c (36 : Int32)) (e_li 1))) (e_li 3)) (e_li 4))
  (s_seq (s_aop (fun (x y : Int32) => x + y) (e_gr 7 0 (e_lr 0)) (e_bin (fun (x y : Int32) => x + y) (e_bin (fun (x y : Int32) => x + y) (e_c (413 : Int32)) (e_bin (fun (x y : Int32) => x * y) (e_c (36 : Int32)) (e_li 1))) (e_li 3)) (e_li 4))
  (s_seq (s_st Value.int 2 (e_bin (fun (x y : Int32) => x + y) (e_li 2) (e_li 4)))
  stA))))))
  (s_inc 3 (1))) := rfl
theorem rea (g : FN) (k s j p r : Int32) : reaE [.ref 103, .int k, .int s, .int j, .int p, .int r] (memOf g) = some (b2i (decide (g 103 9 ≠ 0) || (decide (k = g 103 7) && decide (r = g 103 8))), memOf g) := by
  by_cases a : g 103 9 = 0 <;> by_cases b : k = g 103 7 <;> by_cases c : r = g 103 8 <;> simp [reaE, e_b, b_or, b_of, b_and, e_gi, e_lr, e_li, e_bin, g_103_9, g_103_7, g_103_8, a, b, c, b2i]
def hitB (k p : Nat) (r : Option Nat) (a b : Int32) : Bool := decide (0 < p) && r.isSome && (decide (nI k = a) && decide (atv r = b))
theorem stA_of (f : FN) {k p : Nat} {r : Option Nat} {tr : Nat → Nat} (s j : Int32) (hk : k < 8) (hp : p < 2 ^ 31) (hr : ∀ o, r = some o → o < 6) (ht : HRt (f 104) k tr) (hb : TB tr) : ∃ g, stA [.ref 103, .int (nI k), .int s, .int j, .int (nI p), .int (atv r)] (memOf f) = some (.inl ([.ref 103, .int (nI k), .int s, .int j, .int (nI p), .int (atv r)], memOf g)) ∧ (∀ x, x ≠ 103 → x ≠ 104 → x ≠ 109 → g x = f x) ∧ (∀ y, y ≠ 9 → g 103 y = f 103 y) ∧ (∀ rb, f 103 9 = b2i rb → g 103 9 = b2i (rb || hitB k p r (f 103 7) (f 103 8))) ∧ (∀ y, ¬ (119 ≤ y ∧ y < 125) → g 104 y = f 104 y) ∧ (∀ bo : Nat → Int, (∀ o, o < 6 → f 104 (119 + o) = iI (bo o)) → ∀ o, o < 6 → g 104 (119 + o) = iI (bo o + kC p (woM (tr 0)) (tr 1) r o)) ∧ ∀ di : Nat → Nat, (∀ o, o < 6 → f 109 o = nI (di o)) → ∀ o, o < 6 → g 109 o = nI (di o + kD p (woM (tr 0)) r o) := by
  have k0 : tr 0 < 7 := by have := hb 0 (by omega); simp only [lim] at this; omega
  have k1 : tr 1 < 6 := by have := hb 1 (by omega); simp only [lim] at this; omega
  have WO : ∀ g : FN, (∀ y, ¬ (119 ≤ y ∧ y < 125) → g 104 y = f 104 y) → D_X7_worth [.ref 103, .int (nI k)] (memOf g) = some (.int (iI (woM (tr 0))), memOf g) := fun g hg => by
    rw [← woM_eq k0]; exact X7_worth g hk k0 (by rw [hg _ (by omega)]; exact ht 0 (by omega))
  have IT : ∀ g : FN, (∀ y, ¬ (119 ≤ y ∧ y < 125) → g 104 y = f 104 y) → D_X7_its [.ref 103, .int (nI k), .int 1] (memOf g) = some (.int (nI (tr 1)), memOf g) := fun g hg => by
    rw [X7_its1 g hk, hg _ (by omega), ht 1 (by omega)]
  have hneg := woM_neg k0
  obtain ⟨wo, ewo⟩ : ∃ wo, wo = woM (tr 0) := ⟨_, rfl⟩
  rw [← ewo] at WO hneg ⊢
  cases r with
  | none =>
    refine ⟨f, ?_, fun _ _ _ _ => rfl, fun _ _ => rfl, fun rb h => ?_, fun _ _ => rfl, fun bo h o ho => ?_, fun di h o ho => ?_⟩
    · have e : ¬ (0 : Int32) ≤ atv none := by decide
      simp [stA, s_if, b_and, e_un, e_li, e, s_skip]
    · rw [h]; simp [hitB]
    · rw [h o ho]; simp [kC]
    · rw [h o ho]; simp [kD]
  | some r =>
    have hr6 := hr r rfl
    have e0 : (0 : Int32) ≤ nI r := nI_pos' (by omega)
    have ea : atv (some r) = nI r := rfl
    rw [ea]
    by_cases c0 : p = 0
    · subst c0
      have ep : ¬ (0 : Int32) < nI 0 := by decide
      refine ⟨f, ?_, fun _ _ _ _ => rfl, fun _ _ => rfl, fun rb h => ?_, fun _ _ => rfl, fun bo h o ho => ?_, fun di h o ho => ?_⟩
      · simp [stA, s_if, b_and, e_un, e_li, e0, ep, s_skip]
      · rw [h]; simp [hitB]
      · rw [h o ho, kC_0, Int.add_zero]
      · rw [h o ho, kD_0, Nat.add_zero]
    · have ep : (0 : Int32) < nI p := (nI_lt_iff (a := 0) (by omega) hp).mpr (by omega)
      obtain ⟨g1, h1⟩ : ∃ g1, g1 = row f 109 (upd (f 109) r (f 109 r + if iI wo < 0 then nI p else 0)) := ⟨_, rfl⟩
      have a1 : ∀ x, x ≠ 109 → g1 x = f x := fun x hx => by rw [h1, row_ne _ _ hx]
      obtain ⟨v, hv⟩ : ∃ v, v = (decide (g1 103 9 ≠ 0) || (decide (nI k = g1 103 7) && decide (nI r = g1 103 8))) := ⟨_, rfl⟩
      have RE := rea g1 (nI k) s j (nI p) (nI r)
      rw [← hv] at RE
      obtain ⟨g2, h2⟩ : ∃ g2, g2 = row g1 103 (upd (g1 103) 9 (b2i v)) := ⟨_, rfl⟩
      have a2 : ∀ x, x ≠ 103 → g2 x = g1 x := fun x hx => by rw [h2, row_ne _ _ hx]
      have b1 : ∀ y, ¬ (119 ≤ y ∧ y < 125) → g2 104 y = f 104 y := fun y _ => by rw [a2 104 (by omega), a1 104 (by omega)]
      have w1 := wr_109 f hr6 (f 109 r + if iI wo < 0 then nI p else 0)
      rw [← h1] at w1
      have w2 := p_103_9 g1 (b2i v)
      rw [← h2] at w2
      have i1 : (119 : Int32) + nI r = nI (119 + r) := nI_a 119 r
      have i2 : (119 : Int32) + nI (tr 1) = nI (119 + tr 1) := nI_a 119 (tr 1)
      have X3 : ∀ rb, f 103 9 = b2i rb → g2 103 9 = b2i (rb || hitB k p (some r) (f 103 7) (f 103 8)) := fun rb h => by
        rw [h2, row_self, upd_self, hv, a1 103 (by omega), h]
        congr 1
        unfold hitB
        rw [ea]
        have : decide (0 < p) = true := decide_eq_true (by omega)
        rw [this]
        cases rb <;> simp [b2i]
      have X7 : ∀ di : Nat → Nat, (∀ o, o < 6 → f 109 o = nI (di o)) → ∀ o, o < 6 → g2 109 o = nI (di o + kD p wo (some r) o) := fun di h o ho => by
        rw [a2 109 (by omega), h1, row_self]
        unfold upd kD
        by_cases c : o = r
        · subst c
          by_cases c2 : wo < 0
          · rw [if_pos rfl, if_pos (hneg.mpr c2), if_pos ⟨rfl, c2⟩, h o ho, nI_a]
          · rw [if_pos rfl, if_neg (fun q => c2 (hneg.mp q)), if_neg (fun q => c2 q.2), Nat.add_zero, h o ho, Int32.add_zero]
        · rw [if_neg c, if_neg (fun e => c (Option.some.inj e.1).symm), Nat.add_zero]; exact h o ho
      have X1 : ∀ x, x ≠ 103 → x ≠ 104 → x ≠ 109 → g2 x = f x := fun x c1 c2 c3 => by rw [a2 x c1, a1 x c3]
      have X2 : ∀ y, y ≠ 9 → g2 103 y = f 103 y := fun y hy => by rw [h2, row_self, upd_ne _ _ hy, a1 103 (by omega)]
      have D1 : s_aop (fun (x y : Int32) => x + y) (e_gr 7 6 (e_lr 0)) (e_li 5) (e_if (e_un (fun (x : Int32) => decide (x < 0)) (e_call prI D_X7_worth 2 (a_recv 7 (a_snoc Value.int (a_snoc Value.ref a_nil (e_lr 0)) (e_li 1))))) (e_li 4) (e_c (0 : Int32))) [.ref 103, .int (nI k), .int s, .int j, .int (nI p), .int (nI r)] (memOf f) = some (.inl ([.ref 103, .int (nI k), .int s, .int j, .int (nI p), .int (nI r)], memOf g1)) := by
        by_cases c : iI wo < 0
        · rw [if_pos c] at w1
          simp [s_aop, e_gr, e_lr, g_103_6, e_li, rd_109 f hr6, e_if, e_un, e_call, a_recv, a_snoc, a_nil, rc_103, WO f (fun _ _ => rfl), prI, c, w1]
        · rw [if_neg c, Int32.add_zero] at w1
          simp [s_aop, e_gr, e_lr, g_103_6, e_li, rd_109 f hr6, e_if, e_un, e_call, a_recv, a_snoc, a_nil, rc_103, WO f (fun _ _ => rfl), prI, c, e_c, w1]
      by_cases c1 : r = tr 1
      · subst c1
        refine ⟨g2, ?_, X1, X2, X3, b1, fun bo h o ho => ?_, X7⟩
        · unfold stA
          simp only [s_if, b_and, e_un, e_li, e0, ep, List.getElem?_cons_succ, List.getElem?_cons_zero, Option.bind_some, decide_true, if_true, s_seq, D1]
          simp [s_pfz, e_lr, RE, b2i_01, w2, e_bin, e_call, a_recv, a_snoc, a_nil, e_c, e_li, rc_103, IT g2 b1, prI, s_skip]
        · rw [a2 104 (by omega), a1 104 (by omega), h o ho]
          congr 1
          unfold kC
          simp only
          rw [Int.sub_self, Int.mul_zero, Int.add_zero]
      · have c1' : ¬ nI r = nI (tr 1) := fun e => c1 ((nI_inj (by omega) (by omega)).mp e)
        obtain ⟨g3, h3⟩ : ∃ g3, g3 = row g2 104 (upd (g2 104) (119 + r) (g2 104 (119 + r) - nI p * iI wo)) := ⟨_, rfl⟩
        obtain ⟨g4, h4⟩ : ∃ g4, g4 = row g3 104 (upd (g3 104) (119 + tr 1) (g3 104 (119 + tr 1) + nI p * iI wo)) := ⟨_, rfl⟩
        have w3 := wr_104 g2 (show 119 + r < 735 by omega) (g2 104 (119 + r) - nI p * iI wo)
        rw [← h3] at w3
        have w4 := wr_104 g3 (show 119 + tr 1 < 735 by omega) (g3 104 (119 + tr 1) + nI p * iI wo)
        rw [← h4] at w4
        have b3 : ∀ y, ¬ (119 ≤ y ∧ y < 125) → g3 104 y = f 104 y := fun y hy => by rw [h3, row_self, upd_ne _ _ (by omega)]; exact b1 y hy
        have a4 : ∀ x, x ≠ 104 → g4 x = g2 x := fun x hx => by rw [h4, row_ne _ _ hx, h3, row_ne _ _ hx]
        refine ⟨g4, ?_, fun x c1 c2 c3 => by rw [a4 x c2]; exact X1 x c1 c2 c3, fun y hy => by rw [a4 103 (by omega)]; exact X2 y hy, fun rb h => by rw [a4 103 (by omega)]; exact X3 rb h, fun y hy => by rw [h4, row_self, upd_ne _ _ (by omega)]; exact b3 y hy, fun bo h o ho => ?_, fun di h o ho => by rw [a4 109 (by omega)]; exact X7 di h o ho⟩
        · unfold stA
          simp only [s_if, b_and, e_un, e_li, e0, ep, List.getElem?_cons_succ, List.getElem?_cons_zero, Option.bind_some, decide_true, if_true, s_seq, D1]
          simp [s_pfz, s_aop, e_lr, e_gr, g_103_0, RE, b2i_01, w2, e_bin, e_call, a_recv, a_snoc, a_nil, e_c, e_li, rc_103, IT g2 b1, IT g3 b3, WO g2 b1, WO g3 b3, prI, c1', i1, i2, rd_104 g2 (show 119 + r < 735 by omega), rd_104 g3 (show 119 + tr 1 < 735 by omega), w3, w4]
        · have e : nI p * iI wo = iI (p * wo) := by rw [iI_n, iI_m]
          have s2 : ∀ o, o < 6 → g2 104 (119 + o) = iI (bo o) := fun o ho => by rw [a2 104 (by omega), a1 104 (by omega)]; exact h o ho
          have s3 : ∀ o, o < 6 → g3 104 (119 + o) = iI (if o = r then bo o - p * wo else bo o) := fun o ho => by
            rw [h3, row_self]
            by_cases c : o = r
            · subst c; rw [upd_self, if_pos rfl, s2 o ho, e, iI_s]
            · rw [upd_ne _ _ (by omega), if_neg c]; exact s2 o ho
          rw [h4, row_self]
          unfold kC
          simp only
          by_cases c : o = tr 1
          · subst c
            rw [upd_self, s3 _ ho, if_neg (fun e => c1 e.symm), e, iI_a, if_pos rfl, if_neg (fun e => c1 e.symm), Int.sub_zero, Int.mul_one]
          · rw [upd_ne _ _ (by omega), s3 o ho, if_neg c]
            by_cases c2 : o = r
            · rw [if_pos c2, if_pos c2, Int.zero_sub, Int.mul_neg, Int.mul_one, Int.sub_eq_add_neg]
            · rw [if_neg c2, if_neg c2, Int.sub_self, Int.mul_zero, Int.add_zero]
