/-! THE LAW'S LOOP (printed by wip/whole/mk97.py) -/
def lwL (i : Nat) : List Value := [.ref (SPB + 400), .ref 0, .ref 103, .int (nI i)]
theorem scr_at {Lx : Nat} (xs : Nat → Int32) (M : GM) {i j : Nat} (h : i + j < Lx) (hL : Lx ≤ 384) : e_scr Lx xs (e_lr 0) (e_bin (fun (x y : Int32) => x + y) (e_li 3) (e_c (nI j))) (lwL i) M = some (xs (i + j), M) := by
  have e : (nI (i + j)).toNatClampNeg = i + j := nI_clamp (by omega)
  have e2 : (0 : Int32) ≤ nI (i + j) := nI_pos' (by omega)
  simp [e_scr, e_lr, e_bin, e_li, e_c, lwL, nI_a, e, e2, h]
theorem arm_0 {Lx : Nat} {xs : Nat → Int32} {DX DR : MDen} {i : Nat} {f : FN} (hi : i + 5 < Lx) (hL : Lx ≤ 384) (h : AGR DX DR [] f) : ∃ g, s_if (e_bin (fun (x y : Int32) => decide (x ≠ y)) (e_call prI DX 1 (a_recv 6 (a_snoc Value.ref a_nil (e_lr 1)))) (e_call prI DR 1 (a_recv 7 (a_snoc Value.ref a_nil (e_lr 2))))) (s_retz (e_c (0 : Int32))) s_skip (lwL i) (memOf f) = some (.inl (lwL i, memOf g)) ∧ REL g := by
  obtain ⟨r, f1, f2, h1, h2, h3⟩ := h
  refine ⟨f2, ?_, h3⟩
  have l1 : e_lr 1 (lwL i) = fun M => some (0, M) := rfl
  have l2 : e_lr 2 (lwL i) = fun M => some (103, M) := rfl
  simp [s_if, e_bin, e_call, a_recv, a_snoc, a_nil, l1, l2, rc_0, rc_103, h1, h2, prI, s_skip]
theorem arm_1 {Lx : Nat} {xs : Nat → Int32} {DX DR : MDen} {i : Nat} {f : FN} (hi : i + 5 < Lx) (hL : Lx ≤ 384) (h : AGR DX DR [.int (xs (i + 1))] f) : ∃ g, s_if (e_bin (fun (x y : Int32) => decide (x ≠ y)) (e_call prI DX 2 (a_recv 6 (a_snoc Value.int (a_snoc Value.ref a_nil (e_lr 1)) (e_scr Lx xs (e_lr 0) (e_bin (fun (x y : Int32) => x + y) (e_li 3) (e_c (1 : Int32))))))) (e_call prI DR 2 (a_recv 7 (a_snoc Value.int (a_snoc Value.ref a_nil (e_lr 2)) (e_scr Lx xs (e_lr 0) (e_bin (fun (x y : Int32) => x + y) (e_li 3) (e_c (1 : Int32)))))))) (s_retz (e_c (0 : Int32))) s_skip (lwL i) (memOf f) = some (.inl (lwL i, memOf g)) ∧ REL g := by
  obtain ⟨r, f1, f2, h1, h2, h3⟩ := h
  refine ⟨f2, ?_, h3⟩
  have s1 := fun M : GM => scr_at xs M (i := i) (j := 1) (by omega) hL
  have z1 : nI 1 = (1 : Int32) := rfl
  rw [z1] at s1
  have l1 : e_lr 1 (lwL i) = fun M => some (0, M) := rfl
  have l2 : e_lr 2 (lwL i) = fun M => some (103, M) := rfl
  simp [s_if, e_bin, e_call, a_recv, a_snoc, a_nil, l1, l2, s1, rc_0, rc_103, h1, h2, prI, s_skip]
theorem arm_2 {Lx : Nat} {xs : Nat → Int32} {DX DR : MDen} {i : Nat} {f : FN} (hi : i + 5 < Lx) (hL : Lx ≤ 384) (h : AGR DX DR [.int (xs (i + 1)), .int (xs (i + 2))] f) : ∃ g, s_if (e_bin (fun (x y : Int32) => decide (x ≠ y)) (e_call prI DX 3 (a_recv 6 (a_snoc Value.int (a_snoc Value.int (a_snoc Value.ref a_nil (e_lr 1)) (e_scr Lx xs (e_lr 0) (e_bin (fun (x y : Int32) => x + y) (e_li 3) (e_c (1 : Int32))))) (e_scr Lx xs (e_lr 0) (e_bin (fun (x y : Int32) => x + y) (e_li 3) (e_c (2 : Int32))))))) (e_call prI DR 3 (a_recv 7 (a_snoc Value.int (a_snoc Value.int (a_snoc Value.ref a_nil (e_lr 2)) (e_scr Lx xs (e_lr 0) (e_bin (fun (x y : Int32) => x + y) (e_li 3) (e_c (1 : Int32))))) (e_scr Lx xs (e_lr 0) (e_bin (fun (x y : Int32) => x + y) (e_li 3) (e_c (2 : Int32)))))))) (s_retz (e_c (0 : Int32))) s_skip (lwL i) (memOf f) = some (.inl (lwL i, memOf g)) ∧ REL g := by
  obtain ⟨r, f1, f2, h1, h2, h3⟩ := h
  refine ⟨f2, ?_, h3⟩
  have s1 := fun M : GM => scr_at xs M (i := i) (j := 1) (by omega) hL
  have z1 : nI 1 = (1 : Int32) := rfl
  rw [z1] at s1
  have s2 := fun M : GM => scr_at xs M (i := i) (j := 2) (by omega) hL
  have z2 : nI 2 = (2 : Int32) := rfl
  rw [z2] at s2
  have l1 : e_lr 1 (lwL i) = fun M => some (0, M) := rfl
  have l2 : e_lr 2 (lwL i) = fun M => some (103, M) := rfl
  simp [s_if, e_bin, e_call, a_recv, a_snoc, a_nil, l1, l2, s1, s2, rc_0, rc_103, h1, h2, prI, s_skip]
theorem arm_3 {Lx : Nat} {xs : Nat → Int32} {DX DR : MDen} {i : Nat} {f : FN} (hi : i + 5 < Lx) (hL : Lx ≤ 384) (h : AGR DX DR [.int (xs (i + 1)), .int (xs (i + 2)), .int (xs (i + 3))] f) : ∃ g, s_if (e_bin (fun (x y : Int32) => decide (x ≠ y)) (e_call prI DX 4 (a_recv 6 (a_snoc Value.int (a_snoc Value.int (a_snoc Value.int (a_snoc Value.ref a_nil (e_lr 1)) (e_scr Lx xs (e_lr 0) (e_bin (fun (x y : Int32) => x + y) (e_li 3) (e_c (1 : Int32))))) (e_scr Lx xs (e_lr 0) (e_bin (fun (x y : Int32) => x + y) (e_li 3) (e_c (2 : Int32))))) (e_scr Lx xs (e_lr 0) (e_bin (fun (x y : Int32) => x + y) (e_li 3) (e_c (3 : Int32))))))) (e_call prI DR 4 (a_recv 7 (a_snoc Value.int (a_snoc Value.int (a_snoc Value.int (a_snoc Value.ref a_nil (e_lr 2)) (e_scr Lx xs (e_lr 0) (e_bin (fun (x y : Int32) => x + y) (e_li 3) (e_c (1 : Int32))))) (e_scr Lx xs (e_lr 0) (e_bin (fun (x y : Int32) => x + y) (e_li 3) (e_c (2 : Int32))))) (e_scr Lx xs (e_lr 0) (e_bin (fun (x y : Int32) => x + y) (e_li 3) (e_c (3 : Int32)))))))) (s_retz (e_c (0 : Int32))) s_skip (lwL i) (memOf f) = some (.inl (lwL i, memOf g)) ∧ REL g := by
  obtain ⟨r, f1, f2, h1, h2, h3⟩ := h
  refine ⟨f2, ?_, h3⟩
  have s1 := fun M : GM => scr_at xs M (i := i) (j := 1) (by omega) hL
  have z1 : nI 1 = (1 : Int32) := rfl
  rw [z1] at s1
  have s2 := fun M : GM => scr_at xs M (i := i) (j := 2) (by omega) hL
  have z2 : nI 2 = (2 : Int32) := rfl
  rw [z2] at s2
  have s3 := fun M : GM => scr_at xs M (i := i) (j := 3) (by omega) hL
  have z3 : nI 3 = (3 : Int32) := rfl
  rw [z3] at s3
  have l1 : e_lr 1 (lwL i) = fun M => some (0, M) := rfl
  have l2 : e_lr 2 (lwL i) = fun M => some (103, M) := rfl
  simp [s_if, e_bin, e_call, a_recv, a_snoc, a_nil, l1, l2, s1, s2, s3, rc_0, rc_103, h1, h2, prI, s_skip]
theorem arm_4 {Lx : Nat} {xs : Nat → Int32} {DX DR : MDen} {i : Nat} {f : FN} (hi : i + 5 < Lx) (hL : Lx ≤ 384) (h : AGR DX DR [.int (xs (i + 1)), .int (xs (i + 2)), .int (xs (i + 3)), .int (xs (i + 4))] f) : ∃ g, s_if (e_bin (fun (x y : Int32) => decide (x ≠ y)) (e_call prI DX 5 (a_recv 6 (a_snoc Value.int (a_snoc Value.int (a_snoc Value.int (a_snoc Value.int (a_snoc Value.ref a_nil (e_lr 1)) (e_scr Lx xs (e_lr 0) (e_bin (fun (x y : Int32) => x + y) (e_li 3) (e_c (1 : Int32))))) (e_scr Lx xs (e_lr 0) (e_bin (fun (x y : Int32) => x + y) (e_li 3) (e_c (2 : Int32))))) (e_scr Lx xs (e_lr 0) (e_bin (fun (x y : Int32) => x + y) (e_li 3) (e_c (3 : Int32))))) (e_scr Lx xs (e_lr 0) (e_bin (fun (x y : Int32) => x + y) (e_li 3) (e_c (4 : Int32))))))) (e_call prI DR 5 (a_recv 7 (a_snoc Value.int (a_snoc Value.int (a_snoc Value.int (a_snoc Value.int (a_snoc Value.ref a_nil (e_lr 2)) (e_scr Lx xs (e_lr 0) (e_bin (fun (x y : Int32) => x + y) (e_li 3) (e_c (1 : Int32))))) (e_scr Lx xs (e_lr 0) (e_bin (fun (x y : Int32) => x + y) (e_li 3) (e_c (2 : Int32))))) (e_scr Lx xs (e_lr 0) (e_bin (fun (x y : Int32) => x + y) (e_li 3) (e_c (3 : Int32))))) (e_scr Lx xs (e_lr 0) (e_bin (fun (x y : Int32) => x + y) (e_li 3) (e_c (4 : Int32)))))))) (s_retz (e_c (0 : Int32))) s_skip (lwL i) (memOf f) = some (.inl (lwL i, memOf g)) ∧ REL g := by
  obtain ⟨r, f1, f2, h1, h2, h3⟩ := h
  refine ⟨f2, ?_, h3⟩
  have s1 := fun M : GM => scr_at xs M (i := i) (j := 1) (by omega) hL
  have z1 : nI 1 = (1 : Int32) := rfl
  rw [z1] at s1
  have s2 := fun M : GM => scr_at xs M (i := i) (j := 2) (by omega) hL
  have z2 : nI 2 = (2 : Int32) := rfl
  rw [z2] at s2
  have s3 := fun M : GM => scr_at xs M (i := i) (j := 3) (by omega) hL
  have z3 : nI 3 = (3 : Int32) := rfl
  rw [z3] at s3
  have s4 := fun M : GM => scr_at xs M (i := i) (j := 4) (by omega) hL
  have z4 : nI 4 = (4 : Int32) := rfl
  rw [z4] at s4
  have l1 : e_lr 1 (lwL i) = fun M => some (0, M) := rfl
  have l2 : e_lr 2 (lwL i) = fun M => some (103, M) := rfl
  simp [s_if, e_bin, e_call, a_recv, a_snoc, a_nil, l1, l2, s1, s2, s3, s4, rc_0, rc_103, h1, h2, prI, s_skip]
theorem arm_5 {Lx : Nat} {xs : Nat → Int32} {DX DR : MDen} {i : Nat} {f : FN} (hi : i + 5 < Lx) (hL : Lx ≤ 384) (h : AGR DX DR [.int (xs (i + 1)), .int (xs (i + 2)), .int (xs (i + 3)), .int (xs (i + 4)), .int (xs (i + 5))] f) : ∃ g, s_if (e_bin (fun (x y : Int32) => decide (x ≠ y)) (e_call prI DX 6 (a_recv 6 (a_snoc Value.int (a_snoc Value.int (a_snoc Value.int (a_snoc Value.int (a_snoc Value.int (a_snoc Value.ref a_nil (e_lr 1)) (e_scr Lx xs (e_lr 0) (e_bin (fun (x y : Int32) => x + y) (e_li 3) (e_c (1 : Int32))))) (e_scr Lx xs (e_lr 0) (e_bin (fun (x y : Int32) => x + y) (e_li 3) (e_c (2 : Int32))))) (e_scr Lx xs (e_lr 0) (e_bin (fun (x y : Int32) => x + y) (e_li 3) (e_c (3 : Int32))))) (e_scr Lx xs (e_lr 0) (e_bin (fun (x y : Int32) => x + y) (e_li 3) (e_c (4 : Int32))))) (e_scr Lx xs (e_lr 0) (e_bin (fun (x y : Int32) => x + y) (e_li 3) (e_c (5 : Int32))))))) (e_call prI DR 6 (a_recv 7 (a_snoc Value.int (a_snoc Value.int (a_snoc Value.int (a_snoc Value.int (a_snoc Value.int (a_snoc Value.ref a_nil (e_lr 2)) (e_scr Lx xs (e_lr 0) (e_bin (fun (x y : Int32) => x + y) (e_li 3) (e_c (1 : Int32))))) (e_scr Lx xs (e_lr 0) (e_bin (fun (x y : Int32) => x + y) (e_li 3) (e_c (2 : Int32))))) (e_scr Lx xs (e_lr 0) (e_bin (fun (x y : Int32) => x + y) (e_li 3) (e_c (3 : Int32))))) (e_scr Lx xs (e_lr 0) (e_bin (fun (x y : Int32) => x + y) (e_li 3) (e_c (4 : Int32))))) (e_scr Lx xs (e_lr 0) (e_bin (fun (x y : Int32) => x + y) (e_li 3) (e_c (5 : Int32)))))))) (s_retz (e_c (0 : Int32))) s_skip (lwL i) (memOf f) = some (.inl (lwL i, memOf g)) ∧ REL g := by
  obtain ⟨r, f1, f2, h1, h2, h3⟩ := h
  refine ⟨f2, ?_, h3⟩
  have s1 := fun M : GM => scr_at xs M (i := i) (j := 1) (by omega) hL
  have z1 : nI 1 = (1 : Int32) := rfl
  rw [z1] at s1
  have s2 := fun M : GM => scr_at xs M (i := i) (j := 2) (by omega) hL
  have z2 : nI 2 = (2 : Int32) := rfl
  rw [z2] at s2
  have s3 := fun M : GM => scr_at xs M (i := i) (j := 3) (by omega) hL
  have z3 : nI 3 = (3 : Int32) := rfl
  rw [z3] at s3
  have s4 := fun M : GM => scr_at xs M (i := i) (j := 4) (by omega) hL
  have z4 : nI 4 = (4 : Int32) := rfl
  rw [z4] at s4
  have s5 := fun M : GM => scr_at xs M (i := i) (j := 5) (by omega) hL
  have z5 : nI 5 = (5 : Int32) := rfl
  rw [z5] at s5
  have l1 : e_lr 1 (lwL i) = fun M => some (0, M) := rfl
  have l2 : e_lr 2 (lwL i) = fun M => some (103, M) := rfl
  simp [s_if, e_bin, e_call, a_recv, a_snoc, a_nil, l1, l2, s1, s2, s3, s4, s5, rc_0, rc_103, h1, h2, prI, s_skip]
theorem by63 (a : Int32) : ∃ w, w < 64 ∧ a &&& 63 = nI w := by
  refine ⟨(a &&& 63).toBitVec.toNat, ?_, ?_⟩
  · show (a.toBitVec &&& 63#32).toNat < 64
    rw [BitVec.toNat_and]
    have := Nat.and_le_right (n := a.toBitVec.toNat) (m := (63#32).toNat)
    have e : (63#32).toNat = 63 := rfl
    omega
  · unfold nI
    apply Int32.toBitVec_inj.mp
    show (a &&& 63).toBitVec = BitVec.ofNat 32 (a &&& 63).toBitVec.toNat
    apply BitVec.eq_of_toNat_eq
    rw [BitVec.toNat_ofNat]
    exact (Nat.mod_eq_of_lt (a &&& 63).toBitVec.isLt).symm
theorem tab_dfl {e : DE Int32} {lo hi : Int} {arms : List (Nat × SD)} {dfl : SD} {L : List Value} {M M' : GM} {x : Int32} (he : e L M = some (x, M')) (h1 : x.toInt < lo ∨ hi < x.toInt) : s_tab e lo hi arms dfl L M = dfl L M' := by
  unfold s_tab; rw [he]; simp only [Option.bind_some]; rw [if_pos h1]
def lwArms (Lx : Nat) (xs : Nat → Int32) : List (Nat × SD) := [(220, A_law_0 Lx xs), (253, A_law_1 Lx xs), (286, A_law_2 Lx xs), (329, A_law_3 Lx xs), (362, A_law_4 Lx xs), (405, A_law_5 Lx xs), (428, A_law_6 Lx xs), (441, A_law_7 Lx xs), (474, A_law_8 Lx xs), (507, A_law_9 Lx xs), (540, A_law_10 Lx xs), (553, A_law_11 Lx xs), (576, A_law_12 Lx xs), (599, A_law_13 Lx xs), (632, A_law_14 Lx xs), (655, A_law_15 Lx xs), (688, A_law_16 Lx xs), (721, A_law_17 Lx xs), (754, A_law_18 Lx xs), (787, A_law_19 Lx xs), (830, A_law_20 Lx xs), (863, A_law_21 Lx xs), (896, A_law_22 Lx xs), (929, A_law_23 Lx xs), (952, A_law_24 Lx xs), (1005, A_law_25 Lx xs), (1048, A_law_26 Lx xs), (1071, A_law_27 Lx xs), (1094, A_law_28 Lx xs), (1127, A_law_29 Lx xs), (1140, A_law_30 Lx xs), (1153, A_law_31 Lx xs), (1186, A_law_32 Lx xs), (1219, A_law_33 Lx xs), (1262, A_law_34 Lx xs), (1305, A_law_35 Lx xs), (1368, A_law_36 Lx xs), (1391, A_law_37 Lx xs), (1414, A_law_38 Lx xs), (1427, A_law_39 Lx xs), (1440, A_law_40 Lx xs), (1453, A_law_41 Lx xs), (1476, A_law_42 Lx xs)]
def lwT (Lx : Nat) (xs : Nat → Int32) : SD := s_tab (e_bin (fun (x y : Int32) => x &&& y) (e_scr Lx xs (e_lr 0) (e_li 3)) (e_c (63 : Int32))) (0) (42) (lwArms Lx xs) s_skip
theorem lwT_eq (Lx : Nat) (xs : Nat → Int32) : WS_L_law_1 Lx xs = s_seq (lwT Lx xs) (s_inc 3 6) := rfl
theorem law_step (agr_text : ∀ {f : FN}, REL f → AGR D_X6_text D_X7_text [] f) {Lx : Nat} {xs : Nat → Int32} {i : Nat} {f : FN} (hi : i + 5 < Lx) (hL : Lx ≤ 384) (h : REL f) : ∃ g, lwT Lx xs (lwL i) (memOf f) = some (.inl (lwL i, memOf g)) ∧ REL g := by
  obtain ⟨w, hw, ew⟩ := by63 (xs i)
  have he : e_bin (fun (x y : Int32) => x &&& y) (e_scr Lx xs (e_lr 0) (e_li 3)) (e_c (63 : Int32)) (lwL i) (memOf f) = some (nI w, memOf f) := by
    have e : (nI i).toNatClampNeg = i := nI_clamp (by omega)
    have e2 : (0 : Int32) ≤ nI i := nI_pos' (by omega)
    have e3 : i < Lx := by omega
    simp [e_bin, e_scr, e_lr, e_li, e_c, lwL, e, e2, e3, ew]
  unfold lwT
  by_cases c : 42 < w
  · refine ⟨f, ?_, h⟩
    rw [tab_dfl he (Or.inr (by rw [nI_toInt (by omega)]; omega))]
    rfl
  · have hw' : w < 43 := by omega
    clear hw c ew
    match w, hw', he with
    | 0, _, he => rw [tab_at he (by decide) rfl]; exact arm_2 (xs := xs) hi hL (agr_roof h _ _)
    | 1, _, he => rw [tab_at he (by decide) rfl]; exact arm_2 (xs := xs) hi hL (agr_wind h _ _)
    | 2, _, he => rw [tab_at he (by decide) rfl]; exact arm_3 (xs := xs) hi hL (agr_chimney h _ _ _)
    | 3, _, he => rw [tab_at he (by decide) rfl]; exact arm_2 (xs := xs) hi hL (agr_of h _ _)
    | 4, _, he => rw [tab_at he (by decide) rfl]; exact arm_3 (xs := xs) hi hL (agr_change h _ _ _)
    | 5, _, he => rw [tab_at he (by decide) rfl]; exact arm_1 (xs := xs) hi hL (agr_book h _)
    | 6, _, he => rw [tab_at he (by decide) rfl]; exact arm_0 (xs := xs) hi hL (agr_strike h)
    | 7, _, he => rw [tab_at he (by decide) rfl]; exact arm_2 (xs := xs) hi hL (agr_air h _ _)
    | 8, _, he => rw [tab_at he (by decide) rfl]; exact arm_2 (xs := xs) hi hL (agr_settled h _ _)
    | 9, _, he => rw [tab_at he (by decide) rfl]; exact arm_2 (xs := xs) hi hL (agr_parts h _ _)
    | 10, _, he => rw [tab_at he (by decide) rfl]; exact arm_0 (xs := xs) hi hL (agr_thickest h)
    | 11, _, he => rw [tab_at he (by decide) rfl]; exact arm_1 (xs := xs) hi hL (agr_touched h _)
    | 12, _, he => rw [tab_at he (by decide) rfl]; exact arm_1 (xs := xs) hi hL (agr_hours h _)
    | 13, _, he => rw [tab_at he (by decide) rfl]; exact arm_2 (xs := xs) hi hL (agr_ahead h _ _)
    | 14, _, he => rw [tab_at he (by decide) rfl]; exact arm_1 (xs := xs) hi hL (agr_clear h _)
    | 15, _, he => rw [tab_at he (by decide) rfl]; exact arm_2 (xs := xs) hi hL (agr_reaches h _ _)
    | 16, _, he => rw [tab_at he (by decide) rfl]; exact arm_2 (xs := xs) hi hL (agr_place h _ _)
    | 17, _, he => rw [tab_at he (by decide) rfl]; exact arm_2 (xs := xs) hi hL (agr_highFor h _ _)
    | 18, _, he => rw [tab_at he (by decide) rfl]; exact arm_2 (xs := xs) hi hL (agr_gains h _ _)
    | 19, _, he => rw [tab_at he (by decide) rfl]; exact arm_3 (xs := xs) hi hL (agr_when h _ _ _)
    | 20, _, he => rw [tab_at he (by decide) rfl]; exact arm_2 (xs := xs) hi hL (agr_build h _ _)
    | 21, _, he => rw [tab_at he (by decide) rfl]; exact arm_2 (xs := xs) hi hL (agr_washing h _ _)
    | 22, _, he => rw [tab_at he (by decide) rfl]; exact arm_2 (xs := xs) hi hL (agr_worst h _ _)
    | 23, _, he => rw [tab_at he (by decide) rfl]; exact arm_1 (xs := xs) hi hL (agr_over h _)
    | 24, _, he => rw [tab_at he (by decide) rfl]; exact arm_4 (xs := xs) hi hL (agr_canHave h _ _ _ _)
    | 25, _, he => rw [tab_at he (by decide) rfl]; exact arm_3 (xs := xs) hi hL (agr_clocks h _ _ _)
    | 26, _, he => rw [tab_at he (by decide) rfl]; exact arm_1 (xs := xs) hi hL (agr_weather h _)
    | 27, _, he => rw [tab_at he (by decide) rfl]; exact arm_1 (xs := xs) hi hL (agr_seed h _)
    | 28, _, he => rw [tab_at he (by decide) rfl]; exact arm_2 (xs := xs) hi hL (agr_feed h _ _)
    | 29, _, he => rw [tab_at he (by decide) rfl]; exact arm_0 (xs := xs) hi hL (agr_wipe h)
    | 30, _, he => rw [tab_at he (by decide) rfl]; exact arm_0 (xs := xs) hi hL (agr_text h)
    | 31, _, he => rw [tab_at he (by decide) rfl]; exact arm_2 (xs := xs) hi hL (agr_hold h _ _)
    | 32, _, he => rw [tab_at he (by decide) rfl]; exact arm_2 (xs := xs) hi hL (agr_as h _ _)
    | 33, _, he => rw [tab_at he (by decide) rfl]; exact arm_3 (xs := xs) hi hL (agr_sheet h _ _ _)
    | 34, _, he => rw [tab_at he (by decide) rfl]; exact arm_3 (xs := xs) hi hL (agr_write h _ _ _)
    | 35, _, he => rw [tab_at he (by decide) rfl]; exact arm_5 (xs := xs) hi hL (agr_copy h _ _ _ _ _)
    | 36, _, he => rw [tab_at he (by decide) rfl]; exact arm_1 (xs := xs) hi hL (agr_load h _)
    | 37, _, he => rw [tab_at he (by decide) rfl]; exact arm_1 (xs := xs) hi hL (agr_judge h _)
    | 38, _, he => rw [tab_at he (by decide) rfl]; exact arm_0 (xs := xs) hi hL (agr_image h)
    | 39, _, he => rw [tab_at he (by decide) rfl]; exact arm_0 (xs := xs) hi hL (agr_undo h)
    | 40, _, he => rw [tab_at he (by decide) rfl]; exact arm_0 (xs := xs) hi hL (agr_tear h)
    | 41, _, he => rw [tab_at he (by decide) rfl]; exact arm_1 (xs := xs) hi hL (agr_count h _)
    | 42, _, he => rw [tab_at he (by decide) rfl]; exact arm_1 (xs := xs) hi hL (agr_status h _)
    | w + 43, hw, _ => exact absurd hw (by omega)
theorem law_loop (agr_text : ∀ {f : FN}, REL f → AGR D_X6_text D_X7_text [] f) {Lx : Nat} {xs : Nat → Int32} {f : FN} (hL : Lx ≤ 384) (h : REL f) : ∃ L g, W_L_law_1 Lx xs (lwL 0) (memOf f) = some (.inl (L, memOf g)) := by
  have cond : ∀ (k : Nat) (M : GM), k ≤ 384 → WB_L_law_1 Lx xs (lwL k) M = some (decide (nI k ≤ nI Lx - 6), M) := fun k M hk => by
    have e0 : Int32.ofNat Lx = nI Lx := rfl
    simp [WB_L_law_1, e_bin, e_li, e_scl, e_lr, e_c, lwL, e0]
  have le6 : ∀ k, k ≤ 384 → (nI k ≤ nI Lx - 6 ↔ k + 6 ≤ Lx) := fun k hk => by
    have en : (nI Lx).toInt = Lx := nI_toInt (by omega)
    have e6 : (6 : Int32).toInt = 6 := by decide
    have es : (nI Lx - 6).toInt = Lx - 6 := by
      rw [Int32.toInt_sub, en, e6]
      apply Int.bmod_eq_of_le <;> omega
    rw [Int32.le_iff_toInt_le, es, nI_toInt (by omega)]
    omega
  obtain ⟨g, W, hg⟩ := while_rel (b := WB_L_law_1 Lx xs) (s := WS_L_law_1 Lx xs) (fun i => lwL (6 * i)) (fun _ g => REL g) (Lx / 6) (by unfold FU; omega) (fun i g hi hI => by
    rw [cond _ _ (by omega), decide_eq_true ((le6 _ (by omega)).mpr (by omega))]) (fun i g hi hI => by
    obtain ⟨g2, T1, T2⟩ := law_step agr_text (xs := xs) (i := 6 * i) (by omega) hL hI
    refine ⟨g2, ?_, T2⟩
    rw [lwT_eq]
    have e6 : nI (6 * i) + 6 = nI (6 * (i + 1)) := nI_a (6 * i) 6
    simp only [s_seq, T1, Option.bind_some]
    simp [lwL, s_inc, l_set, l_ok, Value.category, e6]) (fun g hI => by
    rw [cond _ _ (by omega), decide_eq_false (fun q => absurd ((le6 _ (by omega)).mp q) (by omega))]) h
  exact ⟨_, g, W⟩
theorem law_of (agr_text : ∀ {f : FN}, REL f → AGR D_X6_text D_X7_text [] f) {f0 : FN} {M1 : GM} (h0 : REL f0) (c1 : ∀ L, e_new 6 [.null, .null, .int 0, .null, .null, .null, .null, .null, .null, .null, .null, .null, .null] D_X6_init L [] = some (0, M1)) (c2 : ∀ L, e_new 7 [.null, .null, .null, .null, .int 0, .null, .null, .int 0, .int 0, .int 0, .null, .null, .int 0, .int 0, .int 0, .int 0, .int 0, .null, .null, .null, .null] D_X7_init L M1 = some (103, memOf f0)) : LawPure := by
  intro Lx xs hL
  obtain ⟨L, g, W⟩ := law_loop agr_text (xs := xs) hL h0
  refine ⟨memOf g, ?_, by rw [mem_len]; omega, mem_sz_le g⟩
  have W' : W_L_law_1 Lx xs [.ref (SPB + 400), .ref 0, .ref 103, .int 0] (memOf f0) = some (.inl (L, memOf g)) := W
  simp [S_law, s_seq, s_st, c1, c2, l_ok, l_set, Value.category, s_sc, e_c, W', s_retz]
