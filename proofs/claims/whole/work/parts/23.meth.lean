/-- SmokeRoofs.text()I -/
abbrev C_X6_text : CX := (cX6_text, RX6, 3, 10, 223, "text", (some .int), fun _ => True)
abbrev M_X6_text : MD := (yX6_text, C_X6_text)
theorem k_X6_text : MOK M_X6_text 0 := ⟨w_50, w_596, by decide +kernel, by decide +kernel, by decide +kernel⟩
theorem t_X6_text : MVT M_X6_text 0 6 := ⟨k_X6_text, w_594, w_595, by decide, _, rfl, rfl⟩
def S_X6_text : SD := (s_seq (s_st Value.int 1 (e_call prI D_X1_read 3 (a_recv 1 (a_snoc Value.int (a_snoc Value.ref (a_snoc Value.ref a_nil (e_gr 6 3 (e_lr 0))) (e_gr 6 0 (e_lr 0))) (e_c (0 : Int32))))))
  (s_seq (s_st Value.int 2 (e_li 1))
  (s_seq (s_if (b_of (e_call prI D_X4_hasFault 1 (a_recv 4 (a_snoc Value.ref a_nil (e_gr 1 0 (e_gr 6 3 (e_lr 0))))))) (s_st Value.int 2 (e_bin (fun (x y : Int32) => x - y) (e_c (-1 : Int32)) (e_gi 4 2 (e_gr 1 0 (e_gr 6 3 (e_lr 0)))))) (s_pop (e_call prI D_X1_read 3 (a_recv 1 (a_snoc Value.int (a_snoc Value.ref (a_snoc Value.ref a_nil (e_gr 6 3 (e_lr 0))) (e_gr 6 0 (e_lr 0))) (e_c (1 : Int32)))))))
  (s_seq (s_pf Value.int 4 1 (e_gr 1 0 (e_gr 6 3 (e_lr 0))) (e_c (0 : Int32)))
  (s_ret Value.int (e_li 2))))))
def D_X6_text : MDen := m_den 3 S_X6_text
set_option maxRecDepth 100000 in
set_option maxHeartbeats 4000000 in
theorem b_X6_text : SC C_X6_text 0 0 S_X6_text := by
  unfold S_X6_text
  exact (sc_seq (C := C_X6_text) (p1 := 13) (sc_istore_n (C := C_X6_text) (p1 := 12) (i := 1) (ec_callV (C := C_X6_text) (m := 3) (p1 := 9) inj_I s_X1_read t_X1_read ⟨w_597, Nat.le_of_ble_eq_true rfl, Nat.le_of_ble_eq_true rfl⟩ (ac_snoc (C := C_X6_text) (n := 2) (c := 1) (p1 := 8) (ac_snoc (C := C_X6_text) (n := 1) (c := 1) (p1 := 4) (ac_snoc (C := C_X6_text) (n := 0) (c := 1) (p1 := 0) (ac_nil (C := C_X6_text)) (ec_gr (C := C_X6_text) (p1 := 1) (ec_aload_n (C := C_X6_text) (i := 0) dX6_text_0 rfl) f_X6_26 dX6_text_1) rfl (fun _ => rfl) rfl) (ec_gr (C := C_X6_text) (p1 := 5) (ec_aload_n (C := C_X6_text) (i := 0) dX6_text_4 rfl) f_X6_10 dX6_text_5) rfl (fun _ => rfl) rfl) (ec_iconst (C := C_X6_text) (v := (0 : Int32)) dX6_text_8 rfl) rfl (fun _ => rfl) rfl) (Nat.le_of_ble_eq_true rfl) dX6_text_9) dX6_text_12 rfl (Nat.le_of_ble_eq_true rfl))
  (sc_seq (C := C_X6_text) (p1 := 15) (sc_istore_n (C := C_X6_text) (p1 := 14) (i := 2) (ec_iload_n (C := C_X6_text) (i := 1) dX6_text_13 rfl) dX6_text_14 rfl (Nat.le_of_ble_eq_true rfl))
  (sc_seq (C := C_X6_text) (p1 := 57) (sc_if (C := C_X6_text) (pT := 28) (pF := 44) (p2 := 57) (bc_of_F (C := C_X6_text) (p2 := 25) (tgt := 44) (ec_callV (C := C_X6_text) (m := 1) (p1 := 22) inj_I s_X4_hasFault t_X4_hasFault ⟨w_741, Nat.le_of_ble_eq_true rfl, Nat.le_of_ble_eq_true rfl⟩ (ac_snoc (C := C_X6_text) (n := 0) (c := 1) (p1 := 15) (ac_nil (C := C_X6_text)) (ec_gr (C := C_X6_text) (p1 := 19) (ec_gr (C := C_X6_text) (p1 := 16) (ec_aload_n (C := C_X6_text) (i := 0) dX6_text_15 rfl) f_X6_26 dX6_text_16) f_X6_244 dX6_text_19) rfl (fun _ => rfl) rfl) (Nat.le_of_ble_eq_true rfl) dX6_text_22) dX6_text_25 rfl) (sc_goto (C := C_X6_text) (p1 := 41) (sc_istore_n (C := C_X6_text) (p1 := 40) (i := 2) (ec_isub (C := C_X6_text) (p1 := 29) (p2 := 39) (ec_iconst (C := C_X6_text) (v := (-1 : Int32)) dX6_text_28 rfl) (ec_gi (C := C_X6_text) (p1 := 36) (ec_gr (C := C_X6_text) (p1 := 33) (ec_gr (C := C_X6_text) (p1 := 30) (ec_aload_n (C := C_X6_text) (i := 0) dX6_text_29 rfl) f_X6_26 dX6_text_30) f_X6_244 dX6_text_33) f_X6_263 dX6_text_36) dX6_text_39) dX6_text_40 rfl (Nat.le_of_ble_eq_true rfl)) dX6_text_41 rfl) (sc_pop (C := C_X6_text) (p1 := 56) (ec_callV (C := C_X6_text) (m := 3) (p1 := 53) inj_I s_X1_read t_X1_read ⟨w_597, Nat.le_of_ble_eq_true rfl, Nat.le_of_ble_eq_true rfl⟩ (ac_snoc (C := C_X6_text) (n := 2) (c := 1) (p1 := 52) (ac_snoc (C := C_X6_text) (n := 1) (c := 1) (p1 := 48) (ac_snoc (C := C_X6_text) (n := 0) (c := 1) (p1 := 44) (ac_nil (C := C_X6_text)) (ec_gr (C := C_X6_text) (p1 := 45) (ec_aload_n (C := C_X6_text) (i := 0) dX6_text_44 rfl) f_X6_26 dX6_text_45) rfl (fun _ => rfl) rfl) (ec_gr (C := C_X6_text) (p1 := 49) (ec_aload_n (C := C_X6_text) (i := 0) dX6_text_48 rfl) f_X6_10 dX6_text_49) rfl (fun _ => rfl) rfl) (ec_iconst (C := C_X6_text) (v := (1 : Int32)) dX6_text_52 rfl) rfl (fun _ => rfl) rfl) (Nat.le_of_ble_eq_true rfl) dX6_text_53) dX6_text_56))
  (sc_seq (C := C_X6_text) (p1 := 68) (sc_pf (C := C_X6_text) (p1 := 64) (p2 := 65) (ec_gr (C := C_X6_text) (p1 := 61) (ec_gr (C := C_X6_text) (p1 := 58) (ec_aload_n (C := C_X6_text) (i := 0) dX6_text_57 rfl) f_X6_26 dX6_text_58) f_X6_244 dX6_text_61) (ec_iconst (C := C_X6_text) (v := (0 : Int32)) dX6_text_64 rfl) f_X6_248 dX6_text_65)
  (sc_iret (C := C_X6_text) (p1 := 69) (ec_iload_n (C := C_X6_text) (i := 2) dX6_text_68 rfl) dX6_text_69 rfl)))))
theorem s_X6_text : MS M_X6_text D_X6_text := ms_of b_X6_text (by decide +kernel) rfl rfl (fun _ => trivial)
/-- SmokeRoofs.isSpot(I)Z -/
abbrev C_X6_isSpot : CX := (cX6_isSpot, RX6, 1, 1, 22, "isSpot", (some .boolean), fun _ => True)
abbrev M_X6_isSpot : MD := (yX6_isSpot, C_X6_isSpot)
theorem k_X6_isSpot : MOK M_X6_isSpot 1 := ⟨w_50, w_749, by decide +kernel, by decide +kernel, by decide +kernel⟩
theorem t_X6_isSpot : MST M_X6_isSpot 1 := ⟨k_X6_isSpot, w_748⟩
def S_X6_isSpot : SD := (s_retz (e_call prI D_X6_isIn 3 (a_snoc Value.int (a_snoc Value.int (a_snoc Value.int a_nil (e_li 0)) (e_c (0 : Int32))) (e_c (9 : Int32)))))
def D_X6_isSpot : MDen := m_den 1 S_X6_isSpot
set_option maxRecDepth 100000 in
set_option maxHeartbeats 4000000 in
theorem b_X6_isSpot : SC C_X6_isSpot 0 0 S_X6_isSpot := by
  unfold S_X6_isSpot
  exact (sc_zret (C := C_X6_isSpot) (p1 := 7) (ec_callS (C := C_X6_isSpot) (m := 3) (p1 := 4) inj_I s_X6_isIn t_X6_isIn ⟨w_292, Nat.le_of_ble_eq_true rfl, Nat.le_of_ble_eq_true rfl⟩ (ac_snoc (C := C_X6_isSpot) (n := 2) (c := 1) (p1 := 2) (ac_snoc (C := C_X6_isSpot) (n := 1) (c := 1) (p1 := 1) (ac_snoc (C := C_X6_isSpot) (n := 0) (c := 1) (p1 := 0) (ac_nil (C := C_X6_isSpot)) (ec_iload_n (C := C_X6_isSpot) (i := 0) dX6_isSpot_0 rfl) rfl (fun _ => rfl) rfl) (ec_iconst (C := C_X6_isSpot) (v := (0 : Int32)) dX6_isSpot_1 rfl) rfl (fun _ => rfl) rfl) (ec_bipush (C := C_X6_isSpot) (v := (9 : Int32)) dX6_isSpot_2 rfl) rfl (fun _ => rfl) rfl) (Nat.le_of_ble_eq_true rfl) dX6_isSpot_4) dX6_isSpot_7 rfl)
theorem s_X6_isSpot : MS M_X6_isSpot D_X6_isSpot := ms_of b_X6_isSpot (by decide +kernel) rfl rfl (fun _ => trivial)
/-- SmokeRoofs.hold(II)I -/
abbrev C_X6_hold : CX := (cX6_hold, RX6, 3, 2, 42, "hold", (some .int), fun _ => True)
abbrev M_X6_hold : MD := (yX6_hold, C_X6_hold)
theorem k_X6_hold : MOK M_X6_hold 2 := ⟨w_50, w_746, by decide +kernel, by decide +kernel, by decide +kernel⟩
theorem t_X6_hold : MVT M_X6_hold 2 6 := ⟨k_X6_hold, w_744, w_745, by decide, _, rfl, rfl⟩
def S_X6_hold : SD := (s_seq (s_if (b_or (b_not (b_of (e_call prI D_X6_isSpot 1 (a_snoc Value.int a_nil (e_li 1))))) (b_not (b_of (e_call prI D_X6_isIn 3 (a_snoc Value.int (a_snoc Value.int (a_snoc Value.int a_nil (e_li 2)) (e_c (-1 : Int32))) (e_bin (fun (x y : Int32) => x - y) (e_gi 5 2 (e_gr 6 0 (e_lr 0))) (e_c (1 : Int32)))))))) (s_ret Value.int (e_call prI D_X6_finding 2 (a_recv 6 (a_snoc Value.int (a_snoc Value.ref a_nil (e_lr 0)) (e_c (0 : Int32)))))) s_skip)
  (s_seq (s_as (e_gr 5 6 (e_gr 6 0 (e_lr 0))) (e_li 1) (e_li 2))
  (s_ret Value.int (e_c (1 : Int32)))))
def D_X6_hold : MDen := m_den 3 S_X6_hold
set_option maxRecDepth 100000 in
set_option maxHeartbeats 4000000 in
theorem b_X6_hold : SC C_X6_hold 0 0 S_X6_hold := by
  unfold S_X6_hold
  exact (sc_seq (C := C_X6_hold) (p1 := 30) (sc_if (C := C_X6_hold) (pT := 24) (pF := 30) (p2 := 30) (bc_or (C := C_X6_hold) (p1 := 7) (bc_not (C := C_X6_hold) (bc_of_F (C := C_X6_hold) (p2 := 4) (tgt := 24) (ec_callS (C := C_X6_hold) (m := 1) (p1 := 1) inj_I s_X6_isSpot t_X6_isSpot ⟨w_747, Nat.le_of_ble_eq_true rfl, Nat.le_of_ble_eq_true rfl⟩ (ac_snoc (C := C_X6_hold) (n := 0) (c := 1) (p1 := 0) (ac_nil (C := C_X6_hold)) (ec_iload_n (C := C_X6_hold) (i := 1) dX6_hold_0 rfl) rfl (fun _ => rfl) rfl) (Nat.le_of_ble_eq_true rfl) dX6_hold_1) dX6_hold_4 rfl)) (bc_not (C := C_X6_hold) (bc_of_T (C := C_X6_hold) (p2 := 21) (tgt := 30) (ec_callS (C := C_X6_hold) (m := 3) (p1 := 18) inj_I s_X6_isIn t_X6_isIn ⟨w_292, Nat.le_of_ble_eq_true rfl, Nat.le_of_ble_eq_true rfl⟩ (ac_snoc (C := C_X6_hold) (n := 2) (c := 1) (p1 := 9) (ac_snoc (C := C_X6_hold) (n := 1) (c := 1) (p1 := 8) (ac_snoc (C := C_X6_hold) (n := 0) (c := 1) (p1 := 7) (ac_nil (C := C_X6_hold)) (ec_iload_n (C := C_X6_hold) (i := 2) dX6_hold_7 rfl) rfl (fun _ => rfl) rfl) (ec_iconst (C := C_X6_hold) (v := (-1 : Int32)) dX6_hold_8 rfl) rfl (fun _ => rfl) rfl) (ec_isub (C := C_X6_hold) (p1 := 16) (p2 := 17) (ec_gi (C := C_X6_hold) (p1 := 13) (ec_gr (C := C_X6_hold) (p1 := 10) (ec_aload_n (C := C_X6_hold) (i := 0) dX6_hold_9 rfl) f_X6_10 dX6_hold_10) f_X6_178 dX6_hold_13) (ec_iconst (C := C_X6_hold) (v := (1 : Int32)) dX6_hold_16 rfl) dX6_hold_17) rfl (fun _ => rfl) rfl) (Nat.le_of_ble_eq_true rfl) dX6_hold_18) dX6_hold_21 rfl))) (sc_iret (C := C_X6_hold) (p1 := 29) (ec_callV (C := C_X6_hold) (m := 2) (p1 := 26) inj_I s_X6_finding t_X6_finding ⟨w_295, Nat.le_of_ble_eq_true rfl, Nat.le_of_ble_eq_true rfl⟩ (ac_snoc (C := C_X6_hold) (n := 1) (c := 1) (p1 := 25) (ac_snoc (C := C_X6_hold) (n := 0) (c := 1) (p1 := 24) (ac_nil (C := C_X6_hold)) (ec_aload_n (C := C_X6_hold) (i := 0) dX6_hold_24 rfl) rfl (fun _ => rfl) rfl) (ec_iconst (C := C_X6_hold) (v := (0 : Int32)) dX6_hold_25 rfl) rfl (fun _ => rfl) rfl) (Nat.le_of_ble_eq_true rfl) dX6_hold_26) dX6_hold_29 rfl) sc_skip)
  (sc_seq (C := C_X6_hold) (p1 := 40) (sc_as (C := C_X6_hold) (p1 := 37) (p2 := 38) (p3 := 39) (ec_gr (C := C_X6_hold) (p1 := 34) (ec_gr (C := C_X6_hold) (p1 := 31) (ec_aload_n (C := C_X6_hold) (i := 0) dX6_hold_30 rfl) f_X6_10 dX6_hold_31) f_X6_269 dX6_hold_34) (ec_iload_n (C := C_X6_hold) (i := 1) dX6_hold_37 rfl) (ec_iload_n (C := C_X6_hold) (i := 2) dX6_hold_38 rfl) dX6_hold_39)
  (sc_iret (C := C_X6_hold) (p1 := 41) (ec_iconst (C := C_X6_hold) (v := (1 : Int32)) dX6_hold_40 rfl) dX6_hold_41 rfl)))
theorem s_X6_hold : MS M_X6_hold D_X6_hold := ms_of b_X6_hold (by decide +kernel) rfl rfl (fun _ => trivial)
/-- SmokeRoofs.as(II)I -/
abbrev C_X6_as : CX := (cX6_as, RX6, 4, 3, 65, "as", (some .int), fun _ => True)
abbrev M_X6_as : MD := (yX6_as, C_X6_as)
theorem k_X6_as : MOK M_X6_as 2 := ⟨w_50, w_753, by decide +kernel, by decide +kernel, by decide +kernel⟩
theorem t_X6_as : MVT M_X6_as 2 6 := ⟨k_X6_as, w_751, w_752, by decide, _, rfl, rfl⟩
def S_X6_as : SD := (s_seq (s_if (b_or (b_not (b_of (e_call prI D_X6_isSpot 1 (a_snoc Value.int a_nil (e_li 1))))) (b_not (b_of (e_call prI D_X6_isKind 1 (a_snoc Value.int a_nil (e_li 2)))))) (s_ret Value.int (e_call prI D_X6_finding 2 (a_recv 6 (a_snoc Value.int (a_snoc Value.ref a_nil (e_lr 0)) (e_c (0 : Int32)))))) s_skip)
  (s_seq (s_st Value.int 3 (e_ai (e_gr 5 6 (e_gr 6 0 (e_lr 0))) (e_li 1)))
  (s_seq (s_if (b_not (b_of (e_call prI D_X6_isChimney 2 (a_recv 6 (a_snoc Value.int (a_snoc Value.ref a_nil (e_lr 0)) (e_li 3)))))) (s_ret Value.int (e_call prI D_X6_finding 2 (a_recv 6 (a_snoc Value.int (a_snoc Value.ref a_nil (e_lr 0)) (e_c (5 : Int32)))))) s_skip)
  (s_seq (s_if (b_not (b_of (e_call prI D_X6_isUnder 2 (a_snoc Value.int (a_snoc Value.int a_nil (e_ai (e_gr 0 0 (e_ar 0 (e_gr 5 7 (e_gr 6 0 (e_lr 0))) (e_li 3))) (e_c (0 : Int32)))) (e_li 2))))) (s_ret Value.int (e_call prI D_X6_finding 2 (a_recv 6 (a_snoc Value.int (a_snoc Value.ref a_nil (e_lr 0)) (e_c (2 : Int32)))))) s_skip)
  (s_ret Value.int (e_li 3))))))
def D_X6_as : MDen := m_den 4 S_X6_as
set_option maxRecDepth 100000 in
set_option maxHeartbeats 4000000 in
theorem b_X6_as : SC C_X6_as 0 0 S_X6_as := by
  unfold S_X6_as
  exact (sc_seq (C := C_X6_as) (p1 := 20) (sc_if (C := C_X6_as) (pT := 14) (pF := 20) (p2 := 20) (bc_or (C := C_X6_as) (p1 := 7) (bc_not (C := C_X6_as) (bc_of_F (C := C_X6_as) (p2 := 4) (tgt := 14) (ec_callS (C := C_X6_as) (m := 1) (p1 := 1) inj_I s_X6_isSpot t_X6_isSpot ⟨w_747, Nat.le_of_ble_eq_true rfl, Nat.le_of_ble_eq_true rfl⟩ (ac_snoc (C := C_X6_as) (n := 0) (c := 1) (p1 := 0) (ac_nil (C := C_X6_as)) (ec_iload_n (C := C_X6_as) (i := 1) dX6_as_0 rfl) rfl (fun _ => rfl) rfl) (Nat.le_of_ble_eq_true rfl) dX6_as_1) dX6_as_4 rfl)) (bc_not (C := C_X6_as) (bc_of_T (C := C_X6_as) (p2 := 11) (tgt := 20) (ec_callS (C := C_X6_as) (m := 1) (p1 := 8) inj_I s_X6_isKind t_X6_isKind ⟨w_308, Nat.le_of_ble_eq_true rfl, Nat.le_of_ble_eq_true rfl⟩ (ac_snoc (C := C_X6_as) (n := 0) (c := 1) (p1 := 7) (ac_nil (C := C_X6_as)) (ec_iload_n (C := C_X6_as) (i := 2) dX6_as_7 rfl) rfl (fun _ => rfl) rfl) (Nat.le_of_ble_eq_true rfl) dX6_as_8) dX6_as_11 rfl))) (sc_iret (C := C_X6_as) (p1 := 19) (ec_callV (C := C_X6_as) (m := 2) (p1 := 16) inj_I s_X6_finding t_X6_finding ⟨w_295, Nat.le_of_ble_eq_true rfl, Nat.le_of_ble_eq_true rfl⟩ (ac_snoc (C := C_X6_as) (n := 1) (c := 1) (p1 := 15) (ac_snoc (C := C_X6_as) (n := 0) (c := 1) (p1 := 14) (ac_nil (C := C_X6_as)) (ec_aload_n (C := C_X6_as) (i := 0) dX6_as_14 rfl) rfl (fun _ => rfl) rfl) (ec_iconst (C := C_X6_as) (v := (0 : Int32)) dX6_as_15 rfl) rfl (fun _ => rfl) rfl) (Nat.le_of_ble_eq_true rfl) dX6_as_16) dX6_as_19 rfl) sc_skip)
  (sc_seq (C := C_X6_as) (p1 := 30) (sc_istore_n (C := C_X6_as) (p1 := 29) (i := 3) (ec_ai (C := C_X6_as) (p1 := 27) (p2 := 28) (ec_gr (C := C_X6_as) (p1 := 24) (ec_gr (C := C_X6_as) (p1 := 21) (ec_aload_n (C := C_X6_as) (i := 0) dX6_as_20 rfl) f_X6_10 dX6_as_21) f_X6_269 dX6_as_24) (ec_iload_n (C := C_X6_as) (i := 1) dX6_as_27 rfl) dX6_as_28) dX6_as_29 rfl (Nat.le_of_ble_eq_true rfl))
  (sc_seq (C := C_X6_as) (p1 := 44) (sc_if (C := C_X6_as) (pT := 38) (pF := 44) (p2 := 44) (bc_not (C := C_X6_as) (bc_of_T (C := C_X6_as) (p2 := 35) (tgt := 44) (ec_callV (C := C_X6_as) (m := 2) (p1 := 32) inj_I s_X6_isChimney t_X6_isChimney ⟨w_331, Nat.le_of_ble_eq_true rfl, Nat.le_of_ble_eq_true rfl⟩ (ac_snoc (C := C_X6_as) (n := 1) (c := 1) (p1 := 31) (ac_snoc (C := C_X6_as) (n := 0) (c := 1) (p1 := 30) (ac_nil (C := C_X6_as)) (ec_aload_n (C := C_X6_as) (i := 0) dX6_as_30 rfl) rfl (fun _ => rfl) rfl) (ec_iload_n (C := C_X6_as) (i := 3) dX6_as_31 rfl) rfl (fun _ => rfl) rfl) (Nat.le_of_ble_eq_true rfl) dX6_as_32) dX6_as_35 rfl)) (sc_iret (C := C_X6_as) (p1 := 43) (ec_callV (C := C_X6_as) (m := 2) (p1 := 40) inj_I s_X6_finding t_X6_finding ⟨w_295, Nat.le_of_ble_eq_true rfl, Nat.le_of_ble_eq_true rfl⟩ (ac_snoc (C := C_X6_as) (n := 1) (c := 1) (p1 := 39) (ac_snoc (C := C_X6_as) (n := 0) (c := 1) (p1 := 38) (ac_nil (C := C_X6_as)) (ec_aload_n (C := C_X6_as) (i := 0) dX6_as_38 rfl) rfl (fun _ => rfl) rfl) (ec_iconst (C := C_X6_as) (v := (5 : Int32)) dX6_as_39 rfl) rfl (fun _ => rfl) rfl) (Nat.le_of_ble_eq_true rfl) dX6_as_40) dX6_as_43 rfl) sc_skip)
  (sc_seq (C := C_X6_as) (p1 := 71) (sc_if (C := C_X6_as) (pT := 65) (pF := 71) (p2 := 71) (bc_not (C := C_X6_as) (bc_of_T (C := C_X6_as) (p2 := 62) (tgt := 71) (ec_callS (C := C_X6_as) (m := 2) (p1 := 59) inj_I s_X6_isUnder t_X6_isUnder ⟨w_553, Nat.le_of_ble_eq_true rfl, Nat.le_of_ble_eq_true rfl⟩ (ac_snoc (C := C_X6_as) (n := 1) (c := 1) (p1 := 58) (ac_snoc (C := C_X6_as) (n := 0) (c := 1) (p1 := 44) (ac_nil (C := C_X6_as)) (ec_ai (C := C_X6_as) (p1 := 56) (p2 := 57) (ec_gr (C := C_X6_as) (p1 := 53) (ec_ar (C := C_X6_as) (p1 := 51) (p2 := 52) (Nat.le_of_ble_eq_true rfl) (ec_gr (C := C_X6_as) (p1 := 48) (ec_gr (C := C_X6_as) (p1 := 45) (ec_aload_n (C := C_X6_as) (i := 0) dX6_as_44 rfl) f_X6_10 dX6_as_45) f_X6_105 dX6_as_48) (ec_iload_n (C := C_X6_as) (i := 3) dX6_as_51 rfl) dX6_as_52) f_X6_109 dX6_as_53) (ec_iconst (C := C_X6_as) (v := (0 : Int32)) dX6_as_56 rfl) dX6_as_57) rfl (fun _ => rfl) rfl) (ec_iload_n (C := C_X6_as) (i := 2) dX6_as_58 rfl) rfl (fun _ => rfl) rfl) (Nat.le_of_ble_eq_true rfl) dX6_as_59) dX6_as_62 rfl)) (sc_iret (C := C_X6_as) (p1 := 70) (ec_callV (C := C_X6_as) (m := 2) (p1 := 67) inj_I s_X6_finding t_X6_finding ⟨w_295, Nat.le_of_ble_eq_true rfl, Nat.le_of_ble_eq_true rfl⟩ (ac_snoc (C := C_X6_as) (n := 1) (c := 1) (p1 := 66) (ac_snoc (C := C_X6_as) (n := 0) (c := 1) (p1 := 65) (ac_nil (C := C_X6_as)) (ec_aload_n (C := C_X6_as) (i := 0) dX6_as_65 rfl) rfl (fun _ => rfl) rfl) (ec_iconst (C := C_X6_as) (v := (2 : Int32)) dX6_as_66 rfl) rfl (fun _ => rfl) rfl) (Nat.le_of_ble_eq_true rfl) dX6_as_67) dX6_as_70 rfl) sc_skip)
  (sc_iret (C := C_X6_as) (p1 := 72) (ec_iload_n (C := C_X6_as) (i := 3) dX6_as_71 rfl) dX6_as_72 rfl)))))
theorem s_X6_as : MS M_X6_as D_X6_as := ms_of b_X6_as (by decide +kernel) rfl rfl (fun _ => trivial)
/-- SmokeRoofs.isSheet(I)Z -/
abbrev C_X6_isSheet : CX := (cX6_isSheet, RX6, 1, 1, 22, "isSheet", (some .boolean), fun _ => True)
abbrev M_X6_isSheet : MD := (yX6_isSheet, C_X6_isSheet)
theorem k_X6_isSheet : MOK M_X6_isSheet 1 := ⟨w_50, w_760, by decide +kernel, by decide +kernel, by decide +kernel⟩
theorem t_X6_isSheet : MST M_X6_isSheet 1 := ⟨k_X6_isSheet, w_759⟩
def S_X6_isSheet : SD := (s_retz (e_call prI D_X6_isIn 3 (a_snoc Value.int (a_snoc Value.int (a_snoc Value.int a_nil (e_li 0)) (e_c (0 : Int32))) (e_c (3 : Int32)))))
def D_X6_isSheet : MDen := m_den 1 S_X6_isSheet
set_option maxRecDepth 100000 in
set_option maxHeartbeats 4000000 in
theorem b_X6_isSheet : SC C_X6_isSheet 0 0 S_X6_isSheet := by
  unfold S_X6_isSheet
  exact (sc_zret (C := C_X6_isSheet) (p1 := 6) (ec_callS (C := C_X6_isSheet) (m := 3) (p1 := 3) inj_I s_X6_isIn t_X6_isIn ⟨w_292, Nat.le_of_ble_eq_true rfl, Nat.le_of_ble_eq_true rfl⟩ (ac_snoc (C := C_X6_isSheet) (n := 2) (c := 1) (p1 := 2) (ac_snoc (C := C_X6_isSheet) (n := 1) (c := 1) (p1 := 1) (ac_snoc (C := C_X6_isSheet) (n := 0) (c := 1) (p1 := 0) (ac_nil (C := C_X6_isSheet)) (ec_iload_n (C := C_X6_isSheet) (i := 0) dX6_isSheet_0 rfl) rfl (fun _ => rfl) rfl) (ec_iconst (C := C_X6_isSheet) (v := (0 : Int32)) dX6_isSheet_1 rfl) rfl (fun _ => rfl) rfl) (ec_iconst (C := C_X6_isSheet) (v := (3 : Int32)) dX6_isSheet_2 rfl) rfl (fun _ => rfl) rfl) (Nat.le_of_ble_eq_true rfl) dX6_isSheet_3) dX6_isSheet_6 rfl)
theorem s_X6_isSheet : MS M_X6_isSheet D_X6_isSheet := ms_of b_X6_isSheet (by decide +kernel) rfl rfl (fun _ => trivial)
/-- SmokeRoofs$Sheet.begin(II)V -/
abbrev C_X2_begin : CX := (cX2_begin, RX2, 3, 1, 23, "begin", none, fun _ => True)
abbrev M_X2_begin : MD := (yX2_begin, C_X2_begin)
theorem k_X2_begin : MOK M_X2_begin 2 := ⟨w_57, w_764, by decide +kernel, by decide +kernel, by decide +kernel⟩
theorem t_X2_begin : MVT M_X2_begin 2 2 := ⟨k_X2_begin, w_762, w_763, by decide, _, rfl, rfl⟩
def S_X2_begin : SD := (s_seq (s_seq (s_pf Value.int 2 0 (e_lr 0) (e_li 1))
  (s_seq (s_pf Value.int 2 1 (e_lr 0) (e_if (e_un (fun (x : Int32) => decide (x = 0)) (e_li 1)) (e_c (0 : Int32)) (e_li 2)))
  (s_call D_J7_fill_53178 2 (a_snoc Value.int (a_snoc Value.ref a_nil (e_gr 2 2 (e_lr 0))) (e_c (0 : Int32))))))
  s_retv)
def D_X2_begin : MDen := m_den 3 S_X2_begin
set_option maxRecDepth 100000 in
set_option maxHeartbeats 4000000 in
theorem b_X2_begin : SC C_X2_begin 0 0 S_X2_begin := by
  unfold S_X2_begin
  exact (sc_seq (C := C_X2_begin) (p1 := 26) (sc_seq (C := C_X2_begin) (p1 := 5) (sc_pf (C := C_X2_begin) (p1 := 1) (p2 := 2) (ec_aload_n (C := C_X2_begin) (i := 0) dX2_begin_0 rfl) (ec_iload_n (C := C_X2_begin) (i := 1) dX2_begin_1 rfl) f_X2_9 dX2_begin_2)
  (sc_seq (C := C_X2_begin) (p1 := 18) (sc_pf (C := C_X2_begin) (p1 := 6) (p2 := 15) (ec_aload_n (C := C_X2_begin) (i := 0) dX2_begin_5 rfl) (ec_if (C := C_X2_begin) (pT := 10) (pF := 14) (p1 := 11) (pE := 15) (bc_if_ne_F (C := C_X2_begin) (p2 := 7) (tgt := 14) (ec_iload_n (C := C_X2_begin) (i := 1) dX2_begin_6 rfl) dX2_begin_7 rfl) (ec_iconst (C := C_X2_begin) (v := (0 : Int32)) dX2_begin_10 rfl) dX2_begin_11 rfl (ec_iload_n (C := C_X2_begin) (i := 2) dX2_begin_14 rfl)) f_X2_15 dX2_begin_15)
  (sc_callS (C := C_X2_begin) (m := 2) (p1 := 23) s_J7_fill_53178 t_J7_fill_53178 ⟨w_765, Nat.le_of_ble_eq_true rfl, Nat.le_of_ble_eq_true rfl⟩ (ac_snoc (C := C_X2_begin) (n := 1) (c := 1) (p1 := 22) (ac_snoc (C := C_X2_begin) (n := 0) (c := 1) (p1 := 18) (ac_nil (C := C_X2_begin)) (ec_gr (C := C_X2_begin) (p1 := 19) (ec_aload_n (C := C_X2_begin) (i := 0) dX2_begin_18 rfl) f_X2_18 dX2_begin_19) rfl (fun _ => rfl) rfl) (ec_iconst (C := C_X2_begin) (v := (0 : Int32)) dX2_begin_22 rfl) rfl (fun _ => rfl) rfl) dX2_begin_23)))
  (sc_vret (C := C_X2_begin) dX2_begin_26 rfl))
theorem s_X2_begin : MS M_X2_begin D_X2_begin := ms_of b_X2_begin (by decide +kernel) rfl rfl (fun _ => trivial)
/-- SmokeRoofs.sheet(III)I -/
abbrev C_X6_sheet : CX := (cX6_sheet, RX6, 4, 2, 45, "sheet", (some .int), fun _ => True)
abbrev M_X6_sheet : MD := (yX6_sheet, C_X6_sheet)
theorem k_X6_sheet : MOK M_X6_sheet 3 := ⟨w_50, w_757, by decide +kernel, by decide +kernel, by decide +kernel⟩
theorem t_X6_sheet : MVT M_X6_sheet 3 6 := ⟨k_X6_sheet, w_755, w_756, by decide, _, rfl, rfl⟩
def S_X6_sheet : SD := (s_seq (s_if (b_or (b_not (b_of (e_call prI D_X6_isSheet 1 (a_snoc Value.int a_nil (e_li 1))))) (b_and (b_and (b_and (e_un (fun (x : Int32) => decide (x ≠ 0)) (e_li 2)) (e_bin (fun (x y : Int32) => decide (x ≠ y)) (e_li 2) (e_c (8 : Int32)))) (e_bin (fun (x y : Int32) => decide (x ≠ y)) (e_li 2) (e_c (16 : Int32)))) (e_bin (fun (x y : Int32) => decide (x ≠ y)) (e_li 2) (e_c (32 : Int32))))) (s_ret Value.int (e_call prI D_X6_finding 2 (a_recv 6 (a_snoc Value.int (a_snoc Value.ref a_nil (e_lr 0)) (e_c (0 : Int32)))))) s_skip)
  (s_seq (s_if (e_un (fun (x : Int32) => decide (x < 0)) (e_li 3)) (s_ret Value.int (e_call prI D_X6_finding 2 (a_recv 6 (a_snoc Value.int (a_snoc Value.ref a_nil (e_lr 0)) (e_c (6 : Int32)))))) s_skip)
  (s_seq (s_if (e_bin (fun (x y : Int32) => decide (y < x)) (e_li 3) (e_c (40 : Int32))) (s_ret Value.int (e_call prI D_X6_finding 2 (a_recv 6 (a_snoc Value.int (a_snoc Value.ref a_nil (e_lr 0)) (e_c (0 : Int32)))))) s_skip)
  (s_seq (s_call D_X2_begin 3 (a_recv 2 (a_snoc Value.int (a_snoc Value.int (a_snoc Value.ref a_nil (e_ar 1 (e_gr 6 4 (e_lr 0)) (e_li 1))) (e_li 2)) (e_li 3))))
  (s_ret Value.int (e_gi 2 1 (e_ar 1 (e_gr 6 4 (e_lr 0)) (e_li 1))))))))
def D_X6_sheet : MDen := m_den 4 S_X6_sheet
set_option maxRecDepth 100000 in
set_option maxHeartbeats 4000000 in
theorem b_X6_sheet : SC C_X6_sheet 0 0 S_X6_sheet := by
  unfold S_X6_sheet
  exact (sc_seq (C := C_X6_sheet) (p1 := 35) (sc_if (C := C_X6_sheet) (pT := 29) (pF := 35) (p2 := 35) (bc_or (C := C_X6_sheet) (p1 := 7) (bc_not (C := C_X6_sheet) (bc_of_F (C := C_X6_sheet) (p2 := 4) (tgt := 29) (ec_callS (C := C_X6_sheet) (m := 1) (p1 := 1) inj_I s_X6_isSheet t_X6_isSheet ⟨w_758, Nat.le_of_ble_eq_true rfl, Nat.le_of_ble_eq_true rfl⟩ (ac_snoc (C := C_X6_sheet) (n := 0) (c := 1) (p1 := 0) (ac_nil (C := C_X6_sheet)) (ec_iload_n (C := C_X6_sheet) (i := 1) dX6_sheet_0 rfl) rfl (fun _ => rfl) rfl) (Nat.le_of_ble_eq_true rfl) dX6_sheet_1) dX6_sheet_4 rfl)) (bc_and (C := C_X6_sheet) (p1 := 23) (bc_and (C := C_X6_sheet) (p1 := 17) (bc_and (C := C_X6_sheet) (p1 := 11) (bc_if_eq_F (C := C_X6_sheet) (p2 := 8) (tgt := 35) (ec_iload_n (C := C_X6_sheet) (i := 2) dX6_sheet_7 rfl) dX6_sheet_8 rfl) (bc_icmp_eq_F (C := C_X6_sheet) (p1 := 12) (p2 := 14) (tgt := 35) (ec_iload_n (C := C_X6_sheet) (i := 2) dX6_sheet_11 rfl) (ec_bipush (C := C_X6_sheet) (v := (8 : Int32)) dX6_sheet_12 rfl) dX6_sheet_14 rfl)) (bc_icmp_eq_F (C := C_X6_sheet) (p1 := 18) (p2 := 20) (tgt := 35) (ec_iload_n (C := C_X6_sheet) (i := 2) dX6_sheet_17 rfl) (ec_bipush (C := C_X6_sheet) (v := (16 : Int32)) dX6_sheet_18 rfl) dX6_sheet_20 rfl)) (bc_icmp_eq_F (C := C_X6_sheet) (p1 := 24) (p2 := 26) (tgt := 35) (ec_iload_n (C := C_X6_sheet) (i := 2) dX6_sheet_23 rfl) (ec_bipush (C := C_X6_sheet) (v := (32 : Int32)) dX6_sheet_24 rfl) dX6_sheet_26 rfl))) (sc_iret (C := C_X6_sheet) (p1 := 34) (ec_callV (C := C_X6_sheet) (m := 2) (p1 := 31) inj_I s_X6_finding t_X6_finding ⟨w_295, Nat.le_of_ble_eq_true rfl, Nat.le_of_ble_eq_true rfl⟩ (ac_snoc (C := C_X6_sheet) (n := 1) (c := 1) (p1 := 30) (ac_snoc (C := C_X6_sheet) (n := 0) (c := 1) (p1 := 29) (ac_nil (C := C_X6_sheet)) (ec_aload_n (C := C_X6_sheet) (i := 0) dX6_sheet_29 rfl) rfl (fun _ => rfl) rfl) (ec_iconst (C := C_X6_sheet) (v := (0 : Int32)) dX6_sheet_30 rfl) rfl (fun _ => rfl) rfl) (Nat.le_of_ble_eq_true rfl) dX6_sheet_31) dX6_sheet_34 rfl) sc_skip)
  (sc_seq (C := C_X6_sheet) (p1 := 46) (sc_if (C := C_X6_sheet) (pT := 39) (pF := 46) (p2 := 46) (bc_if_ge_F (C := C_X6_sheet) (p2 := 36) (tgt := 46) (ec_iload_n (C := C_X6_sheet) (i := 3) dX6_sheet_35 rfl) dX6_sheet_36 rfl) (sc_iret (C := C_X6_sheet) (p1 := 45) (ec_callV (C := C_X6_sheet) (m := 2) (p1 := 42) inj_I s_X6_finding t_X6_finding ⟨w_295, Nat.le_of_ble_eq_true rfl, Nat.le_of_ble_eq_true rfl⟩ (ac_snoc (C := C_X6_sheet) (n := 1) (c := 1) (p1 := 40) (ac_snoc (C := C_X6_sheet) (n := 0) (c := 1) (p1 := 39) (ac_nil (C := C_X6_sheet)) (ec_aload_n (C := C_X6_sheet) (i := 0) dX6_sheet_39 rfl) rfl (fun _ => rfl) rfl) (ec_bipush (C := C_X6_sheet) (v := (6 : Int32)) dX6_sheet_40 rfl) rfl (fun _ => rfl) rfl) (Nat.le_of_ble_eq_true rfl) dX6_sheet_42) dX6_sheet_45 rfl) sc_skip)
  (sc_seq (C := C_X6_sheet) (p1 := 58) (sc_if (C := C_X6_sheet) (pT := 52) (pF := 58) (p2 := 58) (bc_icmp_le_F (C := C_X6_sheet) (p1 := 47) (p2 := 49) (tgt := 58) (ec_iload_n (C := C_X6_sheet) (i := 3) dX6_sheet_46 rfl) (ec_bipush (C := C_X6_sheet) (v := (40 : Int32)) dX6_sheet_47 rfl) dX6_sheet_49 rfl) (sc_iret (C := C_X6_sheet) (p1 := 57) (ec_callV (C := C_X6_sheet) (m := 2) (p1 := 54) inj_I s_X6_finding t_X6_finding ⟨w_295, Nat.le_of_ble_eq_true rfl, Nat.le_of_ble_eq_true rfl⟩ (ac_snoc (C := C_X6_sheet) (n := 1) (c := 1) (p1 := 53) (ac_snoc (C := C_X6_sheet) (n := 0) (c := 1) (p1 := 52) (ac_nil (C := C_X6_sheet)) (ec_aload_n (C := C_X6_sheet) (i := 0) dX6_sheet_52 rfl) rfl (fun _ => rfl) rfl) (ec_iconst (C := C_X6_sheet) (v := (0 : Int32)) dX6_sheet_53 rfl) rfl (fun _ => rfl) rfl) (Nat.le_of_ble_eq_true rfl) dX6_sheet_54) dX6_sheet_57 rfl) sc_skip)
  (sc_seq (C := C_X6_sheet) (p1 := 69) (sc_callV (C := C_X6_sheet) (m := 3) (p1 := 66) s_X2_begin t_X2_begin ⟨w_761, Nat.le_of_ble_eq_true rfl, Nat.le_of_ble_eq_true rfl⟩ (ac_snoc (C := C_X6_sheet) (n := 2) (c := 1) (p1 := 65) (ac_snoc (C := C_X6_sheet) (n := 1) (c := 1) (p1 := 64) (ac_snoc (C := C_X6_sheet) (n := 0) (c := 1) (p1 := 58) (ac_nil (C := C_X6_sheet)) (ec_ar (C := C_X6_sheet) (p1 := 62) (p2 := 63) (Nat.le_of_ble_eq_true rfl) (ec_gr (C := C_X6_sheet) (p1 := 59) (ec_aload_n (C := C_X6_sheet) (i := 0) dX6_sheet_58 rfl) f_X6_32 dX6_sheet_59) (ec_iload_n (C := C_X6_sheet) (i := 1) dX6_sheet_62 rfl) dX6_sheet_63) rfl (fun _ => rfl) rfl) (ec_iload_n (C := C_X6_sheet) (i := 2) dX6_sheet_64 rfl) rfl (fun _ => rfl) rfl) (ec_iload_n (C := C_X6_sheet) (i := 3) dX6_sheet_65 rfl) rfl (fun _ => rfl) rfl) dX6_sheet_66)
  (sc_iret (C := C_X6_sheet) (p1 := 78) (ec_gi (C := C_X6_sheet) (p1 := 75) (ec_ar (C := C_X6_sheet) (p1 := 73) (p2 := 74) (Nat.le_of_ble_eq_true rfl) (ec_gr (C := C_X6_sheet) (p1 := 70) (ec_aload_n (C := C_X6_sheet) (i := 0) dX6_sheet_69 rfl) f_X6_32 dX6_sheet_70) (ec_iload_n (C := C_X6_sheet) (i := 1) dX6_sheet_73 rfl) dX6_sheet_74) f_X6_277 dX6_sheet_75) dX6_sheet_78 rfl)))))
theorem s_X6_sheet : MS M_X6_sheet D_X6_sheet := ms_of b_X6_sheet (by decide +kernel) rfl rfl (fun _ => trivial)
/-- SmokeRoofs$Sheet.isMissing()Z -/
abbrev C_X2_isMissing : CX := (cX2_isMissing, RX2, 1, 0, 0, "isMissing", (some .boolean), fun _ => True)
abbrev M_X2_isMissing : MD := (yX2_isMissing, C_X2_isMissing)
theorem k_X2_isMissing : MOK M_X2_isMissing 0 := ⟨w_57, w_773, by decide +kernel, by decide +kernel, by decide +kernel⟩
theorem t_X2_isMissing : MVT M_X2_isMissing 0 2 := ⟨k_X2_isMissing, w_771, w_772, by decide, _, rfl, rfl⟩
def S_X2_isMissing : SD := (s_retz (e_b (e_un (fun (x : Int32) => decide (x = 0)) (e_gi 2 0 (e_lr 0)))))
def D_X2_isMissing : MDen := m_den 1 S_X2_isMissing
set_option maxRecDepth 100000 in
set_option maxHeartbeats 4000000 in
theorem b_X2_isMissing : SC C_X2_isMissing 0 0 S_X2_isMissing := by
  unfold S_X2_isMissing
  exact (sc_zret (C := C_X2_isMissing) (p1 := 12) (ec_bm (C := C_X2_isMissing) (pT := 7) (bc_if_ne_F (C := C_X2_isMissing) (p2 := 4) (tgt := 11) (ec_gi (C := C_X2_isMissing) (p1 := 1) (ec_aload_n (C := C_X2_isMissing) (i := 0) dX2_isMissing_0 rfl) f_X2_9 dX2_isMissing_1) dX2_isMissing_4 rfl) dX2_isMissing_7 dX2_isMissing_8 rfl dX2_isMissing_11) dX2_isMissing_12 rfl)
theorem s_X2_isMissing : MS M_X2_isMissing D_X2_isMissing := ms_of b_X2_isMissing (by decide +kernel) rfl rfl (fun _ => trivial)
/-- SmokeRoofs$Sheet.put(II)V -/
abbrev C_X2_put : CX := (cX2_put, RX2, 3, 0, 0, "put", none, fun _ => True)
abbrev M_X2_put : MD := (yX2_put, C_X2_put)
theorem k_X2_put : MOK M_X2_put 2 := ⟨w_57, w_777, by decide +kernel, by decide +kernel, by decide +kernel⟩
theorem t_X2_put : MVT M_X2_put 2 2 := ⟨k_X2_put, w_775, w_776, by decide, _, rfl, rfl⟩
def S_X2_put : SD := (s_seq (s_if (e_bin (fun (x y : Int32) => decide (x = y)) (e_gi 2 0 (e_lr 0)) (e_c (8 : Int32))) (s_as (e_gr 2 2 (e_lr 0)) (e_li 1) (e_un (fun (x : Int32) => x.toInt8.toInt32) (e_li 2))) (s_if (e_bin (fun (x y : Int32) => decide (x = y)) (e_gi 2 0 (e_lr 0)) (e_c (16 : Int32))) (s_as (e_gr 2 2 (e_lr 0)) (e_li 1) (e_un (fun (x : Int32) => x.toInt16.toInt32) (e_li 2))) (s_as (e_gr 2 2 (e_lr 0)) (e_li 1) (e_li 2))))
  s_retv)
def D_X2_put : MDen := m_den 3 S_X2_put
set_option maxRecDepth 100000 in
set_option maxHeartbeats 4000000 in
theorem b_X2_put : SC C_X2_put 0 0 S_X2_put := by
  unfold S_X2_put
  exact (sc_seq (C := C_X2_put) (p1 := 47) (sc_if (C := C_X2_put) (pT := 9) (pF := 20) (p2 := 47) (bc_icmp_ne_F (C := C_X2_put) (p1 := 4) (p2 := 6) (tgt := 20) (ec_gi (C := C_X2_put) (p1 := 1) (ec_aload_n (C := C_X2_put) (i := 0) dX2_put_0 rfl) f_X2_9 dX2_put_1) (ec_bipush (C := C_X2_put) (v := (8 : Int32)) dX2_put_4 rfl) dX2_put_6 rfl) (sc_goto (C := C_X2_put) (p1 := 17) (sc_as (C := C_X2_put) (p1 := 13) (p2 := 14) (p3 := 16) (ec_gr (C := C_X2_put) (p1 := 10) (ec_aload_n (C := C_X2_put) (i := 0) dX2_put_9 rfl) f_X2_18 dX2_put_10) (ec_iload_n (C := C_X2_put) (i := 1) dX2_put_13 rfl) (ec_i2b (C := C_X2_put) (p1 := 15) (ec_iload_n (C := C_X2_put) (i := 2) dX2_put_14 rfl) dX2_put_15) dX2_put_16) dX2_put_17 rfl) (sc_if (C := C_X2_put) (pT := 29) (pF := 40) (p2 := 47) (bc_icmp_ne_F (C := C_X2_put) (p1 := 24) (p2 := 26) (tgt := 40) (ec_gi (C := C_X2_put) (p1 := 21) (ec_aload_n (C := C_X2_put) (i := 0) dX2_put_20 rfl) f_X2_9 dX2_put_21) (ec_bipush (C := C_X2_put) (v := (16 : Int32)) dX2_put_24 rfl) dX2_put_26 rfl) (sc_goto (C := C_X2_put) (p1 := 37) (sc_as (C := C_X2_put) (p1 := 33) (p2 := 34) (p3 := 36) (ec_gr (C := C_X2_put) (p1 := 30) (ec_aload_n (C := C_X2_put) (i := 0) dX2_put_29 rfl) f_X2_18 dX2_put_30) (ec_iload_n (C := C_X2_put) (i := 1) dX2_put_33 rfl) (ec_i2s (C := C_X2_put) (p1 := 35) (ec_iload_n (C := C_X2_put) (i := 2) dX2_put_34 rfl) dX2_put_35) dX2_put_36) dX2_put_37 rfl) (sc_as (C := C_X2_put) (p1 := 44) (p2 := 45) (p3 := 46) (ec_gr (C := C_X2_put) (p1 := 41) (ec_aload_n (C := C_X2_put) (i := 0) dX2_put_40 rfl) f_X2_18 dX2_put_41) (ec_iload_n (C := C_X2_put) (i := 1) dX2_put_44 rfl) (ec_iload_n (C := C_X2_put) (i := 2) dX2_put_45 rfl) dX2_put_46)))
  (sc_vret (C := C_X2_put) dX2_put_47 rfl))
theorem s_X2_put : MS M_X2_put D_X2_put := ms_of b_X2_put (by decide +kernel) rfl rfl (fun _ => trivial)
/-- SmokeRoofs.write(III)I -/
abbrev C_X6_write : CX := (cX6_write, RX6, 4, 2, 42, "write", (some .int), fun _ => True)
abbrev M_X6_write : MD := (yX6_write, C_X6_write)
theorem k_X6_write : MOK M_X6_write 3 := ⟨w_50, w_769, by decide +kernel, by decide +kernel, by decide +kernel⟩
theorem t_X6_write : MVT M_X6_write 3 6 := ⟨k_X6_write, w_767, w_768, by decide, _, rfl, rfl⟩
def S_X6_write : SD := (s_seq (s_if (b_not (b_of (e_call prI D_X6_isSheet 1 (a_snoc Value.int a_nil (e_li 1))))) (s_ret Value.int (e_call prI D_X6_finding 2 (a_recv 6 (a_snoc Value.int (a_snoc Value.ref a_nil (e_lr 0)) (e_c (0 : Int32)))))) s_skip)
  (s_seq (s_if (b_of (e_call prI D_X2_isMissing 1 (a_recv 2 (a_snoc Value.ref a_nil (e_ar 1 (e_gr 6 4 (e_lr 0)) (e_li 1)))))) (s_ret Value.int (e_call prI D_X6_finding 2 (a_recv 6 (a_snoc Value.int (a_snoc Value.ref a_nil (e_lr 0)) (e_c (5 : Int32)))))) s_skip)
  (s_seq (s_if (b_not (b_of (e_call prI D_X6_isIn 3 (a_snoc Value.int (a_snoc Value.int (a_snoc Value.int a_nil (e_li 2)) (e_c (0 : Int32))) (e_bin (fun (x y : Int32) => x - y) (e_gi 2 1 (e_ar 1 (e_gr 6 4 (e_lr 0)) (e_li 1))) (e_c (1 : Int32))))))) (s_ret Value.int (e_call prI D_X6_finding 2 (a_recv 6 (a_snoc Value.int (a_snoc Value.ref a_nil (e_lr 0)) (e_c (0 : Int32)))))) s_skip)
  (s_seq (s_call D_X2_put 3 (a_recv 2 (a_snoc Value.int (a_snoc Value.int (a_snoc Value.ref a_nil (e_ar 1 (e_gr 6 4 (e_lr 0)) (e_li 1))) (e_li 2)) (e_li 3))))
  (s_ret Value.int (e_c (1 : Int32)))))))
def D_X6_write : MDen := m_den 4 S_X6_write
set_option maxRecDepth 100000 in
set_option maxHeartbeats 4000000 in
theorem b_X6_write : SC C_X6_write 0 0 S_X6_write := by
  unfold S_X6_write
  exact (sc_seq (C := C_X6_write) (p1 := 13) (sc_if (C := C_X6_write) (pT := 7) (pF := 13) (p2 := 13) (bc_not (C := C_X6_write) (bc_of_T (C := C_X6_write) (p2 := 4) (tgt := 13) (ec_callS (C := C_X6_write) (m := 1) (p1 := 1) inj_I s_X6_isSheet t_X6_isSheet ⟨w_758, Nat.le_of_ble_eq_true rfl, Nat.le_of_ble_eq_true rfl⟩ (ac_snoc (C := C_X6_write) (n := 0) (c := 1) (p1 := 0) (ac_nil (C := C_X6_write)) (ec_iload_n (C := C_X6_write) (i := 1) dX6_write_0 rfl) rfl (fun _ => rfl) rfl) (Nat.le_of_ble_eq_true rfl) dX6_write_1) dX6_write_4 rfl)) (sc_iret (C := C_X6_write) (p1 := 12) (ec_callV (C := C_X6_write) (m := 2) (p1 := 9) inj_I s_X6_finding t_X6_finding ⟨w_295, Nat.le_of_ble_eq_true rfl, Nat.le_of_ble_eq_true rfl⟩ (ac_snoc (C := C_X6_write) (n := 1) (c := 1) (p1 := 8) (ac_snoc (C := C_X6_write) (n := 0) (c := 1) (p1 := 7) (ac_nil (C := C_X6_write)) (ec_aload_n (C := C_X6_write) (i := 0) dX6_write_7 rfl) rfl (fun _ => rfl) rfl) (ec_iconst (C := C_X6_write) (v := (0 : Int32)) dX6_write_8 rfl) rfl (fun _ => rfl) rfl) (Nat.le_of_ble_eq_true rfl) dX6_write_9) dX6_write_12 rfl) sc_skip)
  (sc_seq (C := C_X6_write) (p1 := 31) (sc_if (C := C_X6_write) (pT := 25) (pF := 31) (p2 := 31) (bc_of_F (C := C_X6_write) (p2 := 22) (tgt := 31) (ec_callV (C := C_X6_write) (m := 1) (p1 := 19) inj_I s_X2_isMissing t_X2_isMissing ⟨w_770, Nat.le_of_ble_eq_true rfl, Nat.le_of_ble_eq_true rfl⟩ (ac_snoc (C := C_X6_write) (n := 0) (c := 1) (p1 := 13) (ac_nil (C := C_X6_write)) (ec_ar (C := C_X6_write) (p1 := 17) (p2 := 18) (Nat.le_of_ble_eq_true rfl) (ec_gr (C := C_X6_write) (p1 := 14) (ec_aload_n (C := C_X6_write) (i := 0) dX6_write_13 rfl) f_X6_32 dX6_write_14) (ec_iload_n (C := C_X6_write) (i := 1) dX6_write_17 rfl) dX6_write_18) rfl (fun _ => rfl) rfl) (Nat.le_of_ble_eq_true rfl) dX6_write_19) dX6_write_22 rfl) (sc_iret (C := C_X6_write) (p1 := 30) (ec_callV (C := C_X6_write) (m := 2) (p1 := 27) inj_I s_X6_finding t_X6_finding ⟨w_295, Nat.le_of_ble_eq_true rfl, Nat.le_of_ble_eq_true rfl⟩ (ac_snoc (C := C_X6_write) (n := 1) (c := 1) (p1 := 26) (ac_snoc (C := C_X6_write) (n := 0) (c := 1) (p1 := 25) (ac_nil (C := C_X6_write)) (ec_aload_n (C := C_X6_write) (i := 0) dX6_write_25 rfl) rfl (fun _ => rfl) rfl) (ec_iconst (C := C_X6_write) (v := (5 : Int32)) dX6_write_26 rfl) rfl (fun _ => rfl) rfl) (Nat.le_of_ble_eq_true rfl) dX6_write_27) dX6_write_30 rfl) sc_skip)
  (sc_seq (C := C_X6_write) (p1 := 56) (sc_if (C := C_X6_write) (pT := 50) (pF := 56) (p2 := 56) (bc_not (C := C_X6_write) (bc_of_T (C := C_X6_write) (p2 := 47) (tgt := 56) (ec_callS (C := C_X6_write) (m := 3) (p1 := 44) inj_I s_X6_isIn t_X6_isIn ⟨w_292, Nat.le_of_ble_eq_true rfl, Nat.le_of_ble_eq_true rfl⟩ (ac_snoc (C := C_X6_write) (n := 2) (c := 1) (p1 := 33) (ac_snoc (C := C_X6_write) (n := 1) (c := 1) (p1 := 32) (ac_snoc (C := C_X6_write) (n := 0) (c := 1) (p1 := 31) (ac_nil (C := C_X6_write)) (ec_iload_n (C := C_X6_write) (i := 2) dX6_write_31 rfl) rfl (fun _ => rfl) rfl) (ec_iconst (C := C_X6_write) (v := (0 : Int32)) dX6_write_32 rfl) rfl (fun _ => rfl) rfl) (ec_isub (C := C_X6_write) (p1 := 42) (p2 := 43) (ec_gi (C := C_X6_write) (p1 := 39) (ec_ar (C := C_X6_write) (p1 := 37) (p2 := 38) (Nat.le_of_ble_eq_true rfl) (ec_gr (C := C_X6_write) (p1 := 34) (ec_aload_n (C := C_X6_write) (i := 0) dX6_write_33 rfl) f_X6_32 dX6_write_34) (ec_iload_n (C := C_X6_write) (i := 1) dX6_write_37 rfl) dX6_write_38) f_X6_277 dX6_write_39) (ec_iconst (C := C_X6_write) (v := (1 : Int32)) dX6_write_42 rfl) dX6_write_43) rfl (fun _ => rfl) rfl) (Nat.le_of_ble_eq_true rfl) dX6_write_44) dX6_write_47 rfl)) (sc_iret (C := C_X6_write) (p1 := 55) (ec_callV (C := C_X6_write) (m := 2) (p1 := 52) inj_I s_X6_finding t_X6_finding ⟨w_295, Nat.le_of_ble_eq_true rfl, Nat.le_of_ble_eq_true rfl⟩ (ac_snoc (C := C_X6_write) (n := 1) (c := 1) (p1 := 51) (ac_snoc (C := C_X6_write) (n := 0) (c := 1) (p1 := 50) (ac_nil (C := C_X6_write)) (ec_aload_n (C := C_X6_write) (i := 0) dX6_write_50 rfl) rfl (fun _ => rfl) rfl) (ec_iconst (C := C_X6_write) (v := (0 : Int32)) dX6_write_51 rfl) rfl (fun _ => rfl) rfl) (Nat.le_of_ble_eq_true rfl) dX6_write_52) dX6_write_55 rfl) sc_skip)
  (sc_seq (C := C_X6_write) (p1 := 67) (sc_callV (C := C_X6_write) (m := 3) (p1 := 64) s_X2_put t_X2_put ⟨w_774, Nat.le_of_ble_eq_true rfl, Nat.le_of_ble_eq_true rfl⟩ (ac_snoc (C := C_X6_write) (n := 2) (c := 1) (p1 := 63) (ac_snoc (C := C_X6_write) (n := 1) (c := 1) (p1 := 62) (ac_snoc (C := C_X6_write) (n := 0) (c := 1) (p1 := 56) (ac_nil (C := C_X6_write)) (ec_ar (C := C_X6_write) (p1 := 60) (p2 := 61) (Nat.le_of_ble_eq_true rfl) (ec_gr (C := C_X6_write) (p1 := 57) (ec_aload_n (C := C_X6_write) (i := 0) dX6_write_56 rfl) f_X6_32 dX6_write_57) (ec_iload_n (C := C_X6_write) (i := 1) dX6_write_60 rfl) dX6_write_61) rfl (fun _ => rfl) rfl) (ec_iload_n (C := C_X6_write) (i := 2) dX6_write_62 rfl) rfl (fun _ => rfl) rfl) (ec_iload_n (C := C_X6_write) (i := 3) dX6_write_63 rfl) rfl (fun _ => rfl) rfl) dX6_write_64)
  (sc_iret (C := C_X6_write) (p1 := 68) (ec_iconst (C := C_X6_write) (v := (1 : Int32)) dX6_write_67 rfl) dX6_write_68 rfl)))))
theorem s_X6_write : MS M_X6_write D_X6_write := ms_of b_X6_write (by decide +kernel) rfl rfl (fun _ => trivial)
/-- SmokeRoofs$Sheet.hasPart(II)Z -/
abbrev C_X2_hasPart : CX := (cX2_hasPart, RX2, 3, 0, 0, "hasPart", (some .boolean), fun _ => True)
abbrev M_X2_hasPart : MD := (yX2_hasPart, C_X2_hasPart)
theorem k_X2_hasPart : MOK M_X2_hasPart 2 := ⟨w_57, w_785, by decide +kernel, by decide +kernel, by decide +kernel⟩
theorem t_X2_hasPart : MVT M_X2_hasPart 2 2 := ⟨k_X2_hasPart, w_783, w_784, by decide, _, rfl, rfl⟩
def S_X2_hasPart : SD := (s_retz (e_b (b_and (b_and (b_and (e_un (fun (x : Int32) => decide (0 ≤ x)) (e_li 1)) (e_un (fun (x : Int32) => decide (0 ≤ x)) (e_li 2))) (e_bin (fun (x y : Int32) => decide (x ≤ y)) (e_li 1) (e_gi 2 1 (e_lr 0)))) (e_bin (fun (x y : Int32) => decide (x ≤ y)) (e_li 2) (e_bin (fun (x y : Int32) => x - y) (e_gi 2 1 (e_lr 0)) (e_li 1))))))
def D_X2_hasPart : MDen := m_den 3 S_X2_hasPart
set_option maxRecDepth 100000 in
set_option maxHeartbeats 4000000 in
theorem b_X2_hasPart : SC C_X2_hasPart 0 0 S_X2_hasPart := by
  unfold S_X2_hasPart
  exact (sc_zret (C := C_X2_hasPart) (p1 := 31) (ec_bm (C := C_X2_hasPart) (pT := 26) (bc_and (C := C_X2_hasPart) (p1 := 16) (bc_and (C := C_X2_hasPart) (p1 := 8) (bc_and (C := C_X2_hasPart) (p1 := 4) (bc_if_lt_F (C := C_X2_hasPart) (p2 := 1) (tgt := 30) (ec_iload_n (C := C_X2_hasPart) (i := 1) dX2_hasPart_0 rfl) dX2_hasPart_1 rfl) (bc_if_lt_F (C := C_X2_hasPart) (p2 := 5) (tgt := 30) (ec_iload_n (C := C_X2_hasPart) (i := 2) dX2_hasPart_4 rfl) dX2_hasPart_5 rfl)) (bc_icmp_gt_F (C := C_X2_hasPart) (p1 := 9) (p2 := 13) (tgt := 30) (ec_iload_n (C := C_X2_hasPart) (i := 1) dX2_hasPart_8 rfl) (ec_gi (C := C_X2_hasPart) (p1 := 10) (ec_aload_n (C := C_X2_hasPart) (i := 0) dX2_hasPart_9 rfl) f_X2_15 dX2_hasPart_10) dX2_hasPart_13 rfl)) (bc_icmp_gt_F (C := C_X2_hasPart) (p1 := 17) (p2 := 23) (tgt := 30) (ec_iload_n (C := C_X2_hasPart) (i := 2) dX2_hasPart_16 rfl) (ec_isub (C := C_X2_hasPart) (p1 := 21) (p2 := 22) (ec_gi (C := C_X2_hasPart) (p1 := 18) (ec_aload_n (C := C_X2_hasPart) (i := 0) dX2_hasPart_17 rfl) f_X2_15 dX2_hasPart_18) (ec_iload_n (C := C_X2_hasPart) (i := 1) dX2_hasPart_21 rfl) dX2_hasPart_22) dX2_hasPart_23 rfl)) dX2_hasPart_26 dX2_hasPart_27 rfl dX2_hasPart_30) dX2_hasPart_31 rfl)
theorem s_X2_hasPart : MS M_X2_hasPart D_X2_hasPart := ms_of b_X2_hasPart (by decide +kernel) rfl rfl (fun _ => trivial)
/-- SmokeRoofs.copy(IIIII)I -/
abbrev C_X6_copy : CX := (cX6_copy, RX6, 6, 2, 42, "copy", (some .int), fun _ => True)
abbrev M_X6_copy : MD := (yX6_copy, C_X6_copy)
theorem k_X6_copy : MOK M_X6_copy 5 := ⟨w_50, w_781, by decide +kernel, by decide +kernel, by decide +kernel⟩
theorem t_X6_copy : MVT M_X6_copy 5 6 := ⟨k_X6_copy, w_779, w_780, by decide, _, rfl, rfl⟩
def S_X6_copy : SD := (s_seq (s_if (b_or (b_not (b_of (e_call prI D_X6_isSheet 1 (a_snoc Value.int a_nil (e_li 1))))) (b_not (b_of (e_call prI D_X6_isSheet 1 (a_snoc Value.int a_nil (e_li 3)))))) (s_ret Value.int (e_call prI D_X6_finding 2 (a_recv 6 (a_snoc Value.int (a_snoc Value.ref a_nil (e_lr 0)) (e_c (0 : Int32)))))) s_skip)
  (s_seq (s_if (b_or (b_of (e_call prI D_X2_isMissing 1 (a_recv 2 (a_snoc Value.ref a_nil (e_ar 1 (e_gr 6 4 (e_lr 0)) (e_li 1)))))) (b_of (e_call prI D_X2_isMissing 1 (a_recv 2 (a_snoc Value.ref a_nil (e_ar 1 (e_gr 6 4 (e_lr 0)) (e_li 3))))))) (s_ret Value.int (e_call prI D_X6_finding 2 (a_recv 6 (a_snoc Value.int (a_snoc Value.ref a_nil (e_lr 0)) (e_c (5 : Int32)))))) s_skip)
  (s_seq (s_if (e_bin (fun (x y : Int32) => decide (x ≠ y)) (e_gi 2 0 (e_ar 1 (e_gr 6 4 (e_lr 0)) (e_li 1))) (e_gi 2 0 (e_ar 1 (e_gr 6 4 (e_lr 0)) (e_li 3)))) (s_ret Value.int (e_call prI D_X6_finding 2 (a_recv 6 (a_snoc Value.int (a_snoc Value.ref a_nil (e_lr 0)) (e_c (2 : Int32)))))) s_skip)
  (s_seq (s_if (b_or (b_not (b_of (e_call prI D_X2_hasPart 3 (a_recv 2 (a_snoc Value.int (a_snoc Value.int (a_snoc Value.ref a_nil (e_ar 1 (e_gr 6 4 (e_lr 0)) (e_li 1))) (e_li 2)) (e_li 5)))))) (b_not (b_of (e_call prI D_X2_hasPart 3 (a_recv 2 (a_snoc Value.int (a_snoc Value.int (a_snoc Value.ref a_nil (e_ar 1 (e_gr 6 4 (e_lr 0)) (e_li 3))) (e_li 4)) (e_li 5))))))) (s_ret Value.int (e_call prI D_X6_finding 2 (a_recv 6 (a_snoc Value.int (a_snoc Value.ref a_nil (e_lr 0)) (e_c (0 : Int32)))))) s_skip)
  (s_seq (s_cpy (e_gr 2 2 (e_ar 1 (e_gr 6 4 (e_lr 0)) (e_li 1))) (e_li 2) (e_gr 2 2 (e_ar 1 (e_gr 6 4 (e_lr 0)) (e_li 3))) (e_li 4) (e_li 5))
  (s_ret Value.int (e_li 5)))))))
def D_X6_copy : MDen := m_den 6 S_X6_copy
set_option maxRecDepth 100000 in
set_option maxHeartbeats 4000000 in
theorem b_X6_copy : SC C_X6_copy 0 0 S_X6_copy := by
  unfold S_X6_copy
  exact (sc_seq (C := C_X6_copy) (p1 := 20) (sc_if (C := C_X6_copy) (pT := 14) (pF := 20) (p2 := 20) (bc_or (C := C_X6_copy) (p1 := 7) (bc_not (C := C_X6_copy) (bc_of_F (C := C_X6_copy) (p2 := 4) (tgt := 14) (ec_callS (C := C_X6_copy) (m := 1) (p1 := 1) inj_I s_X6_isSheet t_X6_isSheet ⟨w_758, Nat.le_of_ble_eq_true rfl, Nat.le_of_ble_eq_true rfl⟩ (ac_snoc (C := C_X6_copy) (n := 0) (c := 1) (p1 := 0) (ac_nil (C := C_X6_copy)) (ec_iload_n (C := C_X6_copy) (i := 1) dX6_copy_0 rfl) rfl (fun _ => rfl) rfl) (Nat.le_of_ble_eq_true rfl) dX6_copy_1) dX6_copy_4 rfl)) (bc_not (C := C_X6_copy) (bc_of_T (C := C_X6_copy) (p2 := 11) (tgt := 20) (ec_callS (C := C_X6_copy) (m := 1) (p1 := 8) inj_I s_X6_isSheet t_X6_isSheet ⟨w_758, Nat.le_of_ble_eq_true rfl, Nat.le_of_ble_eq_true rfl⟩ (ac_snoc (C := C_X6_copy) (n := 0) (c := 1) (p1 := 7) (ac_nil (C := C_X6_copy)) (ec_iload_n (C := C_X6_copy) (i := 3) dX6_copy_7 rfl) rfl (fun _ => rfl) rfl) (Nat.le_of_ble_eq_true rfl) dX6_copy_8) dX6_copy_11 rfl))) (sc_iret (C := C_X6_copy) (p1 := 19) (ec_callV (C := C_X6_copy) (m := 2) (p1 := 16) inj_I s_X6_finding t_X6_finding ⟨w_295, Nat.le_of_ble_eq_true rfl, Nat.le_of_ble_eq_true rfl⟩ (ac_snoc (C := C_X6_copy) (n := 1) (c := 1) (p1 := 15) (ac_snoc (C := C_X6_copy) (n := 0) (c := 1) (p1 := 14) (ac_nil (C := C_X6_copy)) (ec_aload_n (C := C_X6_copy) (i := 0) dX6_copy_14 rfl) rfl (fun _ => rfl) rfl) (ec_iconst (C := C_X6_copy) (v := (0 : Int32)) dX6_copy_15 rfl) rfl (fun _ => rfl) rfl) (Nat.le_of_ble_eq_true rfl) dX6_copy_16) dX6_copy_19 rfl) sc_skip)
  (sc_seq (C := C_X6_copy) (p1 := 50) (sc_if (C := C_X6_copy) (pT := 44) (pF := 50) (p2 := 50) (bc_or (C := C_X6_copy) (p1 := 32) (bc_of_T (C := C_X6_copy) (p2 := 29) (tgt := 44) (ec_callV (C := C_X6_copy) (m := 1) (p1 := 26) inj_I s_X2_isMissing t_X2_isMissing ⟨w_770, Nat.le_of_ble_eq_true rfl, Nat.le_of_ble_eq_true rfl⟩ (ac_snoc (C := C_X6_copy) (n := 0) (c := 1) (p1 := 20) (ac_nil (C := C_X6_copy)) (ec_ar (C := C_X6_copy) (p1 := 24) (p2 := 25) (Nat.le_of_ble_eq_true rfl) (ec_gr (C := C_X6_copy) (p1 := 21) (ec_aload_n (C := C_X6_copy) (i := 0) dX6_copy_20 rfl) f_X6_32 dX6_copy_21) (ec_iload_n (C := C_X6_copy) (i := 1) dX6_copy_24 rfl) dX6_copy_25) rfl (fun _ => rfl) rfl) (Nat.le_of_ble_eq_true rfl) dX6_copy_26) dX6_copy_29 rfl) (bc_of_F (C := C_X6_copy) (p2 := 41) (tgt := 50) (ec_callV (C := C_X6_copy) (m := 1) (p1 := 38) inj_I s_X2_isMissing t_X2_isMissing ⟨w_770, Nat.le_of_ble_eq_true rfl, Nat.le_of_ble_eq_true rfl⟩ (ac_snoc (C := C_X6_copy) (n := 0) (c := 1) (p1 := 32) (ac_nil (C := C_X6_copy)) (ec_ar (C := C_X6_copy) (p1 := 36) (p2 := 37) (Nat.le_of_ble_eq_true rfl) (ec_gr (C := C_X6_copy) (p1 := 33) (ec_aload_n (C := C_X6_copy) (i := 0) dX6_copy_32 rfl) f_X6_32 dX6_copy_33) (ec_iload_n (C := C_X6_copy) (i := 3) dX6_copy_36 rfl) dX6_copy_37) rfl (fun _ => rfl) rfl) (Nat.le_of_ble_eq_true rfl) dX6_copy_38) dX6_copy_41 rfl)) (sc_iret (C := C_X6_copy) (p1 := 49) (ec_callV (C := C_X6_copy) (m := 2) (p1 := 46) inj_I s_X6_finding t_X6_finding ⟨w_295, Nat.le_of_ble_eq_true rfl, Nat.le_of_ble_eq_true rfl⟩ (ac_snoc (C := C_X6_copy) (n := 1) (c := 1) (p1 := 45) (ac_snoc (C := C_X6_copy) (n := 0) (c := 1) (p1 := 44) (ac_nil (C := C_X6_copy)) (ec_aload_n (C := C_X6_copy) (i := 0) dX6_copy_44 rfl) rfl (fun _ => rfl) rfl) (ec_iconst (C := C_X6_copy) (v := (5 : Int32)) dX6_copy_45 rfl) rfl (fun _ => rfl) rfl) (Nat.le_of_ble_eq_true rfl) dX6_copy_46) dX6_copy_49 rfl) sc_skip)
  (sc_seq (C := C_X6_copy) (p1 := 77) (sc_if (C := C_X6_copy) (pT := 71) (pF := 77) (p2 := 77) (bc_icmp_eq_F (C := C_X6_copy) (p1 := 59) (p2 := 68) (tgt := 77) (ec_gi (C := C_X6_copy) (p1 := 56) (ec_ar (C := C_X6_copy) (p1 := 54) (p2 := 55) (Nat.le_of_ble_eq_true rfl) (ec_gr (C := C_X6_copy) (p1 := 51) (ec_aload_n (C := C_X6_copy) (i := 0) dX6_copy_50 rfl) f_X6_32 dX6_copy_51) (ec_iload_n (C := C_X6_copy) (i := 1) dX6_copy_54 rfl) dX6_copy_55) f_X6_284 dX6_copy_56) (ec_gi (C := C_X6_copy) (p1 := 65) (ec_ar (C := C_X6_copy) (p1 := 63) (p2 := 64) (Nat.le_of_ble_eq_true rfl) (ec_gr (C := C_X6_copy) (p1 := 60) (ec_aload_n (C := C_X6_copy) (i := 0) dX6_copy_59 rfl) f_X6_32 dX6_copy_60) (ec_iload_n (C := C_X6_copy) (i := 3) dX6_copy_63 rfl) dX6_copy_64) f_X6_284 dX6_copy_65) dX6_copy_68 rfl) (sc_iret (C := C_X6_copy) (p1 := 76) (ec_callV (C := C_X6_copy) (m := 2) (p1 := 73) inj_I s_X6_finding t_X6_finding ⟨w_295, Nat.le_of_ble_eq_true rfl, Nat.le_of_ble_eq_true rfl⟩ (ac_snoc (C := C_X6_copy) (n := 1) (c := 1) (p1 := 72) (ac_snoc (C := C_X6_copy) (n := 0) (c := 1) (p1 := 71) (ac_nil (C := C_X6_copy)) (ec_aload_n (C := C_X6_copy) (i := 0) dX6_copy_71 rfl) rfl (fun _ => rfl) rfl) (ec_iconst (C := C_X6_copy) (v := (2 : Int32)) dX6_copy_72 rfl) rfl (fun _ => rfl) rfl) (Nat.le_of_ble_eq_true rfl) dX6_copy_73) dX6_copy_76 rfl) sc_skip)
  (sc_seq (C := C_X6_copy) (p1 := 114) (sc_if (C := C_X6_copy) (pT := 108) (pF := 114) (p2 := 114) (bc_or (C := C_X6_copy) (p1 := 92) (bc_not (C := C_X6_copy) (bc_of_F (C := C_X6_copy) (p2 := 89) (tgt := 108) (ec_callV (C := C_X6_copy) (m := 3) (p1 := 86) inj_I s_X2_hasPart t_X2_hasPart ⟨w_782, Nat.le_of_ble_eq_true rfl, Nat.le_of_ble_eq_true rfl⟩ (ac_snoc (C := C_X6_copy) (n := 2) (c := 1) (p1 := 84) (ac_snoc (C := C_X6_copy) (n := 1) (c := 1) (p1 := 83) (ac_snoc (C := C_X6_copy) (n := 0) (c := 1) (p1 := 77) (ac_nil (C := C_X6_copy)) (ec_ar (C := C_X6_copy) (p1 := 81) (p2 := 82) (Nat.le_of_ble_eq_true rfl) (ec_gr (C := C_X6_copy) (p1 := 78) (ec_aload_n (C := C_X6_copy) (i := 0) dX6_copy_77 rfl) f_X6_32 dX6_copy_78) (ec_iload_n (C := C_X6_copy) (i := 1) dX6_copy_81 rfl) dX6_copy_82) rfl (fun _ => rfl) rfl) (ec_iload_n (C := C_X6_copy) (i := 2) dX6_copy_83 rfl) rfl (fun _ => rfl) rfl) (ec_iload (C := C_X6_copy) dX6_copy_84) rfl (fun _ => rfl) rfl) (Nat.le_of_ble_eq_true rfl) dX6_copy_86) dX6_copy_89 rfl)) (bc_not (C := C_X6_copy) (bc_of_T (C := C_X6_copy) (p2 := 105) (tgt := 114) (ec_callV (C := C_X6_copy) (m := 3) (p1 := 102) inj_I s_X2_hasPart t_X2_hasPart ⟨w_782, Nat.le_of_ble_eq_true rfl, Nat.le_of_ble_eq_true rfl⟩ (ac_snoc (C := C_X6_copy) (n := 2) (c := 1) (p1 := 100) (ac_snoc (C := C_X6_copy) (n := 1) (c := 1) (p1 := 98) (ac_snoc (C := C_X6_copy) (n := 0) (c := 1) (p1 := 92) (ac_nil (C := C_X6_copy)) (ec_ar (C := C_X6_copy) (p1 := 96) (p2 := 97) (Nat.le_of_ble_eq_true rfl) (ec_gr (C := C_X6_copy) (p1 := 93) (ec_aload_n (C := C_X6_copy) (i := 0) dX6_copy_92 rfl) f_X6_32 dX6_copy_93) (ec_iload_n (C := C_X6_copy) (i := 3) dX6_copy_96 rfl) dX6_copy_97) rfl (fun _ => rfl) rfl) (ec_iload (C := C_X6_copy) dX6_copy_98) rfl (fun _ => rfl) rfl) (ec_iload (C := C_X6_copy) dX6_copy_100) rfl (fun _ => rfl) rfl) (Nat.le_of_ble_eq_true rfl) dX6_copy_102) dX6_copy_105 rfl))) (sc_iret (C := C_X6_copy) (p1 := 113) (ec_callV (C := C_X6_copy) (m := 2) (p1 := 110) inj_I s_X6_finding t_X6_finding ⟨w_295, Nat.le_of_ble_eq_true rfl, Nat.le_of_ble_eq_true rfl⟩ (ac_snoc (C := C_X6_copy) (n := 1) (c := 1) (p1 := 109) (ac_snoc (C := C_X6_copy) (n := 0) (c := 1) (p1 := 108) (ac_nil (C := C_X6_copy)) (ec_aload_n (C := C_X6_copy) (i := 0) dX6_copy_108 rfl) rfl (fun _ => rfl) rfl) (ec_iconst (C := C_X6_copy) (v := (0 : Int32)) dX6_copy_109 rfl) rfl (fun _ => rfl) rfl) (Nat.le_of_ble_eq_true rfl) dX6_copy_110) dX6_copy_113 rfl) sc_skip)
  (sc_seq (C := C_X6_copy) (p1 := 140) (sc_cpy (C := C_X6_copy) (q1 := 123) (q2 := 124) (q3 := 133) (q4 := 135) (q5 := 137) (ec_gr (C := C_X6_copy) (p1 := 120) (ec_ar (C := C_X6_copy) (p1 := 118) (p2 := 119) (Nat.le_of_ble_eq_true rfl) (ec_gr (C := C_X6_copy) (p1 := 115) (ec_aload_n (C := C_X6_copy) (i := 0) dX6_copy_114 rfl) f_X6_32 dX6_copy_115) (ec_iload_n (C := C_X6_copy) (i := 1) dX6_copy_118 rfl) dX6_copy_119) f_X6_290 dX6_copy_120) (ec_iload_n (C := C_X6_copy) (i := 2) dX6_copy_123 rfl) (ec_gr (C := C_X6_copy) (p1 := 130) (ec_ar (C := C_X6_copy) (p1 := 128) (p2 := 129) (Nat.le_of_ble_eq_true rfl) (ec_gr (C := C_X6_copy) (p1 := 125) (ec_aload_n (C := C_X6_copy) (i := 0) dX6_copy_124 rfl) f_X6_32 dX6_copy_125) (ec_iload_n (C := C_X6_copy) (i := 3) dX6_copy_128 rfl) dX6_copy_129) f_X6_290 dX6_copy_130) (ec_iload (C := C_X6_copy) dX6_copy_133) (ec_iload (C := C_X6_copy) dX6_copy_135) w_507 w_478 w_477 w_60 (by decide) dX6_copy_137)
  (sc_iret (C := C_X6_copy) (p1 := 142) (ec_iload (C := C_X6_copy) dX6_copy_140) dX6_copy_142 rfl))))))
theorem s_X6_copy : MS M_X6_copy D_X6_copy := ms_of b_X6_copy (by decide +kernel) rfl rfl (fun _ => trivial)
/-- SmokeRoofs.load(I)I -/
abbrev C_X6_load : CX := (cX6_load, RX6, 5, 2, 42, "load", (some .int), fun _ => True)
abbrev M_X6_load : MD := (yX6_load, C_X6_load)
theorem k_X6_load : MOK M_X6_load 1 := ⟨w_50, w_789, by decide +kernel, by decide +kernel, by decide +kernel⟩
theorem t_X6_load : MVT M_X6_load 1 6 := ⟨k_X6_load, w_787, w_788, by decide, _, rfl, rfl⟩
def WB_X6_load_1 : DE Bool := (e_bin (fun (x y : Int32) => decide (x < y)) (e_li 3) (e_li 2))
def WS_X6_load_1 : SD := (s_seq (s_sc 4 (s_seq (s_st Value.int 4 (e_ai (e_gr 2 2 (e_ar 1 (e_gr 6 4 (e_lr 0)) (e_li 1))) (e_li 3)))
  (s_seq (s_if (b_not (b_of (e_call prI D_X6_isIn 3 (a_snoc Value.int (a_snoc Value.int (a_snoc Value.int a_nil (e_li 4)) (e_c (0 : Int32))) (e_c (4 : Int32)))))) (s_ret Value.int (e_li 3)) s_skip)
  (s_as (e_gr 5 4 (e_gr 6 0 (e_lr 0))) (e_li 3) (e_li 4)))))
  (s_inc 3 (1)))
def W_X6_load_1 : SD := s_while WB_X6_load_1 WS_X6_load_1 FU
set_option maxRecDepth 100000 in
set_option maxHeartbeats 4000000 in
theorem bw_X6_load_1 : SC C_X6_load 48 95 W_X6_load_1 := by
  unfold W_X6_load_1 WB_X6_load_1 WS_X6_load_1
  exact (sc_while (C := C_X6_load) (pB := 53) (pE := 95) (bc_icmp_ge_F (C := C_X6_load) (p1 := 49) (p2 := 50) (tgt := 95) (ec_iload_n (C := C_X6_load) (i := 3) dX6_load_48 rfl) (ec_iload_n (C := C_X6_load) (i := 2) dX6_load_49 rfl) dX6_load_50 rfl)
  (sc_goto (C := C_X6_load) (p1 := 92) (sc_seq (C := C_X6_load) (p1 := 89) (sc_sc (C := C_X6_load) (sc_seq (C := C_X6_load) (p1 := 66) (sc_istore (C := C_X6_load) (p1 := 64) (ec_ai (C := C_X6_load) (p1 := 62) (p2 := 63) (ec_gr (C := C_X6_load) (p1 := 59) (ec_ar (C := C_X6_load) (p1 := 57) (p2 := 58) (Nat.le_of_ble_eq_true rfl) (ec_gr (C := C_X6_load) (p1 := 54) (ec_aload_n (C := C_X6_load) (i := 0) dX6_load_53 rfl) f_X6_32 dX6_load_54) (ec_iload_n (C := C_X6_load) (i := 1) dX6_load_57 rfl) dX6_load_58) f_X6_290 dX6_load_59) (ec_iload_n (C := C_X6_load) (i := 3) dX6_load_62 rfl) dX6_load_63) dX6_load_64 (Nat.le_of_ble_eq_true rfl))
  (sc_seq (C := C_X6_load) (p1 := 78) (sc_if (C := C_X6_load) (pT := 76) (pF := 78) (p2 := 78) (bc_not (C := C_X6_load) (bc_of_T (C := C_X6_load) (p2 := 73) (tgt := 78) (ec_callS (C := C_X6_load) (m := 3) (p1 := 70) inj_I s_X6_isIn t_X6_isIn ⟨w_292, Nat.le_of_ble_eq_true rfl, Nat.le_of_ble_eq_true rfl⟩ (ac_snoc (C := C_X6_load) (n := 2) (c := 1) (p1 := 69) (ac_snoc (C := C_X6_load) (n := 1) (c := 1) (p1 := 68) (ac_snoc (C := C_X6_load) (n := 0) (c := 1) (p1 := 66) (ac_nil (C := C_X6_load)) (ec_iload (C := C_X6_load) dX6_load_66) rfl (fun _ => rfl) rfl) (ec_iconst (C := C_X6_load) (v := (0 : Int32)) dX6_load_68 rfl) rfl (fun _ => rfl) rfl) (ec_iconst (C := C_X6_load) (v := (4 : Int32)) dX6_load_69 rfl) rfl (fun _ => rfl) rfl) (Nat.le_of_ble_eq_true rfl) dX6_load_70) dX6_load_73 rfl)) (sc_iret (C := C_X6_load) (p1 := 77) (ec_iload_n (C := C_X6_load) (i := 3) dX6_load_76 rfl) dX6_load_77 rfl) sc_skip)
  (sc_as (C := C_X6_load) (p1 := 85) (p2 := 86) (p3 := 88) (ec_gr (C := C_X6_load) (p1 := 82) (ec_gr (C := C_X6_load) (p1 := 79) (ec_aload_n (C := C_X6_load) (i := 0) dX6_load_78 rfl) f_X6_10 dX6_load_79) f_X6_85 dX6_load_82) (ec_iload_n (C := C_X6_load) (i := 3) dX6_load_85 rfl) (ec_iload (C := C_X6_load) dX6_load_86) dX6_load_88))))
  (sc_iinc (C := C_X6_load) (v := (1)) dX6_load_89 rfl (Nat.le_of_ble_eq_true rfl))) dX6_load_92 rfl) FU)
def S_X6_load : SD := (s_seq (s_if (b_not (b_of (e_call prI D_X6_isSheet 1 (a_snoc Value.int a_nil (e_li 1))))) (s_ret Value.int (e_call prI D_X6_finding 2 (a_recv 6 (a_snoc Value.int (a_snoc Value.ref a_nil (e_lr 0)) (e_c (0 : Int32)))))) s_skip)
  (s_seq (s_if (b_of (e_call prI D_X2_isMissing 1 (a_recv 2 (a_snoc Value.ref a_nil (e_ar 1 (e_gr 6 4 (e_lr 0)) (e_li 1)))))) (s_ret Value.int (e_call prI D_X6_finding 2 (a_recv 6 (a_snoc Value.int (a_snoc Value.ref a_nil (e_lr 0)) (e_c (5 : Int32)))))) s_skip)
  (s_seq (s_st Value.int 2 (e_call prI D_J9_min_7cf53 2 (a_snoc Value.int (a_snoc Value.int a_nil (e_gi 2 1 (e_ar 1 (e_gr 6 4 (e_lr 0)) (e_li 1)))) (e_c (24 : Int32)))))
  (s_seq (s_sc 3 (s_seq (s_st Value.int 3 (e_c (0 : Int32)))
  W_X6_load_1))
  (s_ret Value.int (e_li 2))))))
def D_X6_load : MDen := m_den 5 S_X6_load
set_option maxRecDepth 100000 in
set_option maxHeartbeats 4000000 in
theorem b_X6_load : SC C_X6_load 0 0 S_X6_load := by
  unfold S_X6_load
  exact (sc_seq (C := C_X6_load) (p1 := 13) (sc_if (C := C_X6_load) (pT := 7) (pF := 13) (p2 := 13) (bc_not (C := C_X6_load) (bc_of_T (C := C_X6_load) (p2 := 4) (tgt := 13) (ec_callS (C := C_X6_load) (m := 1) (p1 := 1) inj_I s_X6_isSheet t_X6_isSheet ⟨w_758, Nat.le_of_ble_eq_true rfl, Nat.le_of_ble_eq_true rfl⟩ (ac_snoc (C := C_X6_load) (n := 0) (c := 1) (p1 := 0) (ac_nil (C := C_X6_load)) (ec_iload_n (C := C_X6_load) (i := 1) dX6_load_0 rfl) rfl (fun _ => rfl) rfl) (Nat.le_of_ble_eq_true rfl) dX6_load_1) dX6_load_4 rfl)) (sc_iret (C := C_X6_load) (p1 := 12) (ec_callV (C := C_X6_load) (m := 2) (p1 := 9) inj_I s_X6_finding t_X6_finding ⟨w_295, Nat.le_of_ble_eq_true rfl, Nat.le_of_ble_eq_true rfl⟩ (ac_snoc (C := C_X6_load) (n := 1) (c := 1) (p1 := 8) (ac_snoc (C := C_X6_load) (n := 0) (c := 1) (p1 := 7) (ac_nil (C := C_X6_load)) (ec_aload_n (C := C_X6_load) (i := 0) dX6_load_7 rfl) rfl (fun _ => rfl) rfl) (ec_iconst (C := C_X6_load) (v := (0 : Int32)) dX6_load_8 rfl) rfl (fun _ => rfl) rfl) (Nat.le_of_ble_eq_true rfl) dX6_load_9) dX6_load_12 rfl) sc_skip)
  (sc_seq (C := C_X6_load) (p1 := 31) (sc_if (C := C_X6_load) (pT := 25) (pF := 31) (p2 := 31) (bc_of_F (C := C_X6_load) (p2 := 22) (tgt := 31) (ec_callV (C := C_X6_load) (m := 1) (p1 := 19) inj_I s_X2_isMissing t_X2_isMissing ⟨w_770, Nat.le_of_ble_eq_true rfl, Nat.le_of_ble_eq_true rfl⟩ (ac_snoc (C := C_X6_load) (n := 0) (c := 1) (p1 := 13) (ac_nil (C := C_X6_load)) (ec_ar (C := C_X6_load) (p1 := 17) (p2 := 18) (Nat.le_of_ble_eq_true rfl) (ec_gr (C := C_X6_load) (p1 := 14) (ec_aload_n (C := C_X6_load) (i := 0) dX6_load_13 rfl) f_X6_32 dX6_load_14) (ec_iload_n (C := C_X6_load) (i := 1) dX6_load_17 rfl) dX6_load_18) rfl (fun _ => rfl) rfl) (Nat.le_of_ble_eq_true rfl) dX6_load_19) dX6_load_22 rfl) (sc_iret (C := C_X6_load) (p1 := 30) (ec_callV (C := C_X6_load) (m := 2) (p1 := 27) inj_I s_X6_finding t_X6_finding ⟨w_295, Nat.le_of_ble_eq_true rfl, Nat.le_of_ble_eq_true rfl⟩ (ac_snoc (C := C_X6_load) (n := 1) (c := 1) (p1 := 26) (ac_snoc (C := C_X6_load) (n := 0) (c := 1) (p1 := 25) (ac_nil (C := C_X6_load)) (ec_aload_n (C := C_X6_load) (i := 0) dX6_load_25 rfl) rfl (fun _ => rfl) rfl) (ec_iconst (C := C_X6_load) (v := (5 : Int32)) dX6_load_26 rfl) rfl (fun _ => rfl) rfl) (Nat.le_of_ble_eq_true rfl) dX6_load_27) dX6_load_30 rfl) sc_skip)
  (sc_seq (C := C_X6_load) (p1 := 46) (sc_istore_n (C := C_X6_load) (p1 := 45) (i := 2) (ec_callS (C := C_X6_load) (m := 2) (p1 := 42) inj_I s_J9_min_7cf53 t_J9_min_7cf53 ⟨w_790, Nat.le_of_ble_eq_true rfl, Nat.le_of_ble_eq_true rfl⟩ (ac_snoc (C := C_X6_load) (n := 1) (c := 1) (p1 := 40) (ac_snoc (C := C_X6_load) (n := 0) (c := 1) (p1 := 31) (ac_nil (C := C_X6_load)) (ec_gi (C := C_X6_load) (p1 := 37) (ec_ar (C := C_X6_load) (p1 := 35) (p2 := 36) (Nat.le_of_ble_eq_true rfl) (ec_gr (C := C_X6_load) (p1 := 32) (ec_aload_n (C := C_X6_load) (i := 0) dX6_load_31 rfl) f_X6_32 dX6_load_32) (ec_iload_n (C := C_X6_load) (i := 1) dX6_load_35 rfl) dX6_load_36) f_X6_277 dX6_load_37) rfl (fun _ => rfl) rfl) (ec_bipush (C := C_X6_load) (v := (24 : Int32)) dX6_load_40 rfl) rfl (fun _ => rfl) rfl) (Nat.le_of_ble_eq_true rfl) dX6_load_42) dX6_load_45 rfl (Nat.le_of_ble_eq_true rfl))
  (sc_seq (C := C_X6_load) (p1 := 95) (sc_sc (C := C_X6_load) (sc_seq (C := C_X6_load) (p1 := 48) (sc_istore_n (C := C_X6_load) (p1 := 47) (i := 3) (ec_iconst (C := C_X6_load) (v := (0 : Int32)) dX6_load_46 rfl) dX6_load_47 rfl (Nat.le_of_ble_eq_true rfl))
  bw_X6_load_1))
  (sc_iret (C := C_X6_load) (p1 := 96) (ec_iload_n (C := C_X6_load) (i := 2) dX6_load_95 rfl) dX6_load_96 rfl)))))
theorem s_X6_load : MS M_X6_load D_X6_load := ms_of b_X6_load (by decide +kernel) rfl rfl (fun _ => trivial)
/-- SmokeRoofs.playByHour(I)V -/
abbrev C_X6_playByHour : CX := (cX6_playByHour, RX6, 5, 5, 117, "playByHour", none, fun _ => True)
abbrev M_X6_playByHour : MD := (yX6_playByHour, C_X6_playByHour)
theorem k_X6_playByHour : MOK M_X6_playByHour 1 := ⟨w_50, w_798, by decide +kernel, by decide +kernel, by decide +kernel⟩
theorem t_X6_playByHour : MVT M_X6_playByHour 1 6 := ⟨k_X6_playByHour, w_797, w_13, by decide, _, rfl, rfl⟩
def WB_X6_playByHour_1 : DE Bool := (e_bin (fun (x y : Int32) => decide (x < y)) (e_li 3) (e_li 1))
def WS_X6_playByHour_1 : SD := (s_seq (s_sc 4 (s_seq (s_st Value.int 4 (e_gi 3 0 (e_gr 6 7 (e_lr 0))))
  (s_seq (s_call D_X5_playHours 5 (a_recv 5 (a_snoc Value.ref (a_snoc Value.int (a_snoc Value.int (a_snoc Value.ref (a_snoc Value.ref a_nil (e_gr 6 0 (e_lr 0))) (e_gr 6 6 (e_lr 0))) (e_li 3)) (e_c (1 : Int32))) (e_gr 6 7 (e_lr 0)))))
  (s_aop (fun (x y : Int32) => x + y) (e_gr 6 11 (e_lr 0)) (e_li 3) (e_bin (fun (x y : Int32) => x - y) (e_gi 3 0 (e_gr 6 7 (e_lr 0))) (e_li 4))))))
  (s_inc 3 (1)))
def W_X6_playByHour_1 : SD := s_while WB_X6_playByHour_1 WS_X6_playByHour_1 FU
set_option maxRecDepth 100000 in
set_option maxHeartbeats 4000000 in
theorem bw_X6_playByHour_1 : SC C_X6_playByHour 46 102 W_X6_playByHour_1 := by
  unfold W_X6_playByHour_1 WB_X6_playByHour_1 WS_X6_playByHour_1
  exact (sc_while (C := C_X6_playByHour) (pB := 51) (pE := 102) (bc_icmp_ge_F (C := C_X6_playByHour) (p1 := 47) (p2 := 48) (tgt := 102) (ec_iload_n (C := C_X6_playByHour) (i := 3) dX6_playByHour_46 rfl) (ec_iload_n (C := C_X6_playByHour) (i := 1) dX6_playByHour_47 rfl) dX6_playByHour_48 rfl)
  (sc_goto (C := C_X6_playByHour) (p1 := 99) (sc_seq (C := C_X6_playByHour) (p1 := 96) (sc_sc (C := C_X6_playByHour) (sc_seq (C := C_X6_playByHour) (p1 := 60) (sc_istore (C := C_X6_playByHour) (p1 := 58) (ec_gi (C := C_X6_playByHour) (p1 := 55) (ec_gr (C := C_X6_playByHour) (p1 := 52) (ec_aload_n (C := C_X6_playByHour) (i := 0) dX6_playByHour_51 rfl) f_X6_50 dX6_playByHour_52) f_X6_188 dX6_playByHour_55) dX6_playByHour_58 (Nat.le_of_ble_eq_true rfl))
  (sc_seq (C := C_X6_playByHour) (p1 := 77) (sc_callV (C := C_X6_playByHour) (m := 5) (p1 := 74) s_X5_playHours t_X5_playHours ⟨w_427, Nat.le_of_ble_eq_true rfl, Nat.le_of_ble_eq_true rfl⟩ (ac_snoc (C := C_X6_playByHour) (n := 4) (c := 1) (p1 := 70) (ac_snoc (C := C_X6_playByHour) (n := 3) (c := 1) (p1 := 69) (ac_snoc (C := C_X6_playByHour) (n := 2) (c := 1) (p1 := 68) (ac_snoc (C := C_X6_playByHour) (n := 1) (c := 1) (p1 := 64) (ac_snoc (C := C_X6_playByHour) (n := 0) (c := 1) (p1 := 60) (ac_nil (C := C_X6_playByHour)) (ec_gr (C := C_X6_playByHour) (p1 := 61) (ec_aload_n (C := C_X6_playByHour) (i := 0) dX6_playByHour_60 rfl) f_X6_10 dX6_playByHour_61) rfl (fun _ => rfl) rfl) (ec_gr (C := C_X6_playByHour) (p1 := 65) (ec_aload_n (C := C_X6_playByHour) (i := 0) dX6_playByHour_64 rfl) f_X6_43 dX6_playByHour_65) rfl (fun _ => rfl) rfl) (ec_iload_n (C := C_X6_playByHour) (i := 3) dX6_playByHour_68 rfl) rfl (fun _ => rfl) rfl) (ec_iconst (C := C_X6_playByHour) (v := (1 : Int32)) dX6_playByHour_69 rfl) rfl (fun _ => rfl) rfl) (ec_gr (C := C_X6_playByHour) (p1 := 71) (ec_aload_n (C := C_X6_playByHour) (i := 0) dX6_playByHour_70 rfl) f_X6_50 dX6_playByHour_71) rfl (fun _ => rfl) rfl) dX6_playByHour_74)
  (sc_aop_iadd (C := C_X6_playByHour) (p1 := 81) (p2 := 82) (p3 := 94) (ec_gr (C := C_X6_playByHour) (p1 := 78) (ec_aload_n (C := C_X6_playByHour) (i := 0) dX6_playByHour_77 rfl) f_X6_63 dX6_playByHour_78) (ec_iload_n (C := C_X6_playByHour) (i := 3) dX6_playByHour_81 rfl) dX6_playByHour_82 dX6_playByHour_83 (ec_isub (C := C_X6_playByHour) (p1 := 91) (p2 := 93) (ec_gi (C := C_X6_playByHour) (p1 := 88) (ec_gr (C := C_X6_playByHour) (p1 := 85) (ec_aload_n (C := C_X6_playByHour) (i := 0) dX6_playByHour_84 rfl) f_X6_50 dX6_playByHour_85) f_X6_188 dX6_playByHour_88) (ec_iload (C := C_X6_playByHour) dX6_playByHour_91) dX6_playByHour_93) dX6_playByHour_94 dX6_playByHour_95))))
  (sc_iinc (C := C_X6_playByHour) (v := (1)) dX6_playByHour_96 rfl (Nat.le_of_ble_eq_true rfl))) dX6_playByHour_99 rfl) FU)
def WB_X6_playByHour_2 : DE Bool := (e_bin (fun (x y : Int32) => decide (x < y)) (e_li 2) (e_gi 5 2 (e_gr 6 0 (e_lr 0))))
def WS_X6_playByHour_2 : SD := (s_seq (s_seq (s_call D_X0_take 2 (a_recv 0 (a_snoc Value.ref (a_snoc Value.ref a_nil (e_gr 6 6 (e_lr 0))) (e_ar 0 (e_gr 5 7 (e_gr 6 0 (e_lr 0))) (e_li 2)))))
  (s_sc 3 (s_seq (s_st Value.int 3 (e_c (0 : Int32)))
  W_X6_playByHour_1)))
  (s_inc 2 (1)))
def W_X6_playByHour_2 : SD := s_while WB_X6_playByHour_2 WS_X6_playByHour_2 FU
set_option maxRecDepth 100000 in
set_option maxHeartbeats 4000000 in
theorem bw_X6_playByHour_2 : SC C_X6_playByHour 17 108 W_X6_playByHour_2 := by
  unfold W_X6_playByHour_2 WB_X6_playByHour_2 WS_X6_playByHour_2
  exact (sc_while (C := C_X6_playByHour) (pB := 28) (pE := 108) (bc_icmp_ge_F (C := C_X6_playByHour) (p1 := 18) (p2 := 25) (tgt := 108) (ec_iload_n (C := C_X6_playByHour) (i := 2) dX6_playByHour_17 rfl) (ec_gi (C := C_X6_playByHour) (p1 := 22) (ec_gr (C := C_X6_playByHour) (p1 := 19) (ec_aload_n (C := C_X6_playByHour) (i := 0) dX6_playByHour_18 rfl) f_X6_10 dX6_playByHour_19) f_X6_178 dX6_playByHour_22) dX6_playByHour_25 rfl)
  (sc_goto (C := C_X6_playByHour) (p1 := 105) (sc_seq (C := C_X6_playByHour) (p1 := 102) (sc_seq (C := C_X6_playByHour) (p1 := 44) (sc_callV (C := C_X6_playByHour) (m := 2) (p1 := 41) s_X0_take t_X0_take ⟨w_472, Nat.le_of_ble_eq_true rfl, Nat.le_of_ble_eq_true rfl⟩ (ac_snoc (C := C_X6_playByHour) (n := 1) (c := 1) (p1 := 32) (ac_snoc (C := C_X6_playByHour) (n := 0) (c := 1) (p1 := 28) (ac_nil (C := C_X6_playByHour)) (ec_gr (C := C_X6_playByHour) (p1 := 29) (ec_aload_n (C := C_X6_playByHour) (i := 0) dX6_playByHour_28 rfl) f_X6_43 dX6_playByHour_29) rfl (fun _ => rfl) rfl) (ec_ar (C := C_X6_playByHour) (p1 := 39) (p2 := 40) (Nat.le_of_ble_eq_true rfl) (ec_gr (C := C_X6_playByHour) (p1 := 36) (ec_gr (C := C_X6_playByHour) (p1 := 33) (ec_aload_n (C := C_X6_playByHour) (i := 0) dX6_playByHour_32 rfl) f_X6_10 dX6_playByHour_33) f_X6_105 dX6_playByHour_36) (ec_iload_n (C := C_X6_playByHour) (i := 2) dX6_playByHour_39 rfl) dX6_playByHour_40) rfl (fun _ => rfl) rfl) dX6_playByHour_41)
  (sc_sc (C := C_X6_playByHour) (sc_seq (C := C_X6_playByHour) (p1 := 46) (sc_istore_n (C := C_X6_playByHour) (p1 := 45) (i := 3) (ec_iconst (C := C_X6_playByHour) (v := (0 : Int32)) dX6_playByHour_44 rfl) dX6_playByHour_45 rfl (Nat.le_of_ble_eq_true rfl))
  bw_X6_playByHour_1)))
  (sc_iinc (C := C_X6_playByHour) (v := (1)) dX6_playByHour_102 rfl (Nat.le_of_ble_eq_true rfl))) dX6_playByHour_105 rfl) FU)
def S_X6_playByHour : SD := (s_seq (s_seq (s_call D_J7_fill_53178 2 (a_snoc Value.int (a_snoc Value.ref a_nil (e_gr 6 11 (e_lr 0))) (e_c (0 : Int32))))
  (s_seq (s_call D_X3_begin 1 (a_recv 3 (a_snoc Value.ref a_nil (e_gr 6 7 (e_lr 0)))))
  (s_sc 2 (s_seq (s_st Value.int 2 (e_c (0 : Int32)))
  W_X6_playByHour_2))))
  s_retv)
def D_X6_playByHour : MDen := m_den 5 S_X6_playByHour
set_option maxRecDepth 100000 in
set_option maxHeartbeats 4000000 in
theorem b_X6_playByHour : SC C_X6_playByHour 0 0 S_X6_playByHour := by
  unfold S_X6_playByHour
  exact (sc_seq (C := C_X6_playByHour) (p1 := 108) (sc_seq (C := C_X6_playByHour) (p1 := 8) (sc_callS (C := C_X6_playByHour) (m := 2) (p1 := 5) s_J7_fill_53178 t_J7_fill_53178 ⟨w_520, Nat.le_of_ble_eq_true rfl, Nat.le_of_ble_eq_true rfl⟩ (ac_snoc (C := C_X6_playByHour) (n := 1) (c := 1) (p1 := 4) (ac_snoc (C := C_X6_playByHour) (n := 0) (c := 1) (p1 := 0) (ac_nil (C := C_X6_playByHour)) (ec_gr (C := C_X6_playByHour) (p1 := 1) (ec_aload_n (C := C_X6_playByHour) (i := 0) dX6_playByHour_0 rfl) f_X6_63 dX6_playByHour_1) rfl (fun _ => rfl) rfl) (ec_iconst (C := C_X6_playByHour) (v := (0 : Int32)) dX6_playByHour_4 rfl) rfl (fun _ => rfl) rfl) dX6_playByHour_5)
  (sc_seq (C := C_X6_playByHour) (p1 := 15) (sc_callV (C := C_X6_playByHour) (m := 1) (p1 := 12) s_X3_begin t_X3_begin ⟨w_422, Nat.le_of_ble_eq_true rfl, Nat.le_of_ble_eq_true rfl⟩ (ac_snoc (C := C_X6_playByHour) (n := 0) (c := 1) (p1 := 8) (ac_nil (C := C_X6_playByHour)) (ec_gr (C := C_X6_playByHour) (p1 := 9) (ec_aload_n (C := C_X6_playByHour) (i := 0) dX6_playByHour_8 rfl) f_X6_50 dX6_playByHour_9) rfl (fun _ => rfl) rfl) dX6_playByHour_12)
  (sc_sc (C := C_X6_playByHour) (sc_seq (C := C_X6_playByHour) (p1 := 17) (sc_istore_n (C := C_X6_playByHour) (p1 := 16) (i := 2) (ec_iconst (C := C_X6_playByHour) (v := (0 : Int32)) dX6_playByHour_15 rfl) dX6_playByHour_16 rfl (Nat.le_of_ble_eq_true rfl))
  bw_X6_playByHour_2))))
  (sc_vret (C := C_X6_playByHour) dX6_playByHour_108 rfl))
theorem s_X6_playByHour : MS M_X6_playByHour D_X6_playByHour := ms_of b_X6_playByHour (by decide +kernel) rfl rfl (fun _ => trivial)
/-- SmokeRoofs.judge(I)I -/
abbrev C_X6_judge : CX := (cX6_judge, RX6, 4, 6, 141, "judge", (some .int), fun _ => True)
abbrev M_X6_judge : MD := (yX6_judge, C_X6_judge)
theorem k_X6_judge : MOK M_X6_judge 1 := ⟨w_50, w_794, by decide +kernel, by decide +kernel, by decide +kernel⟩
theorem t_X6_judge : MVT M_X6_judge 1 6 := ⟨k_X6_judge, w_792, w_793, by decide, _, rfl, rfl⟩
def WB_X6_judge_1 : DE Bool := (e_bin (fun (x y : Int32) => decide (x < y)) (e_li 3) (e_li 2))
def WS_X6_judge_1 : SD := (s_seq (s_if (e_bin (fun (x y : Int32) => decide (x ≠ y)) (e_ai (e_gr 2 2 (e_ar 1 (e_gr 6 4 (e_lr 0)) (e_li 1))) (e_li 3)) (e_ai (e_gr 6 11 (e_lr 0)) (e_li 3))) (s_ret Value.int (e_bin (fun (x y : Int32) => x + y) (e_c (1 : Int32)) (e_li 3))) s_skip)
  (s_inc 3 (1)))
def W_X6_judge_1 : SD := s_while WB_X6_judge_1 WS_X6_judge_1 FU
set_option maxRecDepth 100000 in
set_option maxHeartbeats 4000000 in
theorem bw_X6_judge_1 : SC C_X6_judge 62 97 W_X6_judge_1 := by
  unfold W_X6_judge_1 WB_X6_judge_1 WS_X6_judge_1
  exact (sc_while (C := C_X6_judge) (pB := 67) (pE := 97) (bc_icmp_ge_F (C := C_X6_judge) (p1 := 63) (p2 := 64) (tgt := 97) (ec_iload_n (C := C_X6_judge) (i := 3) dX6_judge_62 rfl) (ec_iload_n (C := C_X6_judge) (i := 2) dX6_judge_63 rfl) dX6_judge_64 rfl)
  (sc_goto (C := C_X6_judge) (p1 := 94) (sc_seq (C := C_X6_judge) (p1 := 91) (sc_if (C := C_X6_judge) (pT := 87) (pF := 91) (p2 := 91) (bc_icmp_eq_F (C := C_X6_judge) (p1 := 78) (p2 := 84) (tgt := 91) (ec_ai (C := C_X6_judge) (p1 := 76) (p2 := 77) (ec_gr (C := C_X6_judge) (p1 := 73) (ec_ar (C := C_X6_judge) (p1 := 71) (p2 := 72) (Nat.le_of_ble_eq_true rfl) (ec_gr (C := C_X6_judge) (p1 := 68) (ec_aload_n (C := C_X6_judge) (i := 0) dX6_judge_67 rfl) f_X6_32 dX6_judge_68) (ec_iload_n (C := C_X6_judge) (i := 1) dX6_judge_71 rfl) dX6_judge_72) f_X6_290 dX6_judge_73) (ec_iload_n (C := C_X6_judge) (i := 3) dX6_judge_76 rfl) dX6_judge_77) (ec_ai (C := C_X6_judge) (p1 := 82) (p2 := 83) (ec_gr (C := C_X6_judge) (p1 := 79) (ec_aload_n (C := C_X6_judge) (i := 0) dX6_judge_78 rfl) f_X6_63 dX6_judge_79) (ec_iload_n (C := C_X6_judge) (i := 3) dX6_judge_82 rfl) dX6_judge_83) dX6_judge_84 rfl) (sc_iret (C := C_X6_judge) (p1 := 90) (ec_iadd (C := C_X6_judge) (p1 := 88) (p2 := 89) (ec_iconst (C := C_X6_judge) (v := (1 : Int32)) dX6_judge_87 rfl) (ec_iload_n (C := C_X6_judge) (i := 3) dX6_judge_88 rfl) dX6_judge_89) dX6_judge_90 rfl) sc_skip)
  (sc_iinc (C := C_X6_judge) (v := (1)) dX6_judge_91 rfl (Nat.le_of_ble_eq_true rfl))) dX6_judge_94 rfl) FU)
def S_X6_judge : SD := (s_seq (s_if (b_not (b_of (e_call prI D_X6_isSheet 1 (a_snoc Value.int a_nil (e_li 1))))) (s_ret Value.int (e_call prI D_X6_finding 2 (a_recv 6 (a_snoc Value.int (a_snoc Value.ref a_nil (e_lr 0)) (e_c (0 : Int32)))))) s_skip)
  (s_seq (s_if (b_of (e_call prI D_X2_isMissing 1 (a_recv 2 (a_snoc Value.ref a_nil (e_ar 1 (e_gr 6 4 (e_lr 0)) (e_li 1)))))) (s_ret Value.int (e_call prI D_X6_finding 2 (a_recv 6 (a_snoc Value.int (a_snoc Value.ref a_nil (e_lr 0)) (e_c (5 : Int32)))))) s_skip)
  (s_seq (s_st Value.int 2 (e_gi 2 1 (e_ar 1 (e_gr 6 4 (e_lr 0)) (e_li 1))))
  (s_seq (s_if (b_not (b_of (e_call prI D_X6_hasHours 2 (a_recv 6 (a_snoc Value.int (a_snoc Value.ref a_nil (e_lr 0)) (e_li 2)))))) (s_ret Value.int (e_call prI D_X6_finding 2 (a_recv 6 (a_snoc Value.int (a_snoc Value.ref a_nil (e_lr 0)) (e_c (4 : Int32)))))) s_skip)
  (s_seq (s_call D_X6_playByHour 2 (a_recv 6 (a_snoc Value.int (a_snoc Value.ref a_nil (e_lr 0)) (e_li 2))))
  (s_seq (s_sc 3 (s_seq (s_st Value.int 3 (e_c (0 : Int32)))
  W_X6_judge_1))
  (s_ret Value.int (e_c (0 : Int32)))))))))
def D_X6_judge : MDen := m_den 4 S_X6_judge
set_option maxRecDepth 100000 in
set_option maxHeartbeats 4000000 in
theorem b_X6_judge : SC C_X6_judge 0 0 S_X6_judge := by
  unfold S_X6_judge
  exact (sc_seq (C := C_X6_judge) (p1 := 13) (sc_if (C := C_X6_judge) (pT := 7) (pF := 13) (p2 := 13) (bc_not (C := C_X6_judge) (bc_of_T (C := C_X6_judge) (p2 := 4) (tgt := 13) (ec_callS (C := C_X6_judge) (m := 1) (p1 := 1) inj_I s_X6_isSheet t_X6_isSheet ⟨w_758, Nat.le_of_ble_eq_true rfl, Nat.le_of_ble_eq_true rfl⟩ (ac_snoc (C := C_X6_judge) (n := 0) (c := 1) (p1 := 0) (ac_nil (C := C_X6_judge)) (ec_iload_n (C := C_X6_judge) (i := 1) dX6_judge_0 rfl) rfl (fun _ => rfl) rfl) (Nat.le_of_ble_eq_true rfl) dX6_judge_1) dX6_judge_4 rfl)) (sc_iret (C := C_X6_judge) (p1 := 12) (ec_callV (C := C_X6_judge) (m := 2) (p1 := 9) inj_I s_X6_finding t_X6_finding ⟨w_295, Nat.le_of_ble_eq_true rfl, Nat.le_of_ble_eq_true rfl⟩ (ac_snoc (C := C_X6_judge) (n := 1) (c := 1) (p1 := 8) (ac_snoc (C := C_X6_judge) (n := 0) (c := 1) (p1 := 7) (ac_nil (C := C_X6_judge)) (ec_aload_n (C := C_X6_judge) (i := 0) dX6_judge_7 rfl) rfl (fun _ => rfl) rfl) (ec_iconst (C := C_X6_judge) (v := (0 : Int32)) dX6_judge_8 rfl) rfl (fun _ => rfl) rfl) (Nat.le_of_ble_eq_true rfl) dX6_judge_9) dX6_judge_12 rfl) sc_skip)
  (sc_seq (C := C_X6_judge) (p1 := 31) (sc_if (C := C_X6_judge) (pT := 25) (pF := 31) (p2 := 31) (bc_of_F (C := C_X6_judge) (p2 := 22) (tgt := 31) (ec_callV (C := C_X6_judge) (m := 1) (p1 := 19) inj_I s_X2_isMissing t_X2_isMissing ⟨w_770, Nat.le_of_ble_eq_true rfl, Nat.le_of_ble_eq_true rfl⟩ (ac_snoc (C := C_X6_judge) (n := 0) (c := 1) (p1 := 13) (ac_nil (C := C_X6_judge)) (ec_ar (C := C_X6_judge) (p1 := 17) (p2 := 18) (Nat.le_of_ble_eq_true rfl) (ec_gr (C := C_X6_judge) (p1 := 14) (ec_aload_n (C := C_X6_judge) (i := 0) dX6_judge_13 rfl) f_X6_32 dX6_judge_14) (ec_iload_n (C := C_X6_judge) (i := 1) dX6_judge_17 rfl) dX6_judge_18) rfl (fun _ => rfl) rfl) (Nat.le_of_ble_eq_true rfl) dX6_judge_19) dX6_judge_22 rfl) (sc_iret (C := C_X6_judge) (p1 := 30) (ec_callV (C := C_X6_judge) (m := 2) (p1 := 27) inj_I s_X6_finding t_X6_finding ⟨w_295, Nat.le_of_ble_eq_true rfl, Nat.le_of_ble_eq_true rfl⟩ (ac_snoc (C := C_X6_judge) (n := 1) (c := 1) (p1 := 26) (ac_snoc (C := C_X6_judge) (n := 0) (c := 1) (p1 := 25) (ac_nil (C := C_X6_judge)) (ec_aload_n (C := C_X6_judge) (i := 0) dX6_judge_25 rfl) rfl (fun _ => rfl) rfl) (ec_iconst (C := C_X6_judge) (v := (5 : Int32)) dX6_judge_26 rfl) rfl (fun _ => rfl) rfl) (Nat.le_of_ble_eq_true rfl) dX6_judge_27) dX6_judge_30 rfl) sc_skip)
  (sc_seq (C := C_X6_judge) (p1 := 41) (sc_istore_n (C := C_X6_judge) (p1 := 40) (i := 2) (ec_gi (C := C_X6_judge) (p1 := 37) (ec_ar (C := C_X6_judge) (p1 := 35) (p2 := 36) (Nat.le_of_ble_eq_true rfl) (ec_gr (C := C_X6_judge) (p1 := 32) (ec_aload_n (C := C_X6_judge) (i := 0) dX6_judge_31 rfl) f_X6_32 dX6_judge_32) (ec_iload_n (C := C_X6_judge) (i := 1) dX6_judge_35 rfl) dX6_judge_36) f_X6_277 dX6_judge_37) dX6_judge_40 rfl (Nat.le_of_ble_eq_true rfl))
  (sc_seq (C := C_X6_judge) (p1 := 55) (sc_if (C := C_X6_judge) (pT := 49) (pF := 55) (p2 := 55) (bc_not (C := C_X6_judge) (bc_of_T (C := C_X6_judge) (p2 := 46) (tgt := 55) (ec_callV (C := C_X6_judge) (m := 2) (p1 := 43) inj_I s_X6_hasHours t_X6_hasHours ⟨w_418, Nat.le_of_ble_eq_true rfl, Nat.le_of_ble_eq_true rfl⟩ (ac_snoc (C := C_X6_judge) (n := 1) (c := 1) (p1 := 42) (ac_snoc (C := C_X6_judge) (n := 0) (c := 1) (p1 := 41) (ac_nil (C := C_X6_judge)) (ec_aload_n (C := C_X6_judge) (i := 0) dX6_judge_41 rfl) rfl (fun _ => rfl) rfl) (ec_iload_n (C := C_X6_judge) (i := 2) dX6_judge_42 rfl) rfl (fun _ => rfl) rfl) (Nat.le_of_ble_eq_true rfl) dX6_judge_43) dX6_judge_46 rfl)) (sc_iret (C := C_X6_judge) (p1 := 54) (ec_callV (C := C_X6_judge) (m := 2) (p1 := 51) inj_I s_X6_finding t_X6_finding ⟨w_295, Nat.le_of_ble_eq_true rfl, Nat.le_of_ble_eq_true rfl⟩ (ac_snoc (C := C_X6_judge) (n := 1) (c := 1) (p1 := 50) (ac_snoc (C := C_X6_judge) (n := 0) (c := 1) (p1 := 49) (ac_nil (C := C_X6_judge)) (ec_aload_n (C := C_X6_judge) (i := 0) dX6_judge_49 rfl) rfl (fun _ => rfl) rfl) (ec_iconst (C := C_X6_judge) (v := (4 : Int32)) dX6_judge_50 rfl) rfl (fun _ => rfl) rfl) (Nat.le_of_ble_eq_true rfl) dX6_judge_51) dX6_judge_54 rfl) sc_skip)
  (sc_seq (C := C_X6_judge) (p1 := 60) (sc_callV (C := C_X6_judge) (m := 2) (p1 := 57) s_X6_playByHour t_X6_playByHour ⟨w_795, Nat.le_of_ble_eq_true rfl, Nat.le_of_ble_eq_true rfl⟩ (ac_snoc (C := C_X6_judge) (n := 1) (c := 1) (p1 := 56) (ac_snoc (C := C_X6_judge) (n := 0) (c := 1) (p1 := 55) (ac_nil (C := C_X6_judge)) (ec_aload_n (C := C_X6_judge) (i := 0) dX6_judge_55 rfl) rfl (fun _ => rfl) rfl) (ec_iload_n (C := C_X6_judge) (i := 2) dX6_judge_56 rfl) rfl (fun _ => rfl) rfl) dX6_judge_57)
  (sc_seq (C := C_X6_judge) (p1 := 97) (sc_sc (C := C_X6_judge) (sc_seq (C := C_X6_judge) (p1 := 62) (sc_istore_n (C := C_X6_judge) (p1 := 61) (i := 3) (ec_iconst (C := C_X6_judge) (v := (0 : Int32)) dX6_judge_60 rfl) dX6_judge_61 rfl (Nat.le_of_ble_eq_true rfl))
  bw_X6_judge_1))
  (sc_iret (C := C_X6_judge) (p1 := 98) (ec_iconst (C := C_X6_judge) (v := (0 : Int32)) dX6_judge_97 rfl) dX6_judge_98 rfl)))))))
theorem s_X6_judge : MS M_X6_judge D_X6_judge := ms_of b_X6_judge (by decide +kernel) rfl rfl (fun _ => trivial)
/-- SmokeRoofs$Town.take(LSmokeRoofs$Town;)V -/
abbrev C_X5_take : CX := (cX5_take, RX5, 3, 2, 39, "take", none, fun _ => True)
abbrev M_X5_take : MD := (yX5_take, C_X5_take)
theorem k_X5_take : MOK M_X5_take 1 := ⟨w_51, w_806, by decide +kernel, by decide +kernel, by decide +kernel⟩
theorem t_X5_take : MVT M_X5_take 1 5 := ⟨k_X5_take, w_804, w_805, by decide, _, rfl, rfl⟩
def WB_X5_take_1 : DE Bool := (e_bin (fun (x y : Int32) => decide (x < y)) (e_li 2) (e_gi 5 2 (e_lr 0)))
def WS_X5_take_1 : SD := (s_seq (s_call D_X0_take 2 (a_recv 0 (a_snoc Value.ref (a_snoc Value.ref a_nil (e_ar 0 (e_gr 5 7 (e_lr 0)) (e_li 2))) (e_ar 0 (e_gr 5 7 (e_lr 1)) (e_li 2)))))
  (s_inc 2 (1)))
def W_X5_take_1 : SD := s_while WB_X5_take_1 WS_X5_take_1 FU
set_option maxRecDepth 100000 in
set_option maxHeartbeats 4000000 in
theorem bw_X5_take_1 : SC C_X5_take 86 115 W_X5_take_1 := by
  unfold W_X5_take_1 WB_X5_take_1 WS_X5_take_1
  exact (sc_while (C := C_X5_take) (pB := 94) (pE := 115) (bc_icmp_ge_F (C := C_X5_take) (p1 := 87) (p2 := 91) (tgt := 115) (ec_iload_n (C := C_X5_take) (i := 2) dX5_take_86 rfl) (ec_gi (C := C_X5_take) (p1 := 88) (ec_aload_n (C := C_X5_take) (i := 0) dX5_take_87 rfl) f_X5_18 dX5_take_88) dX5_take_91 rfl)
  (sc_goto (C := C_X5_take) (p1 := 112) (sc_seq (C := C_X5_take) (p1 := 109) (sc_callV (C := C_X5_take) (m := 2) (p1 := 106) s_X0_take t_X0_take ⟨w_808, Nat.le_of_ble_eq_true rfl, Nat.le_of_ble_eq_true rfl⟩ (ac_snoc (C := C_X5_take) (n := 1) (c := 1) (p1 := 100) (ac_snoc (C := C_X5_take) (n := 0) (c := 1) (p1 := 94) (ac_nil (C := C_X5_take)) (ec_ar (C := C_X5_take) (p1 := 98) (p2 := 99) (Nat.le_of_ble_eq_true rfl) (ec_gr (C := C_X5_take) (p1 := 95) (ec_aload_n (C := C_X5_take) (i := 0) dX5_take_94 rfl) f_X5_36 dX5_take_95) (ec_iload_n (C := C_X5_take) (i := 2) dX5_take_98 rfl) dX5_take_99) rfl (fun _ => rfl) rfl) (ec_ar (C := C_X5_take) (p1 := 104) (p2 := 105) (Nat.le_of_ble_eq_true rfl) (ec_gr (C := C_X5_take) (p1 := 101) (ec_aload_n (C := C_X5_take) (i := 1) dX5_take_100 rfl) f_X5_36 dX5_take_101) (ec_iload_n (C := C_X5_take) (i := 2) dX5_take_104 rfl) dX5_take_105) rfl (fun _ => rfl) rfl) dX5_take_106)
  (sc_iinc (C := C_X5_take) (v := (1)) dX5_take_109 rfl (Nat.le_of_ble_eq_true rfl))) dX5_take_112 rfl) FU)
def S_X5_take : SD := (s_seq (s_seq (s_pf Value.int 5 0 (e_lr 0) (e_gi 5 0 (e_lr 1)))
  (s_seq (s_pf Value.int 5 1 (e_lr 0) (e_gi 5 1 (e_lr 1)))
  (s_seq (s_pf Value.int 5 2 (e_lr 0) (e_gi 5 2 (e_lr 1)))
  (s_seq (s_cpy (e_gr 5 3 (e_lr 1)) (e_c (0 : Int32)) (e_gr 5 3 (e_lr 0)) (e_c (0 : Int32)) (e_c (36 : Int32)))
  (s_seq (s_cpy (e_gr 5 4 (e_lr 1)) (e_c (0 : Int32)) (e_gr 5 4 (e_lr 0)) (e_c (0 : Int32)) (e_c (24 : Int32)))
  (s_seq (s_cpy (e_gr 5 5 (e_lr 1)) (e_c (0 : Int32)) (e_gr 5 5 (e_lr 0)) (e_c (0 : Int32)) (e_c (6 : Int32)))
  (s_seq (s_cpy (e_gr 5 6 (e_lr 1)) (e_c (0 : Int32)) (e_gr 5 6 (e_lr 0)) (e_c (0 : Int32)) (e_c (10 : Int32)))
  (s_sc 2 (s_seq (s_st Value.int 2 (e_c (0 : Int32)))
  W_X5_take_1)))))))))
  s_retv)
def D_X5_take : MDen := m_den 3 S_X5_take
set_option maxRecDepth 100000 in
set_option maxHeartbeats 4000000 in
theorem b_X5_take : SC C_X5_take 0 0 S_X5_take := by
  unfold S_X5_take
  exact (sc_seq (C := C_X5_take) (p1 := 115) (sc_seq (C := C_X5_take) (p1 := 8) (sc_pf (C := C_X5_take) (p1 := 1) (p2 := 5) (ec_aload_n (C := C_X5_take) (i := 0) dX5_take_0 rfl) (ec_gi (C := C_X5_take) (p1 := 2) (ec_aload_n (C := C_X5_take) (i := 1) dX5_take_1 rfl) f_X5_9 dX5_take_2) f_X5_9 dX5_take_5)
  (sc_seq (C := C_X5_take) (p1 := 16) (sc_pf (C := C_X5_take) (p1 := 9) (p2 := 13) (ec_aload_n (C := C_X5_take) (i := 0) dX5_take_8 rfl) (ec_gi (C := C_X5_take) (p1 := 10) (ec_aload_n (C := C_X5_take) (i := 1) dX5_take_9 rfl) f_X5_15 dX5_take_10) f_X5_15 dX5_take_13)
  (sc_seq (C := C_X5_take) (p1 := 24) (sc_pf (C := C_X5_take) (p1 := 17) (p2 := 21) (ec_aload_n (C := C_X5_take) (i := 0) dX5_take_16 rfl) (ec_gi (C := C_X5_take) (p1 := 18) (ec_aload_n (C := C_X5_take) (i := 1) dX5_take_17 rfl) f_X5_18 dX5_take_18) f_X5_18 dX5_take_21)
  (sc_seq (C := C_X5_take) (p1 := 39) (sc_cpy (C := C_X5_take) (q1 := 28) (q2 := 29) (q3 := 33) (q4 := 34) (q5 := 36) (ec_gr (C := C_X5_take) (p1 := 25) (ec_aload_n (C := C_X5_take) (i := 1) dX5_take_24 rfl) f_X5_21 dX5_take_25) (ec_iconst (C := C_X5_take) (v := (0 : Int32)) dX5_take_28 rfl) (ec_gr (C := C_X5_take) (p1 := 30) (ec_aload_n (C := C_X5_take) (i := 0) dX5_take_29 rfl) f_X5_21 dX5_take_30) (ec_iconst (C := C_X5_take) (v := (0 : Int32)) dX5_take_33 rfl) (ec_bipush (C := C_X5_take) (v := (36 : Int32)) dX5_take_34 rfl) w_807 w_478 w_477 w_60 (by decide) dX5_take_36)
  (sc_seq (C := C_X5_take) (p1 := 54) (sc_cpy (C := C_X5_take) (q1 := 43) (q2 := 44) (q3 := 48) (q4 := 49) (q5 := 51) (ec_gr (C := C_X5_take) (p1 := 40) (ec_aload_n (C := C_X5_take) (i := 1) dX5_take_39 rfl) f_X5_25 dX5_take_40) (ec_iconst (C := C_X5_take) (v := (0 : Int32)) dX5_take_43 rfl) (ec_gr (C := C_X5_take) (p1 := 45) (ec_aload_n (C := C_X5_take) (i := 0) dX5_take_44 rfl) f_X5_25 dX5_take_45) (ec_iconst (C := C_X5_take) (v := (0 : Int32)) dX5_take_48 rfl) (ec_bipush (C := C_X5_take) (v := (24 : Int32)) dX5_take_49 rfl) w_807 w_478 w_477 w_60 (by decide) dX5_take_51)
  (sc_seq (C := C_X5_take) (p1 := 69) (sc_cpy (C := C_X5_take) (q1 := 58) (q2 := 59) (q3 := 63) (q4 := 64) (q5 := 66) (ec_gr (C := C_X5_take) (p1 := 55) (ec_aload_n (C := C_X5_take) (i := 1) dX5_take_54 rfl) f_X5_28 dX5_take_55) (ec_iconst (C := C_X5_take) (v := (0 : Int32)) dX5_take_58 rfl) (ec_gr (C := C_X5_take) (p1 := 60) (ec_aload_n (C := C_X5_take) (i := 0) dX5_take_59 rfl) f_X5_28 dX5_take_60) (ec_iconst (C := C_X5_take) (v := (0 : Int32)) dX5_take_63 rfl) (ec_bipush (C := C_X5_take) (v := (6 : Int32)) dX5_take_64 rfl) w_807 w_478 w_477 w_60 (by decide) dX5_take_66)
  (sc_seq (C := C_X5_take) (p1 := 84) (sc_cpy (C := C_X5_take) (q1 := 73) (q2 := 74) (q3 := 78) (q4 := 79) (q5 := 81) (ec_gr (C := C_X5_take) (p1 := 70) (ec_aload_n (C := C_X5_take) (i := 1) dX5_take_69 rfl) f_X5_31 dX5_take_70) (ec_iconst (C := C_X5_take) (v := (0 : Int32)) dX5_take_73 rfl) (ec_gr (C := C_X5_take) (p1 := 75) (ec_aload_n (C := C_X5_take) (i := 0) dX5_take_74 rfl) f_X5_31 dX5_take_75) (ec_iconst (C := C_X5_take) (v := (0 : Int32)) dX5_take_78 rfl) (ec_bipush (C := C_X5_take) (v := (10 : Int32)) dX5_take_79 rfl) w_807 w_478 w_477 w_60 (by decide) dX5_take_81)
  (sc_sc (C := C_X5_take) (sc_seq (C := C_X5_take) (p1 := 86) (sc_istore_n (C := C_X5_take) (p1 := 85) (i := 2) (ec_iconst (C := C_X5_take) (v := (0 : Int32)) dX5_take_84 rfl) dX5_take_85 rfl (Nat.le_of_ble_eq_true rfl))
  bw_X5_take_1)))))))))
  (sc_vret (C := C_X5_take) dX5_take_115 rfl))
theorem s_X5_take : MS M_X5_take D_X5_take := ms_of b_X5_take (by decide +kernel) rfl rfl (fun _ => trivial)
/-- SmokeRoofs.image()I -/
abbrev C_X6_image : CX := (cX6_image, RX6, 1, 3, 61, "image", (some .int), fun _ => True)
abbrev M_X6_image : MD := (yX6_image, C_X6_image)
theorem k_X6_image : MOK M_X6_image 0 := ⟨w_50, w_802, by decide +kernel, by decide +kernel, by decide +kernel⟩
theorem t_X6_image : MVT M_X6_image 0 6 := ⟨k_X6_image, w_800, w_801, by decide, _, rfl, rfl⟩
def S_X6_image : SD := (s_seq (s_call D_X5_take 2 (a_recv 5 (a_snoc Value.ref (a_snoc Value.ref a_nil (e_gr 6 1 (e_lr 0))) (e_gr 6 0 (e_lr 0)))))
  (s_seq (s_pfz 6 2 (e_lr 0) (e_c (1 : Int32)))
  (s_ret Value.int (e_c (1 : Int32)))))
def D_X6_image : MDen := m_den 1 S_X6_image
set_option maxRecDepth 100000 in
set_option maxHeartbeats 4000000 in
theorem b_X6_image : SC C_X6_image 0 0 S_X6_image := by
  unfold S_X6_image
  exact (sc_seq (C := C_X6_image) (p1 := 11) (sc_callV (C := C_X6_image) (m := 2) (p1 := 8) s_X5_take t_X5_take ⟨w_803, Nat.le_of_ble_eq_true rfl, Nat.le_of_ble_eq_true rfl⟩ (ac_snoc (C := C_X6_image) (n := 1) (c := 1) (p1 := 4) (ac_snoc (C := C_X6_image) (n := 0) (c := 1) (p1 := 0) (ac_nil (C := C_X6_image)) (ec_gr (C := C_X6_image) (p1 := 1) (ec_aload_n (C := C_X6_image) (i := 0) dX6_image_0 rfl) f_X6_16 dX6_image_1) rfl (fun _ => rfl) rfl) (ec_gr (C := C_X6_image) (p1 := 5) (ec_aload_n (C := C_X6_image) (i := 0) dX6_image_4 rfl) f_X6_10 dX6_image_5) rfl (fun _ => rfl) rfl) dX6_image_8)
  (sc_seq (C := C_X6_image) (p1 := 16) (sc_pfz (C := C_X6_image) (p1 := 12) (p2 := 13) (ec_aload_n (C := C_X6_image) (i := 0) dX6_image_11 rfl) (ec_iconst (C := C_X6_image) (v := (1 : Int32)) dX6_image_12 rfl) f_X6_19 dX6_image_13)
  (sc_iret (C := C_X6_image) (p1 := 17) (ec_iconst (C := C_X6_image) (v := (1 : Int32)) dX6_image_16 rfl) dX6_image_17 rfl)))
theorem s_X6_image : MS M_X6_image D_X6_image := ms_of b_X6_image (by decide +kernel) rfl rfl (fun _ => trivial)
/-- SmokeRoofs.undo()I -/
abbrev C_X6_undo : CX := (cX6_undo, RX6, 1, 3, 61, "undo", (some .int), fun _ => True)
abbrev M_X6_undo : MD := (yX6_undo, C_X6_undo)
theorem k_X6_undo : MOK M_X6_undo 0 := ⟨w_50, w_812, by decide +kernel, by decide +kernel, by decide +kernel⟩
theorem t_X6_undo : MVT M_X6_undo 0 6 := ⟨k_X6_undo, w_810, w_811, by decide, _, rfl, rfl⟩
def S_X6_undo : SD := (s_seq (s_if (b_not (b_of (e_gi 6 2 (e_lr 0)))) (s_ret Value.int (e_call prI D_X6_finding 2 (a_recv 6 (a_snoc Value.int (a_snoc Value.ref a_nil (e_lr 0)) (e_c (3 : Int32)))))) s_skip)
  (s_seq (s_call D_X5_take 2 (a_recv 5 (a_snoc Value.ref (a_snoc Value.ref a_nil (e_gr 6 0 (e_lr 0))) (e_gr 6 1 (e_lr 0)))))
  (s_ret Value.int (e_gi 5 0 (e_gr 6 0 (e_lr 0))))))
def D_X6_undo : MDen := m_den 1 S_X6_undo
set_option maxRecDepth 100000 in
set_option maxHeartbeats 4000000 in
theorem b_X6_undo : SC C_X6_undo 0 0 S_X6_undo := by
  unfold S_X6_undo
  exact (sc_seq (C := C_X6_undo) (p1 := 13) (sc_if (C := C_X6_undo) (pT := 7) (pF := 13) (p2 := 13) (bc_not (C := C_X6_undo) (bc_of_T (C := C_X6_undo) (p2 := 4) (tgt := 13) (ec_gi (C := C_X6_undo) (p1 := 1) (ec_aload_n (C := C_X6_undo) (i := 0) dX6_undo_0 rfl) f_X6_19 dX6_undo_1) dX6_undo_4 rfl)) (sc_iret (C := C_X6_undo) (p1 := 12) (ec_callV (C := C_X6_undo) (m := 2) (p1 := 9) inj_I s_X6_finding t_X6_finding ⟨w_295, Nat.le_of_ble_eq_true rfl, Nat.le_of_ble_eq_true rfl⟩ (ac_snoc (C := C_X6_undo) (n := 1) (c := 1) (p1 := 8) (ac_snoc (C := C_X6_undo) (n := 0) (c := 1) (p1 := 7) (ac_nil (C := C_X6_undo)) (ec_aload_n (C := C_X6_undo) (i := 0) dX6_undo_7 rfl) rfl (fun _ => rfl) rfl) (ec_iconst (C := C_X6_undo) (v := (3 : Int32)) dX6_undo_8 rfl) rfl (fun _ => rfl) rfl) (Nat.le_of_ble_eq_true rfl) dX6_undo_9) dX6_undo_12 rfl) sc_skip)
  (sc_seq (C := C_X6_undo) (p1 := 24) (sc_callV (C := C_X6_undo) (m := 2) (p1 := 21) s_X5_take t_X5_take ⟨w_803, Nat.le_of_ble_eq_true rfl, Nat.le_of_ble_eq_true rfl⟩ (ac_snoc (C := C_X6_undo) (n := 1) (c := 1) (p1 := 17) (ac_snoc (C := C_X6_undo) (n := 0) (c := 1) (p1 := 13) (ac_nil (C := C_X6_undo)) (ec_gr (C := C_X6_undo) (p1 := 14) (ec_aload_n (C := C_X6_undo) (i := 0) dX6_undo_13 rfl) f_X6_10 dX6_undo_14) rfl (fun _ => rfl) rfl) (ec_gr (C := C_X6_undo) (p1 := 18) (ec_aload_n (C := C_X6_undo) (i := 0) dX6_undo_17 rfl) f_X6_16 dX6_undo_18) rfl (fun _ => rfl) rfl) dX6_undo_21)
  (sc_iret (C := C_X6_undo) (p1 := 31) (ec_gi (C := C_X6_undo) (p1 := 28) (ec_gr (C := C_X6_undo) (p1 := 25) (ec_aload_n (C := C_X6_undo) (i := 0) dX6_undo_24 rfl) f_X6_10 dX6_undo_25) f_X6_119 dX6_undo_28) dX6_undo_31 rfl)))
theorem s_X6_undo : MS M_X6_undo D_X6_undo := ms_of b_X6_undo (by decide +kernel) rfl rfl (fun _ => trivial)
/-- SmokeRoofs.tear()I -/
abbrev C_X6_tear : CX := (cX6_tear, RX6, 2, 0, 0, "tear", (some .int), fun _ => True)
abbrev M_X6_tear : MD := (yX6_tear, C_X6_tear)
theorem k_X6_tear : MOK M_X6_tear 0 := ⟨w_50, w_816, by decide +kernel, by decide +kernel, by decide +kernel⟩
theorem t_X6_tear : MVT M_X6_tear 0 6 := ⟨k_X6_tear, w_814, w_815, by decide, _, rfl, rfl⟩
def S_X6_tear : SD := (s_seq (s_st Value.int 1 (e_if (b_of (e_gi 6 2 (e_lr 0))) (e_c (1 : Int32)) (e_c (0 : Int32))))
  (s_seq (s_pfz 6 2 (e_lr 0) (e_c (0 : Int32)))
  (s_ret Value.int (e_li 1))))
def D_X6_tear : MDen := m_den 2 S_X6_tear
set_option maxRecDepth 100000 in
set_option maxHeartbeats 4000000 in
theorem b_X6_tear : SC C_X6_tear 0 0 S_X6_tear := by
  unfold S_X6_tear
  exact (sc_seq (C := C_X6_tear) (p1 := 13) (sc_istore_n (C := C_X6_tear) (p1 := 12) (i := 1) (ec_if (C := C_X6_tear) (pT := 7) (pF := 11) (p1 := 8) (pE := 12) (bc_of_F (C := C_X6_tear) (p2 := 4) (tgt := 11) (ec_gi (C := C_X6_tear) (p1 := 1) (ec_aload_n (C := C_X6_tear) (i := 0) dX6_tear_0 rfl) f_X6_19 dX6_tear_1) dX6_tear_4 rfl) (ec_iconst (C := C_X6_tear) (v := (1 : Int32)) dX6_tear_7 rfl) dX6_tear_8 rfl (ec_iconst (C := C_X6_tear) (v := (0 : Int32)) dX6_tear_11 rfl)) dX6_tear_12 rfl (Nat.le_of_ble_eq_true rfl))
  (sc_seq (C := C_X6_tear) (p1 := 18) (sc_pfz (C := C_X6_tear) (p1 := 14) (p2 := 15) (ec_aload_n (C := C_X6_tear) (i := 0) dX6_tear_13 rfl) (ec_iconst (C := C_X6_tear) (v := (0 : Int32)) dX6_tear_14 rfl) f_X6_19 dX6_tear_15)
  (sc_iret (C := C_X6_tear) (p1 := 19) (ec_iload_n (C := C_X6_tear) (i := 1) dX6_tear_18 rfl) dX6_tear_19 rfl)))
theorem s_X6_tear : MS M_X6_tear D_X6_tear := ms_of b_X6_tear (by decide +kernel) rfl rfl (fun _ => trivial)
/-- SmokeRoofs.notBelowZero([I)I -/
abbrev C_X6_notBelowZero : CX := (cX6_notBelowZero, RX6, 3, 0, 0, "notBelowZero", (some .int), fun _ => True)
abbrev M_X6_notBelowZero : MD := (yX6_notBelowZero, C_X6_notBelowZero)
theorem k_X6_notBelowZero : MOK M_X6_notBelowZero 1 := ⟨w_50, w_823, by decide +kernel, by decide +kernel, by decide +kernel⟩
theorem t_X6_notBelowZero : MST M_X6_notBelowZero 1 := ⟨k_X6_notBelowZero, w_822⟩
def WB_X6_notBelowZero_1 : DE Bool := (e_bin (fun (x y : Int32) => decide (x < y)) (e_li 2) (e_len (e_lr 0)))
def WS_X6_notBelowZero_1 : SD := (s_seq (s_st Value.int 1 (e_bin (fun (x y : Int32) => x + y) (e_li 1) (e_if (e_un (fun (x : Int32) => decide (0 ≤ x)) (e_ai (e_lr 0) (e_li 2))) (e_c (1 : Int32)) (e_c (0 : Int32)))))
  (s_inc 2 (1)))
def W_X6_notBelowZero_1 : SD := s_while WB_X6_notBelowZero_1 WS_X6_notBelowZero_1 FU
set_option maxRecDepth 100000 in
set_option maxHeartbeats 4000000 in
theorem bw_X6_notBelowZero_1 : SC C_X6_notBelowZero 4 30 W_X6_notBelowZero_1 := by
  unfold W_X6_notBelowZero_1 WB_X6_notBelowZero_1 WS_X6_notBelowZero_1
  exact (sc_while (C := C_X6_notBelowZero) (pB := 10) (pE := 30) (bc_icmp_ge_F (C := C_X6_notBelowZero) (p1 := 5) (p2 := 7) (tgt := 30) (ec_iload_n (C := C_X6_notBelowZero) (i := 2) dX6_notBelowZero_4 rfl) (ec_len (C := C_X6_notBelowZero) (p1 := 6) (ec_aload_n (C := C_X6_notBelowZero) (i := 0) dX6_notBelowZero_5 rfl) dX6_notBelowZero_6) dX6_notBelowZero_7 rfl)
  (sc_goto (C := C_X6_notBelowZero) (p1 := 27) (sc_seq (C := C_X6_notBelowZero) (p1 := 24) (sc_istore_n (C := C_X6_notBelowZero) (p1 := 23) (i := 1) (ec_iadd (C := C_X6_notBelowZero) (p1 := 11) (p2 := 22) (ec_iload_n (C := C_X6_notBelowZero) (i := 1) dX6_notBelowZero_10 rfl) (ec_if (C := C_X6_notBelowZero) (pT := 17) (pF := 21) (p1 := 18) (pE := 22) (bc_if_lt_F (C := C_X6_notBelowZero) (p2 := 14) (tgt := 21) (ec_ai (C := C_X6_notBelowZero) (p1 := 12) (p2 := 13) (ec_aload_n (C := C_X6_notBelowZero) (i := 0) dX6_notBelowZero_11 rfl) (ec_iload_n (C := C_X6_notBelowZero) (i := 2) dX6_notBelowZero_12 rfl) dX6_notBelowZero_13) dX6_notBelowZero_14 rfl) (ec_iconst (C := C_X6_notBelowZero) (v := (1 : Int32)) dX6_notBelowZero_17 rfl) dX6_notBelowZero_18 rfl (ec_iconst (C := C_X6_notBelowZero) (v := (0 : Int32)) dX6_notBelowZero_21 rfl)) dX6_notBelowZero_22) dX6_notBelowZero_23 rfl (Nat.le_of_ble_eq_true rfl))
  (sc_iinc (C := C_X6_notBelowZero) (v := (1)) dX6_notBelowZero_24 rfl (Nat.le_of_ble_eq_true rfl))) dX6_notBelowZero_27 rfl) FU)
def S_X6_notBelowZero : SD := (s_seq (s_st Value.int 1 (e_c (0 : Int32)))
  (s_seq (s_sc 2 (s_seq (s_st Value.int 2 (e_c (0 : Int32)))
  W_X6_notBelowZero_1))
  (s_ret Value.int (e_li 1))))
def D_X6_notBelowZero : MDen := m_den 3 S_X6_notBelowZero
set_option maxRecDepth 100000 in
set_option maxHeartbeats 4000000 in
theorem b_X6_notBelowZero : SC C_X6_notBelowZero 0 0 S_X6_notBelowZero := by
  unfold S_X6_notBelowZero
  exact (sc_seq (C := C_X6_notBelowZero) (p1 := 2) (sc_istore_n (C := C_X6_notBelowZero) (p1 := 1) (i := 1) (ec_iconst (C := C_X6_notBelowZero) (v := (0 : Int32)) dX6_notBelowZero_0 rfl) dX6_notBelowZero_1 rfl (Nat.le_of_ble_eq_true rfl))
  (sc_seq (C := C_X6_notBelowZero) (p1 := 30) (sc_sc (C := C_X6_notBelowZero) (sc_seq (C := C_X6_notBelowZero) (p1 := 4) (sc_istore_n (C := C_X6_notBelowZero) (p1 := 3) (i := 2) (ec_iconst (C := C_X6_notBelowZero) (v := (0 : Int32)) dX6_notBelowZero_2 rfl) dX6_notBelowZero_3 rfl (Nat.le_of_ble_eq_true rfl))
  bw_X6_notBelowZero_1))
  (sc_iret (C := C_X6_notBelowZero) (p1 := 31) (ec_iload_n (C := C_X6_notBelowZero) (i := 1) dX6_notBelowZero_30 rfl) dX6_notBelowZero_31 rfl)))
theorem s_X6_notBelowZero : MS M_X6_notBelowZero D_X6_notBelowZero := ms_of b_X6_notBelowZero (by decide +kernel) rfl rfl (fun _ => trivial)
/-- SmokeRoofs.count(I)I -/
abbrev C_X6_count : CX := (cX6_count, RX6, 2, 3, 67, "count", (some .int), fun _ => True)
abbrev M_X6_count : MD := (yX6_count, C_X6_count)
theorem k_X6_count : MOK M_X6_count 1 := ⟨w_50, w_820, by decide +kernel, by decide +kernel, by decide +kernel⟩
theorem t_X6_count : MVT M_X6_count 1 6 := ⟨k_X6_count, w_818, w_819, by decide, _, rfl, rfl⟩
def S_X6_count : SD := (s_tab (e_li 1) (0) (7) [(48, (s_ret Value.int (e_gi 5 0 (e_gr 6 0 (e_lr 0))))),
  (56, (s_ret Value.int (e_gi 5 2 (e_gr 6 0 (e_lr 0))))),
  (64, (s_ret Value.int (e_call prI D_X6_notBelowZero 1 (a_snoc Value.ref a_nil (e_gr 5 3 (e_gr 6 0 (e_lr 0))))))),
  (75, (s_ret Value.int (e_call prI D_X6_air 3 (a_recv 6 (a_snoc Value.int (a_snoc Value.int (a_snoc Value.ref a_nil (e_lr 0)) (e_c (-1 : Int32))) (e_c (-1 : Int32))))))),
  (82, (s_ret Value.int (e_call prI D_X6_settled 3 (a_recv 6 (a_snoc Value.int (a_snoc Value.int (a_snoc Value.ref a_nil (e_lr 0)) (e_c (-1 : Int32))) (e_c (-1 : Int32))))))),
  (89, (s_ret Value.int (e_gi 4 1 (e_gr 1 0 (e_gr 6 3 (e_lr 0)))))),
  (100, (s_ret Value.int (e_gi 5 1 (e_gr 6 0 (e_lr 0))))),
  (108, (s_ret Value.int (e_call prI D_X6_notBelowZero 1 (a_snoc Value.ref a_nil (e_gr 5 6 (e_gr 6 0 (e_lr 0)))))))] (s_ret Value.int (e_call prI D_X6_finding 2 (a_recv 6 (a_snoc Value.int (a_snoc Value.ref a_nil (e_lr 0)) (e_c (0 : Int32)))))))
def D_X6_count : MDen := m_den 2 S_X6_count
set_option maxRecDepth 100000 in
set_option maxHeartbeats 4000000 in
theorem b_X6_count : SC C_X6_count 0 0 S_X6_count := by
  unfold S_X6_count
  exact (sc_tab (C := C_X6_count) (arms := [(48, (s_ret Value.int (e_gi 5 0 (e_gr 6 0 (e_lr 0))))), (56, (s_ret Value.int (e_gi 5 2 (e_gr 6 0 (e_lr 0))))), (64, (s_ret Value.int (e_call prI D_X6_notBelowZero 1 (a_snoc Value.ref a_nil (e_gr 5 3 (e_gr 6 0 (e_lr 0))))))), (75, (s_ret Value.int (e_call prI D_X6_air 3 (a_recv 6 (a_snoc Value.int (a_snoc Value.int (a_snoc Value.ref a_nil (e_lr 0)) (e_c (-1 : Int32))) (e_c (-1 : Int32))))))), (82, (s_ret Value.int (e_call prI D_X6_settled 3 (a_recv 6 (a_snoc Value.int (a_snoc Value.int (a_snoc Value.ref a_nil (e_lr 0)) (e_c (-1 : Int32))) (e_c (-1 : Int32))))))), (89, (s_ret Value.int (e_gi 4 1 (e_gr 1 0 (e_gr 6 3 (e_lr 0)))))), (100, (s_ret Value.int (e_gi 5 1 (e_gr 6 0 (e_lr 0))))), (108, (s_ret Value.int (e_call prI D_X6_notBelowZero 1 (a_snoc Value.ref a_nil (e_gr 5 6 (e_gr 6 0 (e_lr 0)))))))]) (p1 := 1) (pD := 119) (p2 := 0) (ec_iload_n (C := C_X6_count) (i := 1) dX6_count_0 rfl) dX6_count_1 rfl (sc_iret (C := C_X6_count) (p1 := 124) (ec_callV (C := C_X6_count) (m := 2) (p1 := 121) inj_I s_X6_finding t_X6_finding ⟨w_295, Nat.le_of_ble_eq_true rfl, Nat.le_of_ble_eq_true rfl⟩ (ac_snoc (C := C_X6_count) (n := 1) (c := 1) (p1 := 120) (ac_snoc (C := C_X6_count) (n := 0) (c := 1) (p1 := 119) (ac_nil (C := C_X6_count)) (ec_aload_n (C := C_X6_count) (i := 0) dX6_count_119 rfl) rfl (fun _ => rfl) rfl) (ec_iconst (C := C_X6_count) (v := (0 : Int32)) dX6_count_120 rfl) rfl (fun _ => rfl) rfl) (Nat.le_of_ble_eq_true rfl) dX6_count_121) dX6_count_124 rfl) rfl ⟨(sc_iret (C := C_X6_count) (p1 := 55) (ec_gi (C := C_X6_count) (p1 := 52) (ec_gr (C := C_X6_count) (p1 := 49) (ec_aload_n (C := C_X6_count) (i := 0) dX6_count_48 rfl) f_X6_10 dX6_count_49) f_X6_119 dX6_count_52) dX6_count_55 rfl), ⟨(sc_iret (C := C_X6_count) (p1 := 63) (ec_gi (C := C_X6_count) (p1 := 60) (ec_gr (C := C_X6_count) (p1 := 57) (ec_aload_n (C := C_X6_count) (i := 0) dX6_count_56 rfl) f_X6_10 dX6_count_57) f_X6_178 dX6_count_60) dX6_count_63 rfl), ⟨(sc_iret (C := C_X6_count) (p1 := 74) (ec_callS (C := C_X6_count) (m := 1) (p1 := 71) inj_I s_X6_notBelowZero t_X6_notBelowZero ⟨w_821, Nat.le_of_ble_eq_true rfl, Nat.le_of_ble_eq_true rfl⟩ (ac_snoc (C := C_X6_count) (n := 0) (c := 1) (p1 := 64) (ac_nil (C := C_X6_count)) (ec_gr (C := C_X6_count) (p1 := 68) (ec_gr (C := C_X6_count) (p1 := 65) (ec_aload_n (C := C_X6_count) (i := 0) dX6_count_64 rfl) f_X6_10 dX6_count_65) f_X6_82 dX6_count_68) rfl (fun _ => rfl) rfl) (Nat.le_of_ble_eq_true rfl) dX6_count_71) dX6_count_74 rfl), ⟨(sc_iret (C := C_X6_count) (p1 := 81) (ec_callV (C := C_X6_count) (m := 3) (p1 := 78) inj_I s_X6_air t_X6_air ⟨w_824, Nat.le_of_ble_eq_true rfl, Nat.le_of_ble_eq_true rfl⟩ (ac_snoc (C := C_X6_count) (n := 2) (c := 1) (p1 := 77) (ac_snoc (C := C_X6_count) (n := 1) (c := 1) (p1 := 76) (ac_snoc (C := C_X6_count) (n := 0) (c := 1) (p1 := 75) (ac_nil (C := C_X6_count)) (ec_aload_n (C := C_X6_count) (i := 0) dX6_count_75 rfl) rfl (fun _ => rfl) rfl) (ec_iconst (C := C_X6_count) (v := (-1 : Int32)) dX6_count_76 rfl) rfl (fun _ => rfl) rfl) (ec_iconst (C := C_X6_count) (v := (-1 : Int32)) dX6_count_77 rfl) rfl (fun _ => rfl) rfl) (Nat.le_of_ble_eq_true rfl) dX6_count_78) dX6_count_81 rfl), ⟨(sc_iret (C := C_X6_count) (p1 := 88) (ec_callV (C := C_X6_count) (m := 3) (p1 := 85) inj_I s_X6_settled t_X6_settled ⟨w_825, Nat.le_of_ble_eq_true rfl, Nat.le_of_ble_eq_true rfl⟩ (ac_snoc (C := C_X6_count) (n := 2) (c := 1) (p1 := 84) (ac_snoc (C := C_X6_count) (n := 1) (c := 1) (p1 := 83) (ac_snoc (C := C_X6_count) (n := 0) (c := 1) (p1 := 82) (ac_nil (C := C_X6_count)) (ec_aload_n (C := C_X6_count) (i := 0) dX6_count_82 rfl) rfl (fun _ => rfl) rfl) (ec_iconst (C := C_X6_count) (v := (-1 : Int32)) dX6_count_83 rfl) rfl (fun _ => rfl) rfl) (ec_iconst (C := C_X6_count) (v := (-1 : Int32)) dX6_count_84 rfl) rfl (fun _ => rfl) rfl) (Nat.le_of_ble_eq_true rfl) dX6_count_85) dX6_count_88 rfl), ⟨(sc_iret (C := C_X6_count) (p1 := 99) (ec_gi (C := C_X6_count) (p1 := 96) (ec_gr (C := C_X6_count) (p1 := 93) (ec_gr (C := C_X6_count) (p1 := 90) (ec_aload_n (C := C_X6_count) (i := 0) dX6_count_89 rfl) f_X6_26 dX6_count_90) f_X6_244 dX6_count_93) f_X6_248 dX6_count_96) dX6_count_99 rfl), ⟨(sc_iret (C := C_X6_count) (p1 := 107) (ec_gi (C := C_X6_count) (p1 := 104) (ec_gr (C := C_X6_count) (p1 := 101) (ec_aload_n (C := C_X6_count) (i := 0) dX6_count_100 rfl) f_X6_10 dX6_count_101) f_X6_241 dX6_count_104) dX6_count_107 rfl), ⟨(sc_iret (C := C_X6_count) (p1 := 118) (ec_callS (C := C_X6_count) (m := 1) (p1 := 115) inj_I s_X6_notBelowZero t_X6_notBelowZero ⟨w_821, Nat.le_of_ble_eq_true rfl, Nat.le_of_ble_eq_true rfl⟩ (ac_snoc (C := C_X6_count) (n := 0) (c := 1) (p1 := 108) (ac_nil (C := C_X6_count)) (ec_gr (C := C_X6_count) (p1 := 112) (ec_gr (C := C_X6_count) (p1 := 109) (ec_aload_n (C := C_X6_count) (i := 0) dX6_count_108 rfl) f_X6_10 dX6_count_109) f_X6_269 dX6_count_112) rfl (fun _ => rfl) rfl) (Nat.le_of_ble_eq_true rfl) dX6_count_115) dX6_count_118 rfl), trivial⟩⟩⟩⟩⟩⟩⟩⟩)
theorem s_X6_count : MS M_X6_count D_X6_count := ms_of b_X6_count (by decide +kernel) rfl rfl (fun _ => trivial)
/-- SmokeRoofs.status(I)I -/
abbrev C_X6_status : CX := (cX6_status, RX6, 4, 1, 22, "status", (some .int), fun _ => True)
abbrev M_X6_status : MD := (yX6_status, C_X6_status)
theorem k_X6_status : MOK M_X6_status 1 := ⟨w_50, w_829, by decide +kernel, by decide +kernel, by decide +kernel⟩
theorem t_X6_status : MVT M_X6_status 1 6 := ⟨k_X6_status, w_827, w_828, by decide, _, rfl, rfl⟩
def WB_X6_status_1 : DE Bool := (e_bin (fun (x y : Int32) => decide (x < y)) (e_li 3) (e_c (7 : Int32)))
def WS_X6_status_1 : SD := (s_seq (s_st Value.int 2 (e_bin (fun (x y : Int32) => x + y) (e_li 2) (e_ai (e_gr 6 5 (e_lr 0)) (e_li 3))))
  (s_inc 3 (1)))
def W_X6_status_1 : SD := s_while WB_X6_status_1 WS_X6_status_1 FU
set_option maxRecDepth 100000 in
set_option maxHeartbeats 4000000 in
theorem bw_X6_status_1 : SC C_X6_status 31 52 W_X6_status_1 := by
  unfold W_X6_status_1 WB_X6_status_1 WS_X6_status_1
  exact (sc_while (C := C_X6_status) (pB := 37) (pE := 52) (bc_icmp_ge_F (C := C_X6_status) (p1 := 32) (p2 := 34) (tgt := 52) (ec_iload_n (C := C_X6_status) (i := 3) dX6_status_31 rfl) (ec_bipush (C := C_X6_status) (v := (7 : Int32)) dX6_status_32 rfl) dX6_status_34 rfl)
  (sc_goto (C := C_X6_status) (p1 := 49) (sc_seq (C := C_X6_status) (p1 := 46) (sc_istore_n (C := C_X6_status) (p1 := 45) (i := 2) (ec_iadd (C := C_X6_status) (p1 := 38) (p2 := 44) (ec_iload_n (C := C_X6_status) (i := 2) dX6_status_37 rfl) (ec_ai (C := C_X6_status) (p1 := 42) (p2 := 43) (ec_gr (C := C_X6_status) (p1 := 39) (ec_aload_n (C := C_X6_status) (i := 0) dX6_status_38 rfl) f_X6_36 dX6_status_39) (ec_iload_n (C := C_X6_status) (i := 3) dX6_status_42 rfl) dX6_status_43) dX6_status_44) dX6_status_45 rfl (Nat.le_of_ble_eq_true rfl))
  (sc_iinc (C := C_X6_status) (v := (1)) dX6_status_46 rfl (Nat.le_of_ble_eq_true rfl))) dX6_status_49 rfl) FU)
def S_X6_status : SD := (s_seq (s_if (b_not (b_of (e_call prI D_X6_isIn 3 (a_snoc Value.int (a_snoc Value.int (a_snoc Value.int a_nil (e_li 1)) (e_c (-1 : Int32))) (e_c (6 : Int32)))))) (s_ret Value.int (e_call prI D_X6_finding 2 (a_recv 6 (a_snoc Value.int (a_snoc Value.ref a_nil (e_lr 0)) (e_c (0 : Int32)))))) s_skip)
  (s_seq (s_if (e_un (fun (x : Int32) => decide (0 ≤ x)) (e_li 1)) (s_ret Value.int (e_ai (e_gr 6 5 (e_lr 0)) (e_li 1))) s_skip)
  (s_seq (s_st Value.int 2 (e_c (0 : Int32)))
  (s_seq (s_sc 3 (s_seq (s_st Value.int 3 (e_c (0 : Int32)))
  W_X6_status_1))
  (s_ret Value.int (e_li 2))))))
def D_X6_status : MDen := m_den 4 S_X6_status
set_option maxRecDepth 100000 in
set_option maxHeartbeats 4000000 in
theorem b_X6_status : SC C_X6_status 0 0 S_X6_status := by
  unfold S_X6_status
  exact (sc_seq (C := C_X6_status) (p1 := 16) (sc_if (C := C_X6_status) (pT := 10) (pF := 16) (p2 := 16) (bc_not (C := C_X6_status) (bc_of_T (C := C_X6_status) (p2 := 7) (tgt := 16) (ec_callS (C := C_X6_status) (m := 3) (p1 := 4) inj_I s_X6_isIn t_X6_isIn ⟨w_292, Nat.le_of_ble_eq_true rfl, Nat.le_of_ble_eq_true rfl⟩ (ac_snoc (C := C_X6_status) (n := 2) (c := 1) (p1 := 2) (ac_snoc (C := C_X6_status) (n := 1) (c := 1) (p1 := 1) (ac_snoc (C := C_X6_status) (n := 0) (c := 1) (p1 := 0) (ac_nil (C := C_X6_status)) (ec_iload_n (C := C_X6_status) (i := 1) dX6_status_0 rfl) rfl (fun _ => rfl) rfl) (ec_iconst (C := C_X6_status) (v := (-1 : Int32)) dX6_status_1 rfl) rfl (fun _ => rfl) rfl) (ec_bipush (C := C_X6_status) (v := (6 : Int32)) dX6_status_2 rfl) rfl (fun _ => rfl) rfl) (Nat.le_of_ble_eq_true rfl) dX6_status_4) dX6_status_7 rfl)) (sc_iret (C := C_X6_status) (p1 := 15) (ec_callV (C := C_X6_status) (m := 2) (p1 := 12) inj_I s_X6_finding t_X6_finding ⟨w_295, Nat.le_of_ble_eq_true rfl, Nat.le_of_ble_eq_true rfl⟩ (ac_snoc (C := C_X6_status) (n := 1) (c := 1) (p1 := 11) (ac_snoc (C := C_X6_status) (n := 0) (c := 1) (p1 := 10) (ac_nil (C := C_X6_status)) (ec_aload_n (C := C_X6_status) (i := 0) dX6_status_10 rfl) rfl (fun _ => rfl) rfl) (ec_iconst (C := C_X6_status) (v := (0 : Int32)) dX6_status_11 rfl) rfl (fun _ => rfl) rfl) (Nat.le_of_ble_eq_true rfl) dX6_status_12) dX6_status_15 rfl) sc_skip)
  (sc_seq (C := C_X6_status) (p1 := 27) (sc_if (C := C_X6_status) (pT := 20) (pF := 27) (p2 := 27) (bc_if_lt_F (C := C_X6_status) (p2 := 17) (tgt := 27) (ec_iload_n (C := C_X6_status) (i := 1) dX6_status_16 rfl) dX6_status_17 rfl) (sc_iret (C := C_X6_status) (p1 := 26) (ec_ai (C := C_X6_status) (p1 := 24) (p2 := 25) (ec_gr (C := C_X6_status) (p1 := 21) (ec_aload_n (C := C_X6_status) (i := 0) dX6_status_20 rfl) f_X6_36 dX6_status_21) (ec_iload_n (C := C_X6_status) (i := 1) dX6_status_24 rfl) dX6_status_25) dX6_status_26 rfl) sc_skip)
  (sc_seq (C := C_X6_status) (p1 := 29) (sc_istore_n (C := C_X6_status) (p1 := 28) (i := 2) (ec_iconst (C := C_X6_status) (v := (0 : Int32)) dX6_status_27 rfl) dX6_status_28 rfl (Nat.le_of_ble_eq_true rfl))
  (sc_seq (C := C_X6_status) (p1 := 52) (sc_sc (C := C_X6_status) (sc_seq (C := C_X6_status) (p1 := 31) (sc_istore_n (C := C_X6_status) (p1 := 30) (i := 3) (ec_iconst (C := C_X6_status) (v := (0 : Int32)) dX6_status_29 rfl) dX6_status_30 rfl (Nat.le_of_ble_eq_true rfl))
  bw_X6_status_1))
  (sc_iret (C := C_X6_status) (p1 := 53) (ec_iload_n (C := C_X6_status) (i := 2) dX6_status_52 rfl) dX6_status_53 rfl)))))
theorem s_X6_status : MS M_X6_status D_X6_status := ms_of b_X6_status (by decide +kernel) rfl rfl (fun _ => trivial)
/-- SmokeRoofsModel.<init>()V -/
abbrev C_X7_init : CX := (cX7_init, RX7, 2, 1, 12, "<init>", none, fun _ => True)
abbrev M_X7_init : MD := (yX7_init, C_X7_init)
theorem k_X7_init : MOK M_X7_init 0 := ⟨w_58, w_834, by decide +kernel, by decide +kernel, by decide +kernel⟩
def WB_X7_init_1 : DE Bool := (e_bin (fun (x y : Int32) => decide (x < y)) (e_li 1) (e_c (36 : Int32)))
def WS_X7_init_1 : SD := (s_seq (s_as (e_gr 7 0 (e_lr 0)) (e_bin (fun (x y : Int32) => x + y) (e_c (3 : Int32)) (e_li 1)) (e_c (-1 : Int32)))
  (s_inc 1 (1)))
def W_X7_init_1 : SD := s_while WB_X7_init_1 WS_X7_init_1 FU
set_option maxRecDepth 100000 in
set_option maxHeartbeats 4000000 in
theorem bw_X7_init_1 : SC C_X7_init 111 132 W_X7_init_1 := by
  unfold W_X7_init_1 WB_X7_init_1 WS_X7_init_1
  exact (sc_while (C := C_X7_init) (pB := 117) (pE := 132) (bc_icmp_ge_F (C := C_X7_init) (p1 := 112) (p2 := 114) (tgt := 132) (ec_iload_n (C := C_X7_init) (i := 1) dX7_init_111 rfl) (ec_bipush (C := C_X7_init) (v := (36 : Int32)) dX7_init_112 rfl) dX7_init_114 rfl)
  (sc_goto (C := C_X7_init) (p1 := 129) (sc_seq (C := C_X7_init) (p1 := 126) (sc_as (C := C_X7_init) (p1 := 121) (p2 := 124) (p3 := 125) (ec_gr (C := C_X7_init) (p1 := 118) (ec_aload_n (C := C_X7_init) (i := 0) dX7_init_117 rfl) f_X7_7 dX7_init_118) (ec_iadd (C := C_X7_init) (p1 := 122) (p2 := 123) (ec_iconst (C := C_X7_init) (v := (3 : Int32)) dX7_init_121 rfl) (ec_iload_n (C := C_X7_init) (i := 1) dX7_init_122 rfl) dX7_init_123) (ec_iconst (C := C_X7_init) (v := (-1 : Int32)) dX7_init_124 rfl) dX7_init_125)
  (sc_iinc (C := C_X7_init) (v := (1)) dX7_init_126 rfl (Nat.le_of_ble_eq_true rfl))) dX7_init_129 rfl) FU)
def WB_X7_init_2 : DE Bool := (e_bin (fun (x y : Int32) => decide (x < y)) (e_li 1) (e_c (10 : Int32)))
def WS_X7_init_2 : SD := (s_seq (s_as (e_gr 7 0 (e_lr 0)) (e_bin (fun (x y : Int32) => x + y) (e_c (725 : Int32)) (e_li 1)) (e_c (-1 : Int32)))
  (s_inc 1 (1)))
def W_X7_init_2 : SD := s_while WB_X7_init_2 WS_X7_init_2 FU
set_option maxRecDepth 100000 in
set_option maxHeartbeats 4000000 in
theorem bw_X7_init_2 : SC C_X7_init 134 157 W_X7_init_2 := by
  unfold W_X7_init_2 WB_X7_init_2 WS_X7_init_2
  exact (sc_while (C := C_X7_init) (pB := 140) (pE := 157) (bc_icmp_ge_F (C := C_X7_init) (p1 := 135) (p2 := 137) (tgt := 157) (ec_iload_n (C := C_X7_init) (i := 1) dX7_init_134 rfl) (ec_bipush (C := C_X7_init) (v := (10 : Int32)) dX7_init_135 rfl) dX7_init_137 rfl)
  (sc_goto (C := C_X7_init) (p1 := 154) (sc_seq (C := C_X7_init) (p1 := 151) (sc_as (C := C_X7_init) (p1 := 144) (p2 := 149) (p3 := 150) (ec_gr (C := C_X7_init) (p1 := 141) (ec_aload_n (C := C_X7_init) (i := 0) dX7_init_140 rfl) f_X7_7 dX7_init_141) (ec_iadd (C := C_X7_init) (p1 := 147) (p2 := 148) (ec_sipush (C := C_X7_init) (v := (725 : Int32)) dX7_init_144 rfl) (ec_iload_n (C := C_X7_init) (i := 1) dX7_init_147 rfl) dX7_init_148) (ec_iconst (C := C_X7_init) (v := (-1 : Int32)) dX7_init_149 rfl) dX7_init_150)
  (sc_iinc (C := C_X7_init) (v := (1)) dX7_init_151 rfl (Nat.le_of_ble_eq_true rfl))) dX7_init_154 rfl) FU)
def S_X7_init : SD := (s_seq (s_obj (e_lr 0))
  (s_seq (s_pff 7 0 (e_lr 0) (e_newi (e_c (735 : Int32))))
  (s_seq (s_pff 7 1 (e_lr 0) (e_newi (e_c (735 : Int32))))
  (s_seq (s_pff 7 2 (e_lr 0) (e_newi (e_c (735 : Int32))))
  (s_seq (s_pff 7 3 (e_lr 0) (e_newi (e_c (7 : Int32))))
  (s_seq (s_pff 7 5 (e_lr 0) (e_newi (e_c (36 : Int32))))
  (s_seq (s_pff 7 6 (e_lr 0) (e_newi (e_c (6 : Int32))))
  (s_seq (s_pff 7 10 (e_lr 0) (e_newi (e_c (6 : Int32))))
  (s_seq (s_pff 7 11 (e_lr 0) (e_newi (e_c (120 : Int32))))
  (s_seq (s_pff 7 17 (e_lr 0) (e_newi (e_c (4 : Int32))))
  (s_seq (s_pff 7 18 (e_lr 0) (e_newi (e_c (4 : Int32))))
  (s_seq (s_pff 7 19 (e_lr 0) (e_newi (e_c (160 : Int32))))
  (s_seq (s_pff 7 20 (e_lr 0) (e_newi (e_c (40 : Int32))))
  (s_seq (s_seq (s_as (e_gr 7 0 (e_lr 0)) (e_c (2 : Int32)) (e_c (1 : Int32)))
  (s_seq (s_sc 1 (s_seq (s_st Value.int 1 (e_c (0 : Int32)))
  W_X7_init_1))
  (s_sc 1 (s_seq (s_st Value.int 1 (e_c (0 : Int32)))
  W_X7_init_2))))
  s_retv))))))))))))))
def D_X7_init : MDen := m_den 2 S_X7_init
set_option maxRecDepth 100000 in
set_option maxHeartbeats 4000000 in
theorem b_X7_init : SC C_X7_init 0 0 S_X7_init := by
  unfold S_X7_init
  exact (sc_seq (C := C_X7_init) (p1 := 4) (sc_obj (C := C_X7_init) (p1 := 1) (ec_aload_n (C := C_X7_init) (i := 0) dX7_init_0 rfl) w_835 w_71 w_72 (by decide) dX7_init_1)
  (sc_seq (C := C_X7_init) (p1 := 13) (sc_pff (C := C_X7_init) (p1 := 5) (p2 := 10) (ec_aload_n (C := C_X7_init) (i := 0) dX7_init_4 rfl) (ec_newi (C := C_X7_init) (p1 := 8) (ec_sipush (C := C_X7_init) (v := (735 : Int32)) dX7_init_5 rfl) w_116 dX7_init_8) f_X7_7 (fun q hq => by cases hq; rfl) rfl (Or.inr ⟨_, rfl⟩) dX7_init_10)
  (sc_seq (C := C_X7_init) (p1 := 22) (sc_pff (C := C_X7_init) (p1 := 14) (p2 := 19) (ec_aload_n (C := C_X7_init) (i := 0) dX7_init_13 rfl) (ec_newi (C := C_X7_init) (p1 := 17) (ec_sipush (C := C_X7_init) (v := (735 : Int32)) dX7_init_14 rfl) w_116 dX7_init_17) f_X7_13 (fun q hq => by cases hq; rfl) rfl (Or.inr ⟨_, rfl⟩) dX7_init_19)
  (sc_seq (C := C_X7_init) (p1 := 31) (sc_pff (C := C_X7_init) (p1 := 23) (p2 := 28) (ec_aload_n (C := C_X7_init) (i := 0) dX7_init_22 rfl) (ec_newi (C := C_X7_init) (p1 := 26) (ec_sipush (C := C_X7_init) (v := (735 : Int32)) dX7_init_23 rfl) w_116 dX7_init_26) f_X7_16 (fun q hq => by cases hq; rfl) rfl (Or.inr ⟨_, rfl⟩) dX7_init_28)
  (sc_seq (C := C_X7_init) (p1 := 39) (sc_pff (C := C_X7_init) (p1 := 32) (p2 := 36) (ec_aload_n (C := C_X7_init) (i := 0) dX7_init_31 rfl) (ec_newi (C := C_X7_init) (p1 := 34) (ec_bipush (C := C_X7_init) (v := (7 : Int32)) dX7_init_32 rfl) w_116 dX7_init_34) f_X7_19 (fun q hq => by cases hq; rfl) rfl (Or.inr ⟨_, rfl⟩) dX7_init_36)
  (sc_seq (C := C_X7_init) (p1 := 47) (sc_pff (C := C_X7_init) (p1 := 40) (p2 := 44) (ec_aload_n (C := C_X7_init) (i := 0) dX7_init_39 rfl) (ec_newi (C := C_X7_init) (p1 := 42) (ec_bipush (C := C_X7_init) (v := (36 : Int32)) dX7_init_40 rfl) w_116 dX7_init_42) f_X7_22 (fun q hq => by cases hq; rfl) rfl (Or.inr ⟨_, rfl⟩) dX7_init_44)
  (sc_seq (C := C_X7_init) (p1 := 55) (sc_pff (C := C_X7_init) (p1 := 48) (p2 := 52) (ec_aload_n (C := C_X7_init) (i := 0) dX7_init_47 rfl) (ec_newi (C := C_X7_init) (p1 := 50) (ec_bipush (C := C_X7_init) (v := (6 : Int32)) dX7_init_48 rfl) w_116 dX7_init_50) f_X7_25 (fun q hq => by cases hq; rfl) rfl (Or.inr ⟨_, rfl⟩) dX7_init_52)
  (sc_seq (C := C_X7_init) (p1 := 63) (sc_pff (C := C_X7_init) (p1 := 56) (p2 := 60) (ec_aload_n (C := C_X7_init) (i := 0) dX7_init_55 rfl) (ec_newi (C := C_X7_init) (p1 := 58) (ec_bipush (C := C_X7_init) (v := (6 : Int32)) dX7_init_56 rfl) w_116 dX7_init_58) f_X7_28 (fun q hq => by cases hq; rfl) rfl (Or.inr ⟨_, rfl⟩) dX7_init_60)
  (sc_seq (C := C_X7_init) (p1 := 71) (sc_pff (C := C_X7_init) (p1 := 64) (p2 := 68) (ec_aload_n (C := C_X7_init) (i := 0) dX7_init_63 rfl) (ec_newi (C := C_X7_init) (p1 := 66) (ec_bipush (C := C_X7_init) (v := (120 : Int32)) dX7_init_64 rfl) w_116 dX7_init_66) f_X7_31 (fun q hq => by cases hq; rfl) rfl (Or.inr ⟨_, rfl⟩) dX7_init_68)
  (sc_seq (C := C_X7_init) (p1 := 78) (sc_pff (C := C_X7_init) (p1 := 72) (p2 := 75) (ec_aload_n (C := C_X7_init) (i := 0) dX7_init_71 rfl) (ec_newi (C := C_X7_init) (p1 := 73) (ec_iconst (C := C_X7_init) (v := (4 : Int32)) dX7_init_72 rfl) w_116 dX7_init_73) f_X7_34 (fun q hq => by cases hq; rfl) rfl (Or.inr ⟨_, rfl⟩) dX7_init_75)
  (sc_seq (C := C_X7_init) (p1 := 85) (sc_pff (C := C_X7_init) (p1 := 79) (p2 := 82) (ec_aload_n (C := C_X7_init) (i := 0) dX7_init_78 rfl) (ec_newi (C := C_X7_init) (p1 := 80) (ec_iconst (C := C_X7_init) (v := (4 : Int32)) dX7_init_79 rfl) w_116 dX7_init_80) f_X7_37 (fun q hq => by cases hq; rfl) rfl (Or.inr ⟨_, rfl⟩) dX7_init_82)
  (sc_seq (C := C_X7_init) (p1 := 94) (sc_pff (C := C_X7_init) (p1 := 86) (p2 := 91) (ec_aload_n (C := C_X7_init) (i := 0) dX7_init_85 rfl) (ec_newi (C := C_X7_init) (p1 := 89) (ec_sipush (C := C_X7_init) (v := (160 : Int32)) dX7_init_86 rfl) w_116 dX7_init_89) f_X7_40 (fun q hq => by cases hq; rfl) rfl (Or.inr ⟨_, rfl⟩) dX7_init_91)
  (sc_seq (C := C_X7_init) (p1 := 102) (sc_pff (C := C_X7_init) (p1 := 95) (p2 := 99) (ec_aload_n (C := C_X7_init) (i := 0) dX7_init_94 rfl) (ec_newi (C := C_X7_init) (p1 := 97) (ec_bipush (C := C_X7_init) (v := (40 : Int32)) dX7_init_95 rfl) w_116 dX7_init_97) f_X7_43 (fun q hq => by cases hq; rfl) rfl (Or.inr ⟨_, rfl⟩) dX7_init_99)
  (sc_seq (C := C_X7_init) (p1 := 157) (sc_seq (C := C_X7_init) (p1 := 109) (sc_as (C := C_X7_init) (p1 := 106) (p2 := 107) (p3 := 108) (ec_gr (C := C_X7_init) (p1 := 103) (ec_aload_n (C := C_X7_init) (i := 0) dX7_init_102 rfl) f_X7_7 dX7_init_103) (ec_iconst (C := C_X7_init) (v := (2 : Int32)) dX7_init_106 rfl) (ec_iconst (C := C_X7_init) (v := (1 : Int32)) dX7_init_107 rfl) dX7_init_108)
  (sc_seq (C := C_X7_init) (p1 := 132) (sc_sc (C := C_X7_init) (sc_seq (C := C_X7_init) (p1 := 111) (sc_istore_n (C := C_X7_init) (p1 := 110) (i := 1) (ec_iconst (C := C_X7_init) (v := (0 : Int32)) dX7_init_109 rfl) dX7_init_110 rfl (Nat.le_of_ble_eq_true rfl))
  bw_X7_init_1))
  (sc_sc (C := C_X7_init) (sc_seq (C := C_X7_init) (p1 := 134) (sc_istore_n (C := C_X7_init) (p1 := 133) (i := 1) (ec_iconst (C := C_X7_init) (v := (0 : Int32)) dX7_init_132 rfl) dX7_init_133 rfl (Nat.le_of_ble_eq_true rfl))
  bw_X7_init_2))))
  (sc_vret (C := C_X7_init) dX7_init_157 rfl)))))))))))))))
theorem s_X7_init : MS M_X7_init D_X7_init := ms_of b_X7_init (by decide +kernel) rfl rfl (fun _ => trivial)
/-- SmokeRoofsModel.in(JJJ)Z -/
abbrev C_X7_in : CX := (cX7_in, RX7, 6, 0, 0, "in", (some .boolean), fun _ => True)
abbrev M_X7_in : MD := (yX7_in, C_X7_in)
theorem k_X7_in : MOK M_X7_in 3 := ⟨w_58, w_910, by decide +kernel, by decide +kernel, by decide +kernel⟩
theorem t_X7_in : MST M_X7_in 3 := ⟨k_X7_in, w_909⟩
def S_X7_in : SD := (s_retz (e_b (b_and (e_un (fun (x : Int32) => decide (0 ≤ x)) (e_bin (fun x y => lg_cmp x y) (e_lj 0) (e_lj 2))) (e_un (fun (x : Int32) => decide (x ≤ 0)) (e_bin (fun x y => lg_cmp x y) (e_lj 0) (e_lj 4))))))
def D_X7_in : MDen := m_den 6 S_X7_in
set_option maxRecDepth 100000 in
set_option maxHeartbeats 4000000 in
theorem b_X7_in : SC C_X7_in 0 0 S_X7_in := by
  unfold S_X7_in
  exact (sc_zret (C := C_X7_in) (p1 := 18) (ec_bm (C := C_X7_in) (pT := 13) (bc_and (C := C_X7_in) (p1 := 6) (bc_if_lt_F (C := C_X7_in) (p2 := 3) (tgt := 17) (ec_lcmp (C := C_X7_in) (p1 := 1) (p2 := 2) (ec_lload_n (C := C_X7_in) (i := 0) dX7_in_0 rfl) (ec_lload_n (C := C_X7_in) (i := 2) dX7_in_1 rfl) dX7_in_2) dX7_in_3 rfl) (bc_if_gt_F (C := C_X7_in) (p2 := 10) (tgt := 17) (ec_lcmp (C := C_X7_in) (p1 := 7) (p2 := 9) (ec_lload_n (C := C_X7_in) (i := 0) dX7_in_6 rfl) (ec_lload (C := C_X7_in) dX7_in_7) dX7_in_9) dX7_in_10 rfl)) dX7_in_13 dX7_in_14 rfl dX7_in_17) dX7_in_18 rfl)
theorem s_X7_in : MS M_X7_in D_X7_in := ms_of b_X7_in (by decide +kernel) rfl rfl (fun _ => trivial)
/-- SmokeRoofsModel.finds(I)I -/
abbrev C_X7_finds : CX := (cX7_finds, RX7, 2, 0, 0, "finds", (some .int), fun _ => True)
abbrev M_X7_finds : MD := (yX7_finds, C_X7_finds)
theorem k_X7_finds : MOK M_X7_finds 1 := ⟨w_58, w_917, by decide +kernel, by decide +kernel, by decide +kernel⟩
theorem t_X7_finds : MVT M_X7_finds 1 7 := ⟨k_X7_finds, w_916, w_14, by decide, _, rfl, rfl⟩
def S_X7_finds : SD := (s_seq (s_aop (fun (x y : Int32) => x + y) (e_gr 7 3 (e_lr 0)) (e_bin (fun (x y : Int32) => x - y) (e_c (-1000001 : Int32)) (e_li 1)) (e_c (1 : Int32)))
  (s_ret Value.int (e_li 1)))
def D_X7_finds : MDen := m_den 2 S_X7_finds
set_option maxRecDepth 100000 in
set_option maxHeartbeats 4000000 in
theorem b_X7_finds : SC C_X7_finds 0 0 S_X7_finds := by
  unfold S_X7_finds
  exact (sc_seq (C := C_X7_finds) (p1 := 13) (sc_aop_iadd (C := C_X7_finds) (p1 := 4) (p2 := 8) (p3 := 11) (ec_gr (C := C_X7_finds) (p1 := 1) (ec_aload_n (C := C_X7_finds) (i := 0) dX7_finds_0 rfl) f_X7_19 dX7_finds_1) (ec_isub (C := C_X7_finds) (p1 := 6) (p2 := 7) (ec_ldc (C := C_X7_finds) (v := (-1000001 : Int32)) dX7_finds_4 w_913) (ec_iload_n (C := C_X7_finds) (i := 1) dX7_finds_6 rfl) dX7_finds_7) dX7_finds_8 dX7_finds_9 (ec_iconst (C := C_X7_finds) (v := (1 : Int32)) dX7_finds_10 rfl) dX7_finds_11 dX7_finds_12)
  (sc_iret (C := C_X7_finds) (p1 := 14) (ec_iload_n (C := C_X7_finds) (i := 1) dX7_finds_13 rfl) dX7_finds_14 rfl))
theorem s_X7_finds : MS M_X7_finds D_X7_finds := ms_of b_X7_finds (by decide +kernel) rfl rfl (fun _ => trivial)
/-- SmokeRoofsModel.isCell(I)Z -/
abbrev C_X7_isCell : CX := (cX7_isCell, RX7, 1, 1, 25, "isCell", (some .boolean), fun _ => True)
abbrev M_X7_isCell : MD := (yX7_isCell, C_X7_isCell)
theorem k_X7_isCell : MOK M_X7_isCell 1 := ⟨w_58, w_906, by decide +kernel, by decide +kernel, by decide +kernel⟩
theorem t_X7_isCell : MST M_X7_isCell 1 := ⟨k_X7_isCell, w_905⟩
def S_X7_isCell : SD := (s_retz (e_call prI D_X7_in 3 (a_snoc Value.long (a_snoc Value.long (a_snoc Value.long a_nil (e_un (fun (x : Int32) => x.toInt64) (e_li 0))) (e_c (0 : Int64))) (e_c (35 : Int64)))))
def D_X7_isCell : MDen := m_den 1 S_X7_isCell
set_option maxRecDepth 100000 in
set_option maxHeartbeats 4000000 in
theorem b_X7_isCell : SC C_X7_isCell 0 0 S_X7_isCell := by
  unfold S_X7_isCell
  exact (sc_zret (C := C_X7_isCell) (p1 := 9) (ec_callS (C := C_X7_isCell) (m := 6) (p1 := 6) inj_I s_X7_in t_X7_in ⟨w_908, Nat.le_of_ble_eq_true rfl, Nat.le_of_ble_eq_true rfl⟩ (ac_snoc (C := C_X7_isCell) (n := 4) (c := 2) (p1 := 3) (ac_snoc (C := C_X7_isCell) (n := 2) (c := 2) (p1 := 2) (ac_snoc (C := C_X7_isCell) (n := 0) (c := 2) (p1 := 0) (ac_nil (C := C_X7_isCell)) (ec_i2l (C := C_X7_isCell) (p1 := 1) (ec_iload_n (C := C_X7_isCell) (i := 0) dX7_isCell_0 rfl) dX7_isCell_1) rfl (fun _ => rfl) rfl) (ec_lconst (C := C_X7_isCell) (v := (0 : Int64)) dX7_isCell_2 rfl) rfl (fun _ => rfl) rfl) (ec_ldc2 (C := C_X7_isCell) (v := (35 : Int64)) dX7_isCell_3 w_907) rfl (fun _ => rfl) rfl) (Nat.le_of_ble_eq_true rfl) dX7_isCell_6) dX7_isCell_9 rfl)
theorem s_X7_isCell : MS M_X7_isCell D_X7_isCell := ms_of b_X7_isCell (by decide +kernel) rfl rfl (fun _ => trivial)
/-- SmokeRoofsModel.isOwner(I)Z -/
abbrev C_X7_isOwner : CX := (cX7_isOwner, RX7, 1, 1, 25, "isOwner", (some .boolean), fun _ => True)
abbrev M_X7_isOwner : MD := (yX7_isOwner, C_X7_isOwner)
theorem k_X7_isOwner : MOK M_X7_isOwner 1 := ⟨w_58, w_934, by decide +kernel, by decide +kernel, by decide +kernel⟩
theorem t_X7_isOwner : MST M_X7_isOwner 1 := ⟨k_X7_isOwner, w_933⟩
def S_X7_isOwner : SD := (s_retz (e_call prI D_X7_in 3 (a_snoc Value.long (a_snoc Value.long (a_snoc Value.long a_nil (e_un (fun (x : Int32) => x.toInt64) (e_li 0))) (e_c (0 : Int64))) (e_c (5 : Int64)))))
def D_X7_isOwner : MDen := m_den 1 S_X7_isOwner
set_option maxRecDepth 100000 in
set_option maxHeartbeats 4000000 in
theorem b_X7_isOwner : SC C_X7_isOwner 0 0 S_X7_isOwner := by
  unfold S_X7_isOwner
  exact (sc_zret (C := C_X7_isOwner) (p1 := 9) (ec_callS (C := C_X7_isOwner) (m := 6) (p1 := 6) inj_I s_X7_in t_X7_in ⟨w_908, Nat.le_of_ble_eq_true rfl, Nat.le_of_ble_eq_true rfl⟩ (ac_snoc (C := C_X7_isOwner) (n := 4) (c := 2) (p1 := 3) (ac_snoc (C := C_X7_isOwner) (n := 2) (c := 2) (p1 := 2) (ac_snoc (C := C_X7_isOwner) (n := 0) (c := 2) (p1 := 0) (ac_nil (C := C_X7_isOwner)) (ec_i2l (C := C_X7_isOwner) (p1 := 1) (ec_iload_n (C := C_X7_isOwner) (i := 0) dX7_isOwner_0 rfl) dX7_isOwner_1) rfl (fun _ => rfl) rfl) (ec_lconst (C := C_X7_isOwner) (v := (0 : Int64)) dX7_isOwner_2 rfl) rfl (fun _ => rfl) rfl) (ec_ldc2 (C := C_X7_isOwner) (v := (5 : Int64)) dX7_isOwner_3 w_912) rfl (fun _ => rfl) rfl) (Nat.le_of_ble_eq_true rfl) dX7_isOwner_6) dX7_isOwner_9 rfl)
theorem s_X7_isOwner : MS M_X7_isOwner D_X7_isOwner := ms_of b_X7_isOwner (by decide +kernel) rfl rfl (fun _ => trivial)
/-- SmokeRoofsModel.isClock(I)Z -/
abbrev C_X7_isClock : CX := (cX7_isClock, RX7, 1, 1, 25, "isClock", (some .boolean), fun _ => True)
abbrev M_X7_isClock : MD := (yX7_isClock, C_X7_isClock)
theorem k_X7_isClock : MOK M_X7_isClock 1 := ⟨w_58, w_924, by decide +kernel, by decide +kernel, by decide +kernel⟩
theorem t_X7_isClock : MST M_X7_isClock 1 := ⟨k_X7_isClock, w_923⟩
def S_X7_isClock : SD := (s_retz (e_call prI D_X7_in 3 (a_snoc Value.long (a_snoc Value.long (a_snoc Value.long a_nil (e_un (fun (x : Int32) => x.toInt64) (e_li 0))) (e_c (0 : Int64))) (e_c (23 : Int64)))))
def D_X7_isClock : MDen := m_den 1 S_X7_isClock
set_option maxRecDepth 100000 in
set_option maxHeartbeats 4000000 in
theorem b_X7_isClock : SC C_X7_isClock 0 0 S_X7_isClock := by
  unfold S_X7_isClock
  exact (sc_zret (C := C_X7_isClock) (p1 := 9) (ec_callS (C := C_X7_isClock) (m := 6) (p1 := 6) inj_I s_X7_in t_X7_in ⟨w_908, Nat.le_of_ble_eq_true rfl, Nat.le_of_ble_eq_true rfl⟩ (ac_snoc (C := C_X7_isClock) (n := 4) (c := 2) (p1 := 3) (ac_snoc (C := C_X7_isClock) (n := 2) (c := 2) (p1 := 2) (ac_snoc (C := C_X7_isClock) (n := 0) (c := 2) (p1 := 0) (ac_nil (C := C_X7_isClock)) (ec_i2l (C := C_X7_isClock) (p1 := 1) (ec_iload_n (C := C_X7_isClock) (i := 0) dX7_isClock_0 rfl) dX7_isClock_1) rfl (fun _ => rfl) rfl) (ec_lconst (C := C_X7_isClock) (v := (0 : Int64)) dX7_isClock_2 rfl) rfl (fun _ => rfl) rfl) (ec_ldc2 (C := C_X7_isClock) (v := (23 : Int64)) dX7_isClock_3 w_925) rfl (fun _ => rfl) rfl) (Nat.le_of_ble_eq_true rfl) dX7_isClock_6) dX7_isClock_9 rfl)
theorem s_X7_isClock : MS M_X7_isClock D_X7_isClock := ms_of b_X7_isClock (by decide +kernel) rfl rfl (fun _ => trivial)
/-- SmokeRoofsModel.isChimney(I)Z -/
abbrev C_X7_isChimney : CX := (cX7_isChimney, RX7, 2, 1, 25, "isChimney", (some .boolean), fun _ => True)
abbrev M_X7_isChimney : MD := (yX7_isChimney, C_X7_isChimney)
theorem k_X7_isChimney : MOK M_X7_isChimney 1 := ⟨w_58, w_950, by decide +kernel, by decide +kernel, by decide +kernel⟩
theorem t_X7_isChimney : MVT M_X7_isChimney 1 7 := ⟨k_X7_isChimney, w_949, w_16, by decide, _, rfl, rfl⟩
def S_X7_isChimney : SD := (s_retz (e_call prI D_X7_in 3 (a_snoc Value.long (a_snoc Value.long (a_snoc Value.long a_nil (e_un (fun (x : Int32) => x.toInt64) (e_li 1))) (e_c (0 : Int64))) (e_un (fun (x : Int32) => x.toInt64) (e_bin (fun (x y : Int32) => x - y) (e_ai (e_gr 7 0 (e_lr 0)) (e_c (1 : Int32))) (e_c (1 : Int32)))))))
def D_X7_isChimney : MDen := m_den 2 S_X7_isChimney
set_option maxRecDepth 100000 in
set_option maxHeartbeats 4000000 in
theorem b_X7_isChimney : SC C_X7_isChimney 0 0 S_X7_isChimney := by
  unfold S_X7_isChimney
  exact (sc_zret (C := C_X7_isChimney) (p1 := 15) (ec_callS (C := C_X7_isChimney) (m := 6) (p1 := 12) inj_I s_X7_in t_X7_in ⟨w_908, Nat.le_of_ble_eq_true rfl, Nat.le_of_ble_eq_true rfl⟩ (ac_snoc (C := C_X7_isChimney) (n := 4) (c := 2) (p1 := 3) (ac_snoc (C := C_X7_isChimney) (n := 2) (c := 2) (p1 := 2) (ac_snoc (C := C_X7_isChimney) (n := 0) (c := 2) (p1 := 0) (ac_nil (C := C_X7_isChimney)) (ec_i2l (C := C_X7_isChimney) (p1 := 1) (ec_iload_n (C := C_X7_isChimney) (i := 1) dX7_isChimney_0 rfl) dX7_isChimney_1) rfl (fun _ => rfl) rfl) (ec_lconst (C := C_X7_isChimney) (v := (0 : Int64)) dX7_isChimney_2 rfl) rfl (fun _ => rfl) rfl) (ec_i2l (C := C_X7_isChimney) (p1 := 11) (ec_isub (C := C_X7_isChimney) (p1 := 9) (p2 := 10) (ec_ai (C := C_X7_isChimney) (p1 := 7) (p2 := 8) (ec_gr (C := C_X7_isChimney) (p1 := 4) (ec_aload_n (C := C_X7_isChimney) (i := 0) dX7_isChimney_3 rfl) f_X7_7 dX7_isChimney_4) (ec_iconst (C := C_X7_isChimney) (v := (1 : Int32)) dX7_isChimney_7 rfl) dX7_isChimney_8) (ec_iconst (C := C_X7_isChimney) (v := (1 : Int32)) dX7_isChimney_9 rfl) dX7_isChimney_10) dX7_isChimney_11) rfl (fun _ => rfl) rfl) (Nat.le_of_ble_eq_true rfl) dX7_isChimney_12) dX7_isChimney_15 rfl)
theorem s_X7_isChimney : MS M_X7_isChimney D_X7_isChimney := ms_of b_X7_isChimney (by decide +kernel) rfl rfl (fun _ => trivial)
/-- SmokeRoofsModel.has(II)Z -/
abbrev C_X7_has : CX := (cX7_has, RX7, 2, 0, 0, "has", (some .boolean), fun _ => True)
abbrev M_X7_has : MD := (yX7_has, C_X7_has)
theorem k_X7_has : MOK M_X7_has 2 := ⟨w_58, w_1115, by decide +kernel, by decide +kernel, by decide +kernel⟩
theorem t_X7_has : MST M_X7_has 2 := ⟨k_X7_has, w_1114⟩
def S_X7_has : SD := (s_retz (e_b (e_bin (fun (x y : Int32) => decide (x = y)) (e_bin (fun (x y : Int32) => x &&& y) (e_bin (fun (x y : Int32) => x >>> (y &&& 31)) (e_li 0) (e_li 1)) (e_c (1 : Int32))) (e_c (1 : Int32)))))
def D_X7_has : MDen := m_den 2 S_X7_has
set_option maxRecDepth 100000 in
set_option maxHeartbeats 4000000 in
theorem b_X7_has : SC C_X7_has 0 0 S_X7_has := by
  unfold S_X7_has
  exact (sc_zret (C := C_X7_has) (p1 := 14) (ec_bm (C := C_X7_has) (pT := 9) (bc_icmp_ne_F (C := C_X7_has) (p1 := 5) (p2 := 6) (tgt := 13) (ec_iand (C := C_X7_has) (p1 := 3) (p2 := 4) (ec_ishr (C := C_X7_has) (p1 := 1) (p2 := 2) (ec_iload_n (C := C_X7_has) (i := 0) dX7_has_0 rfl) (ec_iload_n (C := C_X7_has) (i := 1) dX7_has_1 rfl) dX7_has_2) (ec_iconst (C := C_X7_has) (v := (1 : Int32)) dX7_has_3 rfl) dX7_has_4) (ec_iconst (C := C_X7_has) (v := (1 : Int32)) dX7_has_5 rfl) dX7_has_6 rfl) dX7_has_9 dX7_has_10 rfl dX7_has_13) dX7_has_14 rfl)
theorem s_X7_has : MS M_X7_has D_X7_has := ms_of b_X7_has (by decide +kernel) rfl rfl (fun _ => trivial)
/-- SmokeRoofsModel.next()I -/
abbrev C_X7_next : CX := (cX7_next, RX7, 1, 0, 0, "next", (some .int), fun _ => True)
abbrev M_X7_next : MD := (yX7_next, C_X7_next)
theorem k_X7_next : MOK M_X7_next 0 := ⟨w_58, w_1143, by decide +kernel, by decide +kernel, by decide +kernel⟩
theorem t_X7_next : MVT M_X7_next 0 7 := ⟨k_X7_next, w_1142, w_36, by decide, _, rfl, rfl⟩
def S_X7_next : SD := (s_seq (s_as (e_gr 7 0 (e_lr 0)) (e_c (2 : Int32)) (e_bin (fun (x y : Int32) => x + y) (e_bin (fun (x y : Int32) => x * y) (e_ai (e_gr 7 0 (e_lr 0)) (e_c (2 : Int32))) (e_c (1103515245 : Int32))) (e_c (12345 : Int32))))
  (s_ret Value.int (e_bin (fun (x y : Int32) => (x.toUInt32 >>> (y.toUInt32 &&& Int32.toUInt32 31)).toInt32) (e_ai (e_gr 7 0 (e_lr 0)) (e_c (2 : Int32))) (e_c (8 : Int32)))))
def D_X7_next : MDen := m_den 1 S_X7_next
set_option maxRecDepth 100000 in
set_option maxHeartbeats 4000000 in
theorem b_X7_next : SC C_X7_next 0 0 S_X7_next := by
  unfold S_X7_next
  exact (sc_seq (C := C_X7_next) (p1 := 19) (sc_as (C := C_X7_next) (p1 := 4) (p2 := 5) (p3 := 18) (ec_gr (C := C_X7_next) (p1 := 1) (ec_aload_n (C := C_X7_next) (i := 0) dX7_next_0 rfl) f_X7_7 dX7_next_1) (ec_iconst (C := C_X7_next) (v := (2 : Int32)) dX7_next_4 rfl) (ec_iadd (C := C_X7_next) (p1 := 14) (p2 := 17) (ec_imul (C := C_X7_next) (p1 := 11) (p2 := 13) (ec_ai (C := C_X7_next) (p1 := 9) (p2 := 10) (ec_gr (C := C_X7_next) (p1 := 6) (ec_aload_n (C := C_X7_next) (i := 0) dX7_next_5 rfl) f_X7_7 dX7_next_6) (ec_iconst (C := C_X7_next) (v := (2 : Int32)) dX7_next_9 rfl) dX7_next_10) (ec_ldc (C := C_X7_next) (v := (1103515245 : Int32)) dX7_next_11 w_1144) dX7_next_13) (ec_sipush (C := C_X7_next) (v := (12345 : Int32)) dX7_next_14 rfl) dX7_next_17) dX7_next_18)
  (sc_iret (C := C_X7_next) (p1 := 28) (ec_iushr (C := C_X7_next) (p1 := 25) (p2 := 27) (ec_ai (C := C_X7_next) (p1 := 23) (p2 := 24) (ec_gr (C := C_X7_next) (p1 := 20) (ec_aload_n (C := C_X7_next) (i := 0) dX7_next_19 rfl) f_X7_7 dX7_next_20) (ec_iconst (C := C_X7_next) (v := (2 : Int32)) dX7_next_23 rfl) dX7_next_24) (ec_bipush (C := C_X7_next) (v := (8 : Int32)) dX7_next_25 rfl) dX7_next_27) dX7_next_28 rfl))
theorem s_X7_next : MS M_X7_next D_X7_next := ms_of b_X7_next (by decide +kernel) rfl rfl (fun _ => trivial)
/-- SmokeRoofsModel.puts()V -/
abbrev C_X7_puts : CX := (cX7_puts, RX7, 2, 0, 0, "puts", none, fun _ => True)
abbrev M_X7_puts : MD := (yX7_puts, C_X7_puts)
theorem k_X7_puts : MOK M_X7_puts 0 := ⟨w_58, w_1054, by decide +kernel, by decide +kernel, by decide +kernel⟩
theorem t_X7_puts : MVT M_X7_puts 0 7 := ⟨k_X7_puts, w_1053, w_29, by decide, _, rfl, rfl⟩
def WB_X7_puts_1 : DE Bool := (e_bin (fun (x y : Int32) => decide (x < y)) (e_li 1) (e_c (735 : Int32)))
def WS_X7_puts_1 : SD := (s_seq (s_as (e_gr 7 2 (e_lr 0)) (e_li 1) (e_ai (e_gr 7 0 (e_lr 0)) (e_li 1)))
  (s_inc 1 (1)))
def W_X7_puts_1 : SD := s_while WB_X7_puts_1 WS_X7_puts_1 FU
set_option maxRecDepth 100000 in
set_option maxHeartbeats 4000000 in
theorem bw_X7_puts_1 : SC C_X7_puts 2 27 W_X7_puts_1 := by
  unfold W_X7_puts_1 WB_X7_puts_1 WS_X7_puts_1
  exact (sc_while (C := C_X7_puts) (pB := 9) (pE := 27) (bc_icmp_ge_F (C := C_X7_puts) (p1 := 3) (p2 := 6) (tgt := 27) (ec_iload_n (C := C_X7_puts) (i := 1) dX7_puts_2 rfl) (ec_sipush (C := C_X7_puts) (v := (735 : Int32)) dX7_puts_3 rfl) dX7_puts_6 rfl)
  (sc_goto (C := C_X7_puts) (p1 := 24) (sc_seq (C := C_X7_puts) (p1 := 21) (sc_as (C := C_X7_puts) (p1 := 13) (p2 := 14) (p3 := 20) (ec_gr (C := C_X7_puts) (p1 := 10) (ec_aload_n (C := C_X7_puts) (i := 0) dX7_puts_9 rfl) f_X7_16 dX7_puts_10) (ec_iload_n (C := C_X7_puts) (i := 1) dX7_puts_13 rfl) (ec_ai (C := C_X7_puts) (p1 := 18) (p2 := 19) (ec_gr (C := C_X7_puts) (p1 := 15) (ec_aload_n (C := C_X7_puts) (i := 0) dX7_puts_14 rfl) f_X7_7 dX7_puts_15) (ec_iload_n (C := C_X7_puts) (i := 1) dX7_puts_18 rfl) dX7_puts_19) dX7_puts_20)
  (sc_iinc (C := C_X7_puts) (v := (1)) dX7_puts_21 rfl (Nat.le_of_ble_eq_true rfl))) dX7_puts_24 rfl) FU)
def S_X7_puts : SD := (s_seq (s_sc 1 (s_seq (s_st Value.int 1 (e_c (0 : Int32)))
  W_X7_puts_1))
  s_retv)
def D_X7_puts : MDen := m_den 2 S_X7_puts
set_option maxRecDepth 100000 in
set_option maxHeartbeats 4000000 in
theorem b_X7_puts : SC C_X7_puts 0 0 S_X7_puts := by
  unfold S_X7_puts
  exact (sc_seq (C := C_X7_puts) (p1 := 27) (sc_sc (C := C_X7_puts) (sc_seq (C := C_X7_puts) (p1 := 2) (sc_istore_n (C := C_X7_puts) (p1 := 1) (i := 1) (ec_iconst (C := C_X7_puts) (v := (0 : Int32)) dX7_puts_0 rfl) dX7_puts_1 rfl (Nat.le_of_ble_eq_true rfl))
  bw_X7_puts_1))
  (sc_vret (C := C_X7_puts) dX7_puts_27 rfl))
theorem s_X7_puts : MS M_X7_puts D_X7_puts := ms_of b_X7_puts (by decide +kernel) rfl rfl (fun _ => trivial)
/-- SmokeRoofsModel.putsBack()V -/
abbrev C_X7_putsBack : CX := (cX7_putsBack, RX7, 2, 0, 0, "putsBack", none, fun _ => True)
abbrev M_X7_putsBack : MD := (yX7_putsBack, C_X7_putsBack)
theorem k_X7_putsBack : MOK M_X7_putsBack 0 := ⟨w_58, w_1062, by decide +kernel, by decide +kernel, by decide +kernel⟩
theorem t_X7_putsBack : MVT M_X7_putsBack 0 7 := ⟨k_X7_putsBack, w_1061, w_31, by decide, _, rfl, rfl⟩
def WB_X7_putsBack_1 : DE Bool := (e_bin (fun (x y : Int32) => decide (x < y)) (e_li 1) (e_c (735 : Int32)))
def WS_X7_putsBack_1 : SD := (s_seq (s_as (e_gr 7 0 (e_lr 0)) (e_li 1) (e_ai (e_gr 7 2 (e_lr 0)) (e_li 1)))
  (s_inc 1 (1)))
def W_X7_putsBack_1 : SD := s_while WB_X7_putsBack_1 WS_X7_putsBack_1 FU
set_option maxRecDepth 100000 in
set_option maxHeartbeats 4000000 in
theorem bw_X7_putsBack_1 : SC C_X7_putsBack 2 27 W_X7_putsBack_1 := by
  unfold W_X7_putsBack_1 WB_X7_putsBack_1 WS_X7_putsBack_1
  exact (sc_while (C := C_X7_putsBack) (pB := 9) (pE := 27) (bc_icmp_ge_F (C := C_X7_putsBack) (p1 := 3) (p2 := 6) (tgt := 27) (ec_iload_n (C := C_X7_putsBack) (i := 1) dX7_putsBack_2 rfl) (ec_sipush (C := C_X7_putsBack) (v := (735 : Int32)) dX7_putsBack_3 rfl) dX7_putsBack_6 rfl)
  (sc_goto (C := C_X7_putsBack) (p1 := 24) (sc_seq (C := C_X7_putsBack) (p1 := 21) (sc_as (C := C_X7_putsBack) (p1 := 13) (p2 := 14) (p3 := 20) (ec_gr (C := C_X7_putsBack) (p1 := 10) (ec_aload_n (C := C_X7_putsBack) (i := 0) dX7_putsBack_9 rfl) f_X7_7 dX7_putsBack_10) (ec_iload_n (C := C_X7_putsBack) (i := 1) dX7_putsBack_13 rfl) (ec_ai (C := C_X7_putsBack) (p1 := 18) (p2 := 19) (ec_gr (C := C_X7_putsBack) (p1 := 15) (ec_aload_n (C := C_X7_putsBack) (i := 0) dX7_putsBack_14 rfl) f_X7_16 dX7_putsBack_15) (ec_iload_n (C := C_X7_putsBack) (i := 1) dX7_putsBack_18 rfl) dX7_putsBack_19) dX7_putsBack_20)
  (sc_iinc (C := C_X7_putsBack) (v := (1)) dX7_putsBack_21 rfl (Nat.le_of_ble_eq_true rfl))) dX7_putsBack_24 rfl) FU)
def S_X7_putsBack : SD := (s_seq (s_sc 1 (s_seq (s_st Value.int 1 (e_c (0 : Int32)))
  W_X7_putsBack_1))
  s_retv)
def D_X7_putsBack : MDen := m_den 2 S_X7_putsBack
set_option maxRecDepth 100000 in
set_option maxHeartbeats 4000000 in
theorem b_X7_putsBack : SC C_X7_putsBack 0 0 S_X7_putsBack := by
  unfold S_X7_putsBack
  exact (sc_seq (C := C_X7_putsBack) (p1 := 27) (sc_sc (C := C_X7_putsBack) (sc_seq (C := C_X7_putsBack) (p1 := 2) (sc_istore_n (C := C_X7_putsBack) (p1 := 1) (i := 1) (ec_iconst (C := C_X7_putsBack) (v := (0 : Int32)) dX7_putsBack_0 rfl) dX7_putsBack_1 rfl (Nat.le_of_ble_eq_true rfl))
  bw_X7_putsBack_1))
  (sc_vret (C := C_X7_putsBack) dX7_putsBack_27 rfl))
theorem s_X7_putsBack : MS M_X7_putsBack D_X7_putsBack := ms_of b_X7_putsBack (by decide +kernel) rfl rfl (fun _ => trivial)
/-- SmokeRoofsModel.roof(II)I -/
abbrev C_X7_roof : CX := (cX7_roof, RX7, 4, 2, 45, "roof", (some .int), fun _ => True)
abbrev M_X7_roof : MD := (yX7_roof, C_X7_roof)
theorem k_X7_roof : MOK M_X7_roof 2 := ⟨w_58, w_903, by decide +kernel, by decide +kernel, by decide +kernel⟩
theorem t_X7_roof : MVT M_X7_roof 2 7 := ⟨k_X7_roof, w_901, w_902, by decide, _, rfl, rfl⟩
def S_X7_roof : SD := (s_seq (s_if (b_or (b_not (b_of (e_call prI D_X7_isCell 1 (a_snoc Value.int a_nil (e_li 1))))) (b_not (b_of (e_call prI D_X7_in 3 (a_snoc Value.long (a_snoc Value.long (a_snoc Value.long a_nil (e_un (fun (x : Int32) => x.toInt64) (e_li 2))) (e_c (-1 : Int64))) (e_c (5 : Int64))))))) (s_ret Value.int (e_call prI D_X7_finds 2 (a_recv 7 (a_snoc Value.int (a_snoc Value.ref a_nil (e_lr 0)) (e_c (-1000001 : Int32)))))) s_skip)
  (s_seq (s_st Value.int 3 (e_ai (e_gr 7 0 (e_lr 0)) (e_bin (fun (x y : Int32) => x + y) (e_c (3 : Int32)) (e_li 1))))
  (s_seq (s_as (e_gr 7 0 (e_lr 0)) (e_bin (fun (x y : Int32) => x + y) (e_c (3 : Int32)) (e_li 1)) (e_li 2))
  (s_ret Value.int (e_li 3)))))
def D_X7_roof : MDen := m_den 4 S_X7_roof
set_option maxRecDepth 100000 in
set_option maxHeartbeats 4000000 in
theorem b_X7_roof : SC C_X7_roof 0 0 S_X7_roof := by
  unfold S_X7_roof
  exact (sc_seq (C := C_X7_roof) (p1 := 28) (sc_if (C := C_X7_roof) (pT := 21) (pF := 28) (p2 := 28) (bc_or (C := C_X7_roof) (p1 := 7) (bc_not (C := C_X7_roof) (bc_of_F (C := C_X7_roof) (p2 := 4) (tgt := 21) (ec_callS (C := C_X7_roof) (m := 1) (p1 := 1) inj_I s_X7_isCell t_X7_isCell ⟨w_904, Nat.le_of_ble_eq_true rfl, Nat.le_of_ble_eq_true rfl⟩ (ac_snoc (C := C_X7_roof) (n := 0) (c := 1) (p1 := 0) (ac_nil (C := C_X7_roof)) (ec_iload_n (C := C_X7_roof) (i := 1) dX7_roof_0 rfl) rfl (fun _ => rfl) rfl) (Nat.le_of_ble_eq_true rfl) dX7_roof_1) dX7_roof_4 rfl)) (bc_not (C := C_X7_roof) (bc_of_T (C := C_X7_roof) (p2 := 18) (tgt := 28) (ec_callS (C := C_X7_roof) (m := 6) (p1 := 15) inj_I s_X7_in t_X7_in ⟨w_908, Nat.le_of_ble_eq_true rfl, Nat.le_of_ble_eq_true rfl⟩ (ac_snoc (C := C_X7_roof) (n := 4) (c := 2) (p1 := 12) (ac_snoc (C := C_X7_roof) (n := 2) (c := 2) (p1 := 9) (ac_snoc (C := C_X7_roof) (n := 0) (c := 2) (p1 := 7) (ac_nil (C := C_X7_roof)) (ec_i2l (C := C_X7_roof) (p1 := 8) (ec_iload_n (C := C_X7_roof) (i := 2) dX7_roof_7 rfl) dX7_roof_8) rfl (fun _ => rfl) rfl) (ec_ldc2 (C := C_X7_roof) (v := (-1 : Int64)) dX7_roof_9 w_911) rfl (fun _ => rfl) rfl) (ec_ldc2 (C := C_X7_roof) (v := (5 : Int64)) dX7_roof_12 w_912) rfl (fun _ => rfl) rfl) (Nat.le_of_ble_eq_true rfl) dX7_roof_15) dX7_roof_18 rfl))) (sc_iret (C := C_X7_roof) (p1 := 27) (ec_callV (C := C_X7_roof) (m := 2) (p1 := 24) inj_I s_X7_finds t_X7_finds ⟨w_914, Nat.le_of_ble_eq_true rfl, Nat.le_of_ble_eq_true rfl⟩ (ac_snoc (C := C_X7_roof) (n := 1) (c := 1) (p1 := 22) (ac_snoc (C := C_X7_roof) (n := 0) (c := 1) (p1 := 21) (ac_nil (C := C_X7_roof)) (ec_aload_n (C := C_X7_roof) (i := 0) dX7_roof_21 rfl) rfl (fun _ => rfl) rfl) (ec_ldc (C := C_X7_roof) (v := (-1000001 : Int32)) dX7_roof_22 w_913) rfl (fun _ => rfl) rfl) (Nat.le_of_ble_eq_true rfl) dX7_roof_24) dX7_roof_27 rfl) sc_skip)
  (sc_seq (C := C_X7_roof) (p1 := 37) (sc_istore_n (C := C_X7_roof) (p1 := 36) (i := 3) (ec_ai (C := C_X7_roof) (p1 := 32) (p2 := 35) (ec_gr (C := C_X7_roof) (p1 := 29) (ec_aload_n (C := C_X7_roof) (i := 0) dX7_roof_28 rfl) f_X7_7 dX7_roof_29) (ec_iadd (C := C_X7_roof) (p1 := 33) (p2 := 34) (ec_iconst (C := C_X7_roof) (v := (3 : Int32)) dX7_roof_32 rfl) (ec_iload_n (C := C_X7_roof) (i := 1) dX7_roof_33 rfl) dX7_roof_34) dX7_roof_35) dX7_roof_36 rfl (Nat.le_of_ble_eq_true rfl))
  (sc_seq (C := C_X7_roof) (p1 := 46) (sc_as (C := C_X7_roof) (p1 := 41) (p2 := 44) (p3 := 45) (ec_gr (C := C_X7_roof) (p1 := 38) (ec_aload_n (C := C_X7_roof) (i := 0) dX7_roof_37 rfl) f_X7_7 dX7_roof_38) (ec_iadd (C := C_X7_roof) (p1 := 42) (p2 := 43) (ec_iconst (C := C_X7_roof) (v := (3 : Int32)) dX7_roof_41 rfl) (ec_iload_n (C := C_X7_roof) (i := 1) dX7_roof_42 rfl) dX7_roof_43) (ec_iload_n (C := C_X7_roof) (i := 2) dX7_roof_44 rfl) dX7_roof_45)
  (sc_iret (C := C_X7_roof) (p1 := 47) (ec_iload_n (C := C_X7_roof) (i := 3) dX7_roof_46 rfl) dX7_roof_47 rfl))))
theorem s_X7_roof : MS M_X7_roof D_X7_roof := ms_of b_X7_roof (by decide +kernel) rfl rfl (fun _ => trivial)
/-- SmokeRoofsModel.wind(II)I -/
abbrev C_X7_wind : CX := (cX7_wind, RX7, 4, 2, 45, "wind", (some .int), fun _ => True)
abbrev M_X7_wind : MD := (yX7_wind, C_X7_wind)
theorem k_X7_wind : MOK M_X7_wind 2 := ⟨w_58, w_921, by decide +kernel, by decide +kernel, by decide +kernel⟩
theorem t_X7_wind : MVT M_X7_wind 2 7 := ⟨k_X7_wind, w_919, w_920, by decide, _, rfl, rfl⟩
def S_X7_wind : SD := (s_seq (s_if (b_or (b_not (b_of (e_call prI D_X7_isClock 1 (a_snoc Value.int a_nil (e_li 1))))) (b_not (b_of (e_call prI D_X7_in 3 (a_snoc Value.long (a_snoc Value.long (a_snoc Value.long a_nil (e_un (fun (x : Int32) => x.toInt64) (e_li 2))) (e_c (0 : Int64))) (e_c (4 : Int64))))))) (s_ret Value.int (e_call prI D_X7_finds 2 (a_recv 7 (a_snoc Value.int (a_snoc Value.ref a_nil (e_lr 0)) (e_c (-1000001 : Int32)))))) s_skip)
  (s_seq (s_st Value.int 3 (e_ai (e_gr 7 0 (e_lr 0)) (e_bin (fun (x y : Int32) => x + y) (e_c (39 : Int32)) (e_li 1))))
  (s_seq (s_as (e_gr 7 0 (e_lr 0)) (e_bin (fun (x y : Int32) => x + y) (e_c (39 : Int32)) (e_li 1)) (e_li 2))
  (s_ret Value.int (e_li 3)))))
def D_X7_wind : MDen := m_den 4 S_X7_wind
set_option maxRecDepth 100000 in
set_option maxHeartbeats 4000000 in
theorem b_X7_wind : SC C_X7_wind 0 0 S_X7_wind := by
  unfold S_X7_wind
  exact (sc_seq (C := C_X7_wind) (p1 := 26) (sc_if (C := C_X7_wind) (pT := 19) (pF := 26) (p2 := 26) (bc_or (C := C_X7_wind) (p1 := 7) (bc_not (C := C_X7_wind) (bc_of_F (C := C_X7_wind) (p2 := 4) (tgt := 19) (ec_callS (C := C_X7_wind) (m := 1) (p1 := 1) inj_I s_X7_isClock t_X7_isClock ⟨w_922, Nat.le_of_ble_eq_true rfl, Nat.le_of_ble_eq_true rfl⟩ (ac_snoc (C := C_X7_wind) (n := 0) (c := 1) (p1 := 0) (ac_nil (C := C_X7_wind)) (ec_iload_n (C := C_X7_wind) (i := 1) dX7_wind_0 rfl) rfl (fun _ => rfl) rfl) (Nat.le_of_ble_eq_true rfl) dX7_wind_1) dX7_wind_4 rfl)) (bc_not (C := C_X7_wind) (bc_of_T (C := C_X7_wind) (p2 := 16) (tgt := 26) (ec_callS (C := C_X7_wind) (m := 6) (p1 := 13) inj_I s_X7_in t_X7_in ⟨w_908, Nat.le_of_ble_eq_true rfl, Nat.le_of_ble_eq_true rfl⟩ (ac_snoc (C := C_X7_wind) (n := 4) (c := 2) (p1 := 10) (ac_snoc (C := C_X7_wind) (n := 2) (c := 2) (p1 := 9) (ac_snoc (C := C_X7_wind) (n := 0) (c := 2) (p1 := 7) (ac_nil (C := C_X7_wind)) (ec_i2l (C := C_X7_wind) (p1 := 8) (ec_iload_n (C := C_X7_wind) (i := 2) dX7_wind_7 rfl) dX7_wind_8) rfl (fun _ => rfl) rfl) (ec_lconst (C := C_X7_wind) (v := (0 : Int64)) dX7_wind_9 rfl) rfl (fun _ => rfl) rfl) (ec_ldc2 (C := C_X7_wind) (v := (4 : Int64)) dX7_wind_10 w_926) rfl (fun _ => rfl) rfl) (Nat.le_of_ble_eq_true rfl) dX7_wind_13) dX7_wind_16 rfl))) (sc_iret (C := C_X7_wind) (p1 := 25) (ec_callV (C := C_X7_wind) (m := 2) (p1 := 22) inj_I s_X7_finds t_X7_finds ⟨w_914, Nat.le_of_ble_eq_true rfl, Nat.le_of_ble_eq_true rfl⟩ (ac_snoc (C := C_X7_wind) (n := 1) (c := 1) (p1 := 20) (ac_snoc (C := C_X7_wind) (n := 0) (c := 1) (p1 := 19) (ac_nil (C := C_X7_wind)) (ec_aload_n (C := C_X7_wind) (i := 0) dX7_wind_19 rfl) rfl (fun _ => rfl) rfl) (ec_ldc (C := C_X7_wind) (v := (-1000001 : Int32)) dX7_wind_20 w_913) rfl (fun _ => rfl) rfl) (Nat.le_of_ble_eq_true rfl) dX7_wind_22) dX7_wind_25 rfl) sc_skip)
  (sc_seq (C := C_X7_wind) (p1 := 36) (sc_istore_n (C := C_X7_wind) (p1 := 35) (i := 3) (ec_ai (C := C_X7_wind) (p1 := 30) (p2 := 34) (ec_gr (C := C_X7_wind) (p1 := 27) (ec_aload_n (C := C_X7_wind) (i := 0) dX7_wind_26 rfl) f_X7_7 dX7_wind_27) (ec_iadd (C := C_X7_wind) (p1 := 32) (p2 := 33) (ec_bipush (C := C_X7_wind) (v := (39 : Int32)) dX7_wind_30 rfl) (ec_iload_n (C := C_X7_wind) (i := 1) dX7_wind_32 rfl) dX7_wind_33) dX7_wind_34) dX7_wind_35 rfl (Nat.le_of_ble_eq_true rfl))
  (sc_seq (C := C_X7_wind) (p1 := 46) (sc_as (C := C_X7_wind) (p1 := 40) (p2 := 44) (p3 := 45) (ec_gr (C := C_X7_wind) (p1 := 37) (ec_aload_n (C := C_X7_wind) (i := 0) dX7_wind_36 rfl) f_X7_7 dX7_wind_37) (ec_iadd (C := C_X7_wind) (p1 := 42) (p2 := 43) (ec_bipush (C := C_X7_wind) (v := (39 : Int32)) dX7_wind_40 rfl) (ec_iload_n (C := C_X7_wind) (i := 1) dX7_wind_42 rfl) dX7_wind_43) (ec_iload_n (C := C_X7_wind) (i := 2) dX7_wind_44 rfl) dX7_wind_45)
  (sc_iret (C := C_X7_wind) (p1 := 47) (ec_iload_n (C := C_X7_wind) (i := 3) dX7_wind_46 rfl) dX7_wind_47 rfl))))
theorem s_X7_wind : MS M_X7_wind D_X7_wind := ms_of b_X7_wind (by decide +kernel) rfl rfl (fun _ => trivial)
/-- SmokeRoofsModel.at(II)I -/
abbrev C_X7_at : CX := (cX7_at, RX7, 2, 0, 0, "at", (some .int), fun _ => True)
abbrev M_X7_at : MD := (yX7_at, C_X7_at)
theorem k_X7_at : MOK M_X7_at 2 := ⟨w_58, w_942, by decide +kernel, by decide +kernel, by decide +kernel⟩
theorem t_X7_at : MST M_X7_at 2 := ⟨k_X7_at, w_941⟩
def S_X7_at : SD := (s_ret Value.int (e_bin (fun (x y : Int32) => x + y) (e_bin (fun (x y : Int32) => x + y) (e_c (63 : Int32)) (e_bin (fun (x y : Int32) => x * y) (e_c (7 : Int32)) (e_li 0))) (e_li 1)))
def D_X7_at : MDen := m_den 2 S_X7_at
set_option maxRecDepth 100000 in
set_option maxHeartbeats 4000000 in
theorem b_X7_at : SC C_X7_at 0 0 S_X7_at := by
  unfold S_X7_at
  exact (sc_iret (C := C_X7_at) (p1 := 9) (ec_iadd (C := C_X7_at) (p1 := 7) (p2 := 8) (ec_iadd (C := C_X7_at) (p1 := 2) (p2 := 6) (ec_bipush (C := C_X7_at) (v := (63 : Int32)) dX7_at_0 rfl) (ec_imul (C := C_X7_at) (p1 := 4) (p2 := 5) (ec_bipush (C := C_X7_at) (v := (7 : Int32)) dX7_at_2 rfl) (ec_iload_n (C := C_X7_at) (i := 0) dX7_at_4 rfl) dX7_at_5) dX7_at_6) (ec_iload_n (C := C_X7_at) (i := 1) dX7_at_7 rfl) dX7_at_8) dX7_at_9 rfl)
theorem s_X7_at : MS M_X7_at D_X7_at := ms_of b_X7_at (by decide +kernel) rfl rfl (fun _ => trivial)
/-- SmokeRoofsModel.its(II)I -/
abbrev C_X7_its : CX := (cX7_its, RX7, 3, 1, 21, "its", (some .int), fun _ => True)
abbrev M_X7_its : MD := (yX7_its, C_X7_its)
theorem k_X7_its : MOK M_X7_its 2 := ⟨w_58, w_955, by decide +kernel, by decide +kernel, by decide +kernel⟩
theorem t_X7_its : MVT M_X7_its 2 7 := ⟨k_X7_its, w_954, w_17, by decide, _, rfl, rfl⟩
def S_X7_its : SD := (s_ret Value.int (e_ai (e_gr 7 0 (e_lr 0)) (e_call prI D_X7_at 2 (a_snoc Value.int (a_snoc Value.int a_nil (e_li 1)) (e_li 2)))))
def D_X7_its : MDen := m_den 3 S_X7_its
set_option maxRecDepth 100000 in
set_option maxHeartbeats 4000000 in
theorem b_X7_its : SC C_X7_its 0 0 S_X7_its := by
  unfold S_X7_its
  exact (sc_iret (C := C_X7_its) (p1 := 10) (ec_ai (C := C_X7_its) (p1 := 4) (p2 := 9) (ec_gr (C := C_X7_its) (p1 := 1) (ec_aload_n (C := C_X7_its) (i := 0) dX7_its_0 rfl) f_X7_7 dX7_its_1) (ec_callS (C := C_X7_its) (m := 2) (p1 := 6) inj_I s_X7_at t_X7_at ⟨w_940, Nat.le_of_ble_eq_true rfl, Nat.le_of_ble_eq_true rfl⟩ (ac_snoc (C := C_X7_its) (n := 1) (c := 1) (p1 := 5) (ac_snoc (C := C_X7_its) (n := 0) (c := 1) (p1 := 4) (ac_nil (C := C_X7_its)) (ec_iload_n (C := C_X7_its) (i := 1) dX7_its_4 rfl) rfl (fun _ => rfl) rfl) (ec_iload_n (C := C_X7_its) (i := 2) dX7_its_5 rfl) rfl (fun _ => rfl) rfl) (Nat.le_of_ble_eq_true rfl) dX7_its_6) dX7_its_9) dX7_its_10 rfl)
theorem s_X7_its : MS M_X7_its D_X7_its := ms_of b_X7_its (by decide +kernel) rfl rfl (fun _ => trivial)
/-- SmokeRoofsModel.newChimney(III)I -/
abbrev C_X7_newChimney : CX := (cX7_newChimney, RX7, 5, 1, 21, "newChimney", (some .int), fun _ => True)
abbrev M_X7_newChimney : MD := (yX7_newChimney, C_X7_newChimney)
theorem k_X7_newChimney : MOK M_X7_newChimney 3 := ⟨w_58, w_939, by decide +kernel, by decide +kernel, by decide +kernel⟩
theorem t_X7_newChimney : MVT M_X7_newChimney 3 7 := ⟨k_X7_newChimney, w_938, w_15, by decide, _, rfl, rfl⟩
def S_X7_newChimney : SD := (s_seq (s_st Value.int 4 (e_ai (e_gr 7 0 (e_lr 0)) (e_c (1 : Int32))))
  (s_seq (s_as (e_gr 7 0 (e_lr 0)) (e_call prI D_X7_at 2 (a_snoc Value.int (a_snoc Value.int a_nil (e_li 4)) (e_c (0 : Int32)))) (e_li 1))
  (s_seq (s_as (e_gr 7 0 (e_lr 0)) (e_call prI D_X7_at 2 (a_snoc Value.int (a_snoc Value.int a_nil (e_li 4)) (e_c (1 : Int32)))) (e_li 2))
  (s_seq (s_as (e_gr 7 0 (e_lr 0)) (e_call prI D_X7_at 2 (a_snoc Value.int (a_snoc Value.int a_nil (e_li 4)) (e_c (2 : Int32)))) (e_li 3))
  (s_seq (s_as (e_gr 7 0 (e_lr 0)) (e_call prI D_X7_at 2 (a_snoc Value.int (a_snoc Value.int a_nil (e_li 4)) (e_c (3 : Int32)))) (e_c (1 : Int32)))
  (s_seq (s_as (e_gr 7 0 (e_lr 0)) (e_call prI D_X7_at 2 (a_snoc Value.int (a_snoc Value.int a_nil (e_li 4)) (e_c (4 : Int32)))) (e_c (20 : Int32)))
  (s_seq (s_as (e_gr 7 0 (e_lr 0)) (e_call prI D_X7_at 2 (a_snoc Value.int (a_snoc Value.int a_nil (e_li 4)) (e_c (5 : Int32)))) (e_c (0 : Int32)))
  (s_seq (s_as (e_gr 7 0 (e_lr 0)) (e_call prI D_X7_at 2 (a_snoc Value.int (a_snoc Value.int a_nil (e_li 4)) (e_c (6 : Int32)))) (e_c (24 : Int32)))
  (s_seq (s_aop (fun (x y : Int32) => x + y) (e_gr 7 0 (e_lr 0)) (e_c (1 : Int32)) (e_c (1 : Int32)))
  (s_ret Value.int (e_li 4)))))))))))
def D_X7_newChimney : MDen := m_den 5 S_X7_newChimney
set_option maxRecDepth 100000 in
set_option maxHeartbeats 4000000 in
theorem b_X7_newChimney : SC C_X7_newChimney 0 0 S_X7_newChimney := by
  unfold S_X7_newChimney
  exact (sc_seq (C := C_X7_newChimney) (p1 := 8) (sc_istore (C := C_X7_newChimney) (p1 := 6) (ec_ai (C := C_X7_newChimney) (p1 := 4) (p2 := 5) (ec_gr (C := C_X7_newChimney) (p1 := 1) (ec_aload_n (C := C_X7_newChimney) (i := 0) dX7_newChimney_0 rfl) f_X7_7 dX7_newChimney_1) (ec_iconst (C := C_X7_newChimney) (v := (1 : Int32)) dX7_newChimney_4 rfl) dX7_newChimney_5) dX7_newChimney_6 (Nat.le_of_ble_eq_true rfl))
  (sc_seq (C := C_X7_newChimney) (p1 := 20) (sc_as (C := C_X7_newChimney) (p1 := 12) (p2 := 18) (p3 := 19) (ec_gr (C := C_X7_newChimney) (p1 := 9) (ec_aload_n (C := C_X7_newChimney) (i := 0) dX7_newChimney_8 rfl) f_X7_7 dX7_newChimney_9) (ec_callS (C := C_X7_newChimney) (m := 2) (p1 := 15) inj_I s_X7_at t_X7_at ⟨w_940, Nat.le_of_ble_eq_true rfl, Nat.le_of_ble_eq_true rfl⟩ (ac_snoc (C := C_X7_newChimney) (n := 1) (c := 1) (p1 := 14) (ac_snoc (C := C_X7_newChimney) (n := 0) (c := 1) (p1 := 12) (ac_nil (C := C_X7_newChimney)) (ec_iload (C := C_X7_newChimney) dX7_newChimney_12) rfl (fun _ => rfl) rfl) (ec_iconst (C := C_X7_newChimney) (v := (0 : Int32)) dX7_newChimney_14 rfl) rfl (fun _ => rfl) rfl) (Nat.le_of_ble_eq_true rfl) dX7_newChimney_15) (ec_iload_n (C := C_X7_newChimney) (i := 1) dX7_newChimney_18 rfl) dX7_newChimney_19)
  (sc_seq (C := C_X7_newChimney) (p1 := 32) (sc_as (C := C_X7_newChimney) (p1 := 24) (p2 := 30) (p3 := 31) (ec_gr (C := C_X7_newChimney) (p1 := 21) (ec_aload_n (C := C_X7_newChimney) (i := 0) dX7_newChimney_20 rfl) f_X7_7 dX7_newChimney_21) (ec_callS (C := C_X7_newChimney) (m := 2) (p1 := 27) inj_I s_X7_at t_X7_at ⟨w_940, Nat.le_of_ble_eq_true rfl, Nat.le_of_ble_eq_true rfl⟩ (ac_snoc (C := C_X7_newChimney) (n := 1) (c := 1) (p1 := 26) (ac_snoc (C := C_X7_newChimney) (n := 0) (c := 1) (p1 := 24) (ac_nil (C := C_X7_newChimney)) (ec_iload (C := C_X7_newChimney) dX7_newChimney_24) rfl (fun _ => rfl) rfl) (ec_iconst (C := C_X7_newChimney) (v := (1 : Int32)) dX7_newChimney_26 rfl) rfl (fun _ => rfl) rfl) (Nat.le_of_ble_eq_true rfl) dX7_newChimney_27) (ec_iload_n (C := C_X7_newChimney) (i := 2) dX7_newChimney_30 rfl) dX7_newChimney_31)
  (sc_seq (C := C_X7_newChimney) (p1 := 44) (sc_as (C := C_X7_newChimney) (p1 := 36) (p2 := 42) (p3 := 43) (ec_gr (C := C_X7_newChimney) (p1 := 33) (ec_aload_n (C := C_X7_newChimney) (i := 0) dX7_newChimney_32 rfl) f_X7_7 dX7_newChimney_33) (ec_callS (C := C_X7_newChimney) (m := 2) (p1 := 39) inj_I s_X7_at t_X7_at ⟨w_940, Nat.le_of_ble_eq_true rfl, Nat.le_of_ble_eq_true rfl⟩ (ac_snoc (C := C_X7_newChimney) (n := 1) (c := 1) (p1 := 38) (ac_snoc (C := C_X7_newChimney) (n := 0) (c := 1) (p1 := 36) (ac_nil (C := C_X7_newChimney)) (ec_iload (C := C_X7_newChimney) dX7_newChimney_36) rfl (fun _ => rfl) rfl) (ec_iconst (C := C_X7_newChimney) (v := (2 : Int32)) dX7_newChimney_38 rfl) rfl (fun _ => rfl) rfl) (Nat.le_of_ble_eq_true rfl) dX7_newChimney_39) (ec_iload_n (C := C_X7_newChimney) (i := 3) dX7_newChimney_42 rfl) dX7_newChimney_43)
  (sc_seq (C := C_X7_newChimney) (p1 := 56) (sc_as (C := C_X7_newChimney) (p1 := 48) (p2 := 54) (p3 := 55) (ec_gr (C := C_X7_newChimney) (p1 := 45) (ec_aload_n (C := C_X7_newChimney) (i := 0) dX7_newChimney_44 rfl) f_X7_7 dX7_newChimney_45) (ec_callS (C := C_X7_newChimney) (m := 2) (p1 := 51) inj_I s_X7_at t_X7_at ⟨w_940, Nat.le_of_ble_eq_true rfl, Nat.le_of_ble_eq_true rfl⟩ (ac_snoc (C := C_X7_newChimney) (n := 1) (c := 1) (p1 := 50) (ac_snoc (C := C_X7_newChimney) (n := 0) (c := 1) (p1 := 48) (ac_nil (C := C_X7_newChimney)) (ec_iload (C := C_X7_newChimney) dX7_newChimney_48) rfl (fun _ => rfl) rfl) (ec_iconst (C := C_X7_newChimney) (v := (3 : Int32)) dX7_newChimney_50 rfl) rfl (fun _ => rfl) rfl) (Nat.le_of_ble_eq_true rfl) dX7_newChimney_51) (ec_iconst (C := C_X7_newChimney) (v := (1 : Int32)) dX7_newChimney_54 rfl) dX7_newChimney_55)
  (sc_seq (C := C_X7_newChimney) (p1 := 69) (sc_as (C := C_X7_newChimney) (p1 := 60) (p2 := 66) (p3 := 68) (ec_gr (C := C_X7_newChimney) (p1 := 57) (ec_aload_n (C := C_X7_newChimney) (i := 0) dX7_newChimney_56 rfl) f_X7_7 dX7_newChimney_57) (ec_callS (C := C_X7_newChimney) (m := 2) (p1 := 63) inj_I s_X7_at t_X7_at ⟨w_940, Nat.le_of_ble_eq_true rfl, Nat.le_of_ble_eq_true rfl⟩ (ac_snoc (C := C_X7_newChimney) (n := 1) (c := 1) (p1 := 62) (ac_snoc (C := C_X7_newChimney) (n := 0) (c := 1) (p1 := 60) (ac_nil (C := C_X7_newChimney)) (ec_iload (C := C_X7_newChimney) dX7_newChimney_60) rfl (fun _ => rfl) rfl) (ec_iconst (C := C_X7_newChimney) (v := (4 : Int32)) dX7_newChimney_62 rfl) rfl (fun _ => rfl) rfl) (Nat.le_of_ble_eq_true rfl) dX7_newChimney_63) (ec_bipush (C := C_X7_newChimney) (v := (20 : Int32)) dX7_newChimney_66 rfl) dX7_newChimney_68)
  (sc_seq (C := C_X7_newChimney) (p1 := 81) (sc_as (C := C_X7_newChimney) (p1 := 73) (p2 := 79) (p3 := 80) (ec_gr (C := C_X7_newChimney) (p1 := 70) (ec_aload_n (C := C_X7_newChimney) (i := 0) dX7_newChimney_69 rfl) f_X7_7 dX7_newChimney_70) (ec_callS (C := C_X7_newChimney) (m := 2) (p1 := 76) inj_I s_X7_at t_X7_at ⟨w_940, Nat.le_of_ble_eq_true rfl, Nat.le_of_ble_eq_true rfl⟩ (ac_snoc (C := C_X7_newChimney) (n := 1) (c := 1) (p1 := 75) (ac_snoc (C := C_X7_newChimney) (n := 0) (c := 1) (p1 := 73) (ac_nil (C := C_X7_newChimney)) (ec_iload (C := C_X7_newChimney) dX7_newChimney_73) rfl (fun _ => rfl) rfl) (ec_iconst (C := C_X7_newChimney) (v := (5 : Int32)) dX7_newChimney_75 rfl) rfl (fun _ => rfl) rfl) (Nat.le_of_ble_eq_true rfl) dX7_newChimney_76) (ec_iconst (C := C_X7_newChimney) (v := (0 : Int32)) dX7_newChimney_79 rfl) dX7_newChimney_80)
  (sc_seq (C := C_X7_newChimney) (p1 := 95) (sc_as (C := C_X7_newChimney) (p1 := 85) (p2 := 92) (p3 := 94) (ec_gr (C := C_X7_newChimney) (p1 := 82) (ec_aload_n (C := C_X7_newChimney) (i := 0) dX7_newChimney_81 rfl) f_X7_7 dX7_newChimney_82) (ec_callS (C := C_X7_newChimney) (m := 2) (p1 := 89) inj_I s_X7_at t_X7_at ⟨w_940, Nat.le_of_ble_eq_true rfl, Nat.le_of_ble_eq_true rfl⟩ (ac_snoc (C := C_X7_newChimney) (n := 1) (c := 1) (p1 := 87) (ac_snoc (C := C_X7_newChimney) (n := 0) (c := 1) (p1 := 85) (ac_nil (C := C_X7_newChimney)) (ec_iload (C := C_X7_newChimney) dX7_newChimney_85) rfl (fun _ => rfl) rfl) (ec_bipush (C := C_X7_newChimney) (v := (6 : Int32)) dX7_newChimney_87 rfl) rfl (fun _ => rfl) rfl) (Nat.le_of_ble_eq_true rfl) dX7_newChimney_89) (ec_bipush (C := C_X7_newChimney) (v := (24 : Int32)) dX7_newChimney_92 rfl) dX7_newChimney_94)
  (sc_seq (C := C_X7_newChimney) (p1 := 105) (sc_aop_iadd (C := C_X7_newChimney) (p1 := 99) (p2 := 100) (p3 := 103) (ec_gr (C := C_X7_newChimney) (p1 := 96) (ec_aload_n (C := C_X7_newChimney) (i := 0) dX7_newChimney_95 rfl) f_X7_7 dX7_newChimney_96) (ec_iconst (C := C_X7_newChimney) (v := (1 : Int32)) dX7_newChimney_99 rfl) dX7_newChimney_100 dX7_newChimney_101 (ec_iconst (C := C_X7_newChimney) (v := (1 : Int32)) dX7_newChimney_102 rfl) dX7_newChimney_103 dX7_newChimney_104)
  (sc_iret (C := C_X7_newChimney) (p1 := 107) (ec_iload (C := C_X7_newChimney) dX7_newChimney_105) dX7_newChimney_107 rfl))))))))))
theorem s_X7_newChimney : MS M_X7_newChimney D_X7_newChimney := ms_of b_X7_newChimney (by decide +kernel) rfl rfl (fun _ => trivial)
