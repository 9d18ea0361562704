/-- SmokeRoofsModel.undo()I -/
abbrev C_X7_undo : CX := (cX7_undo, RX7, 2, 1, 21, "undo", (some .int), fun _ => True)
abbrev M_X7_undo : MD := (yX7_undo, C_X7_undo)
theorem k_X7_undo : MOK M_X7_undo 0 := ⟨w_58, w_1280, by decide +kernel, by decide +kernel, by decide +kernel⟩
theorem t_X7_undo : MVT M_X7_undo 0 7 := ⟨k_X7_undo, w_1278, w_1279, by decide, _, rfl, rfl⟩
def WB_X7_undo_1 : DE Bool := (e_bin (fun (x y : Int32) => decide (x < y)) (e_li 1) (e_c (735 : Int32)))
def WS_X7_undo_1 : SD := (s_seq (s_as (e_gr 7 0 (e_lr 0)) (e_li 1) (e_ai (e_gr 7 1 (e_lr 0)) (e_li 1)))
  (s_inc 1 (1)))
def W_X7_undo_1 : SD := s_while WB_X7_undo_1 WS_X7_undo_1 FU
set_option maxRecDepth 100000 in
set_option maxHeartbeats 4000000 in
theorem bw_X7_undo_1 : SC C_X7_undo 16 41 W_X7_undo_1 := by
  unfold W_X7_undo_1 WB_X7_undo_1 WS_X7_undo_1
  exact (sc_while (C := C_X7_undo) (pB := 23) (pE := 41) (bc_icmp_ge_F (C := C_X7_undo) (p1 := 17) (p2 := 20) (tgt := 41) (ec_iload_n (C := C_X7_undo) (i := 1) dX7_undo_16 rfl) (ec_sipush (C := C_X7_undo) (v := (735 : Int32)) dX7_undo_17 rfl) dX7_undo_20 rfl)
  (sc_goto (C := C_X7_undo) (p1 := 38) (sc_seq (C := C_X7_undo) (p1 := 35) (sc_as (C := C_X7_undo) (p1 := 27) (p2 := 28) (p3 := 34) (ec_gr (C := C_X7_undo) (p1 := 24) (ec_aload_n (C := C_X7_undo) (i := 0) dX7_undo_23 rfl) f_X7_7 dX7_undo_24) (ec_iload_n (C := C_X7_undo) (i := 1) dX7_undo_27 rfl) (ec_ai (C := C_X7_undo) (p1 := 32) (p2 := 33) (ec_gr (C := C_X7_undo) (p1 := 29) (ec_aload_n (C := C_X7_undo) (i := 0) dX7_undo_28 rfl) f_X7_13 dX7_undo_29) (ec_iload_n (C := C_X7_undo) (i := 1) dX7_undo_32 rfl) dX7_undo_33) dX7_undo_34)
  (sc_iinc (C := C_X7_undo) (v := (1)) dX7_undo_35 rfl (Nat.le_of_ble_eq_true rfl))) dX7_undo_38 rfl) FU)
def S_X7_undo : SD := (s_seq (s_if (b_not (b_of (e_gi 7 4 (e_lr 0)))) (s_ret Value.int (e_call prI D_X7_finds 2 (a_recv 7 (a_snoc Value.int (a_snoc Value.ref a_nil (e_lr 0)) (e_c (-1000004 : Int32)))))) s_skip)
  (s_seq (s_sc 1 (s_seq (s_st Value.int 1 (e_c (0 : Int32)))
  W_X7_undo_1))
  (s_ret Value.int (e_ai (e_gr 7 0 (e_lr 0)) (e_c (0 : Int32))))))
def D_X7_undo : MDen := m_den 2 S_X7_undo
set_option maxRecDepth 100000 in
set_option maxHeartbeats 4000000 in
theorem b_X7_undo : SC C_X7_undo 0 0 S_X7_undo := by
  unfold S_X7_undo
  exact (sc_seq (C := C_X7_undo) (p1 := 14) (sc_if (C := C_X7_undo) (pT := 7) (pF := 14) (p2 := 14) (bc_not (C := C_X7_undo) (bc_of_T (C := C_X7_undo) (p2 := 4) (tgt := 14) (ec_gi (C := C_X7_undo) (p1 := 1) (ec_aload_n (C := C_X7_undo) (i := 0) dX7_undo_0 rfl) f_X7_303 dX7_undo_1) dX7_undo_4 rfl)) (sc_iret (C := C_X7_undo) (p1 := 13) (ec_callV (C := C_X7_undo) (m := 2) (p1 := 10) inj_I s_X7_finds t_X7_finds ⟨w_914, Nat.le_of_ble_eq_true rfl, Nat.le_of_ble_eq_true rfl⟩ (ac_snoc (C := C_X7_undo) (n := 1) (c := 1) (p1 := 8) (ac_snoc (C := C_X7_undo) (n := 0) (c := 1) (p1 := 7) (ac_nil (C := C_X7_undo)) (ec_aload_n (C := C_X7_undo) (i := 0) dX7_undo_7 rfl) rfl (fun _ => rfl) rfl) (ec_ldc (C := C_X7_undo) (v := (-1000004 : Int32)) dX7_undo_8 w_1067) rfl (fun _ => rfl) rfl) (Nat.le_of_ble_eq_true rfl) dX7_undo_10) dX7_undo_13 rfl) sc_skip)
  (sc_seq (C := C_X7_undo) (p1 := 41) (sc_sc (C := C_X7_undo) (sc_seq (C := C_X7_undo) (p1 := 16) (sc_istore_n (C := C_X7_undo) (p1 := 15) (i := 1) (ec_iconst (C := C_X7_undo) (v := (0 : Int32)) dX7_undo_14 rfl) dX7_undo_15 rfl (Nat.le_of_ble_eq_true rfl))
  bw_X7_undo_1))
  (sc_iret (C := C_X7_undo) (p1 := 47) (ec_ai (C := C_X7_undo) (p1 := 45) (p2 := 46) (ec_gr (C := C_X7_undo) (p1 := 42) (ec_aload_n (C := C_X7_undo) (i := 0) dX7_undo_41 rfl) f_X7_7 dX7_undo_42) (ec_iconst (C := C_X7_undo) (v := (0 : Int32)) dX7_undo_45 rfl) dX7_undo_46) dX7_undo_47 rfl)))
theorem s_X7_undo : MS M_X7_undo D_X7_undo := ms_of b_X7_undo (by decide +kernel) rfl rfl (fun _ => trivial)
/-- SmokeRoofsModel.tear()I -/
abbrev C_X7_tear : CX := (cX7_tear, RX7, 2, 0, 0, "tear", (some .int), fun _ => True)
abbrev M_X7_tear : MD := (yX7_tear, C_X7_tear)
theorem k_X7_tear : MOK M_X7_tear 0 := ⟨w_58, w_1284, by decide +kernel, by decide +kernel, by decide +kernel⟩
theorem t_X7_tear : MVT M_X7_tear 0 7 := ⟨k_X7_tear, w_1282, w_1283, by decide, _, rfl, rfl⟩
def S_X7_tear : SD := (s_seq (s_st Value.int 1 (e_if (b_of (e_gi 7 4 (e_lr 0))) (e_c (1 : Int32)) (e_c (0 : Int32))))
  (s_seq (s_pfz 7 4 (e_lr 0) (e_c (0 : Int32)))
  (s_ret Value.int (e_li 1))))
def D_X7_tear : MDen := m_den 2 S_X7_tear
set_option maxRecDepth 100000 in
set_option maxHeartbeats 4000000 in
theorem b_X7_tear : SC C_X7_tear 0 0 S_X7_tear := by
  unfold S_X7_tear
  exact (sc_seq (C := C_X7_tear) (p1 := 13) (sc_istore_n (C := C_X7_tear) (p1 := 12) (i := 1) (ec_if (C := C_X7_tear) (pT := 7) (pF := 11) (p1 := 8) (pE := 12) (bc_of_F (C := C_X7_tear) (p2 := 4) (tgt := 11) (ec_gi (C := C_X7_tear) (p1 := 1) (ec_aload_n (C := C_X7_tear) (i := 0) dX7_tear_0 rfl) f_X7_303 dX7_tear_1) dX7_tear_4 rfl) (ec_iconst (C := C_X7_tear) (v := (1 : Int32)) dX7_tear_7 rfl) dX7_tear_8 rfl (ec_iconst (C := C_X7_tear) (v := (0 : Int32)) dX7_tear_11 rfl)) dX7_tear_12 rfl (Nat.le_of_ble_eq_true rfl))
  (sc_seq (C := C_X7_tear) (p1 := 18) (sc_pfz (C := C_X7_tear) (p1 := 14) (p2 := 15) (ec_aload_n (C := C_X7_tear) (i := 0) dX7_tear_13 rfl) (ec_iconst (C := C_X7_tear) (v := (0 : Int32)) dX7_tear_14 rfl) f_X7_303 dX7_tear_15)
  (sc_iret (C := C_X7_tear) (p1 := 19) (ec_iload_n (C := C_X7_tear) (i := 1) dX7_tear_18 rfl) dX7_tear_19 rfl)))
theorem s_X7_tear : MS M_X7_tear D_X7_tear := ms_of b_X7_tear (by decide +kernel) rfl rfl (fun _ => trivial)
/-- SmokeRoofsModel.count(I)I -/
abbrev C_X7_count : CX := (cX7_count, RX7, 4, 1, 26, "count", (some .int), fun _ => True)
abbrev M_X7_count : MD := (yX7_count, C_X7_count)
theorem k_X7_count : MOK M_X7_count 1 := ⟨w_58, w_1288, by decide +kernel, by decide +kernel, by decide +kernel⟩
theorem t_X7_count : MVT M_X7_count 1 7 := ⟨k_X7_count, w_1286, w_1287, by decide, _, rfl, rfl⟩
def WB_X7_count_1 : DE Bool := (e_bin (fun (x y : Int32) => decide (x < y)) (e_li 3) (e_c (36 : Int32)))
def WS_X7_count_1 : SD := (s_seq (s_st Value.int 2 (e_bin (fun (x y : Int32) => x + y) (e_li 2) (e_if (e_un (fun (x : Int32) => decide (x < 0)) (e_ai (e_gr 7 0 (e_lr 0)) (e_bin (fun (x y : Int32) => x + y) (e_c (3 : Int32)) (e_li 3)))) (e_c (0 : Int32)) (e_c (1 : Int32)))))
  (s_inc 3 (1)))
def W_X7_count_1 : SD := s_while WB_X7_count_1 WS_X7_count_1 FU
set_option maxRecDepth 100000 in
set_option maxHeartbeats 4000000 in
theorem bw_X7_count_1 : SC C_X7_count 64 95 W_X7_count_1 := by
  unfold W_X7_count_1 WB_X7_count_1 WS_X7_count_1
  exact (sc_while (C := C_X7_count) (pB := 70) (pE := 95) (bc_icmp_ge_F (C := C_X7_count) (p1 := 65) (p2 := 67) (tgt := 95) (ec_iload_n (C := C_X7_count) (i := 3) dX7_count_64 rfl) (ec_bipush (C := C_X7_count) (v := (36 : Int32)) dX7_count_65 rfl) dX7_count_67 rfl)
  (sc_goto (C := C_X7_count) (p1 := 92) (sc_seq (C := C_X7_count) (p1 := 89) (sc_istore_n (C := C_X7_count) (p1 := 88) (i := 2) (ec_iadd (C := C_X7_count) (p1 := 71) (p2 := 87) (ec_iload_n (C := C_X7_count) (i := 2) dX7_count_70 rfl) (ec_if (C := C_X7_count) (pT := 82) (pF := 86) (p1 := 83) (pE := 87) (bc_if_ge_F (C := C_X7_count) (p2 := 79) (tgt := 86) (ec_ai (C := C_X7_count) (p1 := 75) (p2 := 78) (ec_gr (C := C_X7_count) (p1 := 72) (ec_aload_n (C := C_X7_count) (i := 0) dX7_count_71 rfl) f_X7_7 dX7_count_72) (ec_iadd (C := C_X7_count) (p1 := 76) (p2 := 77) (ec_iconst (C := C_X7_count) (v := (3 : Int32)) dX7_count_75 rfl) (ec_iload_n (C := C_X7_count) (i := 3) dX7_count_76 rfl) dX7_count_77) dX7_count_78) dX7_count_79 rfl) (ec_iconst (C := C_X7_count) (v := (0 : Int32)) dX7_count_82 rfl) dX7_count_83 rfl (ec_iconst (C := C_X7_count) (v := (1 : Int32)) dX7_count_86 rfl)) dX7_count_87) dX7_count_88 rfl (Nat.le_of_ble_eq_true rfl))
  (sc_iinc (C := C_X7_count) (v := (1)) dX7_count_89 rfl (Nat.le_of_ble_eq_true rfl))) dX7_count_92 rfl) FU)
def WB_X7_count_2 : DE Bool := (e_bin (fun (x y : Int32) => decide (x < y)) (e_li 3) (e_c (10 : Int32)))
def WS_X7_count_2 : SD := (s_seq (s_st Value.int 2 (e_bin (fun (x y : Int32) => x + y) (e_li 2) (e_if (e_un (fun (x : Int32) => decide (x < 0)) (e_ai (e_gr 7 0 (e_lr 0)) (e_bin (fun (x y : Int32) => x + y) (e_c (725 : Int32)) (e_li 3)))) (e_c (0 : Int32)) (e_c (1 : Int32)))))
  (s_inc 3 (1)))
def W_X7_count_2 : SD := s_while WB_X7_count_2 WS_X7_count_2 FU
set_option maxRecDepth 100000 in
set_option maxHeartbeats 4000000 in
theorem bw_X7_count_2 : SC C_X7_count 130 163 W_X7_count_2 := by
  unfold W_X7_count_2 WB_X7_count_2 WS_X7_count_2
  exact (sc_while (C := C_X7_count) (pB := 136) (pE := 163) (bc_icmp_ge_F (C := C_X7_count) (p1 := 131) (p2 := 133) (tgt := 163) (ec_iload_n (C := C_X7_count) (i := 3) dX7_count_130 rfl) (ec_bipush (C := C_X7_count) (v := (10 : Int32)) dX7_count_131 rfl) dX7_count_133 rfl)
  (sc_goto (C := C_X7_count) (p1 := 160) (sc_seq (C := C_X7_count) (p1 := 157) (sc_istore_n (C := C_X7_count) (p1 := 156) (i := 2) (ec_iadd (C := C_X7_count) (p1 := 137) (p2 := 155) (ec_iload_n (C := C_X7_count) (i := 2) dX7_count_136 rfl) (ec_if (C := C_X7_count) (pT := 150) (pF := 154) (p1 := 151) (pE := 155) (bc_if_ge_F (C := C_X7_count) (p2 := 147) (tgt := 154) (ec_ai (C := C_X7_count) (p1 := 141) (p2 := 146) (ec_gr (C := C_X7_count) (p1 := 138) (ec_aload_n (C := C_X7_count) (i := 0) dX7_count_137 rfl) f_X7_7 dX7_count_138) (ec_iadd (C := C_X7_count) (p1 := 144) (p2 := 145) (ec_sipush (C := C_X7_count) (v := (725 : Int32)) dX7_count_141 rfl) (ec_iload_n (C := C_X7_count) (i := 3) dX7_count_144 rfl) dX7_count_145) dX7_count_146) dX7_count_147 rfl) (ec_iconst (C := C_X7_count) (v := (0 : Int32)) dX7_count_150 rfl) dX7_count_151 rfl (ec_iconst (C := C_X7_count) (v := (1 : Int32)) dX7_count_154 rfl)) dX7_count_155) dX7_count_156 rfl (Nat.le_of_ble_eq_true rfl))
  (sc_iinc (C := C_X7_count) (v := (1)) dX7_count_157 rfl (Nat.le_of_ble_eq_true rfl))) dX7_count_160 rfl) FU)
def S_X7_count : SD := (s_seq (s_st Value.int 2 (e_c (0 : Int32)))
  (s_tab (e_li 1) (0) (7) [(48, (s_ret Value.int (e_ai (e_gr 7 0 (e_lr 0)) (e_c (0 : Int32))))),
  (55, (s_ret Value.int (e_ai (e_gr 7 0 (e_lr 0)) (e_c (1 : Int32))))),
  (62, (s_seq (s_sc 3 (s_seq (s_st Value.int 3 (e_c (0 : Int32)))
  W_X7_count_1))
  (s_ret Value.int (e_li 2)))),
  (97, (s_ret Value.int (e_call prI D_X7_sums 4 (a_recv 7 (a_snoc Value.int (a_snoc Value.int (a_snoc Value.int (a_snoc Value.ref a_nil (e_lr 0)) (e_c (125 : Int32))) (e_c (-1 : Int32))) (e_c (-1 : Int32))))))),
  (106, (s_ret Value.int (e_call prI D_X7_sums 4 (a_recv 7 (a_snoc Value.int (a_snoc Value.int (a_snoc Value.int (a_snoc Value.ref a_nil (e_lr 0)) (e_c (413 : Int32))) (e_c (-1 : Int32))) (e_c (-1 : Int32))))))),
  (116, (s_ret Value.int (e_gi 7 12 (e_lr 0)))),
  (121, (s_ret Value.int (e_ai (e_gr 7 0 (e_lr 0)) (e_c (2 : Int32))))),
  (128, (s_seq (s_sc 3 (s_seq (s_st Value.int 3 (e_c (0 : Int32)))
  W_X7_count_2))
  (s_ret Value.int (e_li 2))))] (s_ret Value.int (e_call prI D_X7_finds 2 (a_recv 7 (a_snoc Value.int (a_snoc Value.ref a_nil (e_lr 0)) (e_c (-1000001 : Int32))))))))
def D_X7_count : MDen := m_den 4 S_X7_count
set_option maxRecDepth 100000 in
set_option maxHeartbeats 4000000 in
theorem b_X7_count : SC C_X7_count 0 0 S_X7_count := by
  unfold S_X7_count
  exact (sc_seq (C := C_X7_count) (p1 := 2) (sc_istore_n (C := C_X7_count) (p1 := 1) (i := 2) (ec_iconst (C := C_X7_count) (v := (0 : Int32)) dX7_count_0 rfl) dX7_count_1 rfl (Nat.le_of_ble_eq_true rfl))
  (sc_tab (C := C_X7_count) (arms := [(48, (s_ret Value.int (e_ai (e_gr 7 0 (e_lr 0)) (e_c (0 : Int32))))), (55, (s_ret Value.int (e_ai (e_gr 7 0 (e_lr 0)) (e_c (1 : Int32))))), (62, (s_seq (s_sc 3 (s_seq (s_st Value.int 3 (e_c (0 : Int32)))
  W_X7_count_1))
  (s_ret Value.int (e_li 2)))), (97, (s_ret Value.int (e_call prI D_X7_sums 4 (a_recv 7 (a_snoc Value.int (a_snoc Value.int (a_snoc Value.int (a_snoc Value.ref a_nil (e_lr 0)) (e_c (125 : Int32))) (e_c (-1 : Int32))) (e_c (-1 : Int32))))))), (106, (s_ret Value.int (e_call prI D_X7_sums 4 (a_recv 7 (a_snoc Value.int (a_snoc Value.int (a_snoc Value.int (a_snoc Value.ref a_nil (e_lr 0)) (e_c (413 : Int32))) (e_c (-1 : Int32))) (e_c (-1 : Int32))))))), (116, (s_ret Value.int (e_gi 7 12 (e_lr 0)))), (121, (s_ret Value.int (e_ai (e_gr 7 0 (e_lr 0)) (e_c (2 : Int32))))), (128, (s_seq (s_sc 3 (s_seq (s_st Value.int 3 (e_c (0 : Int32)))
  W_X7_count_2))
  (s_ret Value.int (e_li 2))))]) (p1 := 3) (pD := 165) (p2 := 0) (ec_iload_n (C := C_X7_count) (i := 1) dX7_count_2 rfl) dX7_count_3 rfl (sc_iret (C := C_X7_count) (p1 := 171) (ec_callV (C := C_X7_count) (m := 2) (p1 := 168) inj_I s_X7_finds t_X7_finds ⟨w_914, Nat.le_of_ble_eq_true rfl, Nat.le_of_ble_eq_true rfl⟩ (ac_snoc (C := C_X7_count) (n := 1) (c := 1) (p1 := 166) (ac_snoc (C := C_X7_count) (n := 0) (c := 1) (p1 := 165) (ac_nil (C := C_X7_count)) (ec_aload_n (C := C_X7_count) (i := 0) dX7_count_165 rfl) rfl (fun _ => rfl) rfl) (ec_ldc (C := C_X7_count) (v := (-1000001 : Int32)) dX7_count_166 w_913) rfl (fun _ => rfl) rfl) (Nat.le_of_ble_eq_true rfl) dX7_count_168) dX7_count_171 rfl) rfl ⟨(sc_iret (C := C_X7_count) (p1 := 54) (ec_ai (C := C_X7_count) (p1 := 52) (p2 := 53) (ec_gr (C := C_X7_count) (p1 := 49) (ec_aload_n (C := C_X7_count) (i := 0) dX7_count_48 rfl) f_X7_7 dX7_count_49) (ec_iconst (C := C_X7_count) (v := (0 : Int32)) dX7_count_52 rfl) dX7_count_53) dX7_count_54 rfl), ⟨(sc_iret (C := C_X7_count) (p1 := 61) (ec_ai (C := C_X7_count) (p1 := 59) (p2 := 60) (ec_gr (C := C_X7_count) (p1 := 56) (ec_aload_n (C := C_X7_count) (i := 0) dX7_count_55 rfl) f_X7_7 dX7_count_56) (ec_iconst (C := C_X7_count) (v := (1 : Int32)) dX7_count_59 rfl) dX7_count_60) dX7_count_61 rfl), ⟨(sc_seq (C := C_X7_count) (p1 := 95) (sc_sc (C := C_X7_count) (sc_seq (C := C_X7_count) (p1 := 64) (sc_istore_n (C := C_X7_count) (p1 := 63) (i := 3) (ec_iconst (C := C_X7_count) (v := (0 : Int32)) dX7_count_62 rfl) dX7_count_63 rfl (Nat.le_of_ble_eq_true rfl))
  bw_X7_count_1))
  (sc_iret (C := C_X7_count) (p1 := 96) (ec_iload_n (C := C_X7_count) (i := 2) dX7_count_95 rfl) dX7_count_96 rfl)), ⟨(sc_iret (C := C_X7_count) (p1 := 105) (ec_callV (C := C_X7_count) (m := 4) (p1 := 102) inj_I s_X7_sums t_X7_sums ⟨w_995, Nat.le_of_ble_eq_true rfl, Nat.le_of_ble_eq_true rfl⟩ (ac_snoc (C := C_X7_count) (n := 3) (c := 1) (p1 := 101) (ac_snoc (C := C_X7_count) (n := 2) (c := 1) (p1 := 100) (ac_snoc (C := C_X7_count) (n := 1) (c := 1) (p1 := 98) (ac_snoc (C := C_X7_count) (n := 0) (c := 1) (p1 := 97) (ac_nil (C := C_X7_count)) (ec_aload_n (C := C_X7_count) (i := 0) dX7_count_97 rfl) rfl (fun _ => rfl) rfl) (ec_bipush (C := C_X7_count) (v := (125 : Int32)) dX7_count_98 rfl) rfl (fun _ => rfl) rfl) (ec_iconst (C := C_X7_count) (v := (-1 : Int32)) dX7_count_100 rfl) rfl (fun _ => rfl) rfl) (ec_iconst (C := C_X7_count) (v := (-1 : Int32)) dX7_count_101 rfl) rfl (fun _ => rfl) rfl) (Nat.le_of_ble_eq_true rfl) dX7_count_102) dX7_count_105 rfl), ⟨(sc_iret (C := C_X7_count) (p1 := 115) (ec_callV (C := C_X7_count) (m := 4) (p1 := 112) inj_I s_X7_sums t_X7_sums ⟨w_995, Nat.le_of_ble_eq_true rfl, Nat.le_of_ble_eq_true rfl⟩ (ac_snoc (C := C_X7_count) (n := 3) (c := 1) (p1 := 111) (ac_snoc (C := C_X7_count) (n := 2) (c := 1) (p1 := 110) (ac_snoc (C := C_X7_count) (n := 1) (c := 1) (p1 := 107) (ac_snoc (C := C_X7_count) (n := 0) (c := 1) (p1 := 106) (ac_nil (C := C_X7_count)) (ec_aload_n (C := C_X7_count) (i := 0) dX7_count_106 rfl) rfl (fun _ => rfl) rfl) (ec_sipush (C := C_X7_count) (v := (413 : Int32)) dX7_count_107 rfl) rfl (fun _ => rfl) rfl) (ec_iconst (C := C_X7_count) (v := (-1 : Int32)) dX7_count_110 rfl) rfl (fun _ => rfl) rfl) (ec_iconst (C := C_X7_count) (v := (-1 : Int32)) dX7_count_111 rfl) rfl (fun _ => rfl) rfl) (Nat.le_of_ble_eq_true rfl) dX7_count_112) dX7_count_115 rfl), ⟨(sc_iret (C := C_X7_count) (p1 := 120) (ec_gi (C := C_X7_count) (p1 := 117) (ec_aload_n (C := C_X7_count) (i := 0) dX7_count_116 rfl) f_X7_192 dX7_count_117) dX7_count_120 rfl), ⟨(sc_iret (C := C_X7_count) (p1 := 127) (ec_ai (C := C_X7_count) (p1 := 125) (p2 := 126) (ec_gr (C := C_X7_count) (p1 := 122) (ec_aload_n (C := C_X7_count) (i := 0) dX7_count_121 rfl) f_X7_7 dX7_count_122) (ec_iconst (C := C_X7_count) (v := (2 : Int32)) dX7_count_125 rfl) dX7_count_126) dX7_count_127 rfl), ⟨(sc_seq (C := C_X7_count) (p1 := 163) (sc_sc (C := C_X7_count) (sc_seq (C := C_X7_count) (p1 := 130) (sc_istore_n (C := C_X7_count) (p1 := 129) (i := 3) (ec_iconst (C := C_X7_count) (v := (0 : Int32)) dX7_count_128 rfl) dX7_count_129 rfl (Nat.le_of_ble_eq_true rfl))
  bw_X7_count_2))
  (sc_iret (C := C_X7_count) (p1 := 164) (ec_iload_n (C := C_X7_count) (i := 2) dX7_count_163 rfl) dX7_count_164 rfl)), trivial⟩⟩⟩⟩⟩⟩⟩⟩))
theorem s_X7_count : MS M_X7_count D_X7_count := ms_of b_X7_count (by decide +kernel) rfl rfl (fun _ => trivial)
/-- SmokeRoofsModel.status(I)I -/
abbrev C_X7_status : CX := (cX7_status, RX7, 4, 1, 25, "status", (some .int), fun _ => True)
abbrev M_X7_status : MD := (yX7_status, C_X7_status)
theorem k_X7_status : MOK M_X7_status 1 := ⟨w_58, w_1292, by decide +kernel, by decide +kernel, by decide +kernel⟩
theorem t_X7_status : MVT M_X7_status 1 7 := ⟨k_X7_status, w_1290, w_1291, by decide, _, rfl, rfl⟩
def WB_X7_status_1 : DE Bool := (e_bin (fun (x y : Int32) => decide (x < y)) (e_li 3) (e_c (7 : Int32)))
def WS_X7_status_1 : SD := (s_seq (s_st Value.int 2 (e_bin (fun (x y : Int32) => x + y) (e_li 2) (e_if (b_or (e_un (fun (x : Int32) => decide (x < 0)) (e_li 1)) (e_bin (fun (x y : Int32) => decide (x = y)) (e_li 3) (e_li 1))) (e_ai (e_gr 7 3 (e_lr 0)) (e_li 3)) (e_c (0 : Int32)))))
  (s_inc 3 (1)))
def W_X7_status_1 : SD := s_while WB_X7_status_1 WS_X7_status_1 FU
set_option maxRecDepth 100000 in
set_option maxHeartbeats 4000000 in
theorem bw_X7_status_1 : SC C_X7_status 25 59 W_X7_status_1 := by
  unfold W_X7_status_1 WB_X7_status_1 WS_X7_status_1
  exact (sc_while (C := C_X7_status) (pB := 31) (pE := 59) (bc_icmp_ge_F (C := C_X7_status) (p1 := 26) (p2 := 28) (tgt := 59) (ec_iload_n (C := C_X7_status) (i := 3) dX7_status_25 rfl) (ec_bipush (C := C_X7_status) (v := (7 : Int32)) dX7_status_26 rfl) dX7_status_28 rfl)
  (sc_goto (C := C_X7_status) (p1 := 56) (sc_seq (C := C_X7_status) (p1 := 53) (sc_istore_n (C := C_X7_status) (p1 := 52) (i := 2) (ec_iadd (C := C_X7_status) (p1 := 32) (p2 := 51) (ec_iload_n (C := C_X7_status) (i := 2) dX7_status_31 rfl) (ec_if (C := C_X7_status) (pT := 41) (pF := 50) (p1 := 47) (pE := 51) (bc_or (C := C_X7_status) (p1 := 36) (bc_if_lt_T (C := C_X7_status) (p2 := 33) (tgt := 41) (ec_iload_n (C := C_X7_status) (i := 1) dX7_status_32 rfl) dX7_status_33 rfl) (bc_icmp_ne_F (C := C_X7_status) (p1 := 37) (p2 := 38) (tgt := 50) (ec_iload_n (C := C_X7_status) (i := 3) dX7_status_36 rfl) (ec_iload_n (C := C_X7_status) (i := 1) dX7_status_37 rfl) dX7_status_38 rfl)) (ec_ai (C := C_X7_status) (p1 := 45) (p2 := 46) (ec_gr (C := C_X7_status) (p1 := 42) (ec_aload_n (C := C_X7_status) (i := 0) dX7_status_41 rfl) f_X7_19 dX7_status_42) (ec_iload_n (C := C_X7_status) (i := 3) dX7_status_45 rfl) dX7_status_46) dX7_status_47 rfl (ec_iconst (C := C_X7_status) (v := (0 : Int32)) dX7_status_50 rfl)) dX7_status_51) dX7_status_52 rfl (Nat.le_of_ble_eq_true rfl))
  (sc_iinc (C := C_X7_status) (v := (1)) dX7_status_53 rfl (Nat.le_of_ble_eq_true rfl))) dX7_status_56 rfl) FU)
def S_X7_status : SD := (s_seq (s_if (b_not (b_of (e_call prI D_X7_in 3 (a_snoc Value.long (a_snoc Value.long (a_snoc Value.long a_nil (e_un (fun (x : Int32) => x.toInt64) (e_li 1))) (e_c (-1 : Int64))) (e_c (6 : Int64)))))) (s_ret Value.int (e_call prI D_X7_finds 2 (a_recv 7 (a_snoc Value.int (a_snoc Value.ref a_nil (e_lr 0)) (e_c (-1000001 : Int32)))))) s_skip)
  (s_seq (s_st Value.int 2 (e_c (0 : Int32)))
  (s_seq (s_sc 3 (s_seq (s_st Value.int 3 (e_c (0 : Int32)))
  W_X7_status_1))
  (s_ret Value.int (e_li 2)))))
def D_X7_status : MDen := m_den 4 S_X7_status
set_option maxRecDepth 100000 in
set_option maxHeartbeats 4000000 in
theorem b_X7_status : SC C_X7_status 0 0 S_X7_status := by
  unfold S_X7_status
  exact (sc_seq (C := C_X7_status) (p1 := 21) (sc_if (C := C_X7_status) (pT := 14) (pF := 21) (p2 := 21) (bc_not (C := C_X7_status) (bc_of_T (C := C_X7_status) (p2 := 11) (tgt := 21) (ec_callS (C := C_X7_status) (m := 6) (p1 := 8) inj_I s_X7_in t_X7_in ⟨w_908, Nat.le_of_ble_eq_true rfl, Nat.le_of_ble_eq_true rfl⟩ (ac_snoc (C := C_X7_status) (n := 4) (c := 2) (p1 := 5) (ac_snoc (C := C_X7_status) (n := 2) (c := 2) (p1 := 2) (ac_snoc (C := C_X7_status) (n := 0) (c := 2) (p1 := 0) (ac_nil (C := C_X7_status)) (ec_i2l (C := C_X7_status) (p1 := 1) (ec_iload_n (C := C_X7_status) (i := 1) dX7_status_0 rfl) dX7_status_1) rfl (fun _ => rfl) rfl) (ec_ldc2 (C := C_X7_status) (v := (-1 : Int64)) dX7_status_2 w_911) rfl (fun _ => rfl) rfl) (ec_ldc2 (C := C_X7_status) (v := (6 : Int64)) dX7_status_5 w_931) rfl (fun _ => rfl) rfl) (Nat.le_of_ble_eq_true rfl) dX7_status_8) dX7_status_11 rfl)) (sc_iret (C := C_X7_status) (p1 := 20) (ec_callV (C := C_X7_status) (m := 2) (p1 := 17) inj_I s_X7_finds t_X7_finds ⟨w_914, Nat.le_of_ble_eq_true rfl, Nat.le_of_ble_eq_true rfl⟩ (ac_snoc (C := C_X7_status) (n := 1) (c := 1) (p1 := 15) (ac_snoc (C := C_X7_status) (n := 0) (c := 1) (p1 := 14) (ac_nil (C := C_X7_status)) (ec_aload_n (C := C_X7_status) (i := 0) dX7_status_14 rfl) rfl (fun _ => rfl) rfl) (ec_ldc (C := C_X7_status) (v := (-1000001 : Int32)) dX7_status_15 w_913) rfl (fun _ => rfl) rfl) (Nat.le_of_ble_eq_true rfl) dX7_status_17) dX7_status_20 rfl) sc_skip)
  (sc_seq (C := C_X7_status) (p1 := 23) (sc_istore_n (C := C_X7_status) (p1 := 22) (i := 2) (ec_iconst (C := C_X7_status) (v := (0 : Int32)) dX7_status_21 rfl) dX7_status_22 rfl (Nat.le_of_ble_eq_true rfl))
  (sc_seq (C := C_X7_status) (p1 := 59) (sc_sc (C := C_X7_status) (sc_seq (C := C_X7_status) (p1 := 25) (sc_istore_n (C := C_X7_status) (p1 := 24) (i := 3) (ec_iconst (C := C_X7_status) (v := (0 : Int32)) dX7_status_23 rfl) dX7_status_24 rfl (Nat.le_of_ble_eq_true rfl))
  bw_X7_status_1))
  (sc_iret (C := C_X7_status) (p1 := 60) (ec_iload_n (C := C_X7_status) (i := 2) dX7_status_59 rfl) dX7_status_60 rfl))))
theorem s_X7_status : MS M_X7_status D_X7_status := ms_of b_X7_status (by decide +kernel) rfl rfl (fun _ => trivial)
