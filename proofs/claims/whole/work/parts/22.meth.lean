/-- SmokeRoofs.worst(II)I -/
abbrev C_X6_worst : CX := (cX6_worst, RX6, 8, 7, 164, "worst", (some .int), fun _ => True)
abbrev M_X6_worst : MD := (yX6_worst, C_X6_worst)
theorem k_X6_worst : MOK M_X6_worst 2 := ⟨w_50, w_544, by decide +kernel, by decide +kernel, by decide +kernel⟩
theorem t_X6_worst : MVT M_X6_worst 2 6 := ⟨k_X6_worst, w_542, w_543, by decide, _, rfl, rfl⟩
def WB_X6_worst_1 : DE Bool := (e_bin (fun (x y : Int32) => decide (x < y)) (e_li 6) (e_gi 5 2 (e_gr 6 0 (e_lr 0))))
def WS_X6_worst_1 : SD := (s_seq (s_sc 7 (s_seq (s_st Value.int 7 (e_call prI D_X6_dirtWith 2 (a_recv 6 (a_snoc Value.int (a_snoc Value.ref a_nil (e_lr 0)) (e_bin (fun (x y : Int32) => x &&& y) (e_li 3) (e_bin (fun (x y : Int32) => x ^^^ y) (e_bin (fun (x y : Int32) => x <<< (y &&& 31)) (e_c (1 : Int32)) (e_li 6)) (e_c (-1 : Int32))))))))
  (s_if (b_or (e_un (fun (x : Int32) => decide (x = 0)) (e_li 6)) (e_bin (fun (x y : Int32) => decide (x < y)) (e_li 7) (e_li 5))) (s_seq (s_st Value.int 5 (e_li 7))
  (s_st Value.int 4 (e_li 6))) s_skip)))
  (s_inc 6 (1)))
def W_X6_worst_1 : SD := s_while WB_X6_worst_1 WS_X6_worst_1 FU
set_option maxRecDepth 100000 in
set_option maxHeartbeats 4000000 in
theorem bw_X6_worst_1 : SC C_X6_worst 80 132 W_X6_worst_1 := by
  unfold W_X6_worst_1 WB_X6_worst_1 WS_X6_worst_1
  exact (sc_while (C := C_X6_worst) (pB := 92) (pE := 132) (bc_icmp_ge_F (C := C_X6_worst) (p1 := 82) (p2 := 89) (tgt := 132) (ec_iload (C := C_X6_worst) dX6_worst_80) (ec_gi (C := C_X6_worst) (p1 := 86) (ec_gr (C := C_X6_worst) (p1 := 83) (ec_aload_n (C := C_X6_worst) (i := 0) dX6_worst_82 rfl) f_X6_10 dX6_worst_83) f_X6_178 dX6_worst_86) dX6_worst_89 rfl)
  (sc_goto (C := C_X6_worst) (p1 := 129) (sc_seq (C := C_X6_worst) (p1 := 126) (sc_sc (C := C_X6_worst) (sc_seq (C := C_X6_worst) (p1 := 106) (sc_istore (C := C_X6_worst) (p1 := 104) (ec_callV (C := C_X6_worst) (m := 2) (p1 := 101) inj_I s_X6_dirtWith t_X6_dirtWith ⟨w_537, Nat.le_of_ble_eq_true rfl, Nat.le_of_ble_eq_true rfl⟩ (ac_snoc (C := C_X6_worst) (n := 1) (c := 1) (p1 := 93) (ac_snoc (C := C_X6_worst) (n := 0) (c := 1) (p1 := 92) (ac_nil (C := C_X6_worst)) (ec_aload_n (C := C_X6_worst) (i := 0) dX6_worst_92 rfl) rfl (fun _ => rfl) rfl) (ec_iand (C := C_X6_worst) (p1 := 94) (p2 := 100) (ec_iload_n (C := C_X6_worst) (i := 3) dX6_worst_93 rfl) (ec_ixor (C := C_X6_worst) (p1 := 98) (p2 := 99) (ec_ishl (C := C_X6_worst) (p1 := 95) (p2 := 97) (ec_iconst (C := C_X6_worst) (v := (1 : Int32)) dX6_worst_94 rfl) (ec_iload (C := C_X6_worst) dX6_worst_95) dX6_worst_97) (ec_iconst (C := C_X6_worst) (v := (-1 : Int32)) dX6_worst_98 rfl) dX6_worst_99) dX6_worst_100) rfl (fun _ => rfl) rfl) (Nat.le_of_ble_eq_true rfl) dX6_worst_101) dX6_worst_104 (Nat.le_of_ble_eq_true rfl))
  (sc_if (C := C_X6_worst) (pT := 118) (pF := 126) (p2 := 126) (bc_or (C := C_X6_worst) (p1 := 111) (bc_if_eq_T (C := C_X6_worst) (p2 := 108) (tgt := 118) (ec_iload (C := C_X6_worst) dX6_worst_106) dX6_worst_108 rfl) (bc_icmp_ge_F (C := C_X6_worst) (p1 := 113) (p2 := 115) (tgt := 126) (ec_iload (C := C_X6_worst) dX6_worst_111) (ec_iload (C := C_X6_worst) dX6_worst_113) dX6_worst_115 rfl)) (sc_seq (C := C_X6_worst) (p1 := 122) (sc_istore (C := C_X6_worst) (p1 := 120) (ec_iload (C := C_X6_worst) dX6_worst_118) dX6_worst_120 (Nat.le_of_ble_eq_true rfl))
  (sc_istore (C := C_X6_worst) (p1 := 124) (ec_iload (C := C_X6_worst) dX6_worst_122) dX6_worst_124 (Nat.le_of_ble_eq_true rfl))) sc_skip)))
  (sc_iinc (C := C_X6_worst) (v := (1)) dX6_worst_126 rfl (Nat.le_of_ble_eq_true rfl))) dX6_worst_129 rfl) FU)
def S_X6_worst : SD := (s_seq (s_if (b_or (b_not (b_of (e_call prI D_X6_isOwner 1 (a_snoc Value.int a_nil (e_li 1))))) (b_not (b_of (e_call prI D_X6_isIn 3 (a_snoc Value.int (a_snoc Value.int (a_snoc Value.int a_nil (e_li 2)) (e_c (1 : Int32))) (e_c (24 : Int32))))))) (s_ret Value.int (e_call prI D_X6_finding 2 (a_recv 6 (a_snoc Value.int (a_snoc Value.ref a_nil (e_lr 0)) (e_c (0 : Int32)))))) s_skip)
  (s_seq (s_if (b_not (b_of (e_call prI D_X6_hasHours 2 (a_recv 6 (a_snoc Value.int (a_snoc Value.ref a_nil (e_lr 0)) (e_li 2)))))) (s_ret Value.int (e_call prI D_X6_finding 2 (a_recv 6 (a_snoc Value.int (a_snoc Value.ref a_nil (e_lr 0)) (e_c (4 : Int32)))))) s_skip)
  (s_seq (s_if (e_un (fun (x : Int32) => decide (x = 0)) (e_gi 5 2 (e_gr 6 0 (e_lr 0)))) (s_ret Value.int (e_call prI D_X6_finding 2 (a_recv 6 (a_snoc Value.int (a_snoc Value.ref a_nil (e_lr 0)) (e_c (3 : Int32)))))) s_skip)
  (s_seq (s_call D_X6_playDirt 3 (a_recv 6 (a_snoc Value.int (a_snoc Value.int (a_snoc Value.ref a_nil (e_lr 0)) (e_li 1)) (e_li 2))))
  (s_seq (s_st Value.int 3 (e_bin (fun (x y : Int32) => x - y) (e_bin (fun (x y : Int32) => x <<< (y &&& 31)) (e_c (1 : Int32)) (e_gi 5 2 (e_gr 6 0 (e_lr 0)))) (e_c (1 : Int32))))
  (s_seq (s_st Value.int 4 (e_c (0 : Int32)))
  (s_seq (s_st Value.int 5 (e_c (0 : Int32)))
  (s_seq (s_sc 6 (s_seq (s_st Value.int 6 (e_c (0 : Int32)))
  W_X6_worst_1))
  (s_ret Value.int (e_li 4))))))))))
def D_X6_worst : MDen := m_den 8 S_X6_worst
set_option maxRecDepth 100000 in
set_option maxHeartbeats 4000000 in
theorem b_X6_worst : SC C_X6_worst 0 0 S_X6_worst := by
  unfold S_X6_worst
  exact (sc_seq (C := C_X6_worst) (p1 := 23) (sc_if (C := C_X6_worst) (pT := 17) (pF := 23) (p2 := 23) (bc_or (C := C_X6_worst) (p1 := 7) (bc_not (C := C_X6_worst) (bc_of_F (C := C_X6_worst) (p2 := 4) (tgt := 17) (ec_callS (C := C_X6_worst) (m := 1) (p1 := 1) inj_I s_X6_isOwner t_X6_isOwner ⟨w_311, Nat.le_of_ble_eq_true rfl, Nat.le_of_ble_eq_true rfl⟩ (ac_snoc (C := C_X6_worst) (n := 0) (c := 1) (p1 := 0) (ac_nil (C := C_X6_worst)) (ec_iload_n (C := C_X6_worst) (i := 1) dX6_worst_0 rfl) rfl (fun _ => rfl) rfl) (Nat.le_of_ble_eq_true rfl) dX6_worst_1) dX6_worst_4 rfl)) (bc_not (C := C_X6_worst) (bc_of_T (C := C_X6_worst) (p2 := 14) (tgt := 23) (ec_callS (C := C_X6_worst) (m := 3) (p1 := 11) inj_I s_X6_isIn t_X6_isIn ⟨w_292, Nat.le_of_ble_eq_true rfl, Nat.le_of_ble_eq_true rfl⟩ (ac_snoc (C := C_X6_worst) (n := 2) (c := 1) (p1 := 9) (ac_snoc (C := C_X6_worst) (n := 1) (c := 1) (p1 := 8) (ac_snoc (C := C_X6_worst) (n := 0) (c := 1) (p1 := 7) (ac_nil (C := C_X6_worst)) (ec_iload_n (C := C_X6_worst) (i := 2) dX6_worst_7 rfl) rfl (fun _ => rfl) rfl) (ec_iconst (C := C_X6_worst) (v := (1 : Int32)) dX6_worst_8 rfl) rfl (fun _ => rfl) rfl) (ec_bipush (C := C_X6_worst) (v := (24 : Int32)) dX6_worst_9 rfl) rfl (fun _ => rfl) rfl) (Nat.le_of_ble_eq_true rfl) dX6_worst_11) dX6_worst_14 rfl))) (sc_iret (C := C_X6_worst) (p1 := 22) (ec_callV (C := C_X6_worst) (m := 2) (p1 := 19) inj_I s_X6_finding t_X6_finding ⟨w_295, Nat.le_of_ble_eq_true rfl, Nat.le_of_ble_eq_true rfl⟩ (ac_snoc (C := C_X6_worst) (n := 1) (c := 1) (p1 := 18) (ac_snoc (C := C_X6_worst) (n := 0) (c := 1) (p1 := 17) (ac_nil (C := C_X6_worst)) (ec_aload_n (C := C_X6_worst) (i := 0) dX6_worst_17 rfl) rfl (fun _ => rfl) rfl) (ec_iconst (C := C_X6_worst) (v := (0 : Int32)) dX6_worst_18 rfl) rfl (fun _ => rfl) rfl) (Nat.le_of_ble_eq_true rfl) dX6_worst_19) dX6_worst_22 rfl) sc_skip)
  (sc_seq (C := C_X6_worst) (p1 := 37) (sc_if (C := C_X6_worst) (pT := 31) (pF := 37) (p2 := 37) (bc_not (C := C_X6_worst) (bc_of_T (C := C_X6_worst) (p2 := 28) (tgt := 37) (ec_callV (C := C_X6_worst) (m := 2) (p1 := 25) inj_I s_X6_hasHours t_X6_hasHours ⟨w_418, Nat.le_of_ble_eq_true rfl, Nat.le_of_ble_eq_true rfl⟩ (ac_snoc (C := C_X6_worst) (n := 1) (c := 1) (p1 := 24) (ac_snoc (C := C_X6_worst) (n := 0) (c := 1) (p1 := 23) (ac_nil (C := C_X6_worst)) (ec_aload_n (C := C_X6_worst) (i := 0) dX6_worst_23 rfl) rfl (fun _ => rfl) rfl) (ec_iload_n (C := C_X6_worst) (i := 2) dX6_worst_24 rfl) rfl (fun _ => rfl) rfl) (Nat.le_of_ble_eq_true rfl) dX6_worst_25) dX6_worst_28 rfl)) (sc_iret (C := C_X6_worst) (p1 := 36) (ec_callV (C := C_X6_worst) (m := 2) (p1 := 33) inj_I s_X6_finding t_X6_finding ⟨w_295, Nat.le_of_ble_eq_true rfl, Nat.le_of_ble_eq_true rfl⟩ (ac_snoc (C := C_X6_worst) (n := 1) (c := 1) (p1 := 32) (ac_snoc (C := C_X6_worst) (n := 0) (c := 1) (p1 := 31) (ac_nil (C := C_X6_worst)) (ec_aload_n (C := C_X6_worst) (i := 0) dX6_worst_31 rfl) rfl (fun _ => rfl) rfl) (ec_iconst (C := C_X6_worst) (v := (4 : Int32)) dX6_worst_32 rfl) rfl (fun _ => rfl) rfl) (Nat.le_of_ble_eq_true rfl) dX6_worst_33) dX6_worst_36 rfl) sc_skip)
  (sc_seq (C := C_X6_worst) (p1 := 53) (sc_if (C := C_X6_worst) (pT := 47) (pF := 53) (p2 := 53) (bc_if_ne_F (C := C_X6_worst) (p2 := 44) (tgt := 53) (ec_gi (C := C_X6_worst) (p1 := 41) (ec_gr (C := C_X6_worst) (p1 := 38) (ec_aload_n (C := C_X6_worst) (i := 0) dX6_worst_37 rfl) f_X6_10 dX6_worst_38) f_X6_178 dX6_worst_41) dX6_worst_44 rfl) (sc_iret (C := C_X6_worst) (p1 := 52) (ec_callV (C := C_X6_worst) (m := 2) (p1 := 49) inj_I s_X6_finding t_X6_finding ⟨w_295, Nat.le_of_ble_eq_true rfl, Nat.le_of_ble_eq_true rfl⟩ (ac_snoc (C := C_X6_worst) (n := 1) (c := 1) (p1 := 48) (ac_snoc (C := C_X6_worst) (n := 0) (c := 1) (p1 := 47) (ac_nil (C := C_X6_worst)) (ec_aload_n (C := C_X6_worst) (i := 0) dX6_worst_47 rfl) rfl (fun _ => rfl) rfl) (ec_iconst (C := C_X6_worst) (v := (3 : Int32)) dX6_worst_48 rfl) rfl (fun _ => rfl) rfl) (Nat.le_of_ble_eq_true rfl) dX6_worst_49) dX6_worst_52 rfl) sc_skip)
  (sc_seq (C := C_X6_worst) (p1 := 59) (sc_callV (C := C_X6_worst) (m := 3) (p1 := 56) s_X6_playDirt t_X6_playDirt ⟨w_529, Nat.le_of_ble_eq_true rfl, Nat.le_of_ble_eq_true rfl⟩ (ac_snoc (C := C_X6_worst) (n := 2) (c := 1) (p1 := 55) (ac_snoc (C := C_X6_worst) (n := 1) (c := 1) (p1 := 54) (ac_snoc (C := C_X6_worst) (n := 0) (c := 1) (p1 := 53) (ac_nil (C := C_X6_worst)) (ec_aload_n (C := C_X6_worst) (i := 0) dX6_worst_53 rfl) rfl (fun _ => rfl) rfl) (ec_iload_n (C := C_X6_worst) (i := 1) dX6_worst_54 rfl) rfl (fun _ => rfl) rfl) (ec_iload_n (C := C_X6_worst) (i := 2) dX6_worst_55 rfl) rfl (fun _ => rfl) rfl) dX6_worst_56)
  (sc_seq (C := C_X6_worst) (p1 := 71) (sc_istore_n (C := C_X6_worst) (p1 := 70) (i := 3) (ec_isub (C := C_X6_worst) (p1 := 68) (p2 := 69) (ec_ishl (C := C_X6_worst) (p1 := 60) (p2 := 67) (ec_iconst (C := C_X6_worst) (v := (1 : Int32)) dX6_worst_59 rfl) (ec_gi (C := C_X6_worst) (p1 := 64) (ec_gr (C := C_X6_worst) (p1 := 61) (ec_aload_n (C := C_X6_worst) (i := 0) dX6_worst_60 rfl) f_X6_10 dX6_worst_61) f_X6_178 dX6_worst_64) dX6_worst_67) (ec_iconst (C := C_X6_worst) (v := (1 : Int32)) dX6_worst_68 rfl) dX6_worst_69) dX6_worst_70 rfl (Nat.le_of_ble_eq_true rfl))
  (sc_seq (C := C_X6_worst) (p1 := 74) (sc_istore (C := C_X6_worst) (p1 := 72) (ec_iconst (C := C_X6_worst) (v := (0 : Int32)) dX6_worst_71 rfl) dX6_worst_72 (Nat.le_of_ble_eq_true rfl))
  (sc_seq (C := C_X6_worst) (p1 := 77) (sc_istore (C := C_X6_worst) (p1 := 75) (ec_iconst (C := C_X6_worst) (v := (0 : Int32)) dX6_worst_74 rfl) dX6_worst_75 (Nat.le_of_ble_eq_true rfl))
  (sc_seq (C := C_X6_worst) (p1 := 132) (sc_sc (C := C_X6_worst) (sc_seq (C := C_X6_worst) (p1 := 80) (sc_istore (C := C_X6_worst) (p1 := 78) (ec_iconst (C := C_X6_worst) (v := (0 : Int32)) dX6_worst_77 rfl) dX6_worst_78 (Nat.le_of_ble_eq_true rfl))
  bw_X6_worst_1))
  (sc_iret (C := C_X6_worst) (p1 := 134) (ec_iload (C := C_X6_worst) dX6_worst_132) dX6_worst_134 rfl)))))))))
theorem s_X6_worst : MS M_X6_worst D_X6_worst := ms_of b_X6_worst (by decide +kernel) rfl rfl (fun _ => trivial)
/-- SmokeRoofs.over(I)I -/
abbrev C_X6_over : CX := (cX6_over, RX6, 4, 2, 42, "over", (some .int), fun _ => True)
abbrev M_X6_over : MD := (yX6_over, C_X6_over)
theorem k_X6_over : MOK M_X6_over 1 := ⟨w_50, w_548, by decide +kernel, by decide +kernel, by decide +kernel⟩
theorem t_X6_over : MVT M_X6_over 1 6 := ⟨k_X6_over, w_546, w_547, by decide, _, rfl, rfl⟩
def WB_X6_over_1 : DE Bool := (e_bin (fun (x y : Int32) => decide (x < y)) (e_li 3) (e_gi 5 2 (e_gr 6 0 (e_lr 0))))
def WS_X6_over_1 : SD := (s_seq (s_if (e_un (fun (x : Int32) => decide (0 < x)) (e_ai (e_gr 0 1 (e_ar 0 (e_gr 5 7 (e_gr 6 0 (e_lr 0))) (e_li 3))) (e_li 1))) (s_st Value.int 2 (e_bin (fun (x y : Int32) => x ||| y) (e_li 2) (e_bin (fun (x y : Int32) => x <<< (y &&& 31)) (e_c (1 : Int32)) (e_li 3)))) s_skip)
  (s_inc 3 (1)))
def W_X6_over_1 : SD := s_while WB_X6_over_1 WS_X6_over_1 FU
set_option maxRecDepth 100000 in
set_option maxHeartbeats 4000000 in
theorem bw_X6_over_1 : SC C_X6_over 17 57 W_X6_over_1 := by
  unfold W_X6_over_1 WB_X6_over_1 WS_X6_over_1
  exact (sc_while (C := C_X6_over) (pB := 28) (pE := 57) (bc_icmp_ge_F (C := C_X6_over) (p1 := 18) (p2 := 25) (tgt := 57) (ec_iload_n (C := C_X6_over) (i := 3) dX6_over_17 rfl) (ec_gi (C := C_X6_over) (p1 := 22) (ec_gr (C := C_X6_over) (p1 := 19) (ec_aload_n (C := C_X6_over) (i := 0) dX6_over_18 rfl) f_X6_10 dX6_over_19) f_X6_178 dX6_over_22) dX6_over_25 rfl)
  (sc_goto (C := C_X6_over) (p1 := 54) (sc_seq (C := C_X6_over) (p1 := 51) (sc_if (C := C_X6_over) (pT := 45) (pF := 51) (p2 := 51) (bc_if_le_F (C := C_X6_over) (p2 := 42) (tgt := 51) (ec_ai (C := C_X6_over) (p1 := 40) (p2 := 41) (ec_gr (C := C_X6_over) (p1 := 37) (ec_ar (C := C_X6_over) (p1 := 35) (p2 := 36) (Nat.le_of_ble_eq_true rfl) (ec_gr (C := C_X6_over) (p1 := 32) (ec_gr (C := C_X6_over) (p1 := 29) (ec_aload_n (C := C_X6_over) (i := 0) dX6_over_28 rfl) f_X6_10 dX6_over_29) f_X6_105 dX6_over_32) (ec_iload_n (C := C_X6_over) (i := 3) dX6_over_35 rfl) dX6_over_36) f_X6_150 dX6_over_37) (ec_iload_n (C := C_X6_over) (i := 1) dX6_over_40 rfl) dX6_over_41) dX6_over_42 rfl) (sc_istore_n (C := C_X6_over) (p1 := 50) (i := 2) (ec_ior (C := C_X6_over) (p1 := 46) (p2 := 49) (ec_iload_n (C := C_X6_over) (i := 2) dX6_over_45 rfl) (ec_ishl (C := C_X6_over) (p1 := 47) (p2 := 48) (ec_iconst (C := C_X6_over) (v := (1 : Int32)) dX6_over_46 rfl) (ec_iload_n (C := C_X6_over) (i := 3) dX6_over_47 rfl) dX6_over_48) dX6_over_49) dX6_over_50 rfl (Nat.le_of_ble_eq_true rfl)) sc_skip)
  (sc_iinc (C := C_X6_over) (v := (1)) dX6_over_51 rfl (Nat.le_of_ble_eq_true rfl))) dX6_over_54 rfl) FU)
def S_X6_over : SD := (s_seq (s_if (b_not (b_of (e_call prI D_X6_isCell 1 (a_snoc Value.int a_nil (e_li 1))))) (s_ret Value.int (e_call prI D_X6_finding 2 (a_recv 6 (a_snoc Value.int (a_snoc Value.ref a_nil (e_lr 0)) (e_c (0 : Int32)))))) s_skip)
  (s_seq (s_st Value.int 2 (e_c (0 : Int32)))
  (s_seq (s_sc 3 (s_seq (s_st Value.int 3 (e_c (0 : Int32)))
  W_X6_over_1))
  (s_ret Value.int (e_li 2)))))
def D_X6_over : MDen := m_den 4 S_X6_over
set_option maxRecDepth 100000 in
set_option maxHeartbeats 4000000 in
theorem b_X6_over : SC C_X6_over 0 0 S_X6_over := by
  unfold S_X6_over
  exact (sc_seq (C := C_X6_over) (p1 := 13) (sc_if (C := C_X6_over) (pT := 7) (pF := 13) (p2 := 13) (bc_not (C := C_X6_over) (bc_of_T (C := C_X6_over) (p2 := 4) (tgt := 13) (ec_callS (C := C_X6_over) (m := 1) (p1 := 1) inj_I s_X6_isCell t_X6_isCell ⟨w_289, Nat.le_of_ble_eq_true rfl, Nat.le_of_ble_eq_true rfl⟩ (ac_snoc (C := C_X6_over) (n := 0) (c := 1) (p1 := 0) (ac_nil (C := C_X6_over)) (ec_iload_n (C := C_X6_over) (i := 1) dX6_over_0 rfl) rfl (fun _ => rfl) rfl) (Nat.le_of_ble_eq_true rfl) dX6_over_1) dX6_over_4 rfl)) (sc_iret (C := C_X6_over) (p1 := 12) (ec_callV (C := C_X6_over) (m := 2) (p1 := 9) inj_I s_X6_finding t_X6_finding ⟨w_295, Nat.le_of_ble_eq_true rfl, Nat.le_of_ble_eq_true rfl⟩ (ac_snoc (C := C_X6_over) (n := 1) (c := 1) (p1 := 8) (ac_snoc (C := C_X6_over) (n := 0) (c := 1) (p1 := 7) (ac_nil (C := C_X6_over)) (ec_aload_n (C := C_X6_over) (i := 0) dX6_over_7 rfl) rfl (fun _ => rfl) rfl) (ec_iconst (C := C_X6_over) (v := (0 : Int32)) dX6_over_8 rfl) rfl (fun _ => rfl) rfl) (Nat.le_of_ble_eq_true rfl) dX6_over_9) dX6_over_12 rfl) sc_skip)
  (sc_seq (C := C_X6_over) (p1 := 15) (sc_istore_n (C := C_X6_over) (p1 := 14) (i := 2) (ec_iconst (C := C_X6_over) (v := (0 : Int32)) dX6_over_13 rfl) dX6_over_14 rfl (Nat.le_of_ble_eq_true rfl))
  (sc_seq (C := C_X6_over) (p1 := 57) (sc_sc (C := C_X6_over) (sc_seq (C := C_X6_over) (p1 := 17) (sc_istore_n (C := C_X6_over) (p1 := 16) (i := 3) (ec_iconst (C := C_X6_over) (v := (0 : Int32)) dX6_over_15 rfl) dX6_over_16 rfl (Nat.le_of_ble_eq_true rfl))
  bw_X6_over_1))
  (sc_iret (C := C_X6_over) (p1 := 58) (ec_iload_n (C := C_X6_over) (i := 2) dX6_over_57 rfl) dX6_over_58 rfl))))
theorem s_X6_over : MS M_X6_over D_X6_over := ms_of b_X6_over (by decide +kernel) rfl rfl (fun _ => trivial)
/-- SmokeRoofs.isUnder(II)Z -/
abbrev C_X6_isUnder : CX := (cX6_isUnder, RX6, 4, 2, 42, "isUnder", (some .boolean), fun _ => True)
abbrev M_X6_isUnder : MD := (yX6_isUnder, C_X6_isUnder)
theorem k_X6_isUnder : MOK M_X6_isUnder 2 := ⟨w_50, w_555, by decide +kernel, by decide +kernel, by decide +kernel⟩
theorem t_X6_isUnder : MST M_X6_isUnder 2 := ⟨k_X6_isUnder, w_554⟩
def WB_X6_isUnder_1 : DE Bool := (b_and (e_bin (fun (x y : Int32) => decide (x < y)) (e_li 3) (e_c (3 : Int32))) (b_of (e_call prI D_X6_isKind 1 (a_snoc Value.int a_nil (e_li 2)))))
def WS_X6_isUnder_1 : SD := (s_seq (s_seq (s_if (e_bin (fun (x y : Int32) => decide (x = y)) (e_li 2) (e_li 1)) (s_retz (e_c (1 : Int32))) s_skip)
  (s_st Value.int 2 (e_ai (e_c (SPB + 1)) (e_li 2))))
  (s_inc 3 (1)))
def W_X6_isUnder_1 : SD := s_while WB_X6_isUnder_1 WS_X6_isUnder_1 FU
set_option maxRecDepth 100000 in
set_option maxHeartbeats 4000000 in
theorem bw_X6_isUnder_1 : SC C_X6_isUnder 4 35 W_X6_isUnder_1 := by
  unfold W_X6_isUnder_1 WB_X6_isUnder_1 WS_X6_isUnder_1
  exact (sc_while (C := C_X6_isUnder) (pB := 16) (pE := 35) (bc_and (C := C_X6_isUnder) (p1 := 9) (bc_icmp_ge_F (C := C_X6_isUnder) (p1 := 5) (p2 := 6) (tgt := 35) (ec_iload_n (C := C_X6_isUnder) (i := 3) dX6_isUnder_4 rfl) (ec_iconst (C := C_X6_isUnder) (v := (3 : Int32)) dX6_isUnder_5 rfl) dX6_isUnder_6 rfl) (bc_of_F (C := C_X6_isUnder) (p2 := 13) (tgt := 35) (ec_callS (C := C_X6_isUnder) (m := 1) (p1 := 10) inj_I s_X6_isKind t_X6_isKind ⟨w_308, Nat.le_of_ble_eq_true rfl, Nat.le_of_ble_eq_true rfl⟩ (ac_snoc (C := C_X6_isUnder) (n := 0) (c := 1) (p1 := 9) (ac_nil (C := C_X6_isUnder)) (ec_iload_n (C := C_X6_isUnder) (i := 2) dX6_isUnder_9 rfl) rfl (fun _ => rfl) rfl) (Nat.le_of_ble_eq_true rfl) dX6_isUnder_10) dX6_isUnder_13 rfl))
  (sc_goto (C := C_X6_isUnder) (p1 := 32) (sc_seq (C := C_X6_isUnder) (p1 := 29) (sc_seq (C := C_X6_isUnder) (p1 := 23) (sc_if (C := C_X6_isUnder) (pT := 21) (pF := 23) (p2 := 23) (bc_icmp_ne_F (C := C_X6_isUnder) (p1 := 17) (p2 := 18) (tgt := 23) (ec_iload_n (C := C_X6_isUnder) (i := 2) dX6_isUnder_16 rfl) (ec_iload_n (C := C_X6_isUnder) (i := 1) dX6_isUnder_17 rfl) dX6_isUnder_18 rfl) (sc_zret (C := C_X6_isUnder) (p1 := 22) (ec_iconst (C := C_X6_isUnder) (v := (1 : Int32)) dX6_isUnder_21 rfl) dX6_isUnder_22 rfl) sc_skip)
  (sc_istore_n (C := C_X6_isUnder) (p1 := 28) (i := 2) (ec_ai (C := C_X6_isUnder) (p1 := 26) (p2 := 27) (ec_st (C := C_X6_isUnder) (i := 1) (q := st_tab[1]) rfl w_556 dX6_isUnder_23) (ec_iload_n (C := C_X6_isUnder) (i := 2) dX6_isUnder_26 rfl) dX6_isUnder_27) dX6_isUnder_28 rfl (Nat.le_of_ble_eq_true rfl)))
  (sc_iinc (C := C_X6_isUnder) (v := (1)) dX6_isUnder_29 rfl (Nat.le_of_ble_eq_true rfl))) dX6_isUnder_32 rfl) FU)
def S_X6_isUnder : SD := (s_seq (s_st Value.int 2 (e_li 0))
  (s_seq (s_sc 3 (s_seq (s_st Value.int 3 (e_c (0 : Int32)))
  W_X6_isUnder_1))
  (s_retz (e_c (0 : Int32)))))
def D_X6_isUnder : MDen := m_den 4 S_X6_isUnder
set_option maxRecDepth 100000 in
set_option maxHeartbeats 4000000 in
theorem b_X6_isUnder : SC C_X6_isUnder 0 0 S_X6_isUnder := by
  unfold S_X6_isUnder
  exact (sc_seq (C := C_X6_isUnder) (p1 := 2) (sc_istore_n (C := C_X6_isUnder) (p1 := 1) (i := 2) (ec_iload_n (C := C_X6_isUnder) (i := 0) dX6_isUnder_0 rfl) dX6_isUnder_1 rfl (Nat.le_of_ble_eq_true rfl))
  (sc_seq (C := C_X6_isUnder) (p1 := 35) (sc_sc (C := C_X6_isUnder) (sc_seq (C := C_X6_isUnder) (p1 := 4) (sc_istore_n (C := C_X6_isUnder) (p1 := 3) (i := 3) (ec_iconst (C := C_X6_isUnder) (v := (0 : Int32)) dX6_isUnder_2 rfl) dX6_isUnder_3 rfl (Nat.le_of_ble_eq_true rfl))
  bw_X6_isUnder_1))
  (sc_zret (C := C_X6_isUnder) (p1 := 36) (ec_iconst (C := C_X6_isUnder) (v := (0 : Int32)) dX6_isUnder_35 rfl) dX6_isUnder_36 rfl)))
theorem s_X6_isUnder : MS M_X6_isUnder D_X6_isUnder := ms_of b_X6_isUnder (by decide +kernel) rfl rfl (fun _ => trivial)
/-- SmokeRoofs.playAlone(III)V -/
abbrev C_X6_playAlone : CX := (cX6_playAlone, RX6, 5, 4, 91, "playAlone", none, fun _ => True)
abbrev M_X6_playAlone : MD := (yX6_playAlone, C_X6_playAlone)
theorem k_X6_playAlone : MOK M_X6_playAlone 3 := ⟨w_50, w_561, by decide +kernel, by decide +kernel, by decide +kernel⟩
theorem t_X6_playAlone : MVT M_X6_playAlone 3 6 := ⟨k_X6_playAlone, w_560, w_12, by decide, _, rfl, rfl⟩
def WB_X6_playAlone_1 : DE Bool := (e_bin (fun (x y : Int32) => decide (x < y)) (e_li 4) (e_li 3))
def WS_X6_playAlone_1 : SD := (s_seq (s_call D_X5_playClock 5 (a_recv 5 (a_snoc Value.ref (a_snoc Value.int (a_snoc Value.int (a_snoc Value.ref (a_snoc Value.ref a_nil (e_gr 6 0 (e_lr 0))) (e_gr 6 6 (e_lr 0))) (e_rem (e_bin (fun (x y : Int32) => x + y) (e_li 2) (e_li 4)) (e_c (24 : Int32)))) (e_c (1 : Int32))) (e_gr 6 7 (e_lr 0)))))
  (s_inc 4 (1)))
def W_X6_playAlone_1 : SD := s_while WB_X6_playAlone_1 WS_X6_playAlone_1 FU
set_option maxRecDepth 100000 in
set_option maxHeartbeats 4000000 in
theorem bw_X6_playAlone_1 : SC C_X6_playAlone 37 72 W_X6_playAlone_1 := by
  unfold W_X6_playAlone_1 WB_X6_playAlone_1 WS_X6_playAlone_1
  exact (sc_while (C := C_X6_playAlone) (pB := 43) (pE := 72) (bc_icmp_ge_F (C := C_X6_playAlone) (p1 := 39) (p2 := 40) (tgt := 72) (ec_iload (C := C_X6_playAlone) dX6_playAlone_37) (ec_iload_n (C := C_X6_playAlone) (i := 3) dX6_playAlone_39 rfl) dX6_playAlone_40 rfl)
  (sc_goto (C := C_X6_playAlone) (p1 := 69) (sc_seq (C := C_X6_playAlone) (p1 := 66) (sc_callV (C := C_X6_playAlone) (m := 5) (p1 := 63) s_X5_playClock t_X5_playClock ⟨w_562, Nat.le_of_ble_eq_true rfl, Nat.le_of_ble_eq_true rfl⟩ (ac_snoc (C := C_X6_playAlone) (n := 4) (c := 1) (p1 := 59) (ac_snoc (C := C_X6_playAlone) (n := 3) (c := 1) (p1 := 58) (ac_snoc (C := C_X6_playAlone) (n := 2) (c := 1) (p1 := 51) (ac_snoc (C := C_X6_playAlone) (n := 1) (c := 1) (p1 := 47) (ac_snoc (C := C_X6_playAlone) (n := 0) (c := 1) (p1 := 43) (ac_nil (C := C_X6_playAlone)) (ec_gr (C := C_X6_playAlone) (p1 := 44) (ec_aload_n (C := C_X6_playAlone) (i := 0) dX6_playAlone_43 rfl) f_X6_10 dX6_playAlone_44) rfl (fun _ => rfl) rfl) (ec_gr (C := C_X6_playAlone) (p1 := 48) (ec_aload_n (C := C_X6_playAlone) (i := 0) dX6_playAlone_47 rfl) f_X6_43 dX6_playAlone_48) rfl (fun _ => rfl) rfl) (ec_irem (C := C_X6_playAlone) (p1 := 55) (p2 := 57) (ec_iadd (C := C_X6_playAlone) (p1 := 52) (p2 := 54) (ec_iload_n (C := C_X6_playAlone) (i := 2) dX6_playAlone_51 rfl) (ec_iload (C := C_X6_playAlone) dX6_playAlone_52) dX6_playAlone_54) (ec_bipush (C := C_X6_playAlone) (v := (24 : Int32)) dX6_playAlone_55 rfl) dX6_playAlone_57) rfl (fun _ => rfl) rfl) (ec_iconst (C := C_X6_playAlone) (v := (1 : Int32)) dX6_playAlone_58 rfl) rfl (fun _ => rfl) rfl) (ec_gr (C := C_X6_playAlone) (p1 := 60) (ec_aload_n (C := C_X6_playAlone) (i := 0) dX6_playAlone_59 rfl) f_X6_50 dX6_playAlone_60) rfl (fun _ => rfl) rfl) dX6_playAlone_63)
  (sc_iinc (C := C_X6_playAlone) (v := (1)) dX6_playAlone_66 rfl (Nat.le_of_ble_eq_true rfl))) dX6_playAlone_69 rfl) FU)
def S_X6_playAlone : SD := (s_seq (s_seq (s_call D_X3_begin 1 (a_recv 3 (a_snoc Value.ref a_nil (e_gr 6 7 (e_lr 0)))))
  (s_seq (s_call D_X0_take 2 (a_recv 0 (a_snoc Value.ref (a_snoc Value.ref a_nil (e_gr 6 6 (e_lr 0))) (e_ar 0 (e_gr 5 7 (e_gr 6 0 (e_lr 0))) (e_li 1)))))
  (s_seq (s_call D_J7_fill_53178 2 (a_snoc Value.int (a_snoc Value.ref a_nil (e_gr 0 1 (e_gr 6 6 (e_lr 0)))) (e_c (0 : Int32))))
  (s_sc 4 (s_seq (s_st Value.int 4 (e_c (0 : Int32)))
  W_X6_playAlone_1)))))
  s_retv)
def D_X6_playAlone : MDen := m_den 5 S_X6_playAlone
set_option maxRecDepth 100000 in
set_option maxHeartbeats 4000000 in
theorem b_X6_playAlone : SC C_X6_playAlone 0 0 S_X6_playAlone := by
  unfold S_X6_playAlone
  exact (sc_seq (C := C_X6_playAlone) (p1 := 72) (sc_seq (C := C_X6_playAlone) (p1 := 7) (sc_callV (C := C_X6_playAlone) (m := 1) (p1 := 4) s_X3_begin t_X3_begin ⟨w_422, Nat.le_of_ble_eq_true rfl, Nat.le_of_ble_eq_true rfl⟩ (ac_snoc (C := C_X6_playAlone) (n := 0) (c := 1) (p1 := 0) (ac_nil (C := C_X6_playAlone)) (ec_gr (C := C_X6_playAlone) (p1 := 1) (ec_aload_n (C := C_X6_playAlone) (i := 0) dX6_playAlone_0 rfl) f_X6_50 dX6_playAlone_1) rfl (fun _ => rfl) rfl) dX6_playAlone_4)
  (sc_seq (C := C_X6_playAlone) (p1 := 23) (sc_callV (C := C_X6_playAlone) (m := 2) (p1 := 20) s_X0_take t_X0_take ⟨w_472, Nat.le_of_ble_eq_true rfl, Nat.le_of_ble_eq_true rfl⟩ (ac_snoc (C := C_X6_playAlone) (n := 1) (c := 1) (p1 := 11) (ac_snoc (C := C_X6_playAlone) (n := 0) (c := 1) (p1 := 7) (ac_nil (C := C_X6_playAlone)) (ec_gr (C := C_X6_playAlone) (p1 := 8) (ec_aload_n (C := C_X6_playAlone) (i := 0) dX6_playAlone_7 rfl) f_X6_43 dX6_playAlone_8) rfl (fun _ => rfl) rfl) (ec_ar (C := C_X6_playAlone) (p1 := 18) (p2 := 19) (Nat.le_of_ble_eq_true rfl) (ec_gr (C := C_X6_playAlone) (p1 := 15) (ec_gr (C := C_X6_playAlone) (p1 := 12) (ec_aload_n (C := C_X6_playAlone) (i := 0) dX6_playAlone_11 rfl) f_X6_10 dX6_playAlone_12) f_X6_105 dX6_playAlone_15) (ec_iload_n (C := C_X6_playAlone) (i := 1) dX6_playAlone_18 rfl) dX6_playAlone_19) rfl (fun _ => rfl) rfl) dX6_playAlone_20)
  (sc_seq (C := C_X6_playAlone) (p1 := 34) (sc_callS (C := C_X6_playAlone) (m := 2) (p1 := 31) s_J7_fill_53178 t_J7_fill_53178 ⟨w_520, Nat.le_of_ble_eq_true rfl, Nat.le_of_ble_eq_true rfl⟩ (ac_snoc (C := C_X6_playAlone) (n := 1) (c := 1) (p1 := 30) (ac_snoc (C := C_X6_playAlone) (n := 0) (c := 1) (p1 := 23) (ac_nil (C := C_X6_playAlone)) (ec_gr (C := C_X6_playAlone) (p1 := 27) (ec_gr (C := C_X6_playAlone) (p1 := 24) (ec_aload_n (C := C_X6_playAlone) (i := 0) dX6_playAlone_23 rfl) f_X6_43 dX6_playAlone_24) f_X6_150 dX6_playAlone_27) rfl (fun _ => rfl) rfl) (ec_iconst (C := C_X6_playAlone) (v := (0 : Int32)) dX6_playAlone_30 rfl) rfl (fun _ => rfl) rfl) dX6_playAlone_31)
  (sc_sc (C := C_X6_playAlone) (sc_seq (C := C_X6_playAlone) (p1 := 37) (sc_istore (C := C_X6_playAlone) (p1 := 35) (ec_iconst (C := C_X6_playAlone) (v := (0 : Int32)) dX6_playAlone_34 rfl) dX6_playAlone_35 (Nat.le_of_ble_eq_true rfl))
  bw_X6_playAlone_1)))))
  (sc_vret (C := C_X6_playAlone) dX6_playAlone_72 rfl))
theorem s_X6_playAlone : MS M_X6_playAlone D_X6_playAlone := ms_of b_X6_playAlone (by decide +kernel) rfl rfl (fun _ => trivial)
/-- SmokeRoofs.canHave(IIII)I -/
abbrev C_X6_canHave : CX := (cX6_canHave, RX6, 7, 5, 115, "canHave", (some .int), fun _ => True)
abbrev M_X6_canHave : MD := (yX6_canHave, C_X6_canHave)
theorem k_X6_canHave : MOK M_X6_canHave 4 := ⟨w_50, w_552, by decide +kernel, by decide +kernel, by decide +kernel⟩
theorem t_X6_canHave : MVT M_X6_canHave 4 6 := ⟨k_X6_canHave, w_550, w_551, by decide, _, rfl, rfl⟩
def WB_X6_canHave_1 : DE Bool := (e_bin (fun (x y : Int32) => decide (x < y)) (e_li 6) (e_gi 5 2 (e_gr 6 0 (e_lr 0))))
def WS_X6_canHave_1 : SD := (s_seq (s_if (b_of (e_call prI D_X6_isUnder 2 (a_snoc Value.int (a_snoc Value.int a_nil (e_ai (e_gr 0 0 (e_ar 0 (e_gr 5 7 (e_gr 6 0 (e_lr 0))) (e_li 6))) (e_c (0 : Int32)))) (e_li 1)))) (s_seq (s_call D_X6_playAlone 4 (a_recv 6 (a_snoc Value.int (a_snoc Value.int (a_snoc Value.int (a_snoc Value.ref a_nil (e_lr 0)) (e_li 6)) (e_li 2)) (e_li 4))))
  (s_st Value.int 5 (e_bin (fun (x y : Int32) => x ||| y) (e_li 5) (e_if (e_un (fun (x : Int32) => decide (0 < x)) (e_ai (e_gr 0 1 (e_gr 6 6 (e_lr 0))) (e_li 3))) (e_bin (fun (x y : Int32) => x <<< (y &&& 31)) (e_c (1 : Int32)) (e_li 6)) (e_c (0 : Int32)))))) s_skip)
  (s_inc 6 (1)))
def W_X6_canHave_1 : SD := s_while WB_X6_canHave_1 WS_X6_canHave_1 FU
set_option maxRecDepth 100000 in
set_option maxHeartbeats 4000000 in
theorem bw_X6_canHave_1 : SC C_X6_canHave 47 121 W_X6_canHave_1 := by
  unfold W_X6_canHave_1 WB_X6_canHave_1 WS_X6_canHave_1
  exact (sc_while (C := C_X6_canHave) (pB := 59) (pE := 121) (bc_icmp_ge_F (C := C_X6_canHave) (p1 := 49) (p2 := 56) (tgt := 121) (ec_iload (C := C_X6_canHave) dX6_canHave_47) (ec_gi (C := C_X6_canHave) (p1 := 53) (ec_gr (C := C_X6_canHave) (p1 := 50) (ec_aload_n (C := C_X6_canHave) (i := 0) dX6_canHave_49 rfl) f_X6_10 dX6_canHave_50) f_X6_178 dX6_canHave_53) dX6_canHave_56 rfl)
  (sc_goto (C := C_X6_canHave) (p1 := 118) (sc_seq (C := C_X6_canHave) (p1 := 115) (sc_if (C := C_X6_canHave) (pT := 81) (pF := 115) (p2 := 115) (bc_of_F (C := C_X6_canHave) (p2 := 78) (tgt := 115) (ec_callS (C := C_X6_canHave) (m := 2) (p1 := 75) inj_I s_X6_isUnder t_X6_isUnder ⟨w_553, Nat.le_of_ble_eq_true rfl, Nat.le_of_ble_eq_true rfl⟩ (ac_snoc (C := C_X6_canHave) (n := 1) (c := 1) (p1 := 74) (ac_snoc (C := C_X6_canHave) (n := 0) (c := 1) (p1 := 59) (ac_nil (C := C_X6_canHave)) (ec_ai (C := C_X6_canHave) (p1 := 72) (p2 := 73) (ec_gr (C := C_X6_canHave) (p1 := 69) (ec_ar (C := C_X6_canHave) (p1 := 66) (p2 := 68) (Nat.le_of_ble_eq_true rfl) (ec_gr (C := C_X6_canHave) (p1 := 63) (ec_gr (C := C_X6_canHave) (p1 := 60) (ec_aload_n (C := C_X6_canHave) (i := 0) dX6_canHave_59 rfl) f_X6_10 dX6_canHave_60) f_X6_105 dX6_canHave_63) (ec_iload (C := C_X6_canHave) dX6_canHave_66) dX6_canHave_68) f_X6_109 dX6_canHave_69) (ec_iconst (C := C_X6_canHave) (v := (0 : Int32)) dX6_canHave_72 rfl) dX6_canHave_73) rfl (fun _ => rfl) rfl) (ec_iload_n (C := C_X6_canHave) (i := 1) dX6_canHave_74 rfl) rfl (fun _ => rfl) rfl) (Nat.le_of_ble_eq_true rfl) dX6_canHave_75) dX6_canHave_78 rfl) (sc_seq (C := C_X6_canHave) (p1 := 90) (sc_callV (C := C_X6_canHave) (m := 4) (p1 := 87) s_X6_playAlone t_X6_playAlone ⟨w_558, Nat.le_of_ble_eq_true rfl, Nat.le_of_ble_eq_true rfl⟩ (ac_snoc (C := C_X6_canHave) (n := 3) (c := 1) (p1 := 85) (ac_snoc (C := C_X6_canHave) (n := 2) (c := 1) (p1 := 84) (ac_snoc (C := C_X6_canHave) (n := 1) (c := 1) (p1 := 82) (ac_snoc (C := C_X6_canHave) (n := 0) (c := 1) (p1 := 81) (ac_nil (C := C_X6_canHave)) (ec_aload_n (C := C_X6_canHave) (i := 0) dX6_canHave_81 rfl) rfl (fun _ => rfl) rfl) (ec_iload (C := C_X6_canHave) dX6_canHave_82) rfl (fun _ => rfl) rfl) (ec_iload_n (C := C_X6_canHave) (i := 2) dX6_canHave_84 rfl) rfl (fun _ => rfl) rfl) (ec_iload (C := C_X6_canHave) dX6_canHave_85) rfl (fun _ => rfl) rfl) dX6_canHave_87)
  (sc_istore (C := C_X6_canHave) (p1 := 113) (ec_ior (C := C_X6_canHave) (p1 := 92) (p2 := 112) (ec_iload (C := C_X6_canHave) dX6_canHave_90) (ec_if (C := C_X6_canHave) (pT := 104) (pF := 111) (p1 := 108) (pE := 112) (bc_if_le_F (C := C_X6_canHave) (p2 := 101) (tgt := 111) (ec_ai (C := C_X6_canHave) (p1 := 99) (p2 := 100) (ec_gr (C := C_X6_canHave) (p1 := 96) (ec_gr (C := C_X6_canHave) (p1 := 93) (ec_aload_n (C := C_X6_canHave) (i := 0) dX6_canHave_92 rfl) f_X6_43 dX6_canHave_93) f_X6_150 dX6_canHave_96) (ec_iload_n (C := C_X6_canHave) (i := 3) dX6_canHave_99 rfl) dX6_canHave_100) dX6_canHave_101 rfl) (ec_ishl (C := C_X6_canHave) (p1 := 105) (p2 := 107) (ec_iconst (C := C_X6_canHave) (v := (1 : Int32)) dX6_canHave_104 rfl) (ec_iload (C := C_X6_canHave) dX6_canHave_105) dX6_canHave_107) dX6_canHave_108 rfl (ec_iconst (C := C_X6_canHave) (v := (0 : Int32)) dX6_canHave_111 rfl)) dX6_canHave_112) dX6_canHave_113 (Nat.le_of_ble_eq_true rfl))) sc_skip)
  (sc_iinc (C := C_X6_canHave) (v := (1)) dX6_canHave_115 rfl (Nat.le_of_ble_eq_true rfl))) dX6_canHave_118 rfl) FU)
def S_X6_canHave : SD := (s_seq (s_if (b_or (b_or (b_or (b_not (b_of (e_call prI D_X6_isKind 1 (a_snoc Value.int a_nil (e_li 1))))) (b_not (b_of (e_call prI D_X6_isIn 3 (a_snoc Value.int (a_snoc Value.int (a_snoc Value.int a_nil (e_li 2)) (e_c (0 : Int32))) (e_c (23 : Int32))))))) (b_not (b_of (e_call prI D_X6_isCell 1 (a_snoc Value.int a_nil (e_li 3)))))) (b_not (b_of (e_call prI D_X6_isIn 3 (a_snoc Value.int (a_snoc Value.int (a_snoc Value.int a_nil (e_li 4)) (e_c (1 : Int32))) (e_c (12 : Int32))))))) (s_ret Value.int (e_call prI D_X6_finding 2 (a_recv 6 (a_snoc Value.int (a_snoc Value.ref a_nil (e_lr 0)) (e_c (0 : Int32)))))) s_skip)
  (s_seq (s_st Value.int 5 (e_c (0 : Int32)))
  (s_seq (s_sc 6 (s_seq (s_st Value.int 6 (e_c (0 : Int32)))
  W_X6_canHave_1))
  (s_ret Value.int (e_li 5)))))
def D_X6_canHave : MDen := m_den 7 S_X6_canHave
set_option maxRecDepth 100000 in
set_option maxHeartbeats 4000000 in
theorem b_X6_canHave : SC C_X6_canHave 0 0 S_X6_canHave := by
  unfold S_X6_canHave
  exact (sc_seq (C := C_X6_canHave) (p1 := 41) (sc_if (C := C_X6_canHave) (pT := 35) (pF := 41) (p2 := 41) (bc_or (C := C_X6_canHave) (p1 := 24) (bc_or (C := C_X6_canHave) (p1 := 17) (bc_or (C := C_X6_canHave) (p1 := 7) (bc_not (C := C_X6_canHave) (bc_of_F (C := C_X6_canHave) (p2 := 4) (tgt := 35) (ec_callS (C := C_X6_canHave) (m := 1) (p1 := 1) inj_I s_X6_isKind t_X6_isKind ⟨w_308, Nat.le_of_ble_eq_true rfl, Nat.le_of_ble_eq_true rfl⟩ (ac_snoc (C := C_X6_canHave) (n := 0) (c := 1) (p1 := 0) (ac_nil (C := C_X6_canHave)) (ec_iload_n (C := C_X6_canHave) (i := 1) dX6_canHave_0 rfl) rfl (fun _ => rfl) rfl) (Nat.le_of_ble_eq_true rfl) dX6_canHave_1) dX6_canHave_4 rfl)) (bc_not (C := C_X6_canHave) (bc_of_F (C := C_X6_canHave) (p2 := 14) (tgt := 35) (ec_callS (C := C_X6_canHave) (m := 3) (p1 := 11) inj_I s_X6_isIn t_X6_isIn ⟨w_292, Nat.le_of_ble_eq_true rfl, Nat.le_of_ble_eq_true rfl⟩ (ac_snoc (C := C_X6_canHave) (n := 2) (c := 1) (p1 := 9) (ac_snoc (C := C_X6_canHave) (n := 1) (c := 1) (p1 := 8) (ac_snoc (C := C_X6_canHave) (n := 0) (c := 1) (p1 := 7) (ac_nil (C := C_X6_canHave)) (ec_iload_n (C := C_X6_canHave) (i := 2) dX6_canHave_7 rfl) rfl (fun _ => rfl) rfl) (ec_iconst (C := C_X6_canHave) (v := (0 : Int32)) dX6_canHave_8 rfl) rfl (fun _ => rfl) rfl) (ec_bipush (C := C_X6_canHave) (v := (23 : Int32)) dX6_canHave_9 rfl) rfl (fun _ => rfl) rfl) (Nat.le_of_ble_eq_true rfl) dX6_canHave_11) dX6_canHave_14 rfl))) (bc_not (C := C_X6_canHave) (bc_of_F (C := C_X6_canHave) (p2 := 21) (tgt := 35) (ec_callS (C := C_X6_canHave) (m := 1) (p1 := 18) inj_I s_X6_isCell t_X6_isCell ⟨w_289, Nat.le_of_ble_eq_true rfl, Nat.le_of_ble_eq_true rfl⟩ (ac_snoc (C := C_X6_canHave) (n := 0) (c := 1) (p1 := 17) (ac_nil (C := C_X6_canHave)) (ec_iload_n (C := C_X6_canHave) (i := 3) dX6_canHave_17 rfl) rfl (fun _ => rfl) rfl) (Nat.le_of_ble_eq_true rfl) dX6_canHave_18) dX6_canHave_21 rfl))) (bc_not (C := C_X6_canHave) (bc_of_T (C := C_X6_canHave) (p2 := 32) (tgt := 41) (ec_callS (C := C_X6_canHave) (m := 3) (p1 := 29) inj_I s_X6_isIn t_X6_isIn ⟨w_292, Nat.le_of_ble_eq_true rfl, Nat.le_of_ble_eq_true rfl⟩ (ac_snoc (C := C_X6_canHave) (n := 2) (c := 1) (p1 := 27) (ac_snoc (C := C_X6_canHave) (n := 1) (c := 1) (p1 := 26) (ac_snoc (C := C_X6_canHave) (n := 0) (c := 1) (p1 := 24) (ac_nil (C := C_X6_canHave)) (ec_iload (C := C_X6_canHave) dX6_canHave_24) rfl (fun _ => rfl) rfl) (ec_iconst (C := C_X6_canHave) (v := (1 : Int32)) dX6_canHave_26 rfl) rfl (fun _ => rfl) rfl) (ec_bipush (C := C_X6_canHave) (v := (12 : Int32)) dX6_canHave_27 rfl) rfl (fun _ => rfl) rfl) (Nat.le_of_ble_eq_true rfl) dX6_canHave_29) dX6_canHave_32 rfl))) (sc_iret (C := C_X6_canHave) (p1 := 40) (ec_callV (C := C_X6_canHave) (m := 2) (p1 := 37) inj_I s_X6_finding t_X6_finding ⟨w_295, Nat.le_of_ble_eq_true rfl, Nat.le_of_ble_eq_true rfl⟩ (ac_snoc (C := C_X6_canHave) (n := 1) (c := 1) (p1 := 36) (ac_snoc (C := C_X6_canHave) (n := 0) (c := 1) (p1 := 35) (ac_nil (C := C_X6_canHave)) (ec_aload_n (C := C_X6_canHave) (i := 0) dX6_canHave_35 rfl) rfl (fun _ => rfl) rfl) (ec_iconst (C := C_X6_canHave) (v := (0 : Int32)) dX6_canHave_36 rfl) rfl (fun _ => rfl) rfl) (Nat.le_of_ble_eq_true rfl) dX6_canHave_37) dX6_canHave_40 rfl) sc_skip)
  (sc_seq (C := C_X6_canHave) (p1 := 44) (sc_istore (C := C_X6_canHave) (p1 := 42) (ec_iconst (C := C_X6_canHave) (v := (0 : Int32)) dX6_canHave_41 rfl) dX6_canHave_42 (Nat.le_of_ble_eq_true rfl))
  (sc_seq (C := C_X6_canHave) (p1 := 121) (sc_sc (C := C_X6_canHave) (sc_seq (C := C_X6_canHave) (p1 := 47) (sc_istore (C := C_X6_canHave) (p1 := 45) (ec_iconst (C := C_X6_canHave) (v := (0 : Int32)) dX6_canHave_44 rfl) dX6_canHave_45 (Nat.le_of_ble_eq_true rfl))
  bw_X6_canHave_1))
  (sc_iret (C := C_X6_canHave) (p1 := 123) (ec_iload (C := C_X6_canHave) dX6_canHave_121) dX6_canHave_123 rfl))))
theorem s_X6_canHave : MS M_X6_canHave D_X6_canHave := ms_of b_X6_canHave (by decide +kernel) rfl rfl (fun _ => trivial)
/-- SmokeRoofs$Town.cellBehind(III)I -/
abbrev C_X5_cellBehind : CX := (cX5_cellBehind, RX5, 6, 1, 22, "cellBehind", (some .int), fun _ => True)
abbrev M_X5_cellBehind : MD := (yX5_cellBehind, C_X5_cellBehind)
theorem k_X5_cellBehind : MOK M_X5_cellBehind 3 := ⟨w_51, w_570, by decide +kernel, by decide +kernel, by decide +kernel⟩
theorem t_X5_cellBehind : MVT M_X5_cellBehind 3 5 := ⟨k_X5_cellBehind, w_568, w_569, by decide, _, rfl, rfl⟩
def WB_X5_cellBehind_1 : DE Bool := (b_and (e_bin (fun (x y : Int32) => decide (x < y)) (e_li 5) (e_li 3)) (e_bin (fun (x y : Int32) => decide (x ≠ y)) (e_li 4) (e_c (-1 : Int32))))
def WS_X5_cellBehind_1 : SD := (s_seq (s_st Value.int 4 (e_call prI D_X0_cellBeside 2 (a_snoc Value.int (a_snoc Value.int a_nil (e_li 4)) (e_ai (e_gr 5 4 (e_lr 0)) (e_rem (e_bin (fun (x y : Int32) => x + y) (e_li 2) (e_li 5)) (e_c (24 : Int32)))))))
  (s_inc 5 (1)))
def W_X5_cellBehind_1 : SD := s_while WB_X5_cellBehind_1 WS_X5_cellBehind_1 FU
set_option maxRecDepth 100000 in
set_option maxHeartbeats 4000000 in
theorem bw_X5_cellBehind_1 : SC C_X5_cellBehind 6 43 W_X5_cellBehind_1 := by
  unfold W_X5_cellBehind_1 WB_X5_cellBehind_1 WS_X5_cellBehind_1
  exact (sc_while (C := C_X5_cellBehind) (pB := 18) (pE := 43) (bc_and (C := C_X5_cellBehind) (p1 := 12) (bc_icmp_ge_F (C := C_X5_cellBehind) (p1 := 8) (p2 := 9) (tgt := 43) (ec_iload (C := C_X5_cellBehind) dX5_cellBehind_6) (ec_iload_n (C := C_X5_cellBehind) (i := 3) dX5_cellBehind_8 rfl) dX5_cellBehind_9 rfl) (bc_icmp_eq_F (C := C_X5_cellBehind) (p1 := 14) (p2 := 15) (tgt := 43) (ec_iload (C := C_X5_cellBehind) dX5_cellBehind_12) (ec_iconst (C := C_X5_cellBehind) (v := (-1 : Int32)) dX5_cellBehind_14 rfl) dX5_cellBehind_15 rfl))
  (sc_goto (C := C_X5_cellBehind) (p1 := 40) (sc_seq (C := C_X5_cellBehind) (p1 := 37) (sc_istore (C := C_X5_cellBehind) (p1 := 35) (ec_callS (C := C_X5_cellBehind) (m := 2) (p1 := 32) inj_I s_X0_cellBeside t_X0_cellBeside ⟨w_571, Nat.le_of_ble_eq_true rfl, Nat.le_of_ble_eq_true rfl⟩ (ac_snoc (C := C_X5_cellBehind) (n := 1) (c := 1) (p1 := 20) (ac_snoc (C := C_X5_cellBehind) (n := 0) (c := 1) (p1 := 18) (ac_nil (C := C_X5_cellBehind)) (ec_iload (C := C_X5_cellBehind) dX5_cellBehind_18) rfl (fun _ => rfl) rfl) (ec_ai (C := C_X5_cellBehind) (p1 := 24) (p2 := 31) (ec_gr (C := C_X5_cellBehind) (p1 := 21) (ec_aload_n (C := C_X5_cellBehind) (i := 0) dX5_cellBehind_20 rfl) f_X5_25 dX5_cellBehind_21) (ec_irem (C := C_X5_cellBehind) (p1 := 28) (p2 := 30) (ec_iadd (C := C_X5_cellBehind) (p1 := 25) (p2 := 27) (ec_iload_n (C := C_X5_cellBehind) (i := 2) dX5_cellBehind_24 rfl) (ec_iload (C := C_X5_cellBehind) dX5_cellBehind_25) dX5_cellBehind_27) (ec_bipush (C := C_X5_cellBehind) (v := (24 : Int32)) dX5_cellBehind_28 rfl) dX5_cellBehind_30) dX5_cellBehind_31) rfl (fun _ => rfl) rfl) (Nat.le_of_ble_eq_true rfl) dX5_cellBehind_32) dX5_cellBehind_35 (Nat.le_of_ble_eq_true rfl))
  (sc_iinc (C := C_X5_cellBehind) (v := (1)) dX5_cellBehind_37 rfl (Nat.le_of_ble_eq_true rfl))) dX5_cellBehind_40 rfl) FU)
def S_X5_cellBehind : SD := (s_seq (s_st Value.int 4 (e_li 1))
  (s_seq (s_sc 5 (s_seq (s_st Value.int 5 (e_c (0 : Int32)))
  W_X5_cellBehind_1))
  (s_ret Value.int (e_li 4))))
def D_X5_cellBehind : MDen := m_den 6 S_X5_cellBehind
set_option maxRecDepth 100000 in
set_option maxHeartbeats 4000000 in
theorem b_X5_cellBehind : SC C_X5_cellBehind 0 0 S_X5_cellBehind := by
  unfold S_X5_cellBehind
  exact (sc_seq (C := C_X5_cellBehind) (p1 := 3) (sc_istore (C := C_X5_cellBehind) (p1 := 1) (ec_iload_n (C := C_X5_cellBehind) (i := 1) dX5_cellBehind_0 rfl) dX5_cellBehind_1 (Nat.le_of_ble_eq_true rfl))
  (sc_seq (C := C_X5_cellBehind) (p1 := 43) (sc_sc (C := C_X5_cellBehind) (sc_seq (C := C_X5_cellBehind) (p1 := 6) (sc_istore (C := C_X5_cellBehind) (p1 := 4) (ec_iconst (C := C_X5_cellBehind) (v := (0 : Int32)) dX5_cellBehind_3 rfl) dX5_cellBehind_4 (Nat.le_of_ble_eq_true rfl))
  bw_X5_cellBehind_1))
  (sc_iret (C := C_X5_cellBehind) (p1 := 45) (ec_iload (C := C_X5_cellBehind) dX5_cellBehind_43) dX5_cellBehind_45 rfl)))
theorem s_X5_cellBehind : MS M_X5_cellBehind D_X5_cellBehind := ms_of b_X5_cellBehind (by decide +kernel) rfl rfl (fun _ => trivial)
/-- SmokeRoofs.clocks(III)I -/
abbrev C_X6_clocks : CX := (cX6_clocks, RX6, 7, 2, 47, "clocks", (some .int), fun _ => True)
abbrev M_X6_clocks : MD := (yX6_clocks, C_X6_clocks)
theorem k_X6_clocks : MOK M_X6_clocks 3 := ⟨w_50, w_566, by decide +kernel, by decide +kernel, by decide +kernel⟩
theorem t_X6_clocks : MVT M_X6_clocks 3 6 := ⟨k_X6_clocks, w_564, w_565, by decide, _, rfl, rfl⟩
def WB_X6_clocks_1 : DE Bool := (e_bin (fun (x y : Int32) => decide (x < y)) (e_li 6) (e_c (24 : Int32)))
def WS_X6_clocks_1 : SD := (s_seq (s_if (e_bin (fun (x y : Int32) => decide (x = y)) (e_call prI D_X5_cellBehind 4 (a_recv 5 (a_snoc Value.int (a_snoc Value.int (a_snoc Value.int (a_snoc Value.ref a_nil (e_gr 6 0 (e_lr 0))) (e_li 4)) (e_li 6)) (e_li 3)))) (e_li 2)) (s_st Value.int 5 (e_bin (fun (x y : Int32) => x ||| y) (e_li 5) (e_bin (fun (x y : Int32) => x <<< (y &&& 31)) (e_c (1 : Int32)) (e_li 6)))) s_skip)
  (s_inc 6 (1)))
def W_X6_clocks_1 : SD := s_while WB_X6_clocks_1 WS_X6_clocks_1 FU
set_option maxRecDepth 100000 in
set_option maxHeartbeats 4000000 in
theorem bw_X6_clocks_1 : SC C_X6_clocks 53 91 W_X6_clocks_1 := by
  unfold W_X6_clocks_1 WB_X6_clocks_1 WS_X6_clocks_1
  exact (sc_while (C := C_X6_clocks) (pB := 60) (pE := 91) (bc_icmp_ge_F (C := C_X6_clocks) (p1 := 55) (p2 := 57) (tgt := 91) (ec_iload (C := C_X6_clocks) dX6_clocks_53) (ec_bipush (C := C_X6_clocks) (v := (24 : Int32)) dX6_clocks_55 rfl) dX6_clocks_57 rfl)
  (sc_goto (C := C_X6_clocks) (p1 := 88) (sc_seq (C := C_X6_clocks) (p1 := 85) (sc_if (C := C_X6_clocks) (pT := 76) (pF := 85) (p2 := 85) (bc_icmp_ne_F (C := C_X6_clocks) (p1 := 72) (p2 := 73) (tgt := 85) (ec_callV (C := C_X6_clocks) (m := 4) (p1 := 69) inj_I s_X5_cellBehind t_X5_cellBehind ⟨w_567, Nat.le_of_ble_eq_true rfl, Nat.le_of_ble_eq_true rfl⟩ (ac_snoc (C := C_X6_clocks) (n := 3) (c := 1) (p1 := 68) (ac_snoc (C := C_X6_clocks) (n := 2) (c := 1) (p1 := 66) (ac_snoc (C := C_X6_clocks) (n := 1) (c := 1) (p1 := 64) (ac_snoc (C := C_X6_clocks) (n := 0) (c := 1) (p1 := 60) (ac_nil (C := C_X6_clocks)) (ec_gr (C := C_X6_clocks) (p1 := 61) (ec_aload_n (C := C_X6_clocks) (i := 0) dX6_clocks_60 rfl) f_X6_10 dX6_clocks_61) rfl (fun _ => rfl) rfl) (ec_iload (C := C_X6_clocks) dX6_clocks_64) rfl (fun _ => rfl) rfl) (ec_iload (C := C_X6_clocks) dX6_clocks_66) rfl (fun _ => rfl) rfl) (ec_iload_n (C := C_X6_clocks) (i := 3) dX6_clocks_68 rfl) rfl (fun _ => rfl) rfl) (Nat.le_of_ble_eq_true rfl) dX6_clocks_69) (ec_iload_n (C := C_X6_clocks) (i := 2) dX6_clocks_72 rfl) dX6_clocks_73 rfl) (sc_istore (C := C_X6_clocks) (p1 := 83) (ec_ior (C := C_X6_clocks) (p1 := 78) (p2 := 82) (ec_iload (C := C_X6_clocks) dX6_clocks_76) (ec_ishl (C := C_X6_clocks) (p1 := 79) (p2 := 81) (ec_iconst (C := C_X6_clocks) (v := (1 : Int32)) dX6_clocks_78 rfl) (ec_iload (C := C_X6_clocks) dX6_clocks_79) dX6_clocks_81) dX6_clocks_82) dX6_clocks_83 (Nat.le_of_ble_eq_true rfl)) sc_skip)
  (sc_iinc (C := C_X6_clocks) (v := (1)) dX6_clocks_85 rfl (Nat.le_of_ble_eq_true rfl))) dX6_clocks_88 rfl) FU)
def S_X6_clocks : SD := (s_seq (s_if (b_or (b_or (b_not (b_of (e_call prI D_X6_isChimney 2 (a_recv 6 (a_snoc Value.int (a_snoc Value.ref a_nil (e_lr 0)) (e_li 1)))))) (b_not (b_of (e_call prI D_X6_isCell 1 (a_snoc Value.int a_nil (e_li 2)))))) (b_not (b_of (e_call prI D_X6_isIn 3 (a_snoc Value.int (a_snoc Value.int (a_snoc Value.int a_nil (e_li 3)) (e_c (1 : Int32))) (e_c (12 : Int32))))))) (s_ret Value.int (e_call prI D_X6_finding 2 (a_recv 6 (a_snoc Value.int (a_snoc Value.ref a_nil (e_lr 0)) (e_c (0 : Int32)))))) s_skip)
  (s_seq (s_st Value.int 4 (e_ai (e_gr 0 0 (e_ar 0 (e_gr 5 7 (e_gr 6 0 (e_lr 0))) (e_li 1))) (e_c (2 : Int32))))
  (s_seq (s_st Value.int 5 (e_c (0 : Int32)))
  (s_seq (s_sc 6 (s_seq (s_st Value.int 6 (e_c (0 : Int32)))
  W_X6_clocks_1))
  (s_ret Value.int (e_li 5))))))
def D_X6_clocks : MDen := m_den 7 S_X6_clocks
set_option maxRecDepth 100000 in
set_option maxHeartbeats 4000000 in
theorem b_X6_clocks : SC C_X6_clocks 0 0 S_X6_clocks := by
  unfold S_X6_clocks
  exact (sc_seq (C := C_X6_clocks) (p1 := 31) (sc_if (C := C_X6_clocks) (pT := 25) (pF := 31) (p2 := 31) (bc_or (C := C_X6_clocks) (p1 := 15) (bc_or (C := C_X6_clocks) (p1 := 8) (bc_not (C := C_X6_clocks) (bc_of_F (C := C_X6_clocks) (p2 := 5) (tgt := 25) (ec_callV (C := C_X6_clocks) (m := 2) (p1 := 2) inj_I s_X6_isChimney t_X6_isChimney ⟨w_331, Nat.le_of_ble_eq_true rfl, Nat.le_of_ble_eq_true rfl⟩ (ac_snoc (C := C_X6_clocks) (n := 1) (c := 1) (p1 := 1) (ac_snoc (C := C_X6_clocks) (n := 0) (c := 1) (p1 := 0) (ac_nil (C := C_X6_clocks)) (ec_aload_n (C := C_X6_clocks) (i := 0) dX6_clocks_0 rfl) rfl (fun _ => rfl) rfl) (ec_iload_n (C := C_X6_clocks) (i := 1) dX6_clocks_1 rfl) rfl (fun _ => rfl) rfl) (Nat.le_of_ble_eq_true rfl) dX6_clocks_2) dX6_clocks_5 rfl)) (bc_not (C := C_X6_clocks) (bc_of_F (C := C_X6_clocks) (p2 := 12) (tgt := 25) (ec_callS (C := C_X6_clocks) (m := 1) (p1 := 9) inj_I s_X6_isCell t_X6_isCell ⟨w_289, Nat.le_of_ble_eq_true rfl, Nat.le_of_ble_eq_true rfl⟩ (ac_snoc (C := C_X6_clocks) (n := 0) (c := 1) (p1 := 8) (ac_nil (C := C_X6_clocks)) (ec_iload_n (C := C_X6_clocks) (i := 2) dX6_clocks_8 rfl) rfl (fun _ => rfl) rfl) (Nat.le_of_ble_eq_true rfl) dX6_clocks_9) dX6_clocks_12 rfl))) (bc_not (C := C_X6_clocks) (bc_of_T (C := C_X6_clocks) (p2 := 22) (tgt := 31) (ec_callS (C := C_X6_clocks) (m := 3) (p1 := 19) inj_I s_X6_isIn t_X6_isIn ⟨w_292, Nat.le_of_ble_eq_true rfl, Nat.le_of_ble_eq_true rfl⟩ (ac_snoc (C := C_X6_clocks) (n := 2) (c := 1) (p1 := 17) (ac_snoc (C := C_X6_clocks) (n := 1) (c := 1) (p1 := 16) (ac_snoc (C := C_X6_clocks) (n := 0) (c := 1) (p1 := 15) (ac_nil (C := C_X6_clocks)) (ec_iload_n (C := C_X6_clocks) (i := 3) dX6_clocks_15 rfl) rfl (fun _ => rfl) rfl) (ec_iconst (C := C_X6_clocks) (v := (1 : Int32)) dX6_clocks_16 rfl) rfl (fun _ => rfl) rfl) (ec_bipush (C := C_X6_clocks) (v := (12 : Int32)) dX6_clocks_17 rfl) rfl (fun _ => rfl) rfl) (Nat.le_of_ble_eq_true rfl) dX6_clocks_19) dX6_clocks_22 rfl))) (sc_iret (C := C_X6_clocks) (p1 := 30) (ec_callV (C := C_X6_clocks) (m := 2) (p1 := 27) inj_I s_X6_finding t_X6_finding ⟨w_295, Nat.le_of_ble_eq_true rfl, Nat.le_of_ble_eq_true rfl⟩ (ac_snoc (C := C_X6_clocks) (n := 1) (c := 1) (p1 := 26) (ac_snoc (C := C_X6_clocks) (n := 0) (c := 1) (p1 := 25) (ac_nil (C := C_X6_clocks)) (ec_aload_n (C := C_X6_clocks) (i := 0) dX6_clocks_25 rfl) rfl (fun _ => rfl) rfl) (ec_iconst (C := C_X6_clocks) (v := (0 : Int32)) dX6_clocks_26 rfl) rfl (fun _ => rfl) rfl) (Nat.le_of_ble_eq_true rfl) dX6_clocks_27) dX6_clocks_30 rfl) sc_skip)
  (sc_seq (C := C_X6_clocks) (p1 := 47) (sc_istore (C := C_X6_clocks) (p1 := 45) (ec_ai (C := C_X6_clocks) (p1 := 43) (p2 := 44) (ec_gr (C := C_X6_clocks) (p1 := 40) (ec_ar (C := C_X6_clocks) (p1 := 38) (p2 := 39) (Nat.le_of_ble_eq_true rfl) (ec_gr (C := C_X6_clocks) (p1 := 35) (ec_gr (C := C_X6_clocks) (p1 := 32) (ec_aload_n (C := C_X6_clocks) (i := 0) dX6_clocks_31 rfl) f_X6_10 dX6_clocks_32) f_X6_105 dX6_clocks_35) (ec_iload_n (C := C_X6_clocks) (i := 1) dX6_clocks_38 rfl) dX6_clocks_39) f_X6_109 dX6_clocks_40) (ec_iconst (C := C_X6_clocks) (v := (2 : Int32)) dX6_clocks_43 rfl) dX6_clocks_44) dX6_clocks_45 (Nat.le_of_ble_eq_true rfl))
  (sc_seq (C := C_X6_clocks) (p1 := 50) (sc_istore (C := C_X6_clocks) (p1 := 48) (ec_iconst (C := C_X6_clocks) (v := (0 : Int32)) dX6_clocks_47 rfl) dX6_clocks_48 (Nat.le_of_ble_eq_true rfl))
  (sc_seq (C := C_X6_clocks) (p1 := 91) (sc_sc (C := C_X6_clocks) (sc_seq (C := C_X6_clocks) (p1 := 53) (sc_istore (C := C_X6_clocks) (p1 := 51) (ec_iconst (C := C_X6_clocks) (v := (0 : Int32)) dX6_clocks_50 rfl) dX6_clocks_51 (Nat.le_of_ble_eq_true rfl))
  bw_X6_clocks_1))
  (sc_iret (C := C_X6_clocks) (p1 := 93) (ec_iload (C := C_X6_clocks) dX6_clocks_91) dX6_clocks_93 rfl)))))
theorem s_X6_clocks : MS M_X6_clocks D_X6_clocks := ms_of b_X6_clocks (by decide +kernel) rfl rfl (fun _ => trivial)
/-- SmokeRoofs$Town.draw()I -/
abbrev C_X5_draw : CX := (cX5_draw, RX5, 1, 0, 0, "draw", (some .int), fun _ => True)
abbrev M_X5_draw : MD := (yX5_draw, C_X5_draw)
theorem k_X5_draw : MOK M_X5_draw 0 := ⟨w_51, w_579, by decide +kernel, by decide +kernel, by decide +kernel⟩
theorem t_X5_draw : MVT M_X5_draw 0 5 := ⟨k_X5_draw, w_577, w_578, by decide, _, rfl, rfl⟩
def S_X5_draw : SD := (s_seq (s_pf Value.int 5 1 (e_lr 0) (e_bin (fun (x y : Int32) => x + y) (e_bin (fun (x y : Int32) => x * y) (e_gi 5 1 (e_lr 0)) (e_c (1103515245 : Int32))) (e_c (12345 : Int32))))
  (s_ret Value.int (e_bin (fun (x y : Int32) => (x.toUInt32 >>> (y.toUInt32 &&& Int32.toUInt32 31)).toInt32) (e_gi 5 1 (e_lr 0)) (e_c (8 : Int32)))))
def D_X5_draw : MDen := m_den 1 S_X5_draw
set_option maxRecDepth 100000 in
set_option maxHeartbeats 4000000 in
theorem b_X5_draw : SC C_X5_draw 0 0 S_X5_draw := by
  unfold S_X5_draw
  exact (sc_seq (C := C_X5_draw) (p1 := 15) (sc_pf (C := C_X5_draw) (p1 := 1) (p2 := 12) (ec_aload_n (C := C_X5_draw) (i := 0) dX5_draw_0 rfl) (ec_iadd (C := C_X5_draw) (p1 := 8) (p2 := 11) (ec_imul (C := C_X5_draw) (p1 := 5) (p2 := 7) (ec_gi (C := C_X5_draw) (p1 := 2) (ec_aload_n (C := C_X5_draw) (i := 0) dX5_draw_1 rfl) f_X5_15 dX5_draw_2) (ec_ldc (C := C_X5_draw) (v := (1103515245 : Int32)) dX5_draw_5 w_580) dX5_draw_7) (ec_sipush (C := C_X5_draw) (v := (12345 : Int32)) dX5_draw_8 rfl) dX5_draw_11) f_X5_15 dX5_draw_12)
  (sc_iret (C := C_X5_draw) (p1 := 22) (ec_iushr (C := C_X5_draw) (p1 := 19) (p2 := 21) (ec_gi (C := C_X5_draw) (p1 := 16) (ec_aload_n (C := C_X5_draw) (i := 0) dX5_draw_15 rfl) f_X5_15 dX5_draw_16) (ec_bipush (C := C_X5_draw) (v := (8 : Int32)) dX5_draw_19 rfl) dX5_draw_21) dX5_draw_22 rfl))
theorem s_X5_draw : MS M_X5_draw D_X5_draw := ms_of b_X5_draw (by decide +kernel) rfl rfl (fun _ => trivial)
/-- SmokeRoofs.weather(I)I -/
abbrev C_X6_weather : CX := (cX6_weather, RX6, 4, 1, 22, "weather", (some .int), fun _ => True)
abbrev M_X6_weather : MD := (yX6_weather, C_X6_weather)
theorem k_X6_weather : MOK M_X6_weather 1 := ⟨w_50, w_575, by decide +kernel, by decide +kernel, by decide +kernel⟩
theorem t_X6_weather : MVT M_X6_weather 1 6 := ⟨k_X6_weather, w_573, w_574, by decide, _, rfl, rfl⟩
def WB_X6_weather_1 : DE Bool := (e_bin (fun (x y : Int32) => decide (x < y)) (e_li 2) (e_li 1))
def WS_X6_weather_1 : SD := (s_seq (s_sc 3 (s_seq (s_st Value.int 3 (e_rem (e_call prI D_X5_draw 1 (a_recv 5 (a_snoc Value.ref a_nil (e_gr 6 0 (e_lr 0))))) (e_c (24 : Int32))))
  (s_as (e_gr 5 4 (e_gr 6 0 (e_lr 0))) (e_li 3) (e_rem (e_call prI D_X5_draw 1 (a_recv 5 (a_snoc Value.ref a_nil (e_gr 6 0 (e_lr 0))))) (e_c (5 : Int32))))))
  (s_inc 2 (1)))
def W_X6_weather_1 : SD := s_while WB_X6_weather_1 WS_X6_weather_1 FU
set_option maxRecDepth 100000 in
set_option maxHeartbeats 4000000 in
theorem bw_X6_weather_1 : SC C_X6_weather 18 58 W_X6_weather_1 := by
  unfold W_X6_weather_1 WB_X6_weather_1 WS_X6_weather_1
  exact (sc_while (C := C_X6_weather) (pB := 23) (pE := 58) (bc_icmp_ge_F (C := C_X6_weather) (p1 := 19) (p2 := 20) (tgt := 58) (ec_iload_n (C := C_X6_weather) (i := 2) dX6_weather_18 rfl) (ec_iload_n (C := C_X6_weather) (i := 1) dX6_weather_19 rfl) dX6_weather_20 rfl)
  (sc_goto (C := C_X6_weather) (p1 := 55) (sc_seq (C := C_X6_weather) (p1 := 52) (sc_sc (C := C_X6_weather) (sc_seq (C := C_X6_weather) (p1 := 34) (sc_istore_n (C := C_X6_weather) (p1 := 33) (i := 3) (ec_irem (C := C_X6_weather) (p1 := 30) (p2 := 32) (ec_callV (C := C_X6_weather) (m := 1) (p1 := 27) inj_I s_X5_draw t_X5_draw ⟨w_576, Nat.le_of_ble_eq_true rfl, Nat.le_of_ble_eq_true rfl⟩ (ac_snoc (C := C_X6_weather) (n := 0) (c := 1) (p1 := 23) (ac_nil (C := C_X6_weather)) (ec_gr (C := C_X6_weather) (p1 := 24) (ec_aload_n (C := C_X6_weather) (i := 0) dX6_weather_23 rfl) f_X6_10 dX6_weather_24) rfl (fun _ => rfl) rfl) (Nat.le_of_ble_eq_true rfl) dX6_weather_27) (ec_bipush (C := C_X6_weather) (v := (24 : Int32)) dX6_weather_30 rfl) dX6_weather_32) dX6_weather_33 rfl (Nat.le_of_ble_eq_true rfl))
  (sc_as (C := C_X6_weather) (p1 := 41) (p2 := 42) (p3 := 51) (ec_gr (C := C_X6_weather) (p1 := 38) (ec_gr (C := C_X6_weather) (p1 := 35) (ec_aload_n (C := C_X6_weather) (i := 0) dX6_weather_34 rfl) f_X6_10 dX6_weather_35) f_X6_85 dX6_weather_38) (ec_iload_n (C := C_X6_weather) (i := 3) dX6_weather_41 rfl) (ec_irem (C := C_X6_weather) (p1 := 49) (p2 := 50) (ec_callV (C := C_X6_weather) (m := 1) (p1 := 46) inj_I s_X5_draw t_X5_draw ⟨w_576, Nat.le_of_ble_eq_true rfl, Nat.le_of_ble_eq_true rfl⟩ (ac_snoc (C := C_X6_weather) (n := 0) (c := 1) (p1 := 42) (ac_nil (C := C_X6_weather)) (ec_gr (C := C_X6_weather) (p1 := 43) (ec_aload_n (C := C_X6_weather) (i := 0) dX6_weather_42 rfl) f_X6_10 dX6_weather_43) rfl (fun _ => rfl) rfl) (Nat.le_of_ble_eq_true rfl) dX6_weather_46) (ec_iconst (C := C_X6_weather) (v := (5 : Int32)) dX6_weather_49 rfl) dX6_weather_50) dX6_weather_51)))
  (sc_iinc (C := C_X6_weather) (v := (1)) dX6_weather_52 rfl (Nat.le_of_ble_eq_true rfl))) dX6_weather_55 rfl) FU)
def WB_X6_weather_2 : DE Bool := (e_bin (fun (x y : Int32) => decide (x < y)) (e_li 3) (e_c (24 : Int32)))
def WS_X6_weather_2 : SD := (s_seq (s_st Value.int 2 (e_bin (fun (x y : Int32) => x + y) (e_li 2) (e_if (e_un (fun (x : Int32) => decide (x = 0)) (e_ai (e_gr 5 4 (e_gr 6 0 (e_lr 0))) (e_li 3))) (e_c (1 : Int32)) (e_c (0 : Int32)))))
  (s_inc 3 (1)))
def W_X6_weather_2 : SD := s_while WB_X6_weather_2 WS_X6_weather_2 FU
set_option maxRecDepth 100000 in
set_option maxHeartbeats 4000000 in
theorem bw_X6_weather_2 : SC C_X6_weather 62 94 W_X6_weather_2 := by
  unfold W_X6_weather_2 WB_X6_weather_2 WS_X6_weather_2
  exact (sc_while (C := C_X6_weather) (pB := 68) (pE := 94) (bc_icmp_ge_F (C := C_X6_weather) (p1 := 63) (p2 := 65) (tgt := 94) (ec_iload_n (C := C_X6_weather) (i := 3) dX6_weather_62 rfl) (ec_bipush (C := C_X6_weather) (v := (24 : Int32)) dX6_weather_63 rfl) dX6_weather_65 rfl)
  (sc_goto (C := C_X6_weather) (p1 := 91) (sc_seq (C := C_X6_weather) (p1 := 88) (sc_istore_n (C := C_X6_weather) (p1 := 87) (i := 2) (ec_iadd (C := C_X6_weather) (p1 := 69) (p2 := 86) (ec_iload_n (C := C_X6_weather) (i := 2) dX6_weather_68 rfl) (ec_if (C := C_X6_weather) (pT := 81) (pF := 85) (p1 := 82) (pE := 86) (bc_if_ne_F (C := C_X6_weather) (p2 := 78) (tgt := 85) (ec_ai (C := C_X6_weather) (p1 := 76) (p2 := 77) (ec_gr (C := C_X6_weather) (p1 := 73) (ec_gr (C := C_X6_weather) (p1 := 70) (ec_aload_n (C := C_X6_weather) (i := 0) dX6_weather_69 rfl) f_X6_10 dX6_weather_70) f_X6_85 dX6_weather_73) (ec_iload_n (C := C_X6_weather) (i := 3) dX6_weather_76 rfl) dX6_weather_77) dX6_weather_78 rfl) (ec_iconst (C := C_X6_weather) (v := (1 : Int32)) dX6_weather_81 rfl) dX6_weather_82 rfl (ec_iconst (C := C_X6_weather) (v := (0 : Int32)) dX6_weather_85 rfl)) dX6_weather_86) dX6_weather_87 rfl (Nat.le_of_ble_eq_true rfl))
  (sc_iinc (C := C_X6_weather) (v := (1)) dX6_weather_88 rfl (Nat.le_of_ble_eq_true rfl))) dX6_weather_91 rfl) FU)
def S_X6_weather : SD := (s_seq (s_if (b_not (b_of (e_call prI D_X6_isIn 3 (a_snoc Value.int (a_snoc Value.int (a_snoc Value.int a_nil (e_li 1)) (e_c (1 : Int32))) (e_c (24 : Int32)))))) (s_ret Value.int (e_call prI D_X6_finding 2 (a_recv 6 (a_snoc Value.int (a_snoc Value.ref a_nil (e_lr 0)) (e_c (0 : Int32)))))) s_skip)
  (s_seq (s_sc 2 (s_seq (s_st Value.int 2 (e_c (0 : Int32)))
  W_X6_weather_1))
  (s_seq (s_st Value.int 2 (e_c (0 : Int32)))
  (s_seq (s_sc 3 (s_seq (s_st Value.int 3 (e_c (0 : Int32)))
  W_X6_weather_2))
  (s_ret Value.int (e_li 2))))))
def D_X6_weather : MDen := m_den 4 S_X6_weather
set_option maxRecDepth 100000 in
set_option maxHeartbeats 4000000 in
theorem b_X6_weather : SC C_X6_weather 0 0 S_X6_weather := by
  unfold S_X6_weather
  exact (sc_seq (C := C_X6_weather) (p1 := 16) (sc_if (C := C_X6_weather) (pT := 10) (pF := 16) (p2 := 16) (bc_not (C := C_X6_weather) (bc_of_T (C := C_X6_weather) (p2 := 7) (tgt := 16) (ec_callS (C := C_X6_weather) (m := 3) (p1 := 4) inj_I s_X6_isIn t_X6_isIn ⟨w_292, Nat.le_of_ble_eq_true rfl, Nat.le_of_ble_eq_true rfl⟩ (ac_snoc (C := C_X6_weather) (n := 2) (c := 1) (p1 := 2) (ac_snoc (C := C_X6_weather) (n := 1) (c := 1) (p1 := 1) (ac_snoc (C := C_X6_weather) (n := 0) (c := 1) (p1 := 0) (ac_nil (C := C_X6_weather)) (ec_iload_n (C := C_X6_weather) (i := 1) dX6_weather_0 rfl) rfl (fun _ => rfl) rfl) (ec_iconst (C := C_X6_weather) (v := (1 : Int32)) dX6_weather_1 rfl) rfl (fun _ => rfl) rfl) (ec_bipush (C := C_X6_weather) (v := (24 : Int32)) dX6_weather_2 rfl) rfl (fun _ => rfl) rfl) (Nat.le_of_ble_eq_true rfl) dX6_weather_4) dX6_weather_7 rfl)) (sc_iret (C := C_X6_weather) (p1 := 15) (ec_callV (C := C_X6_weather) (m := 2) (p1 := 12) inj_I s_X6_finding t_X6_finding ⟨w_295, Nat.le_of_ble_eq_true rfl, Nat.le_of_ble_eq_true rfl⟩ (ac_snoc (C := C_X6_weather) (n := 1) (c := 1) (p1 := 11) (ac_snoc (C := C_X6_weather) (n := 0) (c := 1) (p1 := 10) (ac_nil (C := C_X6_weather)) (ec_aload_n (C := C_X6_weather) (i := 0) dX6_weather_10 rfl) rfl (fun _ => rfl) rfl) (ec_iconst (C := C_X6_weather) (v := (0 : Int32)) dX6_weather_11 rfl) rfl (fun _ => rfl) rfl) (Nat.le_of_ble_eq_true rfl) dX6_weather_12) dX6_weather_15 rfl) sc_skip)
  (sc_seq (C := C_X6_weather) (p1 := 58) (sc_sc (C := C_X6_weather) (sc_seq (C := C_X6_weather) (p1 := 18) (sc_istore_n (C := C_X6_weather) (p1 := 17) (i := 2) (ec_iconst (C := C_X6_weather) (v := (0 : Int32)) dX6_weather_16 rfl) dX6_weather_17 rfl (Nat.le_of_ble_eq_true rfl))
  bw_X6_weather_1))
  (sc_seq (C := C_X6_weather) (p1 := 60) (sc_istore_n (C := C_X6_weather) (p1 := 59) (i := 2) (ec_iconst (C := C_X6_weather) (v := (0 : Int32)) dX6_weather_58 rfl) dX6_weather_59 rfl (Nat.le_of_ble_eq_true rfl))
  (sc_seq (C := C_X6_weather) (p1 := 94) (sc_sc (C := C_X6_weather) (sc_seq (C := C_X6_weather) (p1 := 62) (sc_istore_n (C := C_X6_weather) (p1 := 61) (i := 3) (ec_iconst (C := C_X6_weather) (v := (0 : Int32)) dX6_weather_60 rfl) dX6_weather_61 rfl (Nat.le_of_ble_eq_true rfl))
  bw_X6_weather_2))
  (sc_iret (C := C_X6_weather) (p1 := 95) (ec_iload_n (C := C_X6_weather) (i := 2) dX6_weather_94 rfl) dX6_weather_95 rfl)))))
theorem s_X6_weather : MS M_X6_weather D_X6_weather := ms_of b_X6_weather (by decide +kernel) rfl rfl (fun _ => trivial)
/-- SmokeRoofs.seed(I)I -/
abbrev C_X6_seed : CX := (cX6_seed, RX6, 3, 0, 0, "seed", (some .int), fun _ => True)
abbrev M_X6_seed : MD := (yX6_seed, C_X6_seed)
theorem k_X6_seed : MOK M_X6_seed 1 := ⟨w_50, w_584, by decide +kernel, by decide +kernel, by decide +kernel⟩
theorem t_X6_seed : MVT M_X6_seed 1 6 := ⟨k_X6_seed, w_582, w_583, by decide, _, rfl, rfl⟩
def S_X6_seed : SD := (s_seq (s_st Value.int 2 (e_gi 5 1 (e_gr 6 0 (e_lr 0))))
  (s_seq (s_pf Value.int 5 1 (e_gr 6 0 (e_lr 0)) (e_li 1))
  (s_ret Value.int (e_li 2))))
def D_X6_seed : MDen := m_den 3 S_X6_seed
set_option maxRecDepth 100000 in
set_option maxHeartbeats 4000000 in
theorem b_X6_seed : SC C_X6_seed 0 0 S_X6_seed := by
  unfold S_X6_seed
  exact (sc_seq (C := C_X6_seed) (p1 := 8) (sc_istore_n (C := C_X6_seed) (p1 := 7) (i := 2) (ec_gi (C := C_X6_seed) (p1 := 4) (ec_gr (C := C_X6_seed) (p1 := 1) (ec_aload_n (C := C_X6_seed) (i := 0) dX6_seed_0 rfl) f_X6_10 dX6_seed_1) f_X6_241 dX6_seed_4) dX6_seed_7 rfl (Nat.le_of_ble_eq_true rfl))
  (sc_seq (C := C_X6_seed) (p1 := 16) (sc_pf (C := C_X6_seed) (p1 := 12) (p2 := 13) (ec_gr (C := C_X6_seed) (p1 := 9) (ec_aload_n (C := C_X6_seed) (i := 0) dX6_seed_8 rfl) f_X6_10 dX6_seed_9) (ec_iload_n (C := C_X6_seed) (i := 1) dX6_seed_12 rfl) f_X6_241 dX6_seed_13)
  (sc_iret (C := C_X6_seed) (p1 := 17) (ec_iload_n (C := C_X6_seed) (i := 2) dX6_seed_16 rfl) dX6_seed_17 rfl)))
theorem s_X6_seed : MS M_X6_seed D_X6_seed := ms_of b_X6_seed (by decide +kernel) rfl rfl (fun _ => trivial)
/-- SmokeRoofs.feed(II)I -/
abbrev C_X6_feed : CX := (cX6_feed, RX6, 5, 1, 22, "feed", (some .int), fun _ => True)
abbrev M_X6_feed : MD := (yX6_feed, C_X6_feed)
theorem k_X6_feed : MOK M_X6_feed 2 := ⟨w_50, w_588, by decide +kernel, by decide +kernel, by decide +kernel⟩
theorem t_X6_feed : MVT M_X6_feed 2 6 := ⟨k_X6_feed, w_586, w_587, by decide, _, rfl, rfl⟩
def WB_X6_feed_1 : DE Bool := (e_un (fun (x : Int32) => decide (0 ≤ x)) (e_li 4))
def WS_X6_feed_1 : SD := (s_seq (s_seq (s_as (e_gr 4 0 (e_lr 3)) (e_gi 4 1 (e_lr 3)) (e_bin (fun (x y : Int32) => x &&& y) (e_bin (fun (x y : Int32) => (x.toUInt32 >>> (y.toUInt32 &&& Int32.toUInt32 31)).toInt32) (e_li 1) (e_bin (fun (x y : Int32) => x * y) (e_c (8 : Int32)) (e_li 4))) (e_c (255 : Int32))))
  (s_fop (fun (x y : Int32) => x + y) 4 1 (e_lr 3) (e_c (1 : Int32))))
  (s_inc 4 (-1)))
def W_X6_feed_1 : SD := s_while WB_X6_feed_1 WS_X6_feed_1 FU
set_option maxRecDepth 100000 in
set_option maxHeartbeats 4000000 in
theorem bw_X6_feed_1 : SC C_X6_feed 45 86 W_X6_feed_1 := by
  unfold W_X6_feed_1 WB_X6_feed_1 WS_X6_feed_1
  exact (sc_while (C := C_X6_feed) (pB := 50) (pE := 86) (bc_if_lt_F (C := C_X6_feed) (p2 := 47) (tgt := 86) (ec_iload (C := C_X6_feed) dX6_feed_45) dX6_feed_47 rfl)
  (sc_goto (C := C_X6_feed) (p1 := 83) (sc_seq (C := C_X6_feed) (p1 := 80) (sc_seq (C := C_X6_feed) (p1 := 70) (sc_as (C := C_X6_feed) (p1 := 54) (p2 := 58) (p3 := 69) (ec_gr (C := C_X6_feed) (p1 := 51) (ec_aload_n (C := C_X6_feed) (i := 3) dX6_feed_50 rfl) f_X6_253 dX6_feed_51) (ec_gi (C := C_X6_feed) (p1 := 55) (ec_aload_n (C := C_X6_feed) (i := 3) dX6_feed_54 rfl) f_X6_248 dX6_feed_55) (ec_iand (C := C_X6_feed) (p1 := 65) (p2 := 68) (ec_iushr (C := C_X6_feed) (p1 := 59) (p2 := 64) (ec_iload_n (C := C_X6_feed) (i := 1) dX6_feed_58 rfl) (ec_imul (C := C_X6_feed) (p1 := 61) (p2 := 63) (ec_bipush (C := C_X6_feed) (v := (8 : Int32)) dX6_feed_59 rfl) (ec_iload (C := C_X6_feed) dX6_feed_61) dX6_feed_63) dX6_feed_64) (ec_sipush (C := C_X6_feed) (v := (255 : Int32)) dX6_feed_65 rfl) dX6_feed_68) dX6_feed_69)
  (sc_fop_iadd (C := C_X6_feed) (p1 := 71) (p3 := 76) (ec_aload_n (C := C_X6_feed) (i := 3) dX6_feed_70 rfl) dX6_feed_71 f_X6_248 dX6_feed_72 (ec_iconst (C := C_X6_feed) (v := (1 : Int32)) dX6_feed_75 rfl) dX6_feed_76 dX6_feed_77))
  (sc_iinc (C := C_X6_feed) (v := (-1)) dX6_feed_80 rfl (Nat.le_of_ble_eq_true rfl))) dX6_feed_83 rfl) FU)
def S_X6_feed : SD := (s_seq (s_if (b_not (b_of (e_call prI D_X6_isIn 3 (a_snoc Value.int (a_snoc Value.int (a_snoc Value.int a_nil (e_li 2)) (e_c (1 : Int32))) (e_c (4 : Int32)))))) (s_ret Value.int (e_call prI D_X6_finding 2 (a_recv 6 (a_snoc Value.int (a_snoc Value.ref a_nil (e_lr 0)) (e_c (0 : Int32)))))) s_skip)
  (s_seq (s_st Value.ref 3 (e_gr 1 0 (e_gr 6 3 (e_lr 0))))
  (s_seq (s_if (e_bin (fun (x y : Int32) => decide (y < x)) (e_bin (fun (x y : Int32) => x + y) (e_gi 4 1 (e_lr 3)) (e_li 2)) (e_c (120 : Int32))) (s_ret Value.int (e_call prI D_X6_finding 2 (a_recv 6 (a_snoc Value.int (a_snoc Value.ref a_nil (e_lr 0)) (e_c (1 : Int32)))))) s_skip)
  (s_seq (s_sc 4 (s_seq (s_st Value.int 4 (e_bin (fun (x y : Int32) => x - y) (e_li 2) (e_c (1 : Int32))))
  W_X6_feed_1))
  (s_ret Value.int (e_gi 4 1 (e_lr 3)))))))
def D_X6_feed : MDen := m_den 5 S_X6_feed
set_option maxRecDepth 100000 in
set_option maxHeartbeats 4000000 in
theorem b_X6_feed : SC C_X6_feed 0 0 S_X6_feed := by
  unfold S_X6_feed
  exact (sc_seq (C := C_X6_feed) (p1 := 15) (sc_if (C := C_X6_feed) (pT := 9) (pF := 15) (p2 := 15) (bc_not (C := C_X6_feed) (bc_of_T (C := C_X6_feed) (p2 := 6) (tgt := 15) (ec_callS (C := C_X6_feed) (m := 3) (p1 := 3) inj_I s_X6_isIn t_X6_isIn ⟨w_292, Nat.le_of_ble_eq_true rfl, Nat.le_of_ble_eq_true rfl⟩ (ac_snoc (C := C_X6_feed) (n := 2) (c := 1) (p1 := 2) (ac_snoc (C := C_X6_feed) (n := 1) (c := 1) (p1 := 1) (ac_snoc (C := C_X6_feed) (n := 0) (c := 1) (p1 := 0) (ac_nil (C := C_X6_feed)) (ec_iload_n (C := C_X6_feed) (i := 2) dX6_feed_0 rfl) rfl (fun _ => rfl) rfl) (ec_iconst (C := C_X6_feed) (v := (1 : Int32)) dX6_feed_1 rfl) rfl (fun _ => rfl) rfl) (ec_iconst (C := C_X6_feed) (v := (4 : Int32)) dX6_feed_2 rfl) rfl (fun _ => rfl) rfl) (Nat.le_of_ble_eq_true rfl) dX6_feed_3) dX6_feed_6 rfl)) (sc_iret (C := C_X6_feed) (p1 := 14) (ec_callV (C := C_X6_feed) (m := 2) (p1 := 11) inj_I s_X6_finding t_X6_finding ⟨w_295, Nat.le_of_ble_eq_true rfl, Nat.le_of_ble_eq_true rfl⟩ (ac_snoc (C := C_X6_feed) (n := 1) (c := 1) (p1 := 10) (ac_snoc (C := C_X6_feed) (n := 0) (c := 1) (p1 := 9) (ac_nil (C := C_X6_feed)) (ec_aload_n (C := C_X6_feed) (i := 0) dX6_feed_9 rfl) rfl (fun _ => rfl) rfl) (ec_iconst (C := C_X6_feed) (v := (0 : Int32)) dX6_feed_10 rfl) rfl (fun _ => rfl) rfl) (Nat.le_of_ble_eq_true rfl) dX6_feed_11) dX6_feed_14 rfl) sc_skip)
  (sc_seq (C := C_X6_feed) (p1 := 23) (sc_astore_n (C := C_X6_feed) (p1 := 22) (i := 3) (ec_gr (C := C_X6_feed) (p1 := 19) (ec_gr (C := C_X6_feed) (p1 := 16) (ec_aload_n (C := C_X6_feed) (i := 0) dX6_feed_15 rfl) f_X6_26 dX6_feed_16) f_X6_244 dX6_feed_19) dX6_feed_22 rfl (Nat.le_of_ble_eq_true rfl))
  (sc_seq (C := C_X6_feed) (p1 := 40) (sc_if (C := C_X6_feed) (pT := 34) (pF := 40) (p2 := 40) (bc_icmp_le_F (C := C_X6_feed) (p1 := 29) (p2 := 31) (tgt := 40) (ec_iadd (C := C_X6_feed) (p1 := 27) (p2 := 28) (ec_gi (C := C_X6_feed) (p1 := 24) (ec_aload_n (C := C_X6_feed) (i := 3) dX6_feed_23 rfl) f_X6_248 dX6_feed_24) (ec_iload_n (C := C_X6_feed) (i := 2) dX6_feed_27 rfl) dX6_feed_28) (ec_bipush (C := C_X6_feed) (v := (120 : Int32)) dX6_feed_29 rfl) dX6_feed_31 rfl) (sc_iret (C := C_X6_feed) (p1 := 39) (ec_callV (C := C_X6_feed) (m := 2) (p1 := 36) inj_I s_X6_finding t_X6_finding ⟨w_295, Nat.le_of_ble_eq_true rfl, Nat.le_of_ble_eq_true rfl⟩ (ac_snoc (C := C_X6_feed) (n := 1) (c := 1) (p1 := 35) (ac_snoc (C := C_X6_feed) (n := 0) (c := 1) (p1 := 34) (ac_nil (C := C_X6_feed)) (ec_aload_n (C := C_X6_feed) (i := 0) dX6_feed_34 rfl) rfl (fun _ => rfl) rfl) (ec_iconst (C := C_X6_feed) (v := (1 : Int32)) dX6_feed_35 rfl) rfl (fun _ => rfl) rfl) (Nat.le_of_ble_eq_true rfl) dX6_feed_36) dX6_feed_39 rfl) sc_skip)
  (sc_seq (C := C_X6_feed) (p1 := 86) (sc_sc (C := C_X6_feed) (sc_seq (C := C_X6_feed) (p1 := 45) (sc_istore (C := C_X6_feed) (p1 := 43) (ec_isub (C := C_X6_feed) (p1 := 41) (p2 := 42) (ec_iload_n (C := C_X6_feed) (i := 2) dX6_feed_40 rfl) (ec_iconst (C := C_X6_feed) (v := (1 : Int32)) dX6_feed_41 rfl) dX6_feed_42) dX6_feed_43 (Nat.le_of_ble_eq_true rfl))
  bw_X6_feed_1))
  (sc_iret (C := C_X6_feed) (p1 := 90) (ec_gi (C := C_X6_feed) (p1 := 87) (ec_aload_n (C := C_X6_feed) (i := 3) dX6_feed_86 rfl) f_X6_248 dX6_feed_87) dX6_feed_90 rfl)))))
theorem s_X6_feed : MS M_X6_feed D_X6_feed := ms_of b_X6_feed (by decide +kernel) rfl rfl (fun _ => trivial)
/-- SmokeRoofs.wipe()I -/
abbrev C_X6_wipe : CX := (cX6_wipe, RX6, 2, 0, 0, "wipe", (some .int), fun _ => True)
abbrev M_X6_wipe : MD := (yX6_wipe, C_X6_wipe)
theorem k_X6_wipe : MOK M_X6_wipe 0 := ⟨w_50, w_592, by decide +kernel, by decide +kernel, by decide +kernel⟩
theorem t_X6_wipe : MVT M_X6_wipe 0 6 := ⟨k_X6_wipe, w_590, w_591, by decide, _, rfl, rfl⟩
def S_X6_wipe : SD := (s_seq (s_st Value.int 1 (e_gi 4 1 (e_gr 1 0 (e_gr 6 3 (e_lr 0)))))
  (s_seq (s_pf Value.int 4 1 (e_gr 1 0 (e_gr 6 3 (e_lr 0))) (e_c (0 : Int32)))
  (s_ret Value.int (e_li 1))))
def D_X6_wipe : MDen := m_den 2 S_X6_wipe
set_option maxRecDepth 100000 in
set_option maxHeartbeats 4000000 in
theorem b_X6_wipe : SC C_X6_wipe 0 0 S_X6_wipe := by
  unfold S_X6_wipe
  exact (sc_seq (C := C_X6_wipe) (p1 := 11) (sc_istore_n (C := C_X6_wipe) (p1 := 10) (i := 1) (ec_gi (C := C_X6_wipe) (p1 := 7) (ec_gr (C := C_X6_wipe) (p1 := 4) (ec_gr (C := C_X6_wipe) (p1 := 1) (ec_aload_n (C := C_X6_wipe) (i := 0) dX6_wipe_0 rfl) f_X6_26 dX6_wipe_1) f_X6_244 dX6_wipe_4) f_X6_248 dX6_wipe_7) dX6_wipe_10 rfl (Nat.le_of_ble_eq_true rfl))
  (sc_seq (C := C_X6_wipe) (p1 := 22) (sc_pf (C := C_X6_wipe) (p1 := 18) (p2 := 19) (ec_gr (C := C_X6_wipe) (p1 := 15) (ec_gr (C := C_X6_wipe) (p1 := 12) (ec_aload_n (C := C_X6_wipe) (i := 0) dX6_wipe_11 rfl) f_X6_26 dX6_wipe_12) f_X6_244 dX6_wipe_15) (ec_iconst (C := C_X6_wipe) (v := (0 : Int32)) dX6_wipe_18 rfl) f_X6_248 dX6_wipe_19)
  (sc_iret (C := C_X6_wipe) (p1 := 23) (ec_iload_n (C := C_X6_wipe) (i := 1) dX6_wipe_22 rfl) dX6_wipe_23 rfl)))
theorem s_X6_wipe : MS M_X6_wipe D_X6_wipe := ms_of b_X6_wipe (by decide +kernel) rfl rfl (fun _ => trivial)
/-- SmokeRoofs$Reader.wordOf(I)Ljava/lang/String; -/
abbrev C_X1_wordOf : CX := (cX1_wordOf, RX1, 1, 0, 0, "wordOf", (some (.object "java/lang/String")), fun _ => True)
abbrev M_X1_wordOf : MD := (yX1_wordOf, C_X1_wordOf)
theorem k_X1_wordOf : MOK M_X1_wordOf 1 := ⟨w_54, w_622, by decide +kernel, by decide +kernel, by decide +kernel⟩
theorem t_X1_wordOf : MST M_X1_wordOf 1 := ⟨k_X1_wordOf, w_621⟩
def S_X1_wordOf : SD := (s_tab (e_li 0) (1) (6) [(40, (s_ret Value.ref (e_c (SPB + 100 + 8)))),
  (43, (s_ret Value.ref (e_c (SPB + 100 + 9)))),
  (46, (s_ret Value.ref (e_c (SPB + 100 + 10)))),
  (49, (s_ret Value.ref (e_c (SPB + 100 + 11)))),
  (52, (s_ret Value.ref (e_c (SPB + 100 + 12)))),
  (55, (s_ret Value.ref (e_c (SPB + 100 + 13))))] (s_ret Value.ref (e_c (SPB + 100 + 14))))
def D_X1_wordOf : MDen := m_den 1 S_X1_wordOf
set_option maxRecDepth 100000 in
set_option maxHeartbeats 4000000 in
theorem b_X1_wordOf : SC C_X1_wordOf 0 0 S_X1_wordOf := by
  unfold S_X1_wordOf
  exact (sc_tab (C := C_X1_wordOf) (arms := [(40, (s_ret Value.ref (e_c (SPB + 100 + 8)))), (43, (s_ret Value.ref (e_c (SPB + 100 + 9)))), (46, (s_ret Value.ref (e_c (SPB + 100 + 10)))), (49, (s_ret Value.ref (e_c (SPB + 100 + 11)))), (52, (s_ret Value.ref (e_c (SPB + 100 + 12)))), (55, (s_ret Value.ref (e_c (SPB + 100 + 13))))]) (p1 := 1) (pD := 58) (p2 := 0) (ec_iload_n (C := C_X1_wordOf) (i := 0) dX1_wordOf_0 rfl) dX1_wordOf_1 rfl (sc_aret (C := C_X1_wordOf) (p1 := 60) (ec_str (C := C_X1_wordOf) (i := 14) (q := str_tab[14]) rfl rfl dX1_wordOf_58) dX1_wordOf_60 rfl) rfl ⟨(sc_aret (C := C_X1_wordOf) (p1 := 42) (ec_str (C := C_X1_wordOf) (i := 8) (q := str_tab[8]) rfl rfl dX1_wordOf_40) dX1_wordOf_42 rfl), ⟨(sc_aret (C := C_X1_wordOf) (p1 := 45) (ec_str (C := C_X1_wordOf) (i := 9) (q := str_tab[9]) rfl rfl dX1_wordOf_43) dX1_wordOf_45 rfl), ⟨(sc_aret (C := C_X1_wordOf) (p1 := 48) (ec_str (C := C_X1_wordOf) (i := 10) (q := str_tab[10]) rfl rfl dX1_wordOf_46) dX1_wordOf_48 rfl), ⟨(sc_aret (C := C_X1_wordOf) (p1 := 51) (ec_str (C := C_X1_wordOf) (i := 11) (q := str_tab[11]) rfl rfl dX1_wordOf_49) dX1_wordOf_51 rfl), ⟨(sc_aret (C := C_X1_wordOf) (p1 := 54) (ec_str (C := C_X1_wordOf) (i := 12) (q := str_tab[12]) rfl rfl dX1_wordOf_52) dX1_wordOf_54 rfl), ⟨(sc_aret (C := C_X1_wordOf) (p1 := 57) (ec_str (C := C_X1_wordOf) (i := 13) (q := str_tab[13]) rfl rfl dX1_wordOf_55) dX1_wordOf_57 rfl), trivial⟩⟩⟩⟩⟩⟩)
theorem s_X1_wordOf : MS M_X1_wordOf D_X1_wordOf := ms_of b_X1_wordOf (by decide +kernel) rfl rfl (fun _ => trivial)
/-- SmokeRoofs$Tape.isWord(Ljava/lang/String;)Z -/
abbrev C_X4_isWord : CX := (cX4_isWord, RX4, 3, 4, 85, "isWord", (some .boolean), fun _ => True)
abbrev M_X4_isWord : MD := (yX4_isWord, C_X4_isWord)
theorem k_X4_isWord : MOK M_X4_isWord 1 := ⟨w_55, w_633, by decide +kernel, by decide +kernel, by decide +kernel⟩
theorem t_X4_isWord : MVT M_X4_isWord 1 4 := ⟨k_X4_isWord, w_631, w_632, by decide, _, rfl, rfl⟩
def WB_X4_isWord_1 : DE Bool := (e_bin (fun (x y : Int32) => decide (x < y)) (e_li 2) (e_slen (e_lr 1)))
def WS_X4_isWord_1 : SD := (s_seq (s_if (e_bin (fun (x y : Int32) => decide (x ≠ y)) (e_ai (e_gr 4 0 (e_lr 0)) (e_bin (fun (x y : Int32) => x + y) (e_gi 4 4 (e_lr 0)) (e_li 2))) (e_char (e_lr 1) (e_li 2))) (s_retz (e_c (0 : Int32))) s_skip)
  (s_inc 2 (1)))
def W_X4_isWord_1 : SD := s_while WB_X4_isWord_1 WS_X4_isWord_1 FU
set_option maxRecDepth 100000 in
set_option maxHeartbeats 4000000 in
theorem bw_X4_isWord_1 : SC C_X4_isWord 28 63 W_X4_isWord_1 := by
  unfold W_X4_isWord_1 WB_X4_isWord_1 WS_X4_isWord_1
  exact (sc_while (C := C_X4_isWord) (pB := 36) (pE := 63) (bc_icmp_ge_F (C := C_X4_isWord) (p1 := 29) (p2 := 33) (tgt := 63) (ec_iload_n (C := C_X4_isWord) (i := 2) dX4_isWord_28 rfl) (ec_slen (C := C_X4_isWord) (p1 := 30) (ec_aload_n (C := C_X4_isWord) (i := 1) dX4_isWord_29 rfl) w_634 (by decide) (by decide) dX4_isWord_30) dX4_isWord_33 rfl)
  (sc_goto (C := C_X4_isWord) (p1 := 60) (sc_seq (C := C_X4_isWord) (p1 := 57) (sc_if (C := C_X4_isWord) (pT := 55) (pF := 57) (p2 := 57) (bc_icmp_eq_F (C := C_X4_isWord) (p1 := 47) (p2 := 52) (tgt := 57) (ec_ai (C := C_X4_isWord) (p1 := 40) (p2 := 46) (ec_gr (C := C_X4_isWord) (p1 := 37) (ec_aload_n (C := C_X4_isWord) (i := 0) dX4_isWord_36 rfl) f_X4_9 dX4_isWord_37) (ec_iadd (C := C_X4_isWord) (p1 := 44) (p2 := 45) (ec_gi (C := C_X4_isWord) (p1 := 41) (ec_aload_n (C := C_X4_isWord) (i := 0) dX4_isWord_40 rfl) f_X4_25 dX4_isWord_41) (ec_iload_n (C := C_X4_isWord) (i := 2) dX4_isWord_44 rfl) dX4_isWord_45) dX4_isWord_46) (ec_char (C := C_X4_isWord) (p1 := 48) (p2 := 49) (ec_aload_n (C := C_X4_isWord) (i := 1) dX4_isWord_47 rfl) (ec_iload_n (C := C_X4_isWord) (i := 2) dX4_isWord_48 rfl) w_644 (by decide) (by decide) dX4_isWord_49) dX4_isWord_52 rfl) (sc_zret (C := C_X4_isWord) (p1 := 56) (ec_iconst (C := C_X4_isWord) (v := (0 : Int32)) dX4_isWord_55 rfl) dX4_isWord_56 rfl) sc_skip)
  (sc_iinc (C := C_X4_isWord) (v := (1)) dX4_isWord_57 rfl (Nat.le_of_ble_eq_true rfl))) dX4_isWord_60 rfl) FU)
def S_X4_isWord : SD := (s_seq (s_if (b_or (e_bin (fun (x y : Int32) => decide (x ≠ y)) (e_gi 4 3 (e_lr 0)) (e_c (1 : Int32))) (e_bin (fun (x y : Int32) => decide (x ≠ y)) (e_bin (fun (x y : Int32) => x - y) (e_gi 4 5 (e_lr 0)) (e_gi 4 4 (e_lr 0))) (e_slen (e_lr 1)))) (s_retz (e_c (0 : Int32))) s_skip)
  (s_seq (s_sc 2 (s_seq (s_st Value.int 2 (e_c (0 : Int32)))
  W_X4_isWord_1))
  (s_retz (e_c (1 : Int32)))))
def D_X4_isWord : MDen := m_den 3 S_X4_isWord
set_option maxRecDepth 100000 in
set_option maxHeartbeats 4000000 in
theorem b_X4_isWord : SC C_X4_isWord 0 0 S_X4_isWord := by
  unfold S_X4_isWord
  exact (sc_seq (C := C_X4_isWord) (p1 := 26) (sc_if (C := C_X4_isWord) (pT := 24) (pF := 26) (p2 := 26) (bc_or (C := C_X4_isWord) (p1 := 8) (bc_icmp_ne_T (C := C_X4_isWord) (p1 := 4) (p2 := 5) (tgt := 24) (ec_gi (C := C_X4_isWord) (p1 := 1) (ec_aload_n (C := C_X4_isWord) (i := 0) dX4_isWord_0 rfl) f_X4_22 dX4_isWord_1) (ec_iconst (C := C_X4_isWord) (v := (1 : Int32)) dX4_isWord_4 rfl) dX4_isWord_5 rfl) (bc_icmp_eq_F (C := C_X4_isWord) (p1 := 17) (p2 := 21) (tgt := 26) (ec_isub (C := C_X4_isWord) (p1 := 12) (p2 := 16) (ec_gi (C := C_X4_isWord) (p1 := 9) (ec_aload_n (C := C_X4_isWord) (i := 0) dX4_isWord_8 rfl) f_X4_28 dX4_isWord_9) (ec_gi (C := C_X4_isWord) (p1 := 13) (ec_aload_n (C := C_X4_isWord) (i := 0) dX4_isWord_12 rfl) f_X4_25 dX4_isWord_13) dX4_isWord_16) (ec_slen (C := C_X4_isWord) (p1 := 18) (ec_aload_n (C := C_X4_isWord) (i := 1) dX4_isWord_17 rfl) w_634 (by decide) (by decide) dX4_isWord_18) dX4_isWord_21 rfl)) (sc_zret (C := C_X4_isWord) (p1 := 25) (ec_iconst (C := C_X4_isWord) (v := (0 : Int32)) dX4_isWord_24 rfl) dX4_isWord_25 rfl) sc_skip)
  (sc_seq (C := C_X4_isWord) (p1 := 63) (sc_sc (C := C_X4_isWord) (sc_seq (C := C_X4_isWord) (p1 := 28) (sc_istore_n (C := C_X4_isWord) (p1 := 27) (i := 2) (ec_iconst (C := C_X4_isWord) (v := (0 : Int32)) dX4_isWord_26 rfl) dX4_isWord_27 rfl (Nat.le_of_ble_eq_true rfl))
  bw_X4_isWord_1))
  (sc_zret (C := C_X4_isWord) (p1 := 64) (ec_iconst (C := C_X4_isWord) (v := (1 : Int32)) dX4_isWord_63 rfl) dX4_isWord_64 rfl)))
theorem s_X4_isWord : MS M_X4_isWord D_X4_isWord := ms_of b_X4_isWord (by decide +kernel) rfl rfl (fun _ => trivial)
/-- SmokeRoofs$Reader.kindAtHand()I -/
abbrev C_X1_kindAtHand : CX := (cX1_kindAtHand, RX1, 2, 5, 107, "kindAtHand", (some .int), fun _ => True)
abbrev M_X1_kindAtHand : MD := (yX1_kindAtHand, C_X1_kindAtHand)
theorem k_X1_kindAtHand : MOK M_X1_kindAtHand 0 := ⟨w_54, w_619, by decide +kernel, by decide +kernel, by decide +kernel⟩
theorem t_X1_kindAtHand : MVT M_X1_kindAtHand 0 1 := ⟨k_X1_kindAtHand, w_617, w_618, by decide, _, rfl, rfl⟩
def WB_X1_kindAtHand_1 : DE Bool := (e_bin (fun (x y : Int32) => decide (x < y)) (e_li 1) (e_c (7 : Int32)))
def WS_X1_kindAtHand_1 : SD := (s_seq (s_if (b_of (e_call prI D_X4_isWord 2 (a_recv 4 (a_snoc Value.ref (a_snoc Value.ref a_nil (e_gr 1 0 (e_lr 0))) (e_call prR D_X1_wordOf 1 (a_snoc Value.int a_nil (e_li 1))))))) (s_ret Value.int (e_li 1)) s_skip)
  (s_inc 1 (1)))
def W_X1_kindAtHand_1 : SD := s_while WB_X1_kindAtHand_1 WS_X1_kindAtHand_1 FU
set_option maxRecDepth 100000 in
set_option maxHeartbeats 4000000 in
theorem bw_X1_kindAtHand_1 : SC C_X1_kindAtHand 2 30 W_X1_kindAtHand_1 := by
  unfold W_X1_kindAtHand_1 WB_X1_kindAtHand_1 WS_X1_kindAtHand_1
  exact (sc_while (C := C_X1_kindAtHand) (pB := 8) (pE := 30) (bc_icmp_ge_F (C := C_X1_kindAtHand) (p1 := 3) (p2 := 5) (tgt := 30) (ec_iload_n (C := C_X1_kindAtHand) (i := 1) dX1_kindAtHand_2 rfl) (ec_bipush (C := C_X1_kindAtHand) (v := (7 : Int32)) dX1_kindAtHand_3 rfl) dX1_kindAtHand_5 rfl)
  (sc_goto (C := C_X1_kindAtHand) (p1 := 27) (sc_seq (C := C_X1_kindAtHand) (p1 := 24) (sc_if (C := C_X1_kindAtHand) (pT := 22) (pF := 24) (p2 := 24) (bc_of_F (C := C_X1_kindAtHand) (p2 := 19) (tgt := 24) (ec_callV (C := C_X1_kindAtHand) (m := 2) (p1 := 16) inj_I s_X4_isWord t_X4_isWord ⟨w_630, Nat.le_of_ble_eq_true rfl, Nat.le_of_ble_eq_true rfl⟩ (ac_snoc (C := C_X1_kindAtHand) (n := 1) (c := 1) (p1 := 12) (ac_snoc (C := C_X1_kindAtHand) (n := 0) (c := 1) (p1 := 8) (ac_nil (C := C_X1_kindAtHand)) (ec_gr (C := C_X1_kindAtHand) (p1 := 9) (ec_aload_n (C := C_X1_kindAtHand) (i := 0) dX1_kindAtHand_8 rfl) f_X1_12 dX1_kindAtHand_9) rfl (fun _ => rfl) rfl) (ec_callS (C := C_X1_kindAtHand) (m := 1) (p1 := 13) inj_R s_X1_wordOf t_X1_wordOf ⟨w_620, Nat.le_of_ble_eq_true rfl, Nat.le_of_ble_eq_true rfl⟩ (ac_snoc (C := C_X1_kindAtHand) (n := 0) (c := 1) (p1 := 12) (ac_nil (C := C_X1_kindAtHand)) (ec_iload_n (C := C_X1_kindAtHand) (i := 1) dX1_kindAtHand_12 rfl) rfl (fun _ => rfl) rfl) (Nat.le_of_ble_eq_true rfl) dX1_kindAtHand_13) rfl (fun _ => rfl) rfl) (Nat.le_of_ble_eq_true rfl) dX1_kindAtHand_16) dX1_kindAtHand_19 rfl) (sc_iret (C := C_X1_kindAtHand) (p1 := 23) (ec_iload_n (C := C_X1_kindAtHand) (i := 1) dX1_kindAtHand_22 rfl) dX1_kindAtHand_23 rfl) sc_skip)
  (sc_iinc (C := C_X1_kindAtHand) (v := (1)) dX1_kindAtHand_24 rfl (Nat.le_of_ble_eq_true rfl))) dX1_kindAtHand_27 rfl) FU)
def S_X1_kindAtHand : SD := (s_seq (s_sc 1 (s_seq (s_st Value.int 1 (e_c (0 : Int32)))
  W_X1_kindAtHand_1))
  (s_ret Value.int (e_c (-1 : Int32))))
def D_X1_kindAtHand : MDen := m_den 2 S_X1_kindAtHand
set_option maxRecDepth 100000 in
set_option maxHeartbeats 4000000 in
theorem b_X1_kindAtHand : SC C_X1_kindAtHand 0 0 S_X1_kindAtHand := by
  unfold S_X1_kindAtHand
  exact (sc_seq (C := C_X1_kindAtHand) (p1 := 30) (sc_sc (C := C_X1_kindAtHand) (sc_seq (C := C_X1_kindAtHand) (p1 := 2) (sc_istore_n (C := C_X1_kindAtHand) (p1 := 1) (i := 1) (ec_iconst (C := C_X1_kindAtHand) (v := (0 : Int32)) dX1_kindAtHand_0 rfl) dX1_kindAtHand_1 rfl (Nat.le_of_ble_eq_true rfl))
  bw_X1_kindAtHand_1))
  (sc_iret (C := C_X1_kindAtHand) (p1 := 31) (ec_iconst (C := C_X1_kindAtHand) (v := (-1 : Int32)) dX1_kindAtHand_30 rfl) dX1_kindAtHand_31 rfl))
theorem s_X1_kindAtHand : MS M_X1_kindAtHand D_X1_kindAtHand := ms_of b_X1_kindAtHand (by decide +kernel) rfl rfl (fun _ => trivial)
/-- SmokeRoofs$Tape.fail()V -/
abbrev C_X4_fail : CX := (cX4_fail, RX4, 1, 0, 0, "fail", none, fun _ => True)
abbrev M_X4_fail : MD := (yX4_fail, C_X4_fail)
theorem k_X4_fail : MOK M_X4_fail 0 := ⟨w_55, w_710, by decide +kernel, by decide +kernel, by decide +kernel⟩
theorem t_X4_fail : MVT M_X4_fail 0 4 := ⟨k_X4_fail, w_708, w_709, by decide, _, rfl, rfl⟩
def S_X4_fail : SD := (s_seq (s_if (e_un (fun (x : Int32) => decide (x < 0)) (e_gi 4 2 (e_lr 0))) (s_pf Value.int 4 2 (e_lr 0) (e_gi 4 4 (e_lr 0))) s_skip)
  s_retv)
def D_X4_fail : MDen := m_den 1 S_X4_fail
set_option maxRecDepth 100000 in
set_option maxHeartbeats 4000000 in
theorem b_X4_fail : SC C_X4_fail 0 0 S_X4_fail := by
  unfold S_X4_fail
  exact (sc_seq (C := C_X4_fail) (p1 := 15) (sc_if (C := C_X4_fail) (pT := 7) (pF := 15) (p2 := 15) (bc_if_ge_F (C := C_X4_fail) (p2 := 4) (tgt := 15) (ec_gi (C := C_X4_fail) (p1 := 1) (ec_aload_n (C := C_X4_fail) (i := 0) dX4_fail_0 rfl) f_X4_19 dX4_fail_1) dX4_fail_4 rfl) (sc_pf (C := C_X4_fail) (p1 := 8) (p2 := 12) (ec_aload_n (C := C_X4_fail) (i := 0) dX4_fail_7 rfl) (ec_gi (C := C_X4_fail) (p1 := 9) (ec_aload_n (C := C_X4_fail) (i := 0) dX4_fail_8 rfl) f_X4_25 dX4_fail_9) f_X4_19 dX4_fail_12) sc_skip)
  (sc_vret (C := C_X4_fail) dX4_fail_15 rfl))
theorem s_X4_fail : MS M_X4_fail D_X4_fail := ms_of b_X4_fail (by decide +kernel) rfl rfl (fun _ => trivial)
/-- SmokeRoofs$Tape.hasFault()Z -/
abbrev C_X4_hasFault : CX := (cX4_hasFault, RX4, 1, 0, 0, "hasFault", (some .boolean), fun _ => True)
abbrev M_X4_hasFault : MD := (yX4_hasFault, C_X4_hasFault)
theorem k_X4_hasFault : MOK M_X4_hasFault 0 := ⟨w_55, w_690, by decide +kernel, by decide +kernel, by decide +kernel⟩
theorem t_X4_hasFault : MVT M_X4_hasFault 0 4 := ⟨k_X4_hasFault, w_688, w_689, by decide, _, rfl, rfl⟩
def S_X4_hasFault : SD := (s_retz (e_b (e_un (fun (x : Int32) => decide (0 ≤ x)) (e_gi 4 2 (e_lr 0)))))
def D_X4_hasFault : MDen := m_den 1 S_X4_hasFault
set_option maxRecDepth 100000 in
set_option maxHeartbeats 4000000 in
theorem b_X4_hasFault : SC C_X4_hasFault 0 0 S_X4_hasFault := by
  unfold S_X4_hasFault
  exact (sc_zret (C := C_X4_hasFault) (p1 := 12) (ec_bm (C := C_X4_hasFault) (pT := 7) (bc_if_lt_F (C := C_X4_hasFault) (p2 := 4) (tgt := 11) (ec_gi (C := C_X4_hasFault) (p1 := 1) (ec_aload_n (C := C_X4_hasFault) (i := 0) dX4_hasFault_0 rfl) f_X4_19 dX4_hasFault_1) dX4_hasFault_4 rfl) dX4_hasFault_7 dX4_hasFault_8 rfl dX4_hasFault_11) dX4_hasFault_12 rfl)
theorem s_X4_hasFault : MS M_X4_hasFault D_X4_hasFault := ms_of b_X4_hasFault (by decide +kernel) rfl rfl (fun _ => trivial)
/-- SmokeRoofs$Tape.sortOf(I)I -/
abbrev C_X4_sortOf : CX := (cX4_sortOf, RX4, 1, 0, 0, "sortOf", (some .int), fun _ => True)
abbrev M_X4_sortOf : MD := (yX4_sortOf, C_X4_sortOf)
theorem k_X4_sortOf : MOK M_X4_sortOf 1 := ⟨w_55, w_611, by decide +kernel, by decide +kernel, by decide +kernel⟩
theorem t_X4_sortOf : MST M_X4_sortOf 1 := ⟨k_X4_sortOf, w_610⟩
def S_X4_sortOf : SD := (s_seq (s_if (b_and (e_bin (fun (x y : Int32) => decide (y ≤ x)) (e_li 0) (e_c (97 : Int32))) (e_bin (fun (x y : Int32) => decide (x ≤ y)) (e_li 0) (e_c (122 : Int32)))) (s_ret Value.int (e_c (1 : Int32))) s_skip)
  (s_seq (s_if (b_and (e_bin (fun (x y : Int32) => decide (y ≤ x)) (e_li 0) (e_c (48 : Int32))) (e_bin (fun (x y : Int32) => decide (x ≤ y)) (e_li 0) (e_c (57 : Int32)))) (s_ret Value.int (e_c (2 : Int32))) s_skip)
  (s_ret Value.int (e_if (e_bin (fun (x y : Int32) => decide (x = y)) (e_li 0) (e_c (59 : Int32))) (e_c (3 : Int32)) (e_c (4 : Int32))))))
def D_X4_sortOf : MDen := m_den 1 S_X4_sortOf
set_option maxRecDepth 100000 in
set_option maxHeartbeats 4000000 in
theorem b_X4_sortOf : SC C_X4_sortOf 0 0 S_X4_sortOf := by
  unfold S_X4_sortOf
  exact (sc_seq (C := C_X4_sortOf) (p1 := 14) (sc_if (C := C_X4_sortOf) (pT := 12) (pF := 14) (p2 := 14) (bc_and (C := C_X4_sortOf) (p1 := 6) (bc_icmp_lt_F (C := C_X4_sortOf) (p1 := 1) (p2 := 3) (tgt := 14) (ec_iload_n (C := C_X4_sortOf) (i := 0) dX4_sortOf_0 rfl) (ec_bipush (C := C_X4_sortOf) (v := (97 : Int32)) dX4_sortOf_1 rfl) dX4_sortOf_3 rfl) (bc_icmp_gt_F (C := C_X4_sortOf) (p1 := 7) (p2 := 9) (tgt := 14) (ec_iload_n (C := C_X4_sortOf) (i := 0) dX4_sortOf_6 rfl) (ec_bipush (C := C_X4_sortOf) (v := (122 : Int32)) dX4_sortOf_7 rfl) dX4_sortOf_9 rfl)) (sc_iret (C := C_X4_sortOf) (p1 := 13) (ec_iconst (C := C_X4_sortOf) (v := (1 : Int32)) dX4_sortOf_12 rfl) dX4_sortOf_13 rfl) sc_skip)
  (sc_seq (C := C_X4_sortOf) (p1 := 28) (sc_if (C := C_X4_sortOf) (pT := 26) (pF := 28) (p2 := 28) (bc_and (C := C_X4_sortOf) (p1 := 20) (bc_icmp_lt_F (C := C_X4_sortOf) (p1 := 15) (p2 := 17) (tgt := 28) (ec_iload_n (C := C_X4_sortOf) (i := 0) dX4_sortOf_14 rfl) (ec_bipush (C := C_X4_sortOf) (v := (48 : Int32)) dX4_sortOf_15 rfl) dX4_sortOf_17 rfl) (bc_icmp_gt_F (C := C_X4_sortOf) (p1 := 21) (p2 := 23) (tgt := 28) (ec_iload_n (C := C_X4_sortOf) (i := 0) dX4_sortOf_20 rfl) (ec_bipush (C := C_X4_sortOf) (v := (57 : Int32)) dX4_sortOf_21 rfl) dX4_sortOf_23 rfl)) (sc_iret (C := C_X4_sortOf) (p1 := 27) (ec_iconst (C := C_X4_sortOf) (v := (2 : Int32)) dX4_sortOf_26 rfl) dX4_sortOf_27 rfl) sc_skip)
  (sc_iret (C := C_X4_sortOf) (p1 := 39) (ec_if (C := C_X4_sortOf) (pT := 34) (pF := 38) (p1 := 35) (pE := 39) (bc_icmp_ne_F (C := C_X4_sortOf) (p1 := 29) (p2 := 31) (tgt := 38) (ec_iload_n (C := C_X4_sortOf) (i := 0) dX4_sortOf_28 rfl) (ec_bipush (C := C_X4_sortOf) (v := (59 : Int32)) dX4_sortOf_29 rfl) dX4_sortOf_31 rfl) (ec_iconst (C := C_X4_sortOf) (v := (3 : Int32)) dX4_sortOf_34 rfl) dX4_sortOf_35 rfl (ec_iconst (C := C_X4_sortOf) (v := (4 : Int32)) dX4_sortOf_38 rfl)) dX4_sortOf_39 rfl)))
theorem s_X4_sortOf : MS M_X4_sortOf D_X4_sortOf := ms_of b_X4_sortOf (by decide +kernel) rfl rfl (fun _ => trivial)
/-- SmokeRoofs$Tape.next()V -/
abbrev C_X4_next : CX := (cX4_next, RX4, 2, 1, 20, "next", none, fun _ => True)
abbrev M_X4_next : MD := (yX4_next, C_X4_next)
theorem k_X4_next : MOK M_X4_next 0 := ⟨w_55, w_608, by decide +kernel, by decide +kernel, by decide +kernel⟩
theorem t_X4_next : MVT M_X4_next 0 4 := ⟨k_X4_next, w_606, w_607, by decide, _, rfl, rfl⟩
def WB_X4_next_1 : DE Bool := (b_and (e_bin (fun (x y : Int32) => decide (x < y)) (e_gi 4 5 (e_lr 0)) (e_gi 4 1 (e_lr 0))) (e_bin (fun (x y : Int32) => decide (x = y)) (e_ai (e_gr 4 0 (e_lr 0)) (e_gi 4 5 (e_lr 0))) (e_c (32 : Int32))))
def WS_X4_next_1 : SD := (s_fop (fun (x y : Int32) => x + y) 4 5 (e_lr 0) (e_c (1 : Int32)))
def W_X4_next_1 : SD := s_while WB_X4_next_1 WS_X4_next_1 FU
set_option maxRecDepth 100000 in
set_option maxHeartbeats 4000000 in
theorem bw_X4_next_1 : SC C_X4_next 0 38 W_X4_next_1 := by
  unfold W_X4_next_1 WB_X4_next_1 WS_X4_next_1
  exact (sc_while (C := C_X4_next) (pB := 25) (pE := 38) (bc_and (C := C_X4_next) (p1 := 11) (bc_icmp_ge_F (C := C_X4_next) (p1 := 4) (p2 := 8) (tgt := 38) (ec_gi (C := C_X4_next) (p1 := 1) (ec_aload_n (C := C_X4_next) (i := 0) dX4_next_0 rfl) f_X4_28 dX4_next_1) (ec_gi (C := C_X4_next) (p1 := 5) (ec_aload_n (C := C_X4_next) (i := 0) dX4_next_4 rfl) f_X4_15 dX4_next_5) dX4_next_8 rfl) (bc_icmp_ne_F (C := C_X4_next) (p1 := 20) (p2 := 22) (tgt := 38) (ec_ai (C := C_X4_next) (p1 := 15) (p2 := 19) (ec_gr (C := C_X4_next) (p1 := 12) (ec_aload_n (C := C_X4_next) (i := 0) dX4_next_11 rfl) f_X4_9 dX4_next_12) (ec_gi (C := C_X4_next) (p1 := 16) (ec_aload_n (C := C_X4_next) (i := 0) dX4_next_15 rfl) f_X4_28 dX4_next_16) dX4_next_19) (ec_bipush (C := C_X4_next) (v := (32 : Int32)) dX4_next_20 rfl) dX4_next_22 rfl))
  (sc_goto (C := C_X4_next) (p1 := 35) (sc_fop_iadd (C := C_X4_next) (p1 := 26) (p3 := 31) (ec_aload_n (C := C_X4_next) (i := 0) dX4_next_25 rfl) dX4_next_26 f_X4_28 dX4_next_27 (ec_iconst (C := C_X4_next) (v := (1 : Int32)) dX4_next_30 rfl) dX4_next_31 dX4_next_32) dX4_next_35 rfl) FU)
def WB_X4_next_2 : DE Bool := (b_and (b_and (b_of (e_li 1)) (e_bin (fun (x y : Int32) => decide (x < y)) (e_gi 4 5 (e_lr 0)) (e_gi 4 1 (e_lr 0)))) (e_bin (fun (x y : Int32) => decide (x = y)) (e_call prI D_X4_sortOf 1 (a_snoc Value.int a_nil (e_ai (e_gr 4 0 (e_lr 0)) (e_gi 4 5 (e_lr 0))))) (e_gi 4 3 (e_lr 0))))
def WS_X4_next_2 : SD := (s_fop (fun (x y : Int32) => x + y) 4 5 (e_lr 0) (e_c (1 : Int32)))
def W_X4_next_2 : SD := s_while WB_X4_next_2 WS_X4_next_2 FU
set_option maxRecDepth 100000 in
set_option maxHeartbeats 4000000 in
theorem bw_X4_next_2 : SC C_X4_next 110 157 W_X4_next_2 := by
  unfold W_X4_next_2 WB_X4_next_2 WS_X4_next_2
  exact (sc_while (C := C_X4_next) (pB := 144) (pE := 157) (bc_and (C := C_X4_next) (p1 := 125) (bc_and (C := C_X4_next) (p1 := 114) (bc_of_F (C := C_X4_next) (p2 := 111) (tgt := 157) (ec_iload_n (C := C_X4_next) (i := 1) dX4_next_110 rfl) dX4_next_111 rfl) (bc_icmp_ge_F (C := C_X4_next) (p1 := 118) (p2 := 122) (tgt := 157) (ec_gi (C := C_X4_next) (p1 := 115) (ec_aload_n (C := C_X4_next) (i := 0) dX4_next_114 rfl) f_X4_28 dX4_next_115) (ec_gi (C := C_X4_next) (p1 := 119) (ec_aload_n (C := C_X4_next) (i := 0) dX4_next_118 rfl) f_X4_15 dX4_next_119) dX4_next_122 rfl)) (bc_icmp_ne_F (C := C_X4_next) (p1 := 137) (p2 := 141) (tgt := 157) (ec_callS (C := C_X4_next) (m := 1) (p1 := 134) inj_I s_X4_sortOf t_X4_sortOf ⟨w_609, Nat.le_of_ble_eq_true rfl, Nat.le_of_ble_eq_true rfl⟩ (ac_snoc (C := C_X4_next) (n := 0) (c := 1) (p1 := 125) (ac_nil (C := C_X4_next)) (ec_ai (C := C_X4_next) (p1 := 129) (p2 := 133) (ec_gr (C := C_X4_next) (p1 := 126) (ec_aload_n (C := C_X4_next) (i := 0) dX4_next_125 rfl) f_X4_9 dX4_next_126) (ec_gi (C := C_X4_next) (p1 := 130) (ec_aload_n (C := C_X4_next) (i := 0) dX4_next_129 rfl) f_X4_28 dX4_next_130) dX4_next_133) rfl (fun _ => rfl) rfl) (Nat.le_of_ble_eq_true rfl) dX4_next_134) (ec_gi (C := C_X4_next) (p1 := 138) (ec_aload_n (C := C_X4_next) (i := 0) dX4_next_137 rfl) f_X4_22 dX4_next_138) dX4_next_141 rfl))
  (sc_goto (C := C_X4_next) (p1 := 154) (sc_fop_iadd (C := C_X4_next) (p1 := 145) (p3 := 150) (ec_aload_n (C := C_X4_next) (i := 0) dX4_next_144 rfl) dX4_next_145 f_X4_28 dX4_next_146 (ec_iconst (C := C_X4_next) (v := (1 : Int32)) dX4_next_149 rfl) dX4_next_150 dX4_next_151) dX4_next_154 rfl) FU)
def S_X4_next : SD := (s_seq (s_seq W_X4_next_1
  (s_seq (s_pf Value.int 4 4 (e_lr 0) (e_gi 4 5 (e_lr 0)))
  (s_seq (s_pf Value.int 4 3 (e_lr 0) (e_c (0 : Int32)))
  (s_seq (s_if (e_bin (fun (x y : Int32) => decide (x < y)) (e_gi 4 5 (e_lr 0)) (e_gi 4 1 (e_lr 0))) (s_seq (s_pf Value.int 4 3 (e_lr 0) (e_call prI D_X4_sortOf 1 (a_snoc Value.int a_nil (e_ai (e_gr 4 0 (e_lr 0)) (e_gi 4 5 (e_lr 0))))))
  (s_fop (fun (x y : Int32) => x + y) 4 5 (e_lr 0) (e_c (1 : Int32)))) s_skip)
  (s_seq (s_st Value.int 1 (e_b (b_or (e_bin (fun (x y : Int32) => decide (x = y)) (e_gi 4 3 (e_lr 0)) (e_c (1 : Int32))) (e_bin (fun (x y : Int32) => decide (x = y)) (e_gi 4 3 (e_lr 0)) (e_c (2 : Int32))))))
  W_X4_next_2)))))
  s_retv)
def D_X4_next : MDen := m_den 2 S_X4_next
set_option maxRecDepth 100000 in
set_option maxHeartbeats 4000000 in
theorem b_X4_next : SC C_X4_next 0 0 S_X4_next := by
  unfold S_X4_next
  exact (sc_seq (C := C_X4_next) (p1 := 157) (sc_seq (C := C_X4_next) (p1 := 38) bw_X4_next_1
  (sc_seq (C := C_X4_next) (p1 := 46) (sc_pf (C := C_X4_next) (p1 := 39) (p2 := 43) (ec_aload_n (C := C_X4_next) (i := 0) dX4_next_38 rfl) (ec_gi (C := C_X4_next) (p1 := 40) (ec_aload_n (C := C_X4_next) (i := 0) dX4_next_39 rfl) f_X4_28 dX4_next_40) f_X4_25 dX4_next_43)
  (sc_seq (C := C_X4_next) (p1 := 51) (sc_pf (C := C_X4_next) (p1 := 47) (p2 := 48) (ec_aload_n (C := C_X4_next) (i := 0) dX4_next_46 rfl) (ec_iconst (C := C_X4_next) (v := (0 : Int32)) dX4_next_47 rfl) f_X4_22 dX4_next_48)
  (sc_seq (C := C_X4_next) (p1 := 88) (sc_if (C := C_X4_next) (pT := 62) (pF := 88) (p2 := 88) (bc_icmp_ge_F (C := C_X4_next) (p1 := 55) (p2 := 59) (tgt := 88) (ec_gi (C := C_X4_next) (p1 := 52) (ec_aload_n (C := C_X4_next) (i := 0) dX4_next_51 rfl) f_X4_28 dX4_next_52) (ec_gi (C := C_X4_next) (p1 := 56) (ec_aload_n (C := C_X4_next) (i := 0) dX4_next_55 rfl) f_X4_15 dX4_next_56) dX4_next_59 rfl) (sc_seq (C := C_X4_next) (p1 := 78) (sc_pf (C := C_X4_next) (p1 := 63) (p2 := 75) (ec_aload_n (C := C_X4_next) (i := 0) dX4_next_62 rfl) (ec_callS (C := C_X4_next) (m := 1) (p1 := 72) inj_I s_X4_sortOf t_X4_sortOf ⟨w_609, Nat.le_of_ble_eq_true rfl, Nat.le_of_ble_eq_true rfl⟩ (ac_snoc (C := C_X4_next) (n := 0) (c := 1) (p1 := 63) (ac_nil (C := C_X4_next)) (ec_ai (C := C_X4_next) (p1 := 67) (p2 := 71) (ec_gr (C := C_X4_next) (p1 := 64) (ec_aload_n (C := C_X4_next) (i := 0) dX4_next_63 rfl) f_X4_9 dX4_next_64) (ec_gi (C := C_X4_next) (p1 := 68) (ec_aload_n (C := C_X4_next) (i := 0) dX4_next_67 rfl) f_X4_28 dX4_next_68) dX4_next_71) rfl (fun _ => rfl) rfl) (Nat.le_of_ble_eq_true rfl) dX4_next_72) f_X4_22 dX4_next_75)
  (sc_fop_iadd (C := C_X4_next) (p1 := 79) (p3 := 84) (ec_aload_n (C := C_X4_next) (i := 0) dX4_next_78 rfl) dX4_next_79 f_X4_28 dX4_next_80 (ec_iconst (C := C_X4_next) (v := (1 : Int32)) dX4_next_83 rfl) dX4_next_84 dX4_next_85)) sc_skip)
  (sc_seq (C := C_X4_next) (p1 := 110) (sc_istore_n (C := C_X4_next) (p1 := 109) (i := 1) (ec_bm (C := C_X4_next) (pT := 104) (bc_or (C := C_X4_next) (p1 := 96) (bc_icmp_eq_T (C := C_X4_next) (p1 := 92) (p2 := 93) (tgt := 104) (ec_gi (C := C_X4_next) (p1 := 89) (ec_aload_n (C := C_X4_next) (i := 0) dX4_next_88 rfl) f_X4_22 dX4_next_89) (ec_iconst (C := C_X4_next) (v := (1 : Int32)) dX4_next_92 rfl) dX4_next_93 rfl) (bc_icmp_ne_F (C := C_X4_next) (p1 := 100) (p2 := 101) (tgt := 108) (ec_gi (C := C_X4_next) (p1 := 97) (ec_aload_n (C := C_X4_next) (i := 0) dX4_next_96 rfl) f_X4_22 dX4_next_97) (ec_iconst (C := C_X4_next) (v := (2 : Int32)) dX4_next_100 rfl) dX4_next_101 rfl)) dX4_next_104 dX4_next_105 rfl dX4_next_108) dX4_next_109 rfl (Nat.le_of_ble_eq_true rfl))
  bw_X4_next_2)))))
  (sc_vret (C := C_X4_next) dX4_next_157 rfl))
theorem s_X4_next : MS M_X4_next D_X4_next := ms_of b_X4_next (by decide +kernel) rfl rfl (fun _ => trivial)
/-- java/lang/Math.min(II)I -/
abbrev C_J9_min_7cf53 : CX := (cJ9_min_7cf53, RJ9, 2, 0, 0, "min", (some .int), fun _ => True)
abbrev M_J9_min_7cf53 : MD := (yJ9_min_7cf53, C_J9_min_7cf53)
theorem k_J9_min_7cf53 : MOK M_J9_min_7cf53 2 := ⟨w_59, w_706, by decide +kernel, by decide +kernel, by decide +kernel⟩
theorem t_J9_min_7cf53 : MST M_J9_min_7cf53 2 := ⟨k_J9_min_7cf53, w_705⟩
def S_J9_min_7cf53 : SD := (s_ret Value.int (e_if (e_bin (fun (x y : Int32) => decide (x ≤ y)) (e_li 0) (e_li 1)) (e_li 0) (e_li 1)))
def D_J9_min_7cf53 : MDen := m_den 2 S_J9_min_7cf53
set_option maxRecDepth 100000 in
set_option maxHeartbeats 4000000 in
theorem b_J9_min_7cf53 : SC C_J9_min_7cf53 0 0 S_J9_min_7cf53 := by
  unfold S_J9_min_7cf53
  exact (sc_iret (C := C_J9_min_7cf53) (p1 := 10) (ec_if (C := C_J9_min_7cf53) (pT := 5) (pF := 9) (p1 := 6) (pE := 10) (bc_icmp_gt_F (C := C_J9_min_7cf53) (p1 := 1) (p2 := 2) (tgt := 9) (ec_iload_n (C := C_J9_min_7cf53) (i := 0) dJ9_min_7cf53_0 rfl) (ec_iload_n (C := C_J9_min_7cf53) (i := 1) dJ9_min_7cf53_1 rfl) dJ9_min_7cf53_2 rfl) (ec_iload_n (C := C_J9_min_7cf53) (i := 0) dJ9_min_7cf53_5 rfl) dJ9_min_7cf53_6 rfl (ec_iload_n (C := C_J9_min_7cf53) (i := 1) dJ9_min_7cf53_9 rfl)) dJ9_min_7cf53_10 rfl)
theorem s_J9_min_7cf53 : MS M_J9_min_7cf53 D_J9_min_7cf53 := ms_of b_J9_min_7cf53 (by decide +kernel) rfl rfl (fun _ => trivial)
/-- SmokeRoofs$Tape.numberAtHand()I -/
abbrev C_X4_numberAtHand : CX := (cX4_numberAtHand, RX4, 3, 1, 21, "numberAtHand", (some .int), fun _ => True)
abbrev M_X4_numberAtHand : MD := (yX4_numberAtHand, C_X4_numberAtHand)
theorem k_X4_numberAtHand : MOK M_X4_numberAtHand 0 := ⟨w_55, w_703, by decide +kernel, by decide +kernel, by decide +kernel⟩
theorem t_X4_numberAtHand : MVT M_X4_numberAtHand 0 4 := ⟨k_X4_numberAtHand, w_701, w_702, by decide, _, rfl, rfl⟩
def WB_X4_numberAtHand_1 : DE Bool := (e_bin (fun (x y : Int32) => decide (x < y)) (e_li 2) (e_gi 4 5 (e_lr 0)))
def WS_X4_numberAtHand_1 : SD := (s_seq (s_st Value.int 1 (e_call prI D_J9_min_7cf53 2 (a_snoc Value.int (a_snoc Value.int a_nil (e_bin (fun (x y : Int32) => x - y) (e_bin (fun (x y : Int32) => x + y) (e_bin (fun (x y : Int32) => x * y) (e_li 1) (e_c (10 : Int32))) (e_ai (e_gr 4 0 (e_lr 0)) (e_li 2))) (e_c (48 : Int32)))) (e_c (1000 : Int32)))))
  (s_inc 2 (1)))
def W_X4_numberAtHand_1 : SD := s_while WB_X4_numberAtHand_1 WS_X4_numberAtHand_1 FU
set_option maxRecDepth 100000 in
set_option maxHeartbeats 4000000 in
theorem bw_X4_numberAtHand_1 : SC C_X4_numberAtHand 7 42 W_X4_numberAtHand_1 := by
  unfold W_X4_numberAtHand_1 WB_X4_numberAtHand_1 WS_X4_numberAtHand_1
  exact (sc_while (C := C_X4_numberAtHand) (pB := 15) (pE := 42) (bc_icmp_ge_F (C := C_X4_numberAtHand) (p1 := 8) (p2 := 12) (tgt := 42) (ec_iload_n (C := C_X4_numberAtHand) (i := 2) dX4_numberAtHand_7 rfl) (ec_gi (C := C_X4_numberAtHand) (p1 := 9) (ec_aload_n (C := C_X4_numberAtHand) (i := 0) dX4_numberAtHand_8 rfl) f_X4_28 dX4_numberAtHand_9) dX4_numberAtHand_12 rfl)
  (sc_goto (C := C_X4_numberAtHand) (p1 := 39) (sc_seq (C := C_X4_numberAtHand) (p1 := 36) (sc_istore_n (C := C_X4_numberAtHand) (p1 := 35) (i := 1) (ec_callS (C := C_X4_numberAtHand) (m := 2) (p1 := 32) inj_I s_J9_min_7cf53 t_J9_min_7cf53 ⟨w_704, Nat.le_of_ble_eq_true rfl, Nat.le_of_ble_eq_true rfl⟩ (ac_snoc (C := C_X4_numberAtHand) (n := 1) (c := 1) (p1 := 29) (ac_snoc (C := C_X4_numberAtHand) (n := 0) (c := 1) (p1 := 15) (ac_nil (C := C_X4_numberAtHand)) (ec_isub (C := C_X4_numberAtHand) (p1 := 26) (p2 := 28) (ec_iadd (C := C_X4_numberAtHand) (p1 := 19) (p2 := 25) (ec_imul (C := C_X4_numberAtHand) (p1 := 16) (p2 := 18) (ec_iload_n (C := C_X4_numberAtHand) (i := 1) dX4_numberAtHand_15 rfl) (ec_bipush (C := C_X4_numberAtHand) (v := (10 : Int32)) dX4_numberAtHand_16 rfl) dX4_numberAtHand_18) (ec_ai (C := C_X4_numberAtHand) (p1 := 23) (p2 := 24) (ec_gr (C := C_X4_numberAtHand) (p1 := 20) (ec_aload_n (C := C_X4_numberAtHand) (i := 0) dX4_numberAtHand_19 rfl) f_X4_9 dX4_numberAtHand_20) (ec_iload_n (C := C_X4_numberAtHand) (i := 2) dX4_numberAtHand_23 rfl) dX4_numberAtHand_24) dX4_numberAtHand_25) (ec_bipush (C := C_X4_numberAtHand) (v := (48 : Int32)) dX4_numberAtHand_26 rfl) dX4_numberAtHand_28) rfl (fun _ => rfl) rfl) (ec_sipush (C := C_X4_numberAtHand) (v := (1000 : Int32)) dX4_numberAtHand_29 rfl) rfl (fun _ => rfl) rfl) (Nat.le_of_ble_eq_true rfl) dX4_numberAtHand_32) dX4_numberAtHand_35 rfl (Nat.le_of_ble_eq_true rfl))
  (sc_iinc (C := C_X4_numberAtHand) (v := (1)) dX4_numberAtHand_36 rfl (Nat.le_of_ble_eq_true rfl))) dX4_numberAtHand_39 rfl) FU)
def S_X4_numberAtHand : SD := (s_seq (s_st Value.int 1 (e_c (0 : Int32)))
  (s_seq (s_sc 2 (s_seq (s_st Value.int 2 (e_gi 4 4 (e_lr 0)))
  W_X4_numberAtHand_1))
  (s_ret Value.int (e_li 1))))
def D_X4_numberAtHand : MDen := m_den 3 S_X4_numberAtHand
set_option maxRecDepth 100000 in
set_option maxHeartbeats 4000000 in
theorem b_X4_numberAtHand : SC C_X4_numberAtHand 0 0 S_X4_numberAtHand := by
  unfold S_X4_numberAtHand
  exact (sc_seq (C := C_X4_numberAtHand) (p1 := 2) (sc_istore_n (C := C_X4_numberAtHand) (p1 := 1) (i := 1) (ec_iconst (C := C_X4_numberAtHand) (v := (0 : Int32)) dX4_numberAtHand_0 rfl) dX4_numberAtHand_1 rfl (Nat.le_of_ble_eq_true rfl))
  (sc_seq (C := C_X4_numberAtHand) (p1 := 42) (sc_sc (C := C_X4_numberAtHand) (sc_seq (C := C_X4_numberAtHand) (p1 := 7) (sc_istore_n (C := C_X4_numberAtHand) (p1 := 6) (i := 2) (ec_gi (C := C_X4_numberAtHand) (p1 := 3) (ec_aload_n (C := C_X4_numberAtHand) (i := 0) dX4_numberAtHand_2 rfl) f_X4_25 dX4_numberAtHand_3) dX4_numberAtHand_6 rfl (Nat.le_of_ble_eq_true rfl))
  bw_X4_numberAtHand_1))
  (sc_iret (C := C_X4_numberAtHand) (p1 := 43) (ec_iload_n (C := C_X4_numberAtHand) (i := 1) dX4_numberAtHand_42 rfl) dX4_numberAtHand_43 rfl)))
theorem s_X4_numberAtHand : MS M_X4_numberAtHand D_X4_numberAtHand := ms_of b_X4_numberAtHand (by decide +kernel) rfl rfl (fun _ => trivial)
/-- SmokeRoofs$Tape.needNumber(I)I -/
abbrev C_X4_needNumber : CX := (cX4_needNumber, RX4, 3, 2, 43, "needNumber", (some .int), fun _ => True)
abbrev M_X4_needNumber : MD := (yX4_needNumber, C_X4_needNumber)
theorem k_X4_needNumber : MOK M_X4_needNumber 1 := ⟨w_55, w_699, by decide +kernel, by decide +kernel, by decide +kernel⟩
theorem t_X4_needNumber : MVT M_X4_needNumber 1 4 := ⟨k_X4_needNumber, w_697, w_698, by decide, _, rfl, rfl⟩
def S_X4_needNumber : SD := (s_seq (s_st Value.int 2 (e_if (e_bin (fun (x y : Int32) => decide (x = y)) (e_gi 4 3 (e_lr 0)) (e_c (2 : Int32))) (e_call prI D_X4_numberAtHand 1 (a_recv 4 (a_snoc Value.ref a_nil (e_lr 0)))) (e_c (-1 : Int32))))
  (s_seq (s_if (b_or (b_or (b_of (e_call prI D_X4_hasFault 1 (a_recv 4 (a_snoc Value.ref a_nil (e_lr 0))))) (e_un (fun (x : Int32) => decide (x < 0)) (e_li 2))) (e_bin (fun (x y : Int32) => decide (y < x)) (e_li 2) (e_li 1))) (s_seq (s_call D_X4_fail 1 (a_recv 4 (a_snoc Value.ref a_nil (e_lr 0))))
  (s_ret Value.int (e_c (0 : Int32)))) s_skip)
  (s_seq (s_call D_X4_next 1 (a_recv 4 (a_snoc Value.ref a_nil (e_lr 0))))
  (s_ret Value.int (e_li 2)))))
def D_X4_needNumber : MDen := m_den 3 S_X4_needNumber
set_option maxRecDepth 100000 in
set_option maxHeartbeats 4000000 in
theorem b_X4_needNumber : SC C_X4_needNumber 0 0 S_X4_needNumber := by
  unfold S_X4_needNumber
  exact (sc_seq (C := C_X4_needNumber) (p1 := 17) (sc_istore_n (C := C_X4_needNumber) (p1 := 16) (i := 2) (ec_if (C := C_X4_needNumber) (pT := 8) (pF := 15) (p1 := 12) (pE := 16) (bc_icmp_ne_F (C := C_X4_needNumber) (p1 := 4) (p2 := 5) (tgt := 15) (ec_gi (C := C_X4_needNumber) (p1 := 1) (ec_aload_n (C := C_X4_needNumber) (i := 0) dX4_needNumber_0 rfl) f_X4_22 dX4_needNumber_1) (ec_iconst (C := C_X4_needNumber) (v := (2 : Int32)) dX4_needNumber_4 rfl) dX4_needNumber_5 rfl) (ec_callV (C := C_X4_needNumber) (m := 1) (p1 := 9) inj_I s_X4_numberAtHand t_X4_numberAtHand ⟨w_700, Nat.le_of_ble_eq_true rfl, Nat.le_of_ble_eq_true rfl⟩ (ac_snoc (C := C_X4_needNumber) (n := 0) (c := 1) (p1 := 8) (ac_nil (C := C_X4_needNumber)) (ec_aload_n (C := C_X4_needNumber) (i := 0) dX4_needNumber_8 rfl) rfl (fun _ => rfl) rfl) (Nat.le_of_ble_eq_true rfl) dX4_needNumber_9) dX4_needNumber_12 rfl (ec_iconst (C := C_X4_needNumber) (v := (-1 : Int32)) dX4_needNumber_15 rfl)) dX4_needNumber_16 rfl (Nat.le_of_ble_eq_true rfl))
  (sc_seq (C := C_X4_needNumber) (p1 := 39) (sc_if (C := C_X4_needNumber) (pT := 33) (pF := 39) (p2 := 39) (bc_or (C := C_X4_needNumber) (p1 := 28) (bc_or (C := C_X4_needNumber) (p1 := 24) (bc_of_T (C := C_X4_needNumber) (p2 := 21) (tgt := 33) (ec_callV (C := C_X4_needNumber) (m := 1) (p1 := 18) inj_I s_X4_hasFault t_X4_hasFault ⟨w_687, Nat.le_of_ble_eq_true rfl, Nat.le_of_ble_eq_true rfl⟩ (ac_snoc (C := C_X4_needNumber) (n := 0) (c := 1) (p1 := 17) (ac_nil (C := C_X4_needNumber)) (ec_aload_n (C := C_X4_needNumber) (i := 0) dX4_needNumber_17 rfl) rfl (fun _ => rfl) rfl) (Nat.le_of_ble_eq_true rfl) dX4_needNumber_18) dX4_needNumber_21 rfl) (bc_if_lt_T (C := C_X4_needNumber) (p2 := 25) (tgt := 33) (ec_iload_n (C := C_X4_needNumber) (i := 2) dX4_needNumber_24 rfl) dX4_needNumber_25 rfl)) (bc_icmp_le_F (C := C_X4_needNumber) (p1 := 29) (p2 := 30) (tgt := 39) (ec_iload_n (C := C_X4_needNumber) (i := 2) dX4_needNumber_28 rfl) (ec_iload_n (C := C_X4_needNumber) (i := 1) dX4_needNumber_29 rfl) dX4_needNumber_30 rfl)) (sc_seq (C := C_X4_needNumber) (p1 := 37) (sc_callV (C := C_X4_needNumber) (m := 1) (p1 := 34) s_X4_fail t_X4_fail ⟨w_707, Nat.le_of_ble_eq_true rfl, Nat.le_of_ble_eq_true rfl⟩ (ac_snoc (C := C_X4_needNumber) (n := 0) (c := 1) (p1 := 33) (ac_nil (C := C_X4_needNumber)) (ec_aload_n (C := C_X4_needNumber) (i := 0) dX4_needNumber_33 rfl) rfl (fun _ => rfl) rfl) dX4_needNumber_34)
  (sc_iret (C := C_X4_needNumber) (p1 := 38) (ec_iconst (C := C_X4_needNumber) (v := (0 : Int32)) dX4_needNumber_37 rfl) dX4_needNumber_38 rfl)) sc_skip)
  (sc_seq (C := C_X4_needNumber) (p1 := 43) (sc_callV (C := C_X4_needNumber) (m := 1) (p1 := 40) s_X4_next t_X4_next ⟨w_605, Nat.le_of_ble_eq_true rfl, Nat.le_of_ble_eq_true rfl⟩ (ac_snoc (C := C_X4_needNumber) (n := 0) (c := 1) (p1 := 39) (ac_nil (C := C_X4_needNumber)) (ec_aload_n (C := C_X4_needNumber) (i := 0) dX4_needNumber_39 rfl) rfl (fun _ => rfl) rfl) dX4_needNumber_40)
  (sc_iret (C := C_X4_needNumber) (p1 := 44) (ec_iload_n (C := C_X4_needNumber) (i := 2) dX4_needNumber_43 rfl) dX4_needNumber_44 rfl))))
theorem s_X4_needNumber : MS M_X4_needNumber D_X4_needNumber := ms_of b_X4_needNumber (by decide +kernel) rfl rfl (fun _ => trivial)
/-- SmokeRoofs$Tape.passWord(Ljava/lang/String;)Z -/
abbrev C_X4_passWord : CX := (cX4_passWord, RX4, 2, 5, 107, "passWord", (some .boolean), fun _ => True)
abbrev M_X4_passWord : MD := (yX4_passWord, C_X4_passWord)
theorem k_X4_passWord : MOK M_X4_passWord 1 := ⟨w_55, w_686, by decide +kernel, by decide +kernel, by decide +kernel⟩
theorem t_X4_passWord : MVT M_X4_passWord 1 4 := ⟨k_X4_passWord, w_684, w_685, by decide, _, rfl, rfl⟩
def S_X4_passWord : SD := (s_seq (s_if (b_or (b_of (e_call prI D_X4_hasFault 1 (a_recv 4 (a_snoc Value.ref a_nil (e_lr 0))))) (b_not (b_of (e_call prI D_X4_isWord 2 (a_recv 4 (a_snoc Value.ref (a_snoc Value.ref a_nil (e_lr 0)) (e_lr 1))))))) (s_retz (e_c (0 : Int32))) s_skip)
  (s_seq (s_call D_X4_next 1 (a_recv 4 (a_snoc Value.ref a_nil (e_lr 0))))
  (s_retz (e_c (1 : Int32)))))
def D_X4_passWord : MDen := m_den 2 S_X4_passWord
set_option maxRecDepth 100000 in
set_option maxHeartbeats 4000000 in
theorem b_X4_passWord : SC C_X4_passWord 0 0 S_X4_passWord := by
  unfold S_X4_passWord
  exact (sc_seq (C := C_X4_passWord) (p1 := 17) (sc_if (C := C_X4_passWord) (pT := 15) (pF := 17) (p2 := 17) (bc_or (C := C_X4_passWord) (p1 := 7) (bc_of_T (C := C_X4_passWord) (p2 := 4) (tgt := 15) (ec_callV (C := C_X4_passWord) (m := 1) (p1 := 1) inj_I s_X4_hasFault t_X4_hasFault ⟨w_687, Nat.le_of_ble_eq_true rfl, Nat.le_of_ble_eq_true rfl⟩ (ac_snoc (C := C_X4_passWord) (n := 0) (c := 1) (p1 := 0) (ac_nil (C := C_X4_passWord)) (ec_aload_n (C := C_X4_passWord) (i := 0) dX4_passWord_0 rfl) rfl (fun _ => rfl) rfl) (Nat.le_of_ble_eq_true rfl) dX4_passWord_1) dX4_passWord_4 rfl) (bc_not (C := C_X4_passWord) (bc_of_T (C := C_X4_passWord) (p2 := 12) (tgt := 17) (ec_callV (C := C_X4_passWord) (m := 2) (p1 := 9) inj_I s_X4_isWord t_X4_isWord ⟨w_691, Nat.le_of_ble_eq_true rfl, Nat.le_of_ble_eq_true rfl⟩ (ac_snoc (C := C_X4_passWord) (n := 1) (c := 1) (p1 := 8) (ac_snoc (C := C_X4_passWord) (n := 0) (c := 1) (p1 := 7) (ac_nil (C := C_X4_passWord)) (ec_aload_n (C := C_X4_passWord) (i := 0) dX4_passWord_7 rfl) rfl (fun _ => rfl) rfl) (ec_aload_n (C := C_X4_passWord) (i := 1) dX4_passWord_8 rfl) rfl (fun _ => rfl) rfl) (Nat.le_of_ble_eq_true rfl) dX4_passWord_9) dX4_passWord_12 rfl))) (sc_zret (C := C_X4_passWord) (p1 := 16) (ec_iconst (C := C_X4_passWord) (v := (0 : Int32)) dX4_passWord_15 rfl) dX4_passWord_16 rfl) sc_skip)
  (sc_seq (C := C_X4_passWord) (p1 := 21) (sc_callV (C := C_X4_passWord) (m := 1) (p1 := 18) s_X4_next t_X4_next ⟨w_605, Nat.le_of_ble_eq_true rfl, Nat.le_of_ble_eq_true rfl⟩ (ac_snoc (C := C_X4_passWord) (n := 0) (c := 1) (p1 := 17) (ac_nil (C := C_X4_passWord)) (ec_aload_n (C := C_X4_passWord) (i := 0) dX4_passWord_17 rfl) rfl (fun _ => rfl) rfl) dX4_passWord_18)
  (sc_zret (C := C_X4_passWord) (p1 := 22) (ec_iconst (C := C_X4_passWord) (v := (1 : Int32)) dX4_passWord_21 rfl) dX4_passWord_22 rfl)))
theorem s_X4_passWord : MS M_X4_passWord D_X4_passWord := ms_of b_X4_passWord (by decide +kernel) rfl rfl (fun _ => trivial)
/-- SmokeRoofs$Tape.needWord(Ljava/lang/String;)V -/
abbrev C_X4_needWord : CX := (cX4_needWord, RX4, 2, 6, 128, "needWord", none, fun _ => True)
abbrev M_X4_needWord : MD := (yX4_needWord, C_X4_needWord)
theorem k_X4_needWord : MOK M_X4_needWord 1 := ⟨w_55, w_715, by decide +kernel, by decide +kernel, by decide +kernel⟩
theorem t_X4_needWord : MVT M_X4_needWord 1 4 := ⟨k_X4_needWord, w_713, w_714, by decide, _, rfl, rfl⟩
def S_X4_needWord : SD := (s_seq (s_if (b_not (b_of (e_call prI D_X4_passWord 2 (a_recv 4 (a_snoc Value.ref (a_snoc Value.ref a_nil (e_lr 0)) (e_lr 1)))))) (s_call D_X4_fail 1 (a_recv 4 (a_snoc Value.ref a_nil (e_lr 0)))) s_skip)
  s_retv)
def D_X4_needWord : MDen := m_den 2 S_X4_needWord
set_option maxRecDepth 100000 in
set_option maxHeartbeats 4000000 in
theorem b_X4_needWord : SC C_X4_needWord 0 0 S_X4_needWord := by
  unfold S_X4_needWord
  exact (sc_seq (C := C_X4_needWord) (p1 := 12) (sc_if (C := C_X4_needWord) (pT := 8) (pF := 12) (p2 := 12) (bc_not (C := C_X4_needWord) (bc_of_T (C := C_X4_needWord) (p2 := 5) (tgt := 12) (ec_callV (C := C_X4_needWord) (m := 2) (p1 := 2) inj_I s_X4_passWord t_X4_passWord ⟨w_716, Nat.le_of_ble_eq_true rfl, Nat.le_of_ble_eq_true rfl⟩ (ac_snoc (C := C_X4_needWord) (n := 1) (c := 1) (p1 := 1) (ac_snoc (C := C_X4_needWord) (n := 0) (c := 1) (p1 := 0) (ac_nil (C := C_X4_needWord)) (ec_aload_n (C := C_X4_needWord) (i := 0) dX4_needWord_0 rfl) rfl (fun _ => rfl) rfl) (ec_aload_n (C := C_X4_needWord) (i := 1) dX4_needWord_1 rfl) rfl (fun _ => rfl) rfl) (Nat.le_of_ble_eq_true rfl) dX4_needWord_2) dX4_needWord_5 rfl)) (sc_callV (C := C_X4_needWord) (m := 1) (p1 := 9) s_X4_fail t_X4_fail ⟨w_707, Nat.le_of_ble_eq_true rfl, Nat.le_of_ble_eq_true rfl⟩ (ac_snoc (C := C_X4_needWord) (n := 0) (c := 1) (p1 := 8) (ac_nil (C := C_X4_needWord)) (ec_aload_n (C := C_X4_needWord) (i := 0) dX4_needWord_8 rfl) rfl (fun _ => rfl) rfl) dX4_needWord_9) sc_skip)
  (sc_vret (C := C_X4_needWord) dX4_needWord_12 rfl))
theorem s_X4_needWord : MS M_X4_needWord D_X4_needWord := ms_of b_X4_needWord (by decide +kernel) rfl rfl (fun _ => trivial)
/-- SmokeRoofs$Reader.readChimney(LSmokeRoofs$Town;I)V -/
abbrev C_X1_readChimney : CX := (cX1_readChimney, RX1, 10, 7, 149, "readChimney", none, fun _ => True)
abbrev M_X1_readChimney : MD := (yX1_readChimney, C_X1_readChimney)
theorem k_X1_readChimney : MOK M_X1_readChimney 2 := ⟨w_54, w_727, by decide +kernel, by decide +kernel, by decide +kernel⟩
theorem t_X1_readChimney : MVT M_X1_readChimney 2 1 := ⟨k_X1_readChimney, w_725, w_726, by decide, _, rfl, rfl⟩
def S_X1_readChimney : SD := (s_seq (s_seq (s_call D_X4_needWord 2 (a_recv 4 (a_snoc Value.ref (a_snoc Value.ref a_nil (e_gr 1 0 (e_lr 0))) (e_c (SPB + 100 + 2)))))
  (s_seq (s_st Value.int 3 (e_call prI D_X4_needNumber 2 (a_recv 4 (a_snoc Value.int (a_snoc Value.ref a_nil (e_gr 1 0 (e_lr 0))) (e_c (5 : Int32))))))
  (s_seq (s_call D_X4_needWord 2 (a_recv 4 (a_snoc Value.ref (a_snoc Value.ref a_nil (e_gr 1 0 (e_lr 0))) (e_c (SPB + 100 + 3)))))
  (s_seq (s_st Value.int 4 (e_call prI D_X4_needNumber 2 (a_recv 4 (a_snoc Value.int (a_snoc Value.ref a_nil (e_gr 1 0 (e_lr 0))) (e_c (35 : Int32))))))
  (s_seq (s_st Value.int 5 (e_if (b_of (e_call prI D_X4_passWord 2 (a_recv 4 (a_snoc Value.ref (a_snoc Value.ref a_nil (e_gr 1 0 (e_lr 0))) (e_c (SPB + 100 + 4)))))) (e_call prI D_X4_needNumber 2 (a_recv 4 (a_snoc Value.int (a_snoc Value.ref a_nil (e_gr 1 0 (e_lr 0))) (e_ai (e_c (SPB + 0)) (e_c (3 : Int32)))))) (e_c (-1 : Int32))))
  (s_seq (s_st Value.int 6 (e_if (b_of (e_call prI D_X4_passWord 2 (a_recv 4 (a_snoc Value.ref (a_snoc Value.ref a_nil (e_gr 1 0 (e_lr 0))) (e_c (SPB + 100 + 5)))))) (e_call prI D_X4_needNumber 2 (a_recv 4 (a_snoc Value.int (a_snoc Value.ref a_nil (e_gr 1 0 (e_lr 0))) (e_ai (e_c (SPB + 0)) (e_c (4 : Int32)))))) (e_c (-1 : Int32))))
  (s_seq (s_st Value.int 7 (e_c (-1 : Int32)))
  (s_seq (s_st Value.int 8 (e_c (-1 : Int32)))
  (s_seq (s_if (b_of (e_call prI D_X4_passWord 2 (a_recv 4 (a_snoc Value.ref (a_snoc Value.ref a_nil (e_gr 1 0 (e_lr 0))) (e_c (SPB + 100 + 6)))))) (s_seq (s_st Value.int 7 (e_call prI D_X4_needNumber 2 (a_recv 4 (a_snoc Value.int (a_snoc Value.ref a_nil (e_gr 1 0 (e_lr 0))) (e_ai (e_c (SPB + 0)) (e_c (5 : Int32)))))))
  (s_seq (s_call D_X4_needWord 2 (a_recv 4 (a_snoc Value.ref (a_snoc Value.ref a_nil (e_gr 1 0 (e_lr 0))) (e_c (SPB + 100 + 7)))))
  (s_st Value.int 8 (e_call prI D_X4_needNumber 2 (a_recv 4 (a_snoc Value.int (a_snoc Value.ref a_nil (e_gr 1 0 (e_lr 0))) (e_ai (e_c (SPB + 0)) (e_c (6 : Int32))))))))) s_skip)
  (s_seq (s_fop (fun (x y : Int32) => x + y) 1 2 (e_lr 0) (e_c (1 : Int32)))
  (s_if (b_and (b_of (e_gi 1 1 (e_lr 0))) (b_not (b_of (e_call prI D_X5_isFull 1 (a_recv 5 (a_snoc Value.ref a_nil (e_lr 1))))))) (s_sc 9 (s_seq (s_st Value.ref 9 (e_gr 0 0 (e_ar 0 (e_gr 5 7 (e_lr 1)) (e_call prI D_X5_raise 4 (a_recv 5 (a_snoc Value.int (a_snoc Value.int (a_snoc Value.int (a_snoc Value.ref a_nil (e_lr 1)) (e_li 2)) (e_li 3)) (e_li 4)))))))
  (s_seq (s_as (e_lr 9) (e_c (3 : Int32)) (e_if (e_un (fun (x : Int32) => decide (x < 0)) (e_li 5)) (e_ai (e_lr 9) (e_c (3 : Int32))) (e_li 5)))
  (s_seq (s_as (e_lr 9) (e_c (4 : Int32)) (e_if (e_un (fun (x : Int32) => decide (x < 0)) (e_li 6)) (e_ai (e_lr 9) (e_c (4 : Int32))) (e_li 6)))
  (s_seq (s_as (e_lr 9) (e_c (5 : Int32)) (e_if (e_un (fun (x : Int32) => decide (x < 0)) (e_li 7)) (e_ai (e_lr 9) (e_c (5 : Int32))) (e_li 7)))
  (s_as (e_lr 9) (e_c (6 : Int32)) (e_if (e_un (fun (x : Int32) => decide (x < 0)) (e_li 8)) (e_ai (e_lr 9) (e_c (6 : Int32))) (e_li 8)))))))) s_skip)))))))))))
  s_retv)
def D_X1_readChimney : MDen := m_den 10 S_X1_readChimney
set_option maxRecDepth 100000 in
set_option maxHeartbeats 4000000 in
theorem b_X1_readChimney : SC C_X1_readChimney 0 0 S_X1_readChimney := by
  unfold S_X1_readChimney
  exact (sc_seq (C := C_X1_readChimney) (p1 := 270) (sc_seq (C := C_X1_readChimney) (p1 := 9) (sc_callV (C := C_X1_readChimney) (m := 2) (p1 := 6) s_X4_needWord t_X4_needWord ⟨w_712, Nat.le_of_ble_eq_true rfl, Nat.le_of_ble_eq_true rfl⟩ (ac_snoc (C := C_X1_readChimney) (n := 1) (c := 1) (p1 := 4) (ac_snoc (C := C_X1_readChimney) (n := 0) (c := 1) (p1 := 0) (ac_nil (C := C_X1_readChimney)) (ec_gr (C := C_X1_readChimney) (p1 := 1) (ec_aload_n (C := C_X1_readChimney) (i := 0) dX1_readChimney_0 rfl) f_X1_12 dX1_readChimney_1) rfl (fun _ => rfl) rfl) (ec_str (C := C_X1_readChimney) (i := 2) (q := str_tab[2]) rfl rfl dX1_readChimney_4) rfl (fun _ => rfl) rfl) dX1_readChimney_6)
  (sc_seq (C := C_X1_readChimney) (p1 := 18) (sc_istore_n (C := C_X1_readChimney) (p1 := 17) (i := 3) (ec_callV (C := C_X1_readChimney) (m := 2) (p1 := 14) inj_I s_X4_needNumber t_X4_needNumber ⟨w_696, Nat.le_of_ble_eq_true rfl, Nat.le_of_ble_eq_true rfl⟩ (ac_snoc (C := C_X1_readChimney) (n := 1) (c := 1) (p1 := 13) (ac_snoc (C := C_X1_readChimney) (n := 0) (c := 1) (p1 := 9) (ac_nil (C := C_X1_readChimney)) (ec_gr (C := C_X1_readChimney) (p1 := 10) (ec_aload_n (C := C_X1_readChimney) (i := 0) dX1_readChimney_9 rfl) f_X1_12 dX1_readChimney_10) rfl (fun _ => rfl) rfl) (ec_iconst (C := C_X1_readChimney) (v := (5 : Int32)) dX1_readChimney_13 rfl) rfl (fun _ => rfl) rfl) (Nat.le_of_ble_eq_true rfl) dX1_readChimney_14) dX1_readChimney_17 rfl (Nat.le_of_ble_eq_true rfl))
  (sc_seq (C := C_X1_readChimney) (p1 := 27) (sc_callV (C := C_X1_readChimney) (m := 2) (p1 := 24) s_X4_needWord t_X4_needWord ⟨w_712, Nat.le_of_ble_eq_true rfl, Nat.le_of_ble_eq_true rfl⟩ (ac_snoc (C := C_X1_readChimney) (n := 1) (c := 1) (p1 := 22) (ac_snoc (C := C_X1_readChimney) (n := 0) (c := 1) (p1 := 18) (ac_nil (C := C_X1_readChimney)) (ec_gr (C := C_X1_readChimney) (p1 := 19) (ec_aload_n (C := C_X1_readChimney) (i := 0) dX1_readChimney_18 rfl) f_X1_12 dX1_readChimney_19) rfl (fun _ => rfl) rfl) (ec_str (C := C_X1_readChimney) (i := 3) (q := str_tab[3]) rfl rfl dX1_readChimney_22) rfl (fun _ => rfl) rfl) dX1_readChimney_24)
  (sc_seq (C := C_X1_readChimney) (p1 := 38) (sc_istore (C := C_X1_readChimney) (p1 := 36) (ec_callV (C := C_X1_readChimney) (m := 2) (p1 := 33) inj_I s_X4_needNumber t_X4_needNumber ⟨w_696, Nat.le_of_ble_eq_true rfl, Nat.le_of_ble_eq_true rfl⟩ (ac_snoc (C := C_X1_readChimney) (n := 1) (c := 1) (p1 := 31) (ac_snoc (C := C_X1_readChimney) (n := 0) (c := 1) (p1 := 27) (ac_nil (C := C_X1_readChimney)) (ec_gr (C := C_X1_readChimney) (p1 := 28) (ec_aload_n (C := C_X1_readChimney) (i := 0) dX1_readChimney_27 rfl) f_X1_12 dX1_readChimney_28) rfl (fun _ => rfl) rfl) (ec_bipush (C := C_X1_readChimney) (v := (35 : Int32)) dX1_readChimney_31 rfl) rfl (fun _ => rfl) rfl) (Nat.le_of_ble_eq_true rfl) dX1_readChimney_33) dX1_readChimney_36 (Nat.le_of_ble_eq_true rfl))
  (sc_seq (C := C_X1_readChimney) (p1 := 68) (sc_istore (C := C_X1_readChimney) (p1 := 66) (ec_if (C := C_X1_readChimney) (pT := 50) (pF := 65) (p1 := 62) (pE := 66) (bc_of_F (C := C_X1_readChimney) (p2 := 47) (tgt := 65) (ec_callV (C := C_X1_readChimney) (m := 2) (p1 := 44) inj_I s_X4_passWord t_X4_passWord ⟨w_683, Nat.le_of_ble_eq_true rfl, Nat.le_of_ble_eq_true rfl⟩ (ac_snoc (C := C_X1_readChimney) (n := 1) (c := 1) (p1 := 42) (ac_snoc (C := C_X1_readChimney) (n := 0) (c := 1) (p1 := 38) (ac_nil (C := C_X1_readChimney)) (ec_gr (C := C_X1_readChimney) (p1 := 39) (ec_aload_n (C := C_X1_readChimney) (i := 0) dX1_readChimney_38 rfl) f_X1_12 dX1_readChimney_39) rfl (fun _ => rfl) rfl) (ec_str (C := C_X1_readChimney) (i := 4) (q := str_tab[4]) rfl rfl dX1_readChimney_42) rfl (fun _ => rfl) rfl) (Nat.le_of_ble_eq_true rfl) dX1_readChimney_44) dX1_readChimney_47 rfl) (ec_callV (C := C_X1_readChimney) (m := 2) (p1 := 59) inj_I s_X4_needNumber t_X4_needNumber ⟨w_696, Nat.le_of_ble_eq_true rfl, Nat.le_of_ble_eq_true rfl⟩ (ac_snoc (C := C_X1_readChimney) (n := 1) (c := 1) (p1 := 54) (ac_snoc (C := C_X1_readChimney) (n := 0) (c := 1) (p1 := 50) (ac_nil (C := C_X1_readChimney)) (ec_gr (C := C_X1_readChimney) (p1 := 51) (ec_aload_n (C := C_X1_readChimney) (i := 0) dX1_readChimney_50 rfl) f_X1_12 dX1_readChimney_51) rfl (fun _ => rfl) rfl) (ec_ai (C := C_X1_readChimney) (p1 := 57) (p2 := 58) (ec_stN (C := C_X1_readChimney) (i := 0) (q := st_tab[0]) rfl (by decide +kernel) dX1_readChimney_54) (ec_iconst (C := C_X1_readChimney) (v := (3 : Int32)) dX1_readChimney_57 rfl) dX1_readChimney_58) rfl (fun _ => rfl) rfl) (Nat.le_of_ble_eq_true rfl) dX1_readChimney_59) dX1_readChimney_62 rfl (ec_iconst (C := C_X1_readChimney) (v := (-1 : Int32)) dX1_readChimney_65 rfl)) dX1_readChimney_66 (Nat.le_of_ble_eq_true rfl))
  (sc_seq (C := C_X1_readChimney) (p1 := 98) (sc_istore (C := C_X1_readChimney) (p1 := 96) (ec_if (C := C_X1_readChimney) (pT := 80) (pF := 95) (p1 := 92) (pE := 96) (bc_of_F (C := C_X1_readChimney) (p2 := 77) (tgt := 95) (ec_callV (C := C_X1_readChimney) (m := 2) (p1 := 74) inj_I s_X4_passWord t_X4_passWord ⟨w_683, Nat.le_of_ble_eq_true rfl, Nat.le_of_ble_eq_true rfl⟩ (ac_snoc (C := C_X1_readChimney) (n := 1) (c := 1) (p1 := 72) (ac_snoc (C := C_X1_readChimney) (n := 0) (c := 1) (p1 := 68) (ac_nil (C := C_X1_readChimney)) (ec_gr (C := C_X1_readChimney) (p1 := 69) (ec_aload_n (C := C_X1_readChimney) (i := 0) dX1_readChimney_68 rfl) f_X1_12 dX1_readChimney_69) rfl (fun _ => rfl) rfl) (ec_str (C := C_X1_readChimney) (i := 5) (q := str_tab[5]) rfl rfl dX1_readChimney_72) rfl (fun _ => rfl) rfl) (Nat.le_of_ble_eq_true rfl) dX1_readChimney_74) dX1_readChimney_77 rfl) (ec_callV (C := C_X1_readChimney) (m := 2) (p1 := 89) inj_I s_X4_needNumber t_X4_needNumber ⟨w_696, Nat.le_of_ble_eq_true rfl, Nat.le_of_ble_eq_true rfl⟩ (ac_snoc (C := C_X1_readChimney) (n := 1) (c := 1) (p1 := 84) (ac_snoc (C := C_X1_readChimney) (n := 0) (c := 1) (p1 := 80) (ac_nil (C := C_X1_readChimney)) (ec_gr (C := C_X1_readChimney) (p1 := 81) (ec_aload_n (C := C_X1_readChimney) (i := 0) dX1_readChimney_80 rfl) f_X1_12 dX1_readChimney_81) rfl (fun _ => rfl) rfl) (ec_ai (C := C_X1_readChimney) (p1 := 87) (p2 := 88) (ec_stN (C := C_X1_readChimney) (i := 0) (q := st_tab[0]) rfl (by decide +kernel) dX1_readChimney_84) (ec_iconst (C := C_X1_readChimney) (v := (4 : Int32)) dX1_readChimney_87 rfl) dX1_readChimney_88) rfl (fun _ => rfl) rfl) (Nat.le_of_ble_eq_true rfl) dX1_readChimney_89) dX1_readChimney_92 rfl (ec_iconst (C := C_X1_readChimney) (v := (-1 : Int32)) dX1_readChimney_95 rfl)) dX1_readChimney_96 (Nat.le_of_ble_eq_true rfl))
  (sc_seq (C := C_X1_readChimney) (p1 := 101) (sc_istore (C := C_X1_readChimney) (p1 := 99) (ec_iconst (C := C_X1_readChimney) (v := (-1 : Int32)) dX1_readChimney_98 rfl) dX1_readChimney_99 (Nat.le_of_ble_eq_true rfl))
  (sc_seq (C := C_X1_readChimney) (p1 := 104) (sc_istore (C := C_X1_readChimney) (p1 := 102) (ec_iconst (C := C_X1_readChimney) (v := (-1 : Int32)) dX1_readChimney_101 rfl) dX1_readChimney_102 (Nat.le_of_ble_eq_true rfl))
  (sc_seq (C := C_X1_readChimney) (p1 := 154) (sc_if (C := C_X1_readChimney) (pT := 116) (pF := 154) (p2 := 154) (bc_of_F (C := C_X1_readChimney) (p2 := 113) (tgt := 154) (ec_callV (C := C_X1_readChimney) (m := 2) (p1 := 110) inj_I s_X4_passWord t_X4_passWord ⟨w_683, Nat.le_of_ble_eq_true rfl, Nat.le_of_ble_eq_true rfl⟩ (ac_snoc (C := C_X1_readChimney) (n := 1) (c := 1) (p1 := 108) (ac_snoc (C := C_X1_readChimney) (n := 0) (c := 1) (p1 := 104) (ac_nil (C := C_X1_readChimney)) (ec_gr (C := C_X1_readChimney) (p1 := 105) (ec_aload_n (C := C_X1_readChimney) (i := 0) dX1_readChimney_104 rfl) f_X1_12 dX1_readChimney_105) rfl (fun _ => rfl) rfl) (ec_str (C := C_X1_readChimney) (i := 6) (q := str_tab[6]) rfl rfl dX1_readChimney_108) rfl (fun _ => rfl) rfl) (Nat.le_of_ble_eq_true rfl) dX1_readChimney_110) dX1_readChimney_113 rfl) (sc_seq (C := C_X1_readChimney) (p1 := 130) (sc_istore (C := C_X1_readChimney) (p1 := 128) (ec_callV (C := C_X1_readChimney) (m := 2) (p1 := 125) inj_I s_X4_needNumber t_X4_needNumber ⟨w_696, Nat.le_of_ble_eq_true rfl, Nat.le_of_ble_eq_true rfl⟩ (ac_snoc (C := C_X1_readChimney) (n := 1) (c := 1) (p1 := 120) (ac_snoc (C := C_X1_readChimney) (n := 0) (c := 1) (p1 := 116) (ac_nil (C := C_X1_readChimney)) (ec_gr (C := C_X1_readChimney) (p1 := 117) (ec_aload_n (C := C_X1_readChimney) (i := 0) dX1_readChimney_116 rfl) f_X1_12 dX1_readChimney_117) rfl (fun _ => rfl) rfl) (ec_ai (C := C_X1_readChimney) (p1 := 123) (p2 := 124) (ec_stN (C := C_X1_readChimney) (i := 0) (q := st_tab[0]) rfl (by decide +kernel) dX1_readChimney_120) (ec_iconst (C := C_X1_readChimney) (v := (5 : Int32)) dX1_readChimney_123 rfl) dX1_readChimney_124) rfl (fun _ => rfl) rfl) (Nat.le_of_ble_eq_true rfl) dX1_readChimney_125) dX1_readChimney_128 (Nat.le_of_ble_eq_true rfl))
  (sc_seq (C := C_X1_readChimney) (p1 := 139) (sc_callV (C := C_X1_readChimney) (m := 2) (p1 := 136) s_X4_needWord t_X4_needWord ⟨w_712, Nat.le_of_ble_eq_true rfl, Nat.le_of_ble_eq_true rfl⟩ (ac_snoc (C := C_X1_readChimney) (n := 1) (c := 1) (p1 := 134) (ac_snoc (C := C_X1_readChimney) (n := 0) (c := 1) (p1 := 130) (ac_nil (C := C_X1_readChimney)) (ec_gr (C := C_X1_readChimney) (p1 := 131) (ec_aload_n (C := C_X1_readChimney) (i := 0) dX1_readChimney_130 rfl) f_X1_12 dX1_readChimney_131) rfl (fun _ => rfl) rfl) (ec_str (C := C_X1_readChimney) (i := 7) (q := str_tab[7]) rfl rfl dX1_readChimney_134) rfl (fun _ => rfl) rfl) dX1_readChimney_136)
  (sc_istore (C := C_X1_readChimney) (p1 := 152) (ec_callV (C := C_X1_readChimney) (m := 2) (p1 := 149) inj_I s_X4_needNumber t_X4_needNumber ⟨w_696, Nat.le_of_ble_eq_true rfl, Nat.le_of_ble_eq_true rfl⟩ (ac_snoc (C := C_X1_readChimney) (n := 1) (c := 1) (p1 := 143) (ac_snoc (C := C_X1_readChimney) (n := 0) (c := 1) (p1 := 139) (ac_nil (C := C_X1_readChimney)) (ec_gr (C := C_X1_readChimney) (p1 := 140) (ec_aload_n (C := C_X1_readChimney) (i := 0) dX1_readChimney_139 rfl) f_X1_12 dX1_readChimney_140) rfl (fun _ => rfl) rfl) (ec_ai (C := C_X1_readChimney) (p1 := 146) (p2 := 148) (ec_stN (C := C_X1_readChimney) (i := 0) (q := st_tab[0]) rfl (by decide +kernel) dX1_readChimney_143) (ec_bipush (C := C_X1_readChimney) (v := (6 : Int32)) dX1_readChimney_146 rfl) dX1_readChimney_148) rfl (fun _ => rfl) rfl) (Nat.le_of_ble_eq_true rfl) dX1_readChimney_149) dX1_readChimney_152 (Nat.le_of_ble_eq_true rfl)))) sc_skip)
  (sc_seq (C := C_X1_readChimney) (p1 := 164) (sc_fop_iadd (C := C_X1_readChimney) (p1 := 155) (p3 := 160) (ec_aload_n (C := C_X1_readChimney) (i := 0) dX1_readChimney_154 rfl) dX1_readChimney_155 f_X1_22 dX1_readChimney_156 (ec_iconst (C := C_X1_readChimney) (v := (1 : Int32)) dX1_readChimney_159 rfl) dX1_readChimney_160 dX1_readChimney_161)
  (sc_if (C := C_X1_readChimney) (pT := 178) (pF := 270) (p2 := 270) (bc_and (C := C_X1_readChimney) (p1 := 171) (bc_of_F (C := C_X1_readChimney) (p2 := 168) (tgt := 270) (ec_gi (C := C_X1_readChimney) (p1 := 165) (ec_aload_n (C := C_X1_readChimney) (i := 0) dX1_readChimney_164 rfl) f_X1_18 dX1_readChimney_165) dX1_readChimney_168 rfl) (bc_not (C := C_X1_readChimney) (bc_of_T (C := C_X1_readChimney) (p2 := 175) (tgt := 270) (ec_callV (C := C_X1_readChimney) (m := 1) (p1 := 172) inj_I s_X5_isFull t_X5_isFull ⟨w_734, Nat.le_of_ble_eq_true rfl, Nat.le_of_ble_eq_true rfl⟩ (ac_snoc (C := C_X1_readChimney) (n := 0) (c := 1) (p1 := 171) (ac_nil (C := C_X1_readChimney)) (ec_aload_n (C := C_X1_readChimney) (i := 1) dX1_readChimney_171 rfl) rfl (fun _ => rfl) rfl) (Nat.le_of_ble_eq_true rfl) dX1_readChimney_172) dX1_readChimney_175 rfl))) (sc_sc (C := C_X1_readChimney) (sc_seq (C := C_X1_readChimney) (p1 := 196) (sc_astore (C := C_X1_readChimney) (p1 := 194) (ec_gr (C := C_X1_readChimney) (p1 := 191) (ec_ar (C := C_X1_readChimney) (p1 := 182) (p2 := 190) (Nat.le_of_ble_eq_true rfl) (ec_gr (C := C_X1_readChimney) (p1 := 179) (ec_aload_n (C := C_X1_readChimney) (i := 1) dX1_readChimney_178 rfl) f_X1_109 dX1_readChimney_179) (ec_callV (C := C_X1_readChimney) (m := 4) (p1 := 187) inj_I s_X5_raise t_X5_raise ⟨w_735, Nat.le_of_ble_eq_true rfl, Nat.le_of_ble_eq_true rfl⟩ (ac_snoc (C := C_X1_readChimney) (n := 3) (c := 1) (p1 := 185) (ac_snoc (C := C_X1_readChimney) (n := 2) (c := 1) (p1 := 184) (ac_snoc (C := C_X1_readChimney) (n := 1) (c := 1) (p1 := 183) (ac_snoc (C := C_X1_readChimney) (n := 0) (c := 1) (p1 := 182) (ac_nil (C := C_X1_readChimney)) (ec_aload_n (C := C_X1_readChimney) (i := 1) dX1_readChimney_182 rfl) rfl (fun _ => rfl) rfl) (ec_iload_n (C := C_X1_readChimney) (i := 2) dX1_readChimney_183 rfl) rfl (fun _ => rfl) rfl) (ec_iload_n (C := C_X1_readChimney) (i := 3) dX1_readChimney_184 rfl) rfl (fun _ => rfl) rfl) (ec_iload (C := C_X1_readChimney) dX1_readChimney_185) rfl (fun _ => rfl) rfl) (Nat.le_of_ble_eq_true rfl) dX1_readChimney_187) dX1_readChimney_190) f_X1_117 dX1_readChimney_191) dX1_readChimney_194 (Nat.le_of_ble_eq_true rfl))
  (sc_seq (C := C_X1_readChimney) (p1 := 214) (sc_as (C := C_X1_readChimney) (p1 := 198) (p2 := 199) (p3 := 213) (ec_aload (C := C_X1_readChimney) dX1_readChimney_196) (ec_iconst (C := C_X1_readChimney) (v := (3 : Int32)) dX1_readChimney_198 rfl) (ec_if (C := C_X1_readChimney) (pT := 204) (pF := 211) (p1 := 208) (pE := 213) (bc_if_ge_F (C := C_X1_readChimney) (p2 := 201) (tgt := 211) (ec_iload (C := C_X1_readChimney) dX1_readChimney_199) dX1_readChimney_201 rfl) (ec_ai (C := C_X1_readChimney) (p1 := 206) (p2 := 207) (ec_aload (C := C_X1_readChimney) dX1_readChimney_204) (ec_iconst (C := C_X1_readChimney) (v := (3 : Int32)) dX1_readChimney_206 rfl) dX1_readChimney_207) dX1_readChimney_208 rfl (ec_iload (C := C_X1_readChimney) dX1_readChimney_211)) dX1_readChimney_213)
  (sc_seq (C := C_X1_readChimney) (p1 := 232) (sc_as (C := C_X1_readChimney) (p1 := 216) (p2 := 217) (p3 := 231) (ec_aload (C := C_X1_readChimney) dX1_readChimney_214) (ec_iconst (C := C_X1_readChimney) (v := (4 : Int32)) dX1_readChimney_216 rfl) (ec_if (C := C_X1_readChimney) (pT := 222) (pF := 229) (p1 := 226) (pE := 231) (bc_if_ge_F (C := C_X1_readChimney) (p2 := 219) (tgt := 229) (ec_iload (C := C_X1_readChimney) dX1_readChimney_217) dX1_readChimney_219 rfl) (ec_ai (C := C_X1_readChimney) (p1 := 224) (p2 := 225) (ec_aload (C := C_X1_readChimney) dX1_readChimney_222) (ec_iconst (C := C_X1_readChimney) (v := (4 : Int32)) dX1_readChimney_224 rfl) dX1_readChimney_225) dX1_readChimney_226 rfl (ec_iload (C := C_X1_readChimney) dX1_readChimney_229)) dX1_readChimney_231)
  (sc_seq (C := C_X1_readChimney) (p1 := 250) (sc_as (C := C_X1_readChimney) (p1 := 234) (p2 := 235) (p3 := 249) (ec_aload (C := C_X1_readChimney) dX1_readChimney_232) (ec_iconst (C := C_X1_readChimney) (v := (5 : Int32)) dX1_readChimney_234 rfl) (ec_if (C := C_X1_readChimney) (pT := 240) (pF := 247) (p1 := 244) (pE := 249) (bc_if_ge_F (C := C_X1_readChimney) (p2 := 237) (tgt := 247) (ec_iload (C := C_X1_readChimney) dX1_readChimney_235) dX1_readChimney_237 rfl) (ec_ai (C := C_X1_readChimney) (p1 := 242) (p2 := 243) (ec_aload (C := C_X1_readChimney) dX1_readChimney_240) (ec_iconst (C := C_X1_readChimney) (v := (5 : Int32)) dX1_readChimney_242 rfl) dX1_readChimney_243) dX1_readChimney_244 rfl (ec_iload (C := C_X1_readChimney) dX1_readChimney_247)) dX1_readChimney_249)
  (sc_as (C := C_X1_readChimney) (p1 := 252) (p2 := 254) (p3 := 269) (ec_aload (C := C_X1_readChimney) dX1_readChimney_250) (ec_bipush (C := C_X1_readChimney) (v := (6 : Int32)) dX1_readChimney_252 rfl) (ec_if (C := C_X1_readChimney) (pT := 259) (pF := 267) (p1 := 264) (pE := 269) (bc_if_ge_F (C := C_X1_readChimney) (p2 := 256) (tgt := 267) (ec_iload (C := C_X1_readChimney) dX1_readChimney_254) dX1_readChimney_256 rfl) (ec_ai (C := C_X1_readChimney) (p1 := 261) (p2 := 263) (ec_aload (C := C_X1_readChimney) dX1_readChimney_259) (ec_bipush (C := C_X1_readChimney) (v := (6 : Int32)) dX1_readChimney_261 rfl) dX1_readChimney_263) dX1_readChimney_264 rfl (ec_iload (C := C_X1_readChimney) dX1_readChimney_267)) dX1_readChimney_269)))))) sc_skip)))))))))))
  (sc_vret (C := C_X1_readChimney) dX1_readChimney_270 rfl))
theorem s_X1_readChimney : MS M_X1_readChimney D_X1_readChimney := ms_of b_X1_readChimney (by decide +kernel) rfl rfl (fun _ => trivial)
/-- SmokeRoofs$Reader.readRoof(LSmokeRoofs$Town;)V -/
abbrev C_X1_readRoof : CX := (cX1_readRoof, RX1, 4, 7, 149, "readRoof", none, fun _ => True)
abbrev M_X1_readRoof : MD := (yX1_readRoof, C_X1_readRoof)
theorem k_X1_readRoof : MOK M_X1_readRoof 1 := ⟨w_54, w_695, by decide +kernel, by decide +kernel, by decide +kernel⟩
theorem t_X1_readRoof : MVT M_X1_readRoof 1 1 := ⟨k_X1_readRoof, w_693, w_694, by decide, _, rfl, rfl⟩
def S_X1_readRoof : SD := (s_seq (s_seq (s_st Value.int 2 (e_call prI D_X4_needNumber 2 (a_recv 4 (a_snoc Value.int (a_snoc Value.ref a_nil (e_gr 1 0 (e_lr 0))) (e_c (35 : Int32))))))
  (s_seq (s_call D_X4_needWord 2 (a_recv 4 (a_snoc Value.ref (a_snoc Value.ref a_nil (e_gr 1 0 (e_lr 0))) (e_c (SPB + 100 + 2)))))
  (s_seq (s_st Value.int 3 (e_call prI D_X4_needNumber 2 (a_recv 4 (a_snoc Value.int (a_snoc Value.ref a_nil (e_gr 1 0 (e_lr 0))) (e_c (5 : Int32))))))
  (s_if (b_of (e_gi 1 1 (e_lr 0))) (s_as (e_gr 5 3 (e_lr 1)) (e_li 2) (e_li 3)) s_skip))))
  s_retv)
def D_X1_readRoof : MDen := m_den 4 S_X1_readRoof
set_option maxRecDepth 100000 in
set_option maxHeartbeats 4000000 in
theorem b_X1_readRoof : SC C_X1_readRoof 0 0 S_X1_readRoof := by
  unfold S_X1_readRoof
  exact (sc_seq (C := C_X1_readRoof) (p1 := 42) (sc_seq (C := C_X1_readRoof) (p1 := 10) (sc_istore_n (C := C_X1_readRoof) (p1 := 9) (i := 2) (ec_callV (C := C_X1_readRoof) (m := 2) (p1 := 6) inj_I s_X4_needNumber t_X4_needNumber ⟨w_696, Nat.le_of_ble_eq_true rfl, Nat.le_of_ble_eq_true rfl⟩ (ac_snoc (C := C_X1_readRoof) (n := 1) (c := 1) (p1 := 4) (ac_snoc (C := C_X1_readRoof) (n := 0) (c := 1) (p1 := 0) (ac_nil (C := C_X1_readRoof)) (ec_gr (C := C_X1_readRoof) (p1 := 1) (ec_aload_n (C := C_X1_readRoof) (i := 0) dX1_readRoof_0 rfl) f_X1_12 dX1_readRoof_1) rfl (fun _ => rfl) rfl) (ec_bipush (C := C_X1_readRoof) (v := (35 : Int32)) dX1_readRoof_4 rfl) rfl (fun _ => rfl) rfl) (Nat.le_of_ble_eq_true rfl) dX1_readRoof_6) dX1_readRoof_9 rfl (Nat.le_of_ble_eq_true rfl))
  (sc_seq (C := C_X1_readRoof) (p1 := 19) (sc_callV (C := C_X1_readRoof) (m := 2) (p1 := 16) s_X4_needWord t_X4_needWord ⟨w_712, Nat.le_of_ble_eq_true rfl, Nat.le_of_ble_eq_true rfl⟩ (ac_snoc (C := C_X1_readRoof) (n := 1) (c := 1) (p1 := 14) (ac_snoc (C := C_X1_readRoof) (n := 0) (c := 1) (p1 := 10) (ac_nil (C := C_X1_readRoof)) (ec_gr (C := C_X1_readRoof) (p1 := 11) (ec_aload_n (C := C_X1_readRoof) (i := 0) dX1_readRoof_10 rfl) f_X1_12 dX1_readRoof_11) rfl (fun _ => rfl) rfl) (ec_str (C := C_X1_readRoof) (i := 2) (q := str_tab[2]) rfl rfl dX1_readRoof_14) rfl (fun _ => rfl) rfl) dX1_readRoof_16)
  (sc_seq (C := C_X1_readRoof) (p1 := 28) (sc_istore_n (C := C_X1_readRoof) (p1 := 27) (i := 3) (ec_callV (C := C_X1_readRoof) (m := 2) (p1 := 24) inj_I s_X4_needNumber t_X4_needNumber ⟨w_696, Nat.le_of_ble_eq_true rfl, Nat.le_of_ble_eq_true rfl⟩ (ac_snoc (C := C_X1_readRoof) (n := 1) (c := 1) (p1 := 23) (ac_snoc (C := C_X1_readRoof) (n := 0) (c := 1) (p1 := 19) (ac_nil (C := C_X1_readRoof)) (ec_gr (C := C_X1_readRoof) (p1 := 20) (ec_aload_n (C := C_X1_readRoof) (i := 0) dX1_readRoof_19 rfl) f_X1_12 dX1_readRoof_20) rfl (fun _ => rfl) rfl) (ec_iconst (C := C_X1_readRoof) (v := (5 : Int32)) dX1_readRoof_23 rfl) rfl (fun _ => rfl) rfl) (Nat.le_of_ble_eq_true rfl) dX1_readRoof_24) dX1_readRoof_27 rfl (Nat.le_of_ble_eq_true rfl))
  (sc_if (C := C_X1_readRoof) (pT := 35) (pF := 42) (p2 := 42) (bc_of_F (C := C_X1_readRoof) (p2 := 32) (tgt := 42) (ec_gi (C := C_X1_readRoof) (p1 := 29) (ec_aload_n (C := C_X1_readRoof) (i := 0) dX1_readRoof_28 rfl) f_X1_18 dX1_readRoof_29) dX1_readRoof_32 rfl) (sc_as (C := C_X1_readRoof) (p1 := 39) (p2 := 40) (p3 := 41) (ec_gr (C := C_X1_readRoof) (p1 := 36) (ec_aload_n (C := C_X1_readRoof) (i := 1) dX1_readRoof_35 rfl) f_X1_83 dX1_readRoof_36) (ec_iload_n (C := C_X1_readRoof) (i := 2) dX1_readRoof_39 rfl) (ec_iload_n (C := C_X1_readRoof) (i := 3) dX1_readRoof_40 rfl) dX1_readRoof_41) sc_skip))))
  (sc_vret (C := C_X1_readRoof) dX1_readRoof_42 rfl))
theorem s_X1_readRoof : MS M_X1_readRoof D_X1_readRoof := ms_of b_X1_readRoof (by decide +kernel) rfl rfl (fun _ => trivial)
/-- SmokeRoofs$Reader.readWind(LSmokeRoofs$Town;)V -/
abbrev C_X1_readWind : CX := (cX1_readWind, RX1, 4, 3, 65, "readWind", none, fun _ => True)
abbrev M_X1_readWind : MD := (yX1_readWind, C_X1_readWind)
theorem k_X1_readWind : MOK M_X1_readWind 1 := ⟨w_54, w_721, by decide +kernel, by decide +kernel, by decide +kernel⟩
theorem t_X1_readWind : MVT M_X1_readWind 1 1 := ⟨k_X1_readWind, w_719, w_720, by decide, _, rfl, rfl⟩
def WB_X1_readWind_1 : DE Bool := (b_and (b_and (e_bin (fun (x y : Int32) => decide (x < y)) (e_li 2) (e_c (24 : Int32))) (b_not (b_of (e_call prI D_X4_hasFault 1 (a_recv 4 (a_snoc Value.ref a_nil (e_gr 1 0 (e_lr 0)))))))) (e_bin (fun (x y : Int32) => decide (x = y)) (e_gi 4 3 (e_gr 1 0 (e_lr 0))) (e_c (2 : Int32))))
def WS_X1_readWind_1 : SD := (s_sc 3 (s_seq (s_st Value.int 3 (e_call prI D_X4_needNumber 2 (a_recv 4 (a_snoc Value.int (a_snoc Value.ref a_nil (e_gr 1 0 (e_lr 0))) (e_c (4 : Int32))))))
  (s_seq (s_if (b_of (e_gi 1 1 (e_lr 0))) (s_as (e_gr 5 4 (e_lr 1)) (e_li 2) (e_li 3)) s_skip)
  (s_inc 2 (1)))))
def W_X1_readWind_1 : SD := s_do WS_X1_readWind_1 WB_X1_readWind_1 FU
set_option maxRecDepth 100000 in
set_option maxHeartbeats 4000000 in
theorem bw_X1_readWind_1 : SC C_X1_readWind 10 63 W_X1_readWind_1 := by
  unfold W_X1_readWind_1 WB_X1_readWind_1 WS_X1_readWind_1
  exact (sc_do (C := C_X1_readWind) (p1 := 36) (pE := 63) (sc_sc (C := C_X1_readWind) (sc_seq (C := C_X1_readWind) (p1 := 19) (sc_istore_n (C := C_X1_readWind) (p1 := 18) (i := 3) (ec_callV (C := C_X1_readWind) (m := 2) (p1 := 15) inj_I s_X4_needNumber t_X4_needNumber ⟨w_696, Nat.le_of_ble_eq_true rfl, Nat.le_of_ble_eq_true rfl⟩ (ac_snoc (C := C_X1_readWind) (n := 1) (c := 1) (p1 := 14) (ac_snoc (C := C_X1_readWind) (n := 0) (c := 1) (p1 := 10) (ac_nil (C := C_X1_readWind)) (ec_gr (C := C_X1_readWind) (p1 := 11) (ec_aload_n (C := C_X1_readWind) (i := 0) dX1_readWind_10 rfl) f_X1_12 dX1_readWind_11) rfl (fun _ => rfl) rfl) (ec_iconst (C := C_X1_readWind) (v := (4 : Int32)) dX1_readWind_14 rfl) rfl (fun _ => rfl) rfl) (Nat.le_of_ble_eq_true rfl) dX1_readWind_15) dX1_readWind_18 rfl (Nat.le_of_ble_eq_true rfl))
  (sc_seq (C := C_X1_readWind) (p1 := 33) (sc_if (C := C_X1_readWind) (pT := 26) (pF := 33) (p2 := 33) (bc_of_F (C := C_X1_readWind) (p2 := 23) (tgt := 33) (ec_gi (C := C_X1_readWind) (p1 := 20) (ec_aload_n (C := C_X1_readWind) (i := 0) dX1_readWind_19 rfl) f_X1_18 dX1_readWind_20) dX1_readWind_23 rfl) (sc_as (C := C_X1_readWind) (p1 := 30) (p2 := 31) (p3 := 32) (ec_gr (C := C_X1_readWind) (p1 := 27) (ec_aload_n (C := C_X1_readWind) (i := 1) dX1_readWind_26 rfl) f_X1_87 dX1_readWind_27) (ec_iload_n (C := C_X1_readWind) (i := 2) dX1_readWind_30 rfl) (ec_iload_n (C := C_X1_readWind) (i := 3) dX1_readWind_31 rfl) dX1_readWind_32) sc_skip)
  (sc_iinc (C := C_X1_readWind) (v := (1)) dX1_readWind_33 rfl (Nat.le_of_ble_eq_true rfl)))))
  (bc_and (C := C_X1_readWind) (p1 := 52) (bc_and (C := C_X1_readWind) (p1 := 42) (bc_icmp_ge_F (C := C_X1_readWind) (p1 := 37) (p2 := 39) (tgt := 63) (ec_iload_n (C := C_X1_readWind) (i := 2) dX1_readWind_36 rfl) (ec_bipush (C := C_X1_readWind) (v := (24 : Int32)) dX1_readWind_37 rfl) dX1_readWind_39 rfl) (bc_not (C := C_X1_readWind) (bc_of_T (C := C_X1_readWind) (p2 := 49) (tgt := 63) (ec_callV (C := C_X1_readWind) (m := 1) (p1 := 46) inj_I s_X4_hasFault t_X4_hasFault ⟨w_722, Nat.le_of_ble_eq_true rfl, Nat.le_of_ble_eq_true rfl⟩ (ac_snoc (C := C_X1_readWind) (n := 0) (c := 1) (p1 := 42) (ac_nil (C := C_X1_readWind)) (ec_gr (C := C_X1_readWind) (p1 := 43) (ec_aload_n (C := C_X1_readWind) (i := 0) dX1_readWind_42 rfl) f_X1_12 dX1_readWind_43) rfl (fun _ => rfl) rfl) (Nat.le_of_ble_eq_true rfl) dX1_readWind_46) dX1_readWind_49 rfl))) (bc_icmp_eq_T (C := C_X1_readWind) (p1 := 59) (p2 := 60) (tgt := 10) (ec_gi (C := C_X1_readWind) (p1 := 56) (ec_gr (C := C_X1_readWind) (p1 := 53) (ec_aload_n (C := C_X1_readWind) (i := 0) dX1_readWind_52 rfl) f_X1_12 dX1_readWind_53) f_X1_42 dX1_readWind_56) (ec_iconst (C := C_X1_readWind) (v := (2 : Int32)) dX1_readWind_59 rfl) dX1_readWind_60 rfl)) FU)
def S_X1_readWind : SD := (s_seq (s_seq (s_st Value.int 2 (e_call prI D_X4_needNumber 2 (a_recv 4 (a_snoc Value.int (a_snoc Value.ref a_nil (e_gr 1 0 (e_lr 0))) (e_c (23 : Int32))))))
  W_X1_readWind_1)
  s_retv)
def D_X1_readWind : MDen := m_den 4 S_X1_readWind
set_option maxRecDepth 100000 in
set_option maxHeartbeats 4000000 in
theorem b_X1_readWind : SC C_X1_readWind 0 0 S_X1_readWind := by
  unfold S_X1_readWind
  exact (sc_seq (C := C_X1_readWind) (p1 := 63) (sc_seq (C := C_X1_readWind) (p1 := 10) (sc_istore_n (C := C_X1_readWind) (p1 := 9) (i := 2) (ec_callV (C := C_X1_readWind) (m := 2) (p1 := 6) inj_I s_X4_needNumber t_X4_needNumber ⟨w_696, Nat.le_of_ble_eq_true rfl, Nat.le_of_ble_eq_true rfl⟩ (ac_snoc (C := C_X1_readWind) (n := 1) (c := 1) (p1 := 4) (ac_snoc (C := C_X1_readWind) (n := 0) (c := 1) (p1 := 0) (ac_nil (C := C_X1_readWind)) (ec_gr (C := C_X1_readWind) (p1 := 1) (ec_aload_n (C := C_X1_readWind) (i := 0) dX1_readWind_0 rfl) f_X1_12 dX1_readWind_1) rfl (fun _ => rfl) rfl) (ec_bipush (C := C_X1_readWind) (v := (23 : Int32)) dX1_readWind_4 rfl) rfl (fun _ => rfl) rfl) (Nat.le_of_ble_eq_true rfl) dX1_readWind_6) dX1_readWind_9 rfl (Nat.le_of_ble_eq_true rfl))
  bw_X1_readWind_1)
  (sc_vret (C := C_X1_readWind) dX1_readWind_63 rfl))
theorem s_X1_readWind : MS M_X1_readWind D_X1_readWind := ms_of b_X1_readWind (by decide +kernel) rfl rfl (fun _ => trivial)
/-- SmokeRoofs$Reader.readItem(LSmokeRoofs$Town;)V -/
abbrev C_X1_readItem : CX := (cX1_readItem, RX1, 3, 8, 178, "readItem", none, fun _ => True)
abbrev M_X1_readItem : MD := (yX1_readItem, C_X1_readItem)
theorem k_X1_readItem : MOK M_X1_readItem 1 := ⟨w_54, w_615, by decide +kernel, by decide +kernel, by decide +kernel⟩
theorem t_X1_readItem : MVT M_X1_readItem 1 1 := ⟨k_X1_readItem, w_613, w_614, by decide, _, rfl, rfl⟩
def S_X1_readItem : SD := (s_seq (s_seq (s_st Value.int 2 (e_call prI D_X1_kindAtHand 1 (a_recv 1 (a_snoc Value.ref a_nil (e_lr 0)))))
  (s_if (b_of (e_call prI D_X4_passWord 2 (a_recv 4 (a_snoc Value.ref (a_snoc Value.ref a_nil (e_gr 1 0 (e_lr 0))) (e_c (SPB + 100 + 0)))))) (s_call D_X1_readRoof 2 (a_recv 1 (a_snoc Value.ref (a_snoc Value.ref a_nil (e_lr 0)) (e_lr 1)))) (s_if (b_of (e_call prI D_X4_passWord 2 (a_recv 4 (a_snoc Value.ref (a_snoc Value.ref a_nil (e_gr 1 0 (e_lr 0))) (e_c (SPB + 100 + 1)))))) (s_call D_X1_readWind 2 (a_recv 1 (a_snoc Value.ref (a_snoc Value.ref a_nil (e_lr 0)) (e_lr 1)))) (s_if (b_and (e_un (fun (x : Int32) => decide (0 ≤ x)) (e_li 2)) (e_bin (fun (x y : Int32) => decide (x < y)) (e_gi 1 2 (e_lr 0)) (e_c (8 : Int32)))) (s_seq (s_call D_X4_next 1 (a_recv 4 (a_snoc Value.ref a_nil (e_gr 1 0 (e_lr 0)))))
  (s_call D_X1_readChimney 3 (a_recv 1 (a_snoc Value.int (a_snoc Value.ref (a_snoc Value.ref a_nil (e_lr 0)) (e_lr 1)) (e_li 2))))) (s_call D_X4_fail 1 (a_recv 4 (a_snoc Value.ref a_nil (e_gr 1 0 (e_lr 0)))))))))
  s_retv)
def D_X1_readItem : MDen := m_den 3 S_X1_readItem
set_option maxRecDepth 100000 in
set_option maxHeartbeats 4000000 in
theorem b_X1_readItem : SC C_X1_readItem 0 0 S_X1_readItem := by
  unfold S_X1_readItem
  exact (sc_seq (C := C_X1_readItem) (p1 := 81) (sc_seq (C := C_X1_readItem) (p1 := 5) (sc_istore_n (C := C_X1_readItem) (p1 := 4) (i := 2) (ec_callV (C := C_X1_readItem) (m := 1) (p1 := 1) inj_I s_X1_kindAtHand t_X1_kindAtHand ⟨w_616, Nat.le_of_ble_eq_true rfl, Nat.le_of_ble_eq_true rfl⟩ (ac_snoc (C := C_X1_readItem) (n := 0) (c := 1) (p1 := 0) (ac_nil (C := C_X1_readItem)) (ec_aload_n (C := C_X1_readItem) (i := 0) dX1_readItem_0 rfl) rfl (fun _ => rfl) rfl) (Nat.le_of_ble_eq_true rfl) dX1_readItem_1) dX1_readItem_4 rfl (Nat.le_of_ble_eq_true rfl))
  (sc_if (C := C_X1_readItem) (pT := 17) (pF := 25) (p2 := 81) (bc_of_F (C := C_X1_readItem) (p2 := 14) (tgt := 25) (ec_callV (C := C_X1_readItem) (m := 2) (p1 := 11) inj_I s_X4_passWord t_X4_passWord ⟨w_683, Nat.le_of_ble_eq_true rfl, Nat.le_of_ble_eq_true rfl⟩ (ac_snoc (C := C_X1_readItem) (n := 1) (c := 1) (p1 := 9) (ac_snoc (C := C_X1_readItem) (n := 0) (c := 1) (p1 := 5) (ac_nil (C := C_X1_readItem)) (ec_gr (C := C_X1_readItem) (p1 := 6) (ec_aload_n (C := C_X1_readItem) (i := 0) dX1_readItem_5 rfl) f_X1_12 dX1_readItem_6) rfl (fun _ => rfl) rfl) (ec_str (C := C_X1_readItem) (i := 0) (q := str_tab[0]) rfl rfl dX1_readItem_9) rfl (fun _ => rfl) rfl) (Nat.le_of_ble_eq_true rfl) dX1_readItem_11) dX1_readItem_14 rfl) (sc_goto (C := C_X1_readItem) (p1 := 22) (sc_callV (C := C_X1_readItem) (m := 2) (p1 := 19) s_X1_readRoof t_X1_readRoof ⟨w_692, Nat.le_of_ble_eq_true rfl, Nat.le_of_ble_eq_true rfl⟩ (ac_snoc (C := C_X1_readItem) (n := 1) (c := 1) (p1 := 18) (ac_snoc (C := C_X1_readItem) (n := 0) (c := 1) (p1 := 17) (ac_nil (C := C_X1_readItem)) (ec_aload_n (C := C_X1_readItem) (i := 0) dX1_readItem_17 rfl) rfl (fun _ => rfl) rfl) (ec_aload_n (C := C_X1_readItem) (i := 1) dX1_readItem_18 rfl) rfl (fun _ => rfl) rfl) dX1_readItem_19) dX1_readItem_22 rfl) (sc_if (C := C_X1_readItem) (pT := 37) (pF := 45) (p2 := 81) (bc_of_F (C := C_X1_readItem) (p2 := 34) (tgt := 45) (ec_callV (C := C_X1_readItem) (m := 2) (p1 := 31) inj_I s_X4_passWord t_X4_passWord ⟨w_683, Nat.le_of_ble_eq_true rfl, Nat.le_of_ble_eq_true rfl⟩ (ac_snoc (C := C_X1_readItem) (n := 1) (c := 1) (p1 := 29) (ac_snoc (C := C_X1_readItem) (n := 0) (c := 1) (p1 := 25) (ac_nil (C := C_X1_readItem)) (ec_gr (C := C_X1_readItem) (p1 := 26) (ec_aload_n (C := C_X1_readItem) (i := 0) dX1_readItem_25 rfl) f_X1_12 dX1_readItem_26) rfl (fun _ => rfl) rfl) (ec_str (C := C_X1_readItem) (i := 1) (q := str_tab[1]) rfl rfl dX1_readItem_29) rfl (fun _ => rfl) rfl) (Nat.le_of_ble_eq_true rfl) dX1_readItem_31) dX1_readItem_34 rfl) (sc_goto (C := C_X1_readItem) (p1 := 42) (sc_callV (C := C_X1_readItem) (m := 2) (p1 := 39) s_X1_readWind t_X1_readWind ⟨w_718, Nat.le_of_ble_eq_true rfl, Nat.le_of_ble_eq_true rfl⟩ (ac_snoc (C := C_X1_readItem) (n := 1) (c := 1) (p1 := 38) (ac_snoc (C := C_X1_readItem) (n := 0) (c := 1) (p1 := 37) (ac_nil (C := C_X1_readItem)) (ec_aload_n (C := C_X1_readItem) (i := 0) dX1_readItem_37 rfl) rfl (fun _ => rfl) rfl) (ec_aload_n (C := C_X1_readItem) (i := 1) dX1_readItem_38 rfl) rfl (fun _ => rfl) rfl) dX1_readItem_39) dX1_readItem_42 rfl) (sc_if (C := C_X1_readItem) (pT := 58) (pF := 74) (p2 := 81) (bc_and (C := C_X1_readItem) (p1 := 49) (bc_if_lt_F (C := C_X1_readItem) (p2 := 46) (tgt := 74) (ec_iload_n (C := C_X1_readItem) (i := 2) dX1_readItem_45 rfl) dX1_readItem_46 rfl) (bc_icmp_ge_F (C := C_X1_readItem) (p1 := 53) (p2 := 55) (tgt := 74) (ec_gi (C := C_X1_readItem) (p1 := 50) (ec_aload_n (C := C_X1_readItem) (i := 0) dX1_readItem_49 rfl) f_X1_22 dX1_readItem_50) (ec_bipush (C := C_X1_readItem) (v := (8 : Int32)) dX1_readItem_53 rfl) dX1_readItem_55 rfl)) (sc_goto (C := C_X1_readItem) (p1 := 71) (sc_seq (C := C_X1_readItem) (p1 := 65) (sc_callV (C := C_X1_readItem) (m := 1) (p1 := 62) s_X4_next t_X4_next ⟨w_723, Nat.le_of_ble_eq_true rfl, Nat.le_of_ble_eq_true rfl⟩ (ac_snoc (C := C_X1_readItem) (n := 0) (c := 1) (p1 := 58) (ac_nil (C := C_X1_readItem)) (ec_gr (C := C_X1_readItem) (p1 := 59) (ec_aload_n (C := C_X1_readItem) (i := 0) dX1_readItem_58 rfl) f_X1_12 dX1_readItem_59) rfl (fun _ => rfl) rfl) dX1_readItem_62)
  (sc_callV (C := C_X1_readItem) (m := 3) (p1 := 68) s_X1_readChimney t_X1_readChimney ⟨w_724, Nat.le_of_ble_eq_true rfl, Nat.le_of_ble_eq_true rfl⟩ (ac_snoc (C := C_X1_readItem) (n := 2) (c := 1) (p1 := 67) (ac_snoc (C := C_X1_readItem) (n := 1) (c := 1) (p1 := 66) (ac_snoc (C := C_X1_readItem) (n := 0) (c := 1) (p1 := 65) (ac_nil (C := C_X1_readItem)) (ec_aload_n (C := C_X1_readItem) (i := 0) dX1_readItem_65 rfl) rfl (fun _ => rfl) rfl) (ec_aload_n (C := C_X1_readItem) (i := 1) dX1_readItem_66 rfl) rfl (fun _ => rfl) rfl) (ec_iload_n (C := C_X1_readItem) (i := 2) dX1_readItem_67 rfl) rfl (fun _ => rfl) rfl) dX1_readItem_68)) dX1_readItem_71 rfl) (sc_callV (C := C_X1_readItem) (m := 1) (p1 := 78) s_X4_fail t_X4_fail ⟨w_736, Nat.le_of_ble_eq_true rfl, Nat.le_of_ble_eq_true rfl⟩ (ac_snoc (C := C_X1_readItem) (n := 0) (c := 1) (p1 := 74) (ac_nil (C := C_X1_readItem)) (ec_gr (C := C_X1_readItem) (p1 := 75) (ec_aload_n (C := C_X1_readItem) (i := 0) dX1_readItem_74 rfl) f_X1_12 dX1_readItem_75) rfl (fun _ => rfl) rfl) dX1_readItem_78)))))
  (sc_vret (C := C_X1_readItem) dX1_readItem_81 rfl))
theorem s_X1_readItem : MS M_X1_readItem D_X1_readItem := ms_of b_X1_readItem (by decide +kernel) rfl rfl (fun _ => trivial)
/-- SmokeRoofs$Tape.passSign()Z -/
abbrev C_X4_passSign : CX := (cX4_passSign, RX4, 1, 2, 41, "passSign", (some .boolean), fun _ => True)
abbrev M_X4_passSign : MD := (yX4_passSign, C_X4_passSign)
theorem k_X4_passSign : MOK M_X4_passSign 0 := ⟨w_55, w_740, by decide +kernel, by decide +kernel, by decide +kernel⟩
theorem t_X4_passSign : MVT M_X4_passSign 0 4 := ⟨k_X4_passSign, w_738, w_739, by decide, _, rfl, rfl⟩
def S_X4_passSign : SD := (s_seq (s_if (b_or (b_of (e_call prI D_X4_hasFault 1 (a_recv 4 (a_snoc Value.ref a_nil (e_lr 0))))) (e_bin (fun (x y : Int32) => decide (x ≠ y)) (e_gi 4 3 (e_lr 0)) (e_c (3 : Int32)))) (s_retz (e_c (0 : Int32))) s_skip)
  (s_seq (s_call D_X4_next 1 (a_recv 4 (a_snoc Value.ref a_nil (e_lr 0))))
  (s_retz (e_c (1 : Int32)))))
def D_X4_passSign : MDen := m_den 1 S_X4_passSign
set_option maxRecDepth 100000 in
set_option maxHeartbeats 4000000 in
theorem b_X4_passSign : SC C_X4_passSign 0 0 S_X4_passSign := by
  unfold S_X4_passSign
  exact (sc_seq (C := C_X4_passSign) (p1 := 17) (sc_if (C := C_X4_passSign) (pT := 15) (pF := 17) (p2 := 17) (bc_or (C := C_X4_passSign) (p1 := 7) (bc_of_T (C := C_X4_passSign) (p2 := 4) (tgt := 15) (ec_callV (C := C_X4_passSign) (m := 1) (p1 := 1) inj_I s_X4_hasFault t_X4_hasFault ⟨w_687, Nat.le_of_ble_eq_true rfl, Nat.le_of_ble_eq_true rfl⟩ (ac_snoc (C := C_X4_passSign) (n := 0) (c := 1) (p1 := 0) (ac_nil (C := C_X4_passSign)) (ec_aload_n (C := C_X4_passSign) (i := 0) dX4_passSign_0 rfl) rfl (fun _ => rfl) rfl) (Nat.le_of_ble_eq_true rfl) dX4_passSign_1) dX4_passSign_4 rfl) (bc_icmp_eq_F (C := C_X4_passSign) (p1 := 11) (p2 := 12) (tgt := 17) (ec_gi (C := C_X4_passSign) (p1 := 8) (ec_aload_n (C := C_X4_passSign) (i := 0) dX4_passSign_7 rfl) f_X4_22 dX4_passSign_8) (ec_iconst (C := C_X4_passSign) (v := (3 : Int32)) dX4_passSign_11 rfl) dX4_passSign_12 rfl)) (sc_zret (C := C_X4_passSign) (p1 := 16) (ec_iconst (C := C_X4_passSign) (v := (0 : Int32)) dX4_passSign_15 rfl) dX4_passSign_16 rfl) sc_skip)
  (sc_seq (C := C_X4_passSign) (p1 := 21) (sc_callV (C := C_X4_passSign) (m := 1) (p1 := 18) s_X4_next t_X4_next ⟨w_605, Nat.le_of_ble_eq_true rfl, Nat.le_of_ble_eq_true rfl⟩ (ac_snoc (C := C_X4_passSign) (n := 0) (c := 1) (p1 := 17) (ac_nil (C := C_X4_passSign)) (ec_aload_n (C := C_X4_passSign) (i := 0) dX4_passSign_17 rfl) rfl (fun _ => rfl) rfl) dX4_passSign_18)
  (sc_zret (C := C_X4_passSign) (p1 := 22) (ec_iconst (C := C_X4_passSign) (v := (1 : Int32)) dX4_passSign_21 rfl) dX4_passSign_22 rfl)))
theorem s_X4_passSign : MS M_X4_passSign D_X4_passSign := ms_of b_X4_passSign (by decide +kernel) rfl rfl (fun _ => trivial)
/-- SmokeRoofs$Tape.rewind()V -/
abbrev C_X4_rewind : CX := (cX4_rewind, RX4, 1, 2, 41, "rewind", none, fun _ => True)
abbrev M_X4_rewind : MD := (yX4_rewind, C_X4_rewind)
theorem k_X4_rewind : MOK M_X4_rewind 0 := ⟨w_55, w_604, by decide +kernel, by decide +kernel, by decide +kernel⟩
theorem t_X4_rewind : MVT M_X4_rewind 0 4 := ⟨k_X4_rewind, w_602, w_603, by decide, _, rfl, rfl⟩
def S_X4_rewind : SD := (s_seq (s_seq (s_pf Value.int 4 2 (e_lr 0) (e_c (-1 : Int32)))
  (s_seq (s_pf Value.int 4 5 (e_lr 0) (e_c (0 : Int32)))
  (s_call D_X4_next 1 (a_recv 4 (a_snoc Value.ref a_nil (e_lr 0))))))
  s_retv)
def D_X4_rewind : MDen := m_den 1 S_X4_rewind
set_option maxRecDepth 100000 in
set_option maxHeartbeats 4000000 in
theorem b_X4_rewind : SC C_X4_rewind 0 0 S_X4_rewind := by
  unfold S_X4_rewind
  exact (sc_seq (C := C_X4_rewind) (p1 := 14) (sc_seq (C := C_X4_rewind) (p1 := 5) (sc_pf (C := C_X4_rewind) (p1 := 1) (p2 := 2) (ec_aload_n (C := C_X4_rewind) (i := 0) dX4_rewind_0 rfl) (ec_iconst (C := C_X4_rewind) (v := (-1 : Int32)) dX4_rewind_1 rfl) f_X4_19 dX4_rewind_2)
  (sc_seq (C := C_X4_rewind) (p1 := 10) (sc_pf (C := C_X4_rewind) (p1 := 6) (p2 := 7) (ec_aload_n (C := C_X4_rewind) (i := 0) dX4_rewind_5 rfl) (ec_iconst (C := C_X4_rewind) (v := (0 : Int32)) dX4_rewind_6 rfl) f_X4_28 dX4_rewind_7)
  (sc_callV (C := C_X4_rewind) (m := 1) (p1 := 11) s_X4_next t_X4_next ⟨w_605, Nat.le_of_ble_eq_true rfl, Nat.le_of_ble_eq_true rfl⟩ (ac_snoc (C := C_X4_rewind) (n := 0) (c := 1) (p1 := 10) (ac_nil (C := C_X4_rewind)) (ec_aload_n (C := C_X4_rewind) (i := 0) dX4_rewind_10 rfl) rfl (fun _ => rfl) rfl) dX4_rewind_11)))
  (sc_vret (C := C_X4_rewind) dX4_rewind_14 rfl))
theorem s_X4_rewind : MS M_X4_rewind D_X4_rewind := ms_of b_X4_rewind (by decide +kernel) rfl rfl (fun _ => trivial)
/-- SmokeRoofs$Reader.read(LSmokeRoofs$Town;Z)I -/
abbrev C_X1_read : CX := (cX1_read, RX1, 4, 9, 200, "read", (some .int), fun _ => True)
abbrev M_X1_read : MD := (yX1_read, C_X1_read)
theorem k_X1_read : MOK M_X1_read 2 := ⟨w_54, w_600, by decide +kernel, by decide +kernel, by decide +kernel⟩
theorem t_X1_read : MVT M_X1_read 2 1 := ⟨k_X1_read, w_598, w_599, by decide, _, rfl, rfl⟩
def WB_X1_read_1 : DE Bool := (b_and (e_bin (fun (x y : Int32) => decide (x ≤ y)) (e_li 3) (e_c (120 : Int32))) (b_of (e_call prI D_X4_passSign 1 (a_recv 4 (a_snoc Value.ref a_nil (e_gr 1 0 (e_lr 0)))))))
def WS_X1_read_1 : SD := (s_seq (s_call D_X1_readItem 2 (a_recv 1 (a_snoc Value.ref (a_snoc Value.ref a_nil (e_lr 0)) (e_lr 1))))
  (s_inc 3 (1)))
def W_X1_read_1 : SD := s_do WS_X1_read_1 WB_X1_read_1 FU
set_option maxRecDepth 100000 in
set_option maxHeartbeats 4000000 in
theorem bw_X1_read_1 : SC C_X1_read 22 46 W_X1_read_1 := by
  unfold W_X1_read_1 WB_X1_read_1 WS_X1_read_1
  exact (sc_do (C := C_X1_read) (p1 := 30) (pE := 46) (sc_seq (C := C_X1_read) (p1 := 27) (sc_callV (C := C_X1_read) (m := 2) (p1 := 24) s_X1_readItem t_X1_readItem ⟨w_612, Nat.le_of_ble_eq_true rfl, Nat.le_of_ble_eq_true rfl⟩ (ac_snoc (C := C_X1_read) (n := 1) (c := 1) (p1 := 23) (ac_snoc (C := C_X1_read) (n := 0) (c := 1) (p1 := 22) (ac_nil (C := C_X1_read)) (ec_aload_n (C := C_X1_read) (i := 0) dX1_read_22 rfl) rfl (fun _ => rfl) rfl) (ec_aload_n (C := C_X1_read) (i := 1) dX1_read_23 rfl) rfl (fun _ => rfl) rfl) dX1_read_24)
  (sc_iinc (C := C_X1_read) (v := (1)) dX1_read_27 rfl (Nat.le_of_ble_eq_true rfl)))
  (bc_and (C := C_X1_read) (p1 := 36) (bc_icmp_gt_F (C := C_X1_read) (p1 := 31) (p2 := 33) (tgt := 46) (ec_iload_n (C := C_X1_read) (i := 3) dX1_read_30 rfl) (ec_bipush (C := C_X1_read) (v := (120 : Int32)) dX1_read_31 rfl) dX1_read_33 rfl) (bc_of_T (C := C_X1_read) (p2 := 43) (tgt := 22) (ec_callV (C := C_X1_read) (m := 1) (p1 := 40) inj_I s_X4_passSign t_X4_passSign ⟨w_737, Nat.le_of_ble_eq_true rfl, Nat.le_of_ble_eq_true rfl⟩ (ac_snoc (C := C_X1_read) (n := 0) (c := 1) (p1 := 36) (ac_nil (C := C_X1_read)) (ec_gr (C := C_X1_read) (p1 := 37) (ec_aload_n (C := C_X1_read) (i := 0) dX1_read_36 rfl) f_X1_12 dX1_read_37) rfl (fun _ => rfl) rfl) (Nat.le_of_ble_eq_true rfl) dX1_read_40) dX1_read_43 rfl)) FU)
def S_X1_read : SD := (s_seq (s_pfz 1 1 (e_lr 0) (e_li 2))
  (s_seq (s_pf Value.int 1 2 (e_lr 0) (e_gi 5 2 (e_lr 1)))
  (s_seq (s_call D_X4_rewind 1 (a_recv 4 (a_snoc Value.ref a_nil (e_gr 1 0 (e_lr 0)))))
  (s_seq (s_st Value.int 3 (e_c (0 : Int32)))
  (s_seq W_X1_read_1
  (s_seq (s_if (e_un (fun (x : Int32) => decide (x ≠ 0)) (e_gi 4 3 (e_gr 1 0 (e_lr 0)))) (s_call D_X4_fail 1 (a_recv 4 (a_snoc Value.ref a_nil (e_gr 1 0 (e_lr 0))))) s_skip)
  (s_ret Value.int (e_li 3))))))))
def D_X1_read : MDen := m_den 4 S_X1_read
set_option maxRecDepth 100000 in
set_option maxHeartbeats 4000000 in
theorem b_X1_read : SC C_X1_read 0 0 S_X1_read := by
  unfold S_X1_read
  exact (sc_seq (C := C_X1_read) (p1 := 5) (sc_pfz (C := C_X1_read) (p1 := 1) (p2 := 2) (ec_aload_n (C := C_X1_read) (i := 0) dX1_read_0 rfl) (ec_iload_n (C := C_X1_read) (i := 2) dX1_read_1 rfl) f_X1_18 dX1_read_2)
  (sc_seq (C := C_X1_read) (p1 := 13) (sc_pf (C := C_X1_read) (p1 := 6) (p2 := 10) (ec_aload_n (C := C_X1_read) (i := 0) dX1_read_5 rfl) (ec_gi (C := C_X1_read) (p1 := 7) (ec_aload_n (C := C_X1_read) (i := 1) dX1_read_6 rfl) f_X1_26 dX1_read_7) f_X1_22 dX1_read_10)
  (sc_seq (C := C_X1_read) (p1 := 20) (sc_callV (C := C_X1_read) (m := 1) (p1 := 17) s_X4_rewind t_X4_rewind ⟨w_601, Nat.le_of_ble_eq_true rfl, Nat.le_of_ble_eq_true rfl⟩ (ac_snoc (C := C_X1_read) (n := 0) (c := 1) (p1 := 13) (ac_nil (C := C_X1_read)) (ec_gr (C := C_X1_read) (p1 := 14) (ec_aload_n (C := C_X1_read) (i := 0) dX1_read_13 rfl) f_X1_12 dX1_read_14) rfl (fun _ => rfl) rfl) dX1_read_17)
  (sc_seq (C := C_X1_read) (p1 := 22) (sc_istore_n (C := C_X1_read) (p1 := 21) (i := 3) (ec_iconst (C := C_X1_read) (v := (0 : Int32)) dX1_read_20 rfl) dX1_read_21 rfl (Nat.le_of_ble_eq_true rfl))
  (sc_seq (C := C_X1_read) (p1 := 46) bw_X1_read_1
  (sc_seq (C := C_X1_read) (p1 := 63) (sc_if (C := C_X1_read) (pT := 56) (pF := 63) (p2 := 63) (bc_if_eq_F (C := C_X1_read) (p2 := 53) (tgt := 63) (ec_gi (C := C_X1_read) (p1 := 50) (ec_gr (C := C_X1_read) (p1 := 47) (ec_aload_n (C := C_X1_read) (i := 0) dX1_read_46 rfl) f_X1_12 dX1_read_47) f_X1_42 dX1_read_50) dX1_read_53 rfl) (sc_callV (C := C_X1_read) (m := 1) (p1 := 60) s_X4_fail t_X4_fail ⟨w_736, Nat.le_of_ble_eq_true rfl, Nat.le_of_ble_eq_true rfl⟩ (ac_snoc (C := C_X1_read) (n := 0) (c := 1) (p1 := 56) (ac_nil (C := C_X1_read)) (ec_gr (C := C_X1_read) (p1 := 57) (ec_aload_n (C := C_X1_read) (i := 0) dX1_read_56 rfl) f_X1_12 dX1_read_57) rfl (fun _ => rfl) rfl) dX1_read_60) sc_skip)
  (sc_iret (C := C_X1_read) (p1 := 64) (ec_iload_n (C := C_X1_read) (i := 3) dX1_read_63 rfl) dX1_read_64 rfl)))))))
theorem s_X1_read : MS M_X1_read D_X1_read := ms_of b_X1_read (by decide +kernel) rfl rfl (fun _ => trivial)
