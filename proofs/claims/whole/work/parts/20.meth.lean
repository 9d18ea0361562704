/-- SmokeRoofs$Chimney.<init>()V -/
abbrev C_X0_init : CX := (cX0_init, RX0, 1, 1, 12, "<init>", none)
abbrev M_X0_init : MD := (yX0_init, C_X0_init)
theorem k_X0_init : MOK M_X0_init 0 := ⟨w_53, w_87, by decide +kernel, by decide +kernel, by decide +kernel⟩
def S_X0_init : SD := (s_seq (s_obj (e_lr 0))
  (s_seq (s_pff 0 0 (e_lr 0) (e_newi (e_c (7 : Int32))))
  (s_seq (s_pff 0 1 (e_lr 0) (e_newi (e_c (36 : Int32))))
  (s_seq (s_pff 0 2 (e_lr 0) (e_newi (e_c (36 : Int32))))
  (s_seq (s_pf Value.int 0 3 (e_lr 0) (e_c (0 : Int32)))
  (s_seq (s_pf Value.int 0 4 (e_lr 0) (e_c (0 : Int32)))
  (s_seq (s_pf Value.int 0 5 (e_lr 0) (e_c (0 : Int32)))
  s_retv)))))))
def D_X0_init : MDen := m_den 1 S_X0_init
set_option maxRecDepth 100000 in
set_option maxHeartbeats 4000000 in
theorem b_X0_init : SC C_X0_init 0 0 S_X0_init := by
  unfold S_X0_init
  exact (sc_seq (p1 := 4) (sc_obj (p1 := 1) (ec_aload_n (i := 0) dX0_init_0 rfl) w_88 w_71 w_72 (by decide) dX0_init_1)
  (sc_seq (p1 := 12) (sc_pff (p1 := 5) (p2 := 9) (ec_aload_n (i := 0) dX0_init_4 rfl) (ec_newi (p1 := 7) (ec_bipush (v := (7 : Int32)) dX0_init_5 rfl) w_116 dX0_init_7) f_X0_9 (fun q hq => by cases hq; rfl) rfl (Or.inr ⟨_, rfl⟩) dX0_init_9)
  (sc_seq (p1 := 20) (sc_pff (p1 := 13) (p2 := 17) (ec_aload_n (i := 0) dX0_init_12 rfl) (ec_newi (p1 := 15) (ec_bipush (v := (36 : Int32)) dX0_init_13 rfl) w_116 dX0_init_15) f_X0_15 (fun q hq => by cases hq; rfl) rfl (Or.inr ⟨_, rfl⟩) dX0_init_17)
  (sc_seq (p1 := 28) (sc_pff (p1 := 21) (p2 := 25) (ec_aload_n (i := 0) dX0_init_20 rfl) (ec_newi (p1 := 23) (ec_bipush (v := (36 : Int32)) dX0_init_21 rfl) w_116 dX0_init_23) f_X0_18 (fun q hq => by cases hq; rfl) rfl (Or.inr ⟨_, rfl⟩) dX0_init_25)
  (sc_seq (p1 := 33) (sc_pf (p1 := 29) (p2 := 30) (ec_aload_n (i := 0) dX0_init_28 rfl) (ec_iconst (v := (0 : Int32)) dX0_init_29 rfl) f_X0_21 dX0_init_30)
  (sc_seq (p1 := 38) (sc_pf (p1 := 34) (p2 := 35) (ec_aload_n (i := 0) dX0_init_33 rfl) (ec_iconst (v := (0 : Int32)) dX0_init_34 rfl) f_X0_25 dX0_init_35)
  (sc_seq (p1 := 43) (sc_pf (p1 := 39) (p2 := 40) (ec_aload_n (i := 0) dX0_init_38 rfl) (ec_iconst (v := (0 : Int32)) dX0_init_39 rfl) f_X0_28 dX0_init_40)
  (sc_vret dX0_init_43 rfl))))))))
theorem s_X0_init : MS M_X0_init D_X0_init := ms_of b_X0_init (by decide +kernel) rfl rfl
/-- SmokeRoofs$Tape.<init>()V -/
abbrev C_X4_init : CX := (cX4_init, RX4, 1, 1, 12, "<init>", none)
abbrev M_X4_init : MD := (yX4_init, C_X4_init)
theorem k_X4_init : MOK M_X4_init 0 := ⟨w_55, w_164, by decide +kernel, by decide +kernel, by decide +kernel⟩
def S_X4_init : SD := (s_seq (s_obj (e_lr 0))
  (s_seq (s_pff 4 0 (e_lr 0) (e_newi (e_c (120 : Int32))))
  (s_seq (s_pf Value.int 4 1 (e_lr 0) (e_c (0 : Int32)))
  (s_seq (s_pf Value.int 4 2 (e_lr 0) (e_c (-1 : Int32)))
  (s_seq (s_pf Value.int 4 3 (e_lr 0) (e_c (0 : Int32)))
  (s_seq (s_pf Value.int 4 4 (e_lr 0) (e_c (0 : Int32)))
  (s_seq (s_pf Value.int 4 5 (e_lr 0) (e_c (0 : Int32)))
  s_retv)))))))
def D_X4_init : MDen := m_den 1 S_X4_init
set_option maxRecDepth 100000 in
set_option maxHeartbeats 4000000 in
theorem b_X4_init : SC C_X4_init 0 0 S_X4_init := by
  unfold S_X4_init
  exact (sc_seq (p1 := 4) (sc_obj (p1 := 1) (ec_aload_n (i := 0) dX4_init_0 rfl) w_165 w_71 w_72 (by decide) dX4_init_1)
  (sc_seq (p1 := 12) (sc_pff (p1 := 5) (p2 := 9) (ec_aload_n (i := 0) dX4_init_4 rfl) (ec_newi (p1 := 7) (ec_bipush (v := (120 : Int32)) dX4_init_5 rfl) w_116 dX4_init_7) f_X4_9 (fun q hq => by cases hq; rfl) rfl (Or.inr ⟨_, rfl⟩) dX4_init_9)
  (sc_seq (p1 := 17) (sc_pf (p1 := 13) (p2 := 14) (ec_aload_n (i := 0) dX4_init_12 rfl) (ec_iconst (v := (0 : Int32)) dX4_init_13 rfl) f_X4_15 dX4_init_14)
  (sc_seq (p1 := 22) (sc_pf (p1 := 18) (p2 := 19) (ec_aload_n (i := 0) dX4_init_17 rfl) (ec_iconst (v := (-1 : Int32)) dX4_init_18 rfl) f_X4_19 dX4_init_19)
  (sc_seq (p1 := 27) (sc_pf (p1 := 23) (p2 := 24) (ec_aload_n (i := 0) dX4_init_22 rfl) (ec_iconst (v := (0 : Int32)) dX4_init_23 rfl) f_X4_22 dX4_init_24)
  (sc_seq (p1 := 32) (sc_pf (p1 := 28) (p2 := 29) (ec_aload_n (i := 0) dX4_init_27 rfl) (ec_iconst (v := (0 : Int32)) dX4_init_28 rfl) f_X4_25 dX4_init_29)
  (sc_seq (p1 := 37) (sc_pf (p1 := 33) (p2 := 34) (ec_aload_n (i := 0) dX4_init_32 rfl) (ec_iconst (v := (0 : Int32)) dX4_init_33 rfl) f_X4_28 dX4_init_34)
  (sc_vret dX4_init_37 rfl))))))))
theorem s_X4_init : MS M_X4_init D_X4_init := ms_of b_X4_init (by decide +kernel) rfl rfl
/-- SmokeRoofs$Reader.<init>()V -/
abbrev C_X1_init : CX := (cX1_init, RX1, 1, 2, 32, "<init>", none)
abbrev M_X1_init : MD := (yX1_init, C_X1_init)
theorem k_X1_init : MOK M_X1_init 0 := ⟨w_54, w_158, by decide +kernel, by decide +kernel, by decide +kernel⟩
def S_X1_init : SD := (s_seq (s_obj (e_lr 0))
  (s_seq (s_pff 1 0 (e_lr 0) (e_new 4 [.null, .int 0, .int 0, .int 0, .int 0, .int 0] D_X4_init))
  (s_seq (s_pfz 1 1 (e_lr 0) (e_c (0 : Int32)))
  (s_seq (s_pf Value.int 1 2 (e_lr 0) (e_c (0 : Int32)))
  s_retv))))
def D_X1_init : MDen := m_den 1 S_X1_init
set_option maxRecDepth 100000 in
set_option maxHeartbeats 4000000 in
theorem b_X1_init : SC C_X1_init 0 0 S_X1_init := by
  unfold S_X1_init
  exact (sc_seq (p1 := 4) (sc_obj (p1 := 1) (ec_aload_n (i := 0) dX1_init_0 rfl) w_159 w_71 w_72 (by decide) dX1_init_1)
  (sc_seq (p1 := 15) (sc_pff (p1 := 5) (p2 := 12) (ec_aload_n (i := 0) dX1_init_4 rfl) (ec_new s_X4_init ⟨RX4, TX4, 6, tyX4, rfl, by decide, ing_X4, tyX4_ok, rfl, nf_X4, w_160, w_161, w_55⟩ ⟨(Or.inr (by decide +kernel)), ⟨Nat.le_of_ble_eq_true rfl, Nat.le_of_ble_eq_true rfl⟩, k_X4_init, rfl, w_163, rfl⟩ (by decide) dX1_init_5 dX1_init_8 dX1_init_9) f_X1_12 (fun q hq => by cases hq; rfl) rfl (Or.inl ⟨_, rfl⟩) dX1_init_12)
  (sc_seq (p1 := 20) (sc_pfz (p1 := 16) (p2 := 17) (ec_aload_n (i := 0) dX1_init_15 rfl) (ec_iconst (v := (0 : Int32)) dX1_init_16 rfl) f_X1_18 dX1_init_17)
  (sc_seq (p1 := 25) (sc_pf (p1 := 21) (p2 := 22) (ec_aload_n (i := 0) dX1_init_20 rfl) (ec_iconst (v := (0 : Int32)) dX1_init_21 rfl) f_X1_22 dX1_init_22)
  (sc_vret dX1_init_25 rfl)))))
theorem s_X1_init : MS M_X1_init D_X1_init := ms_of b_X1_init (by decide +kernel) rfl rfl
/-- SmokeRoofs$Sheet.<init>()V -/
abbrev C_X2_init : CX := (cX2_init, RX2, 1, 1, 12, "<init>", none)
abbrev M_X2_init : MD := (yX2_init, C_X2_init)
theorem k_X2_init : MOK M_X2_init 0 := ⟨w_57, w_230, by decide +kernel, by decide +kernel, by decide +kernel⟩
def S_X2_init : SD := (s_seq (s_obj (e_lr 0))
  (s_seq (s_pf Value.int 2 0 (e_lr 0) (e_c (0 : Int32)))
  (s_seq (s_pf Value.int 2 1 (e_lr 0) (e_c (0 : Int32)))
  (s_seq (s_pff 2 2 (e_lr 0) (e_newi (e_c (40 : Int32))))
  s_retv))))
def D_X2_init : MDen := m_den 1 S_X2_init
set_option maxRecDepth 100000 in
set_option maxHeartbeats 4000000 in
theorem b_X2_init : SC C_X2_init 0 0 S_X2_init := by
  unfold S_X2_init
  exact (sc_seq (p1 := 4) (sc_obj (p1 := 1) (ec_aload_n (i := 0) dX2_init_0 rfl) w_231 w_71 w_72 (by decide) dX2_init_1)
  (sc_seq (p1 := 9) (sc_pf (p1 := 5) (p2 := 6) (ec_aload_n (i := 0) dX2_init_4 rfl) (ec_iconst (v := (0 : Int32)) dX2_init_5 rfl) f_X2_9 dX2_init_6)
  (sc_seq (p1 := 14) (sc_pf (p1 := 10) (p2 := 11) (ec_aload_n (i := 0) dX2_init_9 rfl) (ec_iconst (v := (0 : Int32)) dX2_init_10 rfl) f_X2_15 dX2_init_11)
  (sc_seq (p1 := 22) (sc_pff (p1 := 15) (p2 := 19) (ec_aload_n (i := 0) dX2_init_14 rfl) (ec_newi (p1 := 17) (ec_bipush (v := (40 : Int32)) dX2_init_15 rfl) w_116 dX2_init_17) f_X2_18 (fun q hq => by cases hq; rfl) rfl (Or.inr ⟨_, rfl⟩) dX2_init_19)
  (sc_vret dX2_init_22 rfl)))))
theorem s_X2_init : MS M_X2_init D_X2_init := ms_of b_X2_init (by decide +kernel) rfl rfl
/-- SmokeRoofs$Tally.<init>()V -/
abbrev C_X3_init : CX := (cX3_init, RX3, 1, 1, 12, "<init>", none)
abbrev M_X3_init : MD := (yX3_init, C_X3_init)
theorem k_X3_init : MOK M_X3_init 0 := ⟨w_56, w_208, by decide +kernel, by decide +kernel, by decide +kernel⟩
def S_X3_init : SD := (s_seq (s_obj (e_lr 0))
  (s_seq (s_pf Value.int 3 0 (e_lr 0) (e_c (0 : Int32)))
  (s_seq (s_pff 3 1 (e_lr 0) (e_newi (e_c (6 : Int32))))
  (s_seq (s_pff 3 2 (e_lr 0) (e_newi (e_c (6 : Int32))))
  (s_seq (s_pff 3 3 (e_lr 0) (e_newi (e_c (6 : Int32))))
  s_retv)))))
def D_X3_init : MDen := m_den 1 S_X3_init
set_option maxRecDepth 100000 in
set_option maxHeartbeats 4000000 in
theorem b_X3_init : SC C_X3_init 0 0 S_X3_init := by
  unfold S_X3_init
  exact (sc_seq (p1 := 4) (sc_obj (p1 := 1) (ec_aload_n (i := 0) dX3_init_0 rfl) w_209 w_71 w_72 (by decide) dX3_init_1)
  (sc_seq (p1 := 9) (sc_pf (p1 := 5) (p2 := 6) (ec_aload_n (i := 0) dX3_init_4 rfl) (ec_iconst (v := (0 : Int32)) dX3_init_5 rfl) f_X3_9 dX3_init_6)
  (sc_seq (p1 := 17) (sc_pff (p1 := 10) (p2 := 14) (ec_aload_n (i := 0) dX3_init_9 rfl) (ec_newi (p1 := 12) (ec_bipush (v := (6 : Int32)) dX3_init_10 rfl) w_116 dX3_init_12) f_X3_15 (fun q hq => by cases hq; rfl) rfl (Or.inr ⟨_, rfl⟩) dX3_init_14)
  (sc_seq (p1 := 25) (sc_pff (p1 := 18) (p2 := 22) (ec_aload_n (i := 0) dX3_init_17 rfl) (ec_newi (p1 := 20) (ec_bipush (v := (6 : Int32)) dX3_init_18 rfl) w_116 dX3_init_20) f_X3_19 (fun q hq => by cases hq; rfl) rfl (Or.inr ⟨_, rfl⟩) dX3_init_22)
  (sc_seq (p1 := 33) (sc_pff (p1 := 26) (p2 := 30) (ec_aload_n (i := 0) dX3_init_25 rfl) (ec_newi (p1 := 28) (ec_bipush (v := (6 : Int32)) dX3_init_26 rfl) w_116 dX3_init_28) f_X3_22 (fun q hq => by cases hq; rfl) rfl (Or.inr ⟨_, rfl⟩) dX3_init_30)
  (sc_vret dX3_init_33 rfl))))))
theorem s_X3_init : MS M_X3_init D_X3_init := ms_of b_X3_init (by decide +kernel) rfl rfl
/-- java/util/Arrays.fill([II)V -/
abbrev C_J7_fill_53178 : CX := (cJ7_fill_53178, RJ7, 4, 0, 0, "fill", none)
abbrev M_J7_fill_53178 : MD := (yJ7_fill_53178, C_J7_fill_53178)
theorem k_J7_fill_53178 : MOK M_J7_fill_53178 2 := ⟨w_52, w_83, by decide +kernel, by decide +kernel, by decide +kernel⟩
theorem t_J7_fill_53178 : MST M_J7_fill_53178 2 := ⟨k_J7_fill_53178, w_82⟩
def S_J7_fill_53178 : SD := (s_seq (s_sc 2 (s_seq (s_seq (s_st Value.int 2 (e_c (0 : Int32))) (s_st Value.int 3 (e_len (e_lr 0))))
  (s_while (e_bin (fun (x y : Int32) => decide (x < y)) (e_li 2) (e_li 3))
  (s_seq (s_as (e_lr 0) (e_li 2) (e_li 1))
  (s_inc 2 (1))) FU)))
  s_retv)
def D_J7_fill_53178 : MDen := m_den 4 S_J7_fill_53178
set_option maxRecDepth 100000 in
set_option maxHeartbeats 4000000 in
theorem b_J7_fill_53178 : SC C_J7_fill_53178 0 0 S_J7_fill_53178 := by
  unfold S_J7_fill_53178
  exact (sc_seq (p1 := 20) (sc_sc (sc_seq (p1 := 5) (sc_seq (p1 := 2) (sc_istore_n (p1 := 1) (i := 2) (ec_iconst (v := (0 : Int32)) dJ7_fill_53178_0 rfl) dJ7_fill_53178_1 rfl (Nat.le_of_ble_eq_true rfl)) (sc_istore_n (p1 := 4) (i := 3) (ec_len (p1 := 3) (ec_aload_n (i := 0) dJ7_fill_53178_2 rfl) dJ7_fill_53178_3) dJ7_fill_53178_4 rfl (Nat.le_of_ble_eq_true rfl)))
  (sc_while (pB := 10) (pE := 20) (bc_icmp_ge_F (p1 := 6) (p2 := 7) (tgt := 20) (ec_iload_n (i := 2) dJ7_fill_53178_5 rfl) (ec_iload_n (i := 3) dJ7_fill_53178_6 rfl) dJ7_fill_53178_7 rfl)
  (sc_goto (p1 := 17) (sc_seq (p1 := 14) (sc_as (p1 := 11) (p2 := 12) (p3 := 13) (ec_aload_n (i := 0) dJ7_fill_53178_10 rfl) (ec_iload_n (i := 2) dJ7_fill_53178_11 rfl) (ec_iload_n (i := 1) dJ7_fill_53178_12 rfl) dJ7_fill_53178_13)
  (sc_iinc (v := (1)) dJ7_fill_53178_14 rfl (Nat.le_of_ble_eq_true rfl))) dJ7_fill_53178_17 rfl) FU)))
  (sc_vret dJ7_fill_53178_20 rfl))
theorem s_J7_fill_53178 : MS M_J7_fill_53178 D_J7_fill_53178 := ms_of b_J7_fill_53178 (by decide +kernel) rfl rfl
/-- SmokeRoofs$Town.<init>()V -/
abbrev C_X5_init : CX := (cX5_init, RX5, 2, 2, 32, "<init>", none)
abbrev M_X5_init : MD := (yX5_init, C_X5_init)
theorem k_X5_init : MOK M_X5_init 0 := ⟨w_51, w_77, by decide +kernel, by decide +kernel, by decide +kernel⟩
def S_X5_init : SD := (s_seq (s_obj (e_lr 0))
  (s_seq (s_pf Value.int 5 0 (e_lr 0) (e_c (0 : Int32)))
  (s_seq (s_pf Value.int 5 1 (e_lr 0) (e_c (1 : Int32)))
  (s_seq (s_pf Value.int 5 2 (e_lr 0) (e_c (0 : Int32)))
  (s_seq (s_pff 5 3 (e_lr 0) (e_newi (e_c (36 : Int32))))
  (s_seq (s_pff 5 4 (e_lr 0) (e_newi (e_c (24 : Int32))))
  (s_seq (s_pff 5 5 (e_lr 0) (e_newi (e_c (6 : Int32))))
  (s_seq (s_pff 5 6 (e_lr 0) (e_newi (e_c (10 : Int32))))
  (s_seq (s_pff 5 7 (e_lr 0) (e_newq 0 (e_c (8 : Int32))))
  (s_seq (s_seq (s_call D_J7_fill_53178 2 (a_snoc Value.int (a_snoc Value.ref a_nil (e_gr 5 3 (e_lr 0))) (e_c (-1 : Int32))))
  (s_seq (s_call D_J7_fill_53178 2 (a_snoc Value.int (a_snoc Value.ref a_nil (e_gr 5 6 (e_lr 0))) (e_c (-1 : Int32))))
  (s_sc 1 (s_seq (s_st Value.int 1 (e_c (0 : Int32)))
  (s_while (e_bin (fun (x y : Int32) => decide (x < y)) (e_li 1) (e_c (8 : Int32)))
  (s_seq (s_aas 0 0 (e_gr 5 7 (e_lr 0)) (e_li 1) (e_new 0 [.null, .null, .null, .int 0, .int 0, .int 0] D_X0_init))
  (s_inc 1 (1))) FU)))))
  s_retv))))))))))
def D_X5_init : MDen := m_den 2 S_X5_init
set_option maxRecDepth 100000 in
set_option maxHeartbeats 4000000 in
theorem b_X5_init : SC C_X5_init 0 0 S_X5_init := by
  unfold S_X5_init
  exact (sc_seq (p1 := 4) (sc_obj (p1 := 1) (ec_aload_n (i := 0) dX5_init_0 rfl) w_78 w_71 w_72 (by decide) dX5_init_1)
  (sc_seq (p1 := 9) (sc_pf (p1 := 5) (p2 := 6) (ec_aload_n (i := 0) dX5_init_4 rfl) (ec_iconst (v := (0 : Int32)) dX5_init_5 rfl) f_X5_9 dX5_init_6)
  (sc_seq (p1 := 14) (sc_pf (p1 := 10) (p2 := 11) (ec_aload_n (i := 0) dX5_init_9 rfl) (ec_iconst (v := (1 : Int32)) dX5_init_10 rfl) f_X5_15 dX5_init_11)
  (sc_seq (p1 := 19) (sc_pf (p1 := 15) (p2 := 16) (ec_aload_n (i := 0) dX5_init_14 rfl) (ec_iconst (v := (0 : Int32)) dX5_init_15 rfl) f_X5_18 dX5_init_16)
  (sc_seq (p1 := 27) (sc_pff (p1 := 20) (p2 := 24) (ec_aload_n (i := 0) dX5_init_19 rfl) (ec_newi (p1 := 22) (ec_bipush (v := (36 : Int32)) dX5_init_20 rfl) w_116 dX5_init_22) f_X5_21 (fun q hq => by cases hq; rfl) rfl (Or.inr ⟨_, rfl⟩) dX5_init_24)
  (sc_seq (p1 := 35) (sc_pff (p1 := 28) (p2 := 32) (ec_aload_n (i := 0) dX5_init_27 rfl) (ec_newi (p1 := 30) (ec_bipush (v := (24 : Int32)) dX5_init_28 rfl) w_116 dX5_init_30) f_X5_25 (fun q hq => by cases hq; rfl) rfl (Or.inr ⟨_, rfl⟩) dX5_init_32)
  (sc_seq (p1 := 43) (sc_pff (p1 := 36) (p2 := 40) (ec_aload_n (i := 0) dX5_init_35 rfl) (ec_newi (p1 := 38) (ec_bipush (v := (6 : Int32)) dX5_init_36 rfl) w_116 dX5_init_38) f_X5_28 (fun q hq => by cases hq; rfl) rfl (Or.inr ⟨_, rfl⟩) dX5_init_40)
  (sc_seq (p1 := 51) (sc_pff (p1 := 44) (p2 := 48) (ec_aload_n (i := 0) dX5_init_43 rfl) (ec_newi (p1 := 46) (ec_bipush (v := (10 : Int32)) dX5_init_44 rfl) w_116 dX5_init_46) f_X5_31 (fun q hq => by cases hq; rfl) rfl (Or.inr ⟨_, rfl⟩) dX5_init_48)
  (sc_seq (p1 := 60) (sc_pff (p1 := 52) (p2 := 57) (ec_aload_n (i := 0) dX5_init_51 rfl) (ec_newq (p1 := 54) (Cn := RX0) (by decide) (ec_bipush (v := (8 : Int32)) dX5_init_52 rfl) w_79 dX5_init_54) f_X5_36 (fun q hq => by cases hq; rfl) rfl (Or.inr ⟨_, rfl⟩) dX5_init_57)
  (sc_seq (p1 := 103) (sc_seq (p1 := 68) (sc_callS (m := 2) (p1 := 65) s_J7_fill_53178 t_J7_fill_53178 ⟨w_81, Nat.le_of_ble_eq_true rfl, Nat.le_of_ble_eq_true rfl⟩ (ac_snoc (n := 1) (c := 1) (p1 := 64) (ac_snoc (n := 0) (c := 1) (p1 := 60) ac_nil (ec_gr (p1 := 61) (ec_aload_n (i := 0) dX5_init_60 rfl) f_X5_21 dX5_init_61) rfl (fun _ => rfl) rfl) (ec_iconst (v := (-1 : Int32)) dX5_init_64 rfl) rfl (fun _ => rfl) rfl) dX5_init_65)
  (sc_seq (p1 := 76) (sc_callS (m := 2) (p1 := 73) s_J7_fill_53178 t_J7_fill_53178 ⟨w_81, Nat.le_of_ble_eq_true rfl, Nat.le_of_ble_eq_true rfl⟩ (ac_snoc (n := 1) (c := 1) (p1 := 72) (ac_snoc (n := 0) (c := 1) (p1 := 68) ac_nil (ec_gr (p1 := 69) (ec_aload_n (i := 0) dX5_init_68 rfl) f_X5_31 dX5_init_69) rfl (fun _ => rfl) rfl) (ec_iconst (v := (-1 : Int32)) dX5_init_72 rfl) rfl (fun _ => rfl) rfl) dX5_init_73)
  (sc_sc (sc_seq (p1 := 78) (sc_istore_n (p1 := 77) (i := 1) (ec_iconst (v := (0 : Int32)) dX5_init_76 rfl) dX5_init_77 rfl (Nat.le_of_ble_eq_true rfl))
  (sc_while (pB := 84) (pE := 103) (bc_icmp_ge_F (p1 := 79) (p2 := 81) (tgt := 103) (ec_iload_n (i := 1) dX5_init_78 rfl) (ec_bipush (v := (8 : Int32)) dX5_init_79 rfl) dX5_init_81 rfl)
  (sc_goto (p1 := 100) (sc_seq (p1 := 97) (sc_aas (p1 := 88) (p2 := 89) (p3 := 96) (by decide) rfl (ec_gr (p1 := 85) (ec_aload_n (i := 0) dX5_init_84 rfl) f_X5_36 dX5_init_85) (ec_iload_n (i := 1) dX5_init_88 rfl) (ec_new s_X0_init ⟨RX0, TX0, 6, tyX0, rfl, by decide, ing_X0, tyX0_ok, rfl, nf_X0, w_79, w_84, w_53⟩ ⟨(Or.inr (by decide +kernel)), ⟨Nat.le_of_ble_eq_true rfl, Nat.le_of_ble_eq_true rfl⟩, k_X0_init, rfl, w_86, rfl⟩ (by decide) dX5_init_89 dX5_init_92 dX5_init_93) dX5_init_96)
  (sc_iinc (v := (1)) dX5_init_97 rfl (Nat.le_of_ble_eq_true rfl))) dX5_init_100 rfl) FU)))))
  (sc_vret dX5_init_103 rfl)))))))))))
theorem s_X5_init : MS M_X5_init D_X5_init := ms_of b_X5_init (by decide +kernel) rfl rfl
/-- SmokeRoofs.<init>()V -/
abbrev C_X6_init : CX := (cX6_init, RX6, 2, 3, 53, "<init>", none)
abbrev M_X6_init : MD := (yX6_init, C_X6_init)
theorem k_X6_init : MOK M_X6_init 0 := ⟨w_50, w_69, by decide +kernel, by decide +kernel, by decide +kernel⟩
def S_X6_init : SD := (s_seq (s_obj (e_lr 0))
  (s_seq (s_pff 6 0 (e_lr 0) (e_new 5 [.int 0, .int 0, .int 0, .null, .null, .null, .null, .null] D_X5_init))
  (s_seq (s_pff 6 1 (e_lr 0) (e_new 5 [.int 0, .int 0, .int 0, .null, .null, .null, .null, .null] D_X5_init))
  (s_seq (s_pfz 6 2 (e_lr 0) (e_c (0 : Int32)))
  (s_seq (s_pff 6 3 (e_lr 0) (e_new 1 [.null, .int 0, .int 0] D_X1_init))
  (s_seq (s_pff 6 4 (e_lr 0) (e_newq 1 (e_c (4 : Int32))))
  (s_seq (s_pff 6 5 (e_lr 0) (e_newi (e_c (7 : Int32))))
  (s_seq (s_pff 6 6 (e_lr 0) (e_new 0 [.null, .null, .null, .int 0, .int 0, .int 0] D_X0_init))
  (s_seq (s_pff 6 7 (e_lr 0) (e_new 3 [.int 0, .null, .null, .null] D_X3_init))
  (s_seq (s_pff 6 8 (e_lr 0) (e_newi (e_c (6 : Int32))))
  (s_seq (s_pff 6 9 (e_lr 0) (e_newi (e_c (8 : Int32))))
  (s_seq (s_pff 6 10 (e_lr 0) (e_newi (e_c (8 : Int32))))
  (s_seq (s_pff 6 11 (e_lr 0) (e_newi (e_c (40 : Int32))))
  (s_seq (s_pff 6 12 (e_lr 0) (e_newi (e_c (36 : Int32))))
  (s_seq (s_sc 1 (s_seq (s_st Value.int 1 (e_c (0 : Int32)))
  (s_while (e_bin (fun (x y : Int32) => decide (x < y)) (e_li 1) (e_c (4 : Int32)))
  (s_seq (s_aas 1 2 (e_gr 6 4 (e_lr 0)) (e_li 1) (e_new 2 [.int 0, .int 0, .null] D_X2_init))
  (s_inc 1 (1))) FU)))
  s_retv)))))))))))))))
def D_X6_init : MDen := m_den 2 S_X6_init
set_option maxRecDepth 100000 in
set_option maxHeartbeats 4000000 in
theorem b_X6_init : SC C_X6_init 0 0 S_X6_init := by
  unfold S_X6_init
  exact (sc_seq (p1 := 4) (sc_obj (p1 := 1) (ec_aload_n (i := 0) dX6_init_0 rfl) w_70 w_71 w_72 (by decide) dX6_init_1)
  (sc_seq (p1 := 15) (sc_pff (p1 := 5) (p2 := 12) (ec_aload_n (i := 0) dX6_init_4 rfl) (ec_new s_X5_init ⟨RX5, TX5, 8, tyX5, rfl, by decide, ing_X5, tyX5_ok, rfl, nf_X5, w_73, w_74, w_51⟩ ⟨(Or.inl w_75), ⟨Nat.le_of_ble_eq_true rfl, Nat.le_of_ble_eq_true rfl⟩, k_X5_init, rfl, w_76, rfl⟩ (by decide) dX6_init_5 dX6_init_8 dX6_init_9) f_X6_10 (fun q hq => by cases hq; rfl) rfl (Or.inl ⟨_, rfl⟩) dX6_init_12)
  (sc_seq (p1 := 26) (sc_pff (p1 := 16) (p2 := 23) (ec_aload_n (i := 0) dX6_init_15 rfl) (ec_new s_X5_init ⟨RX5, TX5, 8, tyX5, rfl, by decide, ing_X5, tyX5_ok, rfl, nf_X5, w_73, w_74, w_51⟩ ⟨(Or.inl w_75), ⟨Nat.le_of_ble_eq_true rfl, Nat.le_of_ble_eq_true rfl⟩, k_X5_init, rfl, w_76, rfl⟩ (by decide) dX6_init_16 dX6_init_19 dX6_init_20) f_X6_16 (fun q hq => by cases hq; rfl) rfl (Or.inl ⟨_, rfl⟩) dX6_init_23)
  (sc_seq (p1 := 31) (sc_pfz (p1 := 27) (p2 := 28) (ec_aload_n (i := 0) dX6_init_26 rfl) (ec_iconst (v := (0 : Int32)) dX6_init_27 rfl) f_X6_19 dX6_init_28)
  (sc_seq (p1 := 42) (sc_pff (p1 := 32) (p2 := 39) (ec_aload_n (i := 0) dX6_init_31 rfl) (ec_new s_X1_init ⟨RX1, TX1, 3, tyX1, rfl, by decide, ing_X1, tyX1_ok, rfl, nf_X1, w_154, w_155, w_54⟩ ⟨(Or.inr (by decide +kernel)), ⟨Nat.le_of_ble_eq_true rfl, Nat.le_of_ble_eq_true rfl⟩, k_X1_init, rfl, w_157, rfl⟩ (by decide) dX6_init_32 dX6_init_35 dX6_init_36) f_X6_26 (fun q hq => by cases hq; rfl) rfl (Or.inl ⟨_, rfl⟩) dX6_init_39)
  (sc_seq (p1 := 50) (sc_pff (p1 := 43) (p2 := 47) (ec_aload_n (i := 0) dX6_init_42 rfl) (ec_newq (p1 := 44) (Cn := RX2) (by decide) (ec_iconst (v := (4 : Int32)) dX6_init_43 rfl) w_200 dX6_init_44) f_X6_32 (fun q hq => by cases hq; rfl) rfl (Or.inr ⟨_, rfl⟩) dX6_init_47)
  (sc_seq (p1 := 58) (sc_pff (p1 := 51) (p2 := 55) (ec_aload_n (i := 0) dX6_init_50 rfl) (ec_newi (p1 := 53) (ec_bipush (v := (7 : Int32)) dX6_init_51 rfl) w_116 dX6_init_53) f_X6_36 (fun q hq => by cases hq; rfl) rfl (Or.inr ⟨_, rfl⟩) dX6_init_55)
  (sc_seq (p1 := 69) (sc_pff (p1 := 59) (p2 := 66) (ec_aload_n (i := 0) dX6_init_58 rfl) (ec_new s_X0_init ⟨RX0, TX0, 6, tyX0, rfl, by decide, ing_X0, tyX0_ok, rfl, nf_X0, w_202, w_84, w_53⟩ ⟨(Or.inr (by decide +kernel)), ⟨Nat.le_of_ble_eq_true rfl, Nat.le_of_ble_eq_true rfl⟩, k_X0_init, rfl, w_86, rfl⟩ (by decide) dX6_init_59 dX6_init_62 dX6_init_63) f_X6_43 (fun q hq => by cases hq; rfl) rfl (Or.inl ⟨_, rfl⟩) dX6_init_66)
  (sc_seq (p1 := 80) (sc_pff (p1 := 70) (p2 := 77) (ec_aload_n (i := 0) dX6_init_69 rfl) (ec_new s_X3_init ⟨RX3, TX3, 4, tyX3, rfl, by decide, ing_X3, tyX3_ok, rfl, nf_X3, w_204, w_205, w_56⟩ ⟨(Or.inr (by decide +kernel)), ⟨Nat.le_of_ble_eq_true rfl, Nat.le_of_ble_eq_true rfl⟩, k_X3_init, rfl, w_207, rfl⟩ (by decide) dX6_init_70 dX6_init_73 dX6_init_74) f_X6_50 (fun q hq => by cases hq; rfl) rfl (Or.inl ⟨_, rfl⟩) dX6_init_77)
  (sc_seq (p1 := 88) (sc_pff (p1 := 81) (p2 := 85) (ec_aload_n (i := 0) dX6_init_80 rfl) (ec_newi (p1 := 83) (ec_bipush (v := (6 : Int32)) dX6_init_81 rfl) w_116 dX6_init_83) f_X6_54 (fun q hq => by cases hq; rfl) rfl (Or.inr ⟨_, rfl⟩) dX6_init_85)
  (sc_seq (p1 := 96) (sc_pff (p1 := 89) (p2 := 93) (ec_aload_n (i := 0) dX6_init_88 rfl) (ec_newi (p1 := 91) (ec_bipush (v := (8 : Int32)) dX6_init_89 rfl) w_116 dX6_init_91) f_X6_57 (fun q hq => by cases hq; rfl) rfl (Or.inr ⟨_, rfl⟩) dX6_init_93)
  (sc_seq (p1 := 104) (sc_pff (p1 := 97) (p2 := 101) (ec_aload_n (i := 0) dX6_init_96 rfl) (ec_newi (p1 := 99) (ec_bipush (v := (8 : Int32)) dX6_init_97 rfl) w_116 dX6_init_99) f_X6_60 (fun q hq => by cases hq; rfl) rfl (Or.inr ⟨_, rfl⟩) dX6_init_101)
  (sc_seq (p1 := 112) (sc_pff (p1 := 105) (p2 := 109) (ec_aload_n (i := 0) dX6_init_104 rfl) (ec_newi (p1 := 107) (ec_bipush (v := (40 : Int32)) dX6_init_105 rfl) w_116 dX6_init_107) f_X6_63 (fun q hq => by cases hq; rfl) rfl (Or.inr ⟨_, rfl⟩) dX6_init_109)
  (sc_seq (p1 := 120) (sc_pff (p1 := 113) (p2 := 117) (ec_aload_n (i := 0) dX6_init_112 rfl) (ec_newi (p1 := 115) (ec_bipush (v := (36 : Int32)) dX6_init_113 rfl) w_116 dX6_init_115) f_X6_66 (fun q hq => by cases hq; rfl) rfl (Or.inr ⟨_, rfl⟩) dX6_init_117)
  (sc_seq (p1 := 146) (sc_sc (sc_seq (p1 := 122) (sc_istore_n (p1 := 121) (i := 1) (ec_iconst (v := (0 : Int32)) dX6_init_120 rfl) dX6_init_121 rfl (Nat.le_of_ble_eq_true rfl))
  (sc_while (pB := 127) (pE := 146) (bc_icmp_ge_F (p1 := 123) (p2 := 124) (tgt := 146) (ec_iload_n (i := 1) dX6_init_122 rfl) (ec_iconst (v := (4 : Int32)) dX6_init_123 rfl) dX6_init_124 rfl)
  (sc_goto (p1 := 143) (sc_seq (p1 := 140) (sc_aas (p1 := 131) (p2 := 132) (p3 := 139) (by decide) rfl (ec_gr (p1 := 128) (ec_aload_n (i := 0) dX6_init_127 rfl) f_X6_32 dX6_init_128) (ec_iload_n (i := 1) dX6_init_131 rfl) (ec_new s_X2_init ⟨RX2, TX2, 3, tyX2, rfl, by decide, ing_X2, tyX2_ok, rfl, nf_X2, w_200, w_227, w_57⟩ ⟨(Or.inr (by decide +kernel)), ⟨Nat.le_of_ble_eq_true rfl, Nat.le_of_ble_eq_true rfl⟩, k_X2_init, rfl, w_229, rfl⟩ (by decide) dX6_init_132 dX6_init_135 dX6_init_136) dX6_init_139)
  (sc_iinc (v := (1)) dX6_init_140 rfl (Nat.le_of_ble_eq_true rfl))) dX6_init_143 rfl) FU)))
  (sc_vret dX6_init_146 rfl))))))))))))))))
theorem s_X6_init : MS M_X6_init D_X6_init := ms_of b_X6_init (by decide +kernel) rfl rfl
/-- SmokeRoofs.finding(I)I -/
abbrev C_X6_finding : CX := (cX6_finding, RX6, 2, 0, 0, "finding", (some .int))
abbrev M_X6_finding : MD := (yX6_finding, C_X6_finding)
theorem k_X6_finding : MOK M_X6_finding 1 := ⟨w_50, w_298, by decide +kernel, by decide +kernel, by decide +kernel⟩
theorem t_X6_finding : MVT M_X6_finding 1 6 := ⟨k_X6_finding, w_297, w_0, by decide, _, rfl, rfl⟩
def S_X6_finding : SD := (s_seq (s_aop (fun (x y : Int32) => x + y) (e_gr 6 5 (e_lr 0)) (e_li 1) (e_c (1 : Int32)))
  (s_ret Value.int (e_bin (fun (x y : Int32) => x - y) (e_c (-1000001 : Int32)) (e_li 1))))
def D_X6_finding : MDen := m_den 2 S_X6_finding
set_option maxRecDepth 100000 in
set_option maxHeartbeats 4000000 in
theorem b_X6_finding : SC C_X6_finding 0 0 S_X6_finding := by
  unfold S_X6_finding
  exact (sc_seq (p1 := 10) (sc_aop_iadd (p1 := 4) (p2 := 5) (p3 := 8) (ec_gr (p1 := 1) (ec_aload_n (i := 0) dX6_finding_0 rfl) f_X6_36 dX6_finding_1) (ec_iload_n (i := 1) dX6_finding_4 rfl) dX6_finding_5 dX6_finding_6 (ec_iconst (v := (1 : Int32)) dX6_finding_7 rfl) dX6_finding_8 dX6_finding_9)
  (sc_iret (p1 := 15) (ec_isub (p1 := 13) (p2 := 14) (ec_ldcw (v := (-1000001 : Int32)) dX6_finding_10 w_299) (ec_iload_n (i := 1) dX6_finding_13 rfl) dX6_finding_14) dX6_finding_15 rfl))
theorem s_X6_finding : MS M_X6_finding D_X6_finding := ms_of b_X6_finding (by decide +kernel) rfl rfl
/-- SmokeRoofs.isIn(III)Z -/
abbrev C_X6_isIn : CX := (cX6_isIn, RX6, 3, 0, 0, "isIn", (some .boolean))
abbrev M_X6_isIn : MD := (yX6_isIn, C_X6_isIn)
theorem k_X6_isIn : MOK M_X6_isIn 3 := ⟨w_50, w_294, by decide +kernel, by decide +kernel, by decide +kernel⟩
theorem t_X6_isIn : MST M_X6_isIn 3 := ⟨k_X6_isIn, w_293⟩
def S_X6_isIn : SD := (s_retz (e_b (b_and (e_bin (fun (x y : Int32) => decide (y ≤ x)) (e_li 0) (e_li 1)) (e_bin (fun (x y : Int32) => decide (x ≤ y)) (e_li 0) (e_li 2)))))
def D_X6_isIn : MDen := m_den 3 S_X6_isIn
set_option maxRecDepth 100000 in
set_option maxHeartbeats 4000000 in
theorem b_X6_isIn : SC C_X6_isIn 0 0 S_X6_isIn := by
  unfold S_X6_isIn
  exact (sc_zret (p1 := 15) (ec_bm (pT := 10) (bc_and (p1 := 5) (bc_icmp_lt_F (p1 := 1) (p2 := 2) (tgt := 14) (ec_iload_n (i := 0) dX6_isIn_0 rfl) (ec_iload_n (i := 1) dX6_isIn_1 rfl) dX6_isIn_2 rfl) (bc_icmp_gt_F (p1 := 6) (p2 := 7) (tgt := 14) (ec_iload_n (i := 0) dX6_isIn_5 rfl) (ec_iload_n (i := 2) dX6_isIn_6 rfl) dX6_isIn_7 rfl)) dX6_isIn_10 dX6_isIn_11 rfl dX6_isIn_14) dX6_isIn_15 rfl)
theorem s_X6_isIn : MS M_X6_isIn D_X6_isIn := ms_of b_X6_isIn (by decide +kernel) rfl rfl
/-- SmokeRoofs.isCell(I)Z -/
abbrev C_X6_isCell : CX := (cX6_isCell, RX6, 1, 1, 22, "isCell", (some .boolean))
abbrev M_X6_isCell : MD := (yX6_isCell, C_X6_isCell)
theorem k_X6_isCell : MOK M_X6_isCell 1 := ⟨w_50, w_291, by decide +kernel, by decide +kernel, by decide +kernel⟩
theorem t_X6_isCell : MST M_X6_isCell 1 := ⟨k_X6_isCell, w_290⟩
def S_X6_isCell : SD := (s_retz (e_call prI D_X6_isIn 3 (a_snoc Value.int (a_snoc Value.int (a_snoc Value.int a_nil (e_li 0)) (e_c (0 : Int32))) (e_c (35 : Int32)))))
def D_X6_isCell : MDen := m_den 1 S_X6_isCell
set_option maxRecDepth 100000 in
set_option maxHeartbeats 4000000 in
theorem b_X6_isCell : SC C_X6_isCell 0 0 S_X6_isCell := by
  unfold S_X6_isCell
  exact (sc_zret (p1 := 7) (ec_callS (m := 3) (p1 := 4) inj_I s_X6_isIn t_X6_isIn ⟨w_292, Nat.le_of_ble_eq_true rfl, Nat.le_of_ble_eq_true rfl⟩ (ac_snoc (n := 2) (c := 1) (p1 := 2) (ac_snoc (n := 1) (c := 1) (p1 := 1) (ac_snoc (n := 0) (c := 1) (p1 := 0) ac_nil (ec_iload_n (i := 0) dX6_isCell_0 rfl) rfl (fun _ => rfl) rfl) (ec_iconst (v := (0 : Int32)) dX6_isCell_1 rfl) rfl (fun _ => rfl) rfl) (ec_bipush (v := (35 : Int32)) dX6_isCell_2 rfl) rfl (fun _ => rfl) rfl) (Nat.le_of_ble_eq_true rfl) dX6_isCell_4) dX6_isCell_7 rfl)
theorem s_X6_isCell : MS M_X6_isCell D_X6_isCell := ms_of b_X6_isCell (by decide +kernel) rfl rfl
/-- SmokeRoofs.roof(II)I -/
abbrev C_X6_roof : CX := (cX6_roof, RX6, 4, 2, 42, "roof", (some .int))
abbrev M_X6_roof : MD := (yX6_roof, C_X6_roof)
theorem k_X6_roof : MOK M_X6_roof 2 := ⟨w_50, w_288, by decide +kernel, by decide +kernel, by decide +kernel⟩
theorem t_X6_roof : MVT M_X6_roof 2 6 := ⟨k_X6_roof, w_286, w_287, by decide, _, rfl, rfl⟩
def S_X6_roof : SD := (s_seq (s_if (b_or (b_not (b_of (e_call prI D_X6_isCell 1 (a_snoc Value.int a_nil (e_li 1))))) (b_not (b_of (e_call prI D_X6_isIn 3 (a_snoc Value.int (a_snoc Value.int (a_snoc Value.int a_nil (e_li 2)) (e_c (-1 : Int32))) (e_c (5 : Int32))))))) (s_ret Value.int (e_call prI D_X6_finding 2 (a_recv 6 (a_snoc Value.int (a_snoc Value.ref a_nil (e_lr 0)) (e_c (0 : Int32)))))) s_skip)
  (s_seq (s_st Value.int 3 (e_ai (e_gr 5 3 (e_gr 6 0 (e_lr 0))) (e_li 1)))
  (s_seq (s_as (e_gr 5 3 (e_gr 6 0 (e_lr 0))) (e_li 1) (e_li 2))
  (s_ret Value.int (e_li 3)))))
def D_X6_roof : MDen := m_den 4 S_X6_roof
set_option maxRecDepth 100000 in
set_option maxHeartbeats 4000000 in
theorem b_X6_roof : SC C_X6_roof 0 0 S_X6_roof := by
  unfold S_X6_roof
  exact (sc_seq (p1 := 22) (sc_if (pT := 16) (pF := 22) (p2 := 22) (bc_or (p1 := 7) (bc_not (bc_of_F (p2 := 4) (tgt := 16) (ec_callS (m := 1) (p1 := 1) inj_I s_X6_isCell t_X6_isCell ⟨w_289, Nat.le_of_ble_eq_true rfl, Nat.le_of_ble_eq_true rfl⟩ (ac_snoc (n := 0) (c := 1) (p1 := 0) ac_nil (ec_iload_n (i := 1) dX6_roof_0 rfl) rfl (fun _ => rfl) rfl) (Nat.le_of_ble_eq_true rfl) dX6_roof_1) dX6_roof_4 rfl)) (bc_not (bc_of_T (p2 := 13) (tgt := 22) (ec_callS (m := 3) (p1 := 10) inj_I s_X6_isIn t_X6_isIn ⟨w_292, Nat.le_of_ble_eq_true rfl, Nat.le_of_ble_eq_true rfl⟩ (ac_snoc (n := 2) (c := 1) (p1 := 9) (ac_snoc (n := 1) (c := 1) (p1 := 8) (ac_snoc (n := 0) (c := 1) (p1 := 7) ac_nil (ec_iload_n (i := 2) dX6_roof_7 rfl) rfl (fun _ => rfl) rfl) (ec_iconst (v := (-1 : Int32)) dX6_roof_8 rfl) rfl (fun _ => rfl) rfl) (ec_iconst (v := (5 : Int32)) dX6_roof_9 rfl) rfl (fun _ => rfl) rfl) (Nat.le_of_ble_eq_true rfl) dX6_roof_10) dX6_roof_13 rfl))) (sc_iret (p1 := 21) (ec_callV (m := 2) (p1 := 18) inj_I s_X6_finding t_X6_finding ⟨w_295, Nat.le_of_ble_eq_true rfl, Nat.le_of_ble_eq_true rfl⟩ (ac_snoc (n := 1) (c := 1) (p1 := 17) (ac_snoc (n := 0) (c := 1) (p1 := 16) ac_nil (ec_aload_n (i := 0) dX6_roof_16 rfl) rfl (fun _ => rfl) rfl) (ec_iconst (v := (0 : Int32)) dX6_roof_17 rfl) rfl (fun _ => rfl) rfl) (Nat.le_of_ble_eq_true rfl) dX6_roof_18) dX6_roof_21 rfl) sc_skip)
  (sc_seq (p1 := 32) (sc_istore_n (p1 := 31) (i := 3) (ec_ai (p1 := 29) (p2 := 30) (ec_gr (p1 := 26) (ec_gr (p1 := 23) (ec_aload_n (i := 0) dX6_roof_22 rfl) f_X6_10 dX6_roof_23) f_X6_82 dX6_roof_26) (ec_iload_n (i := 1) dX6_roof_29 rfl) dX6_roof_30) dX6_roof_31 rfl (Nat.le_of_ble_eq_true rfl))
  (sc_seq (p1 := 42) (sc_as (p1 := 39) (p2 := 40) (p3 := 41) (ec_gr (p1 := 36) (ec_gr (p1 := 33) (ec_aload_n (i := 0) dX6_roof_32 rfl) f_X6_10 dX6_roof_33) f_X6_82 dX6_roof_36) (ec_iload_n (i := 1) dX6_roof_39 rfl) (ec_iload_n (i := 2) dX6_roof_40 rfl) dX6_roof_41)
  (sc_iret (p1 := 43) (ec_iload_n (i := 3) dX6_roof_42 rfl) dX6_roof_43 rfl))))
theorem s_X6_roof : MS M_X6_roof D_X6_roof := ms_of b_X6_roof (by decide +kernel) rfl rfl
/-- SmokeRoofs.wind(II)I -/
abbrev C_X6_wind : CX := (cX6_wind, RX6, 4, 1, 22, "wind", (some .int))
abbrev M_X6_wind : MD := (yX6_wind, C_X6_wind)
theorem k_X6_wind : MOK M_X6_wind 2 := ⟨w_50, w_303, by decide +kernel, by decide +kernel, by decide +kernel⟩
theorem t_X6_wind : MVT M_X6_wind 2 6 := ⟨k_X6_wind, w_301, w_302, by decide, _, rfl, rfl⟩
def S_X6_wind : SD := (s_seq (s_if (b_or (b_not (b_of (e_call prI D_X6_isIn 3 (a_snoc Value.int (a_snoc Value.int (a_snoc Value.int a_nil (e_li 1)) (e_c (0 : Int32))) (e_c (23 : Int32)))))) (b_not (b_of (e_call prI D_X6_isIn 3 (a_snoc Value.int (a_snoc Value.int (a_snoc Value.int a_nil (e_li 2)) (e_c (0 : Int32))) (e_c (4 : Int32))))))) (s_ret Value.int (e_call prI D_X6_finding 2 (a_recv 6 (a_snoc Value.int (a_snoc Value.ref a_nil (e_lr 0)) (e_c (0 : Int32)))))) s_skip)
  (s_seq (s_st Value.int 3 (e_ai (e_gr 5 4 (e_gr 6 0 (e_lr 0))) (e_li 1)))
  (s_seq (s_as (e_gr 5 4 (e_gr 6 0 (e_lr 0))) (e_li 1) (e_li 2))
  (s_ret Value.int (e_li 3)))))
def D_X6_wind : MDen := m_den 4 S_X6_wind
set_option maxRecDepth 100000 in
set_option maxHeartbeats 4000000 in
theorem b_X6_wind : SC C_X6_wind 0 0 S_X6_wind := by
  unfold S_X6_wind
  exact (sc_seq (p1 := 25) (sc_if (pT := 19) (pF := 25) (p2 := 25) (bc_or (p1 := 10) (bc_not (bc_of_F (p2 := 7) (tgt := 19) (ec_callS (m := 3) (p1 := 4) inj_I s_X6_isIn t_X6_isIn ⟨w_292, Nat.le_of_ble_eq_true rfl, Nat.le_of_ble_eq_true rfl⟩ (ac_snoc (n := 2) (c := 1) (p1 := 2) (ac_snoc (n := 1) (c := 1) (p1 := 1) (ac_snoc (n := 0) (c := 1) (p1 := 0) ac_nil (ec_iload_n (i := 1) dX6_wind_0 rfl) rfl (fun _ => rfl) rfl) (ec_iconst (v := (0 : Int32)) dX6_wind_1 rfl) rfl (fun _ => rfl) rfl) (ec_bipush (v := (23 : Int32)) dX6_wind_2 rfl) rfl (fun _ => rfl) rfl) (Nat.le_of_ble_eq_true rfl) dX6_wind_4) dX6_wind_7 rfl)) (bc_not (bc_of_T (p2 := 16) (tgt := 25) (ec_callS (m := 3) (p1 := 13) inj_I s_X6_isIn t_X6_isIn ⟨w_292, Nat.le_of_ble_eq_true rfl, Nat.le_of_ble_eq_true rfl⟩ (ac_snoc (n := 2) (c := 1) (p1 := 12) (ac_snoc (n := 1) (c := 1) (p1 := 11) (ac_snoc (n := 0) (c := 1) (p1 := 10) ac_nil (ec_iload_n (i := 2) dX6_wind_10 rfl) rfl (fun _ => rfl) rfl) (ec_iconst (v := (0 : Int32)) dX6_wind_11 rfl) rfl (fun _ => rfl) rfl) (ec_iconst (v := (4 : Int32)) dX6_wind_12 rfl) rfl (fun _ => rfl) rfl) (Nat.le_of_ble_eq_true rfl) dX6_wind_13) dX6_wind_16 rfl))) (sc_iret (p1 := 24) (ec_callV (m := 2) (p1 := 21) inj_I s_X6_finding t_X6_finding ⟨w_295, Nat.le_of_ble_eq_true rfl, Nat.le_of_ble_eq_true rfl⟩ (ac_snoc (n := 1) (c := 1) (p1 := 20) (ac_snoc (n := 0) (c := 1) (p1 := 19) ac_nil (ec_aload_n (i := 0) dX6_wind_19 rfl) rfl (fun _ => rfl) rfl) (ec_iconst (v := (0 : Int32)) dX6_wind_20 rfl) rfl (fun _ => rfl) rfl) (Nat.le_of_ble_eq_true rfl) dX6_wind_21) dX6_wind_24 rfl) sc_skip)
  (sc_seq (p1 := 35) (sc_istore_n (p1 := 34) (i := 3) (ec_ai (p1 := 32) (p2 := 33) (ec_gr (p1 := 29) (ec_gr (p1 := 26) (ec_aload_n (i := 0) dX6_wind_25 rfl) f_X6_10 dX6_wind_26) f_X6_85 dX6_wind_29) (ec_iload_n (i := 1) dX6_wind_32 rfl) dX6_wind_33) dX6_wind_34 rfl (Nat.le_of_ble_eq_true rfl))
  (sc_seq (p1 := 45) (sc_as (p1 := 42) (p2 := 43) (p3 := 44) (ec_gr (p1 := 39) (ec_gr (p1 := 36) (ec_aload_n (i := 0) dX6_wind_35 rfl) f_X6_10 dX6_wind_36) f_X6_85 dX6_wind_39) (ec_iload_n (i := 1) dX6_wind_42 rfl) (ec_iload_n (i := 2) dX6_wind_43 rfl) dX6_wind_44)
  (sc_iret (p1 := 46) (ec_iload_n (i := 3) dX6_wind_45 rfl) dX6_wind_46 rfl))))
theorem s_X6_wind : MS M_X6_wind D_X6_wind := ms_of b_X6_wind (by decide +kernel) rfl rfl
/-- SmokeRoofs.isKind(I)Z -/
abbrev C_X6_isKind : CX := (cX6_isKind, RX6, 1, 1, 22, "isKind", (some .boolean))
abbrev M_X6_isKind : MD := (yX6_isKind, C_X6_isKind)
theorem k_X6_isKind : MOK M_X6_isKind 1 := ⟨w_50, w_310, by decide +kernel, by decide +kernel, by decide +kernel⟩
theorem t_X6_isKind : MST M_X6_isKind 1 := ⟨k_X6_isKind, w_309⟩
def S_X6_isKind : SD := (s_retz (e_call prI D_X6_isIn 3 (a_snoc Value.int (a_snoc Value.int (a_snoc Value.int a_nil (e_li 0)) (e_c (0 : Int32))) (e_c (6 : Int32)))))
def D_X6_isKind : MDen := m_den 1 S_X6_isKind
set_option maxRecDepth 100000 in
set_option maxHeartbeats 4000000 in
theorem b_X6_isKind : SC C_X6_isKind 0 0 S_X6_isKind := by
  unfold S_X6_isKind
  exact (sc_zret (p1 := 7) (ec_callS (m := 3) (p1 := 4) inj_I s_X6_isIn t_X6_isIn ⟨w_292, Nat.le_of_ble_eq_true rfl, Nat.le_of_ble_eq_true rfl⟩ (ac_snoc (n := 2) (c := 1) (p1 := 2) (ac_snoc (n := 1) (c := 1) (p1 := 1) (ac_snoc (n := 0) (c := 1) (p1 := 0) ac_nil (ec_iload_n (i := 0) dX6_isKind_0 rfl) rfl (fun _ => rfl) rfl) (ec_iconst (v := (0 : Int32)) dX6_isKind_1 rfl) rfl (fun _ => rfl) rfl) (ec_bipush (v := (6 : Int32)) dX6_isKind_2 rfl) rfl (fun _ => rfl) rfl) (Nat.le_of_ble_eq_true rfl) dX6_isKind_4) dX6_isKind_7 rfl)
theorem s_X6_isKind : MS M_X6_isKind D_X6_isKind := ms_of b_X6_isKind (by decide +kernel) rfl rfl
/-- SmokeRoofs.isOwner(I)Z -/
abbrev C_X6_isOwner : CX := (cX6_isOwner, RX6, 1, 1, 22, "isOwner", (some .boolean))
abbrev M_X6_isOwner : MD := (yX6_isOwner, C_X6_isOwner)
theorem k_X6_isOwner : MOK M_X6_isOwner 1 := ⟨w_50, w_313, by decide +kernel, by decide +kernel, by decide +kernel⟩
theorem t_X6_isOwner : MST M_X6_isOwner 1 := ⟨k_X6_isOwner, w_312⟩
def S_X6_isOwner : SD := (s_retz (e_call prI D_X6_isIn 3 (a_snoc Value.int (a_snoc Value.int (a_snoc Value.int a_nil (e_li 0)) (e_c (0 : Int32))) (e_c (5 : Int32)))))
def D_X6_isOwner : MDen := m_den 1 S_X6_isOwner
set_option maxRecDepth 100000 in
set_option maxHeartbeats 4000000 in
theorem b_X6_isOwner : SC C_X6_isOwner 0 0 S_X6_isOwner := by
  unfold S_X6_isOwner
  exact (sc_zret (p1 := 6) (ec_callS (m := 3) (p1 := 3) inj_I s_X6_isIn t_X6_isIn ⟨w_292, Nat.le_of_ble_eq_true rfl, Nat.le_of_ble_eq_true rfl⟩ (ac_snoc (n := 2) (c := 1) (p1 := 2) (ac_snoc (n := 1) (c := 1) (p1 := 1) (ac_snoc (n := 0) (c := 1) (p1 := 0) ac_nil (ec_iload_n (i := 0) dX6_isOwner_0 rfl) rfl (fun _ => rfl) rfl) (ec_iconst (v := (0 : Int32)) dX6_isOwner_1 rfl) rfl (fun _ => rfl) rfl) (ec_iconst (v := (5 : Int32)) dX6_isOwner_2 rfl) rfl (fun _ => rfl) rfl) (Nat.le_of_ble_eq_true rfl) dX6_isOwner_3) dX6_isOwner_6 rfl)
theorem s_X6_isOwner : MS M_X6_isOwner D_X6_isOwner := ms_of b_X6_isOwner (by decide +kernel) rfl rfl
/-- SmokeRoofs$Town.isFull()Z -/
abbrev C_X5_isFull : CX := (cX5_isFull, RX5, 1, 0, 0, "isFull", (some .boolean))
abbrev M_X5_isFull : MD := (yX5_isFull, C_X5_isFull)
theorem k_X5_isFull : MOK M_X5_isFull 0 := ⟨w_51, w_317, by decide +kernel, by decide +kernel, by decide +kernel⟩
theorem t_X5_isFull : MVT M_X5_isFull 0 5 := ⟨k_X5_isFull, w_315, w_316, by decide, _, rfl, rfl⟩
def S_X5_isFull : SD := (s_retz (e_b (e_bin (fun (x y : Int32) => decide (y ≤ x)) (e_gi 5 2 (e_lr 0)) (e_c (8 : Int32)))))
def D_X5_isFull : MDen := m_den 1 S_X5_isFull
set_option maxRecDepth 100000 in
set_option maxHeartbeats 4000000 in
theorem b_X5_isFull : SC C_X5_isFull 0 0 S_X5_isFull := by
  unfold S_X5_isFull
  exact (sc_zret (p1 := 14) (ec_bm (pT := 9) (bc_icmp_lt_F (p1 := 4) (p2 := 6) (tgt := 13) (ec_gi (p1 := 1) (ec_aload_n (i := 0) dX5_isFull_0 rfl) f_X5_18 dX5_isFull_1) (ec_bipush (v := (8 : Int32)) dX5_isFull_4 rfl) dX5_isFull_6 rfl) dX5_isFull_9 dX5_isFull_10 rfl dX5_isFull_13) dX5_isFull_14 rfl)
theorem s_X5_isFull : MS M_X5_isFull D_X5_isFull := ms_of b_X5_isFull (by decide +kernel) rfl rfl
/-- SmokeRoofs$Chimney.begin(III)V -/
abbrev C_X0_begin : CX := (cX0_begin, RX0, 4, 1, 23, "begin", none)
abbrev M_X0_begin : MD := (yX0_begin, C_X0_begin)
theorem k_X0_begin : MOK M_X0_begin 3 := ⟨w_53, w_325, by decide +kernel, by decide +kernel, by decide +kernel⟩
theorem t_X0_begin : MVT M_X0_begin 3 0 := ⟨k_X0_begin, w_323, w_324, by decide, _, rfl, rfl⟩
def S_X0_begin : SD := (s_seq (s_seq (s_as (e_gr 0 0 (e_lr 0)) (e_c (0 : Int32)) (e_li 1))
  (s_seq (s_as (e_gr 0 0 (e_lr 0)) (e_c (1 : Int32)) (e_li 2))
  (s_seq (s_as (e_gr 0 0 (e_lr 0)) (e_c (2 : Int32)) (e_li 3))
  (s_seq (s_as (e_gr 0 0 (e_lr 0)) (e_c (3 : Int32)) (e_c (1 : Int32)))
  (s_seq (s_as (e_gr 0 0 (e_lr 0)) (e_c (4 : Int32)) (e_c (20 : Int32)))
  (s_seq (s_as (e_gr 0 0 (e_lr 0)) (e_c (5 : Int32)) (e_c (0 : Int32)))
  (s_seq (s_as (e_gr 0 0 (e_lr 0)) (e_c (6 : Int32)) (e_c (24 : Int32)))
  (s_seq (s_call D_J7_fill_53178 2 (a_snoc Value.int (a_snoc Value.ref a_nil (e_gr 0 1 (e_lr 0))) (e_c (0 : Int32))))
  (s_seq (s_call D_J7_fill_53178 2 (a_snoc Value.int (a_snoc Value.ref a_nil (e_gr 0 2 (e_lr 0))) (e_c (0 : Int32))))
  (s_seq (s_pf Value.int 0 3 (e_lr 0) (e_c (0 : Int32)))
  (s_seq (s_pf Value.int 0 4 (e_lr 0) (e_c (0 : Int32)))
  (s_pf Value.int 0 5 (e_lr 0) (e_c (0 : Int32))))))))))))))
  s_retv)
def D_X0_begin : MDen := m_den 4 S_X0_begin
set_option maxRecDepth 100000 in
set_option maxHeartbeats 4000000 in
theorem b_X0_begin : SC C_X0_begin 0 0 S_X0_begin := by
  unfold S_X0_begin
  exact (sc_seq (p1 := 83) (sc_seq (p1 := 7) (sc_as (p1 := 4) (p2 := 5) (p3 := 6) (ec_gr (p1 := 1) (ec_aload_n (i := 0) dX0_begin_0 rfl) f_X0_9 dX0_begin_1) (ec_iconst (v := (0 : Int32)) dX0_begin_4 rfl) (ec_iload_n (i := 1) dX0_begin_5 rfl) dX0_begin_6)
  (sc_seq (p1 := 14) (sc_as (p1 := 11) (p2 := 12) (p3 := 13) (ec_gr (p1 := 8) (ec_aload_n (i := 0) dX0_begin_7 rfl) f_X0_9 dX0_begin_8) (ec_iconst (v := (1 : Int32)) dX0_begin_11 rfl) (ec_iload_n (i := 2) dX0_begin_12 rfl) dX0_begin_13)
  (sc_seq (p1 := 21) (sc_as (p1 := 18) (p2 := 19) (p3 := 20) (ec_gr (p1 := 15) (ec_aload_n (i := 0) dX0_begin_14 rfl) f_X0_9 dX0_begin_15) (ec_iconst (v := (2 : Int32)) dX0_begin_18 rfl) (ec_iload_n (i := 3) dX0_begin_19 rfl) dX0_begin_20)
  (sc_seq (p1 := 28) (sc_as (p1 := 25) (p2 := 26) (p3 := 27) (ec_gr (p1 := 22) (ec_aload_n (i := 0) dX0_begin_21 rfl) f_X0_9 dX0_begin_22) (ec_iconst (v := (3 : Int32)) dX0_begin_25 rfl) (ec_iconst (v := (1 : Int32)) dX0_begin_26 rfl) dX0_begin_27)
  (sc_seq (p1 := 36) (sc_as (p1 := 32) (p2 := 33) (p3 := 35) (ec_gr (p1 := 29) (ec_aload_n (i := 0) dX0_begin_28 rfl) f_X0_9 dX0_begin_29) (ec_iconst (v := (4 : Int32)) dX0_begin_32 rfl) (ec_bipush (v := (20 : Int32)) dX0_begin_33 rfl) dX0_begin_35)
  (sc_seq (p1 := 43) (sc_as (p1 := 40) (p2 := 41) (p3 := 42) (ec_gr (p1 := 37) (ec_aload_n (i := 0) dX0_begin_36 rfl) f_X0_9 dX0_begin_37) (ec_iconst (v := (5 : Int32)) dX0_begin_40 rfl) (ec_iconst (v := (0 : Int32)) dX0_begin_41 rfl) dX0_begin_42)
  (sc_seq (p1 := 52) (sc_as (p1 := 47) (p2 := 49) (p3 := 51) (ec_gr (p1 := 44) (ec_aload_n (i := 0) dX0_begin_43 rfl) f_X0_9 dX0_begin_44) (ec_bipush (v := (6 : Int32)) dX0_begin_47 rfl) (ec_bipush (v := (24 : Int32)) dX0_begin_49 rfl) dX0_begin_51)
  (sc_seq (p1 := 60) (sc_callS (m := 2) (p1 := 57) s_J7_fill_53178 t_J7_fill_53178 ⟨w_326, Nat.le_of_ble_eq_true rfl, Nat.le_of_ble_eq_true rfl⟩ (ac_snoc (n := 1) (c := 1) (p1 := 56) (ac_snoc (n := 0) (c := 1) (p1 := 52) ac_nil (ec_gr (p1 := 53) (ec_aload_n (i := 0) dX0_begin_52 rfl) f_X0_15 dX0_begin_53) rfl (fun _ => rfl) rfl) (ec_iconst (v := (0 : Int32)) dX0_begin_56 rfl) rfl (fun _ => rfl) rfl) dX0_begin_57)
  (sc_seq (p1 := 68) (sc_callS (m := 2) (p1 := 65) s_J7_fill_53178 t_J7_fill_53178 ⟨w_326, Nat.le_of_ble_eq_true rfl, Nat.le_of_ble_eq_true rfl⟩ (ac_snoc (n := 1) (c := 1) (p1 := 64) (ac_snoc (n := 0) (c := 1) (p1 := 60) ac_nil (ec_gr (p1 := 61) (ec_aload_n (i := 0) dX0_begin_60 rfl) f_X0_18 dX0_begin_61) rfl (fun _ => rfl) rfl) (ec_iconst (v := (0 : Int32)) dX0_begin_64 rfl) rfl (fun _ => rfl) rfl) dX0_begin_65)
  (sc_seq (p1 := 73) (sc_pf (p1 := 69) (p2 := 70) (ec_aload_n (i := 0) dX0_begin_68 rfl) (ec_iconst (v := (0 : Int32)) dX0_begin_69 rfl) f_X0_21 dX0_begin_70)
  (sc_seq (p1 := 78) (sc_pf (p1 := 74) (p2 := 75) (ec_aload_n (i := 0) dX0_begin_73 rfl) (ec_iconst (v := (0 : Int32)) dX0_begin_74 rfl) f_X0_25 dX0_begin_75)
  (sc_pf (p1 := 79) (p2 := 80) (ec_aload_n (i := 0) dX0_begin_78 rfl) (ec_iconst (v := (0 : Int32)) dX0_begin_79 rfl) f_X0_28 dX0_begin_80))))))))))))
  (sc_vret dX0_begin_83 rfl))
theorem s_X0_begin : MS M_X0_begin D_X0_begin := ms_of b_X0_begin (by decide +kernel) rfl rfl
/-- SmokeRoofs$Town.raise(III)I -/
abbrev C_X5_raise : CX := (cX5_raise, RX5, 4, 2, 46, "raise", (some .int))
abbrev M_X5_raise : MD := (yX5_raise, C_X5_raise)
theorem k_X5_raise : MOK M_X5_raise 3 := ⟨w_51, w_321, by decide +kernel, by decide +kernel, by decide +kernel⟩
theorem t_X5_raise : MVT M_X5_raise 3 5 := ⟨k_X5_raise, w_319, w_320, by decide, _, rfl, rfl⟩
def S_X5_raise : SD := (s_seq (s_call D_X0_begin 4 (a_recv 0 (a_snoc Value.int (a_snoc Value.int (a_snoc Value.int (a_snoc Value.ref a_nil (e_ar 0 (e_gr 5 7 (e_lr 0)) (e_gi 5 2 (e_lr 0)))) (e_li 1)) (e_li 2)) (e_li 3))))
  (s_seq (s_fop (fun (x y : Int32) => x + y) 5 2 (e_lr 0) (e_c (1 : Int32)))
  (s_ret Value.int (e_bin (fun (x y : Int32) => x - y) (e_gi 5 2 (e_lr 0)) (e_c (1 : Int32))))))
def D_X5_raise : MDen := m_den 4 S_X5_raise
set_option maxRecDepth 100000 in
set_option maxHeartbeats 4000000 in
theorem b_X5_raise : SC C_X5_raise 0 0 S_X5_raise := by
  unfold S_X5_raise
  exact (sc_seq (p1 := 15) (sc_callV (m := 4) (p1 := 12) s_X0_begin t_X0_begin ⟨w_322, Nat.le_of_ble_eq_true rfl, Nat.le_of_ble_eq_true rfl⟩ (ac_snoc (n := 3) (c := 1) (p1 := 11) (ac_snoc (n := 2) (c := 1) (p1 := 10) (ac_snoc (n := 1) (c := 1) (p1 := 9) (ac_snoc (n := 0) (c := 1) (p1 := 0) ac_nil (ec_ar (p1 := 4) (p2 := 8) (Nat.le_of_ble_eq_true rfl) (ec_gr (p1 := 1) (ec_aload_n (i := 0) dX5_raise_0 rfl) f_X5_36 dX5_raise_1) (ec_gi (p1 := 5) (ec_aload_n (i := 0) dX5_raise_4 rfl) f_X5_18 dX5_raise_5) dX5_raise_8) rfl (fun _ => rfl) rfl) (ec_iload_n (i := 1) dX5_raise_9 rfl) rfl (fun _ => rfl) rfl) (ec_iload_n (i := 2) dX5_raise_10 rfl) rfl (fun _ => rfl) rfl) (ec_iload_n (i := 3) dX5_raise_11 rfl) rfl (fun _ => rfl) rfl) dX5_raise_12)
  (sc_seq (p1 := 25) (sc_fop_iadd (p1 := 16) (p3 := 21) (ec_aload_n (i := 0) dX5_raise_15 rfl) dX5_raise_16 f_X5_18 dX5_raise_17 (ec_iconst (v := (1 : Int32)) dX5_raise_20 rfl) dX5_raise_21 dX5_raise_22)
  (sc_iret (p1 := 31) (ec_isub (p1 := 29) (p2 := 30) (ec_gi (p1 := 26) (ec_aload_n (i := 0) dX5_raise_25 rfl) f_X5_18 dX5_raise_26) (ec_iconst (v := (1 : Int32)) dX5_raise_29 rfl) dX5_raise_30) dX5_raise_31 rfl)))
theorem s_X5_raise : MS M_X5_raise D_X5_raise := ms_of b_X5_raise (by decide +kernel) rfl rfl
/-- SmokeRoofs.chimney(III)I -/
abbrev C_X6_chimney : CX := (cX6_chimney, RX6, 4, 3, 69, "chimney", (some .int))
abbrev M_X6_chimney : MD := (yX6_chimney, C_X6_chimney)
theorem k_X6_chimney : MOK M_X6_chimney 3 := ⟨w_50, w_307, by decide +kernel, by decide +kernel, by decide +kernel⟩
theorem t_X6_chimney : MVT M_X6_chimney 3 6 := ⟨k_X6_chimney, w_305, w_306, by decide, _, rfl, rfl⟩
def S_X6_chimney : SD := (s_seq (s_if (b_or (b_or (b_not (b_of (e_call prI D_X6_isKind 1 (a_snoc Value.int a_nil (e_li 1))))) (b_not (b_of (e_call prI D_X6_isOwner 1 (a_snoc Value.int a_nil (e_li 2)))))) (b_not (b_of (e_call prI D_X6_isCell 1 (a_snoc Value.int a_nil (e_li 3)))))) (s_ret Value.int (e_call prI D_X6_finding 2 (a_recv 6 (a_snoc Value.int (a_snoc Value.ref a_nil (e_lr 0)) (e_c (0 : Int32)))))) s_skip)
  (s_seq (s_if (b_of (e_call prI D_X5_isFull 1 (a_recv 5 (a_snoc Value.ref a_nil (e_gr 6 0 (e_lr 0)))))) (s_ret Value.int (e_call prI D_X6_finding 2 (a_recv 6 (a_snoc Value.int (a_snoc Value.ref a_nil (e_lr 0)) (e_c (1 : Int32)))))) s_skip)
  (s_ret Value.int (e_call prI D_X5_raise 4 (a_recv 5 (a_snoc Value.int (a_snoc Value.int (a_snoc Value.int (a_snoc Value.ref a_nil (e_gr 6 0 (e_lr 0))) (e_li 1)) (e_li 2)) (e_li 3)))))))
def D_X6_chimney : MDen := m_den 4 S_X6_chimney
set_option maxRecDepth 100000 in
set_option maxHeartbeats 4000000 in
theorem b_X6_chimney : SC C_X6_chimney 0 0 S_X6_chimney := by
  unfold S_X6_chimney
  exact (sc_seq (p1 := 27) (sc_if (pT := 21) (pF := 27) (p2 := 27) (bc_or (p1 := 14) (bc_or (p1 := 7) (bc_not (bc_of_F (p2 := 4) (tgt := 21) (ec_callS (m := 1) (p1 := 1) inj_I s_X6_isKind t_X6_isKind ⟨w_308, Nat.le_of_ble_eq_true rfl, Nat.le_of_ble_eq_true rfl⟩ (ac_snoc (n := 0) (c := 1) (p1 := 0) ac_nil (ec_iload_n (i := 1) dX6_chimney_0 rfl) rfl (fun _ => rfl) rfl) (Nat.le_of_ble_eq_true rfl) dX6_chimney_1) dX6_chimney_4 rfl)) (bc_not (bc_of_F (p2 := 11) (tgt := 21) (ec_callS (m := 1) (p1 := 8) inj_I s_X6_isOwner t_X6_isOwner ⟨w_311, Nat.le_of_ble_eq_true rfl, Nat.le_of_ble_eq_true rfl⟩ (ac_snoc (n := 0) (c := 1) (p1 := 7) ac_nil (ec_iload_n (i := 2) dX6_chimney_7 rfl) rfl (fun _ => rfl) rfl) (Nat.le_of_ble_eq_true rfl) dX6_chimney_8) dX6_chimney_11 rfl))) (bc_not (bc_of_T (p2 := 18) (tgt := 27) (ec_callS (m := 1) (p1 := 15) inj_I s_X6_isCell t_X6_isCell ⟨w_289, Nat.le_of_ble_eq_true rfl, Nat.le_of_ble_eq_true rfl⟩ (ac_snoc (n := 0) (c := 1) (p1 := 14) ac_nil (ec_iload_n (i := 3) dX6_chimney_14 rfl) rfl (fun _ => rfl) rfl) (Nat.le_of_ble_eq_true rfl) dX6_chimney_15) dX6_chimney_18 rfl))) (sc_iret (p1 := 26) (ec_callV (m := 2) (p1 := 23) inj_I s_X6_finding t_X6_finding ⟨w_295, Nat.le_of_ble_eq_true rfl, Nat.le_of_ble_eq_true rfl⟩ (ac_snoc (n := 1) (c := 1) (p1 := 22) (ac_snoc (n := 0) (c := 1) (p1 := 21) ac_nil (ec_aload_n (i := 0) dX6_chimney_21 rfl) rfl (fun _ => rfl) rfl) (ec_iconst (v := (0 : Int32)) dX6_chimney_22 rfl) rfl (fun _ => rfl) rfl) (Nat.le_of_ble_eq_true rfl) dX6_chimney_23) dX6_chimney_26 rfl) sc_skip)
  (sc_seq (p1 := 43) (sc_if (pT := 37) (pF := 43) (p2 := 43) (bc_of_F (p2 := 34) (tgt := 43) (ec_callV (m := 1) (p1 := 31) inj_I s_X5_isFull t_X5_isFull ⟨w_314, Nat.le_of_ble_eq_true rfl, Nat.le_of_ble_eq_true rfl⟩ (ac_snoc (n := 0) (c := 1) (p1 := 27) ac_nil (ec_gr (p1 := 28) (ec_aload_n (i := 0) dX6_chimney_27 rfl) f_X6_10 dX6_chimney_28) rfl (fun _ => rfl) rfl) (Nat.le_of_ble_eq_true rfl) dX6_chimney_31) dX6_chimney_34 rfl) (sc_iret (p1 := 42) (ec_callV (m := 2) (p1 := 39) inj_I s_X6_finding t_X6_finding ⟨w_295, Nat.le_of_ble_eq_true rfl, Nat.le_of_ble_eq_true rfl⟩ (ac_snoc (n := 1) (c := 1) (p1 := 38) (ac_snoc (n := 0) (c := 1) (p1 := 37) ac_nil (ec_aload_n (i := 0) dX6_chimney_37 rfl) rfl (fun _ => rfl) rfl) (ec_iconst (v := (1 : Int32)) dX6_chimney_38 rfl) rfl (fun _ => rfl) rfl) (Nat.le_of_ble_eq_true rfl) dX6_chimney_39) dX6_chimney_42 rfl) sc_skip)
  (sc_iret (p1 := 53) (ec_callV (m := 4) (p1 := 50) inj_I s_X5_raise t_X5_raise ⟨w_318, Nat.le_of_ble_eq_true rfl, Nat.le_of_ble_eq_true rfl⟩ (ac_snoc (n := 3) (c := 1) (p1 := 49) (ac_snoc (n := 2) (c := 1) (p1 := 48) (ac_snoc (n := 1) (c := 1) (p1 := 47) (ac_snoc (n := 0) (c := 1) (p1 := 43) ac_nil (ec_gr (p1 := 44) (ec_aload_n (i := 0) dX6_chimney_43 rfl) f_X6_10 dX6_chimney_44) rfl (fun _ => rfl) rfl) (ec_iload_n (i := 1) dX6_chimney_47 rfl) rfl (fun _ => rfl) rfl) (ec_iload_n (i := 2) dX6_chimney_48 rfl) rfl (fun _ => rfl) rfl) (ec_iload_n (i := 3) dX6_chimney_49 rfl) rfl (fun _ => rfl) rfl) (Nat.le_of_ble_eq_true rfl) dX6_chimney_50) dX6_chimney_53 rfl)))
theorem s_X6_chimney : MS M_X6_chimney D_X6_chimney := ms_of b_X6_chimney (by decide +kernel) rfl rfl
/-- SmokeRoofs.isChimney(I)Z -/
abbrev C_X6_isChimney : CX := (cX6_isChimney, RX6, 2, 1, 22, "isChimney", (some .boolean))
abbrev M_X6_isChimney : MD := (yX6_isChimney, C_X6_isChimney)
theorem k_X6_isChimney : MOK M_X6_isChimney 1 := ⟨w_50, w_334, by decide +kernel, by decide +kernel, by decide +kernel⟩
theorem t_X6_isChimney : MVT M_X6_isChimney 1 6 := ⟨k_X6_isChimney, w_333, w_1, by decide, _, rfl, rfl⟩
def S_X6_isChimney : SD := (s_retz (e_call prI D_X6_isIn 3 (a_snoc Value.int (a_snoc Value.int (a_snoc Value.int a_nil (e_li 1)) (e_c (0 : Int32))) (e_bin (fun (x y : Int32) => x - y) (e_gi 5 2 (e_gr 6 0 (e_lr 0))) (e_c (1 : Int32))))))
def D_X6_isChimney : MDen := m_den 2 S_X6_isChimney
set_option maxRecDepth 100000 in
set_option maxHeartbeats 4000000 in
theorem b_X6_isChimney : SC C_X6_isChimney 0 0 S_X6_isChimney := by
  unfold S_X6_isChimney
  exact (sc_zret (p1 := 14) (ec_callS (m := 3) (p1 := 11) inj_I s_X6_isIn t_X6_isIn ⟨w_292, Nat.le_of_ble_eq_true rfl, Nat.le_of_ble_eq_true rfl⟩ (ac_snoc (n := 2) (c := 1) (p1 := 2) (ac_snoc (n := 1) (c := 1) (p1 := 1) (ac_snoc (n := 0) (c := 1) (p1 := 0) ac_nil (ec_iload_n (i := 1) dX6_isChimney_0 rfl) rfl (fun _ => rfl) rfl) (ec_iconst (v := (0 : Int32)) dX6_isChimney_1 rfl) rfl (fun _ => rfl) rfl) (ec_isub (p1 := 9) (p2 := 10) (ec_gi (p1 := 6) (ec_gr (p1 := 3) (ec_aload_n (i := 0) dX6_isChimney_2 rfl) f_X6_10 dX6_isChimney_3) f_X6_178 dX6_isChimney_6) (ec_iconst (v := (1 : Int32)) dX6_isChimney_9 rfl) dX6_isChimney_10) rfl (fun _ => rfl) rfl) (Nat.le_of_ble_eq_true rfl) dX6_isChimney_11) dX6_isChimney_14 rfl)
theorem s_X6_isChimney : MS M_X6_isChimney D_X6_isChimney := ms_of b_X6_isChimney (by decide +kernel) rfl rfl
/-- SmokeRoofs$Chimney.burnsAt(I)I -/
abbrev C_X0_burnsAt : CX := (cX0_burnsAt, RX0, 3, 0, 0, "burnsAt", (some .int))
abbrev M_X0_burnsAt : MD := (yX0_burnsAt, C_X0_burnsAt)
theorem k_X0_burnsAt : MOK M_X0_burnsAt 1 := ⟨w_53, w_360, by decide +kernel, by decide +kernel, by decide +kernel⟩
theorem t_X0_burnsAt : MVT M_X0_burnsAt 1 0 := ⟨k_X0_burnsAt, w_358, w_359, by decide, _, rfl, rfl⟩
def S_X0_burnsAt : SD := (s_seq (s_st Value.int 2 (e_ai (e_gr 0 0 (e_lr 0)) (e_c (4 : Int32))))
  (s_tab (e_ai (e_gr 0 0 (e_lr 0)) (e_c (0 : Int32))) (3) (6) [(44, (s_ret Value.int (e_bin (fun (x y : Int32) => x * y) (e_c (2 : Int32)) (e_li 2)))),
  (54, (s_ret Value.int (e_if (e_bin (fun (x y : Int32) => decide (x < y)) (e_li 1) (e_c (12 : Int32))) (e_li 2) (e_c (0 : Int32))))),
  (66, (s_ret Value.int (e_li 2))),
  (48, (s_ret Value.int (e_bin (fun (x y : Int32) => x + y) (e_bin (fun (x y : Int32) => x * y) (e_c (2 : Int32)) (e_li 2)) (e_c (5 : Int32)))))] (s_ret Value.int (e_li 2))))
def D_X0_burnsAt : MDen := m_den 3 S_X0_burnsAt
set_option maxRecDepth 100000 in
set_option maxHeartbeats 4000000 in
theorem b_X0_burnsAt : SC C_X0_burnsAt 0 0 S_X0_burnsAt := by
  unfold S_X0_burnsAt
  exact (sc_seq (p1 := 7) (sc_istore_n (p1 := 6) (i := 2) (ec_ai (p1 := 4) (p2 := 5) (ec_gr (p1 := 1) (ec_aload_n (i := 0) dX0_burnsAt_0 rfl) f_X0_9 dX0_burnsAt_1) (ec_iconst (v := (4 : Int32)) dX0_burnsAt_4 rfl) dX0_burnsAt_5) dX0_burnsAt_6 rfl (Nat.le_of_ble_eq_true rfl))
  (sc_tab (p1 := 13) (pD := 66) (p2 := 0) (ec_ai (p1 := 11) (p2 := 12) (ec_gr (p1 := 8) (ec_aload_n (i := 0) dX0_burnsAt_7 rfl) f_X0_9 dX0_burnsAt_8) (ec_iconst (v := (0 : Int32)) dX0_burnsAt_11 rfl) dX0_burnsAt_12) dX0_burnsAt_13 (by decide) (sc_iret (p1 := 67) (ec_iload_n (i := 2) dX0_burnsAt_66 rfl) dX0_burnsAt_67 rfl) (by decide) ⟨(sc_iret (p1 := 47) (ec_imul (p1 := 45) (p2 := 46) (ec_iconst (v := (2 : Int32)) dX0_burnsAt_44 rfl) (ec_iload_n (i := 2) dX0_burnsAt_45 rfl) dX0_burnsAt_46) dX0_burnsAt_47 rfl), ⟨(sc_iret (p1 := 65) (ec_if (pT := 60) (pF := 64) (p1 := 61) (pE := 65) (bc_icmp_ge_F (p1 := 55) (p2 := 57) (tgt := 64) (ec_iload_n (i := 1) dX0_burnsAt_54 rfl) (ec_bipush (v := (12 : Int32)) dX0_burnsAt_55 rfl) dX0_burnsAt_57 rfl) (ec_iload_n (i := 2) dX0_burnsAt_60 rfl) dX0_burnsAt_61 rfl (ec_iconst (v := (0 : Int32)) dX0_burnsAt_64 rfl)) dX0_burnsAt_65 rfl), ⟨(sc_iret (p1 := 67) (ec_iload_n (i := 2) dX0_burnsAt_66 rfl) dX0_burnsAt_67 rfl), ⟨(sc_iret (p1 := 53) (ec_iadd (p1 := 51) (p2 := 52) (ec_imul (p1 := 49) (p2 := 50) (ec_iconst (v := (2 : Int32)) dX0_burnsAt_48 rfl) (ec_iload_n (i := 2) dX0_burnsAt_49 rfl) dX0_burnsAt_50) (ec_iconst (v := (5 : Int32)) dX0_burnsAt_51 rfl) dX0_burnsAt_52) dX0_burnsAt_53 rfl), trivial⟩⟩⟩⟩))
theorem s_X0_burnsAt : MS M_X0_burnsAt D_X0_burnsAt := ms_of b_X0_burnsAt (by decide +kernel) rfl rfl
/-- java/lang/Math.floorMod(II)I -/
abbrev C_J9_floorMod_7cf53 : CX := (cJ9_floorMod_7cf53, RJ9, 3, 0, 0, "floorMod", (some .int))
abbrev M_J9_floorMod_7cf53 : MD := (yJ9_floorMod_7cf53, C_J9_floorMod_7cf53)
theorem k_J9_floorMod_7cf53 : MOK M_J9_floorMod_7cf53 2 := ⟨w_59, w_356, by decide +kernel, by decide +kernel, by decide +kernel⟩
theorem t_J9_floorMod_7cf53 : MST M_J9_floorMod_7cf53 2 := ⟨k_J9_floorMod_7cf53, w_355⟩
def S_J9_floorMod_7cf53 : SD := (s_seq (s_st Value.int 2 (e_rem (e_li 0) (e_li 1)))
  (s_seq (s_if (b_and (e_un (fun (x : Int32) => decide (x < 0)) (e_bin (fun (x y : Int32) => x ^^^ y) (e_li 0) (e_li 1))) (e_un (fun (x : Int32) => decide (x ≠ 0)) (e_li 2))) (s_ret Value.int (e_bin (fun (x y : Int32) => x + y) (e_li 2) (e_li 1))) s_skip)
  (s_ret Value.int (e_li 2))))
def D_J9_floorMod_7cf53 : MDen := m_den 3 S_J9_floorMod_7cf53
set_option maxRecDepth 100000 in
set_option maxHeartbeats 4000000 in
theorem b_J9_floorMod_7cf53 : SC C_J9_floorMod_7cf53 0 0 S_J9_floorMod_7cf53 := by
  unfold S_J9_floorMod_7cf53
  exact (sc_seq (p1 := 4) (sc_istore_n (p1 := 3) (i := 2) (ec_irem (p1 := 1) (p2 := 2) (ec_iload_n (i := 0) dJ9_floorMod_7cf53_0 rfl) (ec_iload_n (i := 1) dJ9_floorMod_7cf53_1 rfl) dJ9_floorMod_7cf53_2) dJ9_floorMod_7cf53_3 rfl (Nat.le_of_ble_eq_true rfl))
  (sc_seq (p1 := 18) (sc_if (pT := 14) (pF := 18) (p2 := 18) (bc_and (p1 := 10) (bc_if_ge_F (p2 := 7) (tgt := 18) (ec_ixor (p1 := 5) (p2 := 6) (ec_iload_n (i := 0) dJ9_floorMod_7cf53_4 rfl) (ec_iload_n (i := 1) dJ9_floorMod_7cf53_5 rfl) dJ9_floorMod_7cf53_6) dJ9_floorMod_7cf53_7 rfl) (bc_if_eq_F (p2 := 11) (tgt := 18) (ec_iload_n (i := 2) dJ9_floorMod_7cf53_10 rfl) dJ9_floorMod_7cf53_11 rfl)) (sc_iret (p1 := 17) (ec_iadd (p1 := 15) (p2 := 16) (ec_iload_n (i := 2) dJ9_floorMod_7cf53_14 rfl) (ec_iload_n (i := 1) dJ9_floorMod_7cf53_15 rfl) dJ9_floorMod_7cf53_16) dJ9_floorMod_7cf53_17 rfl) sc_skip)
  (sc_iret (p1 := 19) (ec_iload_n (i := 2) dJ9_floorMod_7cf53_18 rfl) dJ9_floorMod_7cf53_19 rfl)))
theorem s_J9_floorMod_7cf53 : MS M_J9_floorMod_7cf53 D_J9_floorMod_7cf53 := ms_of b_J9_floorMod_7cf53 (by decide +kernel) rfl rfl
/-- SmokeRoofs$Chimney.isLitAt(I)Z -/
abbrev C_X0_isLitAt : CX := (cX0_isLitAt, RX0, 2, 1, 22, "isLitAt", (some .boolean))
abbrev M_X0_isLitAt : MD := (yX0_isLitAt, C_X0_isLitAt)
theorem k_X0_isLitAt : MOK M_X0_isLitAt 1 := ⟨w_53, w_353, by decide +kernel, by decide +kernel, by decide +kernel⟩
theorem t_X0_isLitAt : MVT M_X0_isLitAt 1 0 := ⟨k_X0_isLitAt, w_351, w_352, by decide, _, rfl, rfl⟩
def S_X0_isLitAt : SD := (s_retz (e_b (e_bin (fun (x y : Int32) => decide (x < y)) (e_call prI D_J9_floorMod_7cf53 2 (a_snoc Value.int (a_snoc Value.int a_nil (e_bin (fun (x y : Int32) => x - y) (e_li 1) (e_ai (e_gr 0 0 (e_lr 0)) (e_c (5 : Int32))))) (e_c (24 : Int32)))) (e_ai (e_gr 0 0 (e_lr 0)) (e_c (6 : Int32))))))
def D_X0_isLitAt : MDen := m_den 2 S_X0_isLitAt
set_option maxRecDepth 100000 in
set_option maxHeartbeats 4000000 in
theorem b_X0_isLitAt : SC C_X0_isLitAt 0 0 S_X0_isLitAt := by
  unfold S_X0_isLitAt
  exact (sc_zret (p1 := 28) (ec_bm (pT := 23) (bc_icmp_ge_F (p1 := 13) (p2 := 20) (tgt := 27) (ec_callS (m := 2) (p1 := 10) inj_I s_J9_floorMod_7cf53 t_J9_floorMod_7cf53 ⟨w_354, Nat.le_of_ble_eq_true rfl, Nat.le_of_ble_eq_true rfl⟩ (ac_snoc (n := 1) (c := 1) (p1 := 8) (ac_snoc (n := 0) (c := 1) (p1 := 0) ac_nil (ec_isub (p1 := 1) (p2 := 7) (ec_iload_n (i := 1) dX0_isLitAt_0 rfl) (ec_ai (p1 := 5) (p2 := 6) (ec_gr (p1 := 2) (ec_aload_n (i := 0) dX0_isLitAt_1 rfl) f_X0_9 dX0_isLitAt_2) (ec_iconst (v := (5 : Int32)) dX0_isLitAt_5 rfl) dX0_isLitAt_6) dX0_isLitAt_7) rfl (fun _ => rfl) rfl) (ec_bipush (v := (24 : Int32)) dX0_isLitAt_8 rfl) rfl (fun _ => rfl) rfl) (Nat.le_of_ble_eq_true rfl) dX0_isLitAt_10) (ec_ai (p1 := 17) (p2 := 19) (ec_gr (p1 := 14) (ec_aload_n (i := 0) dX0_isLitAt_13 rfl) f_X0_9 dX0_isLitAt_14) (ec_bipush (v := (6 : Int32)) dX0_isLitAt_17 rfl) dX0_isLitAt_19) dX0_isLitAt_20 rfl) dX0_isLitAt_23 dX0_isLitAt_24 rfl dX0_isLitAt_27) dX0_isLitAt_28 rfl)
theorem s_X0_isLitAt : MS M_X0_isLitAt D_X0_isLitAt := ms_of b_X0_isLitAt (by decide +kernel) rfl rfl
/-- java/lang/Math.max(II)I -/
abbrev C_J9_max_7cf53 : CX := (cJ9_max_7cf53, RJ9, 2, 0, 0, "max", (some .int))
abbrev M_J9_max_7cf53 : MD := (yJ9_max_7cf53, C_J9_max_7cf53)
theorem k_J9_max_7cf53 : MOK M_J9_max_7cf53 2 := ⟨w_59, w_349, by decide +kernel, by decide +kernel, by decide +kernel⟩
theorem t_J9_max_7cf53 : MST M_J9_max_7cf53 2 := ⟨k_J9_max_7cf53, w_348⟩
def S_J9_max_7cf53 : SD := (s_ret Value.int (e_if (e_bin (fun (x y : Int32) => decide (y ≤ x)) (e_li 0) (e_li 1)) (e_li 0) (e_li 1)))
def D_J9_max_7cf53 : MDen := m_den 2 S_J9_max_7cf53
set_option maxRecDepth 100000 in
set_option maxHeartbeats 4000000 in
theorem b_J9_max_7cf53 : SC C_J9_max_7cf53 0 0 S_J9_max_7cf53 := by
  unfold S_J9_max_7cf53
  exact (sc_iret (p1 := 10) (ec_if (pT := 5) (pF := 9) (p1 := 6) (pE := 10) (bc_icmp_lt_F (p1 := 1) (p2 := 2) (tgt := 9) (ec_iload_n (i := 0) dJ9_max_7cf53_0 rfl) (ec_iload_n (i := 1) dJ9_max_7cf53_1 rfl) dJ9_max_7cf53_2 rfl) (ec_iload_n (i := 0) dJ9_max_7cf53_5 rfl) dJ9_max_7cf53_6 rfl (ec_iload_n (i := 1) dJ9_max_7cf53_9 rfl)) dJ9_max_7cf53_10 rfl)
theorem s_J9_max_7cf53 : MS M_J9_max_7cf53 D_J9_max_7cf53 := ms_of b_J9_max_7cf53 (by decide +kernel) rfl rfl
/-- SmokeRoofs$Chimney.sooty()I -/
abbrev C_X0_sooty : CX := (cX0_sooty, RX0, 1, 1, 21, "sooty", (some .int))
abbrev M_X0_sooty : MD := (yX0_sooty, C_X0_sooty)
theorem k_X0_sooty : MOK M_X0_sooty 0 := ⟨w_53, w_344, by decide +kernel, by decide +kernel, by decide +kernel⟩
theorem t_X0_sooty : MVT M_X0_sooty 0 0 := ⟨k_X0_sooty, w_342, w_343, by decide, _, rfl, rfl⟩
def S_X0_sooty : SD := (s_ret Value.int (e_call prI D_J9_max_7cf53 2 (a_snoc Value.int (a_snoc Value.int a_nil (e_bin (fun (x y : Int32) => x - y) (e_ai (e_c (SPB + 3)) (e_ai (e_gr 0 0 (e_lr 0)) (e_c (0 : Int32)))) (e_bin (fun (x y : Int32) => x * y) (e_c (3 : Int32)) (e_ai (e_gr 0 0 (e_lr 0)) (e_c (3 : Int32)))))) (e_c (0 : Int32)))))
def D_X0_sooty : MDen := m_den 1 S_X0_sooty
set_option maxRecDepth 100000 in
set_option maxHeartbeats 4000000 in
theorem b_X0_sooty : SC C_X0_sooty 0 0 S_X0_sooty := by
  unfold S_X0_sooty
  exact (sc_iret (p1 := 23) (ec_callS (m := 2) (p1 := 20) inj_I s_J9_max_7cf53 t_J9_max_7cf53 ⟨w_347, Nat.le_of_ble_eq_true rfl, Nat.le_of_ble_eq_true rfl⟩ (ac_snoc (n := 1) (c := 1) (p1 := 19) (ac_snoc (n := 0) (c := 1) (p1 := 0) ac_nil (ec_isub (p1 := 10) (p2 := 18) (ec_ai (p1 := 3) (p2 := 9) (ec_stN (i := 3) (q := st_tab[3]) rfl (by decide +kernel) dX0_sooty_0) (ec_ai (p1 := 7) (p2 := 8) (ec_gr (p1 := 4) (ec_aload_n (i := 0) dX0_sooty_3 rfl) f_X0_9 dX0_sooty_4) (ec_iconst (v := (0 : Int32)) dX0_sooty_7 rfl) dX0_sooty_8) dX0_sooty_9) (ec_imul (p1 := 11) (p2 := 17) (ec_iconst (v := (3 : Int32)) dX0_sooty_10 rfl) (ec_ai (p1 := 15) (p2 := 16) (ec_gr (p1 := 12) (ec_aload_n (i := 0) dX0_sooty_11 rfl) f_X0_9 dX0_sooty_12) (ec_iconst (v := (3 : Int32)) dX0_sooty_15 rfl) dX0_sooty_16) dX0_sooty_17) dX0_sooty_18) rfl (fun _ => rfl) rfl) (ec_iconst (v := (0 : Int32)) dX0_sooty_19 rfl) rfl (fun _ => rfl) rfl) (Nat.le_of_ble_eq_true rfl) dX0_sooty_20) dX0_sooty_23 rfl)
theorem s_X0_sooty : MS M_X0_sooty D_X0_sooty := ms_of b_X0_sooty (by decide +kernel) rfl rfl
