/-- SmokeRoofs$Chimney.<init>()V -/
abbrev C_X0_init : CX := (cX0_init, RX0, 1, 1, 12, "<init>", none, fun _ => True)
abbrev M_X0_init : MD := (yX0_init, C_X0_init)
theorem k_X0_init : MOK M_X0_init 0 := ⟨w_53, w_87, by decide +kernel, by decide +kernel, by decide +kernel⟩
def S_X0_init : SD := (s_seq (s_obj (e_lr 0))
  (s_seq (s_pff 0 0 (e_lr 0) (e_newi (e_c (7 : Int32))))
  (s_seq (s_pff 0 1 (e_lr 0) (e_newi (e_c (36 : Int32))))
  (s_seq (s_pff 0 2 (e_lr 0) (e_newi (e_c (36 : Int32))))
  (s_seq (s_pf Value.int 0 3 (e_lr 0) (e_c (0 : Int32)))
  (s_seq (s_pf Value.int 0 4 (e_lr 0) (e_c (0 : Int32)))
  (s_seq (s_pf Value.int 0 5 (e_lr 0) (e_c (0 : Int32)))
  s_retv)))))))
def D_X0_init : MDen := m_den 1 S_X0_init
set_option maxRecDepth 100000 in
set_option maxHeartbeats 4000000 in
theorem b_X0_init : SC C_X0_init 0 0 S_X0_init := by
  unfold S_X0_init
  exact (sc_seq (C := C_X0_init) (p1 := 4) (sc_obj (C := C_X0_init) (p1 := 1) (ec_aload_n (C := C_X0_init) (i := 0) dX0_init_0 rfl) w_88 w_71 w_72 (by decide) dX0_init_1)
  (sc_seq (C := C_X0_init) (p1 := 12) (sc_pff (C := C_X0_init) (p1 := 5) (p2 := 9) (ec_aload_n (C := C_X0_init) (i := 0) dX0_init_4 rfl) (ec_newi (C := C_X0_init) (p1 := 7) (ec_bipush (C := C_X0_init) (v := (7 : Int32)) dX0_init_5 rfl) w_116 dX0_init_7) f_X0_9 (fun q hq => by cases hq; rfl) rfl (Or.inr ⟨_, rfl⟩) dX0_init_9)
  (sc_seq (C := C_X0_init) (p1 := 20) (sc_pff (C := C_X0_init) (p1 := 13) (p2 := 17) (ec_aload_n (C := C_X0_init) (i := 0) dX0_init_12 rfl) (ec_newi (C := C_X0_init) (p1 := 15) (ec_bipush (C := C_X0_init) (v := (36 : Int32)) dX0_init_13 rfl) w_116 dX0_init_15) f_X0_15 (fun q hq => by cases hq; rfl) rfl (Or.inr ⟨_, rfl⟩) dX0_init_17)
  (sc_seq (C := C_X0_init) (p1 := 28) (sc_pff (C := C_X0_init) (p1 := 21) (p2 := 25) (ec_aload_n (C := C_X0_init) (i := 0) dX0_init_20 rfl) (ec_newi (C := C_X0_init) (p1 := 23) (ec_bipush (C := C_X0_init) (v := (36 : Int32)) dX0_init_21 rfl) w_116 dX0_init_23) f_X0_18 (fun q hq => by cases hq; rfl) rfl (Or.inr ⟨_, rfl⟩) dX0_init_25)
  (sc_seq (C := C_X0_init) (p1 := 33) (sc_pf (C := C_X0_init) (p1 := 29) (p2 := 30) (ec_aload_n (C := C_X0_init) (i := 0) dX0_init_28 rfl) (ec_iconst (C := C_X0_init) (v := (0 : Int32)) dX0_init_29 rfl) f_X0_21 dX0_init_30)
  (sc_seq (C := C_X0_init) (p1 := 38) (sc_pf (C := C_X0_init) (p1 := 34) (p2 := 35) (ec_aload_n (C := C_X0_init) (i := 0) dX0_init_33 rfl) (ec_iconst (C := C_X0_init) (v := (0 : Int32)) dX0_init_34 rfl) f_X0_25 dX0_init_35)
  (sc_seq (C := C_X0_init) (p1 := 43) (sc_pf (C := C_X0_init) (p1 := 39) (p2 := 40) (ec_aload_n (C := C_X0_init) (i := 0) dX0_init_38 rfl) (ec_iconst (C := C_X0_init) (v := (0 : Int32)) dX0_init_39 rfl) f_X0_28 dX0_init_40)
  (sc_vret (C := C_X0_init) dX0_init_43 rfl))))))))
theorem s_X0_init : MS M_X0_init D_X0_init := ms_of b_X0_init (by decide +kernel) rfl rfl (fun _ => trivial)
/-- SmokeRoofs$Tape.<init>()V -/
abbrev C_X4_init : CX := (cX4_init, RX4, 1, 1, 12, "<init>", none, fun _ => True)
abbrev M_X4_init : MD := (yX4_init, C_X4_init)
theorem k_X4_init : MOK M_X4_init 0 := ⟨w_55, w_164, by decide +kernel, by decide +kernel, by decide +kernel⟩
def S_X4_init : SD := (s_seq (s_obj (e_lr 0))
  (s_seq (s_pff 4 0 (e_lr 0) (e_newi (e_c (120 : Int32))))
  (s_seq (s_pf Value.int 4 1 (e_lr 0) (e_c (0 : Int32)))
  (s_seq (s_pf Value.int 4 2 (e_lr 0) (e_c (-1 : Int32)))
  (s_seq (s_pf Value.int 4 3 (e_lr 0) (e_c (0 : Int32)))
  (s_seq (s_pf Value.int 4 4 (e_lr 0) (e_c (0 : Int32)))
  (s_seq (s_pf Value.int 4 5 (e_lr 0) (e_c (0 : Int32)))
  s_retv)))))))
def D_X4_init : MDen := m_den 1 S_X4_init
set_option maxRecDepth 100000 in
set_option maxHeartbeats 4000000 in
theorem b_X4_init : SC C_X4_init 0 0 S_X4_init := by
  unfold S_X4_init
  exact (sc_seq (C := C_X4_init) (p1 := 4) (sc_obj (C := C_X4_init) (p1 := 1) (ec_aload_n (C := C_X4_init) (i := 0) dX4_init_0 rfl) w_165 w_71 w_72 (by decide) dX4_init_1)
  (sc_seq (C := C_X4_init) (p1 := 12) (sc_pff (C := C_X4_init) (p1 := 5) (p2 := 9) (ec_aload_n (C := C_X4_init) (i := 0) dX4_init_4 rfl) (ec_newi (C := C_X4_init) (p1 := 7) (ec_bipush (C := C_X4_init) (v := (120 : Int32)) dX4_init_5 rfl) w_116 dX4_init_7) f_X4_9 (fun q hq => by cases hq; rfl) rfl (Or.inr ⟨_, rfl⟩) dX4_init_9)
  (sc_seq (C := C_X4_init) (p1 := 17) (sc_pf (C := C_X4_init) (p1 := 13) (p2 := 14) (ec_aload_n (C := C_X4_init) (i := 0) dX4_init_12 rfl) (ec_iconst (C := C_X4_init) (v := (0 : Int32)) dX4_init_13 rfl) f_X4_15 dX4_init_14)
  (sc_seq (C := C_X4_init) (p1 := 22) (sc_pf (C := C_X4_init) (p1 := 18) (p2 := 19) (ec_aload_n (C := C_X4_init) (i := 0) dX4_init_17 rfl) (ec_iconst (C := C_X4_init) (v := (-1 : Int32)) dX4_init_18 rfl) f_X4_19 dX4_init_19)
  (sc_seq (C := C_X4_init) (p1 := 27) (sc_pf (C := C_X4_init) (p1 := 23) (p2 := 24) (ec_aload_n (C := C_X4_init) (i := 0) dX4_init_22 rfl) (ec_iconst (C := C_X4_init) (v := (0 : Int32)) dX4_init_23 rfl) f_X4_22 dX4_init_24)
  (sc_seq (C := C_X4_init) (p1 := 32) (sc_pf (C := C_X4_init) (p1 := 28) (p2 := 29) (ec_aload_n (C := C_X4_init) (i := 0) dX4_init_27 rfl) (ec_iconst (C := C_X4_init) (v := (0 : Int32)) dX4_init_28 rfl) f_X4_25 dX4_init_29)
  (sc_seq (C := C_X4_init) (p1 := 37) (sc_pf (C := C_X4_init) (p1 := 33) (p2 := 34) (ec_aload_n (C := C_X4_init) (i := 0) dX4_init_32 rfl) (ec_iconst (C := C_X4_init) (v := (0 : Int32)) dX4_init_33 rfl) f_X4_28 dX4_init_34)
  (sc_vret (C := C_X4_init) dX4_init_37 rfl))))))))
theorem s_X4_init : MS M_X4_init D_X4_init := ms_of b_X4_init (by decide +kernel) rfl rfl (fun _ => trivial)
/-- SmokeRoofs$Reader.<init>()V -/
abbrev C_X1_init : CX := (cX1_init, RX1, 1, 2, 32, "<init>", none, fun _ => True)
abbrev M_X1_init : MD := (yX1_init, C_X1_init)
theorem k_X1_init : MOK M_X1_init 0 := ⟨w_54, w_158, by decide +kernel, by decide +kernel, by decide +kernel⟩
def S_X1_init : SD := (s_seq (s_obj (e_lr 0))
  (s_seq (s_pff 1 0 (e_lr 0) (e_new 4 [.null, .int 0, .int 0, .int 0, .int 0, .int 0] D_X4_init))
  (s_seq (s_pfz 1 1 (e_lr 0) (e_c (0 : Int32)))
  (s_seq (s_pf Value.int 1 2 (e_lr 0) (e_c (0 : Int32)))
  s_retv))))
def D_X1_init : MDen := m_den 1 S_X1_init
set_option maxRecDepth 100000 in
set_option maxHeartbeats 4000000 in
theorem b_X1_init : SC C_X1_init 0 0 S_X1_init := by
  unfold S_X1_init
  exact (sc_seq (C := C_X1_init) (p1 := 4) (sc_obj (C := C_X1_init) (p1 := 1) (ec_aload_n (C := C_X1_init) (i := 0) dX1_init_0 rfl) w_159 w_71 w_72 (by decide) dX1_init_1)
  (sc_seq (C := C_X1_init) (p1 := 15) (sc_pff (C := C_X1_init) (p1 := 5) (p2 := 12) (ec_aload_n (C := C_X1_init) (i := 0) dX1_init_4 rfl) (ec_new (C := C_X1_init) s_X4_init ⟨RX4, TX4, 6, tyX4, rfl, by decide, ing_X4, tyX4_ok, rfl, nf_X4, w_160, w_161, w_55⟩ ⟨(Or.inr (by decide +kernel)), ⟨Nat.le_of_ble_eq_true rfl, Nat.le_of_ble_eq_true rfl⟩, k_X4_init, rfl, w_163, rfl⟩ (by decide) dX1_init_5 dX1_init_8 dX1_init_9) f_X1_12 (fun q hq => by cases hq; rfl) rfl (Or.inl ⟨_, rfl⟩) dX1_init_12)
  (sc_seq (C := C_X1_init) (p1 := 20) (sc_pfz (C := C_X1_init) (p1 := 16) (p2 := 17) (ec_aload_n (C := C_X1_init) (i := 0) dX1_init_15 rfl) (ec_iconst (C := C_X1_init) (v := (0 : Int32)) dX1_init_16 rfl) f_X1_18 dX1_init_17)
  (sc_seq (C := C_X1_init) (p1 := 25) (sc_pf (C := C_X1_init) (p1 := 21) (p2 := 22) (ec_aload_n (C := C_X1_init) (i := 0) dX1_init_20 rfl) (ec_iconst (C := C_X1_init) (v := (0 : Int32)) dX1_init_21 rfl) f_X1_22 dX1_init_22)
  (sc_vret (C := C_X1_init) dX1_init_25 rfl)))))
theorem s_X1_init : MS M_X1_init D_X1_init := ms_of b_X1_init (by decide +kernel) rfl rfl (fun _ => trivial)
/-- SmokeRoofs$Sheet.<init>()V -/
abbrev C_X2_init : CX := (cX2_init, RX2, 1, 1, 12, "<init>", none, fun _ => True)
abbrev M_X2_init : MD := (yX2_init, C_X2_init)
theorem k_X2_init : MOK M_X2_init 0 := ⟨w_57, w_230, by decide +kernel, by decide +kernel, by decide +kernel⟩
def S_X2_init : SD := (s_seq (s_obj (e_lr 0))
  (s_seq (s_pf Value.int 2 0 (e_lr 0) (e_c (0 : Int32)))
  (s_seq (s_pf Value.int 2 1 (e_lr 0) (e_c (0 : Int32)))
  (s_seq (s_pff 2 2 (e_lr 0) (e_newi (e_c (40 : Int32))))
  s_retv))))
def D_X2_init : MDen := m_den 1 S_X2_init
set_option maxRecDepth 100000 in
set_option maxHeartbeats 4000000 in
theorem b_X2_init : SC C_X2_init 0 0 S_X2_init := by
  unfold S_X2_init
  exact (sc_seq (C := C_X2_init) (p1 := 4) (sc_obj (C := C_X2_init) (p1 := 1) (ec_aload_n (C := C_X2_init) (i := 0) dX2_init_0 rfl) w_231 w_71 w_72 (by decide) dX2_init_1)
  (sc_seq (C := C_X2_init) (p1 := 9) (sc_pf (C := C_X2_init) (p1 := 5) (p2 := 6) (ec_aload_n (C := C_X2_init) (i := 0) dX2_init_4 rfl) (ec_iconst (C := C_X2_init) (v := (0 : Int32)) dX2_init_5 rfl) f_X2_9 dX2_init_6)
  (sc_seq (C := C_X2_init) (p1 := 14) (sc_pf (C := C_X2_init) (p1 := 10) (p2 := 11) (ec_aload_n (C := C_X2_init) (i := 0) dX2_init_9 rfl) (ec_iconst (C := C_X2_init) (v := (0 : Int32)) dX2_init_10 rfl) f_X2_15 dX2_init_11)
  (sc_seq (C := C_X2_init) (p1 := 22) (sc_pff (C := C_X2_init) (p1 := 15) (p2 := 19) (ec_aload_n (C := C_X2_init) (i := 0) dX2_init_14 rfl) (ec_newi (C := C_X2_init) (p1 := 17) (ec_bipush (C := C_X2_init) (v := (40 : Int32)) dX2_init_15 rfl) w_116 dX2_init_17) f_X2_18 (fun q hq => by cases hq; rfl) rfl (Or.inr ⟨_, rfl⟩) dX2_init_19)
  (sc_vret (C := C_X2_init) dX2_init_22 rfl)))))
theorem s_X2_init : MS M_X2_init D_X2_init := ms_of b_X2_init (by decide +kernel) rfl rfl (fun _ => trivial)
/-- SmokeRoofs$Tally.<init>()V -/
abbrev C_X3_init : CX := (cX3_init, RX3, 1, 1, 12, "<init>", none, fun _ => True)
abbrev M_X3_init : MD := (yX3_init, C_X3_init)
theorem k_X3_init : MOK M_X3_init 0 := ⟨w_56, w_208, by decide +kernel, by decide +kernel, by decide +kernel⟩
def S_X3_init : SD := (s_seq (s_obj (e_lr 0))
  (s_seq (s_pf Value.int 3 0 (e_lr 0) (e_c (0 : Int32)))
  (s_seq (s_pff 3 1 (e_lr 0) (e_newi (e_c (6 : Int32))))
  (s_seq (s_pff 3 2 (e_lr 0) (e_newi (e_c (6 : Int32))))
  (s_seq (s_pff 3 3 (e_lr 0) (e_newi (e_c (6 : Int32))))
  s_retv)))))
def D_X3_init : MDen := m_den 1 S_X3_init
set_option maxRecDepth 100000 in
set_option maxHeartbeats 4000000 in
theorem b_X3_init : SC C_X3_init 0 0 S_X3_init := by
  unfold S_X3_init
  exact (sc_seq (C := C_X3_init) (p1 := 4) (sc_obj (C := C_X3_init) (p1 := 1) (ec_aload_n (C := C_X3_init) (i := 0) dX3_init_0 rfl) w_209 w_71 w_72 (by decide) dX3_init_1)
  (sc_seq (C := C_X3_init) (p1 := 9) (sc_pf (C := C_X3_init) (p1 := 5) (p2 := 6) (ec_aload_n (C := C_X3_init) (i := 0) dX3_init_4 rfl) (ec_iconst (C := C_X3_init) (v := (0 : Int32)) dX3_init_5 rfl) f_X3_9 dX3_init_6)
  (sc_seq (C := C_X3_init) (p1 := 17) (sc_pff (C := C_X3_init) (p1 := 10) (p2 := 14) (ec_aload_n (C := C_X3_init) (i := 0) dX3_init_9 rfl) (ec_newi (C := C_X3_init) (p1 := 12) (ec_bipush (C := C_X3_init) (v := (6 : Int32)) dX3_init_10 rfl) w_116 dX3_init_12) f_X3_15 (fun q hq => by cases hq; rfl) rfl (Or.inr ⟨_, rfl⟩) dX3_init_14)
  (sc_seq (C := C_X3_init) (p1 := 25) (sc_pff (C := C_X3_init) (p1 := 18) (p2 := 22) (ec_aload_n (C := C_X3_init) (i := 0) dX3_init_17 rfl) (ec_newi (C := C_X3_init) (p1 := 20) (ec_bipush (C := C_X3_init) (v := (6 : Int32)) dX3_init_18 rfl) w_116 dX3_init_20) f_X3_19 (fun q hq => by cases hq; rfl) rfl (Or.inr ⟨_, rfl⟩) dX3_init_22)
  (sc_seq (C := C_X3_init) (p1 := 33) (sc_pff (C := C_X3_init) (p1 := 26) (p2 := 30) (ec_aload_n (C := C_X3_init) (i := 0) dX3_init_25 rfl) (ec_newi (C := C_X3_init) (p1 := 28) (ec_bipush (C := C_X3_init) (v := (6 : Int32)) dX3_init_26 rfl) w_116 dX3_init_28) f_X3_22 (fun q hq => by cases hq; rfl) rfl (Or.inr ⟨_, rfl⟩) dX3_init_30)
  (sc_vret (C := C_X3_init) dX3_init_33 rfl))))))
theorem s_X3_init : MS M_X3_init D_X3_init := ms_of b_X3_init (by decide +kernel) rfl rfl (fun _ => trivial)
/-- java/util/Arrays.fill([II)V -/
abbrev C_J7_fill_53178 : CX := (cJ7_fill_53178, RJ7, 4, 0, 0, "fill", none, fun _ => True)
abbrev M_J7_fill_53178 : MD := (yJ7_fill_53178, C_J7_fill_53178)
theorem k_J7_fill_53178 : MOK M_J7_fill_53178 2 := ⟨w_52, w_83, by decide +kernel, by decide +kernel, by decide +kernel⟩
theorem t_J7_fill_53178 : MST M_J7_fill_53178 2 := ⟨k_J7_fill_53178, w_82⟩
def WB_J7_fill_53178_1 : DE Bool := (e_bin (fun (x y : Int32) => decide (x < y)) (e_li 2) (e_li 3))
def WS_J7_fill_53178_1 : SD := (s_seq (s_as (e_lr 0) (e_li 2) (e_li 1))
  (s_inc 2 (1)))
def W_J7_fill_53178_1 : SD := s_while WB_J7_fill_53178_1 WS_J7_fill_53178_1 FU
set_option maxRecDepth 100000 in
set_option maxHeartbeats 4000000 in
theorem bw_J7_fill_53178_1 : SC C_J7_fill_53178 5 20 W_J7_fill_53178_1 := by
  unfold W_J7_fill_53178_1 WB_J7_fill_53178_1 WS_J7_fill_53178_1
  exact (sc_while (C := C_J7_fill_53178) (pB := 10) (pE := 20) (bc_icmp_ge_F (C := C_J7_fill_53178) (p1 := 6) (p2 := 7) (tgt := 20) (ec_iload_n (C := C_J7_fill_53178) (i := 2) dJ7_fill_53178_5 rfl) (ec_iload_n (C := C_J7_fill_53178) (i := 3) dJ7_fill_53178_6 rfl) dJ7_fill_53178_7 rfl)
  (sc_goto (C := C_J7_fill_53178) (p1 := 17) (sc_seq (C := C_J7_fill_53178) (p1 := 14) (sc_as (C := C_J7_fill_53178) (p1 := 11) (p2 := 12) (p3 := 13) (ec_aload_n (C := C_J7_fill_53178) (i := 0) dJ7_fill_53178_10 rfl) (ec_iload_n (C := C_J7_fill_53178) (i := 2) dJ7_fill_53178_11 rfl) (ec_iload_n (C := C_J7_fill_53178) (i := 1) dJ7_fill_53178_12 rfl) dJ7_fill_53178_13)
  (sc_iinc (C := C_J7_fill_53178) (v := (1)) dJ7_fill_53178_14 rfl (Nat.le_of_ble_eq_true rfl))) dJ7_fill_53178_17 rfl) FU)
def S_J7_fill_53178 : SD := (s_seq (s_sc 2 (s_seq (s_seq (s_st Value.int 2 (e_c (0 : Int32))) (s_st Value.int 3 (e_len (e_lr 0))))
  W_J7_fill_53178_1))
  s_retv)
def D_J7_fill_53178 : MDen := m_den 4 S_J7_fill_53178
set_option maxRecDepth 100000 in
set_option maxHeartbeats 4000000 in
theorem b_J7_fill_53178 : SC C_J7_fill_53178 0 0 S_J7_fill_53178 := by
  unfold S_J7_fill_53178
  exact (sc_seq (C := C_J7_fill_53178) (p1 := 20) (sc_sc (C := C_J7_fill_53178) (sc_seq (C := C_J7_fill_53178) (p1 := 5) (sc_seq (C := C_J7_fill_53178) (p1 := 2) (sc_istore_n (C := C_J7_fill_53178) (p1 := 1) (i := 2) (ec_iconst (C := C_J7_fill_53178) (v := (0 : Int32)) dJ7_fill_53178_0 rfl) dJ7_fill_53178_1 rfl (Nat.le_of_ble_eq_true rfl)) (sc_istore_n (C := C_J7_fill_53178) (p1 := 4) (i := 3) (ec_len (C := C_J7_fill_53178) (p1 := 3) (ec_aload_n (C := C_J7_fill_53178) (i := 0) dJ7_fill_53178_2 rfl) dJ7_fill_53178_3) dJ7_fill_53178_4 rfl (Nat.le_of_ble_eq_true rfl)))
  bw_J7_fill_53178_1))
  (sc_vret (C := C_J7_fill_53178) dJ7_fill_53178_20 rfl))
theorem s_J7_fill_53178 : MS M_J7_fill_53178 D_J7_fill_53178 := ms_of b_J7_fill_53178 (by decide +kernel) rfl rfl (fun _ => trivial)
/-- SmokeRoofs$Town.<init>()V -/
abbrev C_X5_init : CX := (cX5_init, RX5, 2, 2, 32, "<init>", none, fun _ => True)
abbrev M_X5_init : MD := (yX5_init, C_X5_init)
theorem k_X5_init : MOK M_X5_init 0 := ⟨w_51, w_77, by decide +kernel, by decide +kernel, by decide +kernel⟩
def WB_X5_init_1 : DE Bool := (e_bin (fun (x y : Int32) => decide (x < y)) (e_li 1) (e_c (8 : Int32)))
def WS_X5_init_1 : SD := (s_seq (s_aas 0 0 (e_gr 5 7 (e_lr 0)) (e_li 1) (e_new 0 [.null, .null, .null, .int 0, .int 0, .int 0] D_X0_init))
  (s_inc 1 (1)))
def W_X5_init_1 : SD := s_while WB_X5_init_1 WS_X5_init_1 FU
set_option maxRecDepth 100000 in
set_option maxHeartbeats 4000000 in
theorem bw_X5_init_1 : SC C_X5_init 78 103 W_X5_init_1 := by
  unfold W_X5_init_1 WB_X5_init_1 WS_X5_init_1
  exact (sc_while (C := C_X5_init) (pB := 84) (pE := 103) (bc_icmp_ge_F (C := C_X5_init) (p1 := 79) (p2 := 81) (tgt := 103) (ec_iload_n (C := C_X5_init) (i := 1) dX5_init_78 rfl) (ec_bipush (C := C_X5_init) (v := (8 : Int32)) dX5_init_79 rfl) dX5_init_81 rfl)
  (sc_goto (C := C_X5_init) (p1 := 100) (sc_seq (C := C_X5_init) (p1 := 97) (sc_aas (C := C_X5_init) (p1 := 88) (p2 := 89) (p3 := 96) (by decide) rfl (ec_gr (C := C_X5_init) (p1 := 85) (ec_aload_n (C := C_X5_init) (i := 0) dX5_init_84 rfl) f_X5_36 dX5_init_85) (ec_iload_n (C := C_X5_init) (i := 1) dX5_init_88 rfl) (ec_new (C := C_X5_init) s_X0_init ⟨RX0, TX0, 6, tyX0, rfl, by decide, ing_X0, tyX0_ok, rfl, nf_X0, w_79, w_84, w_53⟩ ⟨(Or.inr (by decide +kernel)), ⟨Nat.le_of_ble_eq_true rfl, Nat.le_of_ble_eq_true rfl⟩, k_X0_init, rfl, w_86, rfl⟩ (by decide) dX5_init_89 dX5_init_92 dX5_init_93) dX5_init_96)
  (sc_iinc (C := C_X5_init) (v := (1)) dX5_init_97 rfl (Nat.le_of_ble_eq_true rfl))) dX5_init_100 rfl) FU)
def S_X5_init : SD := (s_seq (s_obj (e_lr 0))
  (s_seq (s_pf Value.int 5 0 (e_lr 0) (e_c (0 : Int32)))
  (s_seq (s_pf Value.int 5 1 (e_lr 0) (e_c (1 : Int32)))
  (s_seq (s_pf Value.int 5 2 (e_lr 0) (e_c (0 : Int32)))
  (s_seq (s_pff 5 3 (e_lr 0) (e_newi (e_c (36 : Int32))))
  (s_seq (s_pff 5 4 (e_lr 0) (e_newi (e_c (24 : Int32))))
  (s_seq (s_pff 5 5 (e_lr 0) (e_newi (e_c (6 : Int32))))
  (s_seq (s_pff 5 6 (e_lr 0) (e_newi (e_c (10 : Int32))))
  (s_seq (s_pff 5 7 (e_lr 0) (e_newq 0 (e_c (8 : Int32))))
  (s_seq (s_seq (s_call D_J7_fill_53178 2 (a_snoc Value.int (a_snoc Value.ref a_nil (e_gr 5 3 (e_lr 0))) (e_c (-1 : Int32))))
  (s_seq (s_call D_J7_fill_53178 2 (a_snoc Value.int (a_snoc Value.ref a_nil (e_gr 5 6 (e_lr 0))) (e_c (-1 : Int32))))
  (s_sc 1 (s_seq (s_st Value.int 1 (e_c (0 : Int32)))
  W_X5_init_1))))
  s_retv))))))))))
def D_X5_init : MDen := m_den 2 S_X5_init
set_option maxRecDepth 100000 in
set_option maxHeartbeats 4000000 in
theorem b_X5_init : SC C_X5_init 0 0 S_X5_init := by
  unfold S_X5_init
  exact (sc_seq (C := C_X5_init) (p1 := 4) (sc_obj (C := C_X5_init) (p1 := 1) (ec_aload_n (C := C_X5_init) (i := 0) dX5_init_0 rfl) w_78 w_71 w_72 (by decide) dX5_init_1)
  (sc_seq (C := C_X5_init) (p1 := 9) (sc_pf (C := C_X5_init) (p1 := 5) (p2 := 6) (ec_aload_n (C := C_X5_init) (i := 0) dX5_init_4 rfl) (ec_iconst (C := C_X5_init) (v := (0 : Int32)) dX5_init_5 rfl) f_X5_9 dX5_init_6)
  (sc_seq (C := C_X5_init) (p1 := 14) (sc_pf (C := C_X5_init) (p1 := 10) (p2 := 11) (ec_aload_n (C := C_X5_init) (i := 0) dX5_init_9 rfl) (ec_iconst (C := C_X5_init) (v := (1 : Int32)) dX5_init_10 rfl) f_X5_15 dX5_init_11)
  (sc_seq (C := C_X5_init) (p1 := 19) (sc_pf (C := C_X5_init) (p1 := 15) (p2 := 16) (ec_aload_n (C := C_X5_init) (i := 0) dX5_init_14 rfl) (ec_iconst (C := C_X5_init) (v := (0 : Int32)) dX5_init_15 rfl) f_X5_18 dX5_init_16)
  (sc_seq (C := C_X5_init) (p1 := 27) (sc_pff (C := C_X5_init) (p1 := 20) (p2 := 24) (ec_aload_n (C := C_X5_init) (i := 0) dX5_init_19 rfl) (ec_newi (C := C_X5_init) (p1 := 22) (ec_bipush (C := C_X5_init) (v := (36 : Int32)) dX5_init_20 rfl) w_116 dX5_init_22) f_X5_21 (fun q hq => by cases hq; rfl) rfl (Or.inr ⟨_, rfl⟩) dX5_init_24)
  (sc_seq (C := C_X5_init) (p1 := 35) (sc_pff (C := C_X5_init) (p1 := 28) (p2 := 32) (ec_aload_n (C := C_X5_init) (i := 0) dX5_init_27 rfl) (ec_newi (C := C_X5_init) (p1 := 30) (ec_bipush (C := C_X5_init) (v := (24 : Int32)) dX5_init_28 rfl) w_116 dX5_init_30) f_X5_25 (fun q hq => by cases hq; rfl) rfl (Or.inr ⟨_, rfl⟩) dX5_init_32)
  (sc_seq (C := C_X5_init) (p1 := 43) (sc_pff (C := C_X5_init) (p1 := 36) (p2 := 40) (ec_aload_n (C := C_X5_init) (i := 0) dX5_init_35 rfl) (ec_newi (C := C_X5_init) (p1 := 38) (ec_bipush (C := C_X5_init) (v := (6 : Int32)) dX5_init_36 rfl) w_116 dX5_init_38) f_X5_28 (fun q hq => by cases hq; rfl) rfl (Or.inr ⟨_, rfl⟩) dX5_init_40)
  (sc_seq (C := C_X5_init) (p1 := 51) (sc_pff (C := C_X5_init) (p1 := 44) (p2 := 48) (ec_aload_n (C := C_X5_init) (i := 0) dX5_init_43 rfl) (ec_newi (C := C_X5_init) (p1 := 46) (ec_bipush (C := C_X5_init) (v := (10 : Int32)) dX5_init_44 rfl) w_116 dX5_init_46) f_X5_31 (fun q hq => by cases hq; rfl) rfl (Or.inr ⟨_, rfl⟩) dX5_init_48)
  (sc_seq (C := C_X5_init) (p1 := 60) (sc_pff (C := C_X5_init) (p1 := 52) (p2 := 57) (ec_aload_n (C := C_X5_init) (i := 0) dX5_init_51 rfl) (ec_newq (C := C_X5_init) (p1 := 54) (Cn := RX0) (by decide) (ec_bipush (C := C_X5_init) (v := (8 : Int32)) dX5_init_52 rfl) w_79 dX5_init_54) f_X5_36 (fun q hq => by cases hq; rfl) rfl (Or.inr ⟨_, rfl⟩) dX5_init_57)
  (sc_seq (C := C_X5_init) (p1 := 103) (sc_seq (C := C_X5_init) (p1 := 68) (sc_callS (C := C_X5_init) (m := 2) (p1 := 65) s_J7_fill_53178 t_J7_fill_53178 ⟨w_81, Nat.le_of_ble_eq_true rfl, Nat.le_of_ble_eq_true rfl⟩ (ac_snoc (C := C_X5_init) (n := 1) (c := 1) (p1 := 64) (ac_snoc (C := C_X5_init) (n := 0) (c := 1) (p1 := 60) (ac_nil (C := C_X5_init)) (ec_gr (C := C_X5_init) (p1 := 61) (ec_aload_n (C := C_X5_init) (i := 0) dX5_init_60 rfl) f_X5_21 dX5_init_61) rfl (fun _ => rfl) rfl) (ec_iconst (C := C_X5_init) (v := (-1 : Int32)) dX5_init_64 rfl) rfl (fun _ => rfl) rfl) dX5_init_65)
  (sc_seq (C := C_X5_init) (p1 := 76) (sc_callS (C := C_X5_init) (m := 2) (p1 := 73) s_J7_fill_53178 t_J7_fill_53178 ⟨w_81, Nat.le_of_ble_eq_true rfl, Nat.le_of_ble_eq_true rfl⟩ (ac_snoc (C := C_X5_init) (n := 1) (c := 1) (p1 := 72) (ac_snoc (C := C_X5_init) (n := 0) (c := 1) (p1 := 68) (ac_nil (C := C_X5_init)) (ec_gr (C := C_X5_init) (p1 := 69) (ec_aload_n (C := C_X5_init) (i := 0) dX5_init_68 rfl) f_X5_31 dX5_init_69) rfl (fun _ => rfl) rfl) (ec_iconst (C := C_X5_init) (v := (-1 : Int32)) dX5_init_72 rfl) rfl (fun _ => rfl) rfl) dX5_init_73)
  (sc_sc (C := C_X5_init) (sc_seq (C := C_X5_init) (p1 := 78) (sc_istore_n (C := C_X5_init) (p1 := 77) (i := 1) (ec_iconst (C := C_X5_init) (v := (0 : Int32)) dX5_init_76 rfl) dX5_init_77 rfl (Nat.le_of_ble_eq_true rfl))
  bw_X5_init_1))))
  (sc_vret (C := C_X5_init) dX5_init_103 rfl)))))))))))
theorem s_X5_init : MS M_X5_init D_X5_init := ms_of b_X5_init (by decide +kernel) rfl rfl (fun _ => trivial)
/-- SmokeRoofs.<init>()V -/
abbrev C_X6_init : CX := (cX6_init, RX6, 2, 3, 53, "<init>", none, fun _ => True)
abbrev M_X6_init : MD := (yX6_init, C_X6_init)
theorem k_X6_init : MOK M_X6_init 0 := ⟨w_50, w_69, by decide +kernel, by decide +kernel, by decide +kernel⟩
def WB_X6_init_1 : DE Bool := (e_bin (fun (x y : Int32) => decide (x < y)) (e_li 1) (e_c (4 : Int32)))
def WS_X6_init_1 : SD := (s_seq (s_aas 1 2 (e_gr 6 4 (e_lr 0)) (e_li 1) (e_new 2 [.int 0, .int 0, .null] D_X2_init))
  (s_inc 1 (1)))
def W_X6_init_1 : SD := s_while WB_X6_init_1 WS_X6_init_1 FU
set_option maxRecDepth 100000 in
set_option maxHeartbeats 4000000 in
theorem bw_X6_init_1 : SC C_X6_init 122 146 W_X6_init_1 := by
  unfold W_X6_init_1 WB_X6_init_1 WS_X6_init_1
  exact (sc_while (C := C_X6_init) (pB := 127) (pE := 146) (bc_icmp_ge_F (C := C_X6_init) (p1 := 123) (p2 := 124) (tgt := 146) (ec_iload_n (C := C_X6_init) (i := 1) dX6_init_122 rfl) (ec_iconst (C := C_X6_init) (v := (4 : Int32)) dX6_init_123 rfl) dX6_init_124 rfl)
  (sc_goto (C := C_X6_init) (p1 := 143) (sc_seq (C := C_X6_init) (p1 := 140) (sc_aas (C := C_X6_init) (p1 := 131) (p2 := 132) (p3 := 139) (by decide) rfl (ec_gr (C := C_X6_init) (p1 := 128) (ec_aload_n (C := C_X6_init) (i := 0) dX6_init_127 rfl) f_X6_32 dX6_init_128) (ec_iload_n (C := C_X6_init) (i := 1) dX6_init_131 rfl) (ec_new (C := C_X6_init) s_X2_init ⟨RX2, TX2, 3, tyX2, rfl, by decide, ing_X2, tyX2_ok, rfl, nf_X2, w_200, w_227, w_57⟩ ⟨(Or.inr (by decide +kernel)), ⟨Nat.le_of_ble_eq_true rfl, Nat.le_of_ble_eq_true rfl⟩, k_X2_init, rfl, w_229, rfl⟩ (by decide) dX6_init_132 dX6_init_135 dX6_init_136) dX6_init_139)
  (sc_iinc (C := C_X6_init) (v := (1)) dX6_init_140 rfl (Nat.le_of_ble_eq_true rfl))) dX6_init_143 rfl) FU)
def S_X6_init : SD := (s_seq (s_obj (e_lr 0))
  (s_seq (s_pff 6 0 (e_lr 0) (e_new 5 [.int 0, .int 0, .int 0, .null, .null, .null, .null, .null] D_X5_init))
  (s_seq (s_pff 6 1 (e_lr 0) (e_new 5 [.int 0, .int 0, .int 0, .null, .null, .null, .null, .null] D_X5_init))
  (s_seq (s_pfz 6 2 (e_lr 0) (e_c (0 : Int32)))
  (s_seq (s_pff 6 3 (e_lr 0) (e_new 1 [.null, .int 0, .int 0] D_X1_init))
  (s_seq (s_pff 6 4 (e_lr 0) (e_newq 1 (e_c (4 : Int32))))
  (s_seq (s_pff 6 5 (e_lr 0) (e_newi (e_c (7 : Int32))))
  (s_seq (s_pff 6 6 (e_lr 0) (e_new 0 [.null, .null, .null, .int 0, .int 0, .int 0] D_X0_init))
  (s_seq (s_pff 6 7 (e_lr 0) (e_new 3 [.int 0, .null, .null, .null] D_X3_init))
  (s_seq (s_pff 6 8 (e_lr 0) (e_newi (e_c (6 : Int32))))
  (s_seq (s_pff 6 9 (e_lr 0) (e_newi (e_c (8 : Int32))))
  (s_seq (s_pff 6 10 (e_lr 0) (e_newi (e_c (8 : Int32))))
  (s_seq (s_pff 6 11 (e_lr 0) (e_newi (e_c (40 : Int32))))
  (s_seq (s_pff 6 12 (e_lr 0) (e_newi (e_c (36 : Int32))))
  (s_seq (s_sc 1 (s_seq (s_st Value.int 1 (e_c (0 : Int32)))
  W_X6_init_1))
  s_retv)))))))))))))))
def D_X6_init : MDen := m_den 2 S_X6_init
set_option maxRecDepth 100000 in
set_option maxHeartbeats 4000000 in
theorem b_X6_init : SC C_X6_init 0 0 S_X6_init := by
  unfold S_X6_init
  exact (sc_seq (C := C_X6_init) (p1 := 4) (sc_obj (C := C_X6_init) (p1 := 1) (ec_aload_n (C := C_X6_init) (i := 0) dX6_init_0 rfl) w_70 w_71 w_72 (by decide) dX6_init_1)
  (sc_seq (C := C_X6_init) (p1 := 15) (sc_pff (C := C_X6_init) (p1 := 5) (p2 := 12) (ec_aload_n (C := C_X6_init) (i := 0) dX6_init_4 rfl) (ec_new (C := C_X6_init) s_X5_init ⟨RX5, TX5, 8, tyX5, rfl, by decide, ing_X5, tyX5_ok, rfl, nf_X5, w_73, w_74, w_51⟩ ⟨(Or.inl w_75), ⟨Nat.le_of_ble_eq_true rfl, Nat.le_of_ble_eq_true rfl⟩, k_X5_init, rfl, w_76, rfl⟩ (by decide) dX6_init_5 dX6_init_8 dX6_init_9) f_X6_10 (fun q hq => by cases hq; rfl) rfl (Or.inl ⟨_, rfl⟩) dX6_init_12)
  (sc_seq (C := C_X6_init) (p1 := 26) (sc_pff (C := C_X6_init) (p1 := 16) (p2 := 23) (ec_aload_n (C := C_X6_init) (i := 0) dX6_init_15 rfl) (ec_new (C := C_X6_init) s_X5_init ⟨RX5, TX5, 8, tyX5, rfl, by decide, ing_X5, tyX5_ok, rfl, nf_X5, w_73, w_74, w_51⟩ ⟨(Or.inl w_75), ⟨Nat.le_of_ble_eq_true rfl, Nat.le_of_ble_eq_true rfl⟩, k_X5_init, rfl, w_76, rfl⟩ (by decide) dX6_init_16 dX6_init_19 dX6_init_20) f_X6_16 (fun q hq => by cases hq; rfl) rfl (Or.inl ⟨_, rfl⟩) dX6_init_23)
  (sc_seq (C := C_X6_init) (p1 := 31) (sc_pfz (C := C_X6_init) (p1 := 27) (p2 := 28) (ec_aload_n (C := C_X6_init) (i := 0) dX6_init_26 rfl) (ec_iconst (C := C_X6_init) (v := (0 : Int32)) dX6_init_27 rfl) f_X6_19 dX6_init_28)
  (sc_seq (C := C_X6_init) (p1 := 42) (sc_pff (C := C_X6_init) (p1 := 32) (p2 := 39) (ec_aload_n (C := C_X6_init) (i := 0) dX6_init_31 rfl) (ec_new (C := C_X6_init) s_X1_init ⟨RX1, TX1, 3, tyX1, rfl, by decide, ing_X1, tyX1_ok, rfl, nf_X1, w_154, w_155, w_54⟩ ⟨(Or.inr (by decide +kernel)), ⟨Nat.le_of_ble_eq_true rfl, Nat.le_of_ble_eq_true rfl⟩, k_X1_init, rfl, w_157, rfl⟩ (by decide) dX6_init_32 dX6_init_35 dX6_init_36) f_X6_26 (fun q hq => by cases hq; rfl) rfl (Or.inl ⟨_, rfl⟩) dX6_init_39)
  (sc_seq (C := C_X6_init) (p1 := 50) (sc_pff (C := C_X6_init) (p1 := 43) (p2 := 47) (ec_aload_n (C := C_X6_init) (i := 0) dX6_init_42 rfl) (ec_newq (C := C_X6_init) (p1 := 44) (Cn := RX2) (by decide) (ec_iconst (C := C_X6_init) (v := (4 : Int32)) dX6_init_43 rfl) w_200 dX6_init_44) f_X6_32 (fun q hq => by cases hq; rfl) rfl (Or.inr ⟨_, rfl⟩) dX6_init_47)
  (sc_seq (C := C_X6_init) (p1 := 58) (sc_pff (C := C_X6_init) (p1 := 51) (p2 := 55) (ec_aload_n (C := C_X6_init) (i := 0) dX6_init_50 rfl) (ec_newi (C := C_X6_init) (p1 := 53) (ec_bipush (C := C_X6_init) (v := (7 : Int32)) dX6_init_51 rfl) w_116 dX6_init_53) f_X6_36 (fun q hq => by cases hq; rfl) rfl (Or.inr ⟨_, rfl⟩) dX6_init_55)
  (sc_seq (C := C_X6_init) (p1 := 69) (sc_pff (C := C_X6_init) (p1 := 59) (p2 := 66) (ec_aload_n (C := C_X6_init) (i := 0) dX6_init_58 rfl) (ec_new (C := C_X6_init) s_X0_init ⟨RX0, TX0, 6, tyX0, rfl, by decide, ing_X0, tyX0_ok, rfl, nf_X0, w_202, w_84, w_53⟩ ⟨(Or.inr (by decide +kernel)), ⟨Nat.le_of_ble_eq_true rfl, Nat.le_of_ble_eq_true rfl⟩, k_X0_init, rfl, w_86, rfl⟩ (by decide) dX6_init_59 dX6_init_62 dX6_init_63) f_X6_43 (fun q hq => by cases hq; rfl) rfl (Or.inl ⟨_, rfl⟩) dX6_init_66)
  (sc_seq (C := C_X6_init) (p1 := 80) (sc_pff (C := C_X6_init) (p1 := 70) (p2 := 77) (ec_aload_n (C := C_X6_init) (i := 0) dX6_init_69 rfl) (ec_new (C := C_X6_init) s_X3_init ⟨RX3, TX3, 4, tyX3, rfl, by decide, ing_X3, tyX3_ok, rfl, nf_X3, w_204, w_205, w_56⟩ ⟨(Or.inr (by decide +kernel)), ⟨Nat.le_of_ble_eq_true rfl, Nat.le_of_ble_eq_true rfl⟩, k_X3_init, rfl, w_207, rfl⟩ (by decide) dX6_init_70 dX6_init_73 dX6_init_74) f_X6_50 (fun q hq => by cases hq; rfl) rfl (Or.inl ⟨_, rfl⟩) dX6_init_77)
  (sc_seq (C := C_X6_init) (p1 := 88) (sc_pff (C := C_X6_init) (p1 := 81) (p2 := 85) (ec_aload_n (C := C_X6_init) (i := 0) dX6_init_80 rfl) (ec_newi (C := C_X6_init) (p1 := 83) (ec_bipush (C := C_X6_init) (v := (6 : Int32)) dX6_init_81 rfl) w_116 dX6_init_83) f_X6_54 (fun q hq => by cases hq; rfl) rfl (Or.inr ⟨_, rfl⟩) dX6_init_85)
  (sc_seq (C := C_X6_init) (p1 := 96) (sc_pff (C := C_X6_init) (p1 := 89) (p2 := 93) (ec_aload_n (C := C_X6_init) (i := 0) dX6_init_88 rfl) (ec_newi (C := C_X6_init) (p1 := 91) (ec_bipush (C := C_X6_init) (v := (8 : Int32)) dX6_init_89 rfl) w_116 dX6_init_91) f_X6_57 (fun q hq => by cases hq; rfl) rfl (Or.inr ⟨_, rfl⟩) dX6_init_93)
  (sc_seq (C := C_X6_init) (p1 := 104) (sc_pff (C := C_X6_init) (p1 := 97) (p2 := 101) (ec_aload_n (C := C_X6_init) (i := 0) dX6_init_96 rfl) (ec_newi (C := C_X6_init) (p1 := 99) (ec_bipush (C := C_X6_init) (v := (8 : Int32)) dX6_init_97 rfl) w_116 dX6_init_99) f_X6_60 (fun q hq => by cases hq; rfl) rfl (Or.inr ⟨_, rfl⟩) dX6_init_101)
  (sc_seq (C := C_X6_init) (p1 := 112) (sc_pff (C := C_X6_init) (p1 := 105) (p2 := 109) (ec_aload_n (C := C_X6_init) (i := 0) dX6_init_104 rfl) (ec_newi (C := C_X6_init) (p1 := 107) (ec_bipush (C := C_X6_init) (v := (40 : Int32)) dX6_init_105 rfl) w_116 dX6_init_107) f_X6_63 (fun q hq => by cases hq; rfl) rfl (Or.inr ⟨_, rfl⟩) dX6_init_109)
  (sc_seq (C := C_X6_init) (p1 := 120) (sc_pff (C := C_X6_init) (p1 := 113) (p2 := 117) (ec_aload_n (C := C_X6_init) (i := 0) dX6_init_112 rfl) (ec_newi (C := C_X6_init) (p1 := 115) (ec_bipush (C := C_X6_init) (v := (36 : Int32)) dX6_init_113 rfl) w_116 dX6_init_115) f_X6_66 (fun q hq => by cases hq; rfl) rfl (Or.inr ⟨_, rfl⟩) dX6_init_117)
  (sc_seq (C := C_X6_init) (p1 := 146) (sc_sc (C := C_X6_init) (sc_seq (C := C_X6_init) (p1 := 122) (sc_istore_n (C := C_X6_init) (p1 := 121) (i := 1) (ec_iconst (C := C_X6_init) (v := (0 : Int32)) dX6_init_120 rfl) dX6_init_121 rfl (Nat.le_of_ble_eq_true rfl))
  bw_X6_init_1))
  (sc_vret (C := C_X6_init) dX6_init_146 rfl))))))))))))))))
theorem s_X6_init : MS M_X6_init D_X6_init := ms_of b_X6_init (by decide +kernel) rfl rfl (fun _ => trivial)
/-- SmokeRoofs.finding(I)I -/
abbrev C_X6_finding : CX := (cX6_finding, RX6, 2, 0, 0, "finding", (some .int), fun _ => True)
abbrev M_X6_finding : MD := (yX6_finding, C_X6_finding)
theorem k_X6_finding : MOK M_X6_finding 1 := ⟨w_50, w_298, by decide +kernel, by decide +kernel, by decide +kernel⟩
theorem t_X6_finding : MVT M_X6_finding 1 6 := ⟨k_X6_finding, w_297, w_0, by decide, _, rfl, rfl⟩
def S_X6_finding : SD := (s_seq (s_aop (fun (x y : Int32) => x + y) (e_gr 6 5 (e_lr 0)) (e_li 1) (e_c (1 : Int32)))
  (s_ret Value.int (e_bin (fun (x y : Int32) => x - y) (e_c (-1000001 : Int32)) (e_li 1))))
def D_X6_finding : MDen := m_den 2 S_X6_finding
set_option maxRecDepth 100000 in
set_option maxHeartbeats 4000000 in
theorem b_X6_finding : SC C_X6_finding 0 0 S_X6_finding := by
  unfold S_X6_finding
  exact (sc_seq (C := C_X6_finding) (p1 := 10) (sc_aop_iadd (C := C_X6_finding) (p1 := 4) (p2 := 5) (p3 := 8) (ec_gr (C := C_X6_finding) (p1 := 1) (ec_aload_n (C := C_X6_finding) (i := 0) dX6_finding_0 rfl) f_X6_36 dX6_finding_1) (ec_iload_n (C := C_X6_finding) (i := 1) dX6_finding_4 rfl) dX6_finding_5 dX6_finding_6 (ec_iconst (C := C_X6_finding) (v := (1 : Int32)) dX6_finding_7 rfl) dX6_finding_8 dX6_finding_9)
  (sc_iret (C := C_X6_finding) (p1 := 15) (ec_isub (C := C_X6_finding) (p1 := 13) (p2 := 14) (ec_ldcw (C := C_X6_finding) (v := (-1000001 : Int32)) dX6_finding_10 w_299) (ec_iload_n (C := C_X6_finding) (i := 1) dX6_finding_13 rfl) dX6_finding_14) dX6_finding_15 rfl))
theorem s_X6_finding : MS M_X6_finding D_X6_finding := ms_of b_X6_finding (by decide +kernel) rfl rfl (fun _ => trivial)
/-- SmokeRoofs.isIn(III)Z -/
abbrev C_X6_isIn : CX := (cX6_isIn, RX6, 3, 0, 0, "isIn", (some .boolean), fun _ => True)
abbrev M_X6_isIn : MD := (yX6_isIn, C_X6_isIn)
theorem k_X6_isIn : MOK M_X6_isIn 3 := ⟨w_50, w_294, by decide +kernel, by decide +kernel, by decide +kernel⟩
theorem t_X6_isIn : MST M_X6_isIn 3 := ⟨k_X6_isIn, w_293⟩
def S_X6_isIn : SD := (s_retz (e_b (b_and (e_bin (fun (x y : Int32) => decide (y ≤ x)) (e_li 0) (e_li 1)) (e_bin (fun (x y : Int32) => decide (x ≤ y)) (e_li 0) (e_li 2)))))
def D_X6_isIn : MDen := m_den 3 S_X6_isIn
set_option maxRecDepth 100000 in
set_option maxHeartbeats 4000000 in
theorem b_X6_isIn : SC C_X6_isIn 0 0 S_X6_isIn := by
  unfold S_X6_isIn
  exact (sc_zret (C := C_X6_isIn) (p1 := 15) (ec_bm (C := C_X6_isIn) (pT := 10) (bc_and (C := C_X6_isIn) (p1 := 5) (bc_icmp_lt_F (C := C_X6_isIn) (p1 := 1) (p2 := 2) (tgt := 14) (ec_iload_n (C := C_X6_isIn) (i := 0) dX6_isIn_0 rfl) (ec_iload_n (C := C_X6_isIn) (i := 1) dX6_isIn_1 rfl) dX6_isIn_2 rfl) (bc_icmp_gt_F (C := C_X6_isIn) (p1 := 6) (p2 := 7) (tgt := 14) (ec_iload_n (C := C_X6_isIn) (i := 0) dX6_isIn_5 rfl) (ec_iload_n (C := C_X6_isIn) (i := 2) dX6_isIn_6 rfl) dX6_isIn_7 rfl)) dX6_isIn_10 dX6_isIn_11 rfl dX6_isIn_14) dX6_isIn_15 rfl)
theorem s_X6_isIn : MS M_X6_isIn D_X6_isIn := ms_of b_X6_isIn (by decide +kernel) rfl rfl (fun _ => trivial)
/-- SmokeRoofs.isCell(I)Z -/
abbrev C_X6_isCell : CX := (cX6_isCell, RX6, 1, 1, 22, "isCell", (some .boolean), fun _ => True)
abbrev M_X6_isCell : MD := (yX6_isCell, C_X6_isCell)
theorem k_X6_isCell : MOK M_X6_isCell 1 := ⟨w_50, w_291, by decide +kernel, by decide +kernel, by decide +kernel⟩
theorem t_X6_isCell : MST M_X6_isCell 1 := ⟨k_X6_isCell, w_290⟩
def S_X6_isCell : SD := (s_retz (e_call prI D_X6_isIn 3 (a_snoc Value.int (a_snoc Value.int (a_snoc Value.int a_nil (e_li 0)) (e_c (0 : Int32))) (e_c (35 : Int32)))))
def D_X6_isCell : MDen := m_den 1 S_X6_isCell
set_option maxRecDepth 100000 in
set_option maxHeartbeats 4000000 in
theorem b_X6_isCell : SC C_X6_isCell 0 0 S_X6_isCell := by
  unfold S_X6_isCell
  exact (sc_zret (C := C_X6_isCell) (p1 := 7) (ec_callS (C := C_X6_isCell) (m := 3) (p1 := 4) inj_I s_X6_isIn t_X6_isIn ⟨w_292, Nat.le_of_ble_eq_true rfl, Nat.le_of_ble_eq_true rfl⟩ (ac_snoc (C := C_X6_isCell) (n := 2) (c := 1) (p1 := 2) (ac_snoc (C := C_X6_isCell) (n := 1) (c := 1) (p1 := 1) (ac_snoc (C := C_X6_isCell) (n := 0) (c := 1) (p1 := 0) (ac_nil (C := C_X6_isCell)) (ec_iload_n (C := C_X6_isCell) (i := 0) dX6_isCell_0 rfl) rfl (fun _ => rfl) rfl) (ec_iconst (C := C_X6_isCell) (v := (0 : Int32)) dX6_isCell_1 rfl) rfl (fun _ => rfl) rfl) (ec_bipush (C := C_X6_isCell) (v := (35 : Int32)) dX6_isCell_2 rfl) rfl (fun _ => rfl) rfl) (Nat.le_of_ble_eq_true rfl) dX6_isCell_4) dX6_isCell_7 rfl)
theorem s_X6_isCell : MS M_X6_isCell D_X6_isCell := ms_of b_X6_isCell (by decide +kernel) rfl rfl (fun _ => trivial)
/-- SmokeRoofs.roof(II)I -/
abbrev C_X6_roof : CX := (cX6_roof, RX6, 4, 2, 42, "roof", (some .int), fun _ => True)
abbrev M_X6_roof : MD := (yX6_roof, C_X6_roof)
theorem k_X6_roof : MOK M_X6_roof 2 := ⟨w_50, w_288, by decide +kernel, by decide +kernel, by decide +kernel⟩
theorem t_X6_roof : MVT M_X6_roof 2 6 := ⟨k_X6_roof, w_286, w_287, by decide, _, rfl, rfl⟩
def S_X6_roof : SD := (s_seq (s_if (b_or (b_not (b_of (e_call prI D_X6_isCell 1 (a_snoc Value.int a_nil (e_li 1))))) (b_not (b_of (e_call prI D_X6_isIn 3 (a_snoc Value.int (a_snoc Value.int (a_snoc Value.int a_nil (e_li 2)) (e_c (-1 : Int32))) (e_c (5 : Int32))))))) (s_ret Value.int (e_call prI D_X6_finding 2 (a_recv 6 (a_snoc Value.int (a_snoc Value.ref a_nil (e_lr 0)) (e_c (0 : Int32)))))) s_skip)
  (s_seq (s_st Value.int 3 (e_ai (e_gr 5 3 (e_gr 6 0 (e_lr 0))) (e_li 1)))
  (s_seq (s_as (e_gr 5 3 (e_gr 6 0 (e_lr 0))) (e_li 1) (e_li 2))
  (s_ret Value.int (e_li 3)))))
def D_X6_roof : MDen := m_den 4 S_X6_roof
set_option maxRecDepth 100000 in
set_option maxHeartbeats 4000000 in
theorem b_X6_roof : SC C_X6_roof 0 0 S_X6_roof := by
  unfold S_X6_roof
  exact (sc_seq (C := C_X6_roof) (p1 := 22) (sc_if (C := C_X6_roof) (pT := 16) (pF := 22) (p2 := 22) (bc_or (C := C_X6_roof) (p1 := 7) (bc_not (C := C_X6_roof) (bc_of_F (C := C_X6_roof) (p2 := 4) (tgt := 16) (ec_callS (C := C_X6_roof) (m := 1) (p1 := 1) inj_I s_X6_isCell t_X6_isCell ⟨w_289, Nat.le_of_ble_eq_true rfl, Nat.le_of_ble_eq_true rfl⟩ (ac_snoc (C := C_X6_roof) (n := 0) (c := 1) (p1 := 0) (ac_nil (C := C_X6_roof)) (ec_iload_n (C := C_X6_roof) (i := 1) dX6_roof_0 rfl) rfl (fun _ => rfl) rfl) (Nat.le_of_ble_eq_true rfl) dX6_roof_1) dX6_roof_4 rfl)) (bc_not (C := C_X6_roof) (bc_of_T (C := C_X6_roof) (p2 := 13) (tgt := 22) (ec_callS (C := C_X6_roof) (m := 3) (p1 := 10) inj_I s_X6_isIn t_X6_isIn ⟨w_292, Nat.le_of_ble_eq_true rfl, Nat.le_of_ble_eq_true rfl⟩ (ac_snoc (C := C_X6_roof) (n := 2) (c := 1) (p1 := 9) (ac_snoc (C := C_X6_roof) (n := 1) (c := 1) (p1 := 8) (ac_snoc (C := C_X6_roof) (n := 0) (c := 1) (p1 := 7) (ac_nil (C := C_X6_roof)) (ec_iload_n (C := C_X6_roof) (i := 2) dX6_roof_7 rfl) rfl (fun _ => rfl) rfl) (ec_iconst (C := C_X6_roof) (v := (-1 : Int32)) dX6_roof_8 rfl) rfl (fun _ => rfl) rfl) (ec_iconst (C := C_X6_roof) (v := (5 : Int32)) dX6_roof_9 rfl) rfl (fun _ => rfl) rfl) (Nat.le_of_ble_eq_true rfl) dX6_roof_10) dX6_roof_13 rfl))) (sc_iret (C := C_X6_roof) (p1 := 21) (ec_callV (C := C_X6_roof) (m := 2) (p1 := 18) inj_I s_X6_finding t_X6_finding ⟨w_295, Nat.le_of_ble_eq_true rfl, Nat.le_of_ble_eq_true rfl⟩ (ac_snoc (C := C_X6_roof) (n := 1) (c := 1) (p1 := 17) (ac_snoc (C := C_X6_roof) (n := 0) (c := 1) (p1 := 16) (ac_nil (C := C_X6_roof)) (ec_aload_n (C := C_X6_roof) (i := 0) dX6_roof_16 rfl) rfl (fun _ => rfl) rfl) (ec_iconst (C := C_X6_roof) (v := (0 : Int32)) dX6_roof_17 rfl) rfl (fun _ => rfl) rfl) (Nat.le_of_ble_eq_true rfl) dX6_roof_18) dX6_roof_21 rfl) sc_skip)
  (sc_seq (C := C_X6_roof) (p1 := 32) (sc_istore_n (C := C_X6_roof) (p1 := 31) (i := 3) (ec_ai (C := C_X6_roof) (p1 := 29) (p2 := 30) (ec_gr (C := C_X6_roof) (p1 := 26) (ec_gr (C := C_X6_roof) (p1 := 23) (ec_aload_n (C := C_X6_roof) (i := 0) dX6_roof_22 rfl) f_X6_10 dX6_roof_23) f_X6_82 dX6_roof_26) (ec_iload_n (C := C_X6_roof) (i := 1) dX6_roof_29 rfl) dX6_roof_30) dX6_roof_31 rfl (Nat.le_of_ble_eq_true rfl))
  (sc_seq (C := C_X6_roof) (p1 := 42) (sc_as (C := C_X6_roof) (p1 := 39) (p2 := 40) (p3 := 41) (ec_gr (C := C_X6_roof) (p1 := 36) (ec_gr (C := C_X6_roof) (p1 := 33) (ec_aload_n (C := C_X6_roof) (i := 0) dX6_roof_32 rfl) f_X6_10 dX6_roof_33) f_X6_82 dX6_roof_36) (ec_iload_n (C := C_X6_roof) (i := 1) dX6_roof_39 rfl) (ec_iload_n (C := C_X6_roof) (i := 2) dX6_roof_40 rfl) dX6_roof_41)
  (sc_iret (C := C_X6_roof) (p1 := 43) (ec_iload_n (C := C_X6_roof) (i := 3) dX6_roof_42 rfl) dX6_roof_43 rfl))))
theorem s_X6_roof : MS M_X6_roof D_X6_roof := ms_of b_X6_roof (by decide +kernel) rfl rfl (fun _ => trivial)
/-- SmokeRoofs.wind(II)I -/
abbrev C_X6_wind : CX := (cX6_wind, RX6, 4, 1, 22, "wind", (some .int), fun _ => True)
abbrev M_X6_wind : MD := (yX6_wind, C_X6_wind)
theorem k_X6_wind : MOK M_X6_wind 2 := ⟨w_50, w_303, by decide +kernel, by decide +kernel, by decide +kernel⟩
theorem t_X6_wind : MVT M_X6_wind 2 6 := ⟨k_X6_wind, w_301, w_302, by decide, _, rfl, rfl⟩
def S_X6_wind : SD := (s_seq (s_if (b_or (b_not (b_of (e_call prI D_X6_isIn 3 (a_snoc Value.int (a_snoc Value.int (a_snoc Value.int a_nil (e_li 1)) (e_c (0 : Int32))) (e_c (23 : Int32)))))) (b_not (b_of (e_call prI D_X6_isIn 3 (a_snoc Value.int (a_snoc Value.int (a_snoc Value.int a_nil (e_li 2)) (e_c (0 : Int32))) (e_c (4 : Int32))))))) (s_ret Value.int (e_call prI D_X6_finding 2 (a_recv 6 (a_snoc Value.int (a_snoc Value.ref a_nil (e_lr 0)) (e_c (0 : Int32)))))) s_skip)
  (s_seq (s_st Value.int 3 (e_ai (e_gr 5 4 (e_gr 6 0 (e_lr 0))) (e_li 1)))
  (s_seq (s_as (e_gr 5 4 (e_gr 6 0 (e_lr 0))) (e_li 1) (e_li 2))
  (s_ret Value.int (e_li 3)))))
def D_X6_wind : MDen := m_den 4 S_X6_wind
set_option maxRecDepth 100000 in
set_option maxHeartbeats 4000000 in
theorem b_X6_wind : SC C_X6_wind 0 0 S_X6_wind := by
  unfold S_X6_wind
  exact (sc_seq (C := C_X6_wind) (p1 := 25) (sc_if (C := C_X6_wind) (pT := 19) (pF := 25) (p2 := 25) (bc_or (C := C_X6_wind) (p1 := 10) (bc_not (C := C_X6_wind) (bc_of_F (C := C_X6_wind) (p2 := 7) (tgt := 19) (ec_callS (C := C_X6_wind) (m := 3) (p1 := 4) inj_I s_X6_isIn t_X6_isIn ⟨w_292, Nat.le_of_ble_eq_true rfl, Nat.le_of_ble_eq_true rfl⟩ (ac_snoc (C := C_X6_wind) (n := 2) (c := 1) (p1 := 2) (ac_snoc (C := C_X6_wind) (n := 1) (c := 1) (p1 := 1) (ac_snoc (C := C_X6_wind) (n := 0) (c := 1) (p1 := 0) (ac_nil (C := C_X6_wind)) (ec_iload_n (C := C_X6_wind) (i := 1) dX6_wind_0 rfl) rfl (fun _ => rfl) rfl) (ec_iconst (C := C_X6_wind) (v := (0 : Int32)) dX6_wind_1 rfl) rfl (fun _ => rfl) rfl) (ec_bipush (C := C_X6_wind) (v := (23 : Int32)) dX6_wind_2 rfl) rfl (fun _ => rfl) rfl) (Nat.le_of_ble_eq_true rfl) dX6_wind_4) dX6_wind_7 rfl)) (bc_not (C := C_X6_wind) (bc_of_T (C := C_X6_wind) (p2 := 16) (tgt := 25) (ec_callS (C := C_X6_wind) (m := 3) (p1 := 13) inj_I s_X6_isIn t_X6_isIn ⟨w_292, Nat.le_of_ble_eq_true rfl, Nat.le_of_ble_eq_true rfl⟩ (ac_snoc (C := C_X6_wind) (n := 2) (c := 1) (p1 := 12) (ac_snoc (C := C_X6_wind) (n := 1) (c := 1) (p1 := 11) (ac_snoc (C := C_X6_wind) (n := 0) (c := 1) (p1 := 10) (ac_nil (C := C_X6_wind)) (ec_iload_n (C := C_X6_wind) (i := 2) dX6_wind_10 rfl) rfl (fun _ => rfl) rfl) (ec_iconst (C := C_X6_wind) (v := (0 : Int32)) dX6_wind_11 rfl) rfl (fun _ => rfl) rfl) (ec_iconst (C := C_X6_wind) (v := (4 : Int32)) dX6_wind_12 rfl) rfl (fun _ => rfl) rfl) (Nat.le_of_ble_eq_true rfl) dX6_wind_13) dX6_wind_16 rfl))) (sc_iret (C := C_X6_wind) (p1 := 24) (ec_callV (C := C_X6_wind) (m := 2) (p1 := 21) inj_I s_X6_finding t_X6_finding ⟨w_295, Nat.le_of_ble_eq_true rfl, Nat.le_of_ble_eq_true rfl⟩ (ac_snoc (C := C_X6_wind) (n := 1) (c := 1) (p1 := 20) (ac_snoc (C := C_X6_wind) (n := 0) (c := 1) (p1 := 19) (ac_nil (C := C_X6_wind)) (ec_aload_n (C := C_X6_wind) (i := 0) dX6_wind_19 rfl) rfl (fun _ => rfl) rfl) (ec_iconst (C := C_X6_wind) (v := (0 : Int32)) dX6_wind_20 rfl) rfl (fun _ => rfl) rfl) (Nat.le_of_ble_eq_true rfl) dX6_wind_21) dX6_wind_24 rfl) sc_skip)
  (sc_seq (C := C_X6_wind) (p1 := 35) (sc_istore_n (C := C_X6_wind) (p1 := 34) (i := 3) (ec_ai (C := C_X6_wind) (p1 := 32) (p2 := 33) (ec_gr (C := C_X6_wind) (p1 := 29) (ec_gr (C := C_X6_wind) (p1 := 26) (ec_aload_n (C := C_X6_wind) (i := 0) dX6_wind_25 rfl) f_X6_10 dX6_wind_26) f_X6_85 dX6_wind_29) (ec_iload_n (C := C_X6_wind) (i := 1) dX6_wind_32 rfl) dX6_wind_33) dX6_wind_34 rfl (Nat.le_of_ble_eq_true rfl))
  (sc_seq (C := C_X6_wind) (p1 := 45) (sc_as (C := C_X6_wind) (p1 := 42) (p2 := 43) (p3 := 44) (ec_gr (C := C_X6_wind) (p1 := 39) (ec_gr (C := C_X6_wind) (p1 := 36) (ec_aload_n (C := C_X6_wind) (i := 0) dX6_wind_35 rfl) f_X6_10 dX6_wind_36) f_X6_85 dX6_wind_39) (ec_iload_n (C := C_X6_wind) (i := 1) dX6_wind_42 rfl) (ec_iload_n (C := C_X6_wind) (i := 2) dX6_wind_43 rfl) dX6_wind_44)
  (sc_iret (C := C_X6_wind) (p1 := 46) (ec_iload_n (C := C_X6_wind) (i := 3) dX6_wind_45 rfl) dX6_wind_46 rfl))))
theorem s_X6_wind : MS M_X6_wind D_X6_wind := ms_of b_X6_wind (by decide +kernel) rfl rfl (fun _ => trivial)
/-- SmokeRoofs.isKind(I)Z -/
abbrev C_X6_isKind : CX := (cX6_isKind, RX6, 1, 1, 22, "isKind", (some .boolean), fun _ => True)
abbrev M_X6_isKind : MD := (yX6_isKind, C_X6_isKind)
theorem k_X6_isKind : MOK M_X6_isKind 1 := ⟨w_50, w_310, by decide +kernel, by decide +kernel, by decide +kernel⟩
theorem t_X6_isKind : MST M_X6_isKind 1 := ⟨k_X6_isKind, w_309⟩
def S_X6_isKind : SD := (s_retz (e_call prI D_X6_isIn 3 (a_snoc Value.int (a_snoc Value.int (a_snoc Value.int a_nil (e_li 0)) (e_c (0 : Int32))) (e_c (6 : Int32)))))
def D_X6_isKind : MDen := m_den 1 S_X6_isKind
set_option maxRecDepth 100000 in
set_option maxHeartbeats 4000000 in
theorem b_X6_isKind : SC C_X6_isKind 0 0 S_X6_isKind := by
  unfold S_X6_isKind
  exact (sc_zret (C := C_X6_isKind) (p1 := 7) (ec_callS (C := C_X6_isKind) (m := 3) (p1 := 4) inj_I s_X6_isIn t_X6_isIn ⟨w_292, Nat.le_of_ble_eq_true rfl, Nat.le_of_ble_eq_true rfl⟩ (ac_snoc (C := C_X6_isKind) (n := 2) (c := 1) (p1 := 2) (ac_snoc (C := C_X6_isKind) (n := 1) (c := 1) (p1 := 1) (ac_snoc (C := C_X6_isKind) (n := 0) (c := 1) (p1 := 0) (ac_nil (C := C_X6_isKind)) (ec_iload_n (C := C_X6_isKind) (i := 0) dX6_isKind_0 rfl) rfl (fun _ => rfl) rfl) (ec_iconst (C := C_X6_isKind) (v := (0 : Int32)) dX6_isKind_1 rfl) rfl (fun _ => rfl) rfl) (ec_bipush (C := C_X6_isKind) (v := (6 : Int32)) dX6_isKind_2 rfl) rfl (fun _ => rfl) rfl) (Nat.le_of_ble_eq_true rfl) dX6_isKind_4) dX6_isKind_7 rfl)
theorem s_X6_isKind : MS M_X6_isKind D_X6_isKind := ms_of b_X6_isKind (by decide +kernel) rfl rfl (fun _ => trivial)
/-- SmokeRoofs.isOwner(I)Z -/
abbrev C_X6_isOwner : CX := (cX6_isOwner, RX6, 1, 1, 22, "isOwner", (some .boolean), fun _ => True)
abbrev M_X6_isOwner : MD := (yX6_isOwner, C_X6_isOwner)
theorem k_X6_isOwner : MOK M_X6_isOwner 1 := ⟨w_50, w_313, by decide +kernel, by decide +kernel, by decide +kernel⟩
theorem t_X6_isOwner : MST M_X6_isOwner 1 := ⟨k_X6_isOwner, w_312⟩
def S_X6_isOwner : SD := (s_retz (e_call prI D_X6_isIn 3 (a_snoc Value.int (a_snoc Value.int (a_snoc Value.int a_nil (e_li 0)) (e_c (0 : Int32))) (e_c (5 : Int32)))))
def D_X6_isOwner : MDen := m_den 1 S_X6_isOwner
set_option maxRecDepth 100000 in
set_option maxHeartbeats 4000000 in
theorem b_X6_isOwner : SC C_X6_isOwner 0 0 S_X6_isOwner := by
  unfold S_X6_isOwner
  exact (sc_zret (C := C_X6_isOwner) (p1 := 6) (ec_callS (C := C_X6_isOwner) (m := 3) (p1 := 3) inj_I s_X6_isIn t_X6_isIn ⟨w_292, Nat.le_of_ble_eq_true rfl, Nat.le_of_ble_eq_true rfl⟩ (ac_snoc (C := C_X6_isOwner) (n := 2) (c := 1) (p1 := 2) (ac_snoc (C := C_X6_isOwner) (n := 1) (c := 1) (p1 := 1) (ac_snoc (C := C_X6_isOwner) (n := 0) (c := 1) (p1 := 0) (ac_nil (C := C_X6_isOwner)) (ec_iload_n (C := C_X6_isOwner) (i := 0) dX6_isOwner_0 rfl) rfl (fun _ => rfl) rfl) (ec_iconst (C := C_X6_isOwner) (v := (0 : Int32)) dX6_isOwner_1 rfl) rfl (fun _ => rfl) rfl) (ec_iconst (C := C_X6_isOwner) (v := (5 : Int32)) dX6_isOwner_2 rfl) rfl (fun _ => rfl) rfl) (Nat.le_of_ble_eq_true rfl) dX6_isOwner_3) dX6_isOwner_6 rfl)
theorem s_X6_isOwner : MS M_X6_isOwner D_X6_isOwner := ms_of b_X6_isOwner (by decide +kernel) rfl rfl (fun _ => trivial)
/-- SmokeRoofs$Town.isFull()Z -/
abbrev C_X5_isFull : CX := (cX5_isFull, RX5, 1, 0, 0, "isFull", (some .boolean), fun _ => True)
abbrev M_X5_isFull : MD := (yX5_isFull, C_X5_isFull)
theorem k_X5_isFull : MOK M_X5_isFull 0 := ⟨w_51, w_317, by decide +kernel, by decide +kernel, by decide +kernel⟩
theorem t_X5_isFull : MVT M_X5_isFull 0 5 := ⟨k_X5_isFull, w_315, w_316, by decide, _, rfl, rfl⟩
def S_X5_isFull : SD := (s_retz (e_b (e_bin (fun (x y : Int32) => decide (y ≤ x)) (e_gi 5 2 (e_lr 0)) (e_c (8 : Int32)))))
def D_X5_isFull : MDen := m_den 1 S_X5_isFull
set_option maxRecDepth 100000 in
set_option maxHeartbeats 4000000 in
theorem b_X5_isFull : SC C_X5_isFull 0 0 S_X5_isFull := by
  unfold S_X5_isFull
  exact (sc_zret (C := C_X5_isFull) (p1 := 14) (ec_bm (C := C_X5_isFull) (pT := 9) (bc_icmp_lt_F (C := C_X5_isFull) (p1 := 4) (p2 := 6) (tgt := 13) (ec_gi (C := C_X5_isFull) (p1 := 1) (ec_aload_n (C := C_X5_isFull) (i := 0) dX5_isFull_0 rfl) f_X5_18 dX5_isFull_1) (ec_bipush (C := C_X5_isFull) (v := (8 : Int32)) dX5_isFull_4 rfl) dX5_isFull_6 rfl) dX5_isFull_9 dX5_isFull_10 rfl dX5_isFull_13) dX5_isFull_14 rfl)
theorem s_X5_isFull : MS M_X5_isFull D_X5_isFull := ms_of b_X5_isFull (by decide +kernel) rfl rfl (fun _ => trivial)
/-- SmokeRoofs$Chimney.begin(III)V -/
abbrev C_X0_begin : CX := (cX0_begin, RX0, 4, 1, 23, "begin", none, fun _ => True)
abbrev M_X0_begin : MD := (yX0_begin, C_X0_begin)
theorem k_X0_begin : MOK M_X0_begin 3 := ⟨w_53, w_325, by decide +kernel, by decide +kernel, by decide +kernel⟩
theorem t_X0_begin : MVT M_X0_begin 3 0 := ⟨k_X0_begin, w_323, w_324, by decide, _, rfl, rfl⟩
def S_X0_begin : SD := (s_seq (s_seq (s_as (e_gr 0 0 (e_lr 0)) (e_c (0 : Int32)) (e_li 1))
  (s_seq (s_as (e_gr 0 0 (e_lr 0)) (e_c (1 : Int32)) (e_li 2))
  (s_seq (s_as (e_gr 0 0 (e_lr 0)) (e_c (2 : Int32)) (e_li 3))
  (s_seq (s_as (e_gr 0 0 (e_lr 0)) (e_c (3 : Int32)) (e_c (1 : Int32)))
  (s_seq (s_as (e_gr 0 0 (e_lr 0)) (e_c (4 : Int32)) (e_c (20 : Int32)))
  (s_seq (s_as (e_gr 0 0 (e_lr 0)) (e_c (5 : Int32)) (e_c (0 : Int32)))
  (s_seq (s_as (e_gr 0 0 (e_lr 0)) (e_c (6 : Int32)) (e_c (24 : Int32)))
  (s_seq (s_call D_J7_fill_53178 2 (a_snoc Value.int (a_snoc Value.ref a_nil (e_gr 0 1 (e_lr 0))) (e_c (0 : Int32))))
  (s_seq (s_call D_J7_fill_53178 2 (a_snoc Value.int (a_snoc Value.ref a_nil (e_gr 0 2 (e_lr 0))) (e_c (0 : Int32))))
  (s_seq (s_pf Value.int 0 3 (e_lr 0) (e_c (0 : Int32)))
  (s_seq (s_pf Value.int 0 4 (e_lr 0) (e_c (0 : Int32)))
  (s_pf Value.int 0 5 (e_lr 0) (e_c (0 : Int32))))))))))))))
  s_retv)
def D_X0_begin : MDen := m_den 4 S_X0_begin
set_option maxRecDepth 100000 in
set_option maxHeartbeats 4000000 in
theorem b_X0_begin : SC C_X0_begin 0 0 S_X0_begin := by
  unfold S_X0_begin
  exact (sc_seq (C := C_X0_begin) (p1 := 83) (sc_seq (C := C_X0_begin) (p1 := 7) (sc_as (C := C_X0_begin) (p1 := 4) (p2 := 5) (p3 := 6) (ec_gr (C := C_X0_begin) (p1 := 1) (ec_aload_n (C := C_X0_begin) (i := 0) dX0_begin_0 rfl) f_X0_9 dX0_begin_1) (ec_iconst (C := C_X0_begin) (v := (0 : Int32)) dX0_begin_4 rfl) (ec_iload_n (C := C_X0_begin) (i := 1) dX0_begin_5 rfl) dX0_begin_6)
  (sc_seq (C := C_X0_begin) (p1 := 14) (sc_as (C := C_X0_begin) (p1 := 11) (p2 := 12) (p3 := 13) (ec_gr (C := C_X0_begin) (p1 := 8) (ec_aload_n (C := C_X0_begin) (i := 0) dX0_begin_7 rfl) f_X0_9 dX0_begin_8) (ec_iconst (C := C_X0_begin) (v := (1 : Int32)) dX0_begin_11 rfl) (ec_iload_n (C := C_X0_begin) (i := 2) dX0_begin_12 rfl) dX0_begin_13)
  (sc_seq (C := C_X0_begin) (p1 := 21) (sc_as (C := C_X0_begin) (p1 := 18) (p2 := 19) (p3 := 20) (ec_gr (C := C_X0_begin) (p1 := 15) (ec_aload_n (C := C_X0_begin) (i := 0) dX0_begin_14 rfl) f_X0_9 dX0_begin_15) (ec_iconst (C := C_X0_begin) (v := (2 : Int32)) dX0_begin_18 rfl) (ec_iload_n (C := C_X0_begin) (i := 3) dX0_begin_19 rfl) dX0_begin_20)
  (sc_seq (C := C_X0_begin) (p1 := 28) (sc_as (C := C_X0_begin) (p1 := 25) (p2 := 26) (p3 := 27) (ec_gr (C := C_X0_begin) (p1 := 22) (ec_aload_n (C := C_X0_begin) (i := 0) dX0_begin_21 rfl) f_X0_9 dX0_begin_22) (ec_iconst (C := C_X0_begin) (v := (3 : Int32)) dX0_begin_25 rfl) (ec_iconst (C := C_X0_begin) (v := (1 : Int32)) dX0_begin_26 rfl) dX0_begin_27)
  (sc_seq (C := C_X0_begin) (p1 := 36) (sc_as (C := C_X0_begin) (p1 := 32) (p2 := 33) (p3 := 35) (ec_gr (C := C_X0_begin) (p1 := 29) (ec_aload_n (C := C_X0_begin) (i := 0) dX0_begin_28 rfl) f_X0_9 dX0_begin_29) (ec_iconst (C := C_X0_begin) (v := (4 : Int32)) dX0_begin_32 rfl) (ec_bipush (C := C_X0_begin) (v := (20 : Int32)) dX0_begin_33 rfl) dX0_begin_35)
  (sc_seq (C := C_X0_begin) (p1 := 43) (sc_as (C := C_X0_begin) (p1 := 40) (p2 := 41) (p3 := 42) (ec_gr (C := C_X0_begin) (p1 := 37) (ec_aload_n (C := C_X0_begin) (i := 0) dX0_begin_36 rfl) f_X0_9 dX0_begin_37) (ec_iconst (C := C_X0_begin) (v := (5 : Int32)) dX0_begin_40 rfl) (ec_iconst (C := C_X0_begin) (v := (0 : Int32)) dX0_begin_41 rfl) dX0_begin_42)
  (sc_seq (C := C_X0_begin) (p1 := 52) (sc_as (C := C_X0_begin) (p1 := 47) (p2 := 49) (p3 := 51) (ec_gr (C := C_X0_begin) (p1 := 44) (ec_aload_n (C := C_X0_begin) (i := 0) dX0_begin_43 rfl) f_X0_9 dX0_begin_44) (ec_bipush (C := C_X0_begin) (v := (6 : Int32)) dX0_begin_47 rfl) (ec_bipush (C := C_X0_begin) (v := (24 : Int32)) dX0_begin_49 rfl) dX0_begin_51)
  (sc_seq (C := C_X0_begin) (p1 := 60) (sc_callS (C := C_X0_begin) (m := 2) (p1 := 57) s_J7_fill_53178 t_J7_fill_53178 ⟨w_326, Nat.le_of_ble_eq_true rfl, Nat.le_of_ble_eq_true rfl⟩ (ac_snoc (C := C_X0_begin) (n := 1) (c := 1) (p1 := 56) (ac_snoc (C := C_X0_begin) (n := 0) (c := 1) (p1 := 52) (ac_nil (C := C_X0_begin)) (ec_gr (C := C_X0_begin) (p1 := 53) (ec_aload_n (C := C_X0_begin) (i := 0) dX0_begin_52 rfl) f_X0_15 dX0_begin_53) rfl (fun _ => rfl) rfl) (ec_iconst (C := C_X0_begin) (v := (0 : Int32)) dX0_begin_56 rfl) rfl (fun _ => rfl) rfl) dX0_begin_57)
  (sc_seq (C := C_X0_begin) (p1 := 68) (sc_callS (C := C_X0_begin) (m := 2) (p1 := 65) s_J7_fill_53178 t_J7_fill_53178 ⟨w_326, Nat.le_of_ble_eq_true rfl, Nat.le_of_ble_eq_true rfl⟩ (ac_snoc (C := C_X0_begin) (n := 1) (c := 1) (p1 := 64) (ac_snoc (C := C_X0_begin) (n := 0) (c := 1) (p1 := 60) (ac_nil (C := C_X0_begin)) (ec_gr (C := C_X0_begin) (p1 := 61) (ec_aload_n (C := C_X0_begin) (i := 0) dX0_begin_60 rfl) f_X0_18 dX0_begin_61) rfl (fun _ => rfl) rfl) (ec_iconst (C := C_X0_begin) (v := (0 : Int32)) dX0_begin_64 rfl) rfl (fun _ => rfl) rfl) dX0_begin_65)
  (sc_seq (C := C_X0_begin) (p1 := 73) (sc_pf (C := C_X0_begin) (p1 := 69) (p2 := 70) (ec_aload_n (C := C_X0_begin) (i := 0) dX0_begin_68 rfl) (ec_iconst (C := C_X0_begin) (v := (0 : Int32)) dX0_begin_69 rfl) f_X0_21 dX0_begin_70)
  (sc_seq (C := C_X0_begin) (p1 := 78) (sc_pf (C := C_X0_begin) (p1 := 74) (p2 := 75) (ec_aload_n (C := C_X0_begin) (i := 0) dX0_begin_73 rfl) (ec_iconst (C := C_X0_begin) (v := (0 : Int32)) dX0_begin_74 rfl) f_X0_25 dX0_begin_75)
  (sc_pf (C := C_X0_begin) (p1 := 79) (p2 := 80) (ec_aload_n (C := C_X0_begin) (i := 0) dX0_begin_78 rfl) (ec_iconst (C := C_X0_begin) (v := (0 : Int32)) dX0_begin_79 rfl) f_X0_28 dX0_begin_80))))))))))))
  (sc_vret (C := C_X0_begin) dX0_begin_83 rfl))
theorem s_X0_begin : MS M_X0_begin D_X0_begin := ms_of b_X0_begin (by decide +kernel) rfl rfl (fun _ => trivial)
/-- SmokeRoofs$Town.raise(III)I -/
abbrev C_X5_raise : CX := (cX5_raise, RX5, 4, 2, 46, "raise", (some .int), fun _ => True)
abbrev M_X5_raise : MD := (yX5_raise, C_X5_raise)
theorem k_X5_raise : MOK M_X5_raise 3 := ⟨w_51, w_321, by decide +kernel, by decide +kernel, by decide +kernel⟩
theorem t_X5_raise : MVT M_X5_raise 3 5 := ⟨k_X5_raise, w_319, w_320, by decide, _, rfl, rfl⟩
def S_X5_raise : SD := (s_seq (s_call D_X0_begin 4 (a_recv 0 (a_snoc Value.int (a_snoc Value.int (a_snoc Value.int (a_snoc Value.ref a_nil (e_ar 0 (e_gr 5 7 (e_lr 0)) (e_gi 5 2 (e_lr 0)))) (e_li 1)) (e_li 2)) (e_li 3))))
  (s_seq (s_fop (fun (x y : Int32) => x + y) 5 2 (e_lr 0) (e_c (1 : Int32)))
  (s_ret Value.int (e_bin (fun (x y : Int32) => x - y) (e_gi 5 2 (e_lr 0)) (e_c (1 : Int32))))))
def D_X5_raise : MDen := m_den 4 S_X5_raise
set_option maxRecDepth 100000 in
set_option maxHeartbeats 4000000 in
theorem b_X5_raise : SC C_X5_raise 0 0 S_X5_raise := by
  unfold S_X5_raise
  exact (sc_seq (C := C_X5_raise) (p1 := 15) (sc_callV (C := C_X5_raise) (m := 4) (p1 := 12) s_X0_begin t_X0_begin ⟨w_322, Nat.le_of_ble_eq_true rfl, Nat.le_of_ble_eq_true rfl⟩ (ac_snoc (C := C_X5_raise) (n := 3) (c := 1) (p1 := 11) (ac_snoc (C := C_X5_raise) (n := 2) (c := 1) (p1 := 10) (ac_snoc (C := C_X5_raise) (n := 1) (c := 1) (p1 := 9) (ac_snoc (C := C_X5_raise) (n := 0) (c := 1) (p1 := 0) (ac_nil (C := C_X5_raise)) (ec_ar (C := C_X5_raise) (p1 := 4) (p2 := 8) (Nat.le_of_ble_eq_true rfl) (ec_gr (C := C_X5_raise) (p1 := 1) (ec_aload_n (C := C_X5_raise) (i := 0) dX5_raise_0 rfl) f_X5_36 dX5_raise_1) (ec_gi (C := C_X5_raise) (p1 := 5) (ec_aload_n (C := C_X5_raise) (i := 0) dX5_raise_4 rfl) f_X5_18 dX5_raise_5) dX5_raise_8) rfl (fun _ => rfl) rfl) (ec_iload_n (C := C_X5_raise) (i := 1) dX5_raise_9 rfl) rfl (fun _ => rfl) rfl) (ec_iload_n (C := C_X5_raise) (i := 2) dX5_raise_10 rfl) rfl (fun _ => rfl) rfl) (ec_iload_n (C := C_X5_raise) (i := 3) dX5_raise_11 rfl) rfl (fun _ => rfl) rfl) dX5_raise_12)
  (sc_seq (C := C_X5_raise) (p1 := 25) (sc_fop_iadd (C := C_X5_raise) (p1 := 16) (p3 := 21) (ec_aload_n (C := C_X5_raise) (i := 0) dX5_raise_15 rfl) dX5_raise_16 f_X5_18 dX5_raise_17 (ec_iconst (C := C_X5_raise) (v := (1 : Int32)) dX5_raise_20 rfl) dX5_raise_21 dX5_raise_22)
  (sc_iret (C := C_X5_raise) (p1 := 31) (ec_isub (C := C_X5_raise) (p1 := 29) (p2 := 30) (ec_gi (C := C_X5_raise) (p1 := 26) (ec_aload_n (C := C_X5_raise) (i := 0) dX5_raise_25 rfl) f_X5_18 dX5_raise_26) (ec_iconst (C := C_X5_raise) (v := (1 : Int32)) dX5_raise_29 rfl) dX5_raise_30) dX5_raise_31 rfl)))
theorem s_X5_raise : MS M_X5_raise D_X5_raise := ms_of b_X5_raise (by decide +kernel) rfl rfl (fun _ => trivial)
/-- SmokeRoofs.chimney(III)I -/
abbrev C_X6_chimney : CX := (cX6_chimney, RX6, 4, 3, 69, "chimney", (some .int), fun _ => True)
abbrev M_X6_chimney : MD := (yX6_chimney, C_X6_chimney)
theorem k_X6_chimney : MOK M_X6_chimney 3 := ⟨w_50, w_307, by decide +kernel, by decide +kernel, by decide +kernel⟩
theorem t_X6_chimney : MVT M_X6_chimney 3 6 := ⟨k_X6_chimney, w_305, w_306, by decide, _, rfl, rfl⟩
def S_X6_chimney : SD := (s_seq (s_if (b_or (b_or (b_not (b_of (e_call prI D_X6_isKind 1 (a_snoc Value.int a_nil (e_li 1))))) (b_not (b_of (e_call prI D_X6_isOwner 1 (a_snoc Value.int a_nil (e_li 2)))))) (b_not (b_of (e_call prI D_X6_isCell 1 (a_snoc Value.int a_nil (e_li 3)))))) (s_ret Value.int (e_call prI D_X6_finding 2 (a_recv 6 (a_snoc Value.int (a_snoc Value.ref a_nil (e_lr 0)) (e_c (0 : Int32)))))) s_skip)
  (s_seq (s_if (b_of (e_call prI D_X5_isFull 1 (a_recv 5 (a_snoc Value.ref a_nil (e_gr 6 0 (e_lr 0)))))) (s_ret Value.int (e_call prI D_X6_finding 2 (a_recv 6 (a_snoc Value.int (a_snoc Value.ref a_nil (e_lr 0)) (e_c (1 : Int32)))))) s_skip)
  (s_ret Value.int (e_call prI D_X5_raise 4 (a_recv 5 (a_snoc Value.int (a_snoc Value.int (a_snoc Value.int (a_snoc Value.ref a_nil (e_gr 6 0 (e_lr 0))) (e_li 1)) (e_li 2)) (e_li 3)))))))
def D_X6_chimney : MDen := m_den 4 S_X6_chimney
set_option maxRecDepth 100000 in
set_option maxHeartbeats 4000000 in
theorem b_X6_chimney : SC C_X6_chimney 0 0 S_X6_chimney := by
  unfold S_X6_chimney
  exact (sc_seq (C := C_X6_chimney) (p1 := 27) (sc_if (C := C_X6_chimney) (pT := 21) (pF := 27) (p2 := 27) (bc_or (C := C_X6_chimney) (p1 := 14) (bc_or (C := C_X6_chimney) (p1 := 7) (bc_not (C := C_X6_chimney) (bc_of_F (C := C_X6_chimney) (p2 := 4) (tgt := 21) (ec_callS (C := C_X6_chimney) (m := 1) (p1 := 1) inj_I s_X6_isKind t_X6_isKind ⟨w_308, Nat.le_of_ble_eq_true rfl, Nat.le_of_ble_eq_true rfl⟩ (ac_snoc (C := C_X6_chimney) (n := 0) (c := 1) (p1 := 0) (ac_nil (C := C_X6_chimney)) (ec_iload_n (C := C_X6_chimney) (i := 1) dX6_chimney_0 rfl) rfl (fun _ => rfl) rfl) (Nat.le_of_ble_eq_true rfl) dX6_chimney_1) dX6_chimney_4 rfl)) (bc_not (C := C_X6_chimney) (bc_of_F (C := C_X6_chimney) (p2 := 11) (tgt := 21) (ec_callS (C := C_X6_chimney) (m := 1) (p1 := 8) inj_I s_X6_isOwner t_X6_isOwner ⟨w_311, Nat.le_of_ble_eq_true rfl, Nat.le_of_ble_eq_true rfl⟩ (ac_snoc (C := C_X6_chimney) (n := 0) (c := 1) (p1 := 7) (ac_nil (C := C_X6_chimney)) (ec_iload_n (C := C_X6_chimney) (i := 2) dX6_chimney_7 rfl) rfl (fun _ => rfl) rfl) (Nat.le_of_ble_eq_true rfl) dX6_chimney_8) dX6_chimney_11 rfl))) (bc_not (C := C_X6_chimney) (bc_of_T (C := C_X6_chimney) (p2 := 18) (tgt := 27) (ec_callS (C := C_X6_chimney) (m := 1) (p1 := 15) inj_I s_X6_isCell t_X6_isCell ⟨w_289, Nat.le_of_ble_eq_true rfl, Nat.le_of_ble_eq_true rfl⟩ (ac_snoc (C := C_X6_chimney) (n := 0) (c := 1) (p1 := 14) (ac_nil (C := C_X6_chimney)) (ec_iload_n (C := C_X6_chimney) (i := 3) dX6_chimney_14 rfl) rfl (fun _ => rfl) rfl) (Nat.le_of_ble_eq_true rfl) dX6_chimney_15) dX6_chimney_18 rfl))) (sc_iret (C := C_X6_chimney) (p1 := 26) (ec_callV (C := C_X6_chimney) (m := 2) (p1 := 23) inj_I s_X6_finding t_X6_finding ⟨w_295, Nat.le_of_ble_eq_true rfl, Nat.le_of_ble_eq_true rfl⟩ (ac_snoc (C := C_X6_chimney) (n := 1) (c := 1) (p1 := 22) (ac_snoc (C := C_X6_chimney) (n := 0) (c := 1) (p1 := 21) (ac_nil (C := C_X6_chimney)) (ec_aload_n (C := C_X6_chimney) (i := 0) dX6_chimney_21 rfl) rfl (fun _ => rfl) rfl) (ec_iconst (C := C_X6_chimney) (v := (0 : Int32)) dX6_chimney_22 rfl) rfl (fun _ => rfl) rfl) (Nat.le_of_ble_eq_true rfl) dX6_chimney_23) dX6_chimney_26 rfl) sc_skip)
  (sc_seq (C := C_X6_chimney) (p1 := 43) (sc_if (C := C_X6_chimney) (pT := 37) (pF := 43) (p2 := 43) (bc_of_F (C := C_X6_chimney) (p2 := 34) (tgt := 43) (ec_callV (C := C_X6_chimney) (m := 1) (p1 := 31) inj_I s_X5_isFull t_X5_isFull ⟨w_314, Nat.le_of_ble_eq_true rfl, Nat.le_of_ble_eq_true rfl⟩ (ac_snoc (C := C_X6_chimney) (n := 0) (c := 1) (p1 := 27) (ac_nil (C := C_X6_chimney)) (ec_gr (C := C_X6_chimney) (p1 := 28) (ec_aload_n (C := C_X6_chimney) (i := 0) dX6_chimney_27 rfl) f_X6_10 dX6_chimney_28) rfl (fun _ => rfl) rfl) (Nat.le_of_ble_eq_true rfl) dX6_chimney_31) dX6_chimney_34 rfl) (sc_iret (C := C_X6_chimney) (p1 := 42) (ec_callV (C := C_X6_chimney) (m := 2) (p1 := 39) inj_I s_X6_finding t_X6_finding ⟨w_295, Nat.le_of_ble_eq_true rfl, Nat.le_of_ble_eq_true rfl⟩ (ac_snoc (C := C_X6_chimney) (n := 1) (c := 1) (p1 := 38) (ac_snoc (C := C_X6_chimney) (n := 0) (c := 1) (p1 := 37) (ac_nil (C := C_X6_chimney)) (ec_aload_n (C := C_X6_chimney) (i := 0) dX6_chimney_37 rfl) rfl (fun _ => rfl) rfl) (ec_iconst (C := C_X6_chimney) (v := (1 : Int32)) dX6_chimney_38 rfl) rfl (fun _ => rfl) rfl) (Nat.le_of_ble_eq_true rfl) dX6_chimney_39) dX6_chimney_42 rfl) sc_skip)
  (sc_iret (C := C_X6_chimney) (p1 := 53) (ec_callV (C := C_X6_chimney) (m := 4) (p1 := 50) inj_I s_X5_raise t_X5_raise ⟨w_318, Nat.le_of_ble_eq_true rfl, Nat.le_of_ble_eq_true rfl⟩ (ac_snoc (C := C_X6_chimney) (n := 3) (c := 1) (p1 := 49) (ac_snoc (C := C_X6_chimney) (n := 2) (c := 1) (p1 := 48) (ac_snoc (C := C_X6_chimney) (n := 1) (c := 1) (p1 := 47) (ac_snoc (C := C_X6_chimney) (n := 0) (c := 1) (p1 := 43) (ac_nil (C := C_X6_chimney)) (ec_gr (C := C_X6_chimney) (p1 := 44) (ec_aload_n (C := C_X6_chimney) (i := 0) dX6_chimney_43 rfl) f_X6_10 dX6_chimney_44) rfl (fun _ => rfl) rfl) (ec_iload_n (C := C_X6_chimney) (i := 1) dX6_chimney_47 rfl) rfl (fun _ => rfl) rfl) (ec_iload_n (C := C_X6_chimney) (i := 2) dX6_chimney_48 rfl) rfl (fun _ => rfl) rfl) (ec_iload_n (C := C_X6_chimney) (i := 3) dX6_chimney_49 rfl) rfl (fun _ => rfl) rfl) (Nat.le_of_ble_eq_true rfl) dX6_chimney_50) dX6_chimney_53 rfl)))
theorem s_X6_chimney : MS M_X6_chimney D_X6_chimney := ms_of b_X6_chimney (by decide +kernel) rfl rfl (fun _ => trivial)
/-- SmokeRoofs.isChimney(I)Z -/
abbrev C_X6_isChimney : CX := (cX6_isChimney, RX6, 2, 1, 22, "isChimney", (some .boolean), fun _ => True)
abbrev M_X6_isChimney : MD := (yX6_isChimney, C_X6_isChimney)
theorem k_X6_isChimney : MOK M_X6_isChimney 1 := ⟨w_50, w_334, by decide +kernel, by decide +kernel, by decide +kernel⟩
theorem t_X6_isChimney : MVT M_X6_isChimney 1 6 := ⟨k_X6_isChimney, w_333, w_1, by decide, _, rfl, rfl⟩
def S_X6_isChimney : SD := (s_retz (e_call prI D_X6_isIn 3 (a_snoc Value.int (a_snoc Value.int (a_snoc Value.int a_nil (e_li 1)) (e_c (0 : Int32))) (e_bin (fun (x y : Int32) => x - y) (e_gi 5 2 (e_gr 6 0 (e_lr 0))) (e_c (1 : Int32))))))
def D_X6_isChimney : MDen := m_den 2 S_X6_isChimney
set_option maxRecDepth 100000 in
set_option maxHeartbeats 4000000 in
theorem b_X6_isChimney : SC C_X6_isChimney 0 0 S_X6_isChimney := by
  unfold S_X6_isChimney
  exact (sc_zret (C := C_X6_isChimney) (p1 := 14) (ec_callS (C := C_X6_isChimney) (m := 3) (p1 := 11) inj_I s_X6_isIn t_X6_isIn ⟨w_292, Nat.le_of_ble_eq_true rfl, Nat.le_of_ble_eq_true rfl⟩ (ac_snoc (C := C_X6_isChimney) (n := 2) (c := 1) (p1 := 2) (ac_snoc (C := C_X6_isChimney) (n := 1) (c := 1) (p1 := 1) (ac_snoc (C := C_X6_isChimney) (n := 0) (c := 1) (p1 := 0) (ac_nil (C := C_X6_isChimney)) (ec_iload_n (C := C_X6_isChimney) (i := 1) dX6_isChimney_0 rfl) rfl (fun _ => rfl) rfl) (ec_iconst (C := C_X6_isChimney) (v := (0 : Int32)) dX6_isChimney_1 rfl) rfl (fun _ => rfl) rfl) (ec_isub (C := C_X6_isChimney) (p1 := 9) (p2 := 10) (ec_gi (C := C_X6_isChimney) (p1 := 6) (ec_gr (C := C_X6_isChimney) (p1 := 3) (ec_aload_n (C := C_X6_isChimney) (i := 0) dX6_isChimney_2 rfl) f_X6_10 dX6_isChimney_3) f_X6_178 dX6_isChimney_6) (ec_iconst (C := C_X6_isChimney) (v := (1 : Int32)) dX6_isChimney_9 rfl) dX6_isChimney_10) rfl (fun _ => rfl) rfl) (Nat.le_of_ble_eq_true rfl) dX6_isChimney_11) dX6_isChimney_14 rfl)
theorem s_X6_isChimney : MS M_X6_isChimney D_X6_isChimney := ms_of b_X6_isChimney (by decide +kernel) rfl rfl (fun _ => trivial)
/-- SmokeRoofs$Chimney.burnsAt(I)I -/
abbrev C_X0_burnsAt : CX := (cX0_burnsAt, RX0, 3, 0, 0, "burnsAt", (some .int), fun _ => True)
abbrev M_X0_burnsAt : MD := (yX0_burnsAt, C_X0_burnsAt)
theorem k_X0_burnsAt : MOK M_X0_burnsAt 1 := ⟨w_53, w_360, by decide +kernel, by decide +kernel, by decide +kernel⟩
theorem t_X0_burnsAt : MVT M_X0_burnsAt 1 0 := ⟨k_X0_burnsAt, w_358, w_359, by decide, _, rfl, rfl⟩
def S_X0_burnsAt : SD := (s_seq (s_st Value.int 2 (e_ai (e_gr 0 0 (e_lr 0)) (e_c (4 : Int32))))
  (s_tab (e_ai (e_gr 0 0 (e_lr 0)) (e_c (0 : Int32))) (3) (6) [(44, (s_ret Value.int (e_bin (fun (x y : Int32) => x * y) (e_c (2 : Int32)) (e_li 2)))),
  (54, (s_ret Value.int (e_if (e_bin (fun (x y : Int32) => decide (x < y)) (e_li 1) (e_c (12 : Int32))) (e_li 2) (e_c (0 : Int32))))),
  (66, (s_ret Value.int (e_li 2))),
  (48, (s_ret Value.int (e_bin (fun (x y : Int32) => x + y) (e_bin (fun (x y : Int32) => x * y) (e_c (2 : Int32)) (e_li 2)) (e_c (5 : Int32)))))] (s_ret Value.int (e_li 2))))
def D_X0_burnsAt : MDen := m_den 3 S_X0_burnsAt
set_option maxRecDepth 100000 in
set_option maxHeartbeats 4000000 in
theorem b_X0_burnsAt : SC C_X0_burnsAt 0 0 S_X0_burnsAt := by
  unfold S_X0_burnsAt
  exact (sc_seq (C := C_X0_burnsAt) (p1 := 7) (sc_istore_n (C := C_X0_burnsAt) (p1 := 6) (i := 2) (ec_ai (C := C_X0_burnsAt) (p1 := 4) (p2 := 5) (ec_gr (C := C_X0_burnsAt) (p1 := 1) (ec_aload_n (C := C_X0_burnsAt) (i := 0) dX0_burnsAt_0 rfl) f_X0_9 dX0_burnsAt_1) (ec_iconst (C := C_X0_burnsAt) (v := (4 : Int32)) dX0_burnsAt_4 rfl) dX0_burnsAt_5) dX0_burnsAt_6 rfl (Nat.le_of_ble_eq_true rfl))
  (sc_tab (C := C_X0_burnsAt) (arms := [(44, (s_ret Value.int (e_bin (fun (x y : Int32) => x * y) (e_c (2 : Int32)) (e_li 2)))), (54, (s_ret Value.int (e_if (e_bin (fun (x y : Int32) => decide (x < y)) (e_li 1) (e_c (12 : Int32))) (e_li 2) (e_c (0 : Int32))))), (66, (s_ret Value.int (e_li 2))), (48, (s_ret Value.int (e_bin (fun (x y : Int32) => x + y) (e_bin (fun (x y : Int32) => x * y) (e_c (2 : Int32)) (e_li 2)) (e_c (5 : Int32)))))]) (p1 := 13) (pD := 66) (p2 := 0) (ec_ai (C := C_X0_burnsAt) (p1 := 11) (p2 := 12) (ec_gr (C := C_X0_burnsAt) (p1 := 8) (ec_aload_n (C := C_X0_burnsAt) (i := 0) dX0_burnsAt_7 rfl) f_X0_9 dX0_burnsAt_8) (ec_iconst (C := C_X0_burnsAt) (v := (0 : Int32)) dX0_burnsAt_11 rfl) dX0_burnsAt_12) dX0_burnsAt_13 rfl (sc_iret (C := C_X0_burnsAt) (p1 := 67) (ec_iload_n (C := C_X0_burnsAt) (i := 2) dX0_burnsAt_66 rfl) dX0_burnsAt_67 rfl) rfl ⟨(sc_iret (C := C_X0_burnsAt) (p1 := 47) (ec_imul (C := C_X0_burnsAt) (p1 := 45) (p2 := 46) (ec_iconst (C := C_X0_burnsAt) (v := (2 : Int32)) dX0_burnsAt_44 rfl) (ec_iload_n (C := C_X0_burnsAt) (i := 2) dX0_burnsAt_45 rfl) dX0_burnsAt_46) dX0_burnsAt_47 rfl), ⟨(sc_iret (C := C_X0_burnsAt) (p1 := 65) (ec_if (C := C_X0_burnsAt) (pT := 60) (pF := 64) (p1 := 61) (pE := 65) (bc_icmp_ge_F (C := C_X0_burnsAt) (p1 := 55) (p2 := 57) (tgt := 64) (ec_iload_n (C := C_X0_burnsAt) (i := 1) dX0_burnsAt_54 rfl) (ec_bipush (C := C_X0_burnsAt) (v := (12 : Int32)) dX0_burnsAt_55 rfl) dX0_burnsAt_57 rfl) (ec_iload_n (C := C_X0_burnsAt) (i := 2) dX0_burnsAt_60 rfl) dX0_burnsAt_61 rfl (ec_iconst (C := C_X0_burnsAt) (v := (0 : Int32)) dX0_burnsAt_64 rfl)) dX0_burnsAt_65 rfl), ⟨(sc_iret (C := C_X0_burnsAt) (p1 := 67) (ec_iload_n (C := C_X0_burnsAt) (i := 2) dX0_burnsAt_66 rfl) dX0_burnsAt_67 rfl), ⟨(sc_iret (C := C_X0_burnsAt) (p1 := 53) (ec_iadd (C := C_X0_burnsAt) (p1 := 51) (p2 := 52) (ec_imul (C := C_X0_burnsAt) (p1 := 49) (p2 := 50) (ec_iconst (C := C_X0_burnsAt) (v := (2 : Int32)) dX0_burnsAt_48 rfl) (ec_iload_n (C := C_X0_burnsAt) (i := 2) dX0_burnsAt_49 rfl) dX0_burnsAt_50) (ec_iconst (C := C_X0_burnsAt) (v := (5 : Int32)) dX0_burnsAt_51 rfl) dX0_burnsAt_52) dX0_burnsAt_53 rfl), trivial⟩⟩⟩⟩))
theorem s_X0_burnsAt : MS M_X0_burnsAt D_X0_burnsAt := ms_of b_X0_burnsAt (by decide +kernel) rfl rfl (fun _ => trivial)
/-- java/lang/Math.floorMod(II)I -/
abbrev C_J9_floorMod_7cf53 : CX := (cJ9_floorMod_7cf53, RJ9, 3, 0, 0, "floorMod", (some .int), fun _ => True)
abbrev M_J9_floorMod_7cf53 : MD := (yJ9_floorMod_7cf53, C_J9_floorMod_7cf53)
theorem k_J9_floorMod_7cf53 : MOK M_J9_floorMod_7cf53 2 := ⟨w_59, w_356, by decide +kernel, by decide +kernel, by decide +kernel⟩
theorem t_J9_floorMod_7cf53 : MST M_J9_floorMod_7cf53 2 := ⟨k_J9_floorMod_7cf53, w_355⟩
def S_J9_floorMod_7cf53 : SD := (s_seq (s_st Value.int 2 (e_rem (e_li 0) (e_li 1)))
  (s_seq (s_if (b_and (e_un (fun (x : Int32) => decide (x < 0)) (e_bin (fun (x y : Int32) => x ^^^ y) (e_li 0) (e_li 1))) (e_un (fun (x : Int32) => decide (x ≠ 0)) (e_li 2))) (s_ret Value.int (e_bin (fun (x y : Int32) => x + y) (e_li 2) (e_li 1))) s_skip)
  (s_ret Value.int (e_li 2))))
def D_J9_floorMod_7cf53 : MDen := m_den 3 S_J9_floorMod_7cf53
set_option maxRecDepth 100000 in
set_option maxHeartbeats 4000000 in
theorem b_J9_floorMod_7cf53 : SC C_J9_floorMod_7cf53 0 0 S_J9_floorMod_7cf53 := by
  unfold S_J9_floorMod_7cf53
  exact (sc_seq (C := C_J9_floorMod_7cf53) (p1 := 4) (sc_istore_n (C := C_J9_floorMod_7cf53) (p1 := 3) (i := 2) (ec_irem (C := C_J9_floorMod_7cf53) (p1 := 1) (p2 := 2) (ec_iload_n (C := C_J9_floorMod_7cf53) (i := 0) dJ9_floorMod_7cf53_0 rfl) (ec_iload_n (C := C_J9_floorMod_7cf53) (i := 1) dJ9_floorMod_7cf53_1 rfl) dJ9_floorMod_7cf53_2) dJ9_floorMod_7cf53_3 rfl (Nat.le_of_ble_eq_true rfl))
  (sc_seq (C := C_J9_floorMod_7cf53) (p1 := 18) (sc_if (C := C_J9_floorMod_7cf53) (pT := 14) (pF := 18) (p2 := 18) (bc_and (C := C_J9_floorMod_7cf53) (p1 := 10) (bc_if_ge_F (C := C_J9_floorMod_7cf53) (p2 := 7) (tgt := 18) (ec_ixor (C := C_J9_floorMod_7cf53) (p1 := 5) (p2 := 6) (ec_iload_n (C := C_J9_floorMod_7cf53) (i := 0) dJ9_floorMod_7cf53_4 rfl) (ec_iload_n (C := C_J9_floorMod_7cf53) (i := 1) dJ9_floorMod_7cf53_5 rfl) dJ9_floorMod_7cf53_6) dJ9_floorMod_7cf53_7 rfl) (bc_if_eq_F (C := C_J9_floorMod_7cf53) (p2 := 11) (tgt := 18) (ec_iload_n (C := C_J9_floorMod_7cf53) (i := 2) dJ9_floorMod_7cf53_10 rfl) dJ9_floorMod_7cf53_11 rfl)) (sc_iret (C := C_J9_floorMod_7cf53) (p1 := 17) (ec_iadd (C := C_J9_floorMod_7cf53) (p1 := 15) (p2 := 16) (ec_iload_n (C := C_J9_floorMod_7cf53) (i := 2) dJ9_floorMod_7cf53_14 rfl) (ec_iload_n (C := C_J9_floorMod_7cf53) (i := 1) dJ9_floorMod_7cf53_15 rfl) dJ9_floorMod_7cf53_16) dJ9_floorMod_7cf53_17 rfl) sc_skip)
  (sc_iret (C := C_J9_floorMod_7cf53) (p1 := 19) (ec_iload_n (C := C_J9_floorMod_7cf53) (i := 2) dJ9_floorMod_7cf53_18 rfl) dJ9_floorMod_7cf53_19 rfl)))
theorem s_J9_floorMod_7cf53 : MS M_J9_floorMod_7cf53 D_J9_floorMod_7cf53 := ms_of b_J9_floorMod_7cf53 (by decide +kernel) rfl rfl (fun _ => trivial)
/-- SmokeRoofs$Chimney.isLitAt(I)Z -/
abbrev C_X0_isLitAt : CX := (cX0_isLitAt, RX0, 2, 1, 22, "isLitAt", (some .boolean), fun _ => True)
abbrev M_X0_isLitAt : MD := (yX0_isLitAt, C_X0_isLitAt)
theorem k_X0_isLitAt : MOK M_X0_isLitAt 1 := ⟨w_53, w_353, by decide +kernel, by decide +kernel, by decide +kernel⟩
theorem t_X0_isLitAt : MVT M_X0_isLitAt 1 0 := ⟨k_X0_isLitAt, w_351, w_352, by decide, _, rfl, rfl⟩
def S_X0_isLitAt : SD := (s_retz (e_b (e_bin (fun (x y : Int32) => decide (x < y)) (e_call prI D_J9_floorMod_7cf53 2 (a_snoc Value.int (a_snoc Value.int a_nil (e_bin (fun (x y : Int32) => x - y) (e_li 1) (e_ai (e_gr 0 0 (e_lr 0)) (e_c (5 : Int32))))) (e_c (24 : Int32)))) (e_ai (e_gr 0 0 (e_lr 0)) (e_c (6 : Int32))))))
def D_X0_isLitAt : MDen := m_den 2 S_X0_isLitAt
set_option maxRecDepth 100000 in
set_option maxHeartbeats 4000000 in
theorem b_X0_isLitAt : SC C_X0_isLitAt 0 0 S_X0_isLitAt := by
  unfold S_X0_isLitAt
  exact (sc_zret (C := C_X0_isLitAt) (p1 := 28) (ec_bm (C := C_X0_isLitAt) (pT := 23) (bc_icmp_ge_F (C := C_X0_isLitAt) (p1 := 13) (p2 := 20) (tgt := 27) (ec_callS (C := C_X0_isLitAt) (m := 2) (p1 := 10) inj_I s_J9_floorMod_7cf53 t_J9_floorMod_7cf53 ⟨w_354, Nat.le_of_ble_eq_true rfl, Nat.le_of_ble_eq_true rfl⟩ (ac_snoc (C := C_X0_isLitAt) (n := 1) (c := 1) (p1 := 8) (ac_snoc (C := C_X0_isLitAt) (n := 0) (c := 1) (p1 := 0) (ac_nil (C := C_X0_isLitAt)) (ec_isub (C := C_X0_isLitAt) (p1 := 1) (p2 := 7) (ec_iload_n (C := C_X0_isLitAt) (i := 1) dX0_isLitAt_0 rfl) (ec_ai (C := C_X0_isLitAt) (p1 := 5) (p2 := 6) (ec_gr (C := C_X0_isLitAt) (p1 := 2) (ec_aload_n (C := C_X0_isLitAt) (i := 0) dX0_isLitAt_1 rfl) f_X0_9 dX0_isLitAt_2) (ec_iconst (C := C_X0_isLitAt) (v := (5 : Int32)) dX0_isLitAt_5 rfl) dX0_isLitAt_6) dX0_isLitAt_7) rfl (fun _ => rfl) rfl) (ec_bipush (C := C_X0_isLitAt) (v := (24 : Int32)) dX0_isLitAt_8 rfl) rfl (fun _ => rfl) rfl) (Nat.le_of_ble_eq_true rfl) dX0_isLitAt_10) (ec_ai (C := C_X0_isLitAt) (p1 := 17) (p2 := 19) (ec_gr (C := C_X0_isLitAt) (p1 := 14) (ec_aload_n (C := C_X0_isLitAt) (i := 0) dX0_isLitAt_13 rfl) f_X0_9 dX0_isLitAt_14) (ec_bipush (C := C_X0_isLitAt) (v := (6 : Int32)) dX0_isLitAt_17 rfl) dX0_isLitAt_19) dX0_isLitAt_20 rfl) dX0_isLitAt_23 dX0_isLitAt_24 rfl dX0_isLitAt_27) dX0_isLitAt_28 rfl)
theorem s_X0_isLitAt : MS M_X0_isLitAt D_X0_isLitAt := ms_of b_X0_isLitAt (by decide +kernel) rfl rfl (fun _ => trivial)
/-- java/lang/Math.max(II)I -/
abbrev C_J9_max_7cf53 : CX := (cJ9_max_7cf53, RJ9, 2, 0, 0, "max", (some .int), fun _ => True)
abbrev M_J9_max_7cf53 : MD := (yJ9_max_7cf53, C_J9_max_7cf53)
theorem k_J9_max_7cf53 : MOK M_J9_max_7cf53 2 := ⟨w_59, w_349, by decide +kernel, by decide +kernel, by decide +kernel⟩
theorem t_J9_max_7cf53 : MST M_J9_max_7cf53 2 := ⟨k_J9_max_7cf53, w_348⟩
def S_J9_max_7cf53 : SD := (s_ret Value.int (e_if (e_bin (fun (x y : Int32) => decide (y ≤ x)) (e_li 0) (e_li 1)) (e_li 0) (e_li 1)))
def D_J9_max_7cf53 : MDen := m_den 2 S_J9_max_7cf53
set_option maxRecDepth 100000 in
set_option maxHeartbeats 4000000 in
theorem b_J9_max_7cf53 : SC C_J9_max_7cf53 0 0 S_J9_max_7cf53 := by
  unfold S_J9_max_7cf53
  exact (sc_iret (C := C_J9_max_7cf53) (p1 := 10) (ec_if (C := C_J9_max_7cf53) (pT := 5) (pF := 9) (p1 := 6) (pE := 10) (bc_icmp_lt_F (C := C_J9_max_7cf53) (p1 := 1) (p2 := 2) (tgt := 9) (ec_iload_n (C := C_J9_max_7cf53) (i := 0) dJ9_max_7cf53_0 rfl) (ec_iload_n (C := C_J9_max_7cf53) (i := 1) dJ9_max_7cf53_1 rfl) dJ9_max_7cf53_2 rfl) (ec_iload_n (C := C_J9_max_7cf53) (i := 0) dJ9_max_7cf53_5 rfl) dJ9_max_7cf53_6 rfl (ec_iload_n (C := C_J9_max_7cf53) (i := 1) dJ9_max_7cf53_9 rfl)) dJ9_max_7cf53_10 rfl)
theorem s_J9_max_7cf53 : MS M_J9_max_7cf53 D_J9_max_7cf53 := ms_of b_J9_max_7cf53 (by decide +kernel) rfl rfl (fun _ => trivial)
/-- SmokeRoofs$Chimney.sooty()I -/
abbrev C_X0_sooty : CX := (cX0_sooty, RX0, 1, 1, 21, "sooty", (some .int), fun _ => True)
abbrev M_X0_sooty : MD := (yX0_sooty, C_X0_sooty)
theorem k_X0_sooty : MOK M_X0_sooty 0 := ⟨w_53, w_344, by decide +kernel, by decide +kernel, by decide +kernel⟩
theorem t_X0_sooty : MVT M_X0_sooty 0 0 := ⟨k_X0_sooty, w_342, w_343, by decide, _, rfl, rfl⟩
def S_X0_sooty : SD := (s_ret Value.int (e_call prI D_J9_max_7cf53 2 (a_snoc Value.int (a_snoc Value.int a_nil (e_bin (fun (x y : Int32) => x - y) (e_ai (e_c (SPB + 3)) (e_ai (e_gr 0 0 (e_lr 0)) (e_c (0 : Int32)))) (e_bin (fun (x y : Int32) => x * y) (e_c (3 : Int32)) (e_ai (e_gr 0 0 (e_lr 0)) (e_c (3 : Int32)))))) (e_c (0 : Int32)))))
def D_X0_sooty : MDen := m_den 1 S_X0_sooty
set_option maxRecDepth 100000 in
set_option maxHeartbeats 4000000 in
theorem b_X0_sooty : SC C_X0_sooty 0 0 S_X0_sooty := by
  unfold S_X0_sooty
  exact (sc_iret (C := C_X0_sooty) (p1 := 23) (ec_callS (C := C_X0_sooty) (m := 2) (p1 := 20) inj_I s_J9_max_7cf53 t_J9_max_7cf53 ⟨w_347, Nat.le_of_ble_eq_true rfl, Nat.le_of_ble_eq_true rfl⟩ (ac_snoc (C := C_X0_sooty) (n := 1) (c := 1) (p1 := 19) (ac_snoc (C := C_X0_sooty) (n := 0) (c := 1) (p1 := 0) (ac_nil (C := C_X0_sooty)) (ec_isub (C := C_X0_sooty) (p1 := 10) (p2 := 18) (ec_ai (C := C_X0_sooty) (p1 := 3) (p2 := 9) (ec_stN (C := C_X0_sooty) (i := 3) (q := st_tab[3]) rfl (by decide +kernel) dX0_sooty_0) (ec_ai (C := C_X0_sooty) (p1 := 7) (p2 := 8) (ec_gr (C := C_X0_sooty) (p1 := 4) (ec_aload_n (C := C_X0_sooty) (i := 0) dX0_sooty_3 rfl) f_X0_9 dX0_sooty_4) (ec_iconst (C := C_X0_sooty) (v := (0 : Int32)) dX0_sooty_7 rfl) dX0_sooty_8) dX0_sooty_9) (ec_imul (C := C_X0_sooty) (p1 := 11) (p2 := 17) (ec_iconst (C := C_X0_sooty) (v := (3 : Int32)) dX0_sooty_10 rfl) (ec_ai (C := C_X0_sooty) (p1 := 15) (p2 := 16) (ec_gr (C := C_X0_sooty) (p1 := 12) (ec_aload_n (C := C_X0_sooty) (i := 0) dX0_sooty_11 rfl) f_X0_9 dX0_sooty_12) (ec_iconst (C := C_X0_sooty) (v := (3 : Int32)) dX0_sooty_15 rfl) dX0_sooty_16) dX0_sooty_17) dX0_sooty_18) rfl (fun _ => rfl) rfl) (ec_iconst (C := C_X0_sooty) (v := (0 : Int32)) dX0_sooty_19 rfl) rfl (fun _ => rfl) rfl) (Nat.le_of_ble_eq_true rfl) dX0_sooty_20) dX0_sooty_23 rfl)
theorem s_X0_sooty : MS M_X0_sooty D_X0_sooty := ms_of b_X0_sooty (by decide +kernel) rfl rfl (fun _ => trivial)
/-- SmokeRoofs$Chimney.worth()I -/
abbrev C_X0_worth : CX := (cX0_worth, RX0, 1, 0, 0, "worth", (some .int), fun _ => True)
abbrev M_X0_worth : MD := (yX0_worth, C_X0_worth)
theorem k_X0_worth : MOK M_X0_worth 0 := ⟨w_53, w_338, by decide +kernel, by decide +kernel, by decide +kernel⟩
theorem t_X0_worth : MVT M_X0_worth 0 0 := ⟨k_X0_worth, w_336, w_337, by decide, _, rfl, rfl⟩
def S_X0_worth : SD := (s_ret Value.int (e_ai (e_c (SPB + 2)) (e_ai (e_gr 0 0 (e_lr 0)) (e_c (0 : Int32)))))
def D_X0_worth : MDen := m_den 1 S_X0_worth
set_option maxRecDepth 100000 in
set_option maxHeartbeats 4000000 in
theorem b_X0_worth : SC C_X0_worth 0 0 S_X0_worth := by
  unfold S_X0_worth
  exact (sc_iret (C := C_X0_worth) (p1 := 10) (ec_ai (C := C_X0_worth) (p1 := 3) (p2 := 9) (ec_stN (C := C_X0_worth) (i := 2) (q := st_tab[2]) rfl (by decide +kernel) dX0_worth_0) (ec_ai (C := C_X0_worth) (p1 := 7) (p2 := 8) (ec_gr (C := C_X0_worth) (p1 := 4) (ec_aload_n (C := C_X0_worth) (i := 0) dX0_worth_3 rfl) f_X0_9 dX0_worth_4) (ec_iconst (C := C_X0_worth) (v := (0 : Int32)) dX0_worth_7 rfl) dX0_worth_8) dX0_worth_9) dX0_worth_10 rfl)
theorem s_X0_worth : MS M_X0_worth D_X0_worth := ms_of b_X0_worth (by decide +kernel) rfl rfl (fun _ => trivial)
/-- SmokeRoofs.of(II)I -/
abbrev C_X6_of : CX := (cX6_of, RX6, 5, 2, 43, "of", (some .int), fun _ => True)
abbrev M_X6_of : MD := (yX6_of, C_X6_of)
theorem k_X6_of : MOK M_X6_of 2 := ⟨w_50, w_330, by decide +kernel, by decide +kernel, by decide +kernel⟩
theorem t_X6_of : MVT M_X6_of 2 6 := ⟨k_X6_of, w_328, w_329, by decide, _, rfl, rfl⟩
def S_X6_of : SD := (s_seq (s_if (b_or (b_not (b_of (e_call prI D_X6_isChimney 2 (a_recv 6 (a_snoc Value.int (a_snoc Value.ref a_nil (e_lr 0)) (e_li 1)))))) (b_not (b_of (e_call prI D_X6_isIn 3 (a_snoc Value.int (a_snoc Value.int (a_snoc Value.int a_nil (e_li 2)) (e_c (0 : Int32))) (e_c (9 : Int32))))))) (s_ret Value.int (e_call prI D_X6_finding 2 (a_recv 6 (a_snoc Value.int (a_snoc Value.ref a_nil (e_lr 0)) (e_c (0 : Int32)))))) s_skip)
  (s_seq (s_st Value.ref 3 (e_ar 0 (e_gr 5 7 (e_gr 6 0 (e_lr 0))) (e_li 1)))
  (s_seq (s_if (e_bin (fun (x y : Int32) => decide (x < y)) (e_li 2) (e_c (7 : Int32))) (s_ret Value.int (e_ai (e_gr 0 0 (e_lr 3)) (e_li 2))) s_skip)
  (s_seq (s_if (e_bin (fun (x y : Int32) => decide (x = y)) (e_li 2) (e_c (7 : Int32))) (s_ret Value.int (e_call prI D_X0_worth 1 (a_recv 0 (a_snoc Value.ref a_nil (e_lr 3))))) s_skip)
  (s_seq (s_if (e_bin (fun (x y : Int32) => decide (x = y)) (e_li 2) (e_c (8 : Int32))) (s_ret Value.int (e_call prI D_X0_sooty 1 (a_recv 0 (a_snoc Value.ref a_nil (e_lr 3))))) s_skip)
  (s_seq (s_st Value.int 4 (e_rem (e_gi 5 0 (e_gr 6 0 (e_lr 0))) (e_c (24 : Int32))))
  (s_ret Value.int (e_if (b_of (e_call prI D_X0_isLitAt 2 (a_recv 0 (a_snoc Value.int (a_snoc Value.ref a_nil (e_lr 3)) (e_li 4))))) (e_call prI D_X0_burnsAt 2 (a_recv 0 (a_snoc Value.int (a_snoc Value.ref a_nil (e_lr 3)) (e_li 4)))) (e_c (0 : Int32))))))))))
def D_X6_of : MDen := m_den 5 S_X6_of
set_option maxRecDepth 100000 in
set_option maxHeartbeats 4000000 in
theorem b_X6_of : SC C_X6_of 0 0 S_X6_of := by
  unfold S_X6_of
  exact (sc_seq (C := C_X6_of) (p1 := 24) (sc_if (C := C_X6_of) (pT := 18) (pF := 24) (p2 := 24) (bc_or (C := C_X6_of) (p1 := 8) (bc_not (C := C_X6_of) (bc_of_F (C := C_X6_of) (p2 := 5) (tgt := 18) (ec_callV (C := C_X6_of) (m := 2) (p1 := 2) inj_I s_X6_isChimney t_X6_isChimney ⟨w_331, Nat.le_of_ble_eq_true rfl, Nat.le_of_ble_eq_true rfl⟩ (ac_snoc (C := C_X6_of) (n := 1) (c := 1) (p1 := 1) (ac_snoc (C := C_X6_of) (n := 0) (c := 1) (p1 := 0) (ac_nil (C := C_X6_of)) (ec_aload_n (C := C_X6_of) (i := 0) dX6_of_0 rfl) rfl (fun _ => rfl) rfl) (ec_iload_n (C := C_X6_of) (i := 1) dX6_of_1 rfl) rfl (fun _ => rfl) rfl) (Nat.le_of_ble_eq_true rfl) dX6_of_2) dX6_of_5 rfl)) (bc_not (C := C_X6_of) (bc_of_T (C := C_X6_of) (p2 := 15) (tgt := 24) (ec_callS (C := C_X6_of) (m := 3) (p1 := 12) inj_I s_X6_isIn t_X6_isIn ⟨w_292, Nat.le_of_ble_eq_true rfl, Nat.le_of_ble_eq_true rfl⟩ (ac_snoc (C := C_X6_of) (n := 2) (c := 1) (p1 := 10) (ac_snoc (C := C_X6_of) (n := 1) (c := 1) (p1 := 9) (ac_snoc (C := C_X6_of) (n := 0) (c := 1) (p1 := 8) (ac_nil (C := C_X6_of)) (ec_iload_n (C := C_X6_of) (i := 2) dX6_of_8 rfl) rfl (fun _ => rfl) rfl) (ec_iconst (C := C_X6_of) (v := (0 : Int32)) dX6_of_9 rfl) rfl (fun _ => rfl) rfl) (ec_bipush (C := C_X6_of) (v := (9 : Int32)) dX6_of_10 rfl) rfl (fun _ => rfl) rfl) (Nat.le_of_ble_eq_true rfl) dX6_of_12) dX6_of_15 rfl))) (sc_iret (C := C_X6_of) (p1 := 23) (ec_callV (C := C_X6_of) (m := 2) (p1 := 20) inj_I s_X6_finding t_X6_finding ⟨w_295, Nat.le_of_ble_eq_true rfl, Nat.le_of_ble_eq_true rfl⟩ (ac_snoc (C := C_X6_of) (n := 1) (c := 1) (p1 := 19) (ac_snoc (C := C_X6_of) (n := 0) (c := 1) (p1 := 18) (ac_nil (C := C_X6_of)) (ec_aload_n (C := C_X6_of) (i := 0) dX6_of_18 rfl) rfl (fun _ => rfl) rfl) (ec_iconst (C := C_X6_of) (v := (0 : Int32)) dX6_of_19 rfl) rfl (fun _ => rfl) rfl) (Nat.le_of_ble_eq_true rfl) dX6_of_20) dX6_of_23 rfl) sc_skip)
  (sc_seq (C := C_X6_of) (p1 := 34) (sc_astore_n (C := C_X6_of) (p1 := 33) (i := 3) (ec_ar (C := C_X6_of) (p1 := 31) (p2 := 32) (Nat.le_of_ble_eq_true rfl) (ec_gr (C := C_X6_of) (p1 := 28) (ec_gr (C := C_X6_of) (p1 := 25) (ec_aload_n (C := C_X6_of) (i := 0) dX6_of_24 rfl) f_X6_10 dX6_of_25) f_X6_105 dX6_of_28) (ec_iload_n (C := C_X6_of) (i := 1) dX6_of_31 rfl) dX6_of_32) dX6_of_33 rfl (Nat.le_of_ble_eq_true rfl))
  (sc_seq (C := C_X6_of) (p1 := 47) (sc_if (C := C_X6_of) (pT := 40) (pF := 47) (p2 := 47) (bc_icmp_ge_F (C := C_X6_of) (p1 := 35) (p2 := 37) (tgt := 47) (ec_iload_n (C := C_X6_of) (i := 2) dX6_of_34 rfl) (ec_bipush (C := C_X6_of) (v := (7 : Int32)) dX6_of_35 rfl) dX6_of_37 rfl) (sc_iret (C := C_X6_of) (p1 := 46) (ec_ai (C := C_X6_of) (p1 := 44) (p2 := 45) (ec_gr (C := C_X6_of) (p1 := 41) (ec_aload_n (C := C_X6_of) (i := 3) dX6_of_40 rfl) f_X6_109 dX6_of_41) (ec_iload_n (C := C_X6_of) (i := 2) dX6_of_44 rfl) dX6_of_45) dX6_of_46 rfl) sc_skip)
  (sc_seq (C := C_X6_of) (p1 := 58) (sc_if (C := C_X6_of) (pT := 53) (pF := 58) (p2 := 58) (bc_icmp_ne_F (C := C_X6_of) (p1 := 48) (p2 := 50) (tgt := 58) (ec_iload_n (C := C_X6_of) (i := 2) dX6_of_47 rfl) (ec_bipush (C := C_X6_of) (v := (7 : Int32)) dX6_of_48 rfl) dX6_of_50 rfl) (sc_iret (C := C_X6_of) (p1 := 57) (ec_callV (C := C_X6_of) (m := 1) (p1 := 54) inj_I s_X0_worth t_X0_worth ⟨w_335, Nat.le_of_ble_eq_true rfl, Nat.le_of_ble_eq_true rfl⟩ (ac_snoc (C := C_X6_of) (n := 0) (c := 1) (p1 := 53) (ac_nil (C := C_X6_of)) (ec_aload_n (C := C_X6_of) (i := 3) dX6_of_53 rfl) rfl (fun _ => rfl) rfl) (Nat.le_of_ble_eq_true rfl) dX6_of_54) dX6_of_57 rfl) sc_skip)
  (sc_seq (C := C_X6_of) (p1 := 69) (sc_if (C := C_X6_of) (pT := 64) (pF := 69) (p2 := 69) (bc_icmp_ne_F (C := C_X6_of) (p1 := 59) (p2 := 61) (tgt := 69) (ec_iload_n (C := C_X6_of) (i := 2) dX6_of_58 rfl) (ec_bipush (C := C_X6_of) (v := (8 : Int32)) dX6_of_59 rfl) dX6_of_61 rfl) (sc_iret (C := C_X6_of) (p1 := 68) (ec_callV (C := C_X6_of) (m := 1) (p1 := 65) inj_I s_X0_sooty t_X0_sooty ⟨w_341, Nat.le_of_ble_eq_true rfl, Nat.le_of_ble_eq_true rfl⟩ (ac_snoc (C := C_X6_of) (n := 0) (c := 1) (p1 := 64) (ac_nil (C := C_X6_of)) (ec_aload_n (C := C_X6_of) (i := 3) dX6_of_64 rfl) rfl (fun _ => rfl) rfl) (Nat.le_of_ble_eq_true rfl) dX6_of_65) dX6_of_68 rfl) sc_skip)
  (sc_seq (C := C_X6_of) (p1 := 81) (sc_istore (C := C_X6_of) (p1 := 79) (ec_irem (C := C_X6_of) (p1 := 76) (p2 := 78) (ec_gi (C := C_X6_of) (p1 := 73) (ec_gr (C := C_X6_of) (p1 := 70) (ec_aload_n (C := C_X6_of) (i := 0) dX6_of_69 rfl) f_X6_10 dX6_of_70) f_X6_119 dX6_of_73) (ec_bipush (C := C_X6_of) (v := (24 : Int32)) dX6_of_76 rfl) dX6_of_78) dX6_of_79 (Nat.le_of_ble_eq_true rfl))
  (sc_iret (C := C_X6_of) (p1 := 100) (ec_if (C := C_X6_of) (pT := 90) (pF := 99) (p1 := 96) (pE := 100) (bc_of_F (C := C_X6_of) (p2 := 87) (tgt := 99) (ec_callV (C := C_X6_of) (m := 2) (p1 := 84) inj_I s_X0_isLitAt t_X0_isLitAt ⟨w_350, Nat.le_of_ble_eq_true rfl, Nat.le_of_ble_eq_true rfl⟩ (ac_snoc (C := C_X6_of) (n := 1) (c := 1) (p1 := 82) (ac_snoc (C := C_X6_of) (n := 0) (c := 1) (p1 := 81) (ac_nil (C := C_X6_of)) (ec_aload_n (C := C_X6_of) (i := 3) dX6_of_81 rfl) rfl (fun _ => rfl) rfl) (ec_iload (C := C_X6_of) dX6_of_82) rfl (fun _ => rfl) rfl) (Nat.le_of_ble_eq_true rfl) dX6_of_84) dX6_of_87 rfl) (ec_callV (C := C_X6_of) (m := 2) (p1 := 93) inj_I s_X0_burnsAt t_X0_burnsAt ⟨w_357, Nat.le_of_ble_eq_true rfl, Nat.le_of_ble_eq_true rfl⟩ (ac_snoc (C := C_X6_of) (n := 1) (c := 1) (p1 := 91) (ac_snoc (C := C_X6_of) (n := 0) (c := 1) (p1 := 90) (ac_nil (C := C_X6_of)) (ec_aload_n (C := C_X6_of) (i := 3) dX6_of_90 rfl) rfl (fun _ => rfl) rfl) (ec_iload (C := C_X6_of) dX6_of_91) rfl (fun _ => rfl) rfl) (Nat.le_of_ble_eq_true rfl) dX6_of_93) dX6_of_96 rfl (ec_iconst (C := C_X6_of) (v := (0 : Int32)) dX6_of_99 rfl)) dX6_of_100 rfl)))))))
theorem s_X6_of : MS M_X6_of D_X6_of := ms_of b_X6_of (by decide +kernel) rfl rfl (fun _ => trivial)
/-- SmokeRoofs.change(III)I -/
abbrev C_X6_change : CX := (cX6_change, RX6, 6, 2, 43, "change", (some .int), fun _ => True)
abbrev M_X6_change : MD := (yX6_change, C_X6_change)
theorem k_X6_change : MOK M_X6_change 3 := ⟨w_50, w_364, by decide +kernel, by decide +kernel, by decide +kernel⟩
theorem t_X6_change : MVT M_X6_change 3 6 := ⟨k_X6_change, w_362, w_363, by decide, _, rfl, rfl⟩
def S_X6_change : SD := (s_seq (s_if (b_or (b_or (b_not (b_of (e_call prI D_X6_isChimney 2 (a_recv 6 (a_snoc Value.int (a_snoc Value.ref a_nil (e_lr 0)) (e_li 1)))))) (b_not (b_of (e_call prI D_X6_isIn 3 (a_snoc Value.int (a_snoc Value.int (a_snoc Value.int a_nil (e_li 2)) (e_c (0 : Int32))) (e_c (6 : Int32))))))) (b_not (b_of (e_call prI D_X6_isIn 3 (a_snoc Value.int (a_snoc Value.int (a_snoc Value.int a_nil (e_li 3)) (e_c (0 : Int32))) (e_ai (e_c (SPB + 0)) (e_li 2))))))) (s_ret Value.int (e_call prI D_X6_finding 2 (a_recv 6 (a_snoc Value.int (a_snoc Value.ref a_nil (e_lr 0)) (e_c (0 : Int32)))))) s_skip)
  (s_seq (s_st Value.ref 4 (e_gr 0 0 (e_ar 0 (e_gr 5 7 (e_gr 6 0 (e_lr 0))) (e_li 1))))
  (s_seq (s_st Value.int 5 (e_ai (e_lr 4) (e_li 2)))
  (s_seq (s_as (e_lr 4) (e_li 2) (e_li 3))
  (s_ret Value.int (e_li 5))))))
def D_X6_change : MDen := m_den 6 S_X6_change
set_option maxRecDepth 100000 in
set_option maxHeartbeats 4000000 in
theorem b_X6_change : SC C_X6_change 0 0 S_X6_change := by
  unfold S_X6_change
  exact (sc_seq (C := C_X6_change) (p1 := 37) (sc_if (C := C_X6_change) (pT := 31) (pF := 37) (p2 := 37) (bc_or (C := C_X6_change) (p1 := 18) (bc_or (C := C_X6_change) (p1 := 8) (bc_not (C := C_X6_change) (bc_of_F (C := C_X6_change) (p2 := 5) (tgt := 31) (ec_callV (C := C_X6_change) (m := 2) (p1 := 2) inj_I s_X6_isChimney t_X6_isChimney ⟨w_331, Nat.le_of_ble_eq_true rfl, Nat.le_of_ble_eq_true rfl⟩ (ac_snoc (C := C_X6_change) (n := 1) (c := 1) (p1 := 1) (ac_snoc (C := C_X6_change) (n := 0) (c := 1) (p1 := 0) (ac_nil (C := C_X6_change)) (ec_aload_n (C := C_X6_change) (i := 0) dX6_change_0 rfl) rfl (fun _ => rfl) rfl) (ec_iload_n (C := C_X6_change) (i := 1) dX6_change_1 rfl) rfl (fun _ => rfl) rfl) (Nat.le_of_ble_eq_true rfl) dX6_change_2) dX6_change_5 rfl)) (bc_not (C := C_X6_change) (bc_of_F (C := C_X6_change) (p2 := 15) (tgt := 31) (ec_callS (C := C_X6_change) (m := 3) (p1 := 12) inj_I s_X6_isIn t_X6_isIn ⟨w_292, Nat.le_of_ble_eq_true rfl, Nat.le_of_ble_eq_true rfl⟩ (ac_snoc (C := C_X6_change) (n := 2) (c := 1) (p1 := 10) (ac_snoc (C := C_X6_change) (n := 1) (c := 1) (p1 := 9) (ac_snoc (C := C_X6_change) (n := 0) (c := 1) (p1 := 8) (ac_nil (C := C_X6_change)) (ec_iload_n (C := C_X6_change) (i := 2) dX6_change_8 rfl) rfl (fun _ => rfl) rfl) (ec_iconst (C := C_X6_change) (v := (0 : Int32)) dX6_change_9 rfl) rfl (fun _ => rfl) rfl) (ec_bipush (C := C_X6_change) (v := (6 : Int32)) dX6_change_10 rfl) rfl (fun _ => rfl) rfl) (Nat.le_of_ble_eq_true rfl) dX6_change_12) dX6_change_15 rfl))) (bc_not (C := C_X6_change) (bc_of_T (C := C_X6_change) (p2 := 28) (tgt := 37) (ec_callS (C := C_X6_change) (m := 3) (p1 := 25) inj_I s_X6_isIn t_X6_isIn ⟨w_292, Nat.le_of_ble_eq_true rfl, Nat.le_of_ble_eq_true rfl⟩ (ac_snoc (C := C_X6_change) (n := 2) (c := 1) (p1 := 20) (ac_snoc (C := C_X6_change) (n := 1) (c := 1) (p1 := 19) (ac_snoc (C := C_X6_change) (n := 0) (c := 1) (p1 := 18) (ac_nil (C := C_X6_change)) (ec_iload_n (C := C_X6_change) (i := 3) dX6_change_18 rfl) rfl (fun _ => rfl) rfl) (ec_iconst (C := C_X6_change) (v := (0 : Int32)) dX6_change_19 rfl) rfl (fun _ => rfl) rfl) (ec_ai (C := C_X6_change) (p1 := 23) (p2 := 24) (ec_st (C := C_X6_change) (i := 0) (q := st_tab[0]) rfl w_365 dX6_change_20) (ec_iload_n (C := C_X6_change) (i := 2) dX6_change_23 rfl) dX6_change_24) rfl (fun _ => rfl) rfl) (Nat.le_of_ble_eq_true rfl) dX6_change_25) dX6_change_28 rfl))) (sc_iret (C := C_X6_change) (p1 := 36) (ec_callV (C := C_X6_change) (m := 2) (p1 := 33) inj_I s_X6_finding t_X6_finding ⟨w_295, Nat.le_of_ble_eq_true rfl, Nat.le_of_ble_eq_true rfl⟩ (ac_snoc (C := C_X6_change) (n := 1) (c := 1) (p1 := 32) (ac_snoc (C := C_X6_change) (n := 0) (c := 1) (p1 := 31) (ac_nil (C := C_X6_change)) (ec_aload_n (C := C_X6_change) (i := 0) dX6_change_31 rfl) rfl (fun _ => rfl) rfl) (ec_iconst (C := C_X6_change) (v := (0 : Int32)) dX6_change_32 rfl) rfl (fun _ => rfl) rfl) (Nat.le_of_ble_eq_true rfl) dX6_change_33) dX6_change_36 rfl) sc_skip)
  (sc_seq (C := C_X6_change) (p1 := 51) (sc_astore (C := C_X6_change) (p1 := 49) (ec_gr (C := C_X6_change) (p1 := 46) (ec_ar (C := C_X6_change) (p1 := 44) (p2 := 45) (Nat.le_of_ble_eq_true rfl) (ec_gr (C := C_X6_change) (p1 := 41) (ec_gr (C := C_X6_change) (p1 := 38) (ec_aload_n (C := C_X6_change) (i := 0) dX6_change_37 rfl) f_X6_10 dX6_change_38) f_X6_105 dX6_change_41) (ec_iload_n (C := C_X6_change) (i := 1) dX6_change_44 rfl) dX6_change_45) f_X6_109 dX6_change_46) dX6_change_49 (Nat.le_of_ble_eq_true rfl))
  (sc_seq (C := C_X6_change) (p1 := 57) (sc_istore (C := C_X6_change) (p1 := 55) (ec_ai (C := C_X6_change) (p1 := 53) (p2 := 54) (ec_aload (C := C_X6_change) dX6_change_51) (ec_iload_n (C := C_X6_change) (i := 2) dX6_change_53 rfl) dX6_change_54) dX6_change_55 (Nat.le_of_ble_eq_true rfl))
  (sc_seq (C := C_X6_change) (p1 := 62) (sc_as (C := C_X6_change) (p1 := 59) (p2 := 60) (p3 := 61) (ec_aload (C := C_X6_change) dX6_change_57) (ec_iload_n (C := C_X6_change) (i := 2) dX6_change_59 rfl) (ec_iload_n (C := C_X6_change) (i := 3) dX6_change_60 rfl) dX6_change_61)
  (sc_iret (C := C_X6_change) (p1 := 64) (ec_iload (C := C_X6_change) dX6_change_62) dX6_change_64 rfl)))))
theorem s_X6_change : MS M_X6_change D_X6_change := ms_of b_X6_change (by decide +kernel) rfl rfl (fun _ => trivial)
/-- SmokeRoofs.book(I)I -/
abbrev C_X6_book : CX := (cX6_book, RX6, 2, 2, 42, "book", (some .int), fun _ => True)
abbrev M_X6_book : MD := (yX6_book, C_X6_book)
theorem k_X6_book : MOK M_X6_book 1 := ⟨w_50, w_370, by decide +kernel, by decide +kernel, by decide +kernel⟩
theorem t_X6_book : MVT M_X6_book 1 6 := ⟨k_X6_book, w_368, w_369, by decide, _, rfl, rfl⟩
def S_X6_book : SD := (s_seq (s_if (b_not (b_of (e_call prI D_X6_isOwner 1 (a_snoc Value.int a_nil (e_li 1))))) (s_ret Value.int (e_call prI D_X6_finding 2 (a_recv 6 (a_snoc Value.int (a_snoc Value.ref a_nil (e_lr 0)) (e_c (0 : Int32)))))) s_skip)
  (s_ret Value.int (e_ai (e_gr 5 5 (e_gr 6 0 (e_lr 0))) (e_li 1))))
def D_X6_book : MDen := m_den 2 S_X6_book
set_option maxRecDepth 100000 in
set_option maxHeartbeats 4000000 in
theorem b_X6_book : SC C_X6_book 0 0 S_X6_book := by
  unfold S_X6_book
  exact (sc_seq (C := C_X6_book) (p1 := 13) (sc_if (C := C_X6_book) (pT := 7) (pF := 13) (p2 := 13) (bc_not (C := C_X6_book) (bc_of_T (C := C_X6_book) (p2 := 4) (tgt := 13) (ec_callS (C := C_X6_book) (m := 1) (p1 := 1) inj_I s_X6_isOwner t_X6_isOwner ⟨w_311, Nat.le_of_ble_eq_true rfl, Nat.le_of_ble_eq_true rfl⟩ (ac_snoc (C := C_X6_book) (n := 0) (c := 1) (p1 := 0) (ac_nil (C := C_X6_book)) (ec_iload_n (C := C_X6_book) (i := 1) dX6_book_0 rfl) rfl (fun _ => rfl) rfl) (Nat.le_of_ble_eq_true rfl) dX6_book_1) dX6_book_4 rfl)) (sc_iret (C := C_X6_book) (p1 := 12) (ec_callV (C := C_X6_book) (m := 2) (p1 := 9) inj_I s_X6_finding t_X6_finding ⟨w_295, Nat.le_of_ble_eq_true rfl, Nat.le_of_ble_eq_true rfl⟩ (ac_snoc (C := C_X6_book) (n := 1) (c := 1) (p1 := 8) (ac_snoc (C := C_X6_book) (n := 0) (c := 1) (p1 := 7) (ac_nil (C := C_X6_book)) (ec_aload_n (C := C_X6_book) (i := 0) dX6_book_7 rfl) rfl (fun _ => rfl) rfl) (ec_iconst (C := C_X6_book) (v := (0 : Int32)) dX6_book_8 rfl) rfl (fun _ => rfl) rfl) (Nat.le_of_ble_eq_true rfl) dX6_book_9) dX6_book_12 rfl) sc_skip)
  (sc_iret (C := C_X6_book) (p1 := 22) (ec_ai (C := C_X6_book) (p1 := 20) (p2 := 21) (ec_gr (C := C_X6_book) (p1 := 17) (ec_gr (C := C_X6_book) (p1 := 14) (ec_aload_n (C := C_X6_book) (i := 0) dX6_book_13 rfl) f_X6_10 dX6_book_14) f_X6_132 dX6_book_17) (ec_iload_n (C := C_X6_book) (i := 1) dX6_book_20 rfl) dX6_book_21) dX6_book_22 rfl))
theorem s_X6_book : MS M_X6_book D_X6_book := ms_of b_X6_book (by decide +kernel) rfl rfl (fun _ => trivial)
/-- SmokeRoofs.strike()I -/
abbrev C_X6_strike : CX := (cX6_strike, RX6, 3, 1, 21, "strike", (some .int), fun _ => True)
abbrev M_X6_strike : MD := (yX6_strike, C_X6_strike)
theorem k_X6_strike : MOK M_X6_strike 0 := ⟨w_50, w_374, by decide +kernel, by decide +kernel, by decide +kernel⟩
theorem t_X6_strike : MVT M_X6_strike 0 6 := ⟨k_X6_strike, w_372, w_373, by decide, _, rfl, rfl⟩
def WB_X6_strike_1 : DE Bool := (e_bin (fun (x y : Int32) => decide (x < y)) (e_li 2) (e_c (6 : Int32)))
def WS_X6_strike_1 : SD := (s_seq (s_seq (s_st Value.int 1 (e_bin (fun (x y : Int32) => x + y) (e_li 1) (e_call prI D_J9_max_7cf53 2 (a_snoc Value.int (a_snoc Value.int a_nil (e_ai (e_gr 5 5 (e_gr 6 0 (e_lr 0))) (e_li 2))) (e_c (0 : Int32))))))
  (s_as (e_gr 5 5 (e_gr 6 0 (e_lr 0))) (e_li 2) (e_c (0 : Int32))))
  (s_inc 2 (1)))
def W_X6_strike_1 : SD := s_while WB_X6_strike_1 WS_X6_strike_1 FU
set_option maxRecDepth 100000 in
set_option maxHeartbeats 4000000 in
theorem bw_X6_strike_1 : SC C_X6_strike 4 42 W_X6_strike_1 := by
  unfold W_X6_strike_1 WB_X6_strike_1 WS_X6_strike_1
  exact (sc_while (C := C_X6_strike) (pB := 10) (pE := 42) (bc_icmp_ge_F (C := C_X6_strike) (p1 := 5) (p2 := 7) (tgt := 42) (ec_iload_n (C := C_X6_strike) (i := 2) dX6_strike_4 rfl) (ec_bipush (C := C_X6_strike) (v := (6 : Int32)) dX6_strike_5 rfl) dX6_strike_7 rfl)
  (sc_goto (C := C_X6_strike) (p1 := 39) (sc_seq (C := C_X6_strike) (p1 := 36) (sc_seq (C := C_X6_strike) (p1 := 26) (sc_istore_n (C := C_X6_strike) (p1 := 25) (i := 1) (ec_iadd (C := C_X6_strike) (p1 := 11) (p2 := 24) (ec_iload_n (C := C_X6_strike) (i := 1) dX6_strike_10 rfl) (ec_callS (C := C_X6_strike) (m := 2) (p1 := 21) inj_I s_J9_max_7cf53 t_J9_max_7cf53 ⟨w_375, Nat.le_of_ble_eq_true rfl, Nat.le_of_ble_eq_true rfl⟩ (ac_snoc (C := C_X6_strike) (n := 1) (c := 1) (p1 := 20) (ac_snoc (C := C_X6_strike) (n := 0) (c := 1) (p1 := 11) (ac_nil (C := C_X6_strike)) (ec_ai (C := C_X6_strike) (p1 := 18) (p2 := 19) (ec_gr (C := C_X6_strike) (p1 := 15) (ec_gr (C := C_X6_strike) (p1 := 12) (ec_aload_n (C := C_X6_strike) (i := 0) dX6_strike_11 rfl) f_X6_10 dX6_strike_12) f_X6_132 dX6_strike_15) (ec_iload_n (C := C_X6_strike) (i := 2) dX6_strike_18 rfl) dX6_strike_19) rfl (fun _ => rfl) rfl) (ec_iconst (C := C_X6_strike) (v := (0 : Int32)) dX6_strike_20 rfl) rfl (fun _ => rfl) rfl) (Nat.le_of_ble_eq_true rfl) dX6_strike_21) dX6_strike_24) dX6_strike_25 rfl (Nat.le_of_ble_eq_true rfl))
  (sc_as (C := C_X6_strike) (p1 := 33) (p2 := 34) (p3 := 35) (ec_gr (C := C_X6_strike) (p1 := 30) (ec_gr (C := C_X6_strike) (p1 := 27) (ec_aload_n (C := C_X6_strike) (i := 0) dX6_strike_26 rfl) f_X6_10 dX6_strike_27) f_X6_132 dX6_strike_30) (ec_iload_n (C := C_X6_strike) (i := 2) dX6_strike_33 rfl) (ec_iconst (C := C_X6_strike) (v := (0 : Int32)) dX6_strike_34 rfl) dX6_strike_35))
  (sc_iinc (C := C_X6_strike) (v := (1)) dX6_strike_36 rfl (Nat.le_of_ble_eq_true rfl))) dX6_strike_39 rfl) FU)
def S_X6_strike : SD := (s_seq (s_st Value.int 1 (e_c (0 : Int32)))
  (s_seq (s_sc 2 (s_seq (s_st Value.int 2 (e_c (0 : Int32)))
  W_X6_strike_1))
  (s_ret Value.int (e_li 1))))
def D_X6_strike : MDen := m_den 3 S_X6_strike
set_option maxRecDepth 100000 in
set_option maxHeartbeats 4000000 in
theorem b_X6_strike : SC C_X6_strike 0 0 S_X6_strike := by
  unfold S_X6_strike
  exact (sc_seq (C := C_X6_strike) (p1 := 2) (sc_istore_n (C := C_X6_strike) (p1 := 1) (i := 1) (ec_iconst (C := C_X6_strike) (v := (0 : Int32)) dX6_strike_0 rfl) dX6_strike_1 rfl (Nat.le_of_ble_eq_true rfl))
  (sc_seq (C := C_X6_strike) (p1 := 42) (sc_sc (C := C_X6_strike) (sc_seq (C := C_X6_strike) (p1 := 4) (sc_istore_n (C := C_X6_strike) (p1 := 3) (i := 2) (ec_iconst (C := C_X6_strike) (v := (0 : Int32)) dX6_strike_2 rfl) dX6_strike_3 rfl (Nat.le_of_ble_eq_true rfl))
  bw_X6_strike_1))
  (sc_iret (C := C_X6_strike) (p1 := 43) (ec_iload_n (C := C_X6_strike) (i := 1) dX6_strike_42 rfl) dX6_strike_43 rfl)))
theorem s_X6_strike : MS M_X6_strike D_X6_strike := ms_of b_X6_strike (by decide +kernel) rfl rfl (fun _ => trivial)
/-- SmokeRoofs.isCellOrAll(I)Z -/
abbrev C_X6_isCellOrAll : CX := (cX6_isCellOrAll, RX6, 1, 1, 22, "isCellOrAll", (some .boolean), fun _ => True)
abbrev M_X6_isCellOrAll : MD := (yX6_isCellOrAll, C_X6_isCellOrAll)
theorem k_X6_isCellOrAll : MOK M_X6_isCellOrAll 1 := ⟨w_50, w_386, by decide +kernel, by decide +kernel, by decide +kernel⟩
theorem t_X6_isCellOrAll : MST M_X6_isCellOrAll 1 := ⟨k_X6_isCellOrAll, w_385⟩
def S_X6_isCellOrAll : SD := (s_retz (e_call prI D_X6_isIn 3 (a_snoc Value.int (a_snoc Value.int (a_snoc Value.int a_nil (e_li 0)) (e_c (-1 : Int32))) (e_c (35 : Int32)))))
def D_X6_isCellOrAll : MDen := m_den 1 S_X6_isCellOrAll
set_option maxRecDepth 100000 in
set_option maxHeartbeats 4000000 in
theorem b_X6_isCellOrAll : SC C_X6_isCellOrAll 0 0 S_X6_isCellOrAll := by
  unfold S_X6_isCellOrAll
  exact (sc_zret (C := C_X6_isCellOrAll) (p1 := 7) (ec_callS (C := C_X6_isCellOrAll) (m := 3) (p1 := 4) inj_I s_X6_isIn t_X6_isIn ⟨w_292, Nat.le_of_ble_eq_true rfl, Nat.le_of_ble_eq_true rfl⟩ (ac_snoc (C := C_X6_isCellOrAll) (n := 2) (c := 1) (p1 := 2) (ac_snoc (C := C_X6_isCellOrAll) (n := 1) (c := 1) (p1 := 1) (ac_snoc (C := C_X6_isCellOrAll) (n := 0) (c := 1) (p1 := 0) (ac_nil (C := C_X6_isCellOrAll)) (ec_iload_n (C := C_X6_isCellOrAll) (i := 0) dX6_isCellOrAll_0 rfl) rfl (fun _ => rfl) rfl) (ec_iconst (C := C_X6_isCellOrAll) (v := (-1 : Int32)) dX6_isCellOrAll_1 rfl) rfl (fun _ => rfl) rfl) (ec_bipush (C := C_X6_isCellOrAll) (v := (35 : Int32)) dX6_isCellOrAll_2 rfl) rfl (fun _ => rfl) rfl) (Nat.le_of_ble_eq_true rfl) dX6_isCellOrAll_4) dX6_isCellOrAll_7 rfl)
theorem s_X6_isCellOrAll : MS M_X6_isCellOrAll D_X6_isCellOrAll := ms_of b_X6_isCellOrAll (by decide +kernel) rfl rfl (fun _ => trivial)
/-- SmokeRoofs.isChimneyOrAll(I)Z -/
abbrev C_X6_isChimneyOrAll : CX := (cX6_isChimneyOrAll, RX6, 2, 1, 22, "isChimneyOrAll", (some .boolean), fun _ => True)
abbrev M_X6_isChimneyOrAll : MD := (yX6_isChimneyOrAll, C_X6_isChimneyOrAll)
theorem k_X6_isChimneyOrAll : MOK M_X6_isChimneyOrAll 1 := ⟨w_50, w_383, by decide +kernel, by decide +kernel, by decide +kernel⟩
theorem t_X6_isChimneyOrAll : MVT M_X6_isChimneyOrAll 1 6 := ⟨k_X6_isChimneyOrAll, w_382, w_2, by decide, _, rfl, rfl⟩
def S_X6_isChimneyOrAll : SD := (s_retz (e_call prI D_X6_isIn 3 (a_snoc Value.int (a_snoc Value.int (a_snoc Value.int a_nil (e_li 1)) (e_c (-1 : Int32))) (e_bin (fun (x y : Int32) => x - y) (e_gi 5 2 (e_gr 6 0 (e_lr 0))) (e_c (1 : Int32))))))
def D_X6_isChimneyOrAll : MDen := m_den 2 S_X6_isChimneyOrAll
set_option maxRecDepth 100000 in
set_option maxHeartbeats 4000000 in
theorem b_X6_isChimneyOrAll : SC C_X6_isChimneyOrAll 0 0 S_X6_isChimneyOrAll := by
  unfold S_X6_isChimneyOrAll
  exact (sc_zret (C := C_X6_isChimneyOrAll) (p1 := 14) (ec_callS (C := C_X6_isChimneyOrAll) (m := 3) (p1 := 11) inj_I s_X6_isIn t_X6_isIn ⟨w_292, Nat.le_of_ble_eq_true rfl, Nat.le_of_ble_eq_true rfl⟩ (ac_snoc (C := C_X6_isChimneyOrAll) (n := 2) (c := 1) (p1 := 2) (ac_snoc (C := C_X6_isChimneyOrAll) (n := 1) (c := 1) (p1 := 1) (ac_snoc (C := C_X6_isChimneyOrAll) (n := 0) (c := 1) (p1 := 0) (ac_nil (C := C_X6_isChimneyOrAll)) (ec_iload_n (C := C_X6_isChimneyOrAll) (i := 1) dX6_isChimneyOrAll_0 rfl) rfl (fun _ => rfl) rfl) (ec_iconst (C := C_X6_isChimneyOrAll) (v := (-1 : Int32)) dX6_isChimneyOrAll_1 rfl) rfl (fun _ => rfl) rfl) (ec_isub (C := C_X6_isChimneyOrAll) (p1 := 9) (p2 := 10) (ec_gi (C := C_X6_isChimneyOrAll) (p1 := 6) (ec_gr (C := C_X6_isChimneyOrAll) (p1 := 3) (ec_aload_n (C := C_X6_isChimneyOrAll) (i := 0) dX6_isChimneyOrAll_2 rfl) f_X6_10 dX6_isChimneyOrAll_3) f_X6_178 dX6_isChimneyOrAll_6) (ec_iconst (C := C_X6_isChimneyOrAll) (v := (1 : Int32)) dX6_isChimneyOrAll_9 rfl) dX6_isChimneyOrAll_10) rfl (fun _ => rfl) rfl) (Nat.le_of_ble_eq_true rfl) dX6_isChimneyOrAll_11) dX6_isChimneyOrAll_14 rfl)
theorem s_X6_isChimneyOrAll : MS M_X6_isChimneyOrAll D_X6_isChimneyOrAll := ms_of b_X6_isChimneyOrAll (by decide +kernel) rfl rfl (fun _ => trivial)
/-- SmokeRoofs.lastOf(I)I -/
abbrev C_X6_lastOf : CX := (cX6_lastOf, RX6, 2, 0, 0, "lastOf", (some .int), fun _ => True)
abbrev M_X6_lastOf : MD := (yX6_lastOf, C_X6_lastOf)
theorem k_X6_lastOf : MOK M_X6_lastOf 1 := ⟨w_50, w_390, by decide +kernel, by decide +kernel, by decide +kernel⟩
theorem t_X6_lastOf : MVT M_X6_lastOf 1 6 := ⟨k_X6_lastOf, w_389, w_3, by decide, _, rfl, rfl⟩
def S_X6_lastOf : SD := (s_ret Value.int (e_if (e_un (fun (x : Int32) => decide (x < 0)) (e_li 1)) (e_bin (fun (x y : Int32) => x - y) (e_gi 5 2 (e_gr 6 0 (e_lr 0))) (e_c (1 : Int32))) (e_li 1)))
def D_X6_lastOf : MDen := m_den 2 S_X6_lastOf
set_option maxRecDepth 100000 in
set_option maxHeartbeats 4000000 in
theorem b_X6_lastOf : SC C_X6_lastOf 0 0 S_X6_lastOf := by
  unfold S_X6_lastOf
  exact (sc_iret (C := C_X6_lastOf) (p1 := 17) (ec_if (C := C_X6_lastOf) (pT := 4) (pF := 16) (p1 := 13) (pE := 17) (bc_if_ge_F (C := C_X6_lastOf) (p2 := 1) (tgt := 16) (ec_iload_n (C := C_X6_lastOf) (i := 1) dX6_lastOf_0 rfl) dX6_lastOf_1 rfl) (ec_isub (C := C_X6_lastOf) (p1 := 11) (p2 := 12) (ec_gi (C := C_X6_lastOf) (p1 := 8) (ec_gr (C := C_X6_lastOf) (p1 := 5) (ec_aload_n (C := C_X6_lastOf) (i := 0) dX6_lastOf_4 rfl) f_X6_10 dX6_lastOf_5) f_X6_178 dX6_lastOf_8) (ec_iconst (C := C_X6_lastOf) (v := (1 : Int32)) dX6_lastOf_11 rfl) dX6_lastOf_12) dX6_lastOf_13 rfl (ec_iload_n (C := C_X6_lastOf) (i := 1) dX6_lastOf_16 rfl)) dX6_lastOf_17 rfl)
theorem s_X6_lastOf : MS M_X6_lastOf D_X6_lastOf := ms_of b_X6_lastOf (by decide +kernel) rfl rfl (fun _ => trivial)
/-- SmokeRoofs.partsOver([II)I -/
abbrev C_X6_partsOver : CX := (cX6_partsOver, RX6, 4, 0, 0, "partsOver", (some .int), fun _ => True)
abbrev M_X6_partsOver : MD := (yX6_partsOver, C_X6_partsOver)
theorem k_X6_partsOver : MOK M_X6_partsOver 2 := ⟨w_50, w_393, by decide +kernel, by decide +kernel, by decide +kernel⟩
theorem t_X6_partsOver : MST M_X6_partsOver 2 := ⟨k_X6_partsOver, w_392⟩
def WB_X6_partsOver_1 : DE Bool := (e_bin (fun (x y : Int32) => decide (x < y)) (e_li 3) (e_c (36 : Int32)))
def WS_X6_partsOver_1 : SD := (s_seq (s_st Value.int 2 (e_bin (fun (x y : Int32) => x + y) (e_li 2) (e_ai (e_lr 0) (e_li 3))))
  (s_inc 3 (1)))
def W_X6_partsOver_1 : SD := s_while WB_X6_partsOver_1 WS_X6_partsOver_1 FU
set_option maxRecDepth 100000 in
set_option maxHeartbeats 4000000 in
theorem bw_X6_partsOver_1 : SC C_X6_partsOver 12 30 W_X6_partsOver_1 := by
  unfold W_X6_partsOver_1 WB_X6_partsOver_1 WS_X6_partsOver_1
  exact (sc_while (C := C_X6_partsOver) (pB := 18) (pE := 30) (bc_icmp_ge_F (C := C_X6_partsOver) (p1 := 13) (p2 := 15) (tgt := 30) (ec_iload_n (C := C_X6_partsOver) (i := 3) dX6_partsOver_12 rfl) (ec_bipush (C := C_X6_partsOver) (v := (36 : Int32)) dX6_partsOver_13 rfl) dX6_partsOver_15 rfl)
  (sc_goto (C := C_X6_partsOver) (p1 := 27) (sc_seq (C := C_X6_partsOver) (p1 := 24) (sc_istore_n (C := C_X6_partsOver) (p1 := 23) (i := 2) (ec_iadd (C := C_X6_partsOver) (p1 := 19) (p2 := 22) (ec_iload_n (C := C_X6_partsOver) (i := 2) dX6_partsOver_18 rfl) (ec_ai (C := C_X6_partsOver) (p1 := 20) (p2 := 21) (ec_aload_n (C := C_X6_partsOver) (i := 0) dX6_partsOver_19 rfl) (ec_iload_n (C := C_X6_partsOver) (i := 3) dX6_partsOver_20 rfl) dX6_partsOver_21) dX6_partsOver_22) dX6_partsOver_23 rfl (Nat.le_of_ble_eq_true rfl))
  (sc_iinc (C := C_X6_partsOver) (v := (1)) dX6_partsOver_24 rfl (Nat.le_of_ble_eq_true rfl))) dX6_partsOver_27 rfl) FU)
def S_X6_partsOver : SD := (s_seq (s_if (e_un (fun (x : Int32) => decide (0 ≤ x)) (e_li 1)) (s_ret Value.int (e_ai (e_lr 0) (e_li 1))) s_skip)
  (s_seq (s_st Value.int 2 (e_c (0 : Int32)))
  (s_seq (s_sc 3 (s_seq (s_st Value.int 3 (e_c (0 : Int32)))
  W_X6_partsOver_1))
  (s_ret Value.int (e_li 2)))))
def D_X6_partsOver : MDen := m_den 4 S_X6_partsOver
set_option maxRecDepth 100000 in
set_option maxHeartbeats 4000000 in
theorem b_X6_partsOver : SC C_X6_partsOver 0 0 S_X6_partsOver := by
  unfold S_X6_partsOver
  exact (sc_seq (C := C_X6_partsOver) (p1 := 8) (sc_if (C := C_X6_partsOver) (pT := 4) (pF := 8) (p2 := 8) (bc_if_lt_F (C := C_X6_partsOver) (p2 := 1) (tgt := 8) (ec_iload_n (C := C_X6_partsOver) (i := 1) dX6_partsOver_0 rfl) dX6_partsOver_1 rfl) (sc_iret (C := C_X6_partsOver) (p1 := 7) (ec_ai (C := C_X6_partsOver) (p1 := 5) (p2 := 6) (ec_aload_n (C := C_X6_partsOver) (i := 0) dX6_partsOver_4 rfl) (ec_iload_n (C := C_X6_partsOver) (i := 1) dX6_partsOver_5 rfl) dX6_partsOver_6) dX6_partsOver_7 rfl) sc_skip)
  (sc_seq (C := C_X6_partsOver) (p1 := 10) (sc_istore_n (C := C_X6_partsOver) (p1 := 9) (i := 2) (ec_iconst (C := C_X6_partsOver) (v := (0 : Int32)) dX6_partsOver_8 rfl) dX6_partsOver_9 rfl (Nat.le_of_ble_eq_true rfl))
  (sc_seq (C := C_X6_partsOver) (p1 := 30) (sc_sc (C := C_X6_partsOver) (sc_seq (C := C_X6_partsOver) (p1 := 12) (sc_istore_n (C := C_X6_partsOver) (p1 := 11) (i := 3) (ec_iconst (C := C_X6_partsOver) (v := (0 : Int32)) dX6_partsOver_10 rfl) dX6_partsOver_11 rfl (Nat.le_of_ble_eq_true rfl))
  bw_X6_partsOver_1))
  (sc_iret (C := C_X6_partsOver) (p1 := 31) (ec_iload_n (C := C_X6_partsOver) (i := 2) dX6_partsOver_30 rfl) dX6_partsOver_31 rfl))))
theorem s_X6_partsOver : MS M_X6_partsOver D_X6_partsOver := ms_of b_X6_partsOver (by decide +kernel) rfl rfl (fun _ => trivial)
/-- SmokeRoofs.air(II)I -/
abbrev C_X6_air : CX := (cX6_air, RX6, 5, 2, 43, "air", (some .int), fun _ => True)
abbrev M_X6_air : MD := (yX6_air, C_X6_air)
theorem k_X6_air : MOK M_X6_air 2 := ⟨w_50, w_379, by decide +kernel, by decide +kernel, by decide +kernel⟩
theorem t_X6_air : MVT M_X6_air 2 6 := ⟨k_X6_air, w_377, w_378, by decide, _, rfl, rfl⟩
def WB_X6_air_1 : DE Bool := (e_bin (fun (x y : Int32) => decide (x ≤ y)) (e_li 4) (e_call prI D_X6_lastOf 2 (a_recv 6 (a_snoc Value.int (a_snoc Value.ref a_nil (e_lr 0)) (e_li 1)))))
def WS_X6_air_1 : SD := (s_seq (s_st Value.int 3 (e_bin (fun (x y : Int32) => x + y) (e_li 3) (e_call prI D_X6_partsOver 2 (a_snoc Value.int (a_snoc Value.ref a_nil (e_gr 0 1 (e_ar 0 (e_gr 5 7 (e_gr 6 0 (e_lr 0))) (e_li 4)))) (e_li 2)))))
  (s_inc 4 (1)))
def W_X6_air_1 : SD := s_while WB_X6_air_1 WS_X6_air_1 FU
set_option maxRecDepth 100000 in
set_option maxHeartbeats 4000000 in
theorem bw_X6_air_1 : SC C_X6_air 30 66 W_X6_air_1 := by
  unfold W_X6_air_1 WB_X6_air_1 WS_X6_air_1
  exact (sc_while (C := C_X6_air) (pB := 40) (pE := 66) (bc_icmp_gt_F (C := C_X6_air) (p1 := 32) (p2 := 37) (tgt := 66) (ec_iload (C := C_X6_air) dX6_air_30) (ec_callV (C := C_X6_air) (m := 2) (p1 := 34) inj_I s_X6_lastOf t_X6_lastOf ⟨w_387, Nat.le_of_ble_eq_true rfl, Nat.le_of_ble_eq_true rfl⟩ (ac_snoc (C := C_X6_air) (n := 1) (c := 1) (p1 := 33) (ac_snoc (C := C_X6_air) (n := 0) (c := 1) (p1 := 32) (ac_nil (C := C_X6_air)) (ec_aload_n (C := C_X6_air) (i := 0) dX6_air_32 rfl) rfl (fun _ => rfl) rfl) (ec_iload_n (C := C_X6_air) (i := 1) dX6_air_33 rfl) rfl (fun _ => rfl) rfl) (Nat.le_of_ble_eq_true rfl) dX6_air_34) dX6_air_37 rfl)
  (sc_goto (C := C_X6_air) (p1 := 63) (sc_seq (C := C_X6_air) (p1 := 60) (sc_istore_n (C := C_X6_air) (p1 := 59) (i := 3) (ec_iadd (C := C_X6_air) (p1 := 41) (p2 := 58) (ec_iload_n (C := C_X6_air) (i := 3) dX6_air_40 rfl) (ec_callS (C := C_X6_air) (m := 2) (p1 := 55) inj_I s_X6_partsOver t_X6_partsOver ⟨w_391, Nat.le_of_ble_eq_true rfl, Nat.le_of_ble_eq_true rfl⟩ (ac_snoc (C := C_X6_air) (n := 1) (c := 1) (p1 := 54) (ac_snoc (C := C_X6_air) (n := 0) (c := 1) (p1 := 41) (ac_nil (C := C_X6_air)) (ec_gr (C := C_X6_air) (p1 := 51) (ec_ar (C := C_X6_air) (p1 := 48) (p2 := 50) (Nat.le_of_ble_eq_true rfl) (ec_gr (C := C_X6_air) (p1 := 45) (ec_gr (C := C_X6_air) (p1 := 42) (ec_aload_n (C := C_X6_air) (i := 0) dX6_air_41 rfl) f_X6_10 dX6_air_42) f_X6_105 dX6_air_45) (ec_iload (C := C_X6_air) dX6_air_48) dX6_air_50) f_X6_150 dX6_air_51) rfl (fun _ => rfl) rfl) (ec_iload_n (C := C_X6_air) (i := 2) dX6_air_54 rfl) rfl (fun _ => rfl) rfl) (Nat.le_of_ble_eq_true rfl) dX6_air_55) dX6_air_58) dX6_air_59 rfl (Nat.le_of_ble_eq_true rfl))
  (sc_iinc (C := C_X6_air) (v := (1)) dX6_air_60 rfl (Nat.le_of_ble_eq_true rfl))) dX6_air_63 rfl) FU)
def S_X6_air : SD := (s_seq (s_if (b_or (b_not (b_of (e_call prI D_X6_isChimneyOrAll 2 (a_recv 6 (a_snoc Value.int (a_snoc Value.ref a_nil (e_lr 0)) (e_li 1)))))) (b_not (b_of (e_call prI D_X6_isCellOrAll 1 (a_snoc Value.int a_nil (e_li 2)))))) (s_ret Value.int (e_call prI D_X6_finding 2 (a_recv 6 (a_snoc Value.int (a_snoc Value.ref a_nil (e_lr 0)) (e_c (0 : Int32)))))) s_skip)
  (s_seq (s_st Value.int 3 (e_c (0 : Int32)))
  (s_seq (s_sc 4 (s_seq (s_st Value.int 4 (e_call prI D_J9_max_7cf53 2 (a_snoc Value.int (a_snoc Value.int a_nil (e_li 1)) (e_c (0 : Int32)))))
  W_X6_air_1))
  (s_ret Value.int (e_li 3)))))
def D_X6_air : MDen := m_den 5 S_X6_air
set_option maxRecDepth 100000 in
set_option maxHeartbeats 4000000 in
theorem b_X6_air : SC C_X6_air 0 0 S_X6_air := by
  unfold S_X6_air
  exact (sc_seq (C := C_X6_air) (p1 := 21) (sc_if (C := C_X6_air) (pT := 15) (pF := 21) (p2 := 21) (bc_or (C := C_X6_air) (p1 := 8) (bc_not (C := C_X6_air) (bc_of_F (C := C_X6_air) (p2 := 5) (tgt := 15) (ec_callV (C := C_X6_air) (m := 2) (p1 := 2) inj_I s_X6_isChimneyOrAll t_X6_isChimneyOrAll ⟨w_380, Nat.le_of_ble_eq_true rfl, Nat.le_of_ble_eq_true rfl⟩ (ac_snoc (C := C_X6_air) (n := 1) (c := 1) (p1 := 1) (ac_snoc (C := C_X6_air) (n := 0) (c := 1) (p1 := 0) (ac_nil (C := C_X6_air)) (ec_aload_n (C := C_X6_air) (i := 0) dX6_air_0 rfl) rfl (fun _ => rfl) rfl) (ec_iload_n (C := C_X6_air) (i := 1) dX6_air_1 rfl) rfl (fun _ => rfl) rfl) (Nat.le_of_ble_eq_true rfl) dX6_air_2) dX6_air_5 rfl)) (bc_not (C := C_X6_air) (bc_of_T (C := C_X6_air) (p2 := 12) (tgt := 21) (ec_callS (C := C_X6_air) (m := 1) (p1 := 9) inj_I s_X6_isCellOrAll t_X6_isCellOrAll ⟨w_384, Nat.le_of_ble_eq_true rfl, Nat.le_of_ble_eq_true rfl⟩ (ac_snoc (C := C_X6_air) (n := 0) (c := 1) (p1 := 8) (ac_nil (C := C_X6_air)) (ec_iload_n (C := C_X6_air) (i := 2) dX6_air_8 rfl) rfl (fun _ => rfl) rfl) (Nat.le_of_ble_eq_true rfl) dX6_air_9) dX6_air_12 rfl))) (sc_iret (C := C_X6_air) (p1 := 20) (ec_callV (C := C_X6_air) (m := 2) (p1 := 17) inj_I s_X6_finding t_X6_finding ⟨w_295, Nat.le_of_ble_eq_true rfl, Nat.le_of_ble_eq_true rfl⟩ (ac_snoc (C := C_X6_air) (n := 1) (c := 1) (p1 := 16) (ac_snoc (C := C_X6_air) (n := 0) (c := 1) (p1 := 15) (ac_nil (C := C_X6_air)) (ec_aload_n (C := C_X6_air) (i := 0) dX6_air_15 rfl) rfl (fun _ => rfl) rfl) (ec_iconst (C := C_X6_air) (v := (0 : Int32)) dX6_air_16 rfl) rfl (fun _ => rfl) rfl) (Nat.le_of_ble_eq_true rfl) dX6_air_17) dX6_air_20 rfl) sc_skip)
  (sc_seq (C := C_X6_air) (p1 := 23) (sc_istore_n (C := C_X6_air) (p1 := 22) (i := 3) (ec_iconst (C := C_X6_air) (v := (0 : Int32)) dX6_air_21 rfl) dX6_air_22 rfl (Nat.le_of_ble_eq_true rfl))
  (sc_seq (C := C_X6_air) (p1 := 66) (sc_sc (C := C_X6_air) (sc_seq (C := C_X6_air) (p1 := 30) (sc_istore (C := C_X6_air) (p1 := 28) (ec_callS (C := C_X6_air) (m := 2) (p1 := 25) inj_I s_J9_max_7cf53 t_J9_max_7cf53 ⟨w_375, Nat.le_of_ble_eq_true rfl, Nat.le_of_ble_eq_true rfl⟩ (ac_snoc (C := C_X6_air) (n := 1) (c := 1) (p1 := 24) (ac_snoc (C := C_X6_air) (n := 0) (c := 1) (p1 := 23) (ac_nil (C := C_X6_air)) (ec_iload_n (C := C_X6_air) (i := 1) dX6_air_23 rfl) rfl (fun _ => rfl) rfl) (ec_iconst (C := C_X6_air) (v := (0 : Int32)) dX6_air_24 rfl) rfl (fun _ => rfl) rfl) (Nat.le_of_ble_eq_true rfl) dX6_air_25) dX6_air_28 (Nat.le_of_ble_eq_true rfl))
  bw_X6_air_1))
  (sc_iret (C := C_X6_air) (p1 := 67) (ec_iload_n (C := C_X6_air) (i := 3) dX6_air_66 rfl) dX6_air_67 rfl))))
theorem s_X6_air : MS M_X6_air D_X6_air := ms_of b_X6_air (by decide +kernel) rfl rfl (fun _ => trivial)
/-- SmokeRoofs.settled(II)I -/
abbrev C_X6_settled : CX := (cX6_settled, RX6, 5, 2, 43, "settled", (some .int), fun _ => True)
abbrev M_X6_settled : MD := (yX6_settled, C_X6_settled)
theorem k_X6_settled : MOK M_X6_settled 2 := ⟨w_50, w_397, by decide +kernel, by decide +kernel, by decide +kernel⟩
theorem t_X6_settled : MVT M_X6_settled 2 6 := ⟨k_X6_settled, w_395, w_396, by decide, _, rfl, rfl⟩
def WB_X6_settled_1 : DE Bool := (e_bin (fun (x y : Int32) => decide (x ≤ y)) (e_li 4) (e_call prI D_X6_lastOf 2 (a_recv 6 (a_snoc Value.int (a_snoc Value.ref a_nil (e_lr 0)) (e_li 1)))))
def WS_X6_settled_1 : SD := (s_seq (s_st Value.int 3 (e_bin (fun (x y : Int32) => x + y) (e_li 3) (e_call prI D_X6_partsOver 2 (a_snoc Value.int (a_snoc Value.ref a_nil (e_gr 0 2 (e_ar 0 (e_gr 5 7 (e_gr 6 0 (e_lr 0))) (e_li 4)))) (e_li 2)))))
  (s_inc 4 (1)))
def W_X6_settled_1 : SD := s_while WB_X6_settled_1 WS_X6_settled_1 FU
set_option maxRecDepth 100000 in
set_option maxHeartbeats 4000000 in
theorem bw_X6_settled_1 : SC C_X6_settled 30 66 W_X6_settled_1 := by
  unfold W_X6_settled_1 WB_X6_settled_1 WS_X6_settled_1
  exact (sc_while (C := C_X6_settled) (pB := 40) (pE := 66) (bc_icmp_gt_F (C := C_X6_settled) (p1 := 32) (p2 := 37) (tgt := 66) (ec_iload (C := C_X6_settled) dX6_settled_30) (ec_callV (C := C_X6_settled) (m := 2) (p1 := 34) inj_I s_X6_lastOf t_X6_lastOf ⟨w_387, Nat.le_of_ble_eq_true rfl, Nat.le_of_ble_eq_true rfl⟩ (ac_snoc (C := C_X6_settled) (n := 1) (c := 1) (p1 := 33) (ac_snoc (C := C_X6_settled) (n := 0) (c := 1) (p1 := 32) (ac_nil (C := C_X6_settled)) (ec_aload_n (C := C_X6_settled) (i := 0) dX6_settled_32 rfl) rfl (fun _ => rfl) rfl) (ec_iload_n (C := C_X6_settled) (i := 1) dX6_settled_33 rfl) rfl (fun _ => rfl) rfl) (Nat.le_of_ble_eq_true rfl) dX6_settled_34) dX6_settled_37 rfl)
  (sc_goto (C := C_X6_settled) (p1 := 63) (sc_seq (C := C_X6_settled) (p1 := 60) (sc_istore_n (C := C_X6_settled) (p1 := 59) (i := 3) (ec_iadd (C := C_X6_settled) (p1 := 41) (p2 := 58) (ec_iload_n (C := C_X6_settled) (i := 3) dX6_settled_40 rfl) (ec_callS (C := C_X6_settled) (m := 2) (p1 := 55) inj_I s_X6_partsOver t_X6_partsOver ⟨w_391, Nat.le_of_ble_eq_true rfl, Nat.le_of_ble_eq_true rfl⟩ (ac_snoc (C := C_X6_settled) (n := 1) (c := 1) (p1 := 54) (ac_snoc (C := C_X6_settled) (n := 0) (c := 1) (p1 := 41) (ac_nil (C := C_X6_settled)) (ec_gr (C := C_X6_settled) (p1 := 51) (ec_ar (C := C_X6_settled) (p1 := 48) (p2 := 50) (Nat.le_of_ble_eq_true rfl) (ec_gr (C := C_X6_settled) (p1 := 45) (ec_gr (C := C_X6_settled) (p1 := 42) (ec_aload_n (C := C_X6_settled) (i := 0) dX6_settled_41 rfl) f_X6_10 dX6_settled_42) f_X6_105 dX6_settled_45) (ec_iload (C := C_X6_settled) dX6_settled_48) dX6_settled_50) f_X6_157 dX6_settled_51) rfl (fun _ => rfl) rfl) (ec_iload_n (C := C_X6_settled) (i := 2) dX6_settled_54 rfl) rfl (fun _ => rfl) rfl) (Nat.le_of_ble_eq_true rfl) dX6_settled_55) dX6_settled_58) dX6_settled_59 rfl (Nat.le_of_ble_eq_true rfl))
  (sc_iinc (C := C_X6_settled) (v := (1)) dX6_settled_60 rfl (Nat.le_of_ble_eq_true rfl))) dX6_settled_63 rfl) FU)
def S_X6_settled : SD := (s_seq (s_if (b_or (b_not (b_of (e_call prI D_X6_isChimneyOrAll 2 (a_recv 6 (a_snoc Value.int (a_snoc Value.ref a_nil (e_lr 0)) (e_li 1)))))) (b_not (b_of (e_call prI D_X6_isCellOrAll 1 (a_snoc Value.int a_nil (e_li 2)))))) (s_ret Value.int (e_call prI D_X6_finding 2 (a_recv 6 (a_snoc Value.int (a_snoc Value.ref a_nil (e_lr 0)) (e_c (0 : Int32)))))) s_skip)
  (s_seq (s_st Value.int 3 (e_c (0 : Int32)))
  (s_seq (s_sc 4 (s_seq (s_st Value.int 4 (e_call prI D_J9_max_7cf53 2 (a_snoc Value.int (a_snoc Value.int a_nil (e_li 1)) (e_c (0 : Int32)))))
  W_X6_settled_1))
  (s_ret Value.int (e_li 3)))))
def D_X6_settled : MDen := m_den 5 S_X6_settled
set_option maxRecDepth 100000 in
set_option maxHeartbeats 4000000 in
theorem b_X6_settled : SC C_X6_settled 0 0 S_X6_settled := by
  unfold S_X6_settled
  exact (sc_seq (C := C_X6_settled) (p1 := 21) (sc_if (C := C_X6_settled) (pT := 15) (pF := 21) (p2 := 21) (bc_or (C := C_X6_settled) (p1 := 8) (bc_not (C := C_X6_settled) (bc_of_F (C := C_X6_settled) (p2 := 5) (tgt := 15) (ec_callV (C := C_X6_settled) (m := 2) (p1 := 2) inj_I s_X6_isChimneyOrAll t_X6_isChimneyOrAll ⟨w_380, Nat.le_of_ble_eq_true rfl, Nat.le_of_ble_eq_true rfl⟩ (ac_snoc (C := C_X6_settled) (n := 1) (c := 1) (p1 := 1) (ac_snoc (C := C_X6_settled) (n := 0) (c := 1) (p1 := 0) (ac_nil (C := C_X6_settled)) (ec_aload_n (C := C_X6_settled) (i := 0) dX6_settled_0 rfl) rfl (fun _ => rfl) rfl) (ec_iload_n (C := C_X6_settled) (i := 1) dX6_settled_1 rfl) rfl (fun _ => rfl) rfl) (Nat.le_of_ble_eq_true rfl) dX6_settled_2) dX6_settled_5 rfl)) (bc_not (C := C_X6_settled) (bc_of_T (C := C_X6_settled) (p2 := 12) (tgt := 21) (ec_callS (C := C_X6_settled) (m := 1) (p1 := 9) inj_I s_X6_isCellOrAll t_X6_isCellOrAll ⟨w_384, Nat.le_of_ble_eq_true rfl, Nat.le_of_ble_eq_true rfl⟩ (ac_snoc (C := C_X6_settled) (n := 0) (c := 1) (p1 := 8) (ac_nil (C := C_X6_settled)) (ec_iload_n (C := C_X6_settled) (i := 2) dX6_settled_8 rfl) rfl (fun _ => rfl) rfl) (Nat.le_of_ble_eq_true rfl) dX6_settled_9) dX6_settled_12 rfl))) (sc_iret (C := C_X6_settled) (p1 := 20) (ec_callV (C := C_X6_settled) (m := 2) (p1 := 17) inj_I s_X6_finding t_X6_finding ⟨w_295, Nat.le_of_ble_eq_true rfl, Nat.le_of_ble_eq_true rfl⟩ (ac_snoc (C := C_X6_settled) (n := 1) (c := 1) (p1 := 16) (ac_snoc (C := C_X6_settled) (n := 0) (c := 1) (p1 := 15) (ac_nil (C := C_X6_settled)) (ec_aload_n (C := C_X6_settled) (i := 0) dX6_settled_15 rfl) rfl (fun _ => rfl) rfl) (ec_iconst (C := C_X6_settled) (v := (0 : Int32)) dX6_settled_16 rfl) rfl (fun _ => rfl) rfl) (Nat.le_of_ble_eq_true rfl) dX6_settled_17) dX6_settled_20 rfl) sc_skip)
  (sc_seq (C := C_X6_settled) (p1 := 23) (sc_istore_n (C := C_X6_settled) (p1 := 22) (i := 3) (ec_iconst (C := C_X6_settled) (v := (0 : Int32)) dX6_settled_21 rfl) dX6_settled_22 rfl (Nat.le_of_ble_eq_true rfl))
  (sc_seq (C := C_X6_settled) (p1 := 66) (sc_sc (C := C_X6_settled) (sc_seq (C := C_X6_settled) (p1 := 30) (sc_istore (C := C_X6_settled) (p1 := 28) (ec_callS (C := C_X6_settled) (m := 2) (p1 := 25) inj_I s_J9_max_7cf53 t_J9_max_7cf53 ⟨w_375, Nat.le_of_ble_eq_true rfl, Nat.le_of_ble_eq_true rfl⟩ (ac_snoc (C := C_X6_settled) (n := 1) (c := 1) (p1 := 24) (ac_snoc (C := C_X6_settled) (n := 0) (c := 1) (p1 := 23) (ac_nil (C := C_X6_settled)) (ec_iload_n (C := C_X6_settled) (i := 1) dX6_settled_23 rfl) rfl (fun _ => rfl) rfl) (ec_iconst (C := C_X6_settled) (v := (0 : Int32)) dX6_settled_24 rfl) rfl (fun _ => rfl) rfl) (Nat.le_of_ble_eq_true rfl) dX6_settled_25) dX6_settled_28 (Nat.le_of_ble_eq_true rfl))
  bw_X6_settled_1))
  (sc_iret (C := C_X6_settled) (p1 := 67) (ec_iload_n (C := C_X6_settled) (i := 3) dX6_settled_66 rfl) dX6_settled_67 rfl))))
theorem s_X6_settled : MS M_X6_settled D_X6_settled := ms_of b_X6_settled (by decide +kernel) rfl rfl (fun _ => trivial)
/-- SmokeRoofs.parts(II)I -/
abbrev C_X6_parts : CX := (cX6_parts, RX6, 4, 2, 43, "parts", (some .int), fun _ => True)
abbrev M_X6_parts : MD := (yX6_parts, C_X6_parts)
theorem k_X6_parts : MOK M_X6_parts 2 := ⟨w_50, w_401, by decide +kernel, by decide +kernel, by decide +kernel⟩
theorem t_X6_parts : MVT M_X6_parts 2 6 := ⟨k_X6_parts, w_399, w_400, by decide, _, rfl, rfl⟩
def S_X6_parts : SD := (s_seq (s_if (b_or (b_not (b_of (e_call prI D_X6_isChimney 2 (a_recv 6 (a_snoc Value.int (a_snoc Value.ref a_nil (e_lr 0)) (e_li 1)))))) (b_not (b_of (e_call prI D_X6_isIn 3 (a_snoc Value.int (a_snoc Value.int (a_snoc Value.int a_nil (e_li 2)) (e_c (0 : Int32))) (e_c (2 : Int32))))))) (s_ret Value.int (e_call prI D_X6_finding 2 (a_recv 6 (a_snoc Value.int (a_snoc Value.ref a_nil (e_lr 0)) (e_c (0 : Int32)))))) s_skip)
  (s_seq (s_st Value.ref 3 (e_ar 0 (e_gr 5 7 (e_gr 6 0 (e_lr 0))) (e_li 1)))
  (s_seq (s_if (e_un (fun (x : Int32) => decide (x = 0)) (e_li 2)) (s_ret Value.int (e_gi 0 3 (e_lr 3))) s_skip)
  (s_ret Value.int (e_if (e_bin (fun (x y : Int32) => decide (x = y)) (e_li 2) (e_c (1 : Int32))) (e_gi 0 4 (e_lr 3)) (e_gi 0 5 (e_lr 3)))))))
def D_X6_parts : MDen := m_den 4 S_X6_parts
set_option maxRecDepth 100000 in
set_option maxHeartbeats 4000000 in
theorem b_X6_parts : SC C_X6_parts 0 0 S_X6_parts := by
  unfold S_X6_parts
  exact (sc_seq (C := C_X6_parts) (p1 := 23) (sc_if (C := C_X6_parts) (pT := 17) (pF := 23) (p2 := 23) (bc_or (C := C_X6_parts) (p1 := 8) (bc_not (C := C_X6_parts) (bc_of_F (C := C_X6_parts) (p2 := 5) (tgt := 17) (ec_callV (C := C_X6_parts) (m := 2) (p1 := 2) inj_I s_X6_isChimney t_X6_isChimney ⟨w_331, Nat.le_of_ble_eq_true rfl, Nat.le_of_ble_eq_true rfl⟩ (ac_snoc (C := C_X6_parts) (n := 1) (c := 1) (p1 := 1) (ac_snoc (C := C_X6_parts) (n := 0) (c := 1) (p1 := 0) (ac_nil (C := C_X6_parts)) (ec_aload_n (C := C_X6_parts) (i := 0) dX6_parts_0 rfl) rfl (fun _ => rfl) rfl) (ec_iload_n (C := C_X6_parts) (i := 1) dX6_parts_1 rfl) rfl (fun _ => rfl) rfl) (Nat.le_of_ble_eq_true rfl) dX6_parts_2) dX6_parts_5 rfl)) (bc_not (C := C_X6_parts) (bc_of_T (C := C_X6_parts) (p2 := 14) (tgt := 23) (ec_callS (C := C_X6_parts) (m := 3) (p1 := 11) inj_I s_X6_isIn t_X6_isIn ⟨w_292, Nat.le_of_ble_eq_true rfl, Nat.le_of_ble_eq_true rfl⟩ (ac_snoc (C := C_X6_parts) (n := 2) (c := 1) (p1 := 10) (ac_snoc (C := C_X6_parts) (n := 1) (c := 1) (p1 := 9) (ac_snoc (C := C_X6_parts) (n := 0) (c := 1) (p1 := 8) (ac_nil (C := C_X6_parts)) (ec_iload_n (C := C_X6_parts) (i := 2) dX6_parts_8 rfl) rfl (fun _ => rfl) rfl) (ec_iconst (C := C_X6_parts) (v := (0 : Int32)) dX6_parts_9 rfl) rfl (fun _ => rfl) rfl) (ec_iconst (C := C_X6_parts) (v := (2 : Int32)) dX6_parts_10 rfl) rfl (fun _ => rfl) rfl) (Nat.le_of_ble_eq_true rfl) dX6_parts_11) dX6_parts_14 rfl))) (sc_iret (C := C_X6_parts) (p1 := 22) (ec_callV (C := C_X6_parts) (m := 2) (p1 := 19) inj_I s_X6_finding t_X6_finding ⟨w_295, Nat.le_of_ble_eq_true rfl, Nat.le_of_ble_eq_true rfl⟩ (ac_snoc (C := C_X6_parts) (n := 1) (c := 1) (p1 := 18) (ac_snoc (C := C_X6_parts) (n := 0) (c := 1) (p1 := 17) (ac_nil (C := C_X6_parts)) (ec_aload_n (C := C_X6_parts) (i := 0) dX6_parts_17 rfl) rfl (fun _ => rfl) rfl) (ec_iconst (C := C_X6_parts) (v := (0 : Int32)) dX6_parts_18 rfl) rfl (fun _ => rfl) rfl) (Nat.le_of_ble_eq_true rfl) dX6_parts_19) dX6_parts_22 rfl) sc_skip)
  (sc_seq (C := C_X6_parts) (p1 := 33) (sc_astore_n (C := C_X6_parts) (p1 := 32) (i := 3) (ec_ar (C := C_X6_parts) (p1 := 30) (p2 := 31) (Nat.le_of_ble_eq_true rfl) (ec_gr (C := C_X6_parts) (p1 := 27) (ec_gr (C := C_X6_parts) (p1 := 24) (ec_aload_n (C := C_X6_parts) (i := 0) dX6_parts_23 rfl) f_X6_10 dX6_parts_24) f_X6_105 dX6_parts_27) (ec_iload_n (C := C_X6_parts) (i := 1) dX6_parts_30 rfl) dX6_parts_31) dX6_parts_32 rfl (Nat.le_of_ble_eq_true rfl))
  (sc_seq (C := C_X6_parts) (p1 := 42) (sc_if (C := C_X6_parts) (pT := 37) (pF := 42) (p2 := 42) (bc_if_ne_F (C := C_X6_parts) (p2 := 34) (tgt := 42) (ec_iload_n (C := C_X6_parts) (i := 2) dX6_parts_33 rfl) dX6_parts_34 rfl) (sc_iret (C := C_X6_parts) (p1 := 41) (ec_gi (C := C_X6_parts) (p1 := 38) (ec_aload_n (C := C_X6_parts) (i := 3) dX6_parts_37 rfl) f_X6_160 dX6_parts_38) dX6_parts_41 rfl) sc_skip)
  (sc_iret (C := C_X6_parts) (p1 := 58) (ec_if (C := C_X6_parts) (pT := 47) (pF := 54) (p1 := 51) (pE := 58) (bc_icmp_ne_F (C := C_X6_parts) (p1 := 43) (p2 := 44) (tgt := 54) (ec_iload_n (C := C_X6_parts) (i := 2) dX6_parts_42 rfl) (ec_iconst (C := C_X6_parts) (v := (1 : Int32)) dX6_parts_43 rfl) dX6_parts_44 rfl) (ec_gi (C := C_X6_parts) (p1 := 48) (ec_aload_n (C := C_X6_parts) (i := 3) dX6_parts_47 rfl) f_X6_163 dX6_parts_48) dX6_parts_51 rfl (ec_gi (C := C_X6_parts) (p1 := 55) (ec_aload_n (C := C_X6_parts) (i := 3) dX6_parts_54 rfl) f_X6_166 dX6_parts_55)) dX6_parts_58 rfl))))
theorem s_X6_parts : MS M_X6_parts D_X6_parts := ms_of b_X6_parts (by decide +kernel) rfl rfl (fun _ => trivial)
/-- SmokeRoofs$Town.aloftOver(I)I -/
abbrev C_X5_aloftOver : CX := (cX5_aloftOver, RX5, 4, 0, 0, "aloftOver", (some .int), fun _ => True)
abbrev M_X5_aloftOver : MD := (yX5_aloftOver, C_X5_aloftOver)
theorem k_X5_aloftOver : MOK M_X5_aloftOver 1 := ⟨w_51, w_409, by decide +kernel, by decide +kernel, by decide +kernel⟩
theorem t_X5_aloftOver : MVT M_X5_aloftOver 1 5 := ⟨k_X5_aloftOver, w_407, w_408, by decide, _, rfl, rfl⟩
def WB_X5_aloftOver_1 : DE Bool := (e_bin (fun (x y : Int32) => decide (x < y)) (e_li 3) (e_gi 5 2 (e_lr 0)))
def WS_X5_aloftOver_1 : SD := (s_seq (s_st Value.int 2 (e_bin (fun (x y : Int32) => x + y) (e_li 2) (e_ai (e_gr 0 1 (e_ar 0 (e_gr 5 7 (e_lr 0)) (e_li 3))) (e_li 1))))
  (s_inc 3 (1)))
def W_X5_aloftOver_1 : SD := s_while WB_X5_aloftOver_1 WS_X5_aloftOver_1 FU
set_option maxRecDepth 100000 in
set_option maxHeartbeats 4000000 in
theorem bw_X5_aloftOver_1 : SC C_X5_aloftOver 4 32 W_X5_aloftOver_1 := by
  unfold W_X5_aloftOver_1 WB_X5_aloftOver_1 WS_X5_aloftOver_1
  exact (sc_while (C := C_X5_aloftOver) (pB := 12) (pE := 32) (bc_icmp_ge_F (C := C_X5_aloftOver) (p1 := 5) (p2 := 9) (tgt := 32) (ec_iload_n (C := C_X5_aloftOver) (i := 3) dX5_aloftOver_4 rfl) (ec_gi (C := C_X5_aloftOver) (p1 := 6) (ec_aload_n (C := C_X5_aloftOver) (i := 0) dX5_aloftOver_5 rfl) f_X5_18 dX5_aloftOver_6) dX5_aloftOver_9 rfl)
  (sc_goto (C := C_X5_aloftOver) (p1 := 29) (sc_seq (C := C_X5_aloftOver) (p1 := 26) (sc_istore_n (C := C_X5_aloftOver) (p1 := 25) (i := 2) (ec_iadd (C := C_X5_aloftOver) (p1 := 13) (p2 := 24) (ec_iload_n (C := C_X5_aloftOver) (i := 2) dX5_aloftOver_12 rfl) (ec_ai (C := C_X5_aloftOver) (p1 := 22) (p2 := 23) (ec_gr (C := C_X5_aloftOver) (p1 := 19) (ec_ar (C := C_X5_aloftOver) (p1 := 17) (p2 := 18) (Nat.le_of_ble_eq_true rfl) (ec_gr (C := C_X5_aloftOver) (p1 := 14) (ec_aload_n (C := C_X5_aloftOver) (i := 0) dX5_aloftOver_13 rfl) f_X5_36 dX5_aloftOver_14) (ec_iload_n (C := C_X5_aloftOver) (i := 3) dX5_aloftOver_17 rfl) dX5_aloftOver_18) f_X5_61 dX5_aloftOver_19) (ec_iload_n (C := C_X5_aloftOver) (i := 1) dX5_aloftOver_22 rfl) dX5_aloftOver_23) dX5_aloftOver_24) dX5_aloftOver_25 rfl (Nat.le_of_ble_eq_true rfl))
  (sc_iinc (C := C_X5_aloftOver) (v := (1)) dX5_aloftOver_26 rfl (Nat.le_of_ble_eq_true rfl))) dX5_aloftOver_29 rfl) FU)
def S_X5_aloftOver : SD := (s_seq (s_st Value.int 2 (e_c (0 : Int32)))
  (s_seq (s_sc 3 (s_seq (s_st Value.int 3 (e_c (0 : Int32)))
  W_X5_aloftOver_1))
  (s_ret Value.int (e_li 2))))
def D_X5_aloftOver : MDen := m_den 4 S_X5_aloftOver
set_option maxRecDepth 100000 in
set_option maxHeartbeats 4000000 in
theorem b_X5_aloftOver : SC C_X5_aloftOver 0 0 S_X5_aloftOver := by
  unfold S_X5_aloftOver
  exact (sc_seq (C := C_X5_aloftOver) (p1 := 2) (sc_istore_n (C := C_X5_aloftOver) (p1 := 1) (i := 2) (ec_iconst (C := C_X5_aloftOver) (v := (0 : Int32)) dX5_aloftOver_0 rfl) dX5_aloftOver_1 rfl (Nat.le_of_ble_eq_true rfl))
  (sc_seq (C := C_X5_aloftOver) (p1 := 32) (sc_sc (C := C_X5_aloftOver) (sc_seq (C := C_X5_aloftOver) (p1 := 4) (sc_istore_n (C := C_X5_aloftOver) (p1 := 3) (i := 3) (ec_iconst (C := C_X5_aloftOver) (v := (0 : Int32)) dX5_aloftOver_2 rfl) dX5_aloftOver_3 rfl (Nat.le_of_ble_eq_true rfl))
  bw_X5_aloftOver_1))
  (sc_iret (C := C_X5_aloftOver) (p1 := 33) (ec_iload_n (C := C_X5_aloftOver) (i := 2) dX5_aloftOver_32 rfl) dX5_aloftOver_33 rfl)))
theorem s_X5_aloftOver : MS M_X5_aloftOver D_X5_aloftOver := ms_of b_X5_aloftOver (by decide +kernel) rfl rfl (fun _ => trivial)
/-- SmokeRoofs.thickest()I -/
abbrev C_X6_thickest : CX := (cX6_thickest, RX6, 5, 1, 23, "thickest", (some .int), fun _ => True)
abbrev M_X6_thickest : MD := (yX6_thickest, C_X6_thickest)
theorem k_X6_thickest : MOK M_X6_thickest 0 := ⟨w_50, w_405, by decide +kernel, by decide +kernel, by decide +kernel⟩
theorem t_X6_thickest : MVT M_X6_thickest 0 6 := ⟨k_X6_thickest, w_403, w_404, by decide, _, rfl, rfl⟩
def WB_X6_thickest_1 : DE Bool := (e_bin (fun (x y : Int32) => decide (x < y)) (e_li 3) (e_c (36 : Int32)))
def WS_X6_thickest_1 : SD := (s_seq (s_sc 4 (s_seq (s_st Value.int 4 (e_call prI D_X5_aloftOver 2 (a_recv 5 (a_snoc Value.int (a_snoc Value.ref a_nil (e_gr 6 0 (e_lr 0))) (e_li 3)))))
  (s_if (e_bin (fun (x y : Int32) => decide (y < x)) (e_li 4) (e_li 2)) (s_seq (s_st Value.int 2 (e_li 4))
  (s_st Value.int 1 (e_li 3))) s_skip)))
  (s_inc 3 (1)))
def W_X6_thickest_1 : SD := s_while WB_X6_thickest_1 WS_X6_thickest_1 FU
set_option maxRecDepth 100000 in
set_option maxHeartbeats 4000000 in
theorem bw_X6_thickest_1 : SC C_X6_thickest 6 39 W_X6_thickest_1 := by
  unfold W_X6_thickest_1 WB_X6_thickest_1 WS_X6_thickest_1
  exact (sc_while (C := C_X6_thickest) (pB := 12) (pE := 39) (bc_icmp_ge_F (C := C_X6_thickest) (p1 := 7) (p2 := 9) (tgt := 39) (ec_iload_n (C := C_X6_thickest) (i := 3) dX6_thickest_6 rfl) (ec_bipush (C := C_X6_thickest) (v := (36 : Int32)) dX6_thickest_7 rfl) dX6_thickest_9 rfl)
  (sc_goto (C := C_X6_thickest) (p1 := 36) (sc_seq (C := C_X6_thickest) (p1 := 33) (sc_sc (C := C_X6_thickest) (sc_seq (C := C_X6_thickest) (p1 := 22) (sc_istore (C := C_X6_thickest) (p1 := 20) (ec_callV (C := C_X6_thickest) (m := 2) (p1 := 17) inj_I s_X5_aloftOver t_X5_aloftOver ⟨w_406, Nat.le_of_ble_eq_true rfl, Nat.le_of_ble_eq_true rfl⟩ (ac_snoc (C := C_X6_thickest) (n := 1) (c := 1) (p1 := 16) (ac_snoc (C := C_X6_thickest) (n := 0) (c := 1) (p1 := 12) (ac_nil (C := C_X6_thickest)) (ec_gr (C := C_X6_thickest) (p1 := 13) (ec_aload_n (C := C_X6_thickest) (i := 0) dX6_thickest_12 rfl) f_X6_10 dX6_thickest_13) rfl (fun _ => rfl) rfl) (ec_iload_n (C := C_X6_thickest) (i := 3) dX6_thickest_16 rfl) rfl (fun _ => rfl) rfl) (Nat.le_of_ble_eq_true rfl) dX6_thickest_17) dX6_thickest_20 (Nat.le_of_ble_eq_true rfl))
  (sc_if (C := C_X6_thickest) (pT := 28) (pF := 33) (p2 := 33) (bc_icmp_le_F (C := C_X6_thickest) (p1 := 24) (p2 := 25) (tgt := 33) (ec_iload (C := C_X6_thickest) dX6_thickest_22) (ec_iload_n (C := C_X6_thickest) (i := 2) dX6_thickest_24 rfl) dX6_thickest_25 rfl) (sc_seq (C := C_X6_thickest) (p1 := 31) (sc_istore_n (C := C_X6_thickest) (p1 := 30) (i := 2) (ec_iload (C := C_X6_thickest) dX6_thickest_28) dX6_thickest_30 rfl (Nat.le_of_ble_eq_true rfl))
  (sc_istore_n (C := C_X6_thickest) (p1 := 32) (i := 1) (ec_iload_n (C := C_X6_thickest) (i := 3) dX6_thickest_31 rfl) dX6_thickest_32 rfl (Nat.le_of_ble_eq_true rfl))) sc_skip)))
  (sc_iinc (C := C_X6_thickest) (v := (1)) dX6_thickest_33 rfl (Nat.le_of_ble_eq_true rfl))) dX6_thickest_36 rfl) FU)
def S_X6_thickest : SD := (s_seq (s_st Value.int 1 (e_c (0 : Int32)))
  (s_seq (s_st Value.int 2 (e_c (0 : Int32)))
  (s_seq (s_sc 3 (s_seq (s_st Value.int 3 (e_c (0 : Int32)))
  W_X6_thickest_1))
  (s_ret Value.int (e_li 1)))))
def D_X6_thickest : MDen := m_den 5 S_X6_thickest
set_option maxRecDepth 100000 in
set_option maxHeartbeats 4000000 in
theorem b_X6_thickest : SC C_X6_thickest 0 0 S_X6_thickest := by
  unfold S_X6_thickest
  exact (sc_seq (C := C_X6_thickest) (p1 := 2) (sc_istore_n (C := C_X6_thickest) (p1 := 1) (i := 1) (ec_iconst (C := C_X6_thickest) (v := (0 : Int32)) dX6_thickest_0 rfl) dX6_thickest_1 rfl (Nat.le_of_ble_eq_true rfl))
  (sc_seq (C := C_X6_thickest) (p1 := 4) (sc_istore_n (C := C_X6_thickest) (p1 := 3) (i := 2) (ec_iconst (C := C_X6_thickest) (v := (0 : Int32)) dX6_thickest_2 rfl) dX6_thickest_3 rfl (Nat.le_of_ble_eq_true rfl))
  (sc_seq (C := C_X6_thickest) (p1 := 39) (sc_sc (C := C_X6_thickest) (sc_seq (C := C_X6_thickest) (p1 := 6) (sc_istore_n (C := C_X6_thickest) (p1 := 5) (i := 3) (ec_iconst (C := C_X6_thickest) (v := (0 : Int32)) dX6_thickest_4 rfl) dX6_thickest_5 rfl (Nat.le_of_ble_eq_true rfl))
  bw_X6_thickest_1))
  (sc_iret (C := C_X6_thickest) (p1 := 40) (ec_iload_n (C := C_X6_thickest) (i := 1) dX6_thickest_39 rfl) dX6_thickest_40 rfl))))
theorem s_X6_thickest : MS M_X6_thickest D_X6_thickest := ms_of b_X6_thickest (by decide +kernel) rfl rfl (fun _ => trivial)
/-- SmokeRoofs.touched(I)I -/
abbrev C_X6_touched : CX := (cX6_touched, RX6, 5, 2, 43, "touched", (some .int), fun _ => True)
abbrev M_X6_touched : MD := (yX6_touched, C_X6_touched)
theorem k_X6_touched : MOK M_X6_touched 1 := ⟨w_50, w_413, by decide +kernel, by decide +kernel, by decide +kernel⟩
theorem t_X6_touched : MVT M_X6_touched 1 6 := ⟨k_X6_touched, w_411, w_412, by decide, _, rfl, rfl⟩
def WB_X6_touched_1 : DE Bool := (e_bin (fun (x y : Int32) => decide (x < y)) (e_li 4) (e_c (36 : Int32)))
def WS_X6_touched_1 : SD := (s_seq (s_if (b_and (e_un (fun (x : Int32) => decide (0 ≤ x)) (e_ai (e_gr 5 3 (e_gr 6 0 (e_lr 0))) (e_li 4))) (e_un (fun (x : Int32) => decide (0 < x)) (e_ai (e_lr 2) (e_li 4)))) (s_st Value.int 3 (e_bin (fun (x y : Int32) => x ||| y) (e_li 3) (e_bin (fun (x y : Int32) => x <<< (y &&& 31)) (e_c (1 : Int32)) (e_ai (e_gr 5 3 (e_gr 6 0 (e_lr 0))) (e_li 4))))) s_skip)
  (s_inc 4 (1)))
def W_X6_touched_1 : SD := s_while WB_X6_touched_1 WS_X6_touched_1 FU
set_option maxRecDepth 100000 in
set_option maxHeartbeats 4000000 in
theorem bw_X6_touched_1 : SC C_X6_touched 32 80 W_X6_touched_1 := by
  unfold W_X6_touched_1 WB_X6_touched_1 WS_X6_touched_1
  exact (sc_while (C := C_X6_touched) (pB := 39) (pE := 80) (bc_icmp_ge_F (C := C_X6_touched) (p1 := 34) (p2 := 36) (tgt := 80) (ec_iload (C := C_X6_touched) dX6_touched_32) (ec_bipush (C := C_X6_touched) (v := (36 : Int32)) dX6_touched_34 rfl) dX6_touched_36 rfl)
  (sc_goto (C := C_X6_touched) (p1 := 77) (sc_seq (C := C_X6_touched) (p1 := 74) (sc_if (C := C_X6_touched) (pT := 59) (pF := 74) (p2 := 74) (bc_and (C := C_X6_touched) (p1 := 52) (bc_if_lt_F (C := C_X6_touched) (p2 := 49) (tgt := 74) (ec_ai (C := C_X6_touched) (p1 := 46) (p2 := 48) (ec_gr (C := C_X6_touched) (p1 := 43) (ec_gr (C := C_X6_touched) (p1 := 40) (ec_aload_n (C := C_X6_touched) (i := 0) dX6_touched_39 rfl) f_X6_10 dX6_touched_40) f_X6_82 dX6_touched_43) (ec_iload (C := C_X6_touched) dX6_touched_46) dX6_touched_48) dX6_touched_49 rfl) (bc_if_le_F (C := C_X6_touched) (p2 := 56) (tgt := 74) (ec_ai (C := C_X6_touched) (p1 := 53) (p2 := 55) (ec_aload_n (C := C_X6_touched) (i := 2) dX6_touched_52 rfl) (ec_iload (C := C_X6_touched) dX6_touched_53) dX6_touched_55) dX6_touched_56 rfl)) (sc_istore_n (C := C_X6_touched) (p1 := 73) (i := 3) (ec_ior (C := C_X6_touched) (p1 := 60) (p2 := 72) (ec_iload_n (C := C_X6_touched) (i := 3) dX6_touched_59 rfl) (ec_ishl (C := C_X6_touched) (p1 := 61) (p2 := 71) (ec_iconst (C := C_X6_touched) (v := (1 : Int32)) dX6_touched_60 rfl) (ec_ai (C := C_X6_touched) (p1 := 68) (p2 := 70) (ec_gr (C := C_X6_touched) (p1 := 65) (ec_gr (C := C_X6_touched) (p1 := 62) (ec_aload_n (C := C_X6_touched) (i := 0) dX6_touched_61 rfl) f_X6_10 dX6_touched_62) f_X6_82 dX6_touched_65) (ec_iload (C := C_X6_touched) dX6_touched_68) dX6_touched_70) dX6_touched_71) dX6_touched_72) dX6_touched_73 rfl (Nat.le_of_ble_eq_true rfl)) sc_skip)
  (sc_iinc (C := C_X6_touched) (v := (1)) dX6_touched_74 rfl (Nat.le_of_ble_eq_true rfl))) dX6_touched_77 rfl) FU)
def S_X6_touched : SD := (s_seq (s_if (b_not (b_of (e_call prI D_X6_isChimney 2 (a_recv 6 (a_snoc Value.int (a_snoc Value.ref a_nil (e_lr 0)) (e_li 1)))))) (s_ret Value.int (e_call prI D_X6_finding 2 (a_recv 6 (a_snoc Value.int (a_snoc Value.ref a_nil (e_lr 0)) (e_c (0 : Int32)))))) s_skip)
  (s_seq (s_st Value.ref 2 (e_gr 0 2 (e_ar 0 (e_gr 5 7 (e_gr 6 0 (e_lr 0))) (e_li 1))))
  (s_seq (s_st Value.int 3 (e_c (0 : Int32)))
  (s_seq (s_sc 4 (s_seq (s_st Value.int 4 (e_c (0 : Int32)))
  W_X6_touched_1))
  (s_ret Value.int (e_li 3))))))
def D_X6_touched : MDen := m_den 5 S_X6_touched
set_option maxRecDepth 100000 in
set_option maxHeartbeats 4000000 in
theorem b_X6_touched : SC C_X6_touched 0 0 S_X6_touched := by
  unfold S_X6_touched
  exact (sc_seq (C := C_X6_touched) (p1 := 14) (sc_if (C := C_X6_touched) (pT := 8) (pF := 14) (p2 := 14) (bc_not (C := C_X6_touched) (bc_of_T (C := C_X6_touched) (p2 := 5) (tgt := 14) (ec_callV (C := C_X6_touched) (m := 2) (p1 := 2) inj_I s_X6_isChimney t_X6_isChimney ⟨w_331, Nat.le_of_ble_eq_true rfl, Nat.le_of_ble_eq_true rfl⟩ (ac_snoc (C := C_X6_touched) (n := 1) (c := 1) (p1 := 1) (ac_snoc (C := C_X6_touched) (n := 0) (c := 1) (p1 := 0) (ac_nil (C := C_X6_touched)) (ec_aload_n (C := C_X6_touched) (i := 0) dX6_touched_0 rfl) rfl (fun _ => rfl) rfl) (ec_iload_n (C := C_X6_touched) (i := 1) dX6_touched_1 rfl) rfl (fun _ => rfl) rfl) (Nat.le_of_ble_eq_true rfl) dX6_touched_2) dX6_touched_5 rfl)) (sc_iret (C := C_X6_touched) (p1 := 13) (ec_callV (C := C_X6_touched) (m := 2) (p1 := 10) inj_I s_X6_finding t_X6_finding ⟨w_295, Nat.le_of_ble_eq_true rfl, Nat.le_of_ble_eq_true rfl⟩ (ac_snoc (C := C_X6_touched) (n := 1) (c := 1) (p1 := 9) (ac_snoc (C := C_X6_touched) (n := 0) (c := 1) (p1 := 8) (ac_nil (C := C_X6_touched)) (ec_aload_n (C := C_X6_touched) (i := 0) dX6_touched_8 rfl) rfl (fun _ => rfl) rfl) (ec_iconst (C := C_X6_touched) (v := (0 : Int32)) dX6_touched_9 rfl) rfl (fun _ => rfl) rfl) (Nat.le_of_ble_eq_true rfl) dX6_touched_10) dX6_touched_13 rfl) sc_skip)
  (sc_seq (C := C_X6_touched) (p1 := 27) (sc_astore_n (C := C_X6_touched) (p1 := 26) (i := 2) (ec_gr (C := C_X6_touched) (p1 := 23) (ec_ar (C := C_X6_touched) (p1 := 21) (p2 := 22) (Nat.le_of_ble_eq_true rfl) (ec_gr (C := C_X6_touched) (p1 := 18) (ec_gr (C := C_X6_touched) (p1 := 15) (ec_aload_n (C := C_X6_touched) (i := 0) dX6_touched_14 rfl) f_X6_10 dX6_touched_15) f_X6_105 dX6_touched_18) (ec_iload_n (C := C_X6_touched) (i := 1) dX6_touched_21 rfl) dX6_touched_22) f_X6_157 dX6_touched_23) dX6_touched_26 rfl (Nat.le_of_ble_eq_true rfl))
  (sc_seq (C := C_X6_touched) (p1 := 29) (sc_istore_n (C := C_X6_touched) (p1 := 28) (i := 3) (ec_iconst (C := C_X6_touched) (v := (0 : Int32)) dX6_touched_27 rfl) dX6_touched_28 rfl (Nat.le_of_ble_eq_true rfl))
  (sc_seq (C := C_X6_touched) (p1 := 80) (sc_sc (C := C_X6_touched) (sc_seq (C := C_X6_touched) (p1 := 32) (sc_istore (C := C_X6_touched) (p1 := 30) (ec_iconst (C := C_X6_touched) (v := (0 : Int32)) dX6_touched_29 rfl) dX6_touched_30 (Nat.le_of_ble_eq_true rfl))
  bw_X6_touched_1))
  (sc_iret (C := C_X6_touched) (p1 := 81) (ec_iload_n (C := C_X6_touched) (i := 3) dX6_touched_80 rfl) dX6_touched_81 rfl)))))
theorem s_X6_touched : MS M_X6_touched D_X6_touched := ms_of b_X6_touched (by decide +kernel) rfl rfl (fun _ => trivial)
/-- SmokeRoofs.hasHours(I)Z -/
abbrev C_X6_hasHours : CX := (cX6_hasHours, RX6, 2, 0, 0, "hasHours", (some .boolean), fun _ => True)
abbrev M_X6_hasHours : MD := (yX6_hasHours, C_X6_hasHours)
theorem k_X6_hasHours : MOK M_X6_hasHours 1 := ⟨w_50, w_421, by decide +kernel, by decide +kernel, by decide +kernel⟩
theorem t_X6_hasHours : MVT M_X6_hasHours 1 6 := ⟨k_X6_hasHours, w_420, w_4, by decide, _, rfl, rfl⟩
def S_X6_hasHours : SD := (s_retz (e_b (e_bin (fun (x y : Int32) => decide (x ≤ y)) (e_bin (fun (x y : Int32) => x + y) (e_gi 5 0 (e_gr 6 0 (e_lr 0))) (e_li 1)) (e_c (9999 : Int32)))))
def D_X6_hasHours : MDen := m_den 2 S_X6_hasHours
set_option maxRecDepth 100000 in
set_option maxHeartbeats 4000000 in
theorem b_X6_hasHours : SC C_X6_hasHours 0 0 S_X6_hasHours := by
  unfold S_X6_hasHours
  exact (sc_zret (C := C_X6_hasHours) (p1 := 20) (ec_bm (C := C_X6_hasHours) (pT := 15) (bc_icmp_gt_F (C := C_X6_hasHours) (p1 := 9) (p2 := 12) (tgt := 19) (ec_iadd (C := C_X6_hasHours) (p1 := 7) (p2 := 8) (ec_gi (C := C_X6_hasHours) (p1 := 4) (ec_gr (C := C_X6_hasHours) (p1 := 1) (ec_aload_n (C := C_X6_hasHours) (i := 0) dX6_hasHours_0 rfl) f_X6_10 dX6_hasHours_1) f_X6_119 dX6_hasHours_4) (ec_iload_n (C := C_X6_hasHours) (i := 1) dX6_hasHours_7 rfl) dX6_hasHours_8) (ec_sipush (C := C_X6_hasHours) (v := (9999 : Int32)) dX6_hasHours_9 rfl) dX6_hasHours_12 rfl) dX6_hasHours_15 dX6_hasHours_16 rfl dX6_hasHours_19) dX6_hasHours_20 rfl)
theorem s_X6_hasHours : MS M_X6_hasHours D_X6_hasHours := ms_of b_X6_hasHours (by decide +kernel) rfl rfl (fun _ => trivial)
/-- SmokeRoofs$Tally.begin()V -/
abbrev C_X3_begin : CX := (cX3_begin, RX3, 1, 1, 23, "begin", none, fun _ => True)
abbrev M_X3_begin : MD := (yX3_begin, C_X3_begin)
theorem k_X3_begin : MOK M_X3_begin 0 := ⟨w_56, w_425, by decide +kernel, by decide +kernel, by decide +kernel⟩
theorem t_X3_begin : MVT M_X3_begin 0 3 := ⟨k_X3_begin, w_423, w_424, by decide, _, rfl, rfl⟩
def S_X3_begin : SD := (s_seq (s_seq (s_pf Value.int 3 0 (e_lr 0) (e_c (0 : Int32)))
  (s_seq (s_call D_J7_fill_53178 2 (a_snoc Value.int (a_snoc Value.ref a_nil (e_gr 3 1 (e_lr 0))) (e_c (0 : Int32))))
  (s_seq (s_call D_J7_fill_53178 2 (a_snoc Value.int (a_snoc Value.ref a_nil (e_gr 3 2 (e_lr 0))) (e_c (0 : Int32))))
  (s_call D_J7_fill_53178 2 (a_snoc Value.int (a_snoc Value.ref a_nil (e_gr 3 3 (e_lr 0))) (e_c (0 : Int32)))))))
  s_retv)
def D_X3_begin : MDen := m_den 1 S_X3_begin
set_option maxRecDepth 100000 in
set_option maxHeartbeats 4000000 in
theorem b_X3_begin : SC C_X3_begin 0 0 S_X3_begin := by
  unfold S_X3_begin
  exact (sc_seq (C := C_X3_begin) (p1 := 29) (sc_seq (C := C_X3_begin) (p1 := 5) (sc_pf (C := C_X3_begin) (p1 := 1) (p2 := 2) (ec_aload_n (C := C_X3_begin) (i := 0) dX3_begin_0 rfl) (ec_iconst (C := C_X3_begin) (v := (0 : Int32)) dX3_begin_1 rfl) f_X3_9 dX3_begin_2)
  (sc_seq (C := C_X3_begin) (p1 := 13) (sc_callS (C := C_X3_begin) (m := 2) (p1 := 10) s_J7_fill_53178 t_J7_fill_53178 ⟨w_426, Nat.le_of_ble_eq_true rfl, Nat.le_of_ble_eq_true rfl⟩ (ac_snoc (C := C_X3_begin) (n := 1) (c := 1) (p1 := 9) (ac_snoc (C := C_X3_begin) (n := 0) (c := 1) (p1 := 5) (ac_nil (C := C_X3_begin)) (ec_gr (C := C_X3_begin) (p1 := 6) (ec_aload_n (C := C_X3_begin) (i := 0) dX3_begin_5 rfl) f_X3_15 dX3_begin_6) rfl (fun _ => rfl) rfl) (ec_iconst (C := C_X3_begin) (v := (0 : Int32)) dX3_begin_9 rfl) rfl (fun _ => rfl) rfl) dX3_begin_10)
  (sc_seq (C := C_X3_begin) (p1 := 21) (sc_callS (C := C_X3_begin) (m := 2) (p1 := 18) s_J7_fill_53178 t_J7_fill_53178 ⟨w_426, Nat.le_of_ble_eq_true rfl, Nat.le_of_ble_eq_true rfl⟩ (ac_snoc (C := C_X3_begin) (n := 1) (c := 1) (p1 := 17) (ac_snoc (C := C_X3_begin) (n := 0) (c := 1) (p1 := 13) (ac_nil (C := C_X3_begin)) (ec_gr (C := C_X3_begin) (p1 := 14) (ec_aload_n (C := C_X3_begin) (i := 0) dX3_begin_13 rfl) f_X3_19 dX3_begin_14) rfl (fun _ => rfl) rfl) (ec_iconst (C := C_X3_begin) (v := (0 : Int32)) dX3_begin_17 rfl) rfl (fun _ => rfl) rfl) dX3_begin_18)
  (sc_callS (C := C_X3_begin) (m := 2) (p1 := 26) s_J7_fill_53178 t_J7_fill_53178 ⟨w_426, Nat.le_of_ble_eq_true rfl, Nat.le_of_ble_eq_true rfl⟩ (ac_snoc (C := C_X3_begin) (n := 1) (c := 1) (p1 := 25) (ac_snoc (C := C_X3_begin) (n := 0) (c := 1) (p1 := 21) (ac_nil (C := C_X3_begin)) (ec_gr (C := C_X3_begin) (p1 := 22) (ec_aload_n (C := C_X3_begin) (i := 0) dX3_begin_21 rfl) f_X3_22 dX3_begin_22) rfl (fun _ => rfl) rfl) (ec_iconst (C := C_X3_begin) (v := (0 : Int32)) dX3_begin_25 rfl) rfl (fun _ => rfl) rfl) dX3_begin_26))))
  (sc_vret (C := C_X3_begin) dX3_begin_29 rfl))
theorem s_X3_begin : MS M_X3_begin D_X3_begin := ms_of b_X3_begin (by decide +kernel) rfl rfl (fun _ => trivial)
/-- SmokeRoofs$Chimney.burnAt(I)V -/
abbrev C_X0_burnAt : CX := (cX0_burnAt, RX0, 3, 1, 22, "burnAt", none, fun _ => True)
abbrev M_X0_burnAt : MD := (yX0_burnAt, C_X0_burnAt)
theorem k_X0_burnAt : MOK M_X0_burnAt 1 := ⟨w_53, w_439, by decide +kernel, by decide +kernel, by decide +kernel⟩
theorem t_X0_burnAt : MVT M_X0_burnAt 1 0 := ⟨k_X0_burnAt, w_437, w_438, by decide, _, rfl, rfl⟩
def S_X0_burnAt : SD := (s_seq (s_seq (s_st Value.int 2 (e_call prI D_X0_burnsAt 2 (a_recv 0 (a_snoc Value.int (a_snoc Value.ref a_nil (e_lr 0)) (e_li 1)))))
  (s_seq (s_aop (fun (x y : Int32) => x + y) (e_gr 0 1 (e_lr 0)) (e_ai (e_gr 0 0 (e_lr 0)) (e_c (2 : Int32))) (e_li 2))
  (s_fop (fun (x y : Int32) => x + y) 0 5 (e_lr 0) (e_li 2))))
  s_retv)
def D_X0_burnAt : MDen := m_den 3 S_X0_burnAt
set_option maxRecDepth 100000 in
set_option maxHeartbeats 4000000 in
theorem b_X0_burnAt : SC C_X0_burnAt 0 0 S_X0_burnAt := by
  unfold S_X0_burnAt
  exact (sc_seq (C := C_X0_burnAt) (p1 := 31) (sc_seq (C := C_X0_burnAt) (p1 := 6) (sc_istore_n (C := C_X0_burnAt) (p1 := 5) (i := 2) (ec_callV (C := C_X0_burnAt) (m := 2) (p1 := 2) inj_I s_X0_burnsAt t_X0_burnsAt ⟨w_440, Nat.le_of_ble_eq_true rfl, Nat.le_of_ble_eq_true rfl⟩ (ac_snoc (C := C_X0_burnAt) (n := 1) (c := 1) (p1 := 1) (ac_snoc (C := C_X0_burnAt) (n := 0) (c := 1) (p1 := 0) (ac_nil (C := C_X0_burnAt)) (ec_aload_n (C := C_X0_burnAt) (i := 0) dX0_burnAt_0 rfl) rfl (fun _ => rfl) rfl) (ec_iload_n (C := C_X0_burnAt) (i := 1) dX0_burnAt_1 rfl) rfl (fun _ => rfl) rfl) (Nat.le_of_ble_eq_true rfl) dX0_burnAt_2) dX0_burnAt_5 rfl (Nat.le_of_ble_eq_true rfl))
  (sc_seq (C := C_X0_burnAt) (p1 := 21) (sc_aop_iadd (C := C_X0_burnAt) (p1 := 10) (p2 := 16) (p3 := 19) (ec_gr (C := C_X0_burnAt) (p1 := 7) (ec_aload_n (C := C_X0_burnAt) (i := 0) dX0_burnAt_6 rfl) f_X0_15 dX0_burnAt_7) (ec_ai (C := C_X0_burnAt) (p1 := 14) (p2 := 15) (ec_gr (C := C_X0_burnAt) (p1 := 11) (ec_aload_n (C := C_X0_burnAt) (i := 0) dX0_burnAt_10 rfl) f_X0_9 dX0_burnAt_11) (ec_iconst (C := C_X0_burnAt) (v := (2 : Int32)) dX0_burnAt_14 rfl) dX0_burnAt_15) dX0_burnAt_16 dX0_burnAt_17 (ec_iload_n (C := C_X0_burnAt) (i := 2) dX0_burnAt_18 rfl) dX0_burnAt_19 dX0_burnAt_20)
  (sc_fop_iadd (C := C_X0_burnAt) (p1 := 22) (p3 := 27) (ec_aload_n (C := C_X0_burnAt) (i := 0) dX0_burnAt_21 rfl) dX0_burnAt_22 f_X0_28 dX0_burnAt_23 (ec_iload_n (C := C_X0_burnAt) (i := 2) dX0_burnAt_26 rfl) dX0_burnAt_27 dX0_burnAt_28)))
  (sc_vret (C := C_X0_burnAt) dX0_burnAt_31 rfl))
theorem s_X0_burnAt : MS M_X0_burnAt D_X0_burnAt := ms_of b_X0_burnAt (by decide +kernel) rfl rfl (fun _ => trivial)
/-- SmokeRoofs$Chimney.comeDown()V -/
abbrev C_X0_comeDown : CX := (cX0_comeDown, RX0, 2, 0, 0, "comeDown", none, fun _ => True)
abbrev M_X0_comeDown : MD := (yX0_comeDown, C_X0_comeDown)
theorem k_X0_comeDown : MOK M_X0_comeDown 0 := ⟨w_53, w_444, by decide +kernel, by decide +kernel, by decide +kernel⟩
theorem t_X0_comeDown : MVT M_X0_comeDown 0 0 := ⟨k_X0_comeDown, w_442, w_443, by decide, _, rfl, rfl⟩
def WB_X0_comeDown_1 : DE Bool := (e_bin (fun (x y : Int32) => decide (x < y)) (e_li 1) (e_c (36 : Int32)))
def WS_X0_comeDown_1 : SD := (s_seq (s_seq (s_fop (fun (x y : Int32) => x + y) 0 4 (e_lr 0) (e_ai (e_gr 0 1 (e_lr 0)) (e_li 1)))
  (s_as (e_gr 0 1 (e_lr 0)) (e_li 1) (e_c (0 : Int32))))
  (s_inc 1 (1)))
def W_X0_comeDown_1 : SD := s_while WB_X0_comeDown_1 WS_X0_comeDown_1 FU
set_option maxRecDepth 100000 in
set_option maxHeartbeats 4000000 in
theorem bw_X0_comeDown_1 : SC C_X0_comeDown 2 36 W_X0_comeDown_1 := by
  unfold W_X0_comeDown_1 WB_X0_comeDown_1 WS_X0_comeDown_1
  exact (sc_while (C := C_X0_comeDown) (pB := 8) (pE := 36) (bc_icmp_ge_F (C := C_X0_comeDown) (p1 := 3) (p2 := 5) (tgt := 36) (ec_iload_n (C := C_X0_comeDown) (i := 1) dX0_comeDown_2 rfl) (ec_bipush (C := C_X0_comeDown) (v := (36 : Int32)) dX0_comeDown_3 rfl) dX0_comeDown_5 rfl)
  (sc_goto (C := C_X0_comeDown) (p1 := 33) (sc_seq (C := C_X0_comeDown) (p1 := 30) (sc_seq (C := C_X0_comeDown) (p1 := 23) (sc_fop_iadd (C := C_X0_comeDown) (p1 := 9) (p3 := 19) (ec_aload_n (C := C_X0_comeDown) (i := 0) dX0_comeDown_8 rfl) dX0_comeDown_9 f_X0_25 dX0_comeDown_10 (ec_ai (C := C_X0_comeDown) (p1 := 17) (p2 := 18) (ec_gr (C := C_X0_comeDown) (p1 := 14) (ec_aload_n (C := C_X0_comeDown) (i := 0) dX0_comeDown_13 rfl) f_X0_15 dX0_comeDown_14) (ec_iload_n (C := C_X0_comeDown) (i := 1) dX0_comeDown_17 rfl) dX0_comeDown_18) dX0_comeDown_19 dX0_comeDown_20)
  (sc_as (C := C_X0_comeDown) (p1 := 27) (p2 := 28) (p3 := 29) (ec_gr (C := C_X0_comeDown) (p1 := 24) (ec_aload_n (C := C_X0_comeDown) (i := 0) dX0_comeDown_23 rfl) f_X0_15 dX0_comeDown_24) (ec_iload_n (C := C_X0_comeDown) (i := 1) dX0_comeDown_27 rfl) (ec_iconst (C := C_X0_comeDown) (v := (0 : Int32)) dX0_comeDown_28 rfl) dX0_comeDown_29))
  (sc_iinc (C := C_X0_comeDown) (v := (1)) dX0_comeDown_30 rfl (Nat.le_of_ble_eq_true rfl))) dX0_comeDown_33 rfl) FU)
def S_X0_comeDown : SD := (s_seq (s_sc 1 (s_seq (s_st Value.int 1 (e_c (0 : Int32)))
  W_X0_comeDown_1))
  s_retv)
def D_X0_comeDown : MDen := m_den 2 S_X0_comeDown
set_option maxRecDepth 100000 in
set_option maxHeartbeats 4000000 in
theorem b_X0_comeDown : SC C_X0_comeDown 0 0 S_X0_comeDown := by
  unfold S_X0_comeDown
  exact (sc_seq (C := C_X0_comeDown) (p1 := 36) (sc_sc (C := C_X0_comeDown) (sc_seq (C := C_X0_comeDown) (p1 := 2) (sc_istore_n (C := C_X0_comeDown) (p1 := 1) (i := 1) (ec_iconst (C := C_X0_comeDown) (v := (0 : Int32)) dX0_comeDown_0 rfl) dX0_comeDown_1 rfl (Nat.le_of_ble_eq_true rfl))
  bw_X0_comeDown_1))
  (sc_vret (C := C_X0_comeDown) dX0_comeDown_36 rfl))
theorem s_X0_comeDown : MS M_X0_comeDown D_X0_comeDown := ms_of b_X0_comeDown (by decide +kernel) rfl rfl (fun _ => trivial)
/-- SmokeRoofs$Chimney.cellBeside(II)I -/
abbrev C_X0_cellBeside : CX := (cX0_cellBeside, RX0, 3, 0, 0, "cellBeside", (some .int), fun _ => True)
abbrev M_X0_cellBeside : MD := (yX0_cellBeside, C_X0_cellBeside)
theorem k_X0_cellBeside : MOK M_X0_cellBeside 2 := ⟨w_53, w_453, by decide +kernel, by decide +kernel, by decide +kernel⟩
theorem t_X0_cellBeside : MST M_X0_cellBeside 2 := ⟨k_X0_cellBeside, w_452⟩
def S_X0_cellBeside : SD := (s_seq s_skip
  (s_seq (s_tab (e_li 1) (1) (4) [(32, (s_st Value.int 2 (e_b (e_bin (fun (x y : Int32) => decide (x < y)) (e_li 0) (e_c (6 : Int32)))))),
  (47, (s_st Value.int 2 (e_b (e_bin (fun (x y : Int32) => decide (x = y)) (e_rem (e_li 0) (e_c (6 : Int32))) (e_c (5 : Int32)))))),
  (64, (s_st Value.int 2 (e_b (e_bin (fun (x y : Int32) => decide (y ≤ x)) (e_li 0) (e_c (30 : Int32)))))),
  (79, (s_st Value.int 2 (e_b (e_un (fun (x : Int32) => decide (x = 0)) (e_rem (e_li 0) (e_c (6 : Int32)))))))] (s_st Value.int 2 (e_c (1 : Int32))))
  (s_ret Value.int (e_if (b_of (e_li 2)) (e_c (-1 : Int32)) (e_bin (fun (x y : Int32) => x + y) (e_li 0) (e_ai (e_c (SPB + 4)) (e_li 1)))))))
def D_X0_cellBeside : MDen := m_den 3 S_X0_cellBeside
set_option maxRecDepth 100000 in
set_option maxHeartbeats 4000000 in
theorem b_X0_cellBeside : SC C_X0_cellBeside 0 0 S_X0_cellBeside := by
  unfold S_X0_cellBeside
  exact (sc_seq (C := C_X0_cellBeside) (p1 := 0) sc_skip
  (sc_seq (C := C_X0_cellBeside) (p1 := 97) (sc_tab (C := C_X0_cellBeside) (arms := [(32, (s_st Value.int 2 (e_b (e_bin (fun (x y : Int32) => decide (x < y)) (e_li 0) (e_c (6 : Int32)))))), (47, (s_st Value.int 2 (e_b (e_bin (fun (x y : Int32) => decide (x = y)) (e_rem (e_li 0) (e_c (6 : Int32))) (e_c (5 : Int32)))))), (64, (s_st Value.int 2 (e_b (e_bin (fun (x y : Int32) => decide (y ≤ x)) (e_li 0) (e_c (30 : Int32)))))), (79, (s_st Value.int 2 (e_b (e_un (fun (x : Int32) => decide (x = 0)) (e_rem (e_li 0) (e_c (6 : Int32)))))))]) (p1 := 1) (pD := 95) (p2 := 97) (ec_iload_n (C := C_X0_cellBeside) (i := 1) dX0_cellBeside_0 rfl) dX0_cellBeside_1 rfl (sc_istore_n (C := C_X0_cellBeside) (p1 := 96) (i := 2) (ec_iconst (C := C_X0_cellBeside) (v := (1 : Int32)) dX0_cellBeside_95 rfl) dX0_cellBeside_96 rfl (Nat.le_of_ble_eq_true rfl)) rfl ⟨(sc_goto (C := C_X0_cellBeside) (p1 := 44) (sc_istore_n (C := C_X0_cellBeside) (p1 := 43) (i := 2) (ec_bm (C := C_X0_cellBeside) (pT := 38) (bc_icmp_ge_F (C := C_X0_cellBeside) (p1 := 33) (p2 := 35) (tgt := 42) (ec_iload_n (C := C_X0_cellBeside) (i := 0) dX0_cellBeside_32 rfl) (ec_bipush (C := C_X0_cellBeside) (v := (6 : Int32)) dX0_cellBeside_33 rfl) dX0_cellBeside_35 rfl) dX0_cellBeside_38 dX0_cellBeside_39 rfl dX0_cellBeside_42) dX0_cellBeside_43 rfl (Nat.le_of_ble_eq_true rfl)) dX0_cellBeside_44 rfl), ⟨(sc_goto (C := C_X0_cellBeside) (p1 := 61) (sc_istore_n (C := C_X0_cellBeside) (p1 := 60) (i := 2) (ec_bm (C := C_X0_cellBeside) (pT := 55) (bc_icmp_ne_F (C := C_X0_cellBeside) (p1 := 51) (p2 := 52) (tgt := 59) (ec_irem (C := C_X0_cellBeside) (p1 := 48) (p2 := 50) (ec_iload_n (C := C_X0_cellBeside) (i := 0) dX0_cellBeside_47 rfl) (ec_bipush (C := C_X0_cellBeside) (v := (6 : Int32)) dX0_cellBeside_48 rfl) dX0_cellBeside_50) (ec_iconst (C := C_X0_cellBeside) (v := (5 : Int32)) dX0_cellBeside_51 rfl) dX0_cellBeside_52 rfl) dX0_cellBeside_55 dX0_cellBeside_56 rfl dX0_cellBeside_59) dX0_cellBeside_60 rfl (Nat.le_of_ble_eq_true rfl)) dX0_cellBeside_61 rfl), ⟨(sc_goto (C := C_X0_cellBeside) (p1 := 76) (sc_istore_n (C := C_X0_cellBeside) (p1 := 75) (i := 2) (ec_bm (C := C_X0_cellBeside) (pT := 70) (bc_icmp_lt_F (C := C_X0_cellBeside) (p1 := 65) (p2 := 67) (tgt := 74) (ec_iload_n (C := C_X0_cellBeside) (i := 0) dX0_cellBeside_64 rfl) (ec_bipush (C := C_X0_cellBeside) (v := (30 : Int32)) dX0_cellBeside_65 rfl) dX0_cellBeside_67 rfl) dX0_cellBeside_70 dX0_cellBeside_71 rfl dX0_cellBeside_74) dX0_cellBeside_75 rfl (Nat.le_of_ble_eq_true rfl)) dX0_cellBeside_76 rfl), ⟨(sc_goto (C := C_X0_cellBeside) (p1 := 92) (sc_istore_n (C := C_X0_cellBeside) (p1 := 91) (i := 2) (ec_bm (C := C_X0_cellBeside) (pT := 86) (bc_if_ne_F (C := C_X0_cellBeside) (p2 := 83) (tgt := 90) (ec_irem (C := C_X0_cellBeside) (p1 := 80) (p2 := 82) (ec_iload_n (C := C_X0_cellBeside) (i := 0) dX0_cellBeside_79 rfl) (ec_bipush (C := C_X0_cellBeside) (v := (6 : Int32)) dX0_cellBeside_80 rfl) dX0_cellBeside_82) dX0_cellBeside_83 rfl) dX0_cellBeside_86 dX0_cellBeside_87 rfl dX0_cellBeside_90) dX0_cellBeside_91 rfl (Nat.le_of_ble_eq_true rfl)) dX0_cellBeside_92 rfl), trivial⟩⟩⟩⟩)
  (sc_iret (C := C_X0_cellBeside) (p1 := 112) (ec_if (C := C_X0_cellBeside) (pT := 101) (pF := 105) (p1 := 102) (pE := 112) (bc_of_F (C := C_X0_cellBeside) (p2 := 98) (tgt := 105) (ec_iload_n (C := C_X0_cellBeside) (i := 2) dX0_cellBeside_97 rfl) dX0_cellBeside_98 rfl) (ec_iconst (C := C_X0_cellBeside) (v := (-1 : Int32)) dX0_cellBeside_101 rfl) dX0_cellBeside_102 rfl (ec_iadd (C := C_X0_cellBeside) (p1 := 106) (p2 := 111) (ec_iload_n (C := C_X0_cellBeside) (i := 0) dX0_cellBeside_105 rfl) (ec_ai (C := C_X0_cellBeside) (p1 := 109) (p2 := 110) (ec_stN (C := C_X0_cellBeside) (i := 4) (q := st_tab[4]) rfl (by decide +kernel) dX0_cellBeside_106) (ec_iload_n (C := C_X0_cellBeside) (i := 1) dX0_cellBeside_109 rfl) dX0_cellBeside_110) dX0_cellBeside_111)) dX0_cellBeside_112 rfl)))
theorem s_X0_cellBeside : MS M_X0_cellBeside D_X0_cellBeside := ms_of b_X0_cellBeside (by decide +kernel) rfl rfl (fun _ => trivial)
