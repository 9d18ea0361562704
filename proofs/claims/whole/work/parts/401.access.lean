/-! the cells one by one (printed by wip/whole/mk401.py) -/
theorem sh_0 : shp[0]? = some (6, [some 1, some 39, none, some 77, some 80, some 81, some 82, some 86, some 90, some 91, some 92, some 93, some 94]) := by decide +kernel
theorem g_0_0 (f : FN) : gm_fld (memOf f) 0 6 0 = some (.ref 1) := fld_r f sh_0 rfl
theorem g_0_1 (f : FN) : gm_fld (memOf f) 0 6 1 = some (.ref 39) := fld_r f sh_0 rfl
theorem g_0_2 (f : FN) : gm_fld (memOf f) 0 6 2 = some (.int (f 0 2)) := fld_i f sh_0 rfl
theorem p_0_2 (f : FN) (x : Int32) : gm_pf (memOf f) 0 6 2 (.int x) = some (memOf (row f 0 (upd (f 0) 2 x))) := pf_i f sh_0 rfl
theorem g_0_3 (f : FN) : gm_fld (memOf f) 0 6 3 = some (.ref 77) := fld_r f sh_0 rfl
theorem g_0_4 (f : FN) : gm_fld (memOf f) 0 6 4 = some (.ref 80) := fld_r f sh_0 rfl
theorem g_0_5 (f : FN) : gm_fld (memOf f) 0 6 5 = some (.ref 81) := fld_r f sh_0 rfl
theorem g_0_6 (f : FN) : gm_fld (memOf f) 0 6 6 = some (.ref 82) := fld_r f sh_0 rfl
theorem g_0_7 (f : FN) : gm_fld (memOf f) 0 6 7 = some (.ref 86) := fld_r f sh_0 rfl
theorem g_0_8 (f : FN) : gm_fld (memOf f) 0 6 8 = some (.ref 90) := fld_r f sh_0 rfl
theorem g_0_9 (f : FN) : gm_fld (memOf f) 0 6 9 = some (.ref 91) := fld_r f sh_0 rfl
theorem g_0_10 (f : FN) : gm_fld (memOf f) 0 6 10 = some (.ref 92) := fld_r f sh_0 rfl
theorem g_0_11 (f : FN) : gm_fld (memOf f) 0 6 11 = some (.ref 93) := fld_r f sh_0 rfl
theorem g_0_12 (f : FN) : gm_fld (memOf f) 0 6 12 = some (.ref 94) := fld_r f sh_0 rfl
theorem rc_0 (f : FN) (vs : List Value) : recvOK 6 (.ref 0 :: vs) (memOf f) = true := recv_ok f sh_0
theorem sh_1 : shp[1]? = some (5, [none, none, none, some 2, some 3, some 4, some 5, some 6]) := by decide +kernel
theorem g_1_0 (f : FN) : gm_fld (memOf f) 1 5 0 = some (.int (f 1 0)) := fld_i f sh_1 rfl
theorem p_1_0 (f : FN) (x : Int32) : gm_pf (memOf f) 1 5 0 (.int x) = some (memOf (row f 1 (upd (f 1) 0 x))) := pf_i f sh_1 rfl
theorem g_1_1 (f : FN) : gm_fld (memOf f) 1 5 1 = some (.int (f 1 1)) := fld_i f sh_1 rfl
theorem p_1_1 (f : FN) (x : Int32) : gm_pf (memOf f) 1 5 1 (.int x) = some (memOf (row f 1 (upd (f 1) 1 x))) := pf_i f sh_1 rfl
theorem g_1_2 (f : FN) : gm_fld (memOf f) 1 5 2 = some (.int (f 1 2)) := fld_i f sh_1 rfl
theorem p_1_2 (f : FN) (x : Int32) : gm_pf (memOf f) 1 5 2 (.int x) = some (memOf (row f 1 (upd (f 1) 2 x))) := pf_i f sh_1 rfl
theorem g_1_3 (f : FN) : gm_fld (memOf f) 1 5 3 = some (.ref 2) := fld_r f sh_1 rfl
theorem g_1_4 (f : FN) : gm_fld (memOf f) 1 5 4 = some (.ref 3) := fld_r f sh_1 rfl
theorem g_1_5 (f : FN) : gm_fld (memOf f) 1 5 5 = some (.ref 4) := fld_r f sh_1 rfl
theorem g_1_6 (f : FN) : gm_fld (memOf f) 1 5 6 = some (.ref 5) := fld_r f sh_1 rfl
theorem g_1_7 (f : FN) : gm_fld (memOf f) 1 5 7 = some (.ref 6) := fld_r f sh_1 rfl
theorem rc_1 (f : FN) (vs : List Value) : recvOK 5 (.ref 1 :: vs) (memOf f) = true := recv_ok f sh_1
theorem sh_2 : shp[2]? = some (ia 36) := by decide +kernel
theorem rd_2 (f : FN) {k : Nat} (h : k < 36) : gm_rd (memOf f) 2 (nI k) = some (f 2 k) := by have e : (nI k).toNatClampNeg = k := nI_clamp (by omega); rw [rd_ia f sh_2 (nI_pos' (by omega)) (by rw [e]; exact h), e]
theorem wr_2 (f : FN) {k : Nat} (h : k < 36) (x : Int32) : gm_wr (memOf f) 2 (nI k) x = some (memOf (row f 2 (upd (f 2) k x))) := by have e : (nI k).toNatClampNeg = k := nI_clamp (by omega); rw [wr_ia f sh_2 (nI_pos' (by omega)) (by rw [e]; exact h), e]
theorem ln_2 (f : FN) : (memOf f)[2]? = some (10, sl_of (f 2) (List.replicate 36 none)) := mem_of f sh_2
theorem sh_3 : shp[3]? = some (ia 24) := by decide +kernel
theorem rd_3 (f : FN) {k : Nat} (h : k < 24) : gm_rd (memOf f) 3 (nI k) = some (f 3 k) := by have e : (nI k).toNatClampNeg = k := nI_clamp (by omega); rw [rd_ia f sh_3 (nI_pos' (by omega)) (by rw [e]; exact h), e]
theorem wr_3 (f : FN) {k : Nat} (h : k < 24) (x : Int32) : gm_wr (memOf f) 3 (nI k) x = some (memOf (row f 3 (upd (f 3) k x))) := by have e : (nI k).toNatClampNeg = k := nI_clamp (by omega); rw [wr_ia f sh_3 (nI_pos' (by omega)) (by rw [e]; exact h), e]
theorem ln_3 (f : FN) : (memOf f)[3]? = some (10, sl_of (f 3) (List.replicate 24 none)) := mem_of f sh_3
theorem sh_4 : shp[4]? = some (ia 6) := by decide +kernel
theorem rd_4 (f : FN) {k : Nat} (h : k < 6) : gm_rd (memOf f) 4 (nI k) = some (f 4 k) := by have e : (nI k).toNatClampNeg = k := nI_clamp (by omega); rw [rd_ia f sh_4 (nI_pos' (by omega)) (by rw [e]; exact h), e]
theorem wr_4 (f : FN) {k : Nat} (h : k < 6) (x : Int32) : gm_wr (memOf f) 4 (nI k) x = some (memOf (row f 4 (upd (f 4) k x))) := by have e : (nI k).toNatClampNeg = k := nI_clamp (by omega); rw [wr_ia f sh_4 (nI_pos' (by omega)) (by rw [e]; exact h), e]
theorem ln_4 (f : FN) : (memOf f)[4]? = some (10, sl_of (f 4) (List.replicate 6 none)) := mem_of f sh_4
theorem sh_5 : shp[5]? = some (ia 10) := by decide +kernel
theorem rd_5 (f : FN) {k : Nat} (h : k < 10) : gm_rd (memOf f) 5 (nI k) = some (f 5 k) := by have e : (nI k).toNatClampNeg = k := nI_clamp (by omega); rw [rd_ia f sh_5 (nI_pos' (by omega)) (by rw [e]; exact h), e]
theorem wr_5 (f : FN) {k : Nat} (h : k < 10) (x : Int32) : gm_wr (memOf f) 5 (nI k) x = some (memOf (row f 5 (upd (f 5) k x))) := by have e : (nI k).toNatClampNeg = k := nI_clamp (by omega); rw [wr_ia f sh_5 (nI_pos' (by omega)) (by rw [e]; exact h), e]
theorem ln_5 (f : FN) : (memOf f)[5]? = some (10, sl_of (f 5) (List.replicate 10 none)) := mem_of f sh_5
theorem sh_6 : shp[6]? = some (11, [some 7, some 11, some 15, some 19, some 23, some 27, some 31, some 35]) := by decide +kernel
theorem sh_39 : shp[39]? = some (5, [none, none, none, some 40, some 41, some 42, some 43, some 44]) := by decide +kernel
theorem g_39_0 (f : FN) : gm_fld (memOf f) 39 5 0 = some (.int (f 39 0)) := fld_i f sh_39 rfl
theorem p_39_0 (f : FN) (x : Int32) : gm_pf (memOf f) 39 5 0 (.int x) = some (memOf (row f 39 (upd (f 39) 0 x))) := pf_i f sh_39 rfl
theorem g_39_1 (f : FN) : gm_fld (memOf f) 39 5 1 = some (.int (f 39 1)) := fld_i f sh_39 rfl
theorem p_39_1 (f : FN) (x : Int32) : gm_pf (memOf f) 39 5 1 (.int x) = some (memOf (row f 39 (upd (f 39) 1 x))) := pf_i f sh_39 rfl
theorem g_39_2 (f : FN) : gm_fld (memOf f) 39 5 2 = some (.int (f 39 2)) := fld_i f sh_39 rfl
theorem p_39_2 (f : FN) (x : Int32) : gm_pf (memOf f) 39 5 2 (.int x) = some (memOf (row f 39 (upd (f 39) 2 x))) := pf_i f sh_39 rfl
theorem g_39_3 (f : FN) : gm_fld (memOf f) 39 5 3 = some (.ref 40) := fld_r f sh_39 rfl
theorem g_39_4 (f : FN) : gm_fld (memOf f) 39 5 4 = some (.ref 41) := fld_r f sh_39 rfl
theorem g_39_5 (f : FN) : gm_fld (memOf f) 39 5 5 = some (.ref 42) := fld_r f sh_39 rfl
theorem g_39_6 (f : FN) : gm_fld (memOf f) 39 5 6 = some (.ref 43) := fld_r f sh_39 rfl
theorem g_39_7 (f : FN) : gm_fld (memOf f) 39 5 7 = some (.ref 44) := fld_r f sh_39 rfl
theorem rc_39 (f : FN) (vs : List Value) : recvOK 5 (.ref 39 :: vs) (memOf f) = true := recv_ok f sh_39
theorem sh_40 : shp[40]? = some (ia 36) := by decide +kernel
theorem rd_40 (f : FN) {k : Nat} (h : k < 36) : gm_rd (memOf f) 40 (nI k) = some (f 40 k) := by have e : (nI k).toNatClampNeg = k := nI_clamp (by omega); rw [rd_ia f sh_40 (nI_pos' (by omega)) (by rw [e]; exact h), e]
theorem wr_40 (f : FN) {k : Nat} (h : k < 36) (x : Int32) : gm_wr (memOf f) 40 (nI k) x = some (memOf (row f 40 (upd (f 40) k x))) := by have e : (nI k).toNatClampNeg = k := nI_clamp (by omega); rw [wr_ia f sh_40 (nI_pos' (by omega)) (by rw [e]; exact h), e]
theorem ln_40 (f : FN) : (memOf f)[40]? = some (10, sl_of (f 40) (List.replicate 36 none)) := mem_of f sh_40
theorem sh_41 : shp[41]? = some (ia 24) := by decide +kernel
theorem rd_41 (f : FN) {k : Nat} (h : k < 24) : gm_rd (memOf f) 41 (nI k) = some (f 41 k) := by have e : (nI k).toNatClampNeg = k := nI_clamp (by omega); rw [rd_ia f sh_41 (nI_pos' (by omega)) (by rw [e]; exact h), e]
theorem wr_41 (f : FN) {k : Nat} (h : k < 24) (x : Int32) : gm_wr (memOf f) 41 (nI k) x = some (memOf (row f 41 (upd (f 41) k x))) := by have e : (nI k).toNatClampNeg = k := nI_clamp (by omega); rw [wr_ia f sh_41 (nI_pos' (by omega)) (by rw [e]; exact h), e]
theorem ln_41 (f : FN) : (memOf f)[41]? = some (10, sl_of (f 41) (List.replicate 24 none)) := mem_of f sh_41
theorem sh_42 : shp[42]? = some (ia 6) := by decide +kernel
theorem rd_42 (f : FN) {k : Nat} (h : k < 6) : gm_rd (memOf f) 42 (nI k) = some (f 42 k) := by have e : (nI k).toNatClampNeg = k := nI_clamp (by omega); rw [rd_ia f sh_42 (nI_pos' (by omega)) (by rw [e]; exact h), e]
theorem wr_42 (f : FN) {k : Nat} (h : k < 6) (x : Int32) : gm_wr (memOf f) 42 (nI k) x = some (memOf (row f 42 (upd (f 42) k x))) := by have e : (nI k).toNatClampNeg = k := nI_clamp (by omega); rw [wr_ia f sh_42 (nI_pos' (by omega)) (by rw [e]; exact h), e]
theorem ln_42 (f : FN) : (memOf f)[42]? = some (10, sl_of (f 42) (List.replicate 6 none)) := mem_of f sh_42
theorem sh_43 : shp[43]? = some (ia 10) := by decide +kernel
theorem rd_43 (f : FN) {k : Nat} (h : k < 10) : gm_rd (memOf f) 43 (nI k) = some (f 43 k) := by have e : (nI k).toNatClampNeg = k := nI_clamp (by omega); rw [rd_ia f sh_43 (nI_pos' (by omega)) (by rw [e]; exact h), e]
theorem wr_43 (f : FN) {k : Nat} (h : k < 10) (x : Int32) : gm_wr (memOf f) 43 (nI k) x = some (memOf (row f 43 (upd (f 43) k x))) := by have e : (nI k).toNatClampNeg = k := nI_clamp (by omega); rw [wr_ia f sh_43 (nI_pos' (by omega)) (by rw [e]; exact h), e]
theorem ln_43 (f : FN) : (memOf f)[43]? = some (10, sl_of (f 43) (List.replicate 10 none)) := mem_of f sh_43
theorem sh_44 : shp[44]? = some (11, [some 45, some 49, some 53, some 57, some 61, some 65, some 69, some 73]) := by decide +kernel
theorem sh_77 : shp[77]? = some (1, [some 78, none, none]) := by decide +kernel
theorem g_77_0 (f : FN) : gm_fld (memOf f) 77 1 0 = some (.ref 78) := fld_r f sh_77 rfl
theorem g_77_1 (f : FN) : gm_fld (memOf f) 77 1 1 = some (.int (f 77 1)) := fld_i f sh_77 rfl
theorem p_77_1 (f : FN) (x : Int32) : gm_pf (memOf f) 77 1 1 (.int x) = some (memOf (row f 77 (upd (f 77) 1 x))) := pf_i f sh_77 rfl
theorem g_77_2 (f : FN) : gm_fld (memOf f) 77 1 2 = some (.int (f 77 2)) := fld_i f sh_77 rfl
theorem p_77_2 (f : FN) (x : Int32) : gm_pf (memOf f) 77 1 2 (.int x) = some (memOf (row f 77 (upd (f 77) 2 x))) := pf_i f sh_77 rfl
theorem rc_77 (f : FN) (vs : List Value) : recvOK 1 (.ref 77 :: vs) (memOf f) = true := recv_ok f sh_77
theorem sh_78 : shp[78]? = some (4, [some 79, none, none, none, none, none]) := by decide +kernel
theorem g_78_0 (f : FN) : gm_fld (memOf f) 78 4 0 = some (.ref 79) := fld_r f sh_78 rfl
theorem g_78_1 (f : FN) : gm_fld (memOf f) 78 4 1 = some (.int (f 78 1)) := fld_i f sh_78 rfl
theorem p_78_1 (f : FN) (x : Int32) : gm_pf (memOf f) 78 4 1 (.int x) = some (memOf (row f 78 (upd (f 78) 1 x))) := pf_i f sh_78 rfl
theorem g_78_2 (f : FN) : gm_fld (memOf f) 78 4 2 = some (.int (f 78 2)) := fld_i f sh_78 rfl
theorem p_78_2 (f : FN) (x : Int32) : gm_pf (memOf f) 78 4 2 (.int x) = some (memOf (row f 78 (upd (f 78) 2 x))) := pf_i f sh_78 rfl
theorem g_78_3 (f : FN) : gm_fld (memOf f) 78 4 3 = some (.int (f 78 3)) := fld_i f sh_78 rfl
theorem p_78_3 (f : FN) (x : Int32) : gm_pf (memOf f) 78 4 3 (.int x) = some (memOf (row f 78 (upd (f 78) 3 x))) := pf_i f sh_78 rfl
theorem g_78_4 (f : FN) : gm_fld (memOf f) 78 4 4 = some (.int (f 78 4)) := fld_i f sh_78 rfl
theorem p_78_4 (f : FN) (x : Int32) : gm_pf (memOf f) 78 4 4 (.int x) = some (memOf (row f 78 (upd (f 78) 4 x))) := pf_i f sh_78 rfl
theorem g_78_5 (f : FN) : gm_fld (memOf f) 78 4 5 = some (.int (f 78 5)) := fld_i f sh_78 rfl
theorem p_78_5 (f : FN) (x : Int32) : gm_pf (memOf f) 78 4 5 (.int x) = some (memOf (row f 78 (upd (f 78) 5 x))) := pf_i f sh_78 rfl
theorem rc_78 (f : FN) (vs : List Value) : recvOK 4 (.ref 78 :: vs) (memOf f) = true := recv_ok f sh_78
theorem sh_79 : shp[79]? = some (ia 120) := by decide +kernel
theorem rd_79 (f : FN) {k : Nat} (h : k < 120) : gm_rd (memOf f) 79 (nI k) = some (f 79 k) := by have e : (nI k).toNatClampNeg = k := nI_clamp (by omega); rw [rd_ia f sh_79 (nI_pos' (by omega)) (by rw [e]; exact h), e]
theorem wr_79 (f : FN) {k : Nat} (h : k < 120) (x : Int32) : gm_wr (memOf f) 79 (nI k) x = some (memOf (row f 79 (upd (f 79) k x))) := by have e : (nI k).toNatClampNeg = k := nI_clamp (by omega); rw [wr_ia f sh_79 (nI_pos' (by omega)) (by rw [e]; exact h), e]
theorem ln_79 (f : FN) : (memOf f)[79]? = some (10, sl_of (f 79) (List.replicate 120 none)) := mem_of f sh_79
theorem sh_80 : shp[80]? = some (12, [some 95, some 97, some 99, some 101]) := by decide +kernel
theorem sh_81 : shp[81]? = some (ia 7) := by decide +kernel
theorem rd_81 (f : FN) {k : Nat} (h : k < 7) : gm_rd (memOf f) 81 (nI k) = some (f 81 k) := by have e : (nI k).toNatClampNeg = k := nI_clamp (by omega); rw [rd_ia f sh_81 (nI_pos' (by omega)) (by rw [e]; exact h), e]
theorem wr_81 (f : FN) {k : Nat} (h : k < 7) (x : Int32) : gm_wr (memOf f) 81 (nI k) x = some (memOf (row f 81 (upd (f 81) k x))) := by have e : (nI k).toNatClampNeg = k := nI_clamp (by omega); rw [wr_ia f sh_81 (nI_pos' (by omega)) (by rw [e]; exact h), e]
theorem ln_81 (f : FN) : (memOf f)[81]? = some (10, sl_of (f 81) (List.replicate 7 none)) := mem_of f sh_81
theorem sh_82 : shp[82]? = some (0, [some 83, some 84, some 85, none, none, none]) := by decide +kernel
theorem g_82_0 (f : FN) : gm_fld (memOf f) 82 0 0 = some (.ref 83) := fld_r f sh_82 rfl
theorem g_82_1 (f : FN) : gm_fld (memOf f) 82 0 1 = some (.ref 84) := fld_r f sh_82 rfl
theorem g_82_2 (f : FN) : gm_fld (memOf f) 82 0 2 = some (.ref 85) := fld_r f sh_82 rfl
theorem g_82_3 (f : FN) : gm_fld (memOf f) 82 0 3 = some (.int (f 82 3)) := fld_i f sh_82 rfl
theorem p_82_3 (f : FN) (x : Int32) : gm_pf (memOf f) 82 0 3 (.int x) = some (memOf (row f 82 (upd (f 82) 3 x))) := pf_i f sh_82 rfl
theorem g_82_4 (f : FN) : gm_fld (memOf f) 82 0 4 = some (.int (f 82 4)) := fld_i f sh_82 rfl
theorem p_82_4 (f : FN) (x : Int32) : gm_pf (memOf f) 82 0 4 (.int x) = some (memOf (row f 82 (upd (f 82) 4 x))) := pf_i f sh_82 rfl
theorem g_82_5 (f : FN) : gm_fld (memOf f) 82 0 5 = some (.int (f 82 5)) := fld_i f sh_82 rfl
theorem p_82_5 (f : FN) (x : Int32) : gm_pf (memOf f) 82 0 5 (.int x) = some (memOf (row f 82 (upd (f 82) 5 x))) := pf_i f sh_82 rfl
theorem rc_82 (f : FN) (vs : List Value) : recvOK 0 (.ref 82 :: vs) (memOf f) = true := recv_ok f sh_82
theorem sh_83 : shp[83]? = some (ia 7) := by decide +kernel
theorem rd_83 (f : FN) {k : Nat} (h : k < 7) : gm_rd (memOf f) 83 (nI k) = some (f 83 k) := by have e : (nI k).toNatClampNeg = k := nI_clamp (by omega); rw [rd_ia f sh_83 (nI_pos' (by omega)) (by rw [e]; exact h), e]
theorem wr_83 (f : FN) {k : Nat} (h : k < 7) (x : Int32) : gm_wr (memOf f) 83 (nI k) x = some (memOf (row f 83 (upd (f 83) k x))) := by have e : (nI k).toNatClampNeg = k := nI_clamp (by omega); rw [wr_ia f sh_83 (nI_pos' (by omega)) (by rw [e]; exact h), e]
theorem ln_83 (f : FN) : (memOf f)[83]? = some (10, sl_of (f 83) (List.replicate 7 none)) := mem_of f sh_83
theorem sh_84 : shp[84]? = some (ia 36) := by decide +kernel
theorem rd_84 (f : FN) {k : Nat} (h : k < 36) : gm_rd (memOf f) 84 (nI k) = some (f 84 k) := by have e : (nI k).toNatClampNeg = k := nI_clamp (by omega); rw [rd_ia f sh_84 (nI_pos' (by omega)) (by rw [e]; exact h), e]
theorem wr_84 (f : FN) {k : Nat} (h : k < 36) (x : Int32) : gm_wr (memOf f) 84 (nI k) x = some (memOf (row f 84 (upd (f 84) k x))) := by have e : (nI k).toNatClampNeg = k := nI_clamp (by omega); rw [wr_ia f sh_84 (nI_pos' (by omega)) (by rw [e]; exact h), e]
theorem ln_84 (f : FN) : (memOf f)[84]? = some (10, sl_of (f 84) (List.replicate 36 none)) := mem_of f sh_84
theorem sh_85 : shp[85]? = some (ia 36) := by decide +kernel
theorem rd_85 (f : FN) {k : Nat} (h : k < 36) : gm_rd (memOf f) 85 (nI k) = some (f 85 k) := by have e : (nI k).toNatClampNeg = k := nI_clamp (by omega); rw [rd_ia f sh_85 (nI_pos' (by omega)) (by rw [e]; exact h), e]
theorem wr_85 (f : FN) {k : Nat} (h : k < 36) (x : Int32) : gm_wr (memOf f) 85 (nI k) x = some (memOf (row f 85 (upd (f 85) k x))) := by have e : (nI k).toNatClampNeg = k := nI_clamp (by omega); rw [wr_ia f sh_85 (nI_pos' (by omega)) (by rw [e]; exact h), e]
theorem ln_85 (f : FN) : (memOf f)[85]? = some (10, sl_of (f 85) (List.replicate 36 none)) := mem_of f sh_85
theorem sh_86 : shp[86]? = some (3, [none, some 87, some 88, some 89]) := by decide +kernel
theorem g_86_0 (f : FN) : gm_fld (memOf f) 86 3 0 = some (.int (f 86 0)) := fld_i f sh_86 rfl
theorem p_86_0 (f : FN) (x : Int32) : gm_pf (memOf f) 86 3 0 (.int x) = some (memOf (row f 86 (upd (f 86) 0 x))) := pf_i f sh_86 rfl
theorem g_86_1 (f : FN) : gm_fld (memOf f) 86 3 1 = some (.ref 87) := fld_r f sh_86 rfl
theorem g_86_2 (f : FN) : gm_fld (memOf f) 86 3 2 = some (.ref 88) := fld_r f sh_86 rfl
theorem g_86_3 (f : FN) : gm_fld (memOf f) 86 3 3 = some (.ref 89) := fld_r f sh_86 rfl
theorem rc_86 (f : FN) (vs : List Value) : recvOK 3 (.ref 86 :: vs) (memOf f) = true := recv_ok f sh_86
theorem sh_87 : shp[87]? = some (ia 6) := by decide +kernel
theorem rd_87 (f : FN) {k : Nat} (h : k < 6) : gm_rd (memOf f) 87 (nI k) = some (f 87 k) := by have e : (nI k).toNatClampNeg = k := nI_clamp (by omega); rw [rd_ia f sh_87 (nI_pos' (by omega)) (by rw [e]; exact h), e]
theorem wr_87 (f : FN) {k : Nat} (h : k < 6) (x : Int32) : gm_wr (memOf f) 87 (nI k) x = some (memOf (row f 87 (upd (f 87) k x))) := by have e : (nI k).toNatClampNeg = k := nI_clamp (by omega); rw [wr_ia f sh_87 (nI_pos' (by omega)) (by rw [e]; exact h), e]
theorem ln_87 (f : FN) : (memOf f)[87]? = some (10, sl_of (f 87) (List.replicate 6 none)) := mem_of f sh_87
theorem sh_88 : shp[88]? = some (ia 6) := by decide +kernel
theorem rd_88 (f : FN) {k : Nat} (h : k < 6) : gm_rd (memOf f) 88 (nI k) = some (f 88 k) := by have e : (nI k).toNatClampNeg = k := nI_clamp (by omega); rw [rd_ia f sh_88 (nI_pos' (by omega)) (by rw [e]; exact h), e]
theorem wr_88 (f : FN) {k : Nat} (h : k < 6) (x : Int32) : gm_wr (memOf f) 88 (nI k) x = some (memOf (row f 88 (upd (f 88) k x))) := by have e : (nI k).toNatClampNeg = k := nI_clamp (by omega); rw [wr_ia f sh_88 (nI_pos' (by omega)) (by rw [e]; exact h), e]
theorem ln_88 (f : FN) : (memOf f)[88]? = some (10, sl_of (f 88) (List.replicate 6 none)) := mem_of f sh_88
theorem sh_89 : shp[89]? = some (ia 6) := by decide +kernel
theorem rd_89 (f : FN) {k : Nat} (h : k < 6) : gm_rd (memOf f) 89 (nI k) = some (f 89 k) := by have e : (nI k).toNatClampNeg = k := nI_clamp (by omega); rw [rd_ia f sh_89 (nI_pos' (by omega)) (by rw [e]; exact h), e]
theorem wr_89 (f : FN) {k : Nat} (h : k < 6) (x : Int32) : gm_wr (memOf f) 89 (nI k) x = some (memOf (row f 89 (upd (f 89) k x))) := by have e : (nI k).toNatClampNeg = k := nI_clamp (by omega); rw [wr_ia f sh_89 (nI_pos' (by omega)) (by rw [e]; exact h), e]
theorem ln_89 (f : FN) : (memOf f)[89]? = some (10, sl_of (f 89) (List.replicate 6 none)) := mem_of f sh_89
theorem sh_90 : shp[90]? = some (ia 6) := by decide +kernel
theorem rd_90 (f : FN) {k : Nat} (h : k < 6) : gm_rd (memOf f) 90 (nI k) = some (f 90 k) := by have e : (nI k).toNatClampNeg = k := nI_clamp (by omega); rw [rd_ia f sh_90 (nI_pos' (by omega)) (by rw [e]; exact h), e]
theorem wr_90 (f : FN) {k : Nat} (h : k < 6) (x : Int32) : gm_wr (memOf f) 90 (nI k) x = some (memOf (row f 90 (upd (f 90) k x))) := by have e : (nI k).toNatClampNeg = k := nI_clamp (by omega); rw [wr_ia f sh_90 (nI_pos' (by omega)) (by rw [e]; exact h), e]
theorem ln_90 (f : FN) : (memOf f)[90]? = some (10, sl_of (f 90) (List.replicate 6 none)) := mem_of f sh_90
theorem sh_91 : shp[91]? = some (ia 8) := by decide +kernel
theorem rd_91 (f : FN) {k : Nat} (h : k < 8) : gm_rd (memOf f) 91 (nI k) = some (f 91 k) := by have e : (nI k).toNatClampNeg = k := nI_clamp (by omega); rw [rd_ia f sh_91 (nI_pos' (by omega)) (by rw [e]; exact h), e]
theorem wr_91 (f : FN) {k : Nat} (h : k < 8) (x : Int32) : gm_wr (memOf f) 91 (nI k) x = some (memOf (row f 91 (upd (f 91) k x))) := by have e : (nI k).toNatClampNeg = k := nI_clamp (by omega); rw [wr_ia f sh_91 (nI_pos' (by omega)) (by rw [e]; exact h), e]
theorem ln_91 (f : FN) : (memOf f)[91]? = some (10, sl_of (f 91) (List.replicate 8 none)) := mem_of f sh_91
theorem sh_92 : shp[92]? = some (ia 8) := by decide +kernel
theorem rd_92 (f : FN) {k : Nat} (h : k < 8) : gm_rd (memOf f) 92 (nI k) = some (f 92 k) := by have e : (nI k).toNatClampNeg = k := nI_clamp (by omega); rw [rd_ia f sh_92 (nI_pos' (by omega)) (by rw [e]; exact h), e]
theorem wr_92 (f : FN) {k : Nat} (h : k < 8) (x : Int32) : gm_wr (memOf f) 92 (nI k) x = some (memOf (row f 92 (upd (f 92) k x))) := by have e : (nI k).toNatClampNeg = k := nI_clamp (by omega); rw [wr_ia f sh_92 (nI_pos' (by omega)) (by rw [e]; exact h), e]
theorem ln_92 (f : FN) : (memOf f)[92]? = some (10, sl_of (f 92) (List.replicate 8 none)) := mem_of f sh_92
theorem sh_93 : shp[93]? = some (ia 40) := by decide +kernel
theorem rd_93 (f : FN) {k : Nat} (h : k < 40) : gm_rd (memOf f) 93 (nI k) = some (f 93 k) := by have e : (nI k).toNatClampNeg = k := nI_clamp (by omega); rw [rd_ia f sh_93 (nI_pos' (by omega)) (by rw [e]; exact h), e]
theorem wr_93 (f : FN) {k : Nat} (h : k < 40) (x : Int32) : gm_wr (memOf f) 93 (nI k) x = some (memOf (row f 93 (upd (f 93) k x))) := by have e : (nI k).toNatClampNeg = k := nI_clamp (by omega); rw [wr_ia f sh_93 (nI_pos' (by omega)) (by rw [e]; exact h), e]
theorem ln_93 (f : FN) : (memOf f)[93]? = some (10, sl_of (f 93) (List.replicate 40 none)) := mem_of f sh_93
theorem sh_94 : shp[94]? = some (ia 36) := by decide +kernel
theorem rd_94 (f : FN) {k : Nat} (h : k < 36) : gm_rd (memOf f) 94 (nI k) = some (f 94 k) := by have e : (nI k).toNatClampNeg = k := nI_clamp (by omega); rw [rd_ia f sh_94 (nI_pos' (by omega)) (by rw [e]; exact h), e]
theorem wr_94 (f : FN) {k : Nat} (h : k < 36) (x : Int32) : gm_wr (memOf f) 94 (nI k) x = some (memOf (row f 94 (upd (f 94) k x))) := by have e : (nI k).toNatClampNeg = k := nI_clamp (by omega); rw [wr_ia f sh_94 (nI_pos' (by omega)) (by rw [e]; exact h), e]
theorem ln_94 (f : FN) : (memOf f)[94]? = some (10, sl_of (f 94) (List.replicate 36 none)) := mem_of f sh_94
theorem sh_95 : shp[95]? = some (2, [none, none, some 96]) := by decide +kernel
theorem g_95_0 (f : FN) : gm_fld (memOf f) 95 2 0 = some (.int (f 95 0)) := fld_i f sh_95 rfl
theorem p_95_0 (f : FN) (x : Int32) : gm_pf (memOf f) 95 2 0 (.int x) = some (memOf (row f 95 (upd (f 95) 0 x))) := pf_i f sh_95 rfl
theorem g_95_1 (f : FN) : gm_fld (memOf f) 95 2 1 = some (.int (f 95 1)) := fld_i f sh_95 rfl
theorem p_95_1 (f : FN) (x : Int32) : gm_pf (memOf f) 95 2 1 (.int x) = some (memOf (row f 95 (upd (f 95) 1 x))) := pf_i f sh_95 rfl
theorem g_95_2 (f : FN) : gm_fld (memOf f) 95 2 2 = some (.ref 96) := fld_r f sh_95 rfl
theorem rc_95 (f : FN) (vs : List Value) : recvOK 2 (.ref 95 :: vs) (memOf f) = true := recv_ok f sh_95
theorem sh_96 : shp[96]? = some (ia 40) := by decide +kernel
theorem rd_96 (f : FN) {k : Nat} (h : k < 40) : gm_rd (memOf f) 96 (nI k) = some (f 96 k) := by have e : (nI k).toNatClampNeg = k := nI_clamp (by omega); rw [rd_ia f sh_96 (nI_pos' (by omega)) (by rw [e]; exact h), e]
theorem wr_96 (f : FN) {k : Nat} (h : k < 40) (x : Int32) : gm_wr (memOf f) 96 (nI k) x = some (memOf (row f 96 (upd (f 96) k x))) := by have e : (nI k).toNatClampNeg = k := nI_clamp (by omega); rw [wr_ia f sh_96 (nI_pos' (by omega)) (by rw [e]; exact h), e]
theorem ln_96 (f : FN) : (memOf f)[96]? = some (10, sl_of (f 96) (List.replicate 40 none)) := mem_of f sh_96
theorem sh_97 : shp[97]? = some (2, [none, none, some 98]) := by decide +kernel
theorem g_97_0 (f : FN) : gm_fld (memOf f) 97 2 0 = some (.int (f 97 0)) := fld_i f sh_97 rfl
theorem p_97_0 (f : FN) (x : Int32) : gm_pf (memOf f) 97 2 0 (.int x) = some (memOf (row f 97 (upd (f 97) 0 x))) := pf_i f sh_97 rfl
theorem g_97_1 (f : FN) : gm_fld (memOf f) 97 2 1 = some (.int (f 97 1)) := fld_i f sh_97 rfl
theorem p_97_1 (f : FN) (x : Int32) : gm_pf (memOf f) 97 2 1 (.int x) = some (memOf (row f 97 (upd (f 97) 1 x))) := pf_i f sh_97 rfl
theorem g_97_2 (f : FN) : gm_fld (memOf f) 97 2 2 = some (.ref 98) := fld_r f sh_97 rfl
theorem rc_97 (f : FN) (vs : List Value) : recvOK 2 (.ref 97 :: vs) (memOf f) = true := recv_ok f sh_97
theorem sh_98 : shp[98]? = some (ia 40) := by decide +kernel
theorem rd_98 (f : FN) {k : Nat} (h : k < 40) : gm_rd (memOf f) 98 (nI k) = some (f 98 k) := by have e : (nI k).toNatClampNeg = k := nI_clamp (by omega); rw [rd_ia f sh_98 (nI_pos' (by omega)) (by rw [e]; exact h), e]
theorem wr_98 (f : FN) {k : Nat} (h : k < 40) (x : Int32) : gm_wr (memOf f) 98 (nI k) x = some (memOf (row f 98 (upd (f 98) k x))) := by have e : (nI k).toNatClampNeg = k := nI_clamp (by omega); rw [wr_ia f sh_98 (nI_pos' (by omega)) (by rw [e]; exact h), e]
theorem ln_98 (f : FN) : (memOf f)[98]? = some (10, sl_of (f 98) (List.replicate 40 none)) := mem_of f sh_98
theorem sh_99 : shp[99]? = some (2, [none, none, some 100]) := by decide +kernel
theorem g_99_0 (f : FN) : gm_fld (memOf f) 99 2 0 = some (.int (f 99 0)) := fld_i f sh_99 rfl
theorem p_99_0 (f : FN) (x : Int32) : gm_pf (memOf f) 99 2 0 (.int x) = some (memOf (row f 99 (upd (f 99) 0 x))) := pf_i f sh_99 rfl
theorem g_99_1 (f : FN) : gm_fld (memOf f) 99 2 1 = some (.int (f 99 1)) := fld_i f sh_99 rfl
theorem p_99_1 (f : FN) (x : Int32) : gm_pf (memOf f) 99 2 1 (.int x) = some (memOf (row f 99 (upd (f 99) 1 x))) := pf_i f sh_99 rfl
theorem g_99_2 (f : FN) : gm_fld (memOf f) 99 2 2 = some (.ref 100) := fld_r f sh_99 rfl
theorem rc_99 (f : FN) (vs : List Value) : recvOK 2 (.ref 99 :: vs) (memOf f) = true := recv_ok f sh_99
theorem sh_100 : shp[100]? = some (ia 40) := by decide +kernel
theorem rd_100 (f : FN) {k : Nat} (h : k < 40) : gm_rd (memOf f) 100 (nI k) = some (f 100 k) := by have e : (nI k).toNatClampNeg = k := nI_clamp (by omega); rw [rd_ia f sh_100 (nI_pos' (by omega)) (by rw [e]; exact h), e]
theorem wr_100 (f : FN) {k : Nat} (h : k < 40) (x : Int32) : gm_wr (memOf f) 100 (nI k) x = some (memOf (row f 100 (upd (f 100) k x))) := by have e : (nI k).toNatClampNeg = k := nI_clamp (by omega); rw [wr_ia f sh_100 (nI_pos' (by omega)) (by rw [e]; exact h), e]
theorem ln_100 (f : FN) : (memOf f)[100]? = some (10, sl_of (f 100) (List.replicate 40 none)) := mem_of f sh_100
theorem sh_101 : shp[101]? = some (2, [none, none, some 102]) := by decide +kernel
theorem g_101_0 (f : FN) : gm_fld (memOf f) 101 2 0 = some (.int (f 101 0)) := fld_i f sh_101 rfl
theorem p_101_0 (f : FN) (x : Int32) : gm_pf (memOf f) 101 2 0 (.int x) = some (memOf (row f 101 (upd (f 101) 0 x))) := pf_i f sh_101 rfl
theorem g_101_1 (f : FN) : gm_fld (memOf f) 101 2 1 = some (.int (f 101 1)) := fld_i f sh_101 rfl
theorem p_101_1 (f : FN) (x : Int32) : gm_pf (memOf f) 101 2 1 (.int x) = some (memOf (row f 101 (upd (f 101) 1 x))) := pf_i f sh_101 rfl
theorem g_101_2 (f : FN) : gm_fld (memOf f) 101 2 2 = some (.ref 102) := fld_r f sh_101 rfl
theorem rc_101 (f : FN) (vs : List Value) : recvOK 2 (.ref 101 :: vs) (memOf f) = true := recv_ok f sh_101
theorem sh_102 : shp[102]? = some (ia 40) := by decide +kernel
theorem rd_102 (f : FN) {k : Nat} (h : k < 40) : gm_rd (memOf f) 102 (nI k) = some (f 102 k) := by have e : (nI k).toNatClampNeg = k := nI_clamp (by omega); rw [rd_ia f sh_102 (nI_pos' (by omega)) (by rw [e]; exact h), e]
theorem wr_102 (f : FN) {k : Nat} (h : k < 40) (x : Int32) : gm_wr (memOf f) 102 (nI k) x = some (memOf (row f 102 (upd (f 102) k x))) := by have e : (nI k).toNatClampNeg = k := nI_clamp (by omega); rw [wr_ia f sh_102 (nI_pos' (by omega)) (by rw [e]; exact h), e]
theorem ln_102 (f : FN) : (memOf f)[102]? = some (10, sl_of (f 102) (List.replicate 40 none)) := mem_of f sh_102
theorem sh_103 : shp[103]? = some (7, [some 104, some 105, some 106, some 107, none, some 108, some 109, none, none, none, some 110, some 111, none, none, none, none, none, some 112, some 113, some 114, some 115]) := by decide +kernel
theorem g_103_0 (f : FN) : gm_fld (memOf f) 103 7 0 = some (.ref 104) := fld_r f sh_103 rfl
theorem g_103_1 (f : FN) : gm_fld (memOf f) 103 7 1 = some (.ref 105) := fld_r f sh_103 rfl
theorem g_103_2 (f : FN) : gm_fld (memOf f) 103 7 2 = some (.ref 106) := fld_r f sh_103 rfl
theorem g_103_3 (f : FN) : gm_fld (memOf f) 103 7 3 = some (.ref 107) := fld_r f sh_103 rfl
theorem g_103_4 (f : FN) : gm_fld (memOf f) 103 7 4 = some (.int (f 103 4)) := fld_i f sh_103 rfl
theorem p_103_4 (f : FN) (x : Int32) : gm_pf (memOf f) 103 7 4 (.int x) = some (memOf (row f 103 (upd (f 103) 4 x))) := pf_i f sh_103 rfl
theorem g_103_5 (f : FN) : gm_fld (memOf f) 103 7 5 = some (.ref 108) := fld_r f sh_103 rfl
theorem g_103_6 (f : FN) : gm_fld (memOf f) 103 7 6 = some (.ref 109) := fld_r f sh_103 rfl
theorem g_103_7 (f : FN) : gm_fld (memOf f) 103 7 7 = some (.int (f 103 7)) := fld_i f sh_103 rfl
theorem p_103_7 (f : FN) (x : Int32) : gm_pf (memOf f) 103 7 7 (.int x) = some (memOf (row f 103 (upd (f 103) 7 x))) := pf_i f sh_103 rfl
theorem g_103_8 (f : FN) : gm_fld (memOf f) 103 7 8 = some (.int (f 103 8)) := fld_i f sh_103 rfl
theorem p_103_8 (f : FN) (x : Int32) : gm_pf (memOf f) 103 7 8 (.int x) = some (memOf (row f 103 (upd (f 103) 8 x))) := pf_i f sh_103 rfl
theorem g_103_9 (f : FN) : gm_fld (memOf f) 103 7 9 = some (.int (f 103 9)) := fld_i f sh_103 rfl
theorem p_103_9 (f : FN) (x : Int32) : gm_pf (memOf f) 103 7 9 (.int x) = some (memOf (row f 103 (upd (f 103) 9 x))) := pf_i f sh_103 rfl
theorem g_103_10 (f : FN) : gm_fld (memOf f) 103 7 10 = some (.ref 110) := fld_r f sh_103 rfl
theorem g_103_11 (f : FN) : gm_fld (memOf f) 103 7 11 = some (.ref 111) := fld_r f sh_103 rfl
theorem g_103_12 (f : FN) : gm_fld (memOf f) 103 7 12 = some (.int (f 103 12)) := fld_i f sh_103 rfl
theorem p_103_12 (f : FN) (x : Int32) : gm_pf (memOf f) 103 7 12 (.int x) = some (memOf (row f 103 (upd (f 103) 12 x))) := pf_i f sh_103 rfl
theorem g_103_13 (f : FN) : gm_fld (memOf f) 103 7 13 = some (.int (f 103 13)) := fld_i f sh_103 rfl
theorem p_103_13 (f : FN) (x : Int32) : gm_pf (memOf f) 103 7 13 (.int x) = some (memOf (row f 103 (upd (f 103) 13 x))) := pf_i f sh_103 rfl
theorem g_103_14 (f : FN) : gm_fld (memOf f) 103 7 14 = some (.int (f 103 14)) := fld_i f sh_103 rfl
theorem p_103_14 (f : FN) (x : Int32) : gm_pf (memOf f) 103 7 14 (.int x) = some (memOf (row f 103 (upd (f 103) 14 x))) := pf_i f sh_103 rfl
theorem g_103_15 (f : FN) : gm_fld (memOf f) 103 7 15 = some (.int (f 103 15)) := fld_i f sh_103 rfl
theorem p_103_15 (f : FN) (x : Int32) : gm_pf (memOf f) 103 7 15 (.int x) = some (memOf (row f 103 (upd (f 103) 15 x))) := pf_i f sh_103 rfl
theorem g_103_16 (f : FN) : gm_fld (memOf f) 103 7 16 = some (.int (f 103 16)) := fld_i f sh_103 rfl
theorem p_103_16 (f : FN) (x : Int32) : gm_pf (memOf f) 103 7 16 (.int x) = some (memOf (row f 103 (upd (f 103) 16 x))) := pf_i f sh_103 rfl
theorem g_103_17 (f : FN) : gm_fld (memOf f) 103 7 17 = some (.ref 112) := fld_r f sh_103 rfl
theorem g_103_18 (f : FN) : gm_fld (memOf f) 103 7 18 = some (.ref 113) := fld_r f sh_103 rfl
theorem g_103_19 (f : FN) : gm_fld (memOf f) 103 7 19 = some (.ref 114) := fld_r f sh_103 rfl
theorem g_103_20 (f : FN) : gm_fld (memOf f) 103 7 20 = some (.ref 115) := fld_r f sh_103 rfl
theorem rc_103 (f : FN) (vs : List Value) : recvOK 7 (.ref 103 :: vs) (memOf f) = true := recv_ok f sh_103
theorem sh_104 : shp[104]? = some (ia 735) := by decide +kernel
theorem rd_104 (f : FN) {k : Nat} (h : k < 735) : gm_rd (memOf f) 104 (nI k) = some (f 104 k) := by have e : (nI k).toNatClampNeg = k := nI_clamp (by omega); rw [rd_ia f sh_104 (nI_pos' (by omega)) (by rw [e]; exact h), e]
theorem wr_104 (f : FN) {k : Nat} (h : k < 735) (x : Int32) : gm_wr (memOf f) 104 (nI k) x = some (memOf (row f 104 (upd (f 104) k x))) := by have e : (nI k).toNatClampNeg = k := nI_clamp (by omega); rw [wr_ia f sh_104 (nI_pos' (by omega)) (by rw [e]; exact h), e]
theorem ln_104 (f : FN) : (memOf f)[104]? = some (10, sl_of (f 104) (List.replicate 735 none)) := mem_of f sh_104
theorem sh_105 : shp[105]? = some (ia 735) := by decide +kernel
theorem rd_105 (f : FN) {k : Nat} (h : k < 735) : gm_rd (memOf f) 105 (nI k) = some (f 105 k) := by have e : (nI k).toNatClampNeg = k := nI_clamp (by omega); rw [rd_ia f sh_105 (nI_pos' (by omega)) (by rw [e]; exact h), e]
theorem wr_105 (f : FN) {k : Nat} (h : k < 735) (x : Int32) : gm_wr (memOf f) 105 (nI k) x = some (memOf (row f 105 (upd (f 105) k x))) := by have e : (nI k).toNatClampNeg = k := nI_clamp (by omega); rw [wr_ia f sh_105 (nI_pos' (by omega)) (by rw [e]; exact h), e]
theorem ln_105 (f : FN) : (memOf f)[105]? = some (10, sl_of (f 105) (List.replicate 735 none)) := mem_of f sh_105
theorem sh_106 : shp[106]? = some (ia 735) := by decide +kernel
theorem rd_106 (f : FN) {k : Nat} (h : k < 735) : gm_rd (memOf f) 106 (nI k) = some (f 106 k) := by have e : (nI k).toNatClampNeg = k := nI_clamp (by omega); rw [rd_ia f sh_106 (nI_pos' (by omega)) (by rw [e]; exact h), e]
theorem wr_106 (f : FN) {k : Nat} (h : k < 735) (x : Int32) : gm_wr (memOf f) 106 (nI k) x = some (memOf (row f 106 (upd (f 106) k x))) := by have e : (nI k).toNatClampNeg = k := nI_clamp (by omega); rw [wr_ia f sh_106 (nI_pos' (by omega)) (by rw [e]; exact h), e]
theorem ln_106 (f : FN) : (memOf f)[106]? = some (10, sl_of (f 106) (List.replicate 735 none)) := mem_of f sh_106
theorem sh_107 : shp[107]? = some (ia 7) := by decide +kernel
theorem rd_107 (f : FN) {k : Nat} (h : k < 7) : gm_rd (memOf f) 107 (nI k) = some (f 107 k) := by have e : (nI k).toNatClampNeg = k := nI_clamp (by omega); rw [rd_ia f sh_107 (nI_pos' (by omega)) (by rw [e]; exact h), e]
theorem wr_107 (f : FN) {k : Nat} (h : k < 7) (x : Int32) : gm_wr (memOf f) 107 (nI k) x = some (memOf (row f 107 (upd (f 107) k x))) := by have e : (nI k).toNatClampNeg = k := nI_clamp (by omega); rw [wr_ia f sh_107 (nI_pos' (by omega)) (by rw [e]; exact h), e]
theorem ln_107 (f : FN) : (memOf f)[107]? = some (10, sl_of (f 107) (List.replicate 7 none)) := mem_of f sh_107
theorem sh_108 : shp[108]? = some (ia 36) := by decide +kernel
theorem rd_108 (f : FN) {k : Nat} (h : k < 36) : gm_rd (memOf f) 108 (nI k) = some (f 108 k) := by have e : (nI k).toNatClampNeg = k := nI_clamp (by omega); rw [rd_ia f sh_108 (nI_pos' (by omega)) (by rw [e]; exact h), e]
theorem wr_108 (f : FN) {k : Nat} (h : k < 36) (x : Int32) : gm_wr (memOf f) 108 (nI k) x = some (memOf (row f 108 (upd (f 108) k x))) := by have e : (nI k).toNatClampNeg = k := nI_clamp (by omega); rw [wr_ia f sh_108 (nI_pos' (by omega)) (by rw [e]; exact h), e]
theorem ln_108 (f : FN) : (memOf f)[108]? = some (10, sl_of (f 108) (List.replicate 36 none)) := mem_of f sh_108
theorem sh_109 : shp[109]? = some (ia 6) := by decide +kernel
theorem rd_109 (f : FN) {k : Nat} (h : k < 6) : gm_rd (memOf f) 109 (nI k) = some (f 109 k) := by have e : (nI k).toNatClampNeg = k := nI_clamp (by omega); rw [rd_ia f sh_109 (nI_pos' (by omega)) (by rw [e]; exact h), e]
theorem wr_109 (f : FN) {k : Nat} (h : k < 6) (x : Int32) : gm_wr (memOf f) 109 (nI k) x = some (memOf (row f 109 (upd (f 109) k x))) := by have e : (nI k).toNatClampNeg = k := nI_clamp (by omega); rw [wr_ia f sh_109 (nI_pos' (by omega)) (by rw [e]; exact h), e]
theorem ln_109 (f : FN) : (memOf f)[109]? = some (10, sl_of (f 109) (List.replicate 6 none)) := mem_of f sh_109
theorem sh_110 : shp[110]? = some (ia 6) := by decide +kernel
theorem rd_110 (f : FN) {k : Nat} (h : k < 6) : gm_rd (memOf f) 110 (nI k) = some (f 110 k) := by have e : (nI k).toNatClampNeg = k := nI_clamp (by omega); rw [rd_ia f sh_110 (nI_pos' (by omega)) (by rw [e]; exact h), e]
theorem wr_110 (f : FN) {k : Nat} (h : k < 6) (x : Int32) : gm_wr (memOf f) 110 (nI k) x = some (memOf (row f 110 (upd (f 110) k x))) := by have e : (nI k).toNatClampNeg = k := nI_clamp (by omega); rw [wr_ia f sh_110 (nI_pos' (by omega)) (by rw [e]; exact h), e]
theorem ln_110 (f : FN) : (memOf f)[110]? = some (10, sl_of (f 110) (List.replicate 6 none)) := mem_of f sh_110
theorem sh_111 : shp[111]? = some (ia 120) := by decide +kernel
theorem rd_111 (f : FN) {k : Nat} (h : k < 120) : gm_rd (memOf f) 111 (nI k) = some (f 111 k) := by have e : (nI k).toNatClampNeg = k := nI_clamp (by omega); rw [rd_ia f sh_111 (nI_pos' (by omega)) (by rw [e]; exact h), e]
theorem wr_111 (f : FN) {k : Nat} (h : k < 120) (x : Int32) : gm_wr (memOf f) 111 (nI k) x = some (memOf (row f 111 (upd (f 111) k x))) := by have e : (nI k).toNatClampNeg = k := nI_clamp (by omega); rw [wr_ia f sh_111 (nI_pos' (by omega)) (by rw [e]; exact h), e]
theorem ln_111 (f : FN) : (memOf f)[111]? = some (10, sl_of (f 111) (List.replicate 120 none)) := mem_of f sh_111
theorem sh_112 : shp[112]? = some (ia 4) := by decide +kernel
theorem rd_112 (f : FN) {k : Nat} (h : k < 4) : gm_rd (memOf f) 112 (nI k) = some (f 112 k) := by have e : (nI k).toNatClampNeg = k := nI_clamp (by omega); rw [rd_ia f sh_112 (nI_pos' (by omega)) (by rw [e]; exact h), e]
theorem wr_112 (f : FN) {k : Nat} (h : k < 4) (x : Int32) : gm_wr (memOf f) 112 (nI k) x = some (memOf (row f 112 (upd (f 112) k x))) := by have e : (nI k).toNatClampNeg = k := nI_clamp (by omega); rw [wr_ia f sh_112 (nI_pos' (by omega)) (by rw [e]; exact h), e]
theorem ln_112 (f : FN) : (memOf f)[112]? = some (10, sl_of (f 112) (List.replicate 4 none)) := mem_of f sh_112
theorem sh_113 : shp[113]? = some (ia 4) := by decide +kernel
theorem rd_113 (f : FN) {k : Nat} (h : k < 4) : gm_rd (memOf f) 113 (nI k) = some (f 113 k) := by have e : (nI k).toNatClampNeg = k := nI_clamp (by omega); rw [rd_ia f sh_113 (nI_pos' (by omega)) (by rw [e]; exact h), e]
theorem wr_113 (f : FN) {k : Nat} (h : k < 4) (x : Int32) : gm_wr (memOf f) 113 (nI k) x = some (memOf (row f 113 (upd (f 113) k x))) := by have e : (nI k).toNatClampNeg = k := nI_clamp (by omega); rw [wr_ia f sh_113 (nI_pos' (by omega)) (by rw [e]; exact h), e]
theorem ln_113 (f : FN) : (memOf f)[113]? = some (10, sl_of (f 113) (List.replicate 4 none)) := mem_of f sh_113
theorem sh_114 : shp[114]? = some (ia 160) := by decide +kernel
theorem rd_114 (f : FN) {k : Nat} (h : k < 160) : gm_rd (memOf f) 114 (nI k) = some (f 114 k) := by have e : (nI k).toNatClampNeg = k := nI_clamp (by omega); rw [rd_ia f sh_114 (nI_pos' (by omega)) (by rw [e]; exact h), e]
theorem wr_114 (f : FN) {k : Nat} (h : k < 160) (x : Int32) : gm_wr (memOf f) 114 (nI k) x = some (memOf (row f 114 (upd (f 114) k x))) := by have e : (nI k).toNatClampNeg = k := nI_clamp (by omega); rw [wr_ia f sh_114 (nI_pos' (by omega)) (by rw [e]; exact h), e]
theorem ln_114 (f : FN) : (memOf f)[114]? = some (10, sl_of (f 114) (List.replicate 160 none)) := mem_of f sh_114
theorem sh_115 : shp[115]? = some (ia 40) := by decide +kernel
theorem rd_115 (f : FN) {k : Nat} (h : k < 40) : gm_rd (memOf f) 115 (nI k) = some (f 115 k) := by have e : (nI k).toNatClampNeg = k := nI_clamp (by omega); rw [rd_ia f sh_115 (nI_pos' (by omega)) (by rw [e]; exact h), e]
theorem wr_115 (f : FN) {k : Nat} (h : k < 40) (x : Int32) : gm_wr (memOf f) 115 (nI k) x = some (memOf (row f 115 (upd (f 115) k x))) := by have e : (nI k).toNatClampNeg = k := nI_clamp (by omega); rw [wr_ia f sh_115 (nI_pos' (by omega)) (by rw [e]; exact h), e]
theorem ln_115 (f : FN) : (memOf f)[115]? = some (10, sl_of (f 115) (List.replicate 40 none)) := mem_of f sh_115
/-- chimney c of the town at b -/
def chId (b c : Nat) : Nat := b + 6 + 4 * c
theorem sh_chi0 : ∀ c, c < 8 → shp[chId 1 c]? = some (0, [some (chId 1 c + 1), some (chId 1 c + 2), some (chId 1 c + 3), none, none, none]) := by decide +kernel
theorem sh_chi1 : ∀ c, c < 8 → shp[chId 1 c + 1]? = some (ia 7) := by decide +kernel
theorem sh_chi2 : ∀ c, c < 8 → shp[chId 1 c + 2]? = some (ia 36) := by decide +kernel
theorem sh_chi3 : ∀ c, c < 8 → shp[chId 1 c + 3]? = some (ia 36) := by decide +kernel
theorem sh_chj0 : ∀ c, c < 8 → shp[chId 39 c]? = some (0, [some (chId 39 c + 1), some (chId 39 c + 2), some (chId 39 c + 3), none, none, none]) := by decide +kernel
theorem sh_chj1 : ∀ c, c < 8 → shp[chId 39 c + 1]? = some (ia 7) := by decide +kernel
theorem sh_chj2 : ∀ c, c < 8 → shp[chId 39 c + 2]? = some (ia 36) := by decide +kernel
theorem sh_chj3 : ∀ c, c < 8 → shp[chId 39 c + 3]? = some (ia 36) := by decide +kernel
theorem sh_chi {b c : Nat} (hb : b = 1 ∨ b = 39) (hc : c < 8) : shp[chId b c]? = some (0, [some (chId b c + 1), some (chId b c + 2), some (chId b c + 3), none, none, none]) ∧ shp[chId b c + 1]? = some (ia 7) ∧ shp[chId b c + 2]? = some (ia 36) ∧ shp[chId b c + 3]? = some (ia 36) := by
  rcases hb with rfl | rfl
  · exact ⟨sh_chi0 c hc, sh_chi1 c hc, sh_chi2 c hc, sh_chi3 c hc⟩
  · exact ⟨sh_chj0 c hc, sh_chj1 c hc, sh_chj2 c hc, sh_chj3 c hc⟩
/-- a chimney's cell: one of a town's, or the trial -/
def isCh (i : Nat) : Prop := shp[i]? = some (0, [some (i + 1), some (i + 2), some (i + 3), none, none, none]) ∧ shp[i + 1]? = some (ia 7) ∧ shp[i + 2]? = some (ia 36) ∧ shp[i + 3]? = some (ia 36)
theorem isCh_town {b c : Nat} (hb : b = 1 ∨ b = 39) (hc : c < 8) : isCh (chId b c) := sh_chi hb hc
theorem isCh_trial : isCh 82 := ⟨by decide +kernel, by decide +kernel, by decide +kernel, by decide +kernel⟩
theorem rr_ch (f : FN) {b c : Nat} (hb : b = 1 ∨ b = 39) (hc : c < 8) : gm_rr (memOf f) (b + 5) 0 (nI c) = some (chId b c) := by
  have e : (nI c).toNatClampNeg = c := nI_clamp (by omega)
  have h : shp[b + 5]? = some (11 + 0, (List.range 8).map (fun c => some (b + 6 + 4 * c))) := by rcases hb with rfl | rfl <;> decide +kernel
  exact rr_a f h (nI_pos' (by omega)) (by rw [e, List.getElem?_map, List.getElem?_range hc]; rfl)
theorem rr_sh (f : FN) {s : Nat} (hs : s < 4) : gm_rr (memOf f) 80 1 (nI s) = some (95 + 2 * s) := by
  have e : (nI s).toNatClampNeg = s := nI_clamp (by omega)
  refine rr_a f sh_80 (nI_pos' (by omega)) ?_
  rw [e]
  match s, hs with
  | 0, _ => rfl
  | 1, _ => rfl
  | 2, _ => rfl
  | 3, _ => rfl
  | k + 4, h => exact absurd h (by omega)
theorem sh_she {s : Nat} (hs : s < 4) : shp[95 + 2 * s]? = some (2, [none, none, some (96 + 2 * s)]) ∧ shp[96 + 2 * s]? = some (ia 40) := by
  have h : ∀ s, s < 4 → shp[95 + 2 * s]? = some (2, [none, none, some (96 + 2 * s)]) ∧ shp[96 + 2 * s]? = some (ia 40) := by decide +kernel
  exact h s hs
/-! numbers -/
theorem nI_a (a b : Nat) : nI a + nI b = nI (a + b) := by unfold nI; rw [← Int32.ofNat_add]
theorem nI_m (a b : Nat) : nI a * nI b = nI (a * b) := by unfold nI; rw [← Int32.ofNat_mul]
theorem nI_ex {x : Int32} {n : Nat} (h0 : 0 ≤ x) (h : x ≤ nI n) (hn : n < 2 ^ 31) : ∃ k, k ≤ n ∧ x = nI k := by
  have h1 : (0 : Int) ≤ x.toInt := by simpa using Int32.le_iff_toInt_le.mp h0
  have h2 := Int32.le_iff_toInt_le.mp h
  rw [nI_toInt hn] at h2
  refine ⟨x.toInt.toNat, by omega, ?_⟩
  apply Int32.toInt_inj.mp
  rw [nI_toInt (by omega)]
  omega
theorem nI_inj {a b : Nat} (ha : a < 2 ^ 31) (hb : b < 2 ^ 31) : nI a = nI b ↔ a = b := by
  constructor
  · intro h
    have := congrArg Int32.toInt h
    rw [nI_toInt ha, nI_toInt hb] at this
    omega
  · intro h; rw [h]
theorem nI_le_iff {a b : Nat} (ha : a < 2 ^ 31) (hb : b < 2 ^ 31) : nI a ≤ nI b ↔ a ≤ b := by
  rw [Int32.le_iff_toInt_le, nI_toInt ha, nI_toInt hb]; omega
theorem nI_lt_iff {a b : Nat} (ha : a < 2 ^ 31) (hb : b < 2 ^ 31) : nI a < nI b ↔ a < b := by
  rw [Int32.lt_iff_toInt_lt, nI_toInt ha, nI_toInt hb]; omega
theorem j_le_m1 (x : Int32) : (x.toInt64 ≤ (-1 : Int64)) = (x ≤ (-1 : Int32)) := propext (by rw [← Int32.toInt64_le]; rfl)
theorem j_ge_m1 (x : Int32) : ((-1 : Int64) ≤ x.toInt64) = ((-1 : Int32) ≤ x) := propext (by rw [← Int32.toInt64_le]; rfl)
theorem j_le_0 (x : Int32) : (x.toInt64 ≤ (0 : Int64)) = (x ≤ (0 : Int32)) := propext (by rw [← Int32.toInt64_le]; rfl)
theorem j_ge_0 (x : Int32) : ((0 : Int64) ≤ x.toInt64) = ((0 : Int32) ≤ x) := propext (by rw [← Int32.toInt64_le]; rfl)
theorem j_le_1 (x : Int32) : (x.toInt64 ≤ (1 : Int64)) = (x ≤ (1 : Int32)) := propext (by rw [← Int32.toInt64_le]; rfl)
theorem j_ge_1 (x : Int32) : ((1 : Int64) ≤ x.toInt64) = ((1 : Int32) ≤ x) := propext (by rw [← Int32.toInt64_le]; rfl)
theorem j_le_2 (x : Int32) : (x.toInt64 ≤ (2 : Int64)) = (x ≤ (2 : Int32)) := propext (by rw [← Int32.toInt64_le]; rfl)
theorem j_ge_2 (x : Int32) : ((2 : Int64) ≤ x.toInt64) = ((2 : Int32) ≤ x) := propext (by rw [← Int32.toInt64_le]; rfl)
theorem j_le_3 (x : Int32) : (x.toInt64 ≤ (3 : Int64)) = (x ≤ (3 : Int32)) := propext (by rw [← Int32.toInt64_le]; rfl)
theorem j_ge_3 (x : Int32) : ((3 : Int64) ≤ x.toInt64) = ((3 : Int32) ≤ x) := propext (by rw [← Int32.toInt64_le]; rfl)
theorem j_le_4 (x : Int32) : (x.toInt64 ≤ (4 : Int64)) = (x ≤ (4 : Int32)) := propext (by rw [← Int32.toInt64_le]; rfl)
theorem j_ge_4 (x : Int32) : ((4 : Int64) ≤ x.toInt64) = ((4 : Int32) ≤ x) := propext (by rw [← Int32.toInt64_le]; rfl)
theorem j_le_5 (x : Int32) : (x.toInt64 ≤ (5 : Int64)) = (x ≤ (5 : Int32)) := propext (by rw [← Int32.toInt64_le]; rfl)
theorem j_ge_5 (x : Int32) : ((5 : Int64) ≤ x.toInt64) = ((5 : Int32) ≤ x) := propext (by rw [← Int32.toInt64_le]; rfl)
theorem j_le_6 (x : Int32) : (x.toInt64 ≤ (6 : Int64)) = (x ≤ (6 : Int32)) := propext (by rw [← Int32.toInt64_le]; rfl)
theorem j_ge_6 (x : Int32) : ((6 : Int64) ≤ x.toInt64) = ((6 : Int32) ≤ x) := propext (by rw [← Int32.toInt64_le]; rfl)
theorem j_le_9 (x : Int32) : (x.toInt64 ≤ (9 : Int64)) = (x ≤ (9 : Int32)) := propext (by rw [← Int32.toInt64_le]; rfl)
theorem j_ge_9 (x : Int32) : ((9 : Int64) ≤ x.toInt64) = ((9 : Int32) ≤ x) := propext (by rw [← Int32.toInt64_le]; rfl)
theorem j_le_10 (x : Int32) : (x.toInt64 ≤ (10 : Int64)) = (x ≤ (10 : Int32)) := propext (by rw [← Int32.toInt64_le]; rfl)
theorem j_ge_10 (x : Int32) : ((10 : Int64) ≤ x.toInt64) = ((10 : Int32) ≤ x) := propext (by rw [← Int32.toInt64_le]; rfl)
theorem j_le_12 (x : Int32) : (x.toInt64 ≤ (12 : Int64)) = (x ≤ (12 : Int32)) := propext (by rw [← Int32.toInt64_le]; rfl)
theorem j_ge_12 (x : Int32) : ((12 : Int64) ≤ x.toInt64) = ((12 : Int32) ≤ x) := propext (by rw [← Int32.toInt64_le]; rfl)
theorem j_le_14 (x : Int32) : (x.toInt64 ≤ (14 : Int64)) = (x ≤ (14 : Int32)) := propext (by rw [← Int32.toInt64_le]; rfl)
theorem j_ge_14 (x : Int32) : ((14 : Int64) ≤ x.toInt64) = ((14 : Int32) ≤ x) := propext (by rw [← Int32.toInt64_le]; rfl)
theorem j_le_23 (x : Int32) : (x.toInt64 ≤ (23 : Int64)) = (x ≤ (23 : Int32)) := propext (by rw [← Int32.toInt64_le]; rfl)
theorem j_ge_23 (x : Int32) : ((23 : Int64) ≤ x.toInt64) = ((23 : Int32) ≤ x) := propext (by rw [← Int32.toInt64_le]; rfl)
theorem j_le_24 (x : Int32) : (x.toInt64 ≤ (24 : Int64)) = (x ≤ (24 : Int32)) := propext (by rw [← Int32.toInt64_le]; rfl)
theorem j_ge_24 (x : Int32) : ((24 : Int64) ≤ x.toInt64) = ((24 : Int32) ≤ x) := propext (by rw [← Int32.toInt64_le]; rfl)
theorem j_le_31 (x : Int32) : (x.toInt64 ≤ (31 : Int64)) = (x ≤ (31 : Int32)) := propext (by rw [← Int32.toInt64_le]; rfl)
theorem j_ge_31 (x : Int32) : ((31 : Int64) ≤ x.toInt64) = ((31 : Int32) ≤ x) := propext (by rw [← Int32.toInt64_le]; rfl)
theorem j_le_32 (x : Int32) : (x.toInt64 ≤ (32 : Int64)) = (x ≤ (32 : Int32)) := propext (by rw [← Int32.toInt64_le]; rfl)
theorem j_ge_32 (x : Int32) : ((32 : Int64) ≤ x.toInt64) = ((32 : Int32) ≤ x) := propext (by rw [← Int32.toInt64_le]; rfl)
theorem j_le_35 (x : Int32) : (x.toInt64 ≤ (35 : Int64)) = (x ≤ (35 : Int32)) := propext (by rw [← Int32.toInt64_le]; rfl)
theorem j_ge_35 (x : Int32) : ((35 : Int64) ≤ x.toInt64) = ((35 : Int32) ≤ x) := propext (by rw [← Int32.toInt64_le]; rfl)
theorem j_le_36 (x : Int32) : (x.toInt64 ≤ (36 : Int64)) = (x ≤ (36 : Int32)) := propext (by rw [← Int32.toInt64_le]; rfl)
theorem j_ge_36 (x : Int32) : ((36 : Int64) ≤ x.toInt64) = ((36 : Int32) ≤ x) := propext (by rw [← Int32.toInt64_le]; rfl)
theorem j_le_48 (x : Int32) : (x.toInt64 ≤ (48 : Int64)) = (x ≤ (48 : Int32)) := propext (by rw [← Int32.toInt64_le]; rfl)
theorem j_ge_48 (x : Int32) : ((48 : Int64) ≤ x.toInt64) = ((48 : Int32) ≤ x) := propext (by rw [← Int32.toInt64_le]; rfl)
theorem j_le_57 (x : Int32) : (x.toInt64 ≤ (57 : Int64)) = (x ≤ (57 : Int32)) := propext (by rw [← Int32.toInt64_le]; rfl)
theorem j_ge_57 (x : Int32) : ((57 : Int64) ≤ x.toInt64) = ((57 : Int32) ≤ x) := propext (by rw [← Int32.toInt64_le]; rfl)
theorem j_le_72 (x : Int32) : (x.toInt64 ≤ (72 : Int64)) = (x ≤ (72 : Int32)) := propext (by rw [← Int32.toInt64_le]; rfl)
theorem j_ge_72 (x : Int32) : ((72 : Int64) ≤ x.toInt64) = ((72 : Int32) ≤ x) := propext (by rw [← Int32.toInt64_le]; rfl)
theorem j_le_97 (x : Int32) : (x.toInt64 ≤ (97 : Int64)) = (x ≤ (97 : Int32)) := propext (by rw [← Int32.toInt64_le]; rfl)
theorem j_ge_97 (x : Int32) : ((97 : Int64) ≤ x.toInt64) = ((97 : Int32) ≤ x) := propext (by rw [← Int32.toInt64_le]; rfl)
theorem j_le_122 (x : Int32) : (x.toInt64 ≤ (122 : Int64)) = (x ≤ (122 : Int32)) := propext (by rw [← Int32.toInt64_le]; rfl)
theorem j_ge_122 (x : Int32) : ((122 : Int64) ≤ x.toInt64) = ((122 : Int32) ≤ x) := propext (by rw [← Int32.toInt64_le]; rfl)
