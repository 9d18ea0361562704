/-! String constants: length and charAt (the JDK's own methods, over the literals) -/
def s_none : SD := fun _ _ => none
theorem sc_none {C : CX} {pc p2 : Nat} : SC C pc p2 s_none := by
  intro L M r he
  cases he
/-- Preconditions.checkIndex(II BiFunction)I -/
abbrev C_J3_chk : CX := (cJ3_checkIndex_8e157, RJ3, 3, 0, 0, "checkIndex", some .int, fun _ => True)
abbrev M_J3_chk : MD := (yJ3_checkIndex_8e157, C_J3_chk)
theorem k_J3_chk : MOK M_J3_chk 3 := ⟨ws_ini_J3, ws_code_J3_chk, by decide +kernel, by decide +kernel, by decide +kernel⟩
def S_J3_chk : SD := (s_seq (s_if (b_or (e_un (fun (x : Int32) => decide (x < 0)) (e_li 0)) (e_bin (fun (x y : Int32) => decide (y ≤ x)) (e_li 0) (e_li 1))) s_none s_skip) (s_ret Value.int (e_li 0)))
theorem b_J3_chk : SC C_J3_chk 0 0 S_J3_chk := by
  unfold S_J3_chk
  exact sc_seq (p1 := 16) (sc_if (pT := 9) (pF := 16) (p2 := 16) (bc_or (p1 := 4) (bc_if_lt_T (p2 := 1) (tgt := 9) (ec_iload_n (i := 0) dJ3_checkIndex_8e157_0 rfl) dJ3_checkIndex_8e157_1 rfl) (bc_icmp_lt_F (p1 := 5) (p2 := 6) (tgt := 16) (ec_iload_n (i := 0) dJ3_checkIndex_8e157_4 rfl) (ec_iload_n (i := 1) dJ3_checkIndex_8e157_5 rfl) dJ3_checkIndex_8e157_6 rfl)) sc_none sc_skip) (sc_iret (p1 := 17) (ec_iload_n (i := 0) dJ3_checkIndex_8e157_16 rfl) dJ3_checkIndex_8e157_17 rfl)
theorem s_J3_chk : MS M_J3_chk (m_den 3 S_J3_chk) := ms_of b_J3_chk (by decide +kernel) rfl rfl (fun _ => trivial)
theorem D_J3_chk {i n : Int32} {w : Value} {M : GM} (hw : w.category = 1) (h0 : 0 ≤ i) (h1 : i < n) : m_den 3 S_J3_chk [.int i, .int n, w] M = some (.int i, M) := by
  have e0 : (Value.int i).category = 1 := rfl
  have e1 : (Value.int n).category = 1 := rfl
  have h2 : ¬ i < 0 := Int32.not_lt.mpr h0
  have h3 : ¬ n ≤ i := Int32.not_le.mpr h1
  simp [m_den, l0, e0, e1, hw, S_J3_chk, s_seq, s_if, b_or, e_un, e_bin, e_li, s_skip, s_ret, h2, h3]
/-- String.checkIndex(II)V -/
abbrev C_J0_chk : CX := (cJ0_checkIndex_df160, RJ0, 2, 1, 22, "checkIndex", none, fun _ => True)
abbrev M_J0_chk : MD := (yJ0_checkIndex_df160, C_J0_chk)
theorem k_J0_chk : MOK M_J0_chk 2 := ⟨ws_ini_J0, ws_code_J0_chk, by decide +kernel, by decide +kernel, by decide +kernel⟩
theorem t_J0_chk : MST M_J0_chk 2 := ⟨k_J0_chk, ws_st_J0_chk⟩
def S_J0_chk : SD := fun L M => match L with
  | [.int i, .int n] => if 0 ≤ i ∧ i < n then some (.inr (.null, M)) else none
  | _ => none
theorem b_J0_chk : SC C_J0_chk 0 0 S_J0_chk := by
  intro L M r he
  unfold S_J0_chk at he
  split at he
  · rename_i i n
    by_cases hc : 0 ≤ i ∧ i < n
    · rw [if_pos hc] at he
      cases he
      refine ⟨gm_le.rf _, fun X hX e => ?_⟩
      have hret := hX.2.2.2.2.2.2.2.2.2.2.2.2.1 9 [.int i, .int n] dJ0_checkIndex_df160_9 (by rw [← e]; rfl)
      rw [← e] at hret
      have key : ∀ (w : Value), w.category = 1 → WA X 5 [.int i, .int n] [w, .int n, .int i] M := fun w hw => by
        obtain ⟨g2, hc2⟩ := s_J3_chk _ _ _ _ (D_J3_chk (M := M) hw hc.1 hc.2)
        refine wa_callS (d := M_J3_chk) (st := []) hX k_J3_chk ws_st_J3_chk ws_ln_J0_1059 ⟨Nat.le_of_ble_eq_true rfl, Nat.le_of_ble_eq_true rfl⟩ dJ0_checkIndex_df160_5 (vs := [.int i, .int n, w]) rfl (Nat.zero_le _) (gm_le.rf _) (by rw [← e]; exact gm_le.rf _) (hc2 _ _ hX.2.2.2.2.2.2.1 (by have := hX.2.2.2.2.2.2.2.2.2.1; rw [← e] at this; exact this)) ?_
        exact fun hm ls H locs hl hP hS => lv_pop hX.1 hX.2.1 dJ0_checkIndex_df160_8 rfl (hret hm ls H locs hl hP hS)
      intro hm ls H locs hl hP hS
      refine lv_iload_n (i := 0) hX.1 hX.2.1 dJ0_checkIndex_df160_0 rfl (lvL_at (v := .int i) hl rfl rfl) ?_
      refine lv_iload_n (i := 1) hX.1 hX.2.1 dJ0_checkIndex_df160_1 rfl (lvL_at (v := .int n) hl rfl rfl) ?_
      rcases hX.I.2.1.2.2.2 with hZ | hZ
      · exact va_gets hX.1 hX.2.1 hZ hS hX.2.2.2.1 (hX.T ws_ln_J0_1053) (fun x hx => hx) dJ0_checkIndex_df160_2 (key .null rfl hm ls H locs hl hP hS)
      · exact va_gets hX.1 hX.2.1 hZ hS hX.2.2.2.1 (hX.T ws_ln_J0_1053) (fun x hx => hx) dJ0_checkIndex_df160_2 (key (.ref (SPB + 300)) rfl hm ls H locs hl hP hS)
    · rw [if_neg hc] at he; cases he
  · cases he
theorem s_J0_chk : MS M_J0_chk (m_den 2 S_J0_chk) := ms_of b_J0_chk (by decide +kernel) rfl rfl (fun _ => trivial)
theorem D_J0_chk {i n : Int32} {M : GM} (h0 : 0 ≤ i) (h1 : i < n) : m_den 2 S_J0_chk [.int i, .int n] M = some (.null, M) := by
  have e0 : (Value.int i).category = 1 := rfl
  have e1 : (Value.int n).category = 1 := rfl
  simp [m_den, l0, e0, e1, S_J0_chk, h0, h1]
/-! the special cells: Strings at SPB + 100 + i, their bytes at SPB + 200 + i -/
def sp_bytes (id : Nat) : Option (List Int32) := if SPB + 200 ≤ id then (str_tab[id - (SPB + 200)]?).map (fun q => q.2.2) else none
theorem sp_bytes_some {id : Nat} {bs : List Int32} (h : sp_bytes id = some bs) : ∃ i q, id = SPB + 200 + i ∧ str_tab[i]? = some q ∧ bs = q.2.2 := by
  unfold sp_bytes at h
  by_cases hc : SPB + 200 ≤ id
  · rw [if_pos hc] at h
    cases hq : str_tab[id - (SPB + 200)]? with
    | none => rw [hq] at h; cases h
    | some q => rw [hq] at h; exact ⟨_, q, by omega, hq, (Option.some.inj h).symm⟩
  · rw [if_neg hc] at h; cases h
theorem sp_T {C : CX} {X : MX} (h : XOK C X) {i : Nat} {q : Nat × String × List Int32} (hq : str_tab[i]? = some q) : i < 15 ∧ va_T .byte (k_ad (x_K X) (SPB + 200 + i)) q.2.2.length (fun j => .int (q.2.2.getD j 0)) (k_A (x_K X)) (x_s X) (x_s X).heap := by
  have hi : i < 15 := (List.getElem?_eq_some_iff.mp hq).1
  have h1 := (h.I.2.1.1.1 i hi).2.2.2
  have e1 : (str_tab.map (fun q => q.2.2.length)).getD i 0 = q.2.2.length := by rw [List.getD_eq_getElem?_getD, List.getElem?_map, hq]; rfl
  have e2 : (str_tab.map (fun q => q.2.2)).getD i [] = q.2.2 := by rw [List.getD_eq_getElem?_getD, List.getElem?_map, hq]; rfl
  rw [e1, e2] at h1
  exact ⟨hi, h1⟩
def e_blen (r : DE Nat) : DE Int32 := fun L M => (r L M).bind fun p => (sp_bytes p.1).bind fun bs => some (Int32.ofNat bs.length, p.2)
theorem ec_blen {C : CX} {k pc p1 : Nat} {r : DE Nat} (hr : EC C Value.ref k pc p1 r) (hd : decode (c_cc C) p1 = .ok (.arraylength, 1)) : EC C Value.int k pc (p1 + 1) (e_blen r) := by
  intro L M v M' he
  obtain ⟨⟨id, M1⟩, h1, h2⟩ := bind_some he
  obtain ⟨bs, h3, h4⟩ := bind_some h2
  cases h4
  obtain ⟨g, w⟩ := hr L M id _ h1
  obtain ⟨i, q, e1, e2, e3⟩ := sp_bytes_some h3
  subst e3
  simp only at e1
  subst e1
  exact ⟨g, fun X hX st hk hf ww => w X hX st hk hf (fun hm ls H locs hl hP hS => va_tlen hX.1 hX.2.1 (sp_T hX e2).2 hS rfl hd (ww hm ls H locs hl hP hS))⟩
def e_bald (r : DE Nat) (ix : DE Int32) : DE Int32 := fun L M => (r L M).bind fun p => (ix L p.2).bind fun q => (sp_bytes p.1).bind fun bs => if 0 ≤ q.1 then (bs[q.1.toNatClampNeg]?).bind fun v => some (v, q.2) else none
theorem ec_bald {C : CX} {k pc p1 p2 : Nat} {r : DE Nat} {ix : DE Int32} (hr : EC C Value.ref k pc p1 r) (hi : EC C Value.int (1 + k) p1 p2 ix) (hd : decode (c_cc C) p2 = .ok (.baload, 1)) : EC C Value.int k pc (p2 + 1) (e_bald r ix) := by
  intro L M v M' he
  obtain ⟨⟨id, M1⟩, h1, h2⟩ := bind_some he
  obtain ⟨⟨i, M2⟩, h3, h4⟩ := bind_some h2
  obtain ⟨bs, h5, h6⟩ := bind_some h4
  simp only at h6 h5
  by_cases h0 : 0 ≤ i
  · rw [if_pos h0] at h6
    obtain ⟨x, h7, h8⟩ := bind_some h6
    cases h8
    obtain ⟨g1, w1⟩ := hr L M id _ h1
    obtain ⟨g2, w2⟩ := hi L M1 i _ h3
    obtain ⟨j, q, e1, e2, e3⟩ := sp_bytes_some h5
    subst e3
    subst e1
    exact ⟨g1.tr g2, fun X hX st hk hf w => w1 X hX st hk (g2.tr hf) (w2 X hX (.ref _ :: st) (by rw [csum_cons]; show 1 + csum st ≤ 1 + k; omega) hf (fun hm ls H locs hl hP hS => va_tb hX.1 hX.2.1 (sp_T hX e2).2 hS (vpi_of h0 (List.getElem?_eq_some_iff.mp h7).1) (v := .int v) (by simp [List.getD_eq_getElem?_getD, h7]) hd (w hm ls H locs hl hP hS)))⟩
  · rw [if_neg h0] at h6; cases h6
/-- StringLatin1.charAt([BI)C -/
abbrev C_J1_chr : CX := (cJ1_charAt_3b067, RJ1, 2, 2, 43, "charAt", some .char, fun _ => True)
abbrev M_J1_chr : MD := (yJ1_charAt_3b067, C_J1_chr)
theorem k_J1_chr : MOK M_J1_chr 2 := ⟨ws_ini_J1, ws_code_J1_chr, by decide +kernel, by decide +kernel, by decide +kernel⟩
theorem t_J1_chr : MST M_J1_chr 2 := ⟨k_J1_chr, ws_st_J1_chr⟩
def s_retc (e : DE Int32) : SD := fun L M => (e L M).bind fun p => if 0 ≤ p.1 ∧ p.1 < 65536 then some (.inr (.int p.1, p.2)) else none
theorem narrow_char {x : Int32} (h0 : 0 ≤ x) (h1 : x < 65536) : narrow .char (.int x) = .int x := by
  show Value.int ((x.toUInt32 % 65536).toInt32) = Value.int x
  congr 1
  have h0' : (0 : Int) ≤ x.toInt := by simpa using Int32.le_iff_toInt_le.mp h0
  have h1' : x.toInt < 65536 := by simpa using Int32.lt_iff_toInt_lt.mp h1
  have hb : x.toBitVec.toNat < 65536 := by
    have e := x.toBitVec.toInt_eq_toNat_cond
    have e2 : x.toBitVec.toInt = x.toInt := rfl
    rw [e2] at e
    split at e
    · omega
    · have := x.toBitVec.isLt; omega
  apply Int32.toBitVec_inj.mp
  apply BitVec.eq_of_toNat_eq
  show ((x.toUInt32 % 65536).toBitVec).toNat = x.toBitVec.toNat
  show (x.toBitVec % 65536#32).toNat = _
  rw [BitVec.toNat_umod]
  exact Nat.mod_eq_of_lt hb
theorem sc_cret {C : CX} {pc p1 p2 : Nat} {e : DE Int32} (he0 : EC C Value.int 0 pc p1 e) (hd : decode (c_cc C) p1 = .ok (.ireturn, 1)) (hr : c_rt C = some .char) : SC C pc p2 (s_retc e) := by
  intro L M r he
  obtain ⟨⟨x, M1⟩, h1, h2⟩ := bind_some he
  obtain ⟨g, w⟩ := he0 L M x _ h1
  simp only at h2
  by_cases hx : 0 ≤ x ∧ x < 65536
  · rw [if_pos hx] at h2
    cases h2
    refine ⟨g, fun X hX e => ?_⟩
    have hr := hX.2.2.2.2.2.2.2.2.2.2.2.2.1 p1 L (by rw [hr]; exact hd) (by rw [← e, hr]; exact ⟨x, rfl, narrow_char hx.1 hx.2⟩)
    rw [← e] at hr
    exact w X hX [] (Nat.le_refl _) (by rw [← e]; exact gm_le.rf _) hr
  · rw [if_neg hx] at h2; cases h2
theorem sc_bret {C : CX} {pc p1 p2 : Nat} {e : DE Int32} (he0 : EC C Value.int 0 pc p1 e) (hd : decode (c_cc C) p1 = .ok (.ireturn, 1)) (hr : c_rt C = some .byte) : SC C pc p2 (s_retz e) := by
  intro L M r he
  obtain ⟨⟨x, M1⟩, h1, h2⟩ := bind_some he
  obtain ⟨g, w⟩ := he0 L M x _ h1
  by_cases hx : x = 0 ∨ x = 1
  · rw [if_pos hx] at h2
    cases h2
    refine ⟨g, fun X hX e => ?_⟩
    have hr := hX.2.2.2.2.2.2.2.2.2.2.2.2.1 p1 L (by rw [hr]; exact hd) (by rw [← e, hr]; refine ⟨x, rfl, ?_⟩; rcases hx with rfl | rfl <;> rfl)
    rw [← e] at hr
    exact w X hX [] (Nat.le_refl _) (by rw [← e]; exact gm_le.rf _) hr
  · rw [if_neg hx] at h2; cases h2
def S_J1_chr : SD := (s_seq (s_call (m_den 2 S_J0_chk) 2 (a_snoc Value.int (a_snoc Value.int a_nil (e_li 1)) (e_blen (e_lr 0)))) (s_retc (e_un (fun (x : Int32) => (x.toUInt32 % 65536).toInt32) (e_bin (fun (x y : Int32) => x &&& y) (e_bald (e_lr 0) (e_li 1)) (e_c (255 : Int32))))))
theorem b_J1_chr : SC C_J1_chr 0 0 S_J1_chr := by
  unfold S_J1_chr
  exact sc_seq (p1 := 6) (sc_callS (m := 2) (p1 := 3) s_J0_chk t_J0_chk ⟨ws_ln_J1_9, Nat.le_of_ble_eq_true rfl, Nat.le_of_ble_eq_true rfl⟩ (ac_snoc (n := 1) (c := 1) (p1 := 1) (ac_snoc (n := 0) (c := 1) (p1 := 0) ac_nil (ec_iload_n (i := 1) dJ1_charAt_3b067_0 rfl) rfl (fun _ => rfl) rfl) (ec_blen (p1 := 2) (ec_aload_n (i := 0) dJ1_charAt_3b067_1 rfl) dJ1_charAt_3b067_2) rfl (fun _ => rfl) rfl) dJ1_charAt_3b067_3) (sc_cret (p1 := 14) (ec_i2c (p1 := 13) (ec_iand (p1 := 9) (p2 := 12) (ec_bald (p1 := 7) (p2 := 8) (ec_aload_n (i := 0) dJ1_charAt_3b067_6 rfl) (ec_iload_n (i := 1) dJ1_charAt_3b067_7 rfl) dJ1_charAt_3b067_8) (ec_sipush (v := 255) dJ1_charAt_3b067_9 rfl) dJ1_charAt_3b067_12) dJ1_charAt_3b067_13) dJ1_charAt_3b067_14 rfl)
theorem s_J1_chr : MS M_J1_chr (m_den 2 S_J1_chr) := ms_of b_J1_chr (by decide +kernel) rfl rfl (fun _ => trivial)
theorem str_small : ∀ q ∈ str_tab, ∀ b ∈ q.2.2, ((b &&& 255).toUInt32 % 65536).toInt32 = b ∧ (0 : Int32) ≤ b ∧ b < 65536 := by decide +kernel
theorem str_short : ∀ q ∈ str_tab, q.2.2.length < 100 := by decide +kernel
theorem sp_nlt {i : Int32} {n : Nat} (h0 : 0 ≤ i) (h : i.toNatClampNeg < n) (hn : n < 100) : i < Int32.ofNat n := by
  apply Int32.lt_iff_toInt_lt.mpr
  have h1 : (0 : Int) ≤ i.toInt := by simpa using Int32.le_iff_toInt_le.mp h0
  have h2 : (i.toNatClampNeg : Int) = i.toInt := by show ((i.toInt.toNat : Nat) : Int) = _; omega
  rw [Int32.toInt_ofNat_of_lt (by omega)]
  omega
theorem D_J1_chr {j : Nat} {q : Nat × String × List Int32} {i v : Int32} {M : GM} (hq : str_tab[j]? = some q) (h0 : 0 ≤ i) (hv : q.2.2[i.toNatClampNeg]? = some v) : m_den 2 S_J1_chr [.ref (SPB + 200 + j), .int i] M = some (.int v, M) := by
  have e0 : (Value.int i).category = 1 := rfl
  have e1 : (Value.ref (SPB + 200 + j)).category = 1 := rfl
  have hb : sp_bytes (SPB + 200 + j) = some q.2.2 := by
    unfold sp_bytes
    rw [if_pos (by omega), show SPB + 200 + j - (SPB + 200) = j by omega, hq]; rfl
  have hl := (List.getElem?_eq_some_iff.mp hv).1
  have hm := List.mem_of_getElem? hq
  have hs := str_small q hm v (List.mem_of_getElem? hv)
  have hc := D_J0_chk (i := i) (n := Int32.ofNat q.2.2.length) (M := M) h0 (sp_nlt h0 hl (str_short q hm))
  have e4 : m_den 2 S_J1_chr [.ref (SPB + 200 + j), .int i] M = (match S_J1_chr [.ref (SPB + 200 + j), .int i] M with
    | some (.inr q) => some q
    | _ => none) := rfl
  rw [e4]
  unfold S_J1_chr s_seq s_call a_snoc a_nil e_li e_lr e_blen e_bald e_un e_bin e_c s_retc
  have h9 := hs.1
  simp at h9
  simp [hb, hc, h0, hv, h9, hs.2]
/-! String's own -/
def sp_str (id : Nat) : Bool := decide (SPB + 100 ≤ id) && decide (id < SPB + 115)
theorem sp_str_some {id : Nat} (h : sp_str id = true) : ∃ i, id = SPB + 100 + i ∧ i < 15 := by
  unfold sp_str at h
  simp at h
  exact ⟨id - (SPB + 100), by omega, by omega⟩
def e_cs : DE Int32 := e_c (1 : Int32)
theorem ec_cs {C : CX} {k pc : Nat} (ho : c_own C = RJ0) (hd : decode (c_cc C) pc = .ok (.getstatic 38, 3)) : EC C Value.int k pc (pc + 3) e_cs := ec_c fun X hX L st M w hm ls H locs hll hP hS => va_gets hX.1 hX.2.1 hX.I.2.1.2.2.1 hS hX.2.2.2.1 (hX.T (by rw [ho]; exact ws_ln_J0_38)) (fun x hx => hx) hd (w hm ls H locs hll hP hS)
def e_scod (r : DE Nat) : DE Int32 := fun L M => (r L M).bind fun p => if sp_str p.1 then some (0, p.2) else none
theorem ec_scod {C : CX} {k pc p1 : Nat} {r : DE Nat} (hr : EC C Value.ref k pc p1 r) (ho : c_own C = RJ0) (hd : decode (c_cc C) p1 = .ok (.getfield 15, 3)) : EC C Value.int k pc (p1 + 3) (e_scod r) := by
  intro L M v M' he
  obtain ⟨⟨id, M1⟩, h1, h2⟩ := bind_some he
  obtain ⟨g, w⟩ := hr L M id _ h1
  by_cases hs : sp_str id = true
  · simp only [hs, if_true] at h2
    cases h2
    obtain ⟨i, rfl, hi⟩ := sp_str_some hs
    exact ⟨g, fun X hX st hk hf ww => w X hX st hk hf (fun hm ls H locs hl hP hS => vk_getf hX.1 hX.2.1 (hX.I.2.1.1.1 i hi).2.1 hS hX.2.2.2.1 (hX.T (by rw [ho]; exact ws_ln_J0_15)) (fun x hx => hx) hd (ww hm ls H locs hl hP hS))⟩
  · simp only [hs] at h2; cases h2
def e_sval (r : DE Nat) : DE Nat := fun L M => (r L M).bind fun p => if sp_str p.1 then some (p.1 + 100, p.2) else none
theorem ec_sval {C : CX} {k pc p1 : Nat} {r : DE Nat} (hr : EC C Value.ref k pc p1 r) (ho : c_own C = RJ0) (hd : decode (c_cc C) p1 = .ok (.getfield 9, 3)) : EC C Value.ref k pc (p1 + 3) (e_sval r) := by
  intro L M v M' he
  obtain ⟨⟨id, M1⟩, h1, h2⟩ := bind_some he
  obtain ⟨g, w⟩ := hr L M id _ h1
  by_cases hs : sp_str id = true
  · simp only [hs, if_true] at h2
    cases h2
    obtain ⟨i, rfl, hi⟩ := sp_str_some hs
    refine ⟨g, fun X hX st hk hf ww => w X hX st hk hf (fun hm ls H locs hl hP hS => vk_getf hX.1 hX.2.1 (hX.I.2.1.1.1 i hi).2.2.1 hS hX.2.2.2.1 (hX.T (by rw [ho]; exact ws_ln_J0_9)) (fun x hx => hx) hd ?_)⟩
    have e : SPB + 100 + i + 100 = SPB + 200 + i := by omega
    rw [e] at ww
    exact ww hm ls H locs hl hP hS
  · simp only [hs] at h2; cases h2
def recvS (vs : List Value) : Bool := match vs with
  | .ref i :: _ => sp_str i
  | _ => false
theorem recvS_some {vs : List Value} (h : recvS vs = true) : ∃ i As, vs = .ref (SPB + 100 + i) :: As ∧ i < 15 := by
  unfold recvS at h
  split at h
  · rename_i i As
    obtain ⟨j, rfl, hj⟩ := sp_str_some h
    exact ⟨j, As, rfl, hj⟩
  · cases h
theorem wa_callVs {C : CX} {X : MX} (h : XOK C X) {d : MD} {pc idx n : Nat} (hok : MOK d n) (hcn : d.1.cls = "java/lang/String") (hin : Cond.instanceMethod d.1 ∈ lw_g) (hse : Cond.selects d.1.cls d.1 d.1 ∈ lw_g) (hl : Cond.methodLink (c_own C) idx d.1 ∈ lw_g) (hR : c_fr d.2 + 1 ≤ c_fr C ∧ 8 + (c_nL d.2 + 11) + c_lo d.2 ≤ c_lo C) (hd : decode (c_cc C) pc = .ok (.invokevirtual idx, 3)) {L st vs : List Value} {M M' : GM} {r : Value} (hlen : vs.length = n + 1) (hre : recvS vs = true) (hcs : csum st ≤ 8) (hg : gm_le M M') (hf : gm_le M' (x_tg X).2) (hM : CALL (x_l X) (x_K X) d vs M r M') (w : WA X (pc + 3) L (retSt r ++ st) M') : WA X pc L (vs.reverse ++ st) M := by
  obtain ⟨i, As, rfl, hi⟩ := recvS_some hre
  refine wa_run h (a := (Value.ref (k_ad (x_K X) (SPB + 100 + i)) :: As.map (tv (k_ad (x_K X)))).toArray) (fun ls H locs hll hP hS hm => ?_) hg w
  have hre := vk_recv h.I.2.1.1 hi hS
  refine va_runV (n := n) (C := "java/lang/String") (As := As.map (tv (k_ad (x_K X)))) ⟨h.1, h.2.1, h.2.2.1, h.2.2.2.1, h.2.2.2.2.1⟩ hM ⟨⟨rfl, rfl, ?_, ?_, g_pay h hok, List.mem_cons_self, h.T hok.2.1, h.T hok.1, ⟨hok.2.2.1, hok.2.2.2.1⟩, fun sig hs => ?_, h.T hl⟩, h.T hin, by rw [← hcn]; exact h.T hse⟩ ⟨k_pre_blind _ _ _, hre, fun U hU hW => ⟨rfl, k_pre_of h hP hS U hU hW⟩⟩ rfl (by rw [List.length_map]; simpa using hlen) (by rw [hll.1]; exact h.2.2.1) (by simp [tv]) ?_ hd (g_fit h hm hg hf)
  · rw [h.2.2.2.2.2.2.2.2.1.1]; exact hR.1
  · rw [h.2.2.2.2.2.2.2.2.1.2.1]; exact hR.2
  · have h2 := hok.2.2.2.2
    rw [hs] at h2
    exact (Option.some.inj h2).symm
  · show 2 * 0 + _ ≤ 8
    rw [csum_tv]; omega
def a_recvS (a : DE (List Value)) : DE (List Value) := fun L M => (a L M).bind fun p => if recvS p.1 then some p else none
theorem ec_callVs {C : CX} {k m pc p1 idx n : Nat} {d : MD} {D : MDen} {a : DE (List Value)} (hD : MS d D) (hok : MOK d n) (hcn : d.1.cls = "java/lang/String") (hin : Cond.instanceMethod d.1 ∈ lw_g) (hse : Cond.selects d.1.cls d.1 d.1 ∈ lw_g) (hs : SITE C d idx) (ha : AC C k m pc p1 a) (hk8 : k ≤ 8) (hd : decode (c_cc C) p1 = .ok (.invokevirtual idx, 3)) : EC C Value.int k pc (p1 + 3) (e_call prI D (n + 1) (a_recvS a)) := by
  intro L M v M' he
  obtain ⟨⟨vs, M1⟩, h1, h2⟩ := bind_some he
  obtain ⟨p, h1, h1b⟩ := bind_some h1
  by_cases hr : recvS p.1 = true
  · rw [if_pos hr] at h1b
    cases h1b
    by_cases hn : vs.length = n + 1
    · simp only [if_pos hn] at h2
      obtain ⟨⟨r, M2⟩, h3, h4⟩ := bind_some h2
      obtain ⟨x, h5, h6⟩ := bind_some h4
      cases h6
      obtain ⟨e1, e2⟩ := inj_I _ _ h5
      obtain ⟨c1, g1, w1⟩ := ha L M vs _ h1
      obtain ⟨g2, hc⟩ := hD vs M1 r _ h3
      refine ⟨g1.tr g2, fun X hX st hk hf w => w1 X hX st hk (g2.tr hf) (wa_callVs hX hok hcn hin hse hs.1 hs.2 hd hn hr (Nat.le_trans hk hk8) g2 hf (hc _ _ hX.2.2.2.2.2.2.1 (Nat.lt_of_le_of_lt hf.1 hX.2.2.2.2.2.2.2.2.2.1)) ?_)⟩
      simp only at e2
      rw [e2]
      exact w
    · simp only [if_neg hn] at h2; cases h2
  · rw [if_neg hr] at h1b; cases h1b
/-- String.coder()B, isLatin1()Z -/
abbrev C_J0_cod : CX := (cJ0_coder_7d493, RJ0, 1, 0, 0, "coder", some .byte, fun _ => True)
abbrev M_J0_cod : MD := (yJ0_coder_7d493, C_J0_cod)
theorem k_J0_cod : MOK M_J0_cod 0 := ⟨ws_ini_J0, ws_code_J0_cod, by decide +kernel, by decide +kernel, by decide +kernel⟩
def S_J0_cod : SD := s_retz (e_if (b_of e_cs) (e_scod (e_lr 0)) (e_c (1 : Int32)))
theorem b_J0_cod : SC C_J0_cod 0 0 S_J0_cod := by
  unfold S_J0_cod
  exact sc_bret (p1 := 14) (ec_if (pT := 6) (pF := 13) (p1 := 10) (pE := 14) (bc_of_F (p2 := 3) (tgt := 13) (ec_cs rfl dJ0_coder_7d493_0) dJ0_coder_7d493_3 rfl) (ec_scod (p1 := 7) (ec_aload_n (i := 0) dJ0_coder_7d493_6 rfl) rfl dJ0_coder_7d493_7) dJ0_coder_7d493_10 rfl (ec_iconst (v := 1) dJ0_coder_7d493_13 rfl)) dJ0_coder_7d493_14 rfl
theorem s_J0_cod : MS M_J0_cod (m_den 1 S_J0_cod) := ms_of b_J0_cod (by decide +kernel) rfl rfl (fun _ => trivial)
theorem D_J0_cod {i : Nat} {M : GM} (h : sp_str i = true) : m_den 1 S_J0_cod [.ref i] M = some (.int 0, M) := by
  have e1 : (Value.ref i).category = 1 := rfl
  simp [m_den, l0, e1, S_J0_cod, s_retz, e_if, b_of, e_cs, e_c, e_scod, e_lr, h]
abbrev C_J0_lat : CX := (cJ0_isLatin1_aae02, RJ0, 1, 0, 0, "isLatin1", some .boolean, fun _ => True)
abbrev M_J0_lat : MD := (yJ0_isLatin1_aae02, C_J0_lat)
theorem k_J0_lat : MOK M_J0_lat 0 := ⟨ws_ini_J0, ws_code_J0_lat, by decide +kernel, by decide +kernel, by decide +kernel⟩
def S_J0_lat : SD := s_retz (e_b (b_and (b_of e_cs) (e_un (fun (x : Int32) => decide (x = 0)) (e_scod (e_lr 0)))))
theorem b_J0_lat : SC C_J0_lat 0 0 S_J0_lat := by
  unfold S_J0_lat
  exact sc_zret (p1 := 18) (ec_bm (pT := 13) (bc_and (p1 := 6) (bc_of_F (p2 := 3) (tgt := 17) (ec_cs rfl dJ0_isLatin1_aae02_0) dJ0_isLatin1_aae02_3 rfl) (bc_if_ne_F (p2 := 10) (tgt := 17) (ec_scod (p1 := 7) (ec_aload_n (i := 0) dJ0_isLatin1_aae02_6 rfl) rfl dJ0_isLatin1_aae02_7) dJ0_isLatin1_aae02_10 rfl)) dJ0_isLatin1_aae02_13 dJ0_isLatin1_aae02_14 rfl dJ0_isLatin1_aae02_17) dJ0_isLatin1_aae02_18 rfl
theorem s_J0_lat : MS M_J0_lat (m_den 1 S_J0_lat) := ms_of b_J0_lat (by decide +kernel) rfl rfl (fun _ => trivial)
theorem D_J0_lat {i : Nat} {M : GM} (h : sp_str i = true) : m_den 1 S_J0_lat [.ref i] M = some (.int 1, M) := by
  have e1 : (Value.ref i).category = 1 := rfl
  simp [m_den, l0, e1, S_J0_lat, s_retz, e_b, b_and, b_of, e_cs, e_c, e_un, e_scod, e_lr, h]
/-- String.length()I, charAt(I)C -/
abbrev C_J0_len : CX := (cJ0_length_8abf5, RJ0, 1, 1, 20, "length", some .int, fun _ => True)
abbrev M_J0_len : MD := (yJ0_length_8abf5, C_J0_len)
theorem k_J0_len : MOK M_J0_len 0 := ⟨ws_ini_J0, ws_code_J0_len, by decide +kernel, by decide +kernel, by decide +kernel⟩
def S_J0_len : SD := s_ret Value.int (e_bin (fun (x y : Int32) => x >>> (y &&& 31)) (e_blen (e_sval (e_lr 0))) (e_call prI (m_den 1 S_J0_cod) 1 (a_recvS (a_snoc Value.ref a_nil (e_lr 0)))))
theorem b_J0_len : SC C_J0_len 0 0 S_J0_len := by
  unfold S_J0_len
  exact sc_iret (p1 := 10) (ec_ishr (p1 := 5) (p2 := 9) (ec_blen (p1 := 4) (ec_sval (p1 := 1) (ec_aload_n (i := 0) dJ0_length_8abf5_0 rfl) rfl dJ0_length_8abf5_1) dJ0_length_8abf5_4) (ec_callVs (m := 1) (p1 := 6) (n := 0) s_J0_cod k_J0_cod rfl ws_in_J0_cod ws_se_J0_cod ⟨ws_ln_J0_335, Nat.le_of_ble_eq_true rfl, Nat.le_of_ble_eq_true rfl⟩ (ac_snoc (n := 0) (c := 1) (p1 := 5) ac_nil (ec_aload_n (i := 0) dJ0_length_8abf5_5 rfl) rfl (fun _ => rfl) rfl) (Nat.le_of_ble_eq_true rfl) dJ0_length_8abf5_6) dJ0_length_8abf5_9) dJ0_length_8abf5_10 rfl
theorem s_J0_len : MS M_J0_len (m_den 1 S_J0_len) := ms_of b_J0_len (by decide +kernel) rfl rfl (fun _ => trivial)
def str_len (id : Nat) : Option Int32 := if SPB + 100 ≤ id then (str_tab[id - (SPB + 100)]?).map (fun q => Int32.ofNat q.2.2.length) else none
def str_chr (id : Nat) (i : Int32) : Option Int32 := if SPB + 100 ≤ id ∧ 0 ≤ i then (str_tab[id - (SPB + 100)]?).bind fun q => q.2.2[i.toNatClampNeg]? else none
theorem shr_0 (x : Int32) : x >>> ((0 : Int32) &&& 31) = x := by
  have e : ((0 : Int32) &&& 31) = 0 := by decide
  rw [e]
  simp
theorem D_J0_len {j : Nat} {q : Nat × String × List Int32} {M : GM} (hq : str_tab[j]? = some q) : m_den 1 S_J0_len [.ref (SPB + 100 + j)] M = some (.int (Int32.ofNat q.2.2.length), M) := by
  have e1 : (Value.ref (SPB + 100 + j)).category = 1 := rfl
  have hj : j < 15 := (List.getElem?_eq_some_iff.mp hq).1
  have hs : sp_str (SPB + 100 + j) = true := by unfold sp_str; simp; omega
  have hb : sp_bytes (SPB + 100 + j + 100) = some q.2.2 := by
    unfold sp_bytes
    rw [if_pos (by omega), show SPB + 100 + j + 100 - (SPB + 200) = j by omega, hq]; rfl
  have hc := D_J0_cod (M := M) hs
  simp only [m_den, l0] at hc ⊢
  simp [e1, S_J0_len, s_ret, e_bin, e_blen, e_sval, e_lr, hs, hb, e_call, a_recvS, a_snoc, a_nil, recvS, prI] at hc ⊢
  simp [m_den, l0, e1, hc, prI, shr_0]
abbrev C_J0_chr : CX := (cJ0_charAt_5068e, RJ0, 2, 3, 64, "charAt", some .char, fun _ => True)
abbrev M_J0_chr : MD := (yJ0_charAt_5068e, C_J0_chr)
theorem k_J0_chr : MOK M_J0_chr 1 := ⟨ws_ini_J0, ws_code_J0_chr, by decide +kernel, by decide +kernel, by decide +kernel⟩
def S_J0_chr : SD := s_if (b_of (e_call prI (m_den 1 S_J0_lat) 1 (a_recvS (a_snoc Value.ref a_nil (e_lr 0))))) (s_retc (e_call prI (m_den 2 S_J1_chr) 2 (a_snoc Value.int (a_snoc Value.ref a_nil (e_sval (e_lr 0))) (e_li 1)))) s_none
theorem b_J0_chr : SC C_J0_chr 0 0 S_J0_chr := by
  unfold S_J0_chr
  exact sc_if (pT := 7) (pF := 16) (p2 := 0) (bc_of_F (p2 := 4) (tgt := 16) (ec_callVs (m := 1) (p1 := 1) (n := 0) s_J0_lat k_J0_lat rfl ws_in_J0_lat ws_se_J0_lat ⟨ws_ln_J0_492, Nat.le_of_ble_eq_true rfl, Nat.le_of_ble_eq_true rfl⟩ (ac_snoc (n := 0) (c := 1) (p1 := 0) ac_nil (ec_aload_n (i := 0) dJ0_charAt_5068e_0 rfl) rfl (fun _ => rfl) rfl) (Nat.le_of_ble_eq_true rfl) dJ0_charAt_5068e_1) dJ0_charAt_5068e_4 rfl) (sc_cret (p1 := 15) (ec_callS (m := 2) (p1 := 12) inj_I s_J1_chr t_J1_chr ⟨ws_ln_J0_495, Nat.le_of_ble_eq_true rfl, Nat.le_of_ble_eq_true rfl⟩ (ac_snoc (n := 1) (c := 1) (p1 := 11) (ac_snoc (n := 0) (c := 1) (p1 := 7) ac_nil (ec_sval (p1 := 8) (ec_aload_n (i := 0) dJ0_charAt_5068e_7 rfl) rfl dJ0_charAt_5068e_8) rfl (fun _ => rfl) rfl) (ec_iload_n (i := 1) dJ0_charAt_5068e_11 rfl) rfl (fun _ => rfl) rfl) (Nat.le_of_ble_eq_true rfl) dJ0_charAt_5068e_12) dJ0_charAt_5068e_15 rfl) sc_none
theorem s_J0_chr : MS M_J0_chr (m_den 2 S_J0_chr) := ms_of b_J0_chr (by decide +kernel) rfl rfl (fun _ => trivial)
theorem D_J0_chr {j : Nat} {q : Nat × String × List Int32} {i v : Int32} {M : GM} (hq : str_tab[j]? = some q) (h0 : 0 ≤ i) (hv : q.2.2[i.toNatClampNeg]? = some v) : m_den 2 S_J0_chr [.ref (SPB + 100 + j), .int i] M = some (.int v, M) := by
  have e0 : (Value.int i).category = 1 := rfl
  have e1 : (Value.ref (SPB + 100 + j)).category = 1 := rfl
  have hj : j < 15 := (List.getElem?_eq_some_iff.mp hq).1
  have hs : sp_str (SPB + 100 + j) = true := by unfold sp_str; simp; omega
  have hL := D_J0_lat (M := M) hs
  have hC := D_J1_chr (M := M) hq h0 hv
  have e3 : SPB + 100 + j + 100 = SPB + 200 + j := by omega
  have hsm := str_small q (List.mem_of_getElem? hq) v (List.mem_of_getElem? hv)
  have e4 : m_den 2 S_J0_chr [.ref (SPB + 100 + j), .int i] M = (match S_J0_chr [.ref (SPB + 100 + j), .int i] M with
    | some (.inr q) => some q
    | _ => none) := rfl
  rw [e4]
  unfold S_J0_chr s_if b_of e_call a_recvS a_snoc a_nil e_lr recvS e_sval e_li s_retc
  simp [hs, hL, prI, e3, hC, hsm]
def e_slen (r : DE Nat) : DE Int32 := fun L M => (r L M).bind fun p => (str_len p.1).bind fun v => some (v, p.2)
def e_char (r : DE Nat) (ix : DE Int32) : DE Int32 := fun L M => (r L M).bind fun p => (ix L p.2).bind fun q => (str_chr p.1 q.1).bind fun v => some (v, q.2)
theorem ec_slen {C : CX} {k pc p1 idx : Nat} {r : DE Nat} (hr : EC C Value.ref k pc p1 r) (hl : Cond.methodLink (c_own C) idx yJ0_length_8abf5 ∈ lw_g) (hk8 : k ≤ 8) (hR : 2 ≤ c_fr C ∧ 40 ≤ c_lo C) (hd : decode (c_cc C) p1 = .ok (.invokevirtual idx, 3)) : EC C Value.int k pc (p1 + 3) (e_slen r) := by
  intro L M v M' he
  obtain ⟨⟨id, M1⟩, h1, h2⟩ := bind_some he
  obtain ⟨x, h3, h4⟩ := bind_some h2
  cases h4
  obtain ⟨g, w⟩ := hr L M id _ h1
  simp only at h3
  unfold str_len at h3
  by_cases hc : SPB + 100 ≤ id
  · rw [if_pos hc] at h3
    cases hq : str_tab[id - (SPB + 100)]? with
    | none => rw [hq] at h3; cases h3
    | some q =>
      rw [hq] at h3
      cases h3
      have hj : id - (SPB + 100) < 15 := (List.getElem?_eq_some_iff.mp hq).1
      have e : SPB + 100 + (id - (SPB + 100)) = id := by omega
      have hD := D_J0_len (M := M1) hq
      rw [e] at hD
      obtain ⟨g2, hc2⟩ := s_J0_len _ _ _ _ hD
      exact ⟨g, fun X hX st hk hf ww => w X hX st hk hf (wa_callVs (d := M_J0_len) (vs := [.ref id]) hX k_J0_len rfl ws_in_J0_len ws_se_J0_len hl hR hd rfl (by unfold recvS sp_str; simp; omega) (Nat.le_trans hk hk8) (gm_le.rf _) hf (hc2 _ _ hX.2.2.2.2.2.2.1 (Nat.lt_of_le_of_lt hf.1 hX.2.2.2.2.2.2.2.2.2.1)) ww)⟩
  · rw [if_neg hc] at h3; cases h3
theorem ec_char {C : CX} {k pc p1 p2 idx : Nat} {r : DE Nat} {ix : DE Int32} (hr : EC C Value.ref k pc p1 r) (hi : EC C Value.int (1 + k) p1 p2 ix) (hl : Cond.methodLink (c_own C) idx yJ0_charAt_5068e ∈ lw_g) (hk8 : k ≤ 8) (hR : 4 ≤ c_fr C ∧ 85 ≤ c_lo C) (hd : decode (c_cc C) p2 = .ok (.invokevirtual idx, 3)) : EC C Value.int k pc (p2 + 3) (e_char r ix) := by
  intro L M v M' he
  obtain ⟨⟨id, M1⟩, h1, h2⟩ := bind_some he
  obtain ⟨⟨i, M2⟩, h3, h4⟩ := bind_some h2
  obtain ⟨x, h5, h6⟩ := bind_some h4
  cases h6
  obtain ⟨g1, w1⟩ := hr L M id _ h1
  obtain ⟨g2, w2⟩ := hi L M1 i _ h3
  simp only at h5
  unfold str_chr at h5
  by_cases hc : SPB + 100 ≤ id ∧ 0 ≤ i
  · rw [if_pos hc] at h5
    obtain ⟨q, hq, hv⟩ := bind_some h5
    have hj : id - (SPB + 100) < 15 := (List.getElem?_eq_some_iff.mp hq).1
    have e : SPB + 100 + (id - (SPB + 100)) = id := by omega
    have hD := D_J0_chr (M := M2) hq hc.2 hv
    rw [e] at hD
    obtain ⟨g3, hc2⟩ := s_J0_chr _ _ _ _ hD
    exact ⟨g1.tr g2, fun X hX st hk hf w => w1 X hX st hk (g2.tr hf) (w2 X hX (.ref id :: st) (by rw [csum_cons]; show 1 + csum st ≤ 1 + k; omega) hf (wa_callVs (d := M_J0_chr) (vs := [.ref id, .int i]) hX k_J0_chr rfl ws_in_J0_chr ws_se_J0_chr hl hR hd rfl (by unfold recvS sp_str; simp; omega) (Nat.le_trans hk hk8) (gm_le.rf _) hf (hc2 _ _ hX.2.2.2.2.2.2.1 (Nat.lt_of_le_of_lt hf.1 hX.2.2.2.2.2.2.2.2.2.1)) w))⟩
  · rw [if_neg hc] at h5; cases h5
