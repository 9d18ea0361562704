/-! the start: what the Statement gives, as the world's words; the law's walk out of its denotation -/
abbrev gv_l : List Cond := flatC (Jvm.Cond.and given_1 narrow_1)
abbrev tm_st (i : Nat) : Term := .static RX6 (st_tab.getD i ("", [])).1 "[I"
abbrev tm_str (i : Nat) : Term := .string RX1 (str_tab.getD i (0, "", [])).1
abbrev tm_val (i : Nat) : Term := .field (tm_str i) "java/lang/String" "value" "[B"
theorem gv_ar : ∀ i, i < 5 → Cond.arrayOf (tm_st i) .int ∈ gv_l := by decide +kernel
theorem gv_ln : ∀ i, i < 5 → Cond.eq (.length (tm_st i)) (.int (Int32.ofNat (st_tab.getD i ("", [])).2.length)) ∈ gv_l := by decide +kernel
theorem gv_el : ∀ i, i < 5 → ∀ j, j < (st_tab.getD i ("", [])).2.length → Cond.eq (.elem (tm_st i) (.int (Int32.ofNat j))) (.int ((st_tab.getD i ("", [])).2.getD j 0)) ∈ gv_l := by decide +kernel
theorem gv_lay : ∀ i, i < 5 → Cond.laysStatic RX6 (st_tab.getD i ("", [])).1 "[I" ∈ lw_tbl := by decide +kernel
theorem gs_ex : ∀ i, i < 15 → Cond.exactly (tm_str i) "java/lang/String" ∈ gv_l := by decide +kernel
theorem gs_co : ∀ i, i < 15 → Cond.eq (.field (tm_str i) "java/lang/String" "coder" "B") (.int 0) ∈ gv_l := by decide +kernel
theorem gs_ar : ∀ i, i < 15 → Cond.arrayOf (tm_val i) .byte ∈ gv_l := by decide +kernel
theorem gs_ln : ∀ i, i < 15 → Cond.eq (.length (tm_val i)) (.int (Int32.ofNat ((str_tab.map (fun q => q.2.2.length)).getD i 0))) ∈ gv_l := by decide +kernel
theorem gs_el : ∀ i, i < 15 → ∀ j, j < (str_tab.map (fun q => q.2.2.length)).getD i 0 → Cond.eq (.elem (tm_val i) (.int (Int32.ofNat j))) (.int (((str_tab.map (fun q => q.2.2)).getD i []).getD j 0)) ∈ gv_l := by decide +kernel
theorem ne_0_1 : Cond.not (Cond.eq (tm_str 0) (tm_str 1)) ∈ gv_l := List.mem_of_getElem? (i := 200) (by decide +kernel)
theorem ne_0_2 : Cond.not (Cond.eq (tm_str 0) (tm_str 2)) ∈ gv_l := List.mem_of_getElem? (i := 184) (by decide +kernel)
theorem ne_0_3 : Cond.not (Cond.eq (tm_str 0) (tm_str 3)) ∈ gv_l := List.mem_of_getElem? (i := 215) (by decide +kernel)
theorem ne_0_4 : Cond.not (Cond.eq (tm_str 0) (tm_str 4)) ∈ gv_l := List.mem_of_getElem? (i := 233) (by decide +kernel)
theorem ne_0_5 : Cond.not (Cond.eq (tm_str 0) (tm_str 5)) ∈ gv_l := List.mem_of_getElem? (i := 252) (by decide +kernel)
theorem ne_0_6 : Cond.not (Cond.eq (tm_str 0) (tm_str 6)) ∈ gv_l := List.mem_of_getElem? (i := 272) (by decide +kernel)
theorem ne_0_7 : Cond.not (Cond.eq (tm_str 0) (tm_str 7)) ∈ gv_l := List.mem_of_getElem? (i := 293) (by decide +kernel)
theorem ne_1_3 : Cond.not (Cond.eq (tm_str 1) (tm_str 3)) ∈ gv_l := List.mem_of_getElem? (i := 217) (by decide +kernel)
theorem ne_1_4 : Cond.not (Cond.eq (tm_str 1) (tm_str 4)) ∈ gv_l := List.mem_of_getElem? (i := 235) (by decide +kernel)
theorem ne_1_5 : Cond.not (Cond.eq (tm_str 1) (tm_str 5)) ∈ gv_l := List.mem_of_getElem? (i := 254) (by decide +kernel)
theorem ne_1_6 : Cond.not (Cond.eq (tm_str 1) (tm_str 6)) ∈ gv_l := List.mem_of_getElem? (i := 274) (by decide +kernel)
theorem ne_1_7 : Cond.not (Cond.eq (tm_str 1) (tm_str 7)) ∈ gv_l := List.mem_of_getElem? (i := 295) (by decide +kernel)
theorem ne_2_1 : Cond.not (Cond.eq (tm_str 2) (tm_str 1)) ∈ gv_l := List.mem_of_getElem? (i := 201) (by decide +kernel)
theorem ne_2_3 : Cond.not (Cond.eq (tm_str 2) (tm_str 3)) ∈ gv_l := List.mem_of_getElem? (i := 216) (by decide +kernel)
theorem ne_2_4 : Cond.not (Cond.eq (tm_str 2) (tm_str 4)) ∈ gv_l := List.mem_of_getElem? (i := 234) (by decide +kernel)
theorem ne_2_5 : Cond.not (Cond.eq (tm_str 2) (tm_str 5)) ∈ gv_l := List.mem_of_getElem? (i := 253) (by decide +kernel)
theorem ne_2_6 : Cond.not (Cond.eq (tm_str 2) (tm_str 6)) ∈ gv_l := List.mem_of_getElem? (i := 273) (by decide +kernel)
theorem ne_2_7 : Cond.not (Cond.eq (tm_str 2) (tm_str 7)) ∈ gv_l := List.mem_of_getElem? (i := 294) (by decide +kernel)
theorem ne_3_4 : Cond.not (Cond.eq (tm_str 3) (tm_str 4)) ∈ gv_l := List.mem_of_getElem? (i := 236) (by decide +kernel)
theorem ne_3_5 : Cond.not (Cond.eq (tm_str 3) (tm_str 5)) ∈ gv_l := List.mem_of_getElem? (i := 255) (by decide +kernel)
theorem ne_3_6 : Cond.not (Cond.eq (tm_str 3) (tm_str 6)) ∈ gv_l := List.mem_of_getElem? (i := 275) (by decide +kernel)
theorem ne_3_7 : Cond.not (Cond.eq (tm_str 3) (tm_str 7)) ∈ gv_l := List.mem_of_getElem? (i := 296) (by decide +kernel)
theorem ne_4_5 : Cond.not (Cond.eq (tm_str 4) (tm_str 5)) ∈ gv_l := List.mem_of_getElem? (i := 256) (by decide +kernel)
theorem ne_4_6 : Cond.not (Cond.eq (tm_str 4) (tm_str 6)) ∈ gv_l := List.mem_of_getElem? (i := 276) (by decide +kernel)
theorem ne_4_7 : Cond.not (Cond.eq (tm_str 4) (tm_str 7)) ∈ gv_l := List.mem_of_getElem? (i := 297) (by decide +kernel)
theorem ne_5_6 : Cond.not (Cond.eq (tm_str 5) (tm_str 6)) ∈ gv_l := List.mem_of_getElem? (i := 277) (by decide +kernel)
theorem ne_5_7 : Cond.not (Cond.eq (tm_str 5) (tm_str 7)) ∈ gv_l := List.mem_of_getElem? (i := 298) (by decide +kernel)
theorem ne_6_7 : Cond.not (Cond.eq (tm_str 6) (tm_str 7)) ∈ gv_l := List.mem_of_getElem? (i := 299) (by decide +kernel)
theorem ne_8_0 : Cond.not (Cond.eq (tm_str 8) (tm_str 0)) ∈ gv_l := List.mem_of_getElem? (i := 164) (by decide +kernel)
theorem ne_8_1 : Cond.not (Cond.eq (tm_str 8) (tm_str 1)) ∈ gv_l := List.mem_of_getElem? (i := 193) (by decide +kernel)
theorem ne_8_2 : Cond.not (Cond.eq (tm_str 8) (tm_str 2)) ∈ gv_l := List.mem_of_getElem? (i := 177) (by decide +kernel)
theorem ne_8_3 : Cond.not (Cond.eq (tm_str 8) (tm_str 3)) ∈ gv_l := List.mem_of_getElem? (i := 208) (by decide +kernel)
theorem ne_8_4 : Cond.not (Cond.eq (tm_str 8) (tm_str 4)) ∈ gv_l := List.mem_of_getElem? (i := 226) (by decide +kernel)
theorem ne_8_5 : Cond.not (Cond.eq (tm_str 8) (tm_str 5)) ∈ gv_l := List.mem_of_getElem? (i := 245) (by decide +kernel)
theorem ne_8_6 : Cond.not (Cond.eq (tm_str 8) (tm_str 6)) ∈ gv_l := List.mem_of_getElem? (i := 265) (by decide +kernel)
theorem ne_8_7 : Cond.not (Cond.eq (tm_str 8) (tm_str 7)) ∈ gv_l := List.mem_of_getElem? (i := 286) (by decide +kernel)
theorem ne_8_9 : Cond.not (Cond.eq (tm_str 8) (tm_str 9)) ∈ gv_l := List.mem_of_getElem? (i := 92) (by decide +kernel)
theorem ne_8_10 : Cond.not (Cond.eq (tm_str 8) (tm_str 10)) ∈ gv_l := List.mem_of_getElem? (i := 102) (by decide +kernel)
theorem ne_8_11 : Cond.not (Cond.eq (tm_str 8) (tm_str 11)) ∈ gv_l := List.mem_of_getElem? (i := 112) (by decide +kernel)
theorem ne_8_12 : Cond.not (Cond.eq (tm_str 8) (tm_str 12)) ∈ gv_l := List.mem_of_getElem? (i := 122) (by decide +kernel)
theorem ne_8_13 : Cond.not (Cond.eq (tm_str 8) (tm_str 13)) ∈ gv_l := List.mem_of_getElem? (i := 134) (by decide +kernel)
theorem ne_8_14 : Cond.not (Cond.eq (tm_str 8) (tm_str 14)) ∈ gv_l := List.mem_of_getElem? (i := 150) (by decide +kernel)
theorem ne_9_0 : Cond.not (Cond.eq (tm_str 9) (tm_str 0)) ∈ gv_l := List.mem_of_getElem? (i := 165) (by decide +kernel)
theorem ne_9_1 : Cond.not (Cond.eq (tm_str 9) (tm_str 1)) ∈ gv_l := List.mem_of_getElem? (i := 194) (by decide +kernel)
theorem ne_9_2 : Cond.not (Cond.eq (tm_str 9) (tm_str 2)) ∈ gv_l := List.mem_of_getElem? (i := 178) (by decide +kernel)
theorem ne_9_3 : Cond.not (Cond.eq (tm_str 9) (tm_str 3)) ∈ gv_l := List.mem_of_getElem? (i := 209) (by decide +kernel)
theorem ne_9_4 : Cond.not (Cond.eq (tm_str 9) (tm_str 4)) ∈ gv_l := List.mem_of_getElem? (i := 227) (by decide +kernel)
theorem ne_9_5 : Cond.not (Cond.eq (tm_str 9) (tm_str 5)) ∈ gv_l := List.mem_of_getElem? (i := 246) (by decide +kernel)
theorem ne_9_6 : Cond.not (Cond.eq (tm_str 9) (tm_str 6)) ∈ gv_l := List.mem_of_getElem? (i := 266) (by decide +kernel)
theorem ne_9_7 : Cond.not (Cond.eq (tm_str 9) (tm_str 7)) ∈ gv_l := List.mem_of_getElem? (i := 287) (by decide +kernel)
theorem ne_9_10 : Cond.not (Cond.eq (tm_str 9) (tm_str 10)) ∈ gv_l := List.mem_of_getElem? (i := 103) (by decide +kernel)
theorem ne_9_11 : Cond.not (Cond.eq (tm_str 9) (tm_str 11)) ∈ gv_l := List.mem_of_getElem? (i := 113) (by decide +kernel)
theorem ne_9_12 : Cond.not (Cond.eq (tm_str 9) (tm_str 12)) ∈ gv_l := List.mem_of_getElem? (i := 123) (by decide +kernel)
theorem ne_9_13 : Cond.not (Cond.eq (tm_str 9) (tm_str 13)) ∈ gv_l := List.mem_of_getElem? (i := 135) (by decide +kernel)
theorem ne_9_14 : Cond.not (Cond.eq (tm_str 9) (tm_str 14)) ∈ gv_l := List.mem_of_getElem? (i := 151) (by decide +kernel)
theorem ne_10_0 : Cond.not (Cond.eq (tm_str 10) (tm_str 0)) ∈ gv_l := List.mem_of_getElem? (i := 166) (by decide +kernel)
theorem ne_10_1 : Cond.not (Cond.eq (tm_str 10) (tm_str 1)) ∈ gv_l := List.mem_of_getElem? (i := 195) (by decide +kernel)
theorem ne_10_2 : Cond.not (Cond.eq (tm_str 10) (tm_str 2)) ∈ gv_l := List.mem_of_getElem? (i := 179) (by decide +kernel)
theorem ne_10_3 : Cond.not (Cond.eq (tm_str 10) (tm_str 3)) ∈ gv_l := List.mem_of_getElem? (i := 210) (by decide +kernel)
theorem ne_10_4 : Cond.not (Cond.eq (tm_str 10) (tm_str 4)) ∈ gv_l := List.mem_of_getElem? (i := 228) (by decide +kernel)
theorem ne_10_5 : Cond.not (Cond.eq (tm_str 10) (tm_str 5)) ∈ gv_l := List.mem_of_getElem? (i := 247) (by decide +kernel)
theorem ne_10_6 : Cond.not (Cond.eq (tm_str 10) (tm_str 6)) ∈ gv_l := List.mem_of_getElem? (i := 267) (by decide +kernel)
theorem ne_10_7 : Cond.not (Cond.eq (tm_str 10) (tm_str 7)) ∈ gv_l := List.mem_of_getElem? (i := 288) (by decide +kernel)
theorem ne_10_11 : Cond.not (Cond.eq (tm_str 10) (tm_str 11)) ∈ gv_l := List.mem_of_getElem? (i := 114) (by decide +kernel)
theorem ne_10_12 : Cond.not (Cond.eq (tm_str 10) (tm_str 12)) ∈ gv_l := List.mem_of_getElem? (i := 124) (by decide +kernel)
theorem ne_10_13 : Cond.not (Cond.eq (tm_str 10) (tm_str 13)) ∈ gv_l := List.mem_of_getElem? (i := 136) (by decide +kernel)
theorem ne_10_14 : Cond.not (Cond.eq (tm_str 10) (tm_str 14)) ∈ gv_l := List.mem_of_getElem? (i := 152) (by decide +kernel)
theorem ne_11_0 : Cond.not (Cond.eq (tm_str 11) (tm_str 0)) ∈ gv_l := List.mem_of_getElem? (i := 167) (by decide +kernel)
theorem ne_11_1 : Cond.not (Cond.eq (tm_str 11) (tm_str 1)) ∈ gv_l := List.mem_of_getElem? (i := 196) (by decide +kernel)
theorem ne_11_2 : Cond.not (Cond.eq (tm_str 11) (tm_str 2)) ∈ gv_l := List.mem_of_getElem? (i := 180) (by decide +kernel)
theorem ne_11_3 : Cond.not (Cond.eq (tm_str 11) (tm_str 3)) ∈ gv_l := List.mem_of_getElem? (i := 211) (by decide +kernel)
theorem ne_11_4 : Cond.not (Cond.eq (tm_str 11) (tm_str 4)) ∈ gv_l := List.mem_of_getElem? (i := 229) (by decide +kernel)
theorem ne_11_5 : Cond.not (Cond.eq (tm_str 11) (tm_str 5)) ∈ gv_l := List.mem_of_getElem? (i := 248) (by decide +kernel)
theorem ne_11_6 : Cond.not (Cond.eq (tm_str 11) (tm_str 6)) ∈ gv_l := List.mem_of_getElem? (i := 268) (by decide +kernel)
theorem ne_11_7 : Cond.not (Cond.eq (tm_str 11) (tm_str 7)) ∈ gv_l := List.mem_of_getElem? (i := 289) (by decide +kernel)
theorem ne_11_12 : Cond.not (Cond.eq (tm_str 11) (tm_str 12)) ∈ gv_l := List.mem_of_getElem? (i := 125) (by decide +kernel)
theorem ne_11_13 : Cond.not (Cond.eq (tm_str 11) (tm_str 13)) ∈ gv_l := List.mem_of_getElem? (i := 137) (by decide +kernel)
theorem ne_11_14 : Cond.not (Cond.eq (tm_str 11) (tm_str 14)) ∈ gv_l := List.mem_of_getElem? (i := 153) (by decide +kernel)
theorem ne_12_0 : Cond.not (Cond.eq (tm_str 12) (tm_str 0)) ∈ gv_l := List.mem_of_getElem? (i := 168) (by decide +kernel)
theorem ne_12_1 : Cond.not (Cond.eq (tm_str 12) (tm_str 1)) ∈ gv_l := List.mem_of_getElem? (i := 197) (by decide +kernel)
theorem ne_12_2 : Cond.not (Cond.eq (tm_str 12) (tm_str 2)) ∈ gv_l := List.mem_of_getElem? (i := 181) (by decide +kernel)
theorem ne_12_3 : Cond.not (Cond.eq (tm_str 12) (tm_str 3)) ∈ gv_l := List.mem_of_getElem? (i := 212) (by decide +kernel)
theorem ne_12_4 : Cond.not (Cond.eq (tm_str 12) (tm_str 4)) ∈ gv_l := List.mem_of_getElem? (i := 230) (by decide +kernel)
theorem ne_12_5 : Cond.not (Cond.eq (tm_str 12) (tm_str 5)) ∈ gv_l := List.mem_of_getElem? (i := 249) (by decide +kernel)
theorem ne_12_6 : Cond.not (Cond.eq (tm_str 12) (tm_str 6)) ∈ gv_l := List.mem_of_getElem? (i := 269) (by decide +kernel)
theorem ne_12_7 : Cond.not (Cond.eq (tm_str 12) (tm_str 7)) ∈ gv_l := List.mem_of_getElem? (i := 290) (by decide +kernel)
theorem ne_12_13 : Cond.not (Cond.eq (tm_str 12) (tm_str 13)) ∈ gv_l := List.mem_of_getElem? (i := 138) (by decide +kernel)
theorem ne_12_14 : Cond.not (Cond.eq (tm_str 12) (tm_str 14)) ∈ gv_l := List.mem_of_getElem? (i := 154) (by decide +kernel)
theorem ne_13_0 : Cond.not (Cond.eq (tm_str 13) (tm_str 0)) ∈ gv_l := List.mem_of_getElem? (i := 169) (by decide +kernel)
theorem ne_13_1 : Cond.not (Cond.eq (tm_str 13) (tm_str 1)) ∈ gv_l := List.mem_of_getElem? (i := 198) (by decide +kernel)
theorem ne_13_2 : Cond.not (Cond.eq (tm_str 13) (tm_str 2)) ∈ gv_l := List.mem_of_getElem? (i := 182) (by decide +kernel)
theorem ne_13_3 : Cond.not (Cond.eq (tm_str 13) (tm_str 3)) ∈ gv_l := List.mem_of_getElem? (i := 213) (by decide +kernel)
theorem ne_13_4 : Cond.not (Cond.eq (tm_str 13) (tm_str 4)) ∈ gv_l := List.mem_of_getElem? (i := 231) (by decide +kernel)
theorem ne_13_5 : Cond.not (Cond.eq (tm_str 13) (tm_str 5)) ∈ gv_l := List.mem_of_getElem? (i := 250) (by decide +kernel)
theorem ne_13_6 : Cond.not (Cond.eq (tm_str 13) (tm_str 6)) ∈ gv_l := List.mem_of_getElem? (i := 270) (by decide +kernel)
theorem ne_13_7 : Cond.not (Cond.eq (tm_str 13) (tm_str 7)) ∈ gv_l := List.mem_of_getElem? (i := 291) (by decide +kernel)
theorem ne_13_14 : Cond.not (Cond.eq (tm_str 13) (tm_str 14)) ∈ gv_l := List.mem_of_getElem? (i := 155) (by decide +kernel)
theorem ne_14_0 : Cond.not (Cond.eq (tm_str 14) (tm_str 0)) ∈ gv_l := List.mem_of_getElem? (i := 170) (by decide +kernel)
theorem ne_14_1 : Cond.not (Cond.eq (tm_str 14) (tm_str 1)) ∈ gv_l := List.mem_of_getElem? (i := 199) (by decide +kernel)
theorem ne_14_2 : Cond.not (Cond.eq (tm_str 14) (tm_str 2)) ∈ gv_l := List.mem_of_getElem? (i := 183) (by decide +kernel)
theorem ne_14_3 : Cond.not (Cond.eq (tm_str 14) (tm_str 3)) ∈ gv_l := List.mem_of_getElem? (i := 214) (by decide +kernel)
theorem ne_14_4 : Cond.not (Cond.eq (tm_str 14) (tm_str 4)) ∈ gv_l := List.mem_of_getElem? (i := 232) (by decide +kernel)
theorem ne_14_5 : Cond.not (Cond.eq (tm_str 14) (tm_str 5)) ∈ gv_l := List.mem_of_getElem? (i := 251) (by decide +kernel)
theorem ne_14_6 : Cond.not (Cond.eq (tm_str 14) (tm_str 6)) ∈ gv_l := List.mem_of_getElem? (i := 271) (by decide +kernel)
theorem ne_14_7 : Cond.not (Cond.eq (tm_str 14) (tm_str 7)) ∈ gv_l := List.mem_of_getElem? (i := 292) (by decide +kernel)
theorem gs_ne_0 : ∀ j, j < 15 → 0 ≠ j → Cond.not (Cond.eq (tm_str 0) (tm_str j)) ∈ gv_l ∨ Cond.not (Cond.eq (tm_str j) (tm_str 0)) ∈ gv_l := by
  intro j hj hn
  match j, hj, hn with
  | 0, _, hn => exact absurd rfl hn
  | 1, _, _ => exact Or.inl ne_0_1
  | 2, _, _ => exact Or.inl ne_0_2
  | 3, _, _ => exact Or.inl ne_0_3
  | 4, _, _ => exact Or.inl ne_0_4
  | 5, _, _ => exact Or.inl ne_0_5
  | 6, _, _ => exact Or.inl ne_0_6
  | 7, _, _ => exact Or.inl ne_0_7
  | 8, _, _ => exact Or.inr ne_8_0
  | 9, _, _ => exact Or.inr ne_9_0
  | 10, _, _ => exact Or.inr ne_10_0
  | 11, _, _ => exact Or.inr ne_11_0
  | 12, _, _ => exact Or.inr ne_12_0
  | 13, _, _ => exact Or.inr ne_13_0
  | 14, _, _ => exact Or.inr ne_14_0
  | k + 15, hk, _ => exact absurd hk (by omega)
theorem gs_ne_1 : ∀ j, j < 15 → 1 ≠ j → Cond.not (Cond.eq (tm_str 1) (tm_str j)) ∈ gv_l ∨ Cond.not (Cond.eq (tm_str j) (tm_str 1)) ∈ gv_l := by
  intro j hj hn
  match j, hj, hn with
  | 0, _, _ => exact Or.inr ne_0_1
  | 1, _, hn => exact absurd rfl hn
  | 2, _, _ => exact Or.inr ne_2_1
  | 3, _, _ => exact Or.inl ne_1_3
  | 4, _, _ => exact Or.inl ne_1_4
  | 5, _, _ => exact Or.inl ne_1_5
  | 6, _, _ => exact Or.inl ne_1_6
  | 7, _, _ => exact Or.inl ne_1_7
  | 8, _, _ => exact Or.inr ne_8_1
  | 9, _, _ => exact Or.inr ne_9_1
  | 10, _, _ => exact Or.inr ne_10_1
  | 11, _, _ => exact Or.inr ne_11_1
  | 12, _, _ => exact Or.inr ne_12_1
  | 13, _, _ => exact Or.inr ne_13_1
  | 14, _, _ => exact Or.inr ne_14_1
  | k + 15, hk, _ => exact absurd hk (by omega)
theorem gs_ne_2 : ∀ j, j < 15 → 2 ≠ j → Cond.not (Cond.eq (tm_str 2) (tm_str j)) ∈ gv_l ∨ Cond.not (Cond.eq (tm_str j) (tm_str 2)) ∈ gv_l := by
  intro j hj hn
  match j, hj, hn with
  | 0, _, _ => exact Or.inr ne_0_2
  | 1, _, _ => exact Or.inl ne_2_1
  | 2, _, hn => exact absurd rfl hn
  | 3, _, _ => exact Or.inl ne_2_3
  | 4, _, _ => exact Or.inl ne_2_4
  | 5, _, _ => exact Or.inl ne_2_5
  | 6, _, _ => exact Or.inl ne_2_6
  | 7, _, _ => exact Or.inl ne_2_7
  | 8, _, _ => exact Or.inr ne_8_2
  | 9, _, _ => exact Or.inr ne_9_2
  | 10, _, _ => exact Or.inr ne_10_2
  | 11, _, _ => exact Or.inr ne_11_2
  | 12, _, _ => exact Or.inr ne_12_2
  | 13, _, _ => exact Or.inr ne_13_2
  | 14, _, _ => exact Or.inr ne_14_2
  | k + 15, hk, _ => exact absurd hk (by omega)
theorem gs_ne_3 : ∀ j, j < 15 → 3 ≠ j → Cond.not (Cond.eq (tm_str 3) (tm_str j)) ∈ gv_l ∨ Cond.not (Cond.eq (tm_str j) (tm_str 3)) ∈ gv_l := by
  intro j hj hn
  match j, hj, hn with
  | 0, _, _ => exact Or.inr ne_0_3
  | 1, _, _ => exact Or.inr ne_1_3
  | 2, _, _ => exact Or.inr ne_2_3
  | 3, _, hn => exact absurd rfl hn
  | 4, _, _ => exact Or.inl ne_3_4
  | 5, _, _ => exact Or.inl ne_3_5
  | 6, _, _ => exact Or.inl ne_3_6
  | 7, _, _ => exact Or.inl ne_3_7
  | 8, _, _ => exact Or.inr ne_8_3
  | 9, _, _ => exact Or.inr ne_9_3
  | 10, _, _ => exact Or.inr ne_10_3
  | 11, _, _ => exact Or.inr ne_11_3
  | 12, _, _ => exact Or.inr ne_12_3
  | 13, _, _ => exact Or.inr ne_13_3
  | 14, _, _ => exact Or.inr ne_14_3
  | k + 15, hk, _ => exact absurd hk (by omega)
theorem gs_ne_4 : ∀ j, j < 15 → 4 ≠ j → Cond.not (Cond.eq (tm_str 4) (tm_str j)) ∈ gv_l ∨ Cond.not (Cond.eq (tm_str j) (tm_str 4)) ∈ gv_l := by
  intro j hj hn
  match j, hj, hn with
  | 0, _, _ => exact Or.inr ne_0_4
  | 1, _, _ => exact Or.inr ne_1_4
  | 2, _, _ => exact Or.inr ne_2_4
  | 3, _, _ => exact Or.inr ne_3_4
  | 4, _, hn => exact absurd rfl hn
  | 5, _, _ => exact Or.inl ne_4_5
  | 6, _, _ => exact Or.inl ne_4_6
  | 7, _, _ => exact Or.inl ne_4_7
  | 8, _, _ => exact Or.inr ne_8_4
  | 9, _, _ => exact Or.inr ne_9_4
  | 10, _, _ => exact Or.inr ne_10_4
  | 11, _, _ => exact Or.inr ne_11_4
  | 12, _, _ => exact Or.inr ne_12_4
  | 13, _, _ => exact Or.inr ne_13_4
  | 14, _, _ => exact Or.inr ne_14_4
  | k + 15, hk, _ => exact absurd hk (by omega)
theorem gs_ne_5 : ∀ j, j < 15 → 5 ≠ j → Cond.not (Cond.eq (tm_str 5) (tm_str j)) ∈ gv_l ∨ Cond.not (Cond.eq (tm_str j) (tm_str 5)) ∈ gv_l := by
  intro j hj hn
  match j, hj, hn with
  | 0, _, _ => exact Or.inr ne_0_5
  | 1, _, _ => exact Or.inr ne_1_5
  | 2, _, _ => exact Or.inr ne_2_5
  | 3, _, _ => exact Or.inr ne_3_5
  | 4, _, _ => exact Or.inr ne_4_5
  | 5, _, hn => exact absurd rfl hn
  | 6, _, _ => exact Or.inl ne_5_6
  | 7, _, _ => exact Or.inl ne_5_7
  | 8, _, _ => exact Or.inr ne_8_5
  | 9, _, _ => exact Or.inr ne_9_5
  | 10, _, _ => exact Or.inr ne_10_5
  | 11, _, _ => exact Or.inr ne_11_5
  | 12, _, _ => exact Or.inr ne_12_5
  | 13, _, _ => exact Or.inr ne_13_5
  | 14, _, _ => exact Or.inr ne_14_5
  | k + 15, hk, _ => exact absurd hk (by omega)
theorem gs_ne_6 : ∀ j, j < 15 → 6 ≠ j → Cond.not (Cond.eq (tm_str 6) (tm_str j)) ∈ gv_l ∨ Cond.not (Cond.eq (tm_str j) (tm_str 6)) ∈ gv_l := by
  intro j hj hn
  match j, hj, hn with
  | 0, _, _ => exact Or.inr ne_0_6
  | 1, _, _ => exact Or.inr ne_1_6
  | 2, _, _ => exact Or.inr ne_2_6
  | 3, _, _ => exact Or.inr ne_3_6
  | 4, _, _ => exact Or.inr ne_4_6
  | 5, _, _ => exact Or.inr ne_5_6
  | 6, _, hn => exact absurd rfl hn
  | 7, _, _ => exact Or.inl ne_6_7
  | 8, _, _ => exact Or.inr ne_8_6
  | 9, _, _ => exact Or.inr ne_9_6
  | 10, _, _ => exact Or.inr ne_10_6
  | 11, _, _ => exact Or.inr ne_11_6
  | 12, _, _ => exact Or.inr ne_12_6
  | 13, _, _ => exact Or.inr ne_13_6
  | 14, _, _ => exact Or.inr ne_14_6
  | k + 15, hk, _ => exact absurd hk (by omega)
theorem gs_ne_7 : ∀ j, j < 15 → 7 ≠ j → Cond.not (Cond.eq (tm_str 7) (tm_str j)) ∈ gv_l ∨ Cond.not (Cond.eq (tm_str j) (tm_str 7)) ∈ gv_l := by
  intro j hj hn
  match j, hj, hn with
  | 0, _, _ => exact Or.inr ne_0_7
  | 1, _, _ => exact Or.inr ne_1_7
  | 2, _, _ => exact Or.inr ne_2_7
  | 3, _, _ => exact Or.inr ne_3_7
  | 4, _, _ => exact Or.inr ne_4_7
  | 5, _, _ => exact Or.inr ne_5_7
  | 6, _, _ => exact Or.inr ne_6_7
  | 7, _, hn => exact absurd rfl hn
  | 8, _, _ => exact Or.inr ne_8_7
  | 9, _, _ => exact Or.inr ne_9_7
  | 10, _, _ => exact Or.inr ne_10_7
  | 11, _, _ => exact Or.inr ne_11_7
  | 12, _, _ => exact Or.inr ne_12_7
  | 13, _, _ => exact Or.inr ne_13_7
  | 14, _, _ => exact Or.inr ne_14_7
  | k + 15, hk, _ => exact absurd hk (by omega)
theorem gs_ne_8 : ∀ j, j < 15 → 8 ≠ j → Cond.not (Cond.eq (tm_str 8) (tm_str j)) ∈ gv_l ∨ Cond.not (Cond.eq (tm_str j) (tm_str 8)) ∈ gv_l := by
  intro j hj hn
  match j, hj, hn with
  | 0, _, _ => exact Or.inl ne_8_0
  | 1, _, _ => exact Or.inl ne_8_1
  | 2, _, _ => exact Or.inl ne_8_2
  | 3, _, _ => exact Or.inl ne_8_3
  | 4, _, _ => exact Or.inl ne_8_4
  | 5, _, _ => exact Or.inl ne_8_5
  | 6, _, _ => exact Or.inl ne_8_6
  | 7, _, _ => exact Or.inl ne_8_7
  | 8, _, hn => exact absurd rfl hn
  | 9, _, _ => exact Or.inl ne_8_9
  | 10, _, _ => exact Or.inl ne_8_10
  | 11, _, _ => exact Or.inl ne_8_11
  | 12, _, _ => exact Or.inl ne_8_12
  | 13, _, _ => exact Or.inl ne_8_13
  | 14, _, _ => exact Or.inl ne_8_14
  | k + 15, hk, _ => exact absurd hk (by omega)
theorem gs_ne_9 : ∀ j, j < 15 → 9 ≠ j → Cond.not (Cond.eq (tm_str 9) (tm_str j)) ∈ gv_l ∨ Cond.not (Cond.eq (tm_str j) (tm_str 9)) ∈ gv_l := by
  intro j hj hn
  match j, hj, hn with
  | 0, _, _ => exact Or.inl ne_9_0
  | 1, _, _ => exact Or.inl ne_9_1
  | 2, _, _ => exact Or.inl ne_9_2
  | 3, _, _ => exact Or.inl ne_9_3
  | 4, _, _ => exact Or.inl ne_9_4
  | 5, _, _ => exact Or.inl ne_9_5
  | 6, _, _ => exact Or.inl ne_9_6
  | 7, _, _ => exact Or.inl ne_9_7
  | 8, _, _ => exact Or.inr ne_8_9
  | 9, _, hn => exact absurd rfl hn
  | 10, _, _ => exact Or.inl ne_9_10
  | 11, _, _ => exact Or.inl ne_9_11
  | 12, _, _ => exact Or.inl ne_9_12
  | 13, _, _ => exact Or.inl ne_9_13
  | 14, _, _ => exact Or.inl ne_9_14
  | k + 15, hk, _ => exact absurd hk (by omega)
theorem gs_ne_10 : ∀ j, j < 15 → 10 ≠ j → Cond.not (Cond.eq (tm_str 10) (tm_str j)) ∈ gv_l ∨ Cond.not (Cond.eq (tm_str j) (tm_str 10)) ∈ gv_l := by
  intro j hj hn
  match j, hj, hn with
  | 0, _, _ => exact Or.inl ne_10_0
  | 1, _, _ => exact Or.inl ne_10_1
  | 2, _, _ => exact Or.inl ne_10_2
  | 3, _, _ => exact Or.inl ne_10_3
  | 4, _, _ => exact Or.inl ne_10_4
  | 5, _, _ => exact Or.inl ne_10_5
  | 6, _, _ => exact Or.inl ne_10_6
  | 7, _, _ => exact Or.inl ne_10_7
  | 8, _, _ => exact Or.inr ne_8_10
  | 9, _, _ => exact Or.inr ne_9_10
  | 10, _, hn => exact absurd rfl hn
  | 11, _, _ => exact Or.inl ne_10_11
  | 12, _, _ => exact Or.inl ne_10_12
  | 13, _, _ => exact Or.inl ne_10_13
  | 14, _, _ => exact Or.inl ne_10_14
  | k + 15, hk, _ => exact absurd hk (by omega)
theorem gs_ne_11 : ∀ j, j < 15 → 11 ≠ j → Cond.not (Cond.eq (tm_str 11) (tm_str j)) ∈ gv_l ∨ Cond.not (Cond.eq (tm_str j) (tm_str 11)) ∈ gv_l := by
  intro j hj hn
  match j, hj, hn with
  | 0, _, _ => exact Or.inl ne_11_0
  | 1, _, _ => exact Or.inl ne_11_1
  | 2, _, _ => exact Or.inl ne_11_2
  | 3, _, _ => exact Or.inl ne_11_3
  | 4, _, _ => exact Or.inl ne_11_4
  | 5, _, _ => exact Or.inl ne_11_5
  | 6, _, _ => exact Or.inl ne_11_6
  | 7, _, _ => exact Or.inl ne_11_7
  | 8, _, _ => exact Or.inr ne_8_11
  | 9, _, _ => exact Or.inr ne_9_11
  | 10, _, _ => exact Or.inr ne_10_11
  | 11, _, hn => exact absurd rfl hn
  | 12, _, _ => exact Or.inl ne_11_12
  | 13, _, _ => exact Or.inl ne_11_13
  | 14, _, _ => exact Or.inl ne_11_14
  | k + 15, hk, _ => exact absurd hk (by omega)
theorem gs_ne_12 : ∀ j, j < 15 → 12 ≠ j → Cond.not (Cond.eq (tm_str 12) (tm_str j)) ∈ gv_l ∨ Cond.not (Cond.eq (tm_str j) (tm_str 12)) ∈ gv_l := by
  intro j hj hn
  match j, hj, hn with
  | 0, _, _ => exact Or.inl ne_12_0
  | 1, _, _ => exact Or.inl ne_12_1
  | 2, _, _ => exact Or.inl ne_12_2
  | 3, _, _ => exact Or.inl ne_12_3
  | 4, _, _ => exact Or.inl ne_12_4
  | 5, _, _ => exact Or.inl ne_12_5
  | 6, _, _ => exact Or.inl ne_12_6
  | 7, _, _ => exact Or.inl ne_12_7
  | 8, _, _ => exact Or.inr ne_8_12
  | 9, _, _ => exact Or.inr ne_9_12
  | 10, _, _ => exact Or.inr ne_10_12
  | 11, _, _ => exact Or.inr ne_11_12
  | 12, _, hn => exact absurd rfl hn
  | 13, _, _ => exact Or.inl ne_12_13
  | 14, _, _ => exact Or.inl ne_12_14
  | k + 15, hk, _ => exact absurd hk (by omega)
theorem gs_ne_13 : ∀ j, j < 15 → 13 ≠ j → Cond.not (Cond.eq (tm_str 13) (tm_str j)) ∈ gv_l ∨ Cond.not (Cond.eq (tm_str j) (tm_str 13)) ∈ gv_l := by
  intro j hj hn
  match j, hj, hn with
  | 0, _, _ => exact Or.inl ne_13_0
  | 1, _, _ => exact Or.inl ne_13_1
  | 2, _, _ => exact Or.inl ne_13_2
  | 3, _, _ => exact Or.inl ne_13_3
  | 4, _, _ => exact Or.inl ne_13_4
  | 5, _, _ => exact Or.inl ne_13_5
  | 6, _, _ => exact Or.inl ne_13_6
  | 7, _, _ => exact Or.inl ne_13_7
  | 8, _, _ => exact Or.inr ne_8_13
  | 9, _, _ => exact Or.inr ne_9_13
  | 10, _, _ => exact Or.inr ne_10_13
  | 11, _, _ => exact Or.inr ne_11_13
  | 12, _, _ => exact Or.inr ne_12_13
  | 13, _, hn => exact absurd rfl hn
  | 14, _, _ => exact Or.inl ne_13_14
  | k + 15, hk, _ => exact absurd hk (by omega)
theorem gs_ne_14 : ∀ j, j < 15 → 14 ≠ j → Cond.not (Cond.eq (tm_str 14) (tm_str j)) ∈ gv_l ∨ Cond.not (Cond.eq (tm_str j) (tm_str 14)) ∈ gv_l := by
  intro j hj hn
  match j, hj, hn with
  | 0, _, _ => exact Or.inl ne_14_0
  | 1, _, _ => exact Or.inl ne_14_1
  | 2, _, _ => exact Or.inl ne_14_2
  | 3, _, _ => exact Or.inl ne_14_3
  | 4, _, _ => exact Or.inl ne_14_4
  | 5, _, _ => exact Or.inl ne_14_5
  | 6, _, _ => exact Or.inl ne_14_6
  | 7, _, _ => exact Or.inl ne_14_7
  | 8, _, _ => exact Or.inr ne_8_14
  | 9, _, _ => exact Or.inr ne_9_14
  | 10, _, _ => exact Or.inr ne_10_14
  | 11, _, _ => exact Or.inr ne_11_14
  | 12, _, _ => exact Or.inr ne_12_14
  | 13, _, _ => exact Or.inr ne_13_14
  | 14, _, hn => exact absurd rfl hn
  | k + 15, hk, _ => exact absurd hk (by omega)
theorem gs_ne : ∀ i, i < 15 → ∀ j, j < 15 → i ≠ j → Cond.not (Cond.eq (tm_str i) (tm_str j)) ∈ gv_l ∨ Cond.not (Cond.eq (tm_str j) (tm_str i)) ∈ gv_l := by
  intro i hi
  match i, hi with
  | 0, _ => exact gs_ne_0
  | 1, _ => exact gs_ne_1
  | 2, _ => exact gs_ne_2
  | 3, _ => exact gs_ne_3
  | 4, _ => exact gs_ne_4
  | 5, _ => exact gs_ne_5
  | 6, _ => exact gs_ne_6
  | 7, _ => exact gs_ne_7
  | 8, _ => exact gs_ne_8
  | 9, _ => exact gs_ne_9
  | 10, _ => exact gs_ne_10
  | 11, _ => exact gs_ne_11
  | 12, _ => exact gs_ne_12
  | 13, _ => exact gs_ne_13
  | 14, _ => exact gs_ne_14
  | k + 15, hk => exact absurd hk (by omega)
theorem gs_rf : ∀ i, i < 15 → Cond.stringRef RX1 (str_tab.getD i (0, "", [])).1 (str_tab.getD i (0, "", [])).2.1 ∈ lw_tbl := by decide +kernel
theorem gs_cs : Cond.eq (.static "java/lang/String" "COMPACT_STRINGS" "Z") (.int 1) ∈ gv_l ∧ Cond.laysStatic "java/lang/String" "COMPACT_STRINGS" "Z" ∈ lw_tbl ∧ Cond.initialized "java/lang/String" ∈ lw_tbl := by decide +kernel
theorem gs_fm : Cond.isRef (.static "jdk/internal/util/Preconditions" "SIOOBE_FORMATTER" "Ljava/util/function/BiFunction;") ∈ gv_l ∧ Cond.laysStatic "jdk/internal/util/Preconditions" "SIOOBE_FORMATTER" "Ljava/util/function/BiFunction;" ∈ lw_tbl ∧ Cond.initialized "jdk/internal/util/Preconditions" ∈ lw_tbl ∧ Cond.initialized RX6 ∈ lw_tbl := by decide +kernel
theorem gn_m : ∀ q ∈ nm_tab, Cond.methodLinkNest q.1 q.2.1 q.2.2 RX6 ∈ lw_tbl := by decide +kernel
theorem gn_f : ∀ q ∈ nf_tab, Cond.fieldLinkNest q.1 q.2.1 RX6 q.2.2 "[I" RX6 ∈ lw_tbl := by decide +kernel
theorem gn_a : Cond.arrayOver (.object RX0) ∈ lw_tbl ∧ Cond.arrayOver (.object RX2) ∈ lw_tbl ∧ Cond.arrayClass .int ∈ lw_tbl := by decide +kernel
theorem gn_i : ∀ q ∈ vwCl, Cond.instantiable q.1 q.2.2 ∈ lw_tbl := by decide +kernel
theorem gn_u : ∀ (c : Nat) (q : vw_C), vwCl[c]? = some q → ∀ w ∈ u_ws q.1 q.2.1 q.2.2, w ∈ lw_tbl := by
  intro c q hq w hw
  have hm := List.mem_of_getElem? hq
  simp only [vwCl, List.mem_cons, List.not_mem_nil, or_false] at hm
  rcases hm with rfl | rfl | rfl | rfl | rfl | rfl | rfl | rfl
  · exact (List.mem_filter.mp (ing_X0 w hw)).1
  · exact (List.mem_filter.mp (ing_X1 w hw)).1
  · exact (List.mem_filter.mp (ing_X2 w hw)).1
  · exact (List.mem_filter.mp (ing_X3 w hw)).1
  · exact (List.mem_filter.mp (ing_X4 w hw)).1
  · exact (List.mem_filter.mp (ing_X5 w hw)).1
  · exact (List.mem_filter.mp (ing_X6 w hw)).1
  · exact (List.mem_filter.mp (ing_X7 w hw)).1
