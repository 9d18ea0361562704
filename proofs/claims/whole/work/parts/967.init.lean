/-! the first memory: it is of the shape, and the two sides agree (printed by wip/whole/mk967.py) -/
theorem cell_int {f : Nat → Int32} {n : Nat} {x : Int32} (h : ∀ k, k < n → f k = x) : (10, rp x n) = (10, sl_of f (List.replicate n none)) := by
  rw [rp_sl]
  congr 1
  apply List.ext_getElem?
  intro j
  rw [sl_at, sl_at, List.getElem?_replicate]
  by_cases c : j < n
  · rw [if_pos c]; simp [h j c]
  · rw [if_neg c]; rfl
theorem at_of {i : Nat} {c : SHC} {d : Nat × List Value} (hs : shp[i]? = some c) (hm : (mm7 (mm6 4) sg7)[i]? = some d) (he : d = (c.1, sl_of (f_init i) c.2)) : (mm7 (mm6 4) sg7)[i]? = (shp[i]?).map (fun c => (c.1, sl_of (f_init i) c.2)) := by
  rw [hs, hm, he]; rfl
theorem mi_0 : (mm7 (mm6 4) sg7)[0]? = (shp[0]?).map (fun c => (c.1, sl_of (f_init 0) c.2)) := at_of (c := (6, [some 1, some 39, none, some 77, some 80, some 81, some 82, some 86, some 90, some 91, some 92, some 93, some 94])) (d := (6, [.ref 1, .ref 39, .int (0), .ref 77, .ref 80, .ref 81, .ref 82, .ref 86, .ref 90, .ref 91, .ref 92, .ref 93, .ref 94])) (by decide +kernel) rfl (by simp [sl_of, f_init])
theorem mi_1 : (mm7 (mm6 4) sg7)[1]? = (shp[1]?).map (fun c => (c.1, sl_of (f_init 1) c.2)) := at_of (c := (5, [none, none, none, some 2, some 3, some 4, some 5, some 6])) (d := (5, [.int (0), .int (1), .int (0), .ref 2, .ref 3, .ref 4, .ref 5, .ref 6])) (by decide +kernel) rfl (by simp [sl_of, f_init])
theorem mi_2 : (mm7 (mm6 4) sg7)[2]? = (shp[2]?).map (fun c => (c.1, sl_of (f_init 2) c.2)) := at_of (c := ia 36) (d := (10, rp (-1) 36)) (by decide +kernel) rfl (cell_int (fun k hk => by simp [f_init]))
theorem mi_3 : (mm7 (mm6 4) sg7)[3]? = (shp[3]?).map (fun c => (c.1, sl_of (f_init 3) c.2)) := at_of (c := ia 24) (d := (10, rp (0) 24)) (by decide +kernel) rfl (cell_int (fun k hk => by simp [f_init]))
theorem mi_4 : (mm7 (mm6 4) sg7)[4]? = (shp[4]?).map (fun c => (c.1, sl_of (f_init 4) c.2)) := at_of (c := ia 6) (d := (10, rp (0) 6)) (by decide +kernel) rfl (cell_int (fun k hk => by simp [f_init]))
theorem mi_5 : (mm7 (mm6 4) sg7)[5]? = (shp[5]?).map (fun c => (c.1, sl_of (f_init 5) c.2)) := at_of (c := ia 10) (d := (10, rp (-1) 10)) (by decide +kernel) rfl (cell_int (fun k hk => by simp [f_init]))
theorem mi_6 : (mm7 (mm6 4) sg7)[6]? = (shp[6]?).map (fun c => (c.1, sl_of (f_init 6) c.2)) := at_of (c := (11, [some 7, some 11, some 15, some 19, some 23, some 27, some 31, some 35])) (d := (11, [.ref 7, .ref 11, .ref 15, .ref 19, .ref 23, .ref 27, .ref 31, .ref 35])) (by decide +kernel) rfl (by simp [sl_of])
theorem mi_7 : (mm7 (mm6 4) sg7)[7]? = (shp[7]?).map (fun c => (c.1, sl_of (f_init 7) c.2)) := at_of (c := (0, [some 8, some 9, some 10, none, none, none])) (d := (0, [.ref 8, .ref 9, .ref 10, .int (0), .int (0), .int (0)])) (by decide +kernel) rfl (by simp [sl_of, f_init])
theorem mi_8 : (mm7 (mm6 4) sg7)[8]? = (shp[8]?).map (fun c => (c.1, sl_of (f_init 8) c.2)) := at_of (c := ia 7) (d := (10, rp (0) 7)) (by decide +kernel) rfl (cell_int (fun k hk => by simp [f_init]))
theorem mi_9 : (mm7 (mm6 4) sg7)[9]? = (shp[9]?).map (fun c => (c.1, sl_of (f_init 9) c.2)) := at_of (c := ia 36) (d := (10, rp (0) 36)) (by decide +kernel) rfl (cell_int (fun k hk => by simp [f_init]))
theorem mi_10 : (mm7 (mm6 4) sg7)[10]? = (shp[10]?).map (fun c => (c.1, sl_of (f_init 10) c.2)) := at_of (c := ia 36) (d := (10, rp (0) 36)) (by decide +kernel) rfl (cell_int (fun k hk => by simp [f_init]))
theorem mi_11 : (mm7 (mm6 4) sg7)[11]? = (shp[11]?).map (fun c => (c.1, sl_of (f_init 11) c.2)) := at_of (c := (0, [some 12, some 13, some 14, none, none, none])) (d := (0, [.ref 12, .ref 13, .ref 14, .int (0), .int (0), .int (0)])) (by decide +kernel) rfl (by simp [sl_of, f_init])
theorem mi_12 : (mm7 (mm6 4) sg7)[12]? = (shp[12]?).map (fun c => (c.1, sl_of (f_init 12) c.2)) := at_of (c := ia 7) (d := (10, rp (0) 7)) (by decide +kernel) rfl (cell_int (fun k hk => by simp [f_init]))
theorem mi_13 : (mm7 (mm6 4) sg7)[13]? = (shp[13]?).map (fun c => (c.1, sl_of (f_init 13) c.2)) := at_of (c := ia 36) (d := (10, rp (0) 36)) (by decide +kernel) rfl (cell_int (fun k hk => by simp [f_init]))
theorem mi_14 : (mm7 (mm6 4) sg7)[14]? = (shp[14]?).map (fun c => (c.1, sl_of (f_init 14) c.2)) := at_of (c := ia 36) (d := (10, rp (0) 36)) (by decide +kernel) rfl (cell_int (fun k hk => by simp [f_init]))
theorem mi_15 : (mm7 (mm6 4) sg7)[15]? = (shp[15]?).map (fun c => (c.1, sl_of (f_init 15) c.2)) := at_of (c := (0, [some 16, some 17, some 18, none, none, none])) (d := (0, [.ref 16, .ref 17, .ref 18, .int (0), .int (0), .int (0)])) (by decide +kernel) rfl (by simp [sl_of, f_init])
theorem mi_16 : (mm7 (mm6 4) sg7)[16]? = (shp[16]?).map (fun c => (c.1, sl_of (f_init 16) c.2)) := at_of (c := ia 7) (d := (10, rp (0) 7)) (by decide +kernel) rfl (cell_int (fun k hk => by simp [f_init]))
theorem mi_17 : (mm7 (mm6 4) sg7)[17]? = (shp[17]?).map (fun c => (c.1, sl_of (f_init 17) c.2)) := at_of (c := ia 36) (d := (10, rp (0) 36)) (by decide +kernel) rfl (cell_int (fun k hk => by simp [f_init]))
theorem mi_18 : (mm7 (mm6 4) sg7)[18]? = (shp[18]?).map (fun c => (c.1, sl_of (f_init 18) c.2)) := at_of (c := ia 36) (d := (10, rp (0) 36)) (by decide +kernel) rfl (cell_int (fun k hk => by simp [f_init]))
theorem mi_19 : (mm7 (mm6 4) sg7)[19]? = (shp[19]?).map (fun c => (c.1, sl_of (f_init 19) c.2)) := at_of (c := (0, [some 20, some 21, some 22, none, none, none])) (d := (0, [.ref 20, .ref 21, .ref 22, .int (0), .int (0), .int (0)])) (by decide +kernel) rfl (by simp [sl_of, f_init])
theorem mi_20 : (mm7 (mm6 4) sg7)[20]? = (shp[20]?).map (fun c => (c.1, sl_of (f_init 20) c.2)) := at_of (c := ia 7) (d := (10, rp (0) 7)) (by decide +kernel) rfl (cell_int (fun k hk => by simp [f_init]))
theorem mi_21 : (mm7 (mm6 4) sg7)[21]? = (shp[21]?).map (fun c => (c.1, sl_of (f_init 21) c.2)) := at_of (c := ia 36) (d := (10, rp (0) 36)) (by decide +kernel) rfl (cell_int (fun k hk => by simp [f_init]))
theorem mi_22 : (mm7 (mm6 4) sg7)[22]? = (shp[22]?).map (fun c => (c.1, sl_of (f_init 22) c.2)) := at_of (c := ia 36) (d := (10, rp (0) 36)) (by decide +kernel) rfl (cell_int (fun k hk => by simp [f_init]))
theorem mi_23 : (mm7 (mm6 4) sg7)[23]? = (shp[23]?).map (fun c => (c.1, sl_of (f_init 23) c.2)) := at_of (c := (0, [some 24, some 25, some 26, none, none, none])) (d := (0, [.ref 24, .ref 25, .ref 26, .int (0), .int (0), .int (0)])) (by decide +kernel) rfl (by simp [sl_of, f_init])
theorem mi_24 : (mm7 (mm6 4) sg7)[24]? = (shp[24]?).map (fun c => (c.1, sl_of (f_init 24) c.2)) := at_of (c := ia 7) (d := (10, rp (0) 7)) (by decide +kernel) rfl (cell_int (fun k hk => by simp [f_init]))
theorem mi_25 : (mm7 (mm6 4) sg7)[25]? = (shp[25]?).map (fun c => (c.1, sl_of (f_init 25) c.2)) := at_of (c := ia 36) (d := (10, rp (0) 36)) (by decide +kernel) rfl (cell_int (fun k hk => by simp [f_init]))
theorem mi_26 : (mm7 (mm6 4) sg7)[26]? = (shp[26]?).map (fun c => (c.1, sl_of (f_init 26) c.2)) := at_of (c := ia 36) (d := (10, rp (0) 36)) (by decide +kernel) rfl (cell_int (fun k hk => by simp [f_init]))
theorem mi_27 : (mm7 (mm6 4) sg7)[27]? = (shp[27]?).map (fun c => (c.1, sl_of (f_init 27) c.2)) := at_of (c := (0, [some 28, some 29, some 30, none, none, none])) (d := (0, [.ref 28, .ref 29, .ref 30, .int (0), .int (0), .int (0)])) (by decide +kernel) rfl (by simp [sl_of, f_init])
theorem mi_28 : (mm7 (mm6 4) sg7)[28]? = (shp[28]?).map (fun c => (c.1, sl_of (f_init 28) c.2)) := at_of (c := ia 7) (d := (10, rp (0) 7)) (by decide +kernel) rfl (cell_int (fun k hk => by simp [f_init]))
theorem mi_29 : (mm7 (mm6 4) sg7)[29]? = (shp[29]?).map (fun c => (c.1, sl_of (f_init 29) c.2)) := at_of (c := ia 36) (d := (10, rp (0) 36)) (by decide +kernel) rfl (cell_int (fun k hk => by simp [f_init]))
theorem mi_30 : (mm7 (mm6 4) sg7)[30]? = (shp[30]?).map (fun c => (c.1, sl_of (f_init 30) c.2)) := at_of (c := ia 36) (d := (10, rp (0) 36)) (by decide +kernel) rfl (cell_int (fun k hk => by simp [f_init]))
theorem mi_31 : (mm7 (mm6 4) sg7)[31]? = (shp[31]?).map (fun c => (c.1, sl_of (f_init 31) c.2)) := at_of (c := (0, [some 32, some 33, some 34, none, none, none])) (d := (0, [.ref 32, .ref 33, .ref 34, .int (0), .int (0), .int (0)])) (by decide +kernel) rfl (by simp [sl_of, f_init])
theorem mi_32 : (mm7 (mm6 4) sg7)[32]? = (shp[32]?).map (fun c => (c.1, sl_of (f_init 32) c.2)) := at_of (c := ia 7) (d := (10, rp (0) 7)) (by decide +kernel) rfl (cell_int (fun k hk => by simp [f_init]))
theorem mi_33 : (mm7 (mm6 4) sg7)[33]? = (shp[33]?).map (fun c => (c.1, sl_of (f_init 33) c.2)) := at_of (c := ia 36) (d := (10, rp (0) 36)) (by decide +kernel) rfl (cell_int (fun k hk => by simp [f_init]))
theorem mi_34 : (mm7 (mm6 4) sg7)[34]? = (shp[34]?).map (fun c => (c.1, sl_of (f_init 34) c.2)) := at_of (c := ia 36) (d := (10, rp (0) 36)) (by decide +kernel) rfl (cell_int (fun k hk => by simp [f_init]))
theorem mi_35 : (mm7 (mm6 4) sg7)[35]? = (shp[35]?).map (fun c => (c.1, sl_of (f_init 35) c.2)) := at_of (c := (0, [some 36, some 37, some 38, none, none, none])) (d := (0, [.ref 36, .ref 37, .ref 38, .int (0), .int (0), .int (0)])) (by decide +kernel) rfl (by simp [sl_of, f_init])
theorem mi_36 : (mm7 (mm6 4) sg7)[36]? = (shp[36]?).map (fun c => (c.1, sl_of (f_init 36) c.2)) := at_of (c := ia 7) (d := (10, rp (0) 7)) (by decide +kernel) rfl (cell_int (fun k hk => by simp [f_init]))
theorem mi_37 : (mm7 (mm6 4) sg7)[37]? = (shp[37]?).map (fun c => (c.1, sl_of (f_init 37) c.2)) := at_of (c := ia 36) (d := (10, rp (0) 36)) (by decide +kernel) rfl (cell_int (fun k hk => by simp [f_init]))
theorem mi_38 : (mm7 (mm6 4) sg7)[38]? = (shp[38]?).map (fun c => (c.1, sl_of (f_init 38) c.2)) := at_of (c := ia 36) (d := (10, rp (0) 36)) (by decide +kernel) rfl (cell_int (fun k hk => by simp [f_init]))
theorem mi_39 : (mm7 (mm6 4) sg7)[39]? = (shp[39]?).map (fun c => (c.1, sl_of (f_init 39) c.2)) := at_of (c := (5, [none, none, none, some 40, some 41, some 42, some 43, some 44])) (d := (5, [.int (0), .int (1), .int (0), .ref 40, .ref 41, .ref 42, .ref 43, .ref 44])) (by decide +kernel) rfl (by simp [sl_of, f_init])
theorem mi_40 : (mm7 (mm6 4) sg7)[40]? = (shp[40]?).map (fun c => (c.1, sl_of (f_init 40) c.2)) := at_of (c := ia 36) (d := (10, rp (-1) 36)) (by decide +kernel) rfl (cell_int (fun k hk => by simp [f_init]))
theorem mi_41 : (mm7 (mm6 4) sg7)[41]? = (shp[41]?).map (fun c => (c.1, sl_of (f_init 41) c.2)) := at_of (c := ia 24) (d := (10, rp (0) 24)) (by decide +kernel) rfl (cell_int (fun k hk => by simp [f_init]))
theorem mi_42 : (mm7 (mm6 4) sg7)[42]? = (shp[42]?).map (fun c => (c.1, sl_of (f_init 42) c.2)) := at_of (c := ia 6) (d := (10, rp (0) 6)) (by decide +kernel) rfl (cell_int (fun k hk => by simp [f_init]))
theorem mi_43 : (mm7 (mm6 4) sg7)[43]? = (shp[43]?).map (fun c => (c.1, sl_of (f_init 43) c.2)) := at_of (c := ia 10) (d := (10, rp (-1) 10)) (by decide +kernel) rfl (cell_int (fun k hk => by simp [f_init]))
theorem mi_44 : (mm7 (mm6 4) sg7)[44]? = (shp[44]?).map (fun c => (c.1, sl_of (f_init 44) c.2)) := at_of (c := (11, [some 45, some 49, some 53, some 57, some 61, some 65, some 69, some 73])) (d := (11, [.ref 45, .ref 49, .ref 53, .ref 57, .ref 61, .ref 65, .ref 69, .ref 73])) (by decide +kernel) rfl (by simp [sl_of])
theorem mi_45 : (mm7 (mm6 4) sg7)[45]? = (shp[45]?).map (fun c => (c.1, sl_of (f_init 45) c.2)) := at_of (c := (0, [some 46, some 47, some 48, none, none, none])) (d := (0, [.ref 46, .ref 47, .ref 48, .int (0), .int (0), .int (0)])) (by decide +kernel) rfl (by simp [sl_of, f_init])
theorem mi_46 : (mm7 (mm6 4) sg7)[46]? = (shp[46]?).map (fun c => (c.1, sl_of (f_init 46) c.2)) := at_of (c := ia 7) (d := (10, rp (0) 7)) (by decide +kernel) rfl (cell_int (fun k hk => by simp [f_init]))
theorem mi_47 : (mm7 (mm6 4) sg7)[47]? = (shp[47]?).map (fun c => (c.1, sl_of (f_init 47) c.2)) := at_of (c := ia 36) (d := (10, rp (0) 36)) (by decide +kernel) rfl (cell_int (fun k hk => by simp [f_init]))
theorem mi_48 : (mm7 (mm6 4) sg7)[48]? = (shp[48]?).map (fun c => (c.1, sl_of (f_init 48) c.2)) := at_of (c := ia 36) (d := (10, rp (0) 36)) (by decide +kernel) rfl (cell_int (fun k hk => by simp [f_init]))
theorem mi_49 : (mm7 (mm6 4) sg7)[49]? = (shp[49]?).map (fun c => (c.1, sl_of (f_init 49) c.2)) := at_of (c := (0, [some 50, some 51, some 52, none, none, none])) (d := (0, [.ref 50, .ref 51, .ref 52, .int (0), .int (0), .int (0)])) (by decide +kernel) rfl (by simp [sl_of, f_init])
theorem mi_50 : (mm7 (mm6 4) sg7)[50]? = (shp[50]?).map (fun c => (c.1, sl_of (f_init 50) c.2)) := at_of (c := ia 7) (d := (10, rp (0) 7)) (by decide +kernel) rfl (cell_int (fun k hk => by simp [f_init]))
theorem mi_51 : (mm7 (mm6 4) sg7)[51]? = (shp[51]?).map (fun c => (c.1, sl_of (f_init 51) c.2)) := at_of (c := ia 36) (d := (10, rp (0) 36)) (by decide +kernel) rfl (cell_int (fun k hk => by simp [f_init]))
theorem mi_52 : (mm7 (mm6 4) sg7)[52]? = (shp[52]?).map (fun c => (c.1, sl_of (f_init 52) c.2)) := at_of (c := ia 36) (d := (10, rp (0) 36)) (by decide +kernel) rfl (cell_int (fun k hk => by simp [f_init]))
theorem mi_53 : (mm7 (mm6 4) sg7)[53]? = (shp[53]?).map (fun c => (c.1, sl_of (f_init 53) c.2)) := at_of (c := (0, [some 54, some 55, some 56, none, none, none])) (d := (0, [.ref 54, .ref 55, .ref 56, .int (0), .int (0), .int (0)])) (by decide +kernel) rfl (by simp [sl_of, f_init])
theorem mi_54 : (mm7 (mm6 4) sg7)[54]? = (shp[54]?).map (fun c => (c.1, sl_of (f_init 54) c.2)) := at_of (c := ia 7) (d := (10, rp (0) 7)) (by decide +kernel) rfl (cell_int (fun k hk => by simp [f_init]))
theorem mi_55 : (mm7 (mm6 4) sg7)[55]? = (shp[55]?).map (fun c => (c.1, sl_of (f_init 55) c.2)) := at_of (c := ia 36) (d := (10, rp (0) 36)) (by decide +kernel) rfl (cell_int (fun k hk => by simp [f_init]))
theorem mi_56 : (mm7 (mm6 4) sg7)[56]? = (shp[56]?).map (fun c => (c.1, sl_of (f_init 56) c.2)) := at_of (c := ia 36) (d := (10, rp (0) 36)) (by decide +kernel) rfl (cell_int (fun k hk => by simp [f_init]))
theorem mi_57 : (mm7 (mm6 4) sg7)[57]? = (shp[57]?).map (fun c => (c.1, sl_of (f_init 57) c.2)) := at_of (c := (0, [some 58, some 59, some 60, none, none, none])) (d := (0, [.ref 58, .ref 59, .ref 60, .int (0), .int (0), .int (0)])) (by decide +kernel) rfl (by simp [sl_of, f_init])
theorem mi_58 : (mm7 (mm6 4) sg7)[58]? = (shp[58]?).map (fun c => (c.1, sl_of (f_init 58) c.2)) := at_of (c := ia 7) (d := (10, rp (0) 7)) (by decide +kernel) rfl (cell_int (fun k hk => by simp [f_init]))
theorem mi_59 : (mm7 (mm6 4) sg7)[59]? = (shp[59]?).map (fun c => (c.1, sl_of (f_init 59) c.2)) := at_of (c := ia 36) (d := (10, rp (0) 36)) (by decide +kernel) rfl (cell_int (fun k hk => by simp [f_init]))
theorem mi_60 : (mm7 (mm6 4) sg7)[60]? = (shp[60]?).map (fun c => (c.1, sl_of (f_init 60) c.2)) := at_of (c := ia 36) (d := (10, rp (0) 36)) (by decide +kernel) rfl (cell_int (fun k hk => by simp [f_init]))
theorem mi_61 : (mm7 (mm6 4) sg7)[61]? = (shp[61]?).map (fun c => (c.1, sl_of (f_init 61) c.2)) := at_of (c := (0, [some 62, some 63, some 64, none, none, none])) (d := (0, [.ref 62, .ref 63, .ref 64, .int (0), .int (0), .int (0)])) (by decide +kernel) rfl (by simp [sl_of, f_init])
theorem mi_62 : (mm7 (mm6 4) sg7)[62]? = (shp[62]?).map (fun c => (c.1, sl_of (f_init 62) c.2)) := at_of (c := ia 7) (d := (10, rp (0) 7)) (by decide +kernel) rfl (cell_int (fun k hk => by simp [f_init]))
theorem mi_63 : (mm7 (mm6 4) sg7)[63]? = (shp[63]?).map (fun c => (c.1, sl_of (f_init 63) c.2)) := at_of (c := ia 36) (d := (10, rp (0) 36)) (by decide +kernel) rfl (cell_int (fun k hk => by simp [f_init]))
theorem mi_64 : (mm7 (mm6 4) sg7)[64]? = (shp[64]?).map (fun c => (c.1, sl_of (f_init 64) c.2)) := at_of (c := ia 36) (d := (10, rp (0) 36)) (by decide +kernel) rfl (cell_int (fun k hk => by simp [f_init]))
theorem mi_65 : (mm7 (mm6 4) sg7)[65]? = (shp[65]?).map (fun c => (c.1, sl_of (f_init 65) c.2)) := at_of (c := (0, [some 66, some 67, some 68, none, none, none])) (d := (0, [.ref 66, .ref 67, .ref 68, .int (0), .int (0), .int (0)])) (by decide +kernel) rfl (by simp [sl_of, f_init])
theorem mi_66 : (mm7 (mm6 4) sg7)[66]? = (shp[66]?).map (fun c => (c.1, sl_of (f_init 66) c.2)) := at_of (c := ia 7) (d := (10, rp (0) 7)) (by decide +kernel) rfl (cell_int (fun k hk => by simp [f_init]))
theorem mi_67 : (mm7 (mm6 4) sg7)[67]? = (shp[67]?).map (fun c => (c.1, sl_of (f_init 67) c.2)) := at_of (c := ia 36) (d := (10, rp (0) 36)) (by decide +kernel) rfl (cell_int (fun k hk => by simp [f_init]))
theorem mi_68 : (mm7 (mm6 4) sg7)[68]? = (shp[68]?).map (fun c => (c.1, sl_of (f_init 68) c.2)) := at_of (c := ia 36) (d := (10, rp (0) 36)) (by decide +kernel) rfl (cell_int (fun k hk => by simp [f_init]))
theorem mi_69 : (mm7 (mm6 4) sg7)[69]? = (shp[69]?).map (fun c => (c.1, sl_of (f_init 69) c.2)) := at_of (c := (0, [some 70, some 71, some 72, none, none, none])) (d := (0, [.ref 70, .ref 71, .ref 72, .int (0), .int (0), .int (0)])) (by decide +kernel) rfl (by simp [sl_of, f_init])
theorem mi_70 : (mm7 (mm6 4) sg7)[70]? = (shp[70]?).map (fun c => (c.1, sl_of (f_init 70) c.2)) := at_of (c := ia 7) (d := (10, rp (0) 7)) (by decide +kernel) rfl (cell_int (fun k hk => by simp [f_init]))
theorem mi_71 : (mm7 (mm6 4) sg7)[71]? = (shp[71]?).map (fun c => (c.1, sl_of (f_init 71) c.2)) := at_of (c := ia 36) (d := (10, rp (0) 36)) (by decide +kernel) rfl (cell_int (fun k hk => by simp [f_init]))
theorem mi_72 : (mm7 (mm6 4) sg7)[72]? = (shp[72]?).map (fun c => (c.1, sl_of (f_init 72) c.2)) := at_of (c := ia 36) (d := (10, rp (0) 36)) (by decide +kernel) rfl (cell_int (fun k hk => by simp [f_init]))
theorem mi_73 : (mm7 (mm6 4) sg7)[73]? = (shp[73]?).map (fun c => (c.1, sl_of (f_init 73) c.2)) := at_of (c := (0, [some 74, some 75, some 76, none, none, none])) (d := (0, [.ref 74, .ref 75, .ref 76, .int (0), .int (0), .int (0)])) (by decide +kernel) rfl (by simp [sl_of, f_init])
theorem mi_74 : (mm7 (mm6 4) sg7)[74]? = (shp[74]?).map (fun c => (c.1, sl_of (f_init 74) c.2)) := at_of (c := ia 7) (d := (10, rp (0) 7)) (by decide +kernel) rfl (cell_int (fun k hk => by simp [f_init]))
theorem mi_75 : (mm7 (mm6 4) sg7)[75]? = (shp[75]?).map (fun c => (c.1, sl_of (f_init 75) c.2)) := at_of (c := ia 36) (d := (10, rp (0) 36)) (by decide +kernel) rfl (cell_int (fun k hk => by simp [f_init]))
theorem mi_76 : (mm7 (mm6 4) sg7)[76]? = (shp[76]?).map (fun c => (c.1, sl_of (f_init 76) c.2)) := at_of (c := ia 36) (d := (10, rp (0) 36)) (by decide +kernel) rfl (cell_int (fun k hk => by simp [f_init]))
theorem mi_77 : (mm7 (mm6 4) sg7)[77]? = (shp[77]?).map (fun c => (c.1, sl_of (f_init 77) c.2)) := at_of (c := (1, [some 78, none, none])) (d := (1, [.ref 78, .int (0), .int (0)])) (by decide +kernel) rfl (by simp [sl_of, f_init])
theorem mi_78 : (mm7 (mm6 4) sg7)[78]? = (shp[78]?).map (fun c => (c.1, sl_of (f_init 78) c.2)) := at_of (c := (4, [some 79, none, none, none, none, none])) (d := (4, [.ref 79, .int (0), .int (-1), .int (0), .int (0), .int (0)])) (by decide +kernel) rfl (by simp [sl_of, f_init])
theorem mi_79 : (mm7 (mm6 4) sg7)[79]? = (shp[79]?).map (fun c => (c.1, sl_of (f_init 79) c.2)) := at_of (c := ia 120) (d := (10, rp (0) 120)) (by decide +kernel) rfl (cell_int (fun k hk => by simp [f_init]))
theorem mi_80 : (mm7 (mm6 4) sg7)[80]? = (shp[80]?).map (fun c => (c.1, sl_of (f_init 80) c.2)) := at_of (c := (12, [some 95, some 97, some 99, some 101])) (d := (12, [.ref 95, .ref 97, .ref 99, .ref 101])) (by decide +kernel) rfl (by simp [sl_of])
theorem mi_81 : (mm7 (mm6 4) sg7)[81]? = (shp[81]?).map (fun c => (c.1, sl_of (f_init 81) c.2)) := at_of (c := ia 7) (d := (10, rp (0) 7)) (by decide +kernel) rfl (cell_int (fun k hk => by simp [f_init]))
theorem mi_82 : (mm7 (mm6 4) sg7)[82]? = (shp[82]?).map (fun c => (c.1, sl_of (f_init 82) c.2)) := at_of (c := (0, [some 83, some 84, some 85, none, none, none])) (d := (0, [.ref 83, .ref 84, .ref 85, .int (0), .int (0), .int (0)])) (by decide +kernel) rfl (by simp [sl_of, f_init])
theorem mi_83 : (mm7 (mm6 4) sg7)[83]? = (shp[83]?).map (fun c => (c.1, sl_of (f_init 83) c.2)) := at_of (c := ia 7) (d := (10, rp (0) 7)) (by decide +kernel) rfl (cell_int (fun k hk => by simp [f_init]))
theorem mi_84 : (mm7 (mm6 4) sg7)[84]? = (shp[84]?).map (fun c => (c.1, sl_of (f_init 84) c.2)) := at_of (c := ia 36) (d := (10, rp (0) 36)) (by decide +kernel) rfl (cell_int (fun k hk => by simp [f_init]))
theorem mi_85 : (mm7 (mm6 4) sg7)[85]? = (shp[85]?).map (fun c => (c.1, sl_of (f_init 85) c.2)) := at_of (c := ia 36) (d := (10, rp (0) 36)) (by decide +kernel) rfl (cell_int (fun k hk => by simp [f_init]))
theorem mi_86 : (mm7 (mm6 4) sg7)[86]? = (shp[86]?).map (fun c => (c.1, sl_of (f_init 86) c.2)) := at_of (c := (3, [none, some 87, some 88, some 89])) (d := (3, [.int (0), .ref 87, .ref 88, .ref 89])) (by decide +kernel) rfl (by simp [sl_of, f_init])
theorem mi_87 : (mm7 (mm6 4) sg7)[87]? = (shp[87]?).map (fun c => (c.1, sl_of (f_init 87) c.2)) := at_of (c := ia 6) (d := (10, rp (0) 6)) (by decide +kernel) rfl (cell_int (fun k hk => by simp [f_init]))
theorem mi_88 : (mm7 (mm6 4) sg7)[88]? = (shp[88]?).map (fun c => (c.1, sl_of (f_init 88) c.2)) := at_of (c := ia 6) (d := (10, rp (0) 6)) (by decide +kernel) rfl (cell_int (fun k hk => by simp [f_init]))
theorem mi_89 : (mm7 (mm6 4) sg7)[89]? = (shp[89]?).map (fun c => (c.1, sl_of (f_init 89) c.2)) := at_of (c := ia 6) (d := (10, rp (0) 6)) (by decide +kernel) rfl (cell_int (fun k hk => by simp [f_init]))
theorem mi_90 : (mm7 (mm6 4) sg7)[90]? = (shp[90]?).map (fun c => (c.1, sl_of (f_init 90) c.2)) := at_of (c := ia 6) (d := (10, rp (0) 6)) (by decide +kernel) rfl (cell_int (fun k hk => by simp [f_init]))
theorem mi_91 : (mm7 (mm6 4) sg7)[91]? = (shp[91]?).map (fun c => (c.1, sl_of (f_init 91) c.2)) := at_of (c := ia 8) (d := (10, rp (0) 8)) (by decide +kernel) rfl (cell_int (fun k hk => by simp [f_init]))
theorem mi_92 : (mm7 (mm6 4) sg7)[92]? = (shp[92]?).map (fun c => (c.1, sl_of (f_init 92) c.2)) := at_of (c := ia 8) (d := (10, rp (0) 8)) (by decide +kernel) rfl (cell_int (fun k hk => by simp [f_init]))
theorem mi_93 : (mm7 (mm6 4) sg7)[93]? = (shp[93]?).map (fun c => (c.1, sl_of (f_init 93) c.2)) := at_of (c := ia 40) (d := (10, rp (0) 40)) (by decide +kernel) rfl (cell_int (fun k hk => by simp [f_init]))
theorem mi_94 : (mm7 (mm6 4) sg7)[94]? = (shp[94]?).map (fun c => (c.1, sl_of (f_init 94) c.2)) := at_of (c := ia 36) (d := (10, rp (0) 36)) (by decide +kernel) rfl (cell_int (fun k hk => by simp [f_init]))
theorem mi_95 : (mm7 (mm6 4) sg7)[95]? = (shp[95]?).map (fun c => (c.1, sl_of (f_init 95) c.2)) := at_of (c := (2, [none, none, some 96])) (d := (2, [.int (0), .int (0), .ref 96])) (by decide +kernel) rfl (by simp [sl_of, f_init])
theorem mi_96 : (mm7 (mm6 4) sg7)[96]? = (shp[96]?).map (fun c => (c.1, sl_of (f_init 96) c.2)) := at_of (c := ia 40) (d := (10, rp (0) 40)) (by decide +kernel) rfl (cell_int (fun k hk => by simp [f_init]))
theorem mi_97 : (mm7 (mm6 4) sg7)[97]? = (shp[97]?).map (fun c => (c.1, sl_of (f_init 97) c.2)) := at_of (c := (2, [none, none, some 98])) (d := (2, [.int (0), .int (0), .ref 98])) (by decide +kernel) rfl (by simp [sl_of, f_init])
theorem mi_98 : (mm7 (mm6 4) sg7)[98]? = (shp[98]?).map (fun c => (c.1, sl_of (f_init 98) c.2)) := at_of (c := ia 40) (d := (10, rp (0) 40)) (by decide +kernel) rfl (cell_int (fun k hk => by simp [f_init]))
theorem mi_99 : (mm7 (mm6 4) sg7)[99]? = (shp[99]?).map (fun c => (c.1, sl_of (f_init 99) c.2)) := at_of (c := (2, [none, none, some 100])) (d := (2, [.int (0), .int (0), .ref 100])) (by decide +kernel) rfl (by simp [sl_of, f_init])
theorem mi_100 : (mm7 (mm6 4) sg7)[100]? = (shp[100]?).map (fun c => (c.1, sl_of (f_init 100) c.2)) := at_of (c := ia 40) (d := (10, rp (0) 40)) (by decide +kernel) rfl (cell_int (fun k hk => by simp [f_init]))
theorem mi_101 : (mm7 (mm6 4) sg7)[101]? = (shp[101]?).map (fun c => (c.1, sl_of (f_init 101) c.2)) := at_of (c := (2, [none, none, some 102])) (d := (2, [.int (0), .int (0), .ref 102])) (by decide +kernel) rfl (by simp [sl_of, f_init])
theorem mi_102 : (mm7 (mm6 4) sg7)[102]? = (shp[102]?).map (fun c => (c.1, sl_of (f_init 102) c.2)) := at_of (c := ia 40) (d := (10, rp (0) 40)) (by decide +kernel) rfl (cell_int (fun k hk => by simp [f_init]))
theorem mi_103 : (mm7 (mm6 4) sg7)[103]? = (shp[103]?).map (fun c => (c.1, sl_of (f_init 103) c.2)) := at_of (c := (7, [some 104, some 105, some 106, some 107, none, some 108, some 109, none, none, none, some 110, some 111, none, none, none, none, none, some 112, some 113, some 114, some 115])) (d := (7, [.ref 104, .ref 105, .ref 106, .ref 107, .int (0), .ref 108, .ref 109, .int (0), .int (0), .int (0), .ref 110, .ref 111, .int (0), .int (0), .int (0), .int (0), .int (0), .ref 112, .ref 113, .ref 114, .ref 115])) (by decide +kernel) rfl (by simp [sl_of, f_init])
theorem mi_104 : (mm7 (mm6 4) sg7)[104]? = (shp[104]?).map (fun c => (c.1, sl_of (f_init 104) c.2)) := by
  have e : sl_of sg7 (List.replicate 735 none) = sl_of (f_init 104) (List.replicate 735 none) := by
    apply List.ext_getElem?
    intro j
    rw [sl_at, sl_at, List.getElem?_replicate]
    by_cases c : j < 735
    · rw [if_pos c]
      have : sg7 j = f_init 104 j := by
        unfold sg7 f_init put upd
        by_cases c1 : 725 ≤ j
        · simp [c1, show j < 725 + 10 by omega, show j ≠ 2 by omega, show ¬ j < 39 by omega]
        · by_cases c2 : 3 ≤ j ∧ j < 39
          · simp [c1, c2.1, c2.2, show j < 3 + 36 by omega, show j ≠ 2 by omega]
          · by_cases c3 : j = 2
            · subst c3; simp
            · have : ¬ (3 ≤ j ∧ j < 3 + 36) := by omega
              simp [c1, c2, c3, this]
      simp [this]
    · rw [if_neg c]; rfl
  exact at_of (c := ia 735) (d := rs7 sg7) (by decide +kernel) rfl (by unfold rs7; rw [e]; rfl)
theorem mi_105 : (mm7 (mm6 4) sg7)[105]? = (shp[105]?).map (fun c => (c.1, sl_of (f_init 105) c.2)) := at_of (c := ia 735) (d := (10, rp (0) 735)) (by decide +kernel) rfl (cell_int (fun k hk => by simp [f_init]))
theorem mi_106 : (mm7 (mm6 4) sg7)[106]? = (shp[106]?).map (fun c => (c.1, sl_of (f_init 106) c.2)) := at_of (c := ia 735) (d := (10, rp (0) 735)) (by decide +kernel) rfl (cell_int (fun k hk => by simp [f_init]))
theorem mi_107 : (mm7 (mm6 4) sg7)[107]? = (shp[107]?).map (fun c => (c.1, sl_of (f_init 107) c.2)) := at_of (c := ia 7) (d := (10, rp (0) 7)) (by decide +kernel) rfl (cell_int (fun k hk => by simp [f_init]))
theorem mi_108 : (mm7 (mm6 4) sg7)[108]? = (shp[108]?).map (fun c => (c.1, sl_of (f_init 108) c.2)) := at_of (c := ia 36) (d := (10, rp (0) 36)) (by decide +kernel) rfl (cell_int (fun k hk => by simp [f_init]))
theorem mi_109 : (mm7 (mm6 4) sg7)[109]? = (shp[109]?).map (fun c => (c.1, sl_of (f_init 109) c.2)) := at_of (c := ia 6) (d := (10, rp (0) 6)) (by decide +kernel) rfl (cell_int (fun k hk => by simp [f_init]))
theorem mi_110 : (mm7 (mm6 4) sg7)[110]? = (shp[110]?).map (fun c => (c.1, sl_of (f_init 110) c.2)) := at_of (c := ia 6) (d := (10, rp (0) 6)) (by decide +kernel) rfl (cell_int (fun k hk => by simp [f_init]))
theorem mi_111 : (mm7 (mm6 4) sg7)[111]? = (shp[111]?).map (fun c => (c.1, sl_of (f_init 111) c.2)) := at_of (c := ia 120) (d := (10, rp (0) 120)) (by decide +kernel) rfl (cell_int (fun k hk => by simp [f_init]))
theorem mi_112 : (mm7 (mm6 4) sg7)[112]? = (shp[112]?).map (fun c => (c.1, sl_of (f_init 112) c.2)) := at_of (c := ia 4) (d := (10, rp (0) 4)) (by decide +kernel) rfl (cell_int (fun k hk => by simp [f_init]))
theorem mi_113 : (mm7 (mm6 4) sg7)[113]? = (shp[113]?).map (fun c => (c.1, sl_of (f_init 113) c.2)) := at_of (c := ia 4) (d := (10, rp (0) 4)) (by decide +kernel) rfl (cell_int (fun k hk => by simp [f_init]))
theorem mi_114 : (mm7 (mm6 4) sg7)[114]? = (shp[114]?).map (fun c => (c.1, sl_of (f_init 114) c.2)) := at_of (c := ia 160) (d := (10, rp (0) 160)) (by decide +kernel) rfl (cell_int (fun k hk => by simp [f_init]))
theorem mi_115 : (mm7 (mm6 4) sg7)[115]? = (shp[115]?).map (fun c => (c.1, sl_of (f_init 115) c.2)) := at_of (c := ia 40) (d := (10, rp (0) 40)) (by decide +kernel) rfl (cell_int (fun k hk => by simp [f_init]))
theorem mm_len : (mm7 (mm6 4) sg7).length = 116 := by
  unfold mm7
  rw [List.length_append, mm6_len]; rfl
theorem mm_init : mm7 (mm6 4) sg7 = memOf f_init := by
  apply List.ext_getElem?
  intro i
  rw [mem_at]
  by_cases h : i < 116
  · match i, h with
    | 0, _ => exact mi_0
    | 1, _ => exact mi_1
    | 2, _ => exact mi_2
    | 3, _ => exact mi_3
    | 4, _ => exact mi_4
    | 5, _ => exact mi_5
    | 6, _ => exact mi_6
    | 7, _ => exact mi_7
    | 8, _ => exact mi_8
    | 9, _ => exact mi_9
    | 10, _ => exact mi_10
    | 11, _ => exact mi_11
    | 12, _ => exact mi_12
    | 13, _ => exact mi_13
    | 14, _ => exact mi_14
    | 15, _ => exact mi_15
    | 16, _ => exact mi_16
    | 17, _ => exact mi_17
    | 18, _ => exact mi_18
    | 19, _ => exact mi_19
    | 20, _ => exact mi_20
    | 21, _ => exact mi_21
    | 22, _ => exact mi_22
    | 23, _ => exact mi_23
    | 24, _ => exact mi_24
    | 25, _ => exact mi_25
    | 26, _ => exact mi_26
    | 27, _ => exact mi_27
    | 28, _ => exact mi_28
    | 29, _ => exact mi_29
    | 30, _ => exact mi_30
    | 31, _ => exact mi_31
    | 32, _ => exact mi_32
    | 33, _ => exact mi_33
    | 34, _ => exact mi_34
    | 35, _ => exact mi_35
    | 36, _ => exact mi_36
    | 37, _ => exact mi_37
    | 38, _ => exact mi_38
    | 39, _ => exact mi_39
    | 40, _ => exact mi_40
    | 41, _ => exact mi_41
    | 42, _ => exact mi_42
    | 43, _ => exact mi_43
    | 44, _ => exact mi_44
    | 45, _ => exact mi_45
    | 46, _ => exact mi_46
    | 47, _ => exact mi_47
    | 48, _ => exact mi_48
    | 49, _ => exact mi_49
    | 50, _ => exact mi_50
    | 51, _ => exact mi_51
    | 52, _ => exact mi_52
    | 53, _ => exact mi_53
    | 54, _ => exact mi_54
    | 55, _ => exact mi_55
    | 56, _ => exact mi_56
    | 57, _ => exact mi_57
    | 58, _ => exact mi_58
    | 59, _ => exact mi_59
    | 60, _ => exact mi_60
    | 61, _ => exact mi_61
    | 62, _ => exact mi_62
    | 63, _ => exact mi_63
    | 64, _ => exact mi_64
    | 65, _ => exact mi_65
    | 66, _ => exact mi_66
    | 67, _ => exact mi_67
    | 68, _ => exact mi_68
    | 69, _ => exact mi_69
    | 70, _ => exact mi_70
    | 71, _ => exact mi_71
    | 72, _ => exact mi_72
    | 73, _ => exact mi_73
    | 74, _ => exact mi_74
    | 75, _ => exact mi_75
    | 76, _ => exact mi_76
    | 77, _ => exact mi_77
    | 78, _ => exact mi_78
    | 79, _ => exact mi_79
    | 80, _ => exact mi_80
    | 81, _ => exact mi_81
    | 82, _ => exact mi_82
    | 83, _ => exact mi_83
    | 84, _ => exact mi_84
    | 85, _ => exact mi_85
    | 86, _ => exact mi_86
    | 87, _ => exact mi_87
    | 88, _ => exact mi_88
    | 89, _ => exact mi_89
    | 90, _ => exact mi_90
    | 91, _ => exact mi_91
    | 92, _ => exact mi_92
    | 93, _ => exact mi_93
    | 94, _ => exact mi_94
    | 95, _ => exact mi_95
    | 96, _ => exact mi_96
    | 97, _ => exact mi_97
    | 98, _ => exact mi_98
    | 99, _ => exact mi_99
    | 100, _ => exact mi_100
    | 101, _ => exact mi_101
    | 102, _ => exact mi_102
    | 103, _ => exact mi_103
    | 104, _ => exact mi_104
    | 105, _ => exact mi_105
    | 106, _ => exact mi_106
    | 107, _ => exact mi_107
    | 108, _ => exact mi_108
    | 109, _ => exact mi_109
    | 110, _ => exact mi_110
    | 111, _ => exact mi_111
    | 112, _ => exact mi_112
    | 113, _ => exact mi_113
    | 114, _ => exact mi_114
    | 115, _ => exact mi_115
    | i + 116, h => exact absurd h (by omega)
  · rw [List.getElem?_eq_none (by rw [mm_len]; omega), List.getElem?_eq_none (by rw [shp_len]; omega)]; rfl
theorem rel_init : REL f_init := by
  have e104 : ∀ k, f_init 104 k = (if k = 2 then 1 else if 3 ≤ k ∧ k < 39 then -1 else if 725 ≤ k then -1 else 0) := fun k => by simp [f_init]
  have z104 : ∀ k, k ≠ 2 → ¬ (3 ≤ k ∧ k < 39) → ¬ 725 ≤ k → f_init 104 k = 0 := fun k h1 h2 h3 => by rw [e104, if_neg h1, if_neg h2, if_neg h3]
  have r104 : ∀ c, c < 36 → f_init 104 (3 + c) = -1 := fun c hc => by rw [e104, if_neg (by omega), if_pos (by omega)]
  have s104 : ∀ c, c < 10 → f_init 104 (725 + c) = -1 := fun c hc => by rw [e104, if_neg (by omega), if_neg (by omega), if_pos (by omega)]
  refine ⟨⟨0, ⟨⟨?_, ?_, ?_, ?_, by omega⟩, fun c hc => ?_, fun c hc => ?_, fun o ho => ?_, fun s hs => ?_, fun k hk => absurd hk (by omega), fun k _ h8 => ⟨fun c hc => ?_, fun c hc => ?_, ?_, ?_, ?_⟩⟩, ⟨⟨0, by omega, ?_, fun _ _ => 0, fun _ _ => 0, fun _ => 0, fun _ => 0, fun _ => 0, fun k hk => absurd hk (by omega), fun o ho => ?_⟩, fun c hc => Or.inl (r104 c hc), fun c hc => ⟨0, by omega, ?_⟩, fun s hs => Or.inl (s104 s hs), fun k hk => absurd hk (by omega)⟩⟩, ⟨?_, Or.inl ?_⟩, fun hk => ?_, fun j hj => ?_, ⟨0, by omega, ?_, ?_⟩, fun i hi => ⟨?_, 0, by omega, ?_⟩, fun s hs => ⟨⟨?_, Or.inl ?_⟩, ⟨0, by omega, ?_, ?_, fun _ => rfl⟩, fun i hi => ?_⟩⟩
  · simp [f_init]
  · simp [f_init]
  · simp [f_init]
  · simp [f_init]; rfl
  · rw [r104 c hc]; simp [f_init]
  · rw [z104 _ (by omega) (by omega) (by omega)]; simp [f_init]
  · rw [z104 _ (by omega) (by omega) (by omega)]; simp [f_init]
  · rw [s104 s hs]; simp [f_init]
  · exact z104 _ (by omega) (by omega) (by omega)
  · exact z104 _ (by omega) (by omega) (by omega)
  · exact z104 _ (by omega) (by omega) (by omega)
  · exact z104 _ (by omega) (by omega) (by omega)
  · exact z104 _ (by omega) (by omega) (by omega)
  · rw [z104 _ (by omega) (by omega) (by omega)]; rfl
  · rw [z104 _ (by omega) (by omega) (by omega), Int32.toInt_zero]; omega
  · rw [z104 _ (by omega) (by omega) (by omega)]; rfl
  · simp [f_init]
  · simp [f_init]
  · have : f_init 0 2 = 0 := by simp [f_init]
    rw [this] at hk
    exact absurd hk (by decide)
  · simp [f_init]
  · simp [f_init]; rfl
  · simp [f_init]; rfl
  · simp [f_init]
  · simp [f_init]; rfl
  · have h1 : ¬ (95 + 2 * s = 2 ∨ 95 + 2 * s = 40) := by omega
    have h2 : ¬ (95 + 2 * s = 5 ∨ 95 + 2 * s = 43) := by omega
    have h3 : ¬ (95 + 2 * s = 1 ∨ 95 + 2 * s = 39) := by omega
    have h4 : ¬ 95 + 2 * s = 78 := by omega
    have h5 : ¬ 95 + 2 * s = 104 := by omega
    have : f_init (95 + 2 * s) 0 = 0 := by unfold f_init; rw [if_neg h1, if_neg h2, if_neg (fun q => h3 q.1), if_neg (fun q => h4 q.1), if_neg h5]
    rw [this]; simp [f_init]
  · simp [f_init]
  · have h1 : ¬ (95 + 2 * s = 2 ∨ 95 + 2 * s = 40) := by omega
    have h2 : ¬ (95 + 2 * s = 5 ∨ 95 + 2 * s = 43) := by omega
    have h3 : ¬ (95 + 2 * s = 1 ∨ 95 + 2 * s = 39) := by omega
    have h4 : ¬ 95 + 2 * s = 78 := by omega
    have h5 : ¬ 95 + 2 * s = 104 := by omega
    have : f_init (95 + 2 * s) 1 = 0 := by unfold f_init; rw [if_neg h1, if_neg h2, if_neg (fun q => h3 q.1), if_neg (fun q => h4 q.1), if_neg h5]
    rw [this]; rfl
  · simp [f_init]; rfl
  · have h1 : ¬ (96 + 2 * s = 2 ∨ 96 + 2 * s = 40) := by omega
    have h2 : ¬ (96 + 2 * s = 5 ∨ 96 + 2 * s = 43) := by omega
    have h3 : ¬ (96 + 2 * s = 1 ∨ 96 + 2 * s = 39) := by omega
    have h4 : ¬ 96 + 2 * s = 78 := by omega
    have h5 : ¬ 96 + 2 * s = 104 := by omega
    have : f_init (96 + 2 * s) i = 0 := by unfold f_init; rw [if_neg h1, if_neg h2, if_neg (fun q => h3 q.1), if_neg (fun q => h4 q.1), if_neg h5]
    rw [this]; simp [f_init]
