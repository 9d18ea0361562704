/-! tables of the class: static arrays, String constants, links of nest mates (printed by wip/whole/gen.py) -/
def st_tab : List (String × List Int32) := [("TRAIT_LIMITS", [6, 5, 35, 9, 99, 23, 24]), ("KIND_ABOVE", [-1, 0, 0, 0, 1, 2, 3]), ("WORTHS", [0, 2, -3, -1, 3, -6, -1]), ("SOOTS", [30, 30, 30, 30, 30, 50, 60]), ("WIND_STEPS", [0, -6, 1, 6, -1])]
def str_tab : List (Nat × String × List Int32) := [(52, "roof", [114, 111, 111, 102]), (61, "wind", [119, 105, 110, 100]), (77, "of", [111, 102]), (93, "at", [97, 116]), (95, "high", [104, 105, 103, 104]), (100, "fire", [102, 105, 114, 101]), (102, "from", [102, 114, 111, 109]), (104, "long", [108, 111, 110, 103]), (129, "baker", [98, 97, 107, 101, 114]), (131, "tanner", [116, 97, 110, 110, 101, 114]), (133, "forge", [102, 111, 114, 103, 101]), (135, "oven", [111, 118, 101, 110]), (137, "tar", [116, 97, 114]), (139, "kiln", [107, 105, 108, 110]), (141, "chimney", [99, 104, 105, 109, 110, 101, 121])]
def nm_tab : List (String × Nat × MethodName) := [(RX6, 25, yX1_init), (RX6, 42, yX0_init), (RX6, 49, yX3_init), (RX6, 69, yX2_init), (RX1, 11, yX4_init), (RX5, 46, yX0_init)]
def nf_tab : List (String × Nat × String) := [(RX0, 43, "WORTHS"), (RX0, 46, "SOOTS"), (RX0, 62, "WIND_STEPS"), (RX1, 97, "TRAIT_LIMITS")]
def lw_g : List Cond := lw_tbl.filter goodWord
theorem lw_g_of {w : Cond} (h : w ∈ lw_tbl) (hg : goodWord w = true) : w ∈ lw_g := List.mem_filter.mpr ⟨h, hg⟩
def FU : Nat := 100000
