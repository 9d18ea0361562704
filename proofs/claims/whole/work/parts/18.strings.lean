/-! String constants: length and charAt -/
def str_len (id : Nat) : Option Int32 := if SPB + 100 ≤ id then (str_tab[id - (SPB + 100)]?).map (fun q => Int32.ofNat q.2.2.length) else none
def str_chr (id : Nat) (i : Int32) : Option Int32 := if SPB + 100 ≤ id ∧ 0 ≤ i then (str_tab[id - (SPB + 100)]?).bind fun q => q.2.2[i.toNatClampNeg]? else none
def e_slen (r : DE Nat) : DE Int32 := fun L M => (r L M).bind fun p => (str_len p.1).bind fun v => some (v, p.2)
def e_char (r : DE Nat) (ix : DE Int32) : DE Int32 := fun L M => (r L M).bind fun p => (ix L p.2).bind fun q => (str_chr p.1 q.1).bind fun v => some (v, q.2)
theorem ec_slen {C : CX} {k pc p1 idx : Nat} {r : DE Nat} (hr : EC C Value.ref k pc p1 r) (hl : Cond.methodLink (c_own C) idx yJ0_length_8abf5 ∈ lw_g) (hk8 : k ≤ 8) (hR : 2 ≤ c_fr C ∧ 40 ≤ c_lo C) (hd : decode (c_cc C) p1 = .ok (.invokevirtual idx, 3)) : EC C Value.int k pc (p1 + 3) (e_slen r) := sorry
theorem ec_char {C : CX} {k pc p1 p2 idx : Nat} {r : DE Nat} {ix : DE Int32} (hr : EC C Value.ref k pc p1 r) (hi : EC C Value.int (1 + k) p1 p2 ix) (hl : Cond.methodLink (c_own C) idx yJ0_charAt_5068e ∈ lw_g) (hk8 : k ≤ 8) (hR : 4 ≤ c_fr C ∧ 85 ≤ c_lo C) (hd : decode (c_cc C) p2 = .ok (.invokevirtual idx, 3)) : EC C Value.int k pc (p2 + 3) (e_char r ix) := sorry
