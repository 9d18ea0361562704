/-! the first memory: it is of the shape, and the two sides agree -/
theorem mm_init : mm7 (mm6 4) sg7 = memOf f_init := by
  rw [mem_eq]
  decide +kernel
