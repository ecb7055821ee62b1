/-! at, stoneIs, tried, check, count -/
theorem ff_at {MC MM : Mem} {r r' x y : Int32} (h : FF MC MM) (h1 : AtP (FdC MC 1) r x y) (h2 : AtP (FdR MM 1) r' x y) : r = r' := by
  rw [h.1.1] at h1
  exact (op_fn h1 h2).2
theorem ff_si {MC MM : Mem} {r r' i w : Int32} (h : FF MC MM) (h1 : SiP (FdC MC 1) r i w) (h2 : SiP (FdR MM 1) r' i w) : r = r' := by
  rw [h.1.1] at h1
  exact (op_fn h1 h2).2
