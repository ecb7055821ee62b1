theorem oq5_X0_wayInAll (M : Mem) : Wp (f_X0_wayInAll M) (fun q => (q = M 42 0)) := by
  exact wp_some rfl
