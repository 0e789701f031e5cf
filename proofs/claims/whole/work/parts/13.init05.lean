set_option maxRecDepth 100000 in
set_option maxHeartbeats 8000000 in
theorem cb_X2_init {D : va_G} {cK : Nat → ClassId} {ws0 : va_W} {a : Nat} : bb_E D cK mX2_init "<init>" 1 0 0 0 0 0 [some (.ref a)] [] ws0 (bb_Rt D cK mX2_init "<init>" 1 0 0 (fun ws2 => ws2 = ws0)) := by
  refine bb_aload_n (pc2 := 1) rfl dX2_init_0 rfl ?_
  refine bb_oinit (pc2 := 4) rfl dX2_init_1 wd_178 wd_89 wd_90 rfl rfl ?_
  exact bb_ret dX2_init_4 rfl rfl rfl
