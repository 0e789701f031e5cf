set_option maxRecDepth 100000 in
set_option maxHeartbeats 8000000 in
theorem cb_X3_init {D : va_G} {cK : Nat → ClassId} {ws0 : va_W} {a : Nat} : bb_E D cK mX3_init "<init>" 2 0 0 0 0 0 [some (.ref a)] [] ws0 (bb_Rt D cK mX3_init "<init>" 2 0 0 (fun ws2 => ws2 = ws0)) := by
  refine bb_aload_n (pc2 := 1) rfl dX3_init_0 rfl ?_
  refine bb_initN (host := "StiltParish") [] [some (.ref a)] (pc2 := 4) rfl rfl dX3_init_1 ok_X2_init rfl rfl rfl rfl rfl (by decide +kernel) wd_176 rfl rfl rfl cb_X2_init (fun ws2 hq => ?_)
  obtain rfl := hq
  exact bb_ret dX3_init_4 rfl rfl rfl
