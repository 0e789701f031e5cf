set_option maxRecDepth 100000 in
set_option maxHeartbeats 8000000 in
theorem cb_X8_init {D : va_G} {cK : Nat → ClassId} {ws0 : va_W} {k a : Nat} (hk : ws0[k]? = some (a, .inr (8, [.int 0, .int 0, .int 0, .null, .int 0]))) : bb_E D cK mX8_init "<init>" 1 1 30 0 0 0 [some (.ref a)] [] ws0 (bb_Rt D cK mX8_init "<init>" 1 1 30 (fun ws2 => ∃ q1 : Nat, ws2 = ws0.set k (a, .inr (8, [.int 0, .int 0, .int 0, .ref q1, .int 0])) ++ [(q1, .inl (cK 0, 30, .inl (fun _ => 0)))])) := by
  refine bb_aload_n (pc2 := 1) rfl dX8_init_0 rfl ?_
  refine bb_oinit (pc2 := 4) rfl dX8_init_1 wd_146 wd_89 wd_90 rfl rfl ?_
  refine bb_aload_n (pc2 := 5) rfl dX8_init_4 rfl ?_
  refine bb_bipush (pc2 := 7) rfl dX8_init_5 lt_b_30 ?_
  refine bb_ws (ws2 := ws0.set k (a, .inr (8, [.int 0, .int 0, .int 0, .null, .int 0])) ++ []) (bb_self hk) ?_
  refine bb_newa (N := 30) (pc2 := 9) rfl dX8_init_7 wd_112 (by decide) (by decide) rfl rfl rfl (fun q1 => ?_)
  refine bb_ws (ws2 := ws0.set k (a, .inr (8, [.int 0, .int 0, .int 0, .null, .int 0])) ++ [(q1, .inl (cK 0, 30, .inl (fun _ => 0)))]) bb_nn ?_
  refine bb_putF k 8 3 (ft := (.array .int)) (ws2 := ws0.set k (a, .inr (8, [.int 0, .int 0, .int 0, .ref q1, .int 0])) ++ [(q1, .inl (cK 0, 30, .inl (fun _ => 0)))]) (pc2 := 12) rfl dX8_init_9 (bb_gk hk) ff_8_3 wd_157 rfl rfl rfl (by decide +kernel) rfl rfl (Nat.le_of_ble_eq_true rfl) (bb_sk hk) ?_
  exact bb_ret dX8_init_12 rfl rfl ⟨q1, rfl⟩
