set_option maxRecDepth 100000 in
set_option maxHeartbeats 8000000 in
theorem cb_X6_init_60 {D : va_G} {cK : Nat → ClassId} {ws0 : va_W} {k a : Nat} (hk : ws0[k]? = some (a, .inr (6, [.null, .int 0, .int 0]))) : bb_E D cK mX6_init "<init>" 1 1 60 0 0 0 [some (.ref a), some (.int (60 : Int32))] [] ws0 (bb_Rt D cK mX6_init "<init>" 1 1 60 (fun ws2 => ∃ q1 : Nat, ws2 = ws0.set k (a, .inr (6, [.ref q1, .int 0, .int 0])) ++ [(q1, .inl (cK 0, 60, .inl (fun _ => 0)))])) := by
  refine bb_aload_n (pc2 := 1) rfl dX6_init_0 rfl ?_
  refine bb_oinit (pc2 := 4) rfl dX6_init_1 wd_96 wd_89 wd_90 rfl rfl ?_
  refine bb_aload_n (pc2 := 5) rfl dX6_init_4 rfl ?_
  refine bb_iload_n (pc2 := 6) rfl dX6_init_5 rfl ?_
  refine bb_ws (ws2 := ws0.set k (a, .inr (6, [.null, .int 0, .int 0])) ++ []) (bb_self hk) ?_
  refine bb_newa (N := 60) (pc2 := 8) rfl dX6_init_6 wd_112 (by decide) (by decide) rfl rfl rfl (fun q1 => ?_)
  refine bb_ws (ws2 := ws0.set k (a, .inr (6, [.null, .int 0, .int 0])) ++ [(q1, .inl (cK 0, 60, .inl (fun _ => 0)))]) bb_nn ?_
  refine bb_putF k 6 0 (ft := (.array .int)) (ws2 := ws0.set k (a, .inr (6, [.ref q1, .int 0, .int 0])) ++ [(q1, .inl (cK 0, 60, .inl (fun _ => 0)))]) (pc2 := 11) rfl dX6_init_8 (bb_gk hk) ff_6_0 wd_97 rfl rfl rfl (by decide +kernel) rfl rfl (Nat.le_of_ble_eq_true rfl) (bb_sk hk) ?_
  exact bb_ret dX6_init_11 rfl rfl ⟨q1, rfl⟩
