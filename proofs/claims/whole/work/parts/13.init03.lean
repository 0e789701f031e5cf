set_option maxRecDepth 100000 in
set_option maxHeartbeats 8000000 in
theorem cb_X7_init {D : va_G} {cK : Nat → ClassId} {ws0 : va_W} {k a : Nat} (hk : ws0[k]? = some (a, .inr (7, [.int 0, .null, .null, .null, .null, .int 0]))) : bb_E D cK mX7_init "<init>" 1 2 120 0 0 0 [some (.ref a)] [] ws0 (bb_Rt D cK mX7_init "<init>" 1 2 120 (fun ws2 => ∃ q1 q2 : Nat, ws2 = ws0.set k (a, .inr (7, [.int 0, .ref q1, .ref q2, .null, .null, .int 0])) ++ [(q1, .inl (cK 0, 60, .inl (fun _ => 0))), (q2, .inl (cK 0, 60, .inl (fun _ => 0)))])) := by
  refine bb_aload_n (pc2 := 1) rfl dX7_init_0 rfl ?_
  refine bb_oinit (pc2 := 4) rfl dX7_init_1 wd_118 wd_89 wd_90 rfl rfl ?_
  refine bb_aload_n (pc2 := 5) rfl dX7_init_4 rfl ?_
  refine bb_bipush (pc2 := 7) rfl dX7_init_5 lt_b_60 ?_
  refine bb_ws (ws2 := ws0.set k (a, .inr (7, [.int 0, .null, .null, .null, .null, .int 0])) ++ []) (bb_self hk) ?_
  refine bb_newa (N := 60) (pc2 := 9) rfl dX7_init_7 wd_112 (by decide) (by decide) rfl rfl rfl (fun q1 => ?_)
  refine bb_ws (ws2 := ws0.set k (a, .inr (7, [.int 0, .null, .null, .null, .null, .int 0])) ++ [(q1, .inl (cK 0, 60, .inl (fun _ => 0)))]) bb_nn ?_
  refine bb_putF k 7 1 (ft := (.array .int)) (ws2 := ws0.set k (a, .inr (7, [.int 0, .ref q1, .null, .null, .null, .int 0])) ++ [(q1, .inl (cK 0, 60, .inl (fun _ => 0)))]) (pc2 := 12) rfl dX7_init_9 (bb_gk hk) ff_7_1 wd_122 rfl rfl rfl (by decide +kernel) rfl rfl (Nat.le_of_ble_eq_true rfl) (bb_sk hk) ?_
  refine bb_aload_n (pc2 := 13) rfl dX7_init_12 rfl ?_
  refine bb_bipush (pc2 := 15) rfl dX7_init_13 lt_b_60 ?_
  refine bb_newa (N := 60) (pc2 := 17) rfl dX7_init_15 wd_112 (by decide) (by decide) rfl rfl rfl (fun q2 => ?_)
  refine bb_ws (ws2 := ws0.set k (a, .inr (7, [.int 0, .ref q1, .null, .null, .null, .int 0])) ++ [(q1, .inl (cK 0, 60, .inl (fun _ => 0))), (q2, .inl (cK 0, 60, .inl (fun _ => 0)))]) bb_nn ?_
  refine bb_putF k 7 2 (ft := (.array .int)) (ws2 := ws0.set k (a, .inr (7, [.int 0, .ref q1, .ref q2, .null, .null, .int 0])) ++ [(q1, .inl (cK 0, 60, .inl (fun _ => 0))), (q2, .inl (cK 0, 60, .inl (fun _ => 0)))]) (pc2 := 20) rfl dX7_init_17 (bb_gk hk) ff_7_2 wd_123 rfl rfl rfl (by decide +kernel) rfl rfl (Nat.le_of_ble_eq_true rfl) (bb_sk hk) ?_
  exact bb_ret dX7_init_20 rfl rfl ⟨q1, q2, rfl⟩
