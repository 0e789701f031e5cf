def f_X12_day (a1 : Int32) (σ : ab_F) : Option (Int32 × ab_F) := (f_X12_in a1 (0 : Int32) (9999 : Int32) σ).bind (fun q1 => (if (ab_b q1) = 0 then (f_X12_error (1 : Int32) σ).bind (fun q3 => (some (q3.1, q3.2))) else (f_X12_change1 (0 : Int32) a1 σ).bind (fun q4 => (some (q4.1, q4.2)))))
set_option maxRecDepth 100000 in
set_option maxHeartbeats 4000000 in
theorem e_X12_day {sc : Nat × (Nat → Int32)} {r : Option Nat × Option Nat} {a1 : Int32} {σ : ab_F} {res : (Int32 × ab_F)} (h : f_X12_day a1 σ = some res) : ab_E mX12_day 1 sc 0 [some (.ref 85), some (.int a1)] [] (σ, r) (fun v S => v = some (.int res.1) ∧ S = (res.2, r)) := by
  unfold f_X12_day at h
  refine z_iload_n (pc2 := 1) rfl dX12_day_0 rfl ?_
  refine z_iconst (pc2 := 2) rfl dX12_day_1 lt_i_0 ?_
  refine z_sipush (pc2 := 5) rfl dX12_day_2 lt_s_9999 ?_
  obtain ⟨q1, hq1, h⟩ := ab_bnd h
  refine z_callSi [.int a1, .int (0 : Int32), .int (9999 : Int32)] [some (.int a1), some (.int (0 : Int32)), some (.int (9999 : Int32))] (pc2 := 8) rfl rfl dX12_day_5 ok_X12_in ⟨fun _ => rfl, fun _ => Nat.le_of_ble_eq_true rfl⟩ rfl wd_1042 wd_1043 rfl (e_X12_in hq1) ?_
  refine z_if_eq (pc2 := 11) (tgt := 20) rfl dX12_day_8 (by decide) (fun hc2 => ?_) (fun hc2 => ?_)
  · replace h := ab_pos hc2 h
    refine z_aload_n (pc2 := 21) rfl dX12_day_20 rfl ?_
    refine z_iconst (pc2 := 22) rfl dX12_day_21 lt_i_1 ?_
    obtain ⟨q3, hq3, h⟩ := ab_bnd h
    refine z_callVi 85 [.int (1 : Int32)] [some (.ref 85), some (.int (1 : Int32))] (pc2 := 25) rfl rfl dX12_day_22 ok_X12_error ⟨fun _ => rfl, fun _ => Nat.le_of_ble_eq_true rfl⟩ rfl rv_85 wd_1045 wd_1047 wd_16 rfl (e_X12_error hq3) ?_
    exact z_iret dX12_day_25 rfl rfl (fi_w h)
  · replace h := ab_neg hc2 h
    refine z_aload_n (pc2 := 12) rfl dX12_day_11 rfl ?_
    refine z_iconst (pc2 := 13) rfl dX12_day_12 lt_i_0 ?_
    refine z_iload_n (pc2 := 14) rfl dX12_day_13 rfl ?_
    obtain ⟨q4, hq4, h⟩ := ab_bnd h
    refine z_callVi 85 [.int (0 : Int32), .int a1] [some (.ref 85), some (.int (0 : Int32)), some (.int a1), none] (pc2 := 17) rfl rfl dX12_day_14 ok_X12_change1 ⟨fun _ => rfl, fun _ => Nat.le_of_ble_eq_true rfl⟩ rfl rv_85 wd_1188 wd_1190 wd_39 rfl (e_X12_change1 hq4) ?_
    refine ab_goto (tgt := 25) dX12_day_17 (by decide) ?_
    exact z_iret dX12_day_25 rfl rfl (fi_w h)
def f_X12_seed (a1 : Int32) (σ : ab_F) : Option (Int32 × ab_F) := (f_X12_change1 (2 : Int32) a1 σ).bind (fun q1 => (some (q1.1, q1.2)))
set_option maxRecDepth 100000 in
set_option maxHeartbeats 4000000 in
theorem e_X12_seed {sc : Nat × (Nat → Int32)} {r : Option Nat × Option Nat} {a1 : Int32} {σ : ab_F} {res : (Int32 × ab_F)} (h : f_X12_seed a1 σ = some res) : ab_E mX12_seed 1 sc 0 [some (.ref 85), some (.int a1)] [] (σ, r) (fun v S => v = some (.int res.1) ∧ S = (res.2, r)) := by
  unfold f_X12_seed at h
  refine z_aload_n (pc2 := 1) rfl dX12_seed_0 rfl ?_
  refine z_iconst (pc2 := 2) rfl dX12_seed_1 lt_i_2 ?_
  refine z_iload_n (pc2 := 3) rfl dX12_seed_2 rfl ?_
  obtain ⟨q1, hq1, h⟩ := ab_bnd h
  refine z_callVi 85 [.int (2 : Int32), .int a1] [some (.ref 85), some (.int (2 : Int32)), some (.int a1), none] (pc2 := 6) rfl rfl dX12_seed_3 ok_X12_change1 ⟨fun _ => rfl, fun _ => Nat.le_of_ble_eq_true rfl⟩ rfl rv_85 wd_1188 wd_1190 wd_39 rfl (e_X12_change1 hq1) ?_
  exact z_iret dX12_seed_6 rfl rfl (fi_w h)
def f_X12_thenAt (a1 : Int32) (a2 : Int32) (σ : ab_F) : Option (Int32 × ab_F) := (f_X12_saves σ).bind (fun q1 => (f_X12_goesOn a2 q1).bind (fun q2 => ab_ck (ab_ib a1 450) (ab_lt ((q2 86 (a1).toNatClampNeg)) (fun x4 => (f_X12_putsBack q2).bind (fun q5 => (some (x4, q5)))))))
set_option maxRecDepth 100000 in
set_option maxHeartbeats 4000000 in
theorem e_X12_thenAt {sc : Nat × (Nat → Int32)} {r : Option Nat × Option Nat} {a1 : Int32} {a2 : Int32} {σ : ab_F} {res : (Int32 × ab_F)} (h : f_X12_thenAt a1 a2 σ = some res) : ab_E mX12_thenAt 7 sc 0 [some (.ref 85), some (.int a1), some (.int a2), none] [] (σ, r) (fun v S => v = some (.int res.1) ∧ S = (res.2, r)) := by
  unfold f_X12_thenAt at h
  refine z_aload_n (pc2 := 1) rfl dX12_thenAt_0 rfl ?_
  obtain ⟨q1, hq1, h⟩ := ab_bnd h
  refine z_callVv 85 [] [some (.ref 85), none] (pc2 := 4) rfl rfl dX12_thenAt_1 ok_X12_saves ⟨fun _ => rfl, fun _ => Nat.le_of_ble_eq_true rfl⟩ rfl rv_85 wd_1276 wd_1278 wd_49 rfl (e_X12_saves hq1) ?_
  refine z_aload_n (pc2 := 5) rfl dX12_thenAt_4 rfl ?_
  refine z_iload_n (pc2 := 6) rfl dX12_thenAt_5 rfl ?_
  obtain ⟨q2, hq2, h⟩ := ab_bnd h
  refine z_callVv 85 [.int a2] [some (.ref 85), some (.int a2), none] (pc2 := 9) rfl rfl dX12_thenAt_6 ok_X12_goesOn ⟨fun _ => rfl, fun _ => Nat.le_of_ble_eq_true rfl⟩ rfl rv_85 wd_1224 wd_1226 wd_41 rfl (e_X12_goesOn hq2) ?_
  refine z_aload_n (pc2 := 10) rfl dX12_thenAt_9 rfl ?_
  refine z_getR 85 12 0 86 (pc2 := 13) rfl dX12_thenAt_10 rfl rfl ff_12_0 wd_977 rfl ?_
  refine z_iload_n (pc2 := 14) rfl dX12_thenAt_13 rfl ?_
  obtain ⟨hb3, h⟩ := ab_ck_e h
  refine z_iald 86 (pc2 := 15) (j := (a1).toNatClampNeg) rfl dX12_thenAt_14 rfl rfl hb3 rfl ?_
  obtain ⟨x4, hxx4, h⟩ := ab_lt_e h
  refine z_top hxx4 ?_
  refine z_istore_n (pc2 := 16) (L2 := [some (.ref 85), some (.int a1), some (.int a2), some (.int x4)]) rfl dX12_thenAt_15 (by decide) rfl rfl ?_
  refine z_aload_n (pc2 := 17) rfl dX12_thenAt_16 rfl ?_
  obtain ⟨q5, hq5, h⟩ := ab_bnd h
  refine z_callVv 85 [] [some (.ref 85), none] (pc2 := 20) rfl rfl dX12_thenAt_17 ok_X12_putsBack ⟨fun _ => rfl, fun _ => Nat.le_of_ble_eq_true rfl⟩ rfl rv_85 wd_1280 wd_1282 wd_50 rfl (e_X12_putsBack hq5) ?_
  refine z_iload_n (pc2 := 21) rfl dX12_thenAt_20 rfl ?_
  exact z_iret dX12_thenAt_21 rfl rfl (fi_w h)
def f_X12_then (a1 : Int32) (a2 : Int32) (σ : ab_F) : Option (Int32 × ab_F) := (f_X12_isCell a1 σ).bind (fun q1 => (if (ab_b q1) = 0 then (f_X12_error (1 : Int32) σ).bind (fun q3 => (some (q3.1, q3.2))) else (f_X12_in a2 (0 : Int32) (60 : Int32) σ).bind (fun q4 => (if (ab_b q4) = 0 then (f_X12_error (1 : Int32) σ).bind (fun q6 => (some (q6.1, q6.2))) else (f_X12_thenAt ((28 : Int32) + a1) a2 σ).bind (fun q7 => (some (q7.1, q7.2)))))))
set_option maxRecDepth 100000 in
set_option maxHeartbeats 4000000 in
theorem e_X12_then {sc : Nat × (Nat → Int32)} {r : Option Nat × Option Nat} {a1 : Int32} {a2 : Int32} {σ : ab_F} {res : (Int32 × ab_F)} (h : f_X12_then a1 a2 σ = some res) : ab_E mX12_then 8 sc 0 [some (.ref 85), some (.int a1), some (.int a2)] [] (σ, r) (fun v S => v = some (.int res.1) ∧ S = (res.2, r)) := by
  unfold f_X12_then at h
  refine z_iload_n (pc2 := 1) rfl dX12_then_0 rfl ?_
  obtain ⟨q1, hq1, h⟩ := ab_bnd h
  refine z_callSi [.int a1] [some (.int a1)] (pc2 := 4) rfl rfl dX12_then_1 ok_X12_isCell ⟨fun _ => rfl, fun _ => Nat.le_of_ble_eq_true rfl⟩ rfl wd_1110 wd_1111 rfl (e_X12_isCell hq1) ?_
  refine z_if_eq (pc2 := 7) (tgt := 29) rfl dX12_then_4 (by decide) (fun hc2 => ?_) (fun hc2 => ?_)
  · replace h := ab_pos hc2 h
    refine z_aload_n (pc2 := 30) rfl dX12_then_29 rfl ?_
    refine z_iconst (pc2 := 31) rfl dX12_then_30 lt_i_1 ?_
    obtain ⟨q3, hq3, h⟩ := ab_bnd h
    refine z_callVi 85 [.int (1 : Int32)] [some (.ref 85), some (.int (1 : Int32))] (pc2 := 34) rfl rfl dX12_then_31 ok_X12_error ⟨fun _ => rfl, fun _ => Nat.le_of_ble_eq_true rfl⟩ rfl rv_85 wd_1045 wd_1047 wd_16 rfl (e_X12_error hq3) ?_
    exact z_iret dX12_then_34 rfl rfl (fi_w h)
  · replace h := ab_neg hc2 h
    refine z_iload_n (pc2 := 8) rfl dX12_then_7 rfl ?_
    refine z_iconst (pc2 := 9) rfl dX12_then_8 lt_i_0 ?_
    refine z_bipush (pc2 := 11) rfl dX12_then_9 lt_b_60 ?_
    obtain ⟨q4, hq4, h⟩ := ab_bnd h
    refine z_callSi [.int a2, .int (0 : Int32), .int (60 : Int32)] [some (.int a2), some (.int (0 : Int32)), some (.int (60 : Int32))] (pc2 := 14) rfl rfl dX12_then_11 ok_X12_in ⟨fun _ => rfl, fun _ => Nat.le_of_ble_eq_true rfl⟩ rfl wd_1042 wd_1043 rfl (e_X12_in hq4) ?_
    refine z_if_eq (pc2 := 17) (tgt := 29) rfl dX12_then_14 (by decide) (fun hc5 => ?_) (fun hc5 => ?_)
    · replace h := ab_pos hc5 h
      refine z_aload_n (pc2 := 30) rfl dX12_then_29 rfl ?_
      refine z_iconst (pc2 := 31) rfl dX12_then_30 lt_i_1 ?_
      obtain ⟨q6, hq6, h⟩ := ab_bnd h
      refine z_callVi 85 [.int (1 : Int32)] [some (.ref 85), some (.int (1 : Int32))] (pc2 := 34) rfl rfl dX12_then_31 ok_X12_error ⟨fun _ => rfl, fun _ => Nat.le_of_ble_eq_true rfl⟩ rfl rv_85 wd_1045 wd_1047 wd_16 rfl (e_X12_error hq6) ?_
      exact z_iret dX12_then_34 rfl rfl (fi_w h)
    · replace h := ab_neg hc5 h
      refine z_aload_n (pc2 := 18) rfl dX12_then_17 rfl ?_
      refine z_bipush (pc2 := 20) rfl dX12_then_18 lt_b_28 ?_
      refine z_iload_n (pc2 := 21) rfl dX12_then_20 rfl ?_
      refine z_iadd (pc2 := 22) rfl dX12_then_21 ?_
      refine z_iload_n (pc2 := 23) rfl dX12_then_22 rfl ?_
      obtain ⟨q7, hq7, h⟩ := ab_bnd h
      refine z_callVi 85 [.int ((28 : Int32) + a1), .int a2] [some (.ref 85), some (.int ((28 : Int32) + a1)), some (.int a2), none] (pc2 := 26) rfl rfl dX12_then_23 ok_X12_thenAt ⟨fun _ => rfl, fun _ => Nat.le_of_ble_eq_true rfl⟩ rfl rv_85 wd_1272 wd_1274 wd_48 rfl (e_X12_thenAt hq7) ?_
      refine ab_goto (tgt := 34) dX12_then_26 (by decide) ?_
      exact z_iret dX12_then_34 rfl rfl (fi_w h)
def f_X12_learns (a1 : Int32) (a2 : Int32) (σ : ab_F) : Option (Int32 × ab_F) := (f_X12_isOne a1 σ).bind (fun q1 => (if (ab_b q1) = 0 then (f_X12_error (1 : Int32) σ).bind (fun q3 => (some (q3.1, q3.2))) else (f_X12_in a2 (0 : Int32) (60 : Int32) σ).bind (fun q4 => (if (ab_b q4) = 0 then (f_X12_error (1 : Int32) σ).bind (fun q6 => (some (q6.1, q6.2))) else (f_X12_thenAt (((76 : Int32) + ((5 : Int32) * a1)) + (4 : Int32)) a2 σ).bind (fun q7 => (some (q7.1, q7.2)))))))
set_option maxRecDepth 100000 in
set_option maxHeartbeats 4000000 in
theorem e_X12_learns {sc : Nat × (Nat → Int32)} {r : Option Nat × Option Nat} {a1 : Int32} {a2 : Int32} {σ : ab_F} {res : (Int32 × ab_F)} (h : f_X12_learns a1 a2 σ = some res) : ab_E mX12_learns 8 sc 0 [some (.ref 85), some (.int a1), some (.int a2)] [] (σ, r) (fun v S => v = some (.int res.1) ∧ S = (res.2, r)) := by
  unfold f_X12_learns at h
  refine z_aload_n (pc2 := 1) rfl dX12_learns_0 rfl ?_
  refine z_iload_n (pc2 := 2) rfl dX12_learns_1 rfl ?_
  obtain ⟨q1, hq1, h⟩ := ab_bnd h
  refine z_callVi 85 [.int a1] [some (.ref 85), some (.int a1)] (pc2 := 5) rfl rfl dX12_learns_2 ok_X12_isOne ⟨fun _ => rfl, fun _ => Nat.le_of_ble_eq_true rfl⟩ rfl rv_85 wd_1121 wd_1123 wd_29 rfl (e_X12_isOne hq1) ?_
  refine z_if_eq (pc2 := 8) (tgt := 34) rfl dX12_learns_5 (by decide) (fun hc2 => ?_) (fun hc2 => ?_)
  · replace h := ab_pos hc2 h
    refine z_aload_n (pc2 := 35) rfl dX12_learns_34 rfl ?_
    refine z_iconst (pc2 := 36) rfl dX12_learns_35 lt_i_1 ?_
    obtain ⟨q3, hq3, h⟩ := ab_bnd h
    refine z_callVi 85 [.int (1 : Int32)] [some (.ref 85), some (.int (1 : Int32))] (pc2 := 39) rfl rfl dX12_learns_36 ok_X12_error ⟨fun _ => rfl, fun _ => Nat.le_of_ble_eq_true rfl⟩ rfl rv_85 wd_1045 wd_1047 wd_16 rfl (e_X12_error hq3) ?_
    exact z_iret dX12_learns_39 rfl rfl (fi_w h)
  · replace h := ab_neg hc2 h
    refine z_iload_n (pc2 := 9) rfl dX12_learns_8 rfl ?_
    refine z_iconst (pc2 := 10) rfl dX12_learns_9 lt_i_0 ?_
    refine z_bipush (pc2 := 12) rfl dX12_learns_10 lt_b_60 ?_
    obtain ⟨q4, hq4, h⟩ := ab_bnd h
    refine z_callSi [.int a2, .int (0 : Int32), .int (60 : Int32)] [some (.int a2), some (.int (0 : Int32)), some (.int (60 : Int32))] (pc2 := 15) rfl rfl dX12_learns_12 ok_X12_in ⟨fun _ => rfl, fun _ => Nat.le_of_ble_eq_true rfl⟩ rfl wd_1042 wd_1043 rfl (e_X12_in hq4) ?_
    refine z_if_eq (pc2 := 18) (tgt := 34) rfl dX12_learns_15 (by decide) (fun hc5 => ?_) (fun hc5 => ?_)
    · replace h := ab_pos hc5 h
      refine z_aload_n (pc2 := 35) rfl dX12_learns_34 rfl ?_
      refine z_iconst (pc2 := 36) rfl dX12_learns_35 lt_i_1 ?_
      obtain ⟨q6, hq6, h⟩ := ab_bnd h
      refine z_callVi 85 [.int (1 : Int32)] [some (.ref 85), some (.int (1 : Int32))] (pc2 := 39) rfl rfl dX12_learns_36 ok_X12_error ⟨fun _ => rfl, fun _ => Nat.le_of_ble_eq_true rfl⟩ rfl rv_85 wd_1045 wd_1047 wd_16 rfl (e_X12_error hq6) ?_
      exact z_iret dX12_learns_39 rfl rfl (fi_w h)
    · replace h := ab_neg hc5 h
      refine z_aload_n (pc2 := 19) rfl dX12_learns_18 rfl ?_
      refine z_bipush (pc2 := 21) rfl dX12_learns_19 lt_b_76 ?_
      refine z_iconst (pc2 := 22) rfl dX12_learns_21 lt_i_5 ?_
      refine z_iload_n (pc2 := 23) rfl dX12_learns_22 rfl ?_
      refine z_imul (pc2 := 24) rfl dX12_learns_23 ?_
      refine z_iadd (pc2 := 25) rfl dX12_learns_24 ?_
      refine z_iconst (pc2 := 26) rfl dX12_learns_25 lt_i_4 ?_
      refine z_iadd (pc2 := 27) rfl dX12_learns_26 ?_
      refine z_iload_n (pc2 := 28) rfl dX12_learns_27 rfl ?_
      obtain ⟨q7, hq7, h⟩ := ab_bnd h
      refine z_callVi 85 [.int (((76 : Int32) + ((5 : Int32) * a1)) + (4 : Int32)), .int a2] [some (.ref 85), some (.int (((76 : Int32) + ((5 : Int32) * a1)) + (4 : Int32))), some (.int a2), none] (pc2 := 31) rfl rfl dX12_learns_28 ok_X12_thenAt ⟨fun _ => rfl, fun _ => Nat.le_of_ble_eq_true rfl⟩ rfl rv_85 wd_1272 wd_1274 wd_48 rfl (e_X12_thenAt hq7) ?_
      refine ab_goto (tgt := 39) dX12_learns_31 (by decide) ?_
      exact z_iret dX12_learns_39 rfl rfl (fi_w h)
def f_X12_soonest_L22 (p1 : Int32) (K : Int32 → ab_F → Option (Int32 × ab_F)) : Nat → Int32 → ab_F → Option (Int32 × ab_F)
  | 0, _, _ => none
  | n + 1, u2, σ => (if (60 : Int32) < u2 then (K u2 σ) else (f_X12_knownNow σ).bind (fun q5 => (if ((q5 >>> (p1 &&& 31)) &&& (1 : Int32)) = 0 then (f_X12_day1 σ).bind (fun q7 => ab_lt (u2 + (1 : Int32)) (fun x8 => (f_X12_soonest_L22 p1 K n x8 q7))) else (K u2 σ))))
set_option maxRecDepth 100000 in
set_option maxHeartbeats 4000000 in
theorem e_X12_soonest_L22 {sc : Nat × (Nat → Int32)} {r : Option Nat × Option Nat} {p1 : Int32} {K : Int32 → ab_F → Option (Int32 × ab_F)} {res : (Int32 × ab_F)} (hK : ∀ (u2 : Int32) (σ : ab_F), K u2 σ = some res → ab_E mX12_soonest 6 sc 49 [some (.ref 85), none, some (.int u2)] [] (σ, r) (fun v S => v = some (.int res.1) ∧ S = (res.2, r))) : ∀ (n : Nat) (u2 : Int32) (σ : ab_F), f_X12_soonest_L22 p1 K n u2 σ = some res → ab_E mX12_soonest 6 sc 22 [some (.ref 85), some (.int p1), some (.int u2)] [] (σ, r) (fun v S => v = some (.int res.1) ∧ S = (res.2, r)) := by
  intro n
  induction n with
  | zero =>
    intro u2 σ h
    rw [f_X12_soonest_L22] at h
    cases h
  | succ n ih =>
    intro u2 σ h
    rw [f_X12_soonest_L22] at h
    refine z_iload_n (pc2 := 23) rfl dX12_soonest_22 rfl ?_
    refine z_bipush (pc2 := 25) rfl dX12_soonest_23 lt_b_60 ?_
    refine z_icmp_gt (pc2 := 28) (tgt := 49) rfl dX12_soonest_25 (by decide) (fun hc4 => ?_) (fun hc4 => ?_)
    · replace h := ab_pos hc4 h
      refine z_fgt [true, false, true] (L2 := [some (.ref 85), none, some (.int u2)]) rfl ?_
      exact hK _ _ h
    · replace h := ab_neg hc4 h
      refine z_aload_n (pc2 := 29) rfl dX12_soonest_28 rfl ?_
      obtain ⟨q5, hq5, h⟩ := ab_bnd h
      refine z_callVi 85 [] [some (.ref 85), none, none] (pc2 := 32) rfl rfl dX12_soonest_29 ok_X12_knownNow ⟨fun _ => rfl, fun _ => Nat.le_of_ble_eq_true rfl⟩ rfl rv_85 wd_1247 wd_1249 wd_46 rfl (e_X12_knownNow hq5) ?_
      refine z_iload_n (pc2 := 33) rfl dX12_soonest_32 rfl ?_
      refine z_ishr (pc2 := 34) rfl dX12_soonest_33 ?_
      refine z_iconst (pc2 := 35) rfl dX12_soonest_34 lt_i_1 ?_
      refine z_iand (pc2 := 36) rfl dX12_soonest_35 ?_
      refine z_if_ne (pc2 := 39) (tgt := 49) rfl dX12_soonest_36 (by decide) (fun hc6 => ?_) (fun hc6 => ?_)
      · replace h := ab_neg hc6 h
        refine z_fgt [true, false, true] (L2 := [some (.ref 85), none, some (.int u2)]) rfl ?_
        exact hK _ _ h
      · replace h := ab_pos hc6 h
        refine z_aload_n (pc2 := 40) rfl dX12_soonest_39 rfl ?_
        obtain ⟨q7, hq7, h⟩ := ab_bnd h
        refine z_callVv 85 [] [some (.ref 85), none, none, none] (pc2 := 43) rfl rfl dX12_soonest_40 ok_X12_day1 ⟨fun _ => rfl, fun _ => Nat.le_of_ble_eq_true rfl⟩ rfl rv_85 wd_1228 wd_1230 wd_42 rfl (e_X12_day1 hq7) ?_
        obtain ⟨x8, hxx8, h⟩ := ab_lt_e h
        refine z_iinc (pc2 := 46) (v := x8) (L2 := [some (.ref 85), some (.int p1), some (.int x8)]) rfl dX12_soonest_43 rfl (by rw [hxx8]; rfl) (by decide) rfl rfl ?_
        refine ab_goto (tgt := 22) dX12_soonest_46 (by decide) ?_
        refine z_fgt [true, true, true] (L2 := [some (.ref 85), some (.int p1), some (.int x8)]) rfl ?_
        exact ih _ _ h
def f_X12_soonest (a1 : Int32) (σ : ab_F) : Option (Int32 × ab_F) := (f_X12_in a1 (0 : Int32) (11 : Int32) σ).bind (fun q1 => (if (ab_b q1) = 0 then (f_X12_error (1 : Int32) σ).bind (fun q14 => (some (q14.1, q14.2))) else (f_X12_saves σ).bind (fun q3 => (f_X12_soonest_L22 a1 (fun (k9 : Int32) (s10 : ab_F) => (f_X12_putsBack s10).bind (fun q11 => (if k9 ≤ (60 : Int32) then (some (k9, q11)) else (f_X12_error (2 : Int32) q11).bind (fun q13 => (some (q13.1, q13.2)))))) ab_fu (0 : Int32) q3))))
set_option maxRecDepth 100000 in
set_option maxHeartbeats 4000000 in
theorem e_X12_soonest {sc : Nat × (Nat → Int32)} {r : Option Nat × Option Nat} {a1 : Int32} {σ : ab_F} {res : (Int32 × ab_F)} (h : f_X12_soonest a1 σ = some res) : ab_E mX12_soonest 6 sc 0 [some (.ref 85), some (.int a1), none] [] (σ, r) (fun v S => v = some (.int res.1) ∧ S = (res.2, r)) := by
  unfold f_X12_soonest at h
  refine z_iload_n (pc2 := 1) rfl dX12_soonest_0 rfl ?_
  refine z_iconst (pc2 := 2) rfl dX12_soonest_1 lt_i_0 ?_
  refine z_bipush (pc2 := 4) rfl dX12_soonest_2 lt_b_11 ?_
  obtain ⟨q1, hq1, h⟩ := ab_bnd h
  refine z_callSi [.int a1, .int (0 : Int32), .int (11 : Int32)] [some (.int a1), some (.int (0 : Int32)), some (.int (11 : Int32))] (pc2 := 7) rfl rfl dX12_soonest_4 ok_X12_in ⟨fun _ => rfl, fun _ => Nat.le_of_ble_eq_true rfl⟩ rfl wd_1042 wd_1043 rfl (e_X12_in hq1) ?_
  refine z_if_ne (pc2 := 10) (tgt := 16) rfl dX12_soonest_7 (by decide) (fun hc2 => ?_) (fun hc2 => ?_)
  · replace h := ab_neg hc2 h
    refine z_aload_n (pc2 := 17) rfl dX12_soonest_16 rfl ?_
    obtain ⟨q3, hq3, h⟩ := ab_bnd h
    refine z_callVv 85 [] [some (.ref 85), none] (pc2 := 20) rfl rfl dX12_soonest_17 ok_X12_saves ⟨fun _ => rfl, fun _ => Nat.le_of_ble_eq_true rfl⟩ rfl rv_85 wd_1276 wd_1278 wd_49 rfl (e_X12_saves hq3) ?_
    refine z_iconst (pc2 := 21) rfl dX12_soonest_20 lt_i_0 ?_
    refine z_istore_n (pc2 := 22) (L2 := [some (.ref 85), some (.int a1), some (.int (0 : Int32))]) rfl dX12_soonest_21 (by decide) rfl rfl ?_
    refine z_fgt [true, true, true] (L2 := [some (.ref 85), some (.int a1), some (.int (0 : Int32))]) rfl ?_
    refine e_X12_soonest_L22 (fun k9 s10 h => ?_) _ _ _ h
    refine z_aload_n (pc2 := 50) rfl dX12_soonest_49 rfl ?_
    obtain ⟨q11, hq11, h⟩ := ab_bnd h
    refine z_callVv 85 [] [some (.ref 85), none] (pc2 := 53) rfl rfl dX12_soonest_50 ok_X12_putsBack ⟨fun _ => rfl, fun _ => Nat.le_of_ble_eq_true rfl⟩ rfl rv_85 wd_1280 wd_1282 wd_50 rfl (e_X12_putsBack hq11) ?_
    refine z_iload_n (pc2 := 54) rfl dX12_soonest_53 rfl ?_
    refine z_bipush (pc2 := 56) rfl dX12_soonest_54 lt_b_60 ?_
    refine z_icmp_le (pc2 := 59) (tgt := 67) rfl dX12_soonest_56 (by decide) (fun hc12 => ?_) (fun hc12 => ?_)
    · replace h := ab_pos hc12 h
      refine z_iload_n (pc2 := 68) rfl dX12_soonest_67 rfl ?_
      exact z_iret dX12_soonest_68 rfl rfl (fi_w h)
    · replace h := ab_neg hc12 h
      refine z_aload_n (pc2 := 60) rfl dX12_soonest_59 rfl ?_
      refine z_iconst (pc2 := 61) rfl dX12_soonest_60 lt_i_2 ?_
      obtain ⟨q13, hq13, h⟩ := ab_bnd h
      refine z_callVi 85 [.int (2 : Int32)] [some (.ref 85), some (.int (2 : Int32))] (pc2 := 64) rfl rfl dX12_soonest_61 ok_X12_error ⟨fun _ => rfl, fun _ => Nat.le_of_ble_eq_true rfl⟩ rfl rv_85 wd_1045 wd_1047 wd_16 rfl (e_X12_error hq13) ?_
      refine ab_goto (tgt := 68) dX12_soonest_64 (by decide) ?_
      exact z_iret dX12_soonest_68 rfl rfl (fi_w h)
  · replace h := ab_pos hc2 h
    refine z_aload_n (pc2 := 11) rfl dX12_soonest_10 rfl ?_
    refine z_iconst (pc2 := 12) rfl dX12_soonest_11 lt_i_1 ?_
    obtain ⟨q14, hq14, h⟩ := ab_bnd h
    refine z_callVi 85 [.int (1 : Int32)] [some (.ref 85), some (.int (1 : Int32))] (pc2 := 15) rfl rfl dX12_soonest_12 ok_X12_error ⟨fun _ => rfl, fun _ => Nat.le_of_ble_eq_true rfl⟩ rfl rv_85 wd_1045 wd_1047 wd_16 rfl (e_X12_error hq14) ?_
    exact z_iret dX12_soonest_15 rfl rfl (fi_w h)
def f_X12_stiltsFor_L38 (p1 : Int32) (p2 : Int32) (p3 : Int32) (K : ab_F → Option (Int32 × ab_F)) : Nat → Int32 → ab_F → Option (Int32 × ab_F)
  | 0, _, _ => none
  | n + 1, u4, σ => (if (20 : Int32) < u4 then (K σ) else (f_X12_lays1 p1 (3 : Int32) u4 σ).bind (fun q9 => (f_X12_goesOn p2 q9).bind (fun q10 => (f_X12_its p1 (4 : Int32) q10).bind (fun q11 => (if q11 = p3 then (f_X12_putsBack q10).bind (fun q15 => (some (u4, q15))) else (f_X12_putsBack q10).bind (fun q13 => ab_lt (u4 + (1 : Int32)) (fun x14 => (f_X12_stiltsFor_L38 p1 p2 p3 K n x14 q13))))))))
set_option maxRecDepth 100000 in
set_option maxHeartbeats 4000000 in
theorem e_X12_stiltsFor_L38 {sc : Nat × (Nat → Int32)} {r : Option Nat × Option Nat} {p1 : Int32} {p2 : Int32} {p3 : Int32} {K : ab_F → Option (Int32 × ab_F)} {res : (Int32 × ab_F)} (hK : ∀ (σ : ab_F), K σ = some res → ab_E mX12_stiltsFor 7 sc 93 [some (.ref 85), none, none, none, none, none] [] (σ, r) (fun v S => v = some (.int res.1) ∧ S = (res.2, r))) : ∀ (n : Nat) (u4 : Int32) (σ : ab_F), f_X12_stiltsFor_L38 p1 p2 p3 K n u4 σ = some res → ab_E mX12_stiltsFor 7 sc 38 [some (.ref 85), some (.int p1), some (.int p2), some (.int p3), some (.int u4), none] [] (σ, r) (fun v S => v = some (.int res.1) ∧ S = (res.2, r)) := by
  intro n
  induction n with
  | zero =>
    intro u4 σ h
    rw [f_X12_stiltsFor_L38] at h
    cases h
  | succ n ih =>
    intro u4 σ h
    rw [f_X12_stiltsFor_L38] at h
    refine z_iload (pc2 := 40) rfl dX12_stiltsFor_38 rfl ?_
    refine z_bipush (pc2 := 42) rfl dX12_stiltsFor_40 lt_b_20 ?_
    refine z_icmp_gt (pc2 := 45) (tgt := 93) rfl dX12_stiltsFor_42 (by decide) (fun hc8 => ?_) (fun hc8 => ?_)
    · replace h := ab_pos hc8 h
      refine z_fgt [true, false, false, false, false, false] (L2 := [some (.ref 85), none, none, none, none, none]) rfl ?_
      exact hK  _ h
    · replace h := ab_neg hc8 h
      refine z_aload_n (pc2 := 46) rfl dX12_stiltsFor_45 rfl ?_
      refine z_iload_n (pc2 := 47) rfl dX12_stiltsFor_46 rfl ?_
      refine z_iconst (pc2 := 48) rfl dX12_stiltsFor_47 lt_i_3 ?_
      refine z_iload (pc2 := 50) rfl dX12_stiltsFor_48 rfl ?_
      obtain ⟨q9, hq9, h⟩ := ab_bnd h
      refine z_callVv 85 [.int p1, .int (3 : Int32), .int u4] [some (.ref 85), some (.int p1), some (.int (3 : Int32)), some (.int u4)] (pc2 := 53) rfl rfl dX12_stiltsFor_50 ok_X12_lays1 ⟨fun _ => rfl, fun _ => Nat.le_of_ble_eq_true rfl⟩ rfl rv_85 wd_1113 wd_1115 wd_28 rfl (e_X12_lays1 hq9) ?_
      refine z_aload_n (pc2 := 54) rfl dX12_stiltsFor_53 rfl ?_
      refine z_iload_n (pc2 := 55) rfl dX12_stiltsFor_54 rfl ?_
      obtain ⟨q10, hq10, h⟩ := ab_bnd h
      refine z_callVv 85 [.int p2] [some (.ref 85), some (.int p2), none] (pc2 := 58) rfl rfl dX12_stiltsFor_55 ok_X12_goesOn ⟨fun _ => rfl, fun _ => Nat.le_of_ble_eq_true rfl⟩ rfl rv_85 wd_1224 wd_1226 wd_41 rfl (e_X12_goesOn hq10) ?_
      refine z_aload_n (pc2 := 59) rfl dX12_stiltsFor_58 rfl ?_
      refine z_iload_n (pc2 := 60) rfl dX12_stiltsFor_59 rfl ?_
      refine z_iconst (pc2 := 61) rfl dX12_stiltsFor_60 lt_i_4 ?_
      obtain ⟨q11, hq11, h⟩ := ab_bnd h
      refine z_callVi 85 [.int p1, .int (4 : Int32)] [some (.ref 85), some (.int p1), some (.int (4 : Int32))] (pc2 := 64) rfl rfl dX12_stiltsFor_61 ok_X12_its ⟨fun _ => rfl, fun _ => Nat.le_of_ble_eq_true rfl⟩ rfl rv_85 wd_1129 wd_1131 wd_31 rfl (e_X12_its hq11) ?_
      refine z_iload_n (pc2 := 65) rfl dX12_stiltsFor_64 rfl ?_
      refine z_icmp_ne (pc2 := 68) (tgt := 72) rfl dX12_stiltsFor_65 (by decide) (fun hc12 => ?_) (fun hc12 => ?_)
      · replace h := ab_neg hc12 h
        refine z_iconst (pc2 := 73) rfl dX12_stiltsFor_72 lt_i_0 ?_
        refine z_istore (pc2 := 75) (L2 := [some (.ref 85), some (.int p1), some (.int p2), some (.int p3), some (.int u4), some (.int (0 : Int32))]) rfl dX12_stiltsFor_73 (by decide) rfl rfl ?_
        refine z_aload_n (pc2 := 76) rfl dX12_stiltsFor_75 rfl ?_
        obtain ⟨q13, hq13, h⟩ := ab_bnd h
        refine z_callVv 85 [] [some (.ref 85), none] (pc2 := 79) rfl rfl dX12_stiltsFor_76 ok_X12_putsBack ⟨fun _ => rfl, fun _ => Nat.le_of_ble_eq_true rfl⟩ rfl rv_85 wd_1280 wd_1282 wd_50 rfl (e_X12_putsBack hq13) ?_
        refine z_iload (pc2 := 81) rfl dX12_stiltsFor_79 rfl ?_
        refine z_if_eq (pc2 := 84) (tgt := 87) rfl dX12_stiltsFor_81 (by decide) (fun hc => ?_) (fun hc => ?_)
        · obtain ⟨x14, hxx14, h⟩ := ab_lt_e h
          refine z_iinc (pc2 := 90) (v := x14) (L2 := [some (.ref 85), some (.int p1), some (.int p2), some (.int p3), some (.int x14), some (.int (0 : Int32))]) rfl dX12_stiltsFor_87 rfl (by rw [hxx14]; rfl) (by decide) rfl rfl ?_
          refine ab_goto (tgt := 38) dX12_stiltsFor_90 (by decide) ?_
          refine z_fgt [true, true, true, true, true, false] (L2 := [some (.ref 85), some (.int p1), some (.int p2), some (.int p3), some (.int x14), none]) rfl ?_
          exact ih _ _ h
        · exact absurd hc (by decide)
      · replace h := ab_pos hc12 h
        refine z_iconst (pc2 := 69) rfl dX12_stiltsFor_68 lt_i_1 ?_
        refine ab_goto (tgt := 73) dX12_stiltsFor_69 (by decide) ?_
        refine z_istore (pc2 := 75) (L2 := [some (.ref 85), some (.int p1), some (.int p2), some (.int p3), some (.int u4), some (.int (1 : Int32))]) rfl dX12_stiltsFor_73 (by decide) rfl rfl ?_
        refine z_aload_n (pc2 := 76) rfl dX12_stiltsFor_75 rfl ?_
        obtain ⟨q15, hq15, h⟩ := ab_bnd h
        refine z_callVv 85 [] [some (.ref 85), none] (pc2 := 79) rfl rfl dX12_stiltsFor_76 ok_X12_putsBack ⟨fun _ => rfl, fun _ => Nat.le_of_ble_eq_true rfl⟩ rfl rv_85 wd_1280 wd_1282 wd_50 rfl (e_X12_putsBack hq15) ?_
        refine z_iload (pc2 := 81) rfl dX12_stiltsFor_79 rfl ?_
        refine z_if_eq (pc2 := 84) (tgt := 87) rfl dX12_stiltsFor_81 (by decide) (fun hc => ?_) (fun hc => ?_)
        · exact absurd hc (by decide)
        · refine z_iload (pc2 := 86) rfl dX12_stiltsFor_84 rfl ?_
          exact z_iret dX12_stiltsFor_86 rfl rfl (fi_w h)
def f_X12_stiltsFor (a1 : Int32) (a2 : Int32) (σ : ab_F) : Option (Int32 × ab_F) := (f_X12_isOne a1 σ).bind (fun q1 => (if (ab_b q1) = 0 then (f_X12_error (1 : Int32) σ).bind (fun q3 => (some (q3.1, q3.2))) else (f_X12_in a2 (0 : Int32) (40 : Int32) σ).bind (fun q4 => (if (ab_b q4) = 0 then (f_X12_error (1 : Int32) σ).bind (fun q18 => (some (q18.1, q18.2))) else (f_X12_its a1 (4 : Int32) σ).bind (fun q6 => (f_X12_saves σ).bind (fun q7 => (f_X12_stiltsFor_L38 a1 a2 q6 (fun (s16 : ab_F) => (f_X12_error (2 : Int32) s16).bind (fun q17 => (some (q17.1, q17.2)))) ab_fu (0 : Int32) q7)))))))
set_option maxRecDepth 100000 in
set_option maxHeartbeats 4000000 in
theorem e_X12_stiltsFor {sc : Nat × (Nat → Int32)} {r : Option Nat × Option Nat} {a1 : Int32} {a2 : Int32} {σ : ab_F} {res : (Int32 × ab_F)} (h : f_X12_stiltsFor a1 a2 σ = some res) : ab_E mX12_stiltsFor 7 sc 0 [some (.ref 85), some (.int a1), some (.int a2), none, none, none] [] (σ, r) (fun v S => v = some (.int res.1) ∧ S = (res.2, r)) := by
  unfold f_X12_stiltsFor at h
  refine z_aload_n (pc2 := 1) rfl dX12_stiltsFor_0 rfl ?_
  refine z_iload_n (pc2 := 2) rfl dX12_stiltsFor_1 rfl ?_
  obtain ⟨q1, hq1, h⟩ := ab_bnd h
  refine z_callVi 85 [.int a1] [some (.ref 85), some (.int a1)] (pc2 := 5) rfl rfl dX12_stiltsFor_2 ok_X12_isOne ⟨fun _ => rfl, fun _ => Nat.le_of_ble_eq_true rfl⟩ rfl rv_85 wd_1121 wd_1123 wd_29 rfl (e_X12_isOne hq1) ?_
  refine z_if_eq (pc2 := 8) (tgt := 18) rfl dX12_stiltsFor_5 (by decide) (fun hc2 => ?_) (fun hc2 => ?_)
  · replace h := ab_pos hc2 h
    refine z_aload_n (pc2 := 19) rfl dX12_stiltsFor_18 rfl ?_
    refine z_iconst (pc2 := 20) rfl dX12_stiltsFor_19 lt_i_1 ?_
    obtain ⟨q3, hq3, h⟩ := ab_bnd h
    refine z_callVi 85 [.int (1 : Int32)] [some (.ref 85), some (.int (1 : Int32))] (pc2 := 23) rfl rfl dX12_stiltsFor_20 ok_X12_error ⟨fun _ => rfl, fun _ => Nat.le_of_ble_eq_true rfl⟩ rfl rv_85 wd_1045 wd_1047 wd_16 rfl (e_X12_error hq3) ?_
    exact z_iret dX12_stiltsFor_23 rfl rfl (fi_w h)
  · replace h := ab_neg hc2 h
    refine z_iload_n (pc2 := 9) rfl dX12_stiltsFor_8 rfl ?_
    refine z_iconst (pc2 := 10) rfl dX12_stiltsFor_9 lt_i_0 ?_
    refine z_bipush (pc2 := 12) rfl dX12_stiltsFor_10 lt_b_40 ?_
    obtain ⟨q4, hq4, h⟩ := ab_bnd h
    refine z_callSi [.int a2, .int (0 : Int32), .int (40 : Int32)] [some (.int a2), some (.int (0 : Int32)), some (.int (40 : Int32))] (pc2 := 15) rfl rfl dX12_stiltsFor_12 ok_X12_in ⟨fun _ => rfl, fun _ => Nat.le_of_ble_eq_true rfl⟩ rfl wd_1042 wd_1043 rfl (e_X12_in hq4) ?_
    refine z_if_ne (pc2 := 18) (tgt := 24) rfl dX12_stiltsFor_15 (by decide) (fun hc5 => ?_) (fun hc5 => ?_)
    · replace h := ab_neg hc5 h
      refine z_aload_n (pc2 := 25) rfl dX12_stiltsFor_24 rfl ?_
      refine z_iload_n (pc2 := 26) rfl dX12_stiltsFor_25 rfl ?_
      refine z_iconst (pc2 := 27) rfl dX12_stiltsFor_26 lt_i_4 ?_
      obtain ⟨q6, hq6, h⟩ := ab_bnd h
      refine z_callVi 85 [.int a1, .int (4 : Int32)] [some (.ref 85), some (.int a1), some (.int (4 : Int32))] (pc2 := 30) rfl rfl dX12_stiltsFor_27 ok_X12_its ⟨fun _ => rfl, fun _ => Nat.le_of_ble_eq_true rfl⟩ rfl rv_85 wd_1129 wd_1131 wd_31 rfl (e_X12_its hq6) ?_
      refine z_istore_n (pc2 := 31) (L2 := [some (.ref 85), some (.int a1), some (.int a2), some (.int q6), none, none]) rfl dX12_stiltsFor_30 (by decide) rfl rfl ?_
      refine z_aload_n (pc2 := 32) rfl dX12_stiltsFor_31 rfl ?_
      obtain ⟨q7, hq7, h⟩ := ab_bnd h
      refine z_callVv 85 [] [some (.ref 85), none] (pc2 := 35) rfl rfl dX12_stiltsFor_32 ok_X12_saves ⟨fun _ => rfl, fun _ => Nat.le_of_ble_eq_true rfl⟩ rfl rv_85 wd_1276 wd_1278 wd_49 rfl (e_X12_saves hq7) ?_
      refine z_iconst (pc2 := 36) rfl dX12_stiltsFor_35 lt_i_0 ?_
      refine z_istore (pc2 := 38) (L2 := [some (.ref 85), some (.int a1), some (.int a2), some (.int q6), some (.int (0 : Int32)), none]) rfl dX12_stiltsFor_36 (by decide) rfl rfl ?_
      refine z_fgt [true, true, true, true, true, false] (L2 := [some (.ref 85), some (.int a1), some (.int a2), some (.int q6), some (.int (0 : Int32)), none]) rfl ?_
      refine e_X12_stiltsFor_L38 (fun s16 h => ?_) _ _ _ h
      refine z_aload_n (pc2 := 94) rfl dX12_stiltsFor_93 rfl ?_
      refine z_iconst (pc2 := 95) rfl dX12_stiltsFor_94 lt_i_2 ?_
      obtain ⟨q17, hq17, h⟩ := ab_bnd h
      refine z_callVi 85 [.int (2 : Int32)] [some (.ref 85), some (.int (2 : Int32))] (pc2 := 98) rfl rfl dX12_stiltsFor_95 ok_X12_error ⟨fun _ => rfl, fun _ => Nat.le_of_ble_eq_true rfl⟩ rfl rv_85 wd_1045 wd_1047 wd_16 rfl (e_X12_error hq17) ?_
      exact z_iret dX12_stiltsFor_98 rfl rfl (fi_w h)
    · replace h := ab_pos hc5 h
      refine z_aload_n (pc2 := 19) rfl dX12_stiltsFor_18 rfl ?_
      refine z_iconst (pc2 := 20) rfl dX12_stiltsFor_19 lt_i_1 ?_
      obtain ⟨q18, hq18, h⟩ := ab_bnd h
      refine z_callVi 85 [.int (1 : Int32)] [some (.ref 85), some (.int (1 : Int32))] (pc2 := 23) rfl rfl dX12_stiltsFor_20 ok_X12_error ⟨fun _ => rfl, fun _ => Nat.le_of_ble_eq_true rfl⟩ rfl rv_85 wd_1045 wd_1047 wd_16 rfl (e_X12_error hq18) ?_
      exact z_iret dX12_stiltsFor_23 rfl rfl (fi_w h)
def f_X12_wallFor_L62 (p1 : Int32) (p2 : Int32) (p3 : Int32) (K : Int32 → Int32 → ab_F → Option (Int32 × ab_F)) : Nat → Int32 → Int32 → Int32 → ab_F → Option (Int32 × ab_F)
  | 0, _, _, _, _ => none
  | n + 1, u4, u5, u6, σ => (if (16 : Int32) ≤ u6 then (K u4 u5 σ) else ab_ck (ab_ib ((44 : Int32) + u6) 450) (ab_lt (ab_u σ 86 (((44 : Int32) + u6)).toNatClampNeg (1 : Int32)) (fun (s16 : ab_F) => (f_X12_goesOn p2 s16).bind (fun q17 => ab_ck (ab_ib ((28 : Int32) + p1) 450) (ab_lt ((q17 86 (((28 : Int32) + p1)).toNatClampNeg)) (fun x19 => (f_X12_putsBack q17).bind (fun q20 => (if u4 ≤ x19 then (if u4 ≤ x19 then ab_lt (u6 + (1 : Int32)) (fun x23 => (f_X12_wallFor_L62 p1 p2 p3 K n u4 u5 x23 q20)) else ab_lt (u6 + (1 : Int32)) (fun x24 => (f_X12_wallFor_L62 p1 p2 p3 K n x19 u5 x24 q20))) else (if u4 ≤ x19 then ab_lt (u6 + (1 : Int32)) (fun x26 => (f_X12_wallFor_L62 p1 p2 p3 K n u4 u6 x26 q20)) else ab_lt (u6 + (1 : Int32)) (fun x27 => (f_X12_wallFor_L62 p1 p2 p3 K n x19 u6 x27 q20)))))))))))
set_option maxRecDepth 100000 in
set_option maxHeartbeats 4000000 in
theorem e_X12_wallFor_L62 {sc : Nat × (Nat → Int32)} {r : Option Nat × Option Nat} {p1 : Int32} {p2 : Int32} {p3 : Int32} {K : Int32 → Int32 → ab_F → Option (Int32 × ab_F)} {res : (Int32 × ab_F)} (hK : ∀ (u4 : Int32) (u5 : Int32) (σ : ab_F), K u4 u5 σ = some res → ab_E mX12_wallFor 7 sc 138 [some (.ref 85), none, none, some (.int p3), some (.int u4), some (.int u5), none, none] [] (σ, r) (fun v S => v = some (.int res.1) ∧ S = (res.2, r))) : ∀ (n : Nat) (u4 : Int32) (u5 : Int32) (u6 : Int32) (σ : ab_F), f_X12_wallFor_L62 p1 p2 p3 K n u4 u5 u6 σ = some res → ab_E mX12_wallFor 7 sc 62 [some (.ref 85), some (.int p1), some (.int p2), some (.int p3), some (.int u4), some (.int u5), some (.int u6), none] [] (σ, r) (fun v S => v = some (.int res.1) ∧ S = (res.2, r)) := by
  intro n
  induction n with
  | zero =>
    intro u4 u5 u6 σ h
    rw [f_X12_wallFor_L62] at h
    cases h
  | succ n ih =>
    intro u4 u5 u6 σ h
    rw [f_X12_wallFor_L62] at h
    refine z_iload (pc2 := 64) rfl dX12_wallFor_62 rfl ?_
    refine z_bipush (pc2 := 66) rfl dX12_wallFor_64 lt_b_16 ?_
    refine z_icmp_ge (pc2 := 69) (tgt := 138) rfl dX12_wallFor_66 (by decide) (fun hc14 => ?_) (fun hc14 => ?_)
    · replace h := ab_pos hc14 h
      refine z_fgt [true, false, false, true, true, true, false, false] (L2 := [some (.ref 85), none, none, some (.int p3), some (.int u4), some (.int u5), none, none]) rfl ?_
      exact hK _ _ _ h
    · replace h := ab_neg hc14 h
      refine z_aload_n (pc2 := 70) rfl dX12_wallFor_69 rfl ?_
      refine z_getR 85 12 0 86 (pc2 := 73) rfl dX12_wallFor_70 rfl rfl ff_12_0 wd_977 rfl ?_
      refine z_bipush (pc2 := 75) rfl dX12_wallFor_73 lt_b_44 ?_
      refine z_iload (pc2 := 77) rfl dX12_wallFor_75 rfl ?_
      refine z_iadd (pc2 := 78) rfl dX12_wallFor_77 ?_
      refine z_iconst (pc2 := 79) rfl dX12_wallFor_78 lt_i_1 ?_
      obtain ⟨hb15, h⟩ := ab_ck_e h
      refine z_iast 86 (pc2 := 80) (j := (((44 : Int32) + u6)).toNatClampNeg) rfl dX12_wallFor_79 rfl rfl hb15 rfl ?_
      obtain ⟨s16, hs16, h⟩ := ab_lt_e h
      refine z_tops hs16 ?_
      refine z_aload_n (pc2 := 81) rfl dX12_wallFor_80 rfl ?_
      refine z_iload_n (pc2 := 82) rfl dX12_wallFor_81 rfl ?_
      obtain ⟨q17, hq17, h⟩ := ab_bnd h
      refine z_callVv 85 [.int p2] [some (.ref 85), some (.int p2), none] (pc2 := 85) rfl rfl dX12_wallFor_82 ok_X12_goesOn ⟨fun _ => rfl, fun _ => Nat.le_of_ble_eq_true rfl⟩ rfl rv_85 wd_1224 wd_1226 wd_41 rfl (e_X12_goesOn hq17) ?_
      refine z_aload_n (pc2 := 86) rfl dX12_wallFor_85 rfl ?_
      refine z_getR 85 12 0 86 (pc2 := 89) rfl dX12_wallFor_86 rfl rfl ff_12_0 wd_977 rfl ?_
      refine z_bipush (pc2 := 91) rfl dX12_wallFor_89 lt_b_28 ?_
      refine z_iload_n (pc2 := 92) rfl dX12_wallFor_91 rfl ?_
      refine z_iadd (pc2 := 93) rfl dX12_wallFor_92 ?_
      obtain ⟨hb18, h⟩ := ab_ck_e h
      refine z_iald 86 (pc2 := 94) (j := (((28 : Int32) + p1)).toNatClampNeg) rfl dX12_wallFor_93 rfl rfl hb18 rfl ?_
      obtain ⟨x19, hxx19, h⟩ := ab_lt_e h
      refine z_top hxx19 ?_
      refine z_istore (pc2 := 96) (L2 := [some (.ref 85), some (.int p1), some (.int p2), some (.int p3), some (.int u4), some (.int u5), some (.int u6), some (.int x19)]) rfl dX12_wallFor_94 (by decide) rfl rfl ?_
      refine z_aload_n (pc2 := 97) rfl dX12_wallFor_96 rfl ?_
      obtain ⟨q20, hq20, h⟩ := ab_bnd h
      refine z_callVv 85 [] [some (.ref 85), none] (pc2 := 100) rfl rfl dX12_wallFor_97 ok_X12_putsBack ⟨fun _ => rfl, fun _ => Nat.le_of_ble_eq_true rfl⟩ rfl rv_85 wd_1280 wd_1282 wd_50 rfl (e_X12_putsBack hq20) ?_
      refine z_iload (pc2 := 102) rfl dX12_wallFor_100 rfl ?_
      refine z_iload (pc2 := 104) rfl dX12_wallFor_102 rfl ?_
      refine z_icmp_ge (pc2 := 107) (tgt := 112) rfl dX12_wallFor_104 (by decide) (fun hc21 => ?_) (fun hc21 => ?_)
      · replace h := ab_pos hc21 h
        refine z_iload (pc2 := 114) rfl dX12_wallFor_112 rfl ?_
        refine z_istore (pc2 := 116) (L2 := [some (.ref 85), some (.int p1), some (.int p2), some (.int p3), some (.int u4), some (.int u5), some (.int u6), some (.int x19)]) rfl dX12_wallFor_114 (by decide) rfl rfl ?_
        refine z_iload (pc2 := 118) rfl dX12_wallFor_116 rfl ?_
        refine z_iload (pc2 := 120) rfl dX12_wallFor_118 rfl ?_
        refine z_icmp_ge (pc2 := 123) (tgt := 128) rfl dX12_wallFor_120 (by decide) (fun hc22 => ?_) (fun hc22 => ?_)
        · replace h := ab_pos hc22 h
          refine z_iload (pc2 := 130) rfl dX12_wallFor_128 rfl ?_
          refine z_istore (pc2 := 132) (L2 := [some (.ref 85), some (.int p1), some (.int p2), some (.int p3), some (.int u4), some (.int u5), some (.int u6), some (.int x19)]) rfl dX12_wallFor_130 (by decide) rfl rfl ?_
          obtain ⟨x23, hxx23, h⟩ := ab_lt_e h
          refine z_iinc (pc2 := 135) (v := x23) (L2 := [some (.ref 85), some (.int p1), some (.int p2), some (.int p3), some (.int u4), some (.int u5), some (.int x23), some (.int x19)]) rfl dX12_wallFor_132 rfl (by rw [hxx23]; rfl) (by decide) rfl rfl ?_
          refine ab_goto (tgt := 62) dX12_wallFor_135 (by decide) ?_
          refine z_fgt [true, true, true, true, true, true, true, false] (L2 := [some (.ref 85), some (.int p1), some (.int p2), some (.int p3), some (.int u4), some (.int u5), some (.int x23), none]) rfl ?_
          exact ih _ _ _ _ h
        · replace h := ab_neg hc22 h
          refine z_iload (pc2 := 125) rfl dX12_wallFor_123 rfl ?_
          refine ab_goto (tgt := 130) dX12_wallFor_125 (by decide) ?_
          refine z_istore (pc2 := 132) (L2 := [some (.ref 85), some (.int p1), some (.int p2), some (.int p3), some (.int x19), some (.int u5), some (.int u6), some (.int x19)]) rfl dX12_wallFor_130 (by decide) rfl rfl ?_
          obtain ⟨x24, hxx24, h⟩ := ab_lt_e h
          refine z_iinc (pc2 := 135) (v := x24) (L2 := [some (.ref 85), some (.int p1), some (.int p2), some (.int p3), some (.int x19), some (.int u5), some (.int x24), some (.int x19)]) rfl dX12_wallFor_132 rfl (by rw [hxx24]; rfl) (by decide) rfl rfl ?_
          refine ab_goto (tgt := 62) dX12_wallFor_135 (by decide) ?_
          refine z_fgt [true, true, true, true, true, true, true, false] (L2 := [some (.ref 85), some (.int p1), some (.int p2), some (.int p3), some (.int x19), some (.int u5), some (.int x24), none]) rfl ?_
          exact ih _ _ _ _ h
      · replace h := ab_neg hc21 h
        refine z_iload (pc2 := 109) rfl dX12_wallFor_107 rfl ?_
        refine ab_goto (tgt := 114) dX12_wallFor_109 (by decide) ?_
        refine z_istore (pc2 := 116) (L2 := [some (.ref 85), some (.int p1), some (.int p2), some (.int p3), some (.int u4), some (.int u6), some (.int u6), some (.int x19)]) rfl dX12_wallFor_114 (by decide) rfl rfl ?_
        refine z_iload (pc2 := 118) rfl dX12_wallFor_116 rfl ?_
        refine z_iload (pc2 := 120) rfl dX12_wallFor_118 rfl ?_
        refine z_icmp_ge (pc2 := 123) (tgt := 128) rfl dX12_wallFor_120 (by decide) (fun hc25 => ?_) (fun hc25 => ?_)
        · replace h := ab_pos hc25 h
          refine z_iload (pc2 := 130) rfl dX12_wallFor_128 rfl ?_
          refine z_istore (pc2 := 132) (L2 := [some (.ref 85), some (.int p1), some (.int p2), some (.int p3), some (.int u4), some (.int u6), some (.int u6), some (.int x19)]) rfl dX12_wallFor_130 (by decide) rfl rfl ?_
          obtain ⟨x26, hxx26, h⟩ := ab_lt_e h
          refine z_iinc (pc2 := 135) (v := x26) (L2 := [some (.ref 85), some (.int p1), some (.int p2), some (.int p3), some (.int u4), some (.int u6), some (.int x26), some (.int x19)]) rfl dX12_wallFor_132 rfl (by rw [hxx26]; rfl) (by decide) rfl rfl ?_
          refine ab_goto (tgt := 62) dX12_wallFor_135 (by decide) ?_
          refine z_fgt [true, true, true, true, true, true, true, false] (L2 := [some (.ref 85), some (.int p1), some (.int p2), some (.int p3), some (.int u4), some (.int u6), some (.int x26), none]) rfl ?_
          exact ih _ _ _ _ h
        · replace h := ab_neg hc25 h
          refine z_iload (pc2 := 125) rfl dX12_wallFor_123 rfl ?_
          refine ab_goto (tgt := 130) dX12_wallFor_125 (by decide) ?_
          refine z_istore (pc2 := 132) (L2 := [some (.ref 85), some (.int p1), some (.int p2), some (.int p3), some (.int x19), some (.int u6), some (.int u6), some (.int x19)]) rfl dX12_wallFor_130 (by decide) rfl rfl ?_
          obtain ⟨x27, hxx27, h⟩ := ab_lt_e h
          refine z_iinc (pc2 := 135) (v := x27) (L2 := [some (.ref 85), some (.int p1), some (.int p2), some (.int p3), some (.int x19), some (.int u6), some (.int x27), some (.int x19)]) rfl dX12_wallFor_132 rfl (by rw [hxx27]; rfl) (by decide) rfl rfl ?_
          refine ab_goto (tgt := 62) dX12_wallFor_135 (by decide) ?_
          refine z_fgt [true, true, true, true, true, true, true, false] (L2 := [some (.ref 85), some (.int p1), some (.int p2), some (.int p3), some (.int x19), some (.int u6), some (.int x27), none]) rfl ?_
          exact ih _ _ _ _ h
def f_X12_wallFor (a1 : Int32) (a2 : Int32) (a3 : Int32) (σ : ab_F) : Option (Int32 × ab_F) := (f_X12_isCell a1 σ).bind (fun q1 => (if (ab_b q1) = 0 then (f_X12_error (1 : Int32) σ).bind (fun q3 => (some (q3.1, q3.2))) else (f_X12_in a2 (0 : Int32) (40 : Int32) σ).bind (fun q4 => (if (ab_b q4) = 0 then (f_X12_error (1 : Int32) σ).bind (fun q6 => (some (q6.1, q6.2))) else (f_X12_in a3 (0 : Int32) (1 : Int32) σ).bind (fun q7 => (if (ab_b q7) = 0 then (f_X12_error (1 : Int32) σ).bind (fun q34 => (some (q34.1, q34.2))) else (f_X12_saves σ).bind (fun q9 => (f_X12_goesOn a2 q9).bind (fun q10 => ab_ck (ab_ib ((28 : Int32) + a1) 450) (ab_lt ((q10 86 (((28 : Int32) + a1)).toNatClampNeg)) (fun x12 => (f_X12_putsBack q10).bind (fun q13 => (f_X12_wallFor_L62 a1 a2 a3 (fun (k28 : Int32) (k29 : Int32) (s30 : ab_F) => (if 0 ≤ k29 then (if a3 = 0 then (some (k29, s30)) else (some (k28, s30))) else (f_X12_error (2 : Int32) s30).bind (fun q33 => (some (q33.1, q33.2))))) ab_fu x12 (-1 : Int32) (0 : Int32) q13))))))))))))
set_option maxRecDepth 100000 in
set_option maxHeartbeats 4000000 in
theorem e_X12_wallFor {sc : Nat × (Nat → Int32)} {r : Option Nat × Option Nat} {a1 : Int32} {a2 : Int32} {a3 : Int32} {σ : ab_F} {res : (Int32 × ab_F)} (h : f_X12_wallFor a1 a2 a3 σ = some res) : ab_E mX12_wallFor 7 sc 0 [some (.ref 85), some (.int a1), some (.int a2), some (.int a3), none, none, none, none] [] (σ, r) (fun v S => v = some (.int res.1) ∧ S = (res.2, r)) := by
  unfold f_X12_wallFor at h
  refine z_iload_n (pc2 := 1) rfl dX12_wallFor_0 rfl ?_
  obtain ⟨q1, hq1, h⟩ := ab_bnd h
  refine z_callSi [.int a1] [some (.int a1)] (pc2 := 4) rfl rfl dX12_wallFor_1 ok_X12_isCell ⟨fun _ => rfl, fun _ => Nat.le_of_ble_eq_true rfl⟩ rfl wd_1110 wd_1111 rfl (e_X12_isCell hq1) ?_
  refine z_if_eq (pc2 := 7) (tgt := 26) rfl dX12_wallFor_4 (by decide) (fun hc2 => ?_) (fun hc2 => ?_)
  · replace h := ab_pos hc2 h
    refine z_aload_n (pc2 := 27) rfl dX12_wallFor_26 rfl ?_
    refine z_iconst (pc2 := 28) rfl dX12_wallFor_27 lt_i_1 ?_
    obtain ⟨q3, hq3, h⟩ := ab_bnd h
    refine z_callVi 85 [.int (1 : Int32)] [some (.ref 85), some (.int (1 : Int32))] (pc2 := 31) rfl rfl dX12_wallFor_28 ok_X12_error ⟨fun _ => rfl, fun _ => Nat.le_of_ble_eq_true rfl⟩ rfl rv_85 wd_1045 wd_1047 wd_16 rfl (e_X12_error hq3) ?_
    exact z_iret dX12_wallFor_31 rfl rfl (fi_w h)
  · replace h := ab_neg hc2 h
    refine z_iload_n (pc2 := 8) rfl dX12_wallFor_7 rfl ?_
    refine z_iconst (pc2 := 9) rfl dX12_wallFor_8 lt_i_0 ?_
    refine z_bipush (pc2 := 11) rfl dX12_wallFor_9 lt_b_40 ?_
    obtain ⟨q4, hq4, h⟩ := ab_bnd h
    refine z_callSi [.int a2, .int (0 : Int32), .int (40 : Int32)] [some (.int a2), some (.int (0 : Int32)), some (.int (40 : Int32))] (pc2 := 14) rfl rfl dX12_wallFor_11 ok_X12_in ⟨fun _ => rfl, fun _ => Nat.le_of_ble_eq_true rfl⟩ rfl wd_1042 wd_1043 rfl (e_X12_in hq4) ?_
    refine z_if_eq (pc2 := 17) (tgt := 26) rfl dX12_wallFor_14 (by decide) (fun hc5 => ?_) (fun hc5 => ?_)
    · replace h := ab_pos hc5 h
      refine z_aload_n (pc2 := 27) rfl dX12_wallFor_26 rfl ?_
      refine z_iconst (pc2 := 28) rfl dX12_wallFor_27 lt_i_1 ?_
      obtain ⟨q6, hq6, h⟩ := ab_bnd h
      refine z_callVi 85 [.int (1 : Int32)] [some (.ref 85), some (.int (1 : Int32))] (pc2 := 31) rfl rfl dX12_wallFor_28 ok_X12_error ⟨fun _ => rfl, fun _ => Nat.le_of_ble_eq_true rfl⟩ rfl rv_85 wd_1045 wd_1047 wd_16 rfl (e_X12_error hq6) ?_
      exact z_iret dX12_wallFor_31 rfl rfl (fi_w h)
    · replace h := ab_neg hc5 h
      refine z_iload_n (pc2 := 18) rfl dX12_wallFor_17 rfl ?_
      refine z_iconst (pc2 := 19) rfl dX12_wallFor_18 lt_i_0 ?_
      refine z_iconst (pc2 := 20) rfl dX12_wallFor_19 lt_i_1 ?_
      obtain ⟨q7, hq7, h⟩ := ab_bnd h
      refine z_callSi [.int a3, .int (0 : Int32), .int (1 : Int32)] [some (.int a3), some (.int (0 : Int32)), some (.int (1 : Int32))] (pc2 := 23) rfl rfl dX12_wallFor_20 ok_X12_in ⟨fun _ => rfl, fun _ => Nat.le_of_ble_eq_true rfl⟩ rfl wd_1042 wd_1043 rfl (e_X12_in hq7) ?_
      refine z_if_ne (pc2 := 26) (tgt := 32) rfl dX12_wallFor_23 (by decide) (fun hc8 => ?_) (fun hc8 => ?_)
      · replace h := ab_neg hc8 h
        refine z_aload_n (pc2 := 33) rfl dX12_wallFor_32 rfl ?_
        obtain ⟨q9, hq9, h⟩ := ab_bnd h
        refine z_callVv 85 [] [some (.ref 85), none] (pc2 := 36) rfl rfl dX12_wallFor_33 ok_X12_saves ⟨fun _ => rfl, fun _ => Nat.le_of_ble_eq_true rfl⟩ rfl rv_85 wd_1276 wd_1278 wd_49 rfl (e_X12_saves hq9) ?_
        refine z_aload_n (pc2 := 37) rfl dX12_wallFor_36 rfl ?_
        refine z_iload_n (pc2 := 38) rfl dX12_wallFor_37 rfl ?_
        obtain ⟨q10, hq10, h⟩ := ab_bnd h
        refine z_callVv 85 [.int a2] [some (.ref 85), some (.int a2), none] (pc2 := 41) rfl rfl dX12_wallFor_38 ok_X12_goesOn ⟨fun _ => rfl, fun _ => Nat.le_of_ble_eq_true rfl⟩ rfl rv_85 wd_1224 wd_1226 wd_41 rfl (e_X12_goesOn hq10) ?_
        refine z_aload_n (pc2 := 42) rfl dX12_wallFor_41 rfl ?_
        refine z_getR 85 12 0 86 (pc2 := 45) rfl dX12_wallFor_42 rfl rfl ff_12_0 wd_977 rfl ?_
        refine z_bipush (pc2 := 47) rfl dX12_wallFor_45 lt_b_28 ?_
        refine z_iload_n (pc2 := 48) rfl dX12_wallFor_47 rfl ?_
        refine z_iadd (pc2 := 49) rfl dX12_wallFor_48 ?_
        obtain ⟨hb11, h⟩ := ab_ck_e h
        refine z_iald 86 (pc2 := 50) (j := (((28 : Int32) + a1)).toNatClampNeg) rfl dX12_wallFor_49 rfl rfl hb11 rfl ?_
        obtain ⟨x12, hxx12, h⟩ := ab_lt_e h
        refine z_top hxx12 ?_
        refine z_istore (pc2 := 52) (L2 := [some (.ref 85), some (.int a1), some (.int a2), some (.int a3), some (.int x12), none, none, none]) rfl dX12_wallFor_50 (by decide) rfl rfl ?_
        refine z_aload_n (pc2 := 53) rfl dX12_wallFor_52 rfl ?_
        obtain ⟨q13, hq13, h⟩ := ab_bnd h
        refine z_callVv 85 [] [some (.ref 85), none] (pc2 := 56) rfl rfl dX12_wallFor_53 ok_X12_putsBack ⟨fun _ => rfl, fun _ => Nat.le_of_ble_eq_true rfl⟩ rfl rv_85 wd_1280 wd_1282 wd_50 rfl (e_X12_putsBack hq13) ?_
        refine z_iconst (pc2 := 57) rfl dX12_wallFor_56 lt_i_m1 ?_
        refine z_istore (pc2 := 59) (L2 := [some (.ref 85), some (.int a1), some (.int a2), some (.int a3), some (.int x12), some (.int (-1 : Int32)), none, none]) rfl dX12_wallFor_57 (by decide) rfl rfl ?_
        refine z_iconst (pc2 := 60) rfl dX12_wallFor_59 lt_i_0 ?_
        refine z_istore (pc2 := 62) (L2 := [some (.ref 85), some (.int a1), some (.int a2), some (.int a3), some (.int x12), some (.int (-1 : Int32)), some (.int (0 : Int32)), none]) rfl dX12_wallFor_60 (by decide) rfl rfl ?_
        refine z_fgt [true, true, true, true, true, true, true, false] (L2 := [some (.ref 85), some (.int a1), some (.int a2), some (.int a3), some (.int x12), some (.int (-1 : Int32)), some (.int (0 : Int32)), none]) rfl ?_
        refine e_X12_wallFor_L62 (fun k28 k29 s30 h => ?_) _ _ _ _ _ h
        refine z_iload (pc2 := 140) rfl dX12_wallFor_138 rfl ?_
        refine z_if_ge (pc2 := 143) (tgt := 151) rfl dX12_wallFor_140 (by decide) (fun hc31 => ?_) (fun hc31 => ?_)
        · replace h := ab_pos hc31 h
          refine z_iload_n (pc2 := 152) rfl dX12_wallFor_151 rfl ?_
          refine z_if_ne (pc2 := 155) (tgt := 160) rfl dX12_wallFor_152 (by decide) (fun hc32 => ?_) (fun hc32 => ?_)
          · replace h := ab_neg hc32 h
            refine z_iload (pc2 := 162) rfl dX12_wallFor_160 rfl ?_
            exact z_iret dX12_wallFor_162 rfl rfl (fi_w h)
          · replace h := ab_pos hc32 h
            refine z_iload (pc2 := 157) rfl dX12_wallFor_155 rfl ?_
            refine ab_goto (tgt := 162) dX12_wallFor_157 (by decide) ?_
            exact z_iret dX12_wallFor_162 rfl rfl (fi_w h)
        · replace h := ab_neg hc31 h
          refine z_aload_n (pc2 := 144) rfl dX12_wallFor_143 rfl ?_
          refine z_iconst (pc2 := 145) rfl dX12_wallFor_144 lt_i_2 ?_
          obtain ⟨q33, hq33, h⟩ := ab_bnd h
          refine z_callVi 85 [.int (2 : Int32)] [some (.ref 85), some (.int (2 : Int32))] (pc2 := 148) rfl rfl dX12_wallFor_145 ok_X12_error ⟨fun _ => rfl, fun _ => Nat.le_of_ble_eq_true rfl⟩ rfl rv_85 wd_1045 wd_1047 wd_16 rfl (e_X12_error hq33) ?_
          refine ab_goto (tgt := 162) dX12_wallFor_148 (by decide) ?_
          exact z_iret dX12_wallFor_162 rfl rfl (fi_w h)
      · replace h := ab_pos hc8 h
        refine z_aload_n (pc2 := 27) rfl dX12_wallFor_26 rfl ?_
        refine z_iconst (pc2 := 28) rfl dX12_wallFor_27 lt_i_1 ?_
        obtain ⟨q34, hq34, h⟩ := ab_bnd h
        refine z_callVi 85 [.int (1 : Int32)] [some (.ref 85), some (.int (1 : Int32))] (pc2 := 31) rfl rfl dX12_wallFor_28 ok_X12_error ⟨fun _ => rfl, fun _ => Nat.le_of_ble_eq_true rfl⟩ rfl rv_85 wd_1045 wd_1047 wd_16 rfl (e_X12_error hq34) ?_
        exact z_iret dX12_wallFor_31 rfl rfl (fi_w h)
def f_X12_springFor_L38 (p1 : Int32) (p2 : Int32) (K : Int32 → Int32 → ab_F → Option (Int32 × ab_F)) : Nat → Int32 → Int32 → Int32 → ab_F → Option (Int32 × ab_F)
  | 0, _, _, _, _ => none
  | n + 1, u3, u4, u5, σ => (if (16 : Int32) ≤ u5 then (K u3 u4 σ) else ab_lt (ab_u σ 86 1 u5) (fun (s8 : ab_F) => (f_X12_goesOn p1 s8).bind (fun q9 => (f_X12_knownNow q9).bind (fun q10 => (f_X12_ones q10 q9).bind (fun q11 => (f_X12_putsBack q9).bind (fun q12 => (if u4 ≤ q11 then (if u4 ≤ q11 then ab_lt (u5 + (1 : Int32)) (fun x15 => (f_X12_springFor_L38 p1 p2 K n u3 u4 x15 q12)) else ab_lt (u5 + (1 : Int32)) (fun x16 => (f_X12_springFor_L38 p1 p2 K n u3 q11 x16 q12))) else (if u4 ≤ q11 then ab_lt (u5 + (1 : Int32)) (fun x18 => (f_X12_springFor_L38 p1 p2 K n u5 u4 x18 q12)) else ab_lt (u5 + (1 : Int32)) (fun x19 => (f_X12_springFor_L38 p1 p2 K n u5 q11 x19 q12))))))))))
set_option maxRecDepth 100000 in
set_option maxHeartbeats 4000000 in
theorem e_X12_springFor_L38 {sc : Nat × (Nat → Int32)} {r : Option Nat × Option Nat} {p1 : Int32} {p2 : Int32} {K : Int32 → Int32 → ab_F → Option (Int32 × ab_F)} {res : (Int32 × ab_F)} (hK : ∀ (u3 : Int32) (u4 : Int32) (σ : ab_F), K u3 u4 σ = some res → ab_E mX12_springFor 7 sc 107 [none, none, some (.int p2), some (.int u3), some (.int u4), none, none] [] (σ, r) (fun v S => v = some (.int res.1) ∧ S = (res.2, r))) : ∀ (n : Nat) (u3 : Int32) (u4 : Int32) (u5 : Int32) (σ : ab_F), f_X12_springFor_L38 p1 p2 K n u3 u4 u5 σ = some res → ab_E mX12_springFor 7 sc 38 [some (.ref 85), some (.int p1), some (.int p2), some (.int u3), some (.int u4), some (.int u5), none] [] (σ, r) (fun v S => v = some (.int res.1) ∧ S = (res.2, r)) := by
  intro n
  induction n with
  | zero =>
    intro u3 u4 u5 σ h
    rw [f_X12_springFor_L38] at h
    cases h
  | succ n ih =>
    intro u3 u4 u5 σ h
    rw [f_X12_springFor_L38] at h
    refine z_iload (pc2 := 40) rfl dX12_springFor_38 rfl ?_
    refine z_bipush (pc2 := 42) rfl dX12_springFor_40 lt_b_16 ?_
    refine z_icmp_ge (pc2 := 45) (tgt := 107) rfl dX12_springFor_42 (by decide) (fun hc7 => ?_) (fun hc7 => ?_)
    · replace h := ab_pos hc7 h
      refine z_fgt [false, false, true, true, true, false, false] (L2 := [none, none, some (.int p2), some (.int u3), some (.int u4), none, none]) rfl ?_
      exact hK _ _ _ h
    · replace h := ab_neg hc7 h
      refine z_aload_n (pc2 := 46) rfl dX12_springFor_45 rfl ?_
      refine z_getR 85 12 0 86 (pc2 := 49) rfl dX12_springFor_46 rfl rfl ff_12_0 wd_977 rfl ?_
      refine z_iconst (pc2 := 50) rfl dX12_springFor_49 lt_i_1 ?_
      refine z_iload (pc2 := 52) rfl dX12_springFor_50 rfl ?_
      refine z_iast 86 (pc2 := 53) (j := 1) rfl dX12_springFor_52 rfl rfl (by decide) (by decide) ?_
      obtain ⟨s8, hs8, h⟩ := ab_lt_e h
      refine z_tops hs8 ?_
      refine z_aload_n (pc2 := 54) rfl dX12_springFor_53 rfl ?_
      refine z_iload_n (pc2 := 55) rfl dX12_springFor_54 rfl ?_
      obtain ⟨q9, hq9, h⟩ := ab_bnd h
      refine z_callVv 85 [.int p1] [some (.ref 85), some (.int p1), none] (pc2 := 58) rfl rfl dX12_springFor_55 ok_X12_goesOn ⟨fun _ => rfl, fun _ => Nat.le_of_ble_eq_true rfl⟩ rfl rv_85 wd_1224 wd_1226 wd_41 rfl (e_X12_goesOn hq9) ?_
      refine z_aload_n (pc2 := 59) rfl dX12_springFor_58 rfl ?_
      obtain ⟨q10, hq10, h⟩ := ab_bnd h
      refine z_callVi 85 [] [some (.ref 85), none, none] (pc2 := 62) rfl rfl dX12_springFor_59 ok_X12_knownNow ⟨fun _ => rfl, fun _ => Nat.le_of_ble_eq_true rfl⟩ rfl rv_85 wd_1247 wd_1249 wd_46 rfl (e_X12_knownNow hq10) ?_
      obtain ⟨q11, hq11, h⟩ := ab_bnd h
      refine z_callSi [.int q10] [some (.int q10), none, none] (pc2 := 65) rfl rfl dX12_springFor_62 ok_X12_ones ⟨fun _ => rfl, fun _ => Nat.le_of_ble_eq_true rfl⟩ rfl wd_1141 wd_1142 rfl (e_X12_ones hq11) ?_
      refine z_istore (pc2 := 67) (L2 := [some (.ref 85), some (.int p1), some (.int p2), some (.int u3), some (.int u4), some (.int u5), some (.int q11)]) rfl dX12_springFor_65 (by decide) rfl rfl ?_
      refine z_aload_n (pc2 := 68) rfl dX12_springFor_67 rfl ?_
      obtain ⟨q12, hq12, h⟩ := ab_bnd h
      refine z_callVv 85 [] [some (.ref 85), none] (pc2 := 71) rfl rfl dX12_springFor_68 ok_X12_putsBack ⟨fun _ => rfl, fun _ => Nat.le_of_ble_eq_true rfl⟩ rfl rv_85 wd_1280 wd_1282 wd_50 rfl (e_X12_putsBack hq12) ?_
      refine z_iload (pc2 := 73) rfl dX12_springFor_71 rfl ?_
      refine z_iload (pc2 := 75) rfl dX12_springFor_73 rfl ?_
      refine z_icmp_ge (pc2 := 78) (tgt := 83) rfl dX12_springFor_75 (by decide) (fun hc13 => ?_) (fun hc13 => ?_)
      · replace h := ab_pos hc13 h
        refine z_iload_n (pc2 := 84) rfl dX12_springFor_83 rfl ?_
        refine z_istore_n (pc2 := 85) (L2 := [some (.ref 85), some (.int p1), some (.int p2), some (.int u3), some (.int u4), some (.int u5), some (.int q11)]) rfl dX12_springFor_84 (by decide) rfl rfl ?_
        refine z_iload (pc2 := 87) rfl dX12_springFor_85 rfl ?_
        refine z_iload (pc2 := 89) rfl dX12_springFor_87 rfl ?_
        refine z_icmp_ge (pc2 := 92) (tgt := 97) rfl dX12_springFor_89 (by decide) (fun hc14 => ?_) (fun hc14 => ?_)
        · replace h := ab_pos hc14 h
          refine z_iload (pc2 := 99) rfl dX12_springFor_97 rfl ?_
          refine z_istore (pc2 := 101) (L2 := [some (.ref 85), some (.int p1), some (.int p2), some (.int u3), some (.int u4), some (.int u5), some (.int q11)]) rfl dX12_springFor_99 (by decide) rfl rfl ?_
          obtain ⟨x15, hxx15, h⟩ := ab_lt_e h
          refine z_iinc (pc2 := 104) (v := x15) (L2 := [some (.ref 85), some (.int p1), some (.int p2), some (.int u3), some (.int u4), some (.int x15), some (.int q11)]) rfl dX12_springFor_101 rfl (by rw [hxx15]; rfl) (by decide) rfl rfl ?_
          refine ab_goto (tgt := 38) dX12_springFor_104 (by decide) ?_
          refine z_fgt [true, true, true, true, true, true, false] (L2 := [some (.ref 85), some (.int p1), some (.int p2), some (.int u3), some (.int u4), some (.int x15), none]) rfl ?_
          exact ih _ _ _ _ h
        · replace h := ab_neg hc14 h
          refine z_iload (pc2 := 94) rfl dX12_springFor_92 rfl ?_
          refine ab_goto (tgt := 99) dX12_springFor_94 (by decide) ?_
          refine z_istore (pc2 := 101) (L2 := [some (.ref 85), some (.int p1), some (.int p2), some (.int u3), some (.int q11), some (.int u5), some (.int q11)]) rfl dX12_springFor_99 (by decide) rfl rfl ?_
          obtain ⟨x16, hxx16, h⟩ := ab_lt_e h
          refine z_iinc (pc2 := 104) (v := x16) (L2 := [some (.ref 85), some (.int p1), some (.int p2), some (.int u3), some (.int q11), some (.int x16), some (.int q11)]) rfl dX12_springFor_101 rfl (by rw [hxx16]; rfl) (by decide) rfl rfl ?_
          refine ab_goto (tgt := 38) dX12_springFor_104 (by decide) ?_
          refine z_fgt [true, true, true, true, true, true, false] (L2 := [some (.ref 85), some (.int p1), some (.int p2), some (.int u3), some (.int q11), some (.int x16), none]) rfl ?_
          exact ih _ _ _ _ h
      · replace h := ab_neg hc13 h
        refine z_iload (pc2 := 80) rfl dX12_springFor_78 rfl ?_
        refine ab_goto (tgt := 84) dX12_springFor_80 (by decide) ?_
        refine z_istore_n (pc2 := 85) (L2 := [some (.ref 85), some (.int p1), some (.int p2), some (.int u5), some (.int u4), some (.int u5), some (.int q11)]) rfl dX12_springFor_84 (by decide) rfl rfl ?_
        refine z_iload (pc2 := 87) rfl dX12_springFor_85 rfl ?_
        refine z_iload (pc2 := 89) rfl dX12_springFor_87 rfl ?_
        refine z_icmp_ge (pc2 := 92) (tgt := 97) rfl dX12_springFor_89 (by decide) (fun hc17 => ?_) (fun hc17 => ?_)
        · replace h := ab_pos hc17 h
          refine z_iload (pc2 := 99) rfl dX12_springFor_97 rfl ?_
          refine z_istore (pc2 := 101) (L2 := [some (.ref 85), some (.int p1), some (.int p2), some (.int u5), some (.int u4), some (.int u5), some (.int q11)]) rfl dX12_springFor_99 (by decide) rfl rfl ?_
          obtain ⟨x18, hxx18, h⟩ := ab_lt_e h
          refine z_iinc (pc2 := 104) (v := x18) (L2 := [some (.ref 85), some (.int p1), some (.int p2), some (.int u5), some (.int u4), some (.int x18), some (.int q11)]) rfl dX12_springFor_101 rfl (by rw [hxx18]; rfl) (by decide) rfl rfl ?_
          refine ab_goto (tgt := 38) dX12_springFor_104 (by decide) ?_
          refine z_fgt [true, true, true, true, true, true, false] (L2 := [some (.ref 85), some (.int p1), some (.int p2), some (.int u5), some (.int u4), some (.int x18), none]) rfl ?_
          exact ih _ _ _ _ h
        · replace h := ab_neg hc17 h
          refine z_iload (pc2 := 94) rfl dX12_springFor_92 rfl ?_
          refine ab_goto (tgt := 99) dX12_springFor_94 (by decide) ?_
          refine z_istore (pc2 := 101) (L2 := [some (.ref 85), some (.int p1), some (.int p2), some (.int u5), some (.int q11), some (.int u5), some (.int q11)]) rfl dX12_springFor_99 (by decide) rfl rfl ?_
          obtain ⟨x19, hxx19, h⟩ := ab_lt_e h
          refine z_iinc (pc2 := 104) (v := x19) (L2 := [some (.ref 85), some (.int p1), some (.int p2), some (.int u5), some (.int q11), some (.int x19), some (.int q11)]) rfl dX12_springFor_101 rfl (by rw [hxx19]; rfl) (by decide) rfl rfl ?_
          refine ab_goto (tgt := 38) dX12_springFor_104 (by decide) ?_
          refine z_fgt [true, true, true, true, true, true, false] (L2 := [some (.ref 85), some (.int p1), some (.int p2), some (.int u5), some (.int q11), some (.int x19), none]) rfl ?_
          exact ih _ _ _ _ h
def f_X12_springFor (a1 : Int32) (a2 : Int32) (σ : ab_F) : Option (Int32 × ab_F) := (f_X12_in a1 (0 : Int32) (40 : Int32) σ).bind (fun q1 => (if (ab_b q1) = 0 then (f_X12_error (1 : Int32) σ).bind (fun q3 => (some (q3.1, q3.2))) else (f_X12_in a2 (0 : Int32) (1 : Int32) σ).bind (fun q4 => (if (ab_b q4) = 0 then (f_X12_error (1 : Int32) σ).bind (fun q24 => (some (q24.1, q24.2))) else (f_X12_saves σ).bind (fun q6 => (f_X12_springFor_L38 a1 a2 (fun (k20 : Int32) (k21 : Int32) (s22 : ab_F) => (if a2 = 0 then (some (k20, s22)) else (some (k21, s22)))) ab_fu (0 : Int32) (13 : Int32) (0 : Int32) q6))))))
set_option maxRecDepth 100000 in
set_option maxHeartbeats 4000000 in
theorem e_X12_springFor {sc : Nat × (Nat → Int32)} {r : Option Nat × Option Nat} {a1 : Int32} {a2 : Int32} {σ : ab_F} {res : (Int32 × ab_F)} (h : f_X12_springFor a1 a2 σ = some res) : ab_E mX12_springFor 7 sc 0 [some (.ref 85), some (.int a1), some (.int a2), none, none, none, none] [] (σ, r) (fun v S => v = some (.int res.1) ∧ S = (res.2, r)) := by
  unfold f_X12_springFor at h
  refine z_iload_n (pc2 := 1) rfl dX12_springFor_0 rfl ?_
  refine z_iconst (pc2 := 2) rfl dX12_springFor_1 lt_i_0 ?_
  refine z_bipush (pc2 := 4) rfl dX12_springFor_2 lt_b_40 ?_
  obtain ⟨q1, hq1, h⟩ := ab_bnd h
  refine z_callSi [.int a1, .int (0 : Int32), .int (40 : Int32)] [some (.int a1), some (.int (0 : Int32)), some (.int (40 : Int32))] (pc2 := 7) rfl rfl dX12_springFor_4 ok_X12_in ⟨fun _ => rfl, fun _ => Nat.le_of_ble_eq_true rfl⟩ rfl wd_1042 wd_1043 rfl (e_X12_in hq1) ?_
  refine z_if_eq (pc2 := 10) (tgt := 19) rfl dX12_springFor_7 (by decide) (fun hc2 => ?_) (fun hc2 => ?_)
  · replace h := ab_pos hc2 h
    refine z_aload_n (pc2 := 20) rfl dX12_springFor_19 rfl ?_
    refine z_iconst (pc2 := 21) rfl dX12_springFor_20 lt_i_1 ?_
    obtain ⟨q3, hq3, h⟩ := ab_bnd h
    refine z_callVi 85 [.int (1 : Int32)] [some (.ref 85), some (.int (1 : Int32))] (pc2 := 24) rfl rfl dX12_springFor_21 ok_X12_error ⟨fun _ => rfl, fun _ => Nat.le_of_ble_eq_true rfl⟩ rfl rv_85 wd_1045 wd_1047 wd_16 rfl (e_X12_error hq3) ?_
    exact z_iret dX12_springFor_24 rfl rfl (fi_w h)
  · replace h := ab_neg hc2 h
    refine z_iload_n (pc2 := 11) rfl dX12_springFor_10 rfl ?_
    refine z_iconst (pc2 := 12) rfl dX12_springFor_11 lt_i_0 ?_
    refine z_iconst (pc2 := 13) rfl dX12_springFor_12 lt_i_1 ?_
    obtain ⟨q4, hq4, h⟩ := ab_bnd h
    refine z_callSi [.int a2, .int (0 : Int32), .int (1 : Int32)] [some (.int a2), some (.int (0 : Int32)), some (.int (1 : Int32))] (pc2 := 16) rfl rfl dX12_springFor_13 ok_X12_in ⟨fun _ => rfl, fun _ => Nat.le_of_ble_eq_true rfl⟩ rfl wd_1042 wd_1043 rfl (e_X12_in hq4) ?_
    refine z_if_ne (pc2 := 19) (tgt := 25) rfl dX12_springFor_16 (by decide) (fun hc5 => ?_) (fun hc5 => ?_)
    · replace h := ab_neg hc5 h
      refine z_aload_n (pc2 := 26) rfl dX12_springFor_25 rfl ?_
      obtain ⟨q6, hq6, h⟩ := ab_bnd h
      refine z_callVv 85 [] [some (.ref 85), none] (pc2 := 29) rfl rfl dX12_springFor_26 ok_X12_saves ⟨fun _ => rfl, fun _ => Nat.le_of_ble_eq_true rfl⟩ rfl rv_85 wd_1276 wd_1278 wd_49 rfl (e_X12_saves hq6) ?_
      refine z_iconst (pc2 := 30) rfl dX12_springFor_29 lt_i_0 ?_
      refine z_istore_n (pc2 := 31) (L2 := [some (.ref 85), some (.int a1), some (.int a2), some (.int (0 : Int32)), none, none, none]) rfl dX12_springFor_30 (by decide) rfl rfl ?_
      refine z_bipush (pc2 := 33) rfl dX12_springFor_31 lt_b_13 ?_
      refine z_istore (pc2 := 35) (L2 := [some (.ref 85), some (.int a1), some (.int a2), some (.int (0 : Int32)), some (.int (13 : Int32)), none, none]) rfl dX12_springFor_33 (by decide) rfl rfl ?_
      refine z_iconst (pc2 := 36) rfl dX12_springFor_35 lt_i_0 ?_
      refine z_istore (pc2 := 38) (L2 := [some (.ref 85), some (.int a1), some (.int a2), some (.int (0 : Int32)), some (.int (13 : Int32)), some (.int (0 : Int32)), none]) rfl dX12_springFor_36 (by decide) rfl rfl ?_
      refine z_fgt [true, true, true, true, true, true, false] (L2 := [some (.ref 85), some (.int a1), some (.int a2), some (.int (0 : Int32)), some (.int (13 : Int32)), some (.int (0 : Int32)), none]) rfl ?_
      refine e_X12_springFor_L38 (fun k20 k21 s22 h => ?_) _ _ _ _ _ h
      refine z_iload_n (pc2 := 108) rfl dX12_springFor_107 rfl ?_
      refine z_if_ne (pc2 := 111) (tgt := 115) rfl dX12_springFor_108 (by decide) (fun hc23 => ?_) (fun hc23 => ?_)
      · replace h := ab_neg hc23 h
        refine z_iload (pc2 := 117) rfl dX12_springFor_115 rfl ?_
        exact z_iret dX12_springFor_117 rfl rfl (fi_w h)
      · replace h := ab_pos hc23 h
        refine z_iload_n (pc2 := 112) rfl dX12_springFor_111 rfl ?_
        refine ab_goto (tgt := 117) dX12_springFor_112 (by decide) ?_
        exact z_iret dX12_springFor_117 rfl rfl (fi_w h)
    · replace h := ab_pos hc5 h
      refine z_aload_n (pc2 := 20) rfl dX12_springFor_19 rfl ?_
      refine z_iconst (pc2 := 21) rfl dX12_springFor_20 lt_i_1 ?_
      obtain ⟨q24, hq24, h⟩ := ab_bnd h
      refine z_callVi 85 [.int (1 : Int32)] [some (.ref 85), some (.int (1 : Int32))] (pc2 := 24) rfl rfl dX12_springFor_21 ok_X12_error ⟨fun _ => rfl, fun _ => Nat.le_of_ble_eq_true rfl⟩ rfl rv_85 wd_1045 wd_1047 wd_16 rfl (e_X12_error hq24) ?_
      exact z_iret dX12_springFor_24 rfl rfl (fi_w h)
