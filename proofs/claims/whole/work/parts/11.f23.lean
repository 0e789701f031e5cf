set_option maxRecDepth 100000 in
set_option maxHeartbeats 4000000 in
theorem e_X12_doesNow {sc : Nat × (Nat → Int32)} {r : Option Nat × Option Nat} {a1 : Int32} {σ : ab_F} {res : (Int32 × ab_F)} (h : f_X12_doesNow a1 σ = some res) : ab_E mX12_doesNow 3 sc 0 [some (.ref 85), some (.int a1)] [] (σ, r) (fun v S => v = some (.int res.1) ∧ S = (res.2, r)) := by
  unfold f_X12_doesNow at h
  refine z_aload_n (pc2 := 1) rfl dX12_doesNow_0 rfl ?_
  refine z_iconst (pc2 := 2) rfl dX12_doesNow_1 lt_i_0 ?_
  refine z_aload_n (pc2 := 3) rfl dX12_doesNow_2 rfl ?_
  refine z_iload_n (pc2 := 4) rfl dX12_doesNow_3 rfl ?_
  obtain ⟨q1, hq1, h⟩ := ab_bnd h
  refine z_callVi 85 [.int a1] [some (.ref 85), some (.int a1), none] (pc2 := 7) rfl rfl dX12_doesNow_4 ok_X12_actsOf ⟨fun _ => rfl, fun _ => Nat.le_of_ble_eq_true rfl⟩ rfl rv_85 wd_1137 wd_1139 wd_33 rfl (e_X12_actsOf hq1) ?_
  refine z_aload_n (pc2 := 8) rfl dX12_doesNow_7 rfl ?_
  refine z_iload_n (pc2 := 9) rfl dX12_doesNow_8 rfl ?_
  refine z_iconst (pc2 := 10) rfl dX12_doesNow_9 lt_i_4 ?_
  obtain ⟨q2, hq2, h⟩ := ab_bnd h
  refine z_callVi 85 [.int a1, .int (4 : Int32)] [some (.ref 85), some (.int a1), some (.int (4 : Int32))] (pc2 := 13) rfl rfl dX12_doesNow_10 ok_X12_its ⟨fun _ => rfl, fun _ => Nat.le_of_ble_eq_true rfl⟩ rfl rv_85 wd_1129 wd_1131 wd_31 rfl (e_X12_its hq2) ?_
  obtain ⟨q3, hq3, h⟩ := ab_bnd h
  refine z_callSi [.int q2] [some (.int q2), none, none] (pc2 := 16) rfl rfl dX12_doesNow_13 ok_X12_ones ⟨fun _ => rfl, fun _ => Nat.le_of_ble_eq_true rfl⟩ rfl wd_1141 wd_1142 rfl (e_X12_ones hq3) ?_
  refine z_aload_n (pc2 := 17) rfl dX12_doesNow_16 rfl ?_
  refine z_getR 85 12 0 86 (pc2 := 20) rfl dX12_doesNow_17 rfl rfl ff_12_0 wd_977 rfl ?_
  refine z_iconst (pc2 := 21) rfl dX12_doesNow_20 lt_i_0 ?_
  refine z_iald 86 (pc2 := 22) (j := 0) rfl dX12_doesNow_21 rfl rfl (by decide) (by decide) ?_
  refine z_bipush (pc2 := 24) rfl dX12_doesNow_22 lt_b_8 ?_
  refine z_irem (pc2 := 25) rfl dX12_doesNow_24 (by decide) ?_
  obtain ⟨q4, hq4, h⟩ := ab_bnd h
  refine z_callVi 85 [.int (0 : Int32), .int q1, .int q3, .int ((σ 86 0) - (σ 86 0) / (8 : Int32) * (8 : Int32))] [some (.ref 85), some (.int (0 : Int32)), some (.int q1), some (.int q3), some (.int ((σ 86 0) - (σ 86 0) / (8 : Int32) * (8 : Int32))), none] (pc2 := 28) rfl rfl dX12_doesNow_25 ok_X12_givenBy ⟨fun _ => rfl, fun _ => Nat.le_of_ble_eq_true rfl⟩ rfl rv_85 wd_1148 wd_1150 wd_35 rfl (e_X12_givenBy hq4) ?_
  exact z_iret dX12_doesNow_28 rfl rfl (fi_w h)
def f_X12_madeNow (a1 : Int32) (σ : ab_F) : Option (Int32 × ab_F) := (f_X12_tallOf a1 σ).bind (fun q1 => (f_X12_its a1 (2 : Int32) σ).bind (fun q2 => ab_ck (ab_ib ((12 : Int32) + q2) 450) ((f_X12_givenBy (1 : Int32) q1 (σ 86 (((12 : Int32) + q2)).toNatClampNeg) ((σ 86 0) - (σ 86 0) / (8 : Int32) * (8 : Int32)) σ).bind (fun q4 => (some (q4.1, q4.2))))))
set_option maxRecDepth 100000 in
set_option maxHeartbeats 4000000 in
theorem e_X12_madeNow {sc : Nat × (Nat → Int32)} {r : Option Nat × Option Nat} {a1 : Int32} {σ : ab_F} {res : (Int32 × ab_F)} (h : f_X12_madeNow a1 σ = some res) : ab_E mX12_madeNow 3 sc 0 [some (.ref 85), some (.int a1)] [] (σ, r) (fun v S => v = some (.int res.1) ∧ S = (res.2, r)) := by
  unfold f_X12_madeNow at h
  refine z_aload_n (pc2 := 1) rfl dX12_madeNow_0 rfl ?_
  refine z_iconst (pc2 := 2) rfl dX12_madeNow_1 lt_i_1 ?_
  refine z_aload_n (pc2 := 3) rfl dX12_madeNow_2 rfl ?_
  refine z_iload_n (pc2 := 4) rfl dX12_madeNow_3 rfl ?_
  obtain ⟨q1, hq1, h⟩ := ab_bnd h
  refine z_callVi 85 [.int a1] [some (.ref 85), some (.int a1), none, none] (pc2 := 7) rfl rfl dX12_madeNow_4 ok_X12_tallOf ⟨fun _ => rfl, fun _ => Nat.le_of_ble_eq_true rfl⟩ rfl rv_85 wd_1169 wd_1171 wd_38 rfl (e_X12_tallOf hq1) ?_
  refine z_aload_n (pc2 := 8) rfl dX12_madeNow_7 rfl ?_
  refine z_getR 85 12 0 86 (pc2 := 11) rfl dX12_madeNow_8 rfl rfl ff_12_0 wd_977 rfl ?_
  refine z_bipush (pc2 := 13) rfl dX12_madeNow_11 lt_b_12 ?_
  refine z_aload_n (pc2 := 14) rfl dX12_madeNow_13 rfl ?_
  refine z_iload_n (pc2 := 15) rfl dX12_madeNow_14 rfl ?_
  refine z_iconst (pc2 := 16) rfl dX12_madeNow_15 lt_i_2 ?_
  obtain ⟨q2, hq2, h⟩ := ab_bnd h
  refine z_callVi 85 [.int a1, .int (2 : Int32)] [some (.ref 85), some (.int a1), some (.int (2 : Int32))] (pc2 := 19) rfl rfl dX12_madeNow_16 ok_X12_its ⟨fun _ => rfl, fun _ => Nat.le_of_ble_eq_true rfl⟩ rfl rv_85 wd_1129 wd_1131 wd_31 rfl (e_X12_its hq2) ?_
  refine z_iadd (pc2 := 20) rfl dX12_madeNow_19 ?_
  obtain ⟨hb3, h⟩ := ab_ck_e h
  refine z_iald 86 (pc2 := 21) (j := (((12 : Int32) + q2)).toNatClampNeg) rfl dX12_madeNow_20 rfl rfl hb3 rfl ?_
  refine z_aload_n (pc2 := 22) rfl dX12_madeNow_21 rfl ?_
  refine z_getR 85 12 0 86 (pc2 := 25) rfl dX12_madeNow_22 rfl rfl ff_12_0 wd_977 rfl ?_
  refine z_iconst (pc2 := 26) rfl dX12_madeNow_25 lt_i_0 ?_
  refine z_iald 86 (pc2 := 27) (j := 0) rfl dX12_madeNow_26 rfl rfl (by decide) (by decide) ?_
  refine z_bipush (pc2 := 29) rfl dX12_madeNow_27 lt_b_8 ?_
  refine z_irem (pc2 := 30) rfl dX12_madeNow_29 (by decide) ?_
  obtain ⟨q4, hq4, h⟩ := ab_bnd h
  refine z_callVi 85 [.int (1 : Int32), .int q1, .int (σ 86 (((12 : Int32) + q2)).toNatClampNeg), .int ((σ 86 0) - (σ 86 0) / (8 : Int32) * (8 : Int32))] [some (.ref 85), some (.int (1 : Int32)), some (.int q1), some (.int (σ 86 (((12 : Int32) + q2)).toNatClampNeg)), some (.int ((σ 86 0) - (σ 86 0) / (8 : Int32) * (8 : Int32))), none] (pc2 := 33) rfl rfl dX12_madeNow_30 ok_X12_givenBy ⟨fun _ => rfl, fun _ => Nat.le_of_ble_eq_true rfl⟩ rfl rv_85 wd_1148 wd_1150 wd_35 rfl (e_X12_givenBy hq4) ?_
  exact z_iret dX12_madeNow_33 rfl rfl (fi_w h)
def f_X12_isWet (a1 : Int32) (σ : ab_F) : Option Bool := (f_X12_its a1 (2 : Int32) σ).bind (fun q1 => ab_ck (ab_ib ((28 : Int32) + q1) 450) ((f_X12_its a1 (3 : Int32) σ).bind (fun q3 => (if (σ 86 (((28 : Int32) + q1)).toNatClampNeg) ≤ q3 then (some false) else (some true)))))
set_option maxRecDepth 100000 in
set_option maxHeartbeats 4000000 in
theorem e_X12_isWet {sc : Nat × (Nat → Int32)} {r : Option Nat × Option Nat} {a1 : Int32} {σ : ab_F} {res : Bool} (h : f_X12_isWet a1 σ = some res) : ab_E mX12_isWet 1 sc 0 [some (.ref 85), some (.int a1)] [] (σ, r) (fun v S => v = some (.int (ab_b res)) ∧ S = (σ, r)) := by
  unfold f_X12_isWet at h
  refine z_aload_n (pc2 := 1) rfl dX12_isWet_0 rfl ?_
  refine z_getR 85 12 0 86 (pc2 := 4) rfl dX12_isWet_1 rfl rfl ff_12_0 wd_977 rfl ?_
  refine z_bipush (pc2 := 6) rfl dX12_isWet_4 lt_b_28 ?_
  refine z_aload_n (pc2 := 7) rfl dX12_isWet_6 rfl ?_
  refine z_iload_n (pc2 := 8) rfl dX12_isWet_7 rfl ?_
  refine z_iconst (pc2 := 9) rfl dX12_isWet_8 lt_i_2 ?_
  obtain ⟨q1, hq1, h⟩ := ab_bnd h
  refine z_callVi 85 [.int a1, .int (2 : Int32)] [some (.ref 85), some (.int a1), some (.int (2 : Int32))] (pc2 := 12) rfl rfl dX12_isWet_9 ok_X12_its ⟨fun _ => rfl, fun _ => Nat.le_of_ble_eq_true rfl⟩ rfl rv_85 wd_1129 wd_1131 wd_31 rfl (e_X12_its hq1) ?_
  refine z_iadd (pc2 := 13) rfl dX12_isWet_12 ?_
  obtain ⟨hb2, h⟩ := ab_ck_e h
  refine z_iald 86 (pc2 := 14) (j := (((28 : Int32) + q1)).toNatClampNeg) rfl dX12_isWet_13 rfl rfl hb2 rfl ?_
  refine z_aload_n (pc2 := 15) rfl dX12_isWet_14 rfl ?_
  refine z_iload_n (pc2 := 16) rfl dX12_isWet_15 rfl ?_
  refine z_iconst (pc2 := 17) rfl dX12_isWet_16 lt_i_3 ?_
  obtain ⟨q3, hq3, h⟩ := ab_bnd h
  refine z_callVi 85 [.int a1, .int (3 : Int32)] [some (.ref 85), some (.int a1), some (.int (3 : Int32))] (pc2 := 20) rfl rfl dX12_isWet_17 ok_X12_its ⟨fun _ => rfl, fun _ => Nat.le_of_ble_eq_true rfl⟩ rfl rv_85 wd_1129 wd_1131 wd_31 rfl (e_X12_its hq3) ?_
  refine z_icmp_le (pc2 := 23) (tgt := 27) rfl dX12_isWet_20 (by decide) (fun hc4 => ?_) (fun hc4 => ?_)
  · replace h := ab_pos hc4 h
    refine z_iconst (pc2 := 28) rfl dX12_isWet_27 lt_i_0 ?_
    exact z_iret dX12_isWet_28 rfl rfl (fz_p rfl h)
  · replace h := ab_neg hc4 h
    refine z_iconst (pc2 := 24) rfl dX12_isWet_23 lt_i_1 ?_
    refine ab_goto (tgt := 28) dX12_isWet_24 (by decide) ?_
    exact z_iret dX12_isWet_28 rfl rfl (fz_p rfl h)
def f_X12_levelOf (a1 : Int32) (σ : ab_F) : Option Int32 := ab_ck (ab_ib ((12 : Int32) + a1) 450) (ab_ck (ab_ib ((28 : Int32) + a1) 450) ((some ((σ 86 (((12 : Int32) + a1)).toNatClampNeg) + (σ 86 (((28 : Int32) + a1)).toNatClampNeg)))))
set_option maxRecDepth 100000 in
set_option maxHeartbeats 4000000 in
theorem e_X12_levelOf {sc : Nat × (Nat → Int32)} {r : Option Nat × Option Nat} {a1 : Int32} {σ : ab_F} {res : Int32} (h : f_X12_levelOf a1 σ = some res) : ab_E mX12_levelOf 0 sc 0 [some (.ref 85), some (.int a1)] [] (σ, r) (fun v S => v = some (.int res) ∧ S = (σ, r)) := by
  unfold f_X12_levelOf at h
  refine z_aload_n (pc2 := 1) rfl dX12_levelOf_0 rfl ?_
  refine z_getR 85 12 0 86 (pc2 := 4) rfl dX12_levelOf_1 rfl rfl ff_12_0 wd_977 rfl ?_
  refine z_bipush (pc2 := 6) rfl dX12_levelOf_4 lt_b_12 ?_
  refine z_iload_n (pc2 := 7) rfl dX12_levelOf_6 rfl ?_
  refine z_iadd (pc2 := 8) rfl dX12_levelOf_7 ?_
  obtain ⟨hb1, h⟩ := ab_ck_e h
  refine z_iald 86 (pc2 := 9) (j := (((12 : Int32) + a1)).toNatClampNeg) rfl dX12_levelOf_8 rfl rfl hb1 rfl ?_
  refine z_aload_n (pc2 := 10) rfl dX12_levelOf_9 rfl ?_
  refine z_getR 85 12 0 86 (pc2 := 13) rfl dX12_levelOf_10 rfl rfl ff_12_0 wd_977 rfl ?_
  refine z_bipush (pc2 := 15) rfl dX12_levelOf_13 lt_b_28 ?_
  refine z_iload_n (pc2 := 16) rfl dX12_levelOf_15 rfl ?_
  refine z_iadd (pc2 := 17) rfl dX12_levelOf_16 ?_
  obtain ⟨hb2, h⟩ := ab_ck_e h
  refine z_iald 86 (pc2 := 18) (j := (((28 : Int32) + a1)).toNatClampNeg) rfl dX12_levelOf_17 rfl rfl hb2 rfl ?_
  refine z_iadd (pc2 := 19) rfl dX12_levelOf_18 ?_
  exact z_iret dX12_levelOf_19 rfl rfl (fi_p h)
def f_X12_areBeside (a0 : Int32) (a1 : Int32) (σ : ab_F) : Option Bool := ab_lt (((a0 - a0 / (4 : Int32) * (4 : Int32)) - (a1 - a1 / (4 : Int32) * (4 : Int32)))) (fun x1 => ab_lt (((a0 / (4 : Int32)) - (a1 / (4 : Int32)))) (fun x2 => (if ((x1 * x1) + (x2 * x2)) = (1 : Int32) then (some true) else (some false))))
set_option maxRecDepth 100000 in
set_option maxHeartbeats 4000000 in
theorem e_X12_areBeside {sc : Nat × (Nat → Int32)} {r : Option Nat × Option Nat} {a0 : Int32} {a1 : Int32} {σ : ab_F} {res : Bool} (h : f_X12_areBeside a0 a1 σ = some res) : ab_E mX12_areBeside 0 sc 0 [some (.int a0), some (.int a1), none, none] [] (σ, r) (fun v S => v = some (.int (ab_b res)) ∧ S = (σ, r)) := by
  unfold f_X12_areBeside at h
  refine z_iload_n (pc2 := 1) rfl dX12_areBeside_0 rfl ?_
  refine z_iconst (pc2 := 2) rfl dX12_areBeside_1 lt_i_4 ?_
  refine z_irem (pc2 := 3) rfl dX12_areBeside_2 (by decide) ?_
  refine z_iload_n (pc2 := 4) rfl dX12_areBeside_3 rfl ?_
  refine z_iconst (pc2 := 5) rfl dX12_areBeside_4 lt_i_4 ?_
  refine z_irem (pc2 := 6) rfl dX12_areBeside_5 (by decide) ?_
  refine z_isub (pc2 := 7) rfl dX12_areBeside_6 ?_
  obtain ⟨x1, hxx1, h⟩ := ab_lt_e h
  refine z_top hxx1 ?_
  refine z_istore_n (pc2 := 8) (L2 := [some (.int a0), some (.int a1), some (.int x1), none]) rfl dX12_areBeside_7 (by decide) rfl rfl ?_
  refine z_iload_n (pc2 := 9) rfl dX12_areBeside_8 rfl ?_
  refine z_iconst (pc2 := 10) rfl dX12_areBeside_9 lt_i_4 ?_
  refine z_idiv (pc2 := 11) rfl dX12_areBeside_10 (by decide) ?_
  refine z_iload_n (pc2 := 12) rfl dX12_areBeside_11 rfl ?_
  refine z_iconst (pc2 := 13) rfl dX12_areBeside_12 lt_i_4 ?_
  refine z_idiv (pc2 := 14) rfl dX12_areBeside_13 (by decide) ?_
  refine z_isub (pc2 := 15) rfl dX12_areBeside_14 ?_
  obtain ⟨x2, hxx2, h⟩ := ab_lt_e h
  refine z_top hxx2 ?_
  refine z_istore_n (pc2 := 16) (L2 := [some (.int a0), some (.int a1), some (.int x1), some (.int x2)]) rfl dX12_areBeside_15 (by decide) rfl rfl ?_
  refine z_iload_n (pc2 := 17) rfl dX12_areBeside_16 rfl ?_
  refine z_iload_n (pc2 := 18) rfl dX12_areBeside_17 rfl ?_
  refine z_imul (pc2 := 19) rfl dX12_areBeside_18 ?_
  refine z_iload_n (pc2 := 20) rfl dX12_areBeside_19 rfl ?_
  refine z_iload_n (pc2 := 21) rfl dX12_areBeside_20 rfl ?_
  refine z_imul (pc2 := 22) rfl dX12_areBeside_21 ?_
  refine z_iadd (pc2 := 23) rfl dX12_areBeside_22 ?_
  refine z_iconst (pc2 := 24) rfl dX12_areBeside_23 lt_i_1 ?_
  refine z_icmp_ne (pc2 := 27) (tgt := 31) rfl dX12_areBeside_24 (by decide) (fun hc3 => ?_) (fun hc3 => ?_)
  · replace h := ab_neg hc3 h
    refine z_iconst (pc2 := 32) rfl dX12_areBeside_31 lt_i_0 ?_
    exact z_iret dX12_areBeside_32 rfl rfl (fz_p rfl h)
  · replace h := ab_pos hc3 h
    refine z_iconst (pc2 := 28) rfl dX12_areBeside_27 lt_i_1 ?_
    refine ab_goto (tgt := 32) dX12_areBeside_28 (by decide) ?_
    exact z_iret dX12_areBeside_32 rfl rfl (fz_p rfl h)
def f_X12_flowsFrom_L4 (p1 : Int32) (σ : ab_F) (K : Int32 → Option ab_F) : Nat → Int32 → Int32 → Option ab_F
  | 0, _, _ => none
  | n + 1, u2, u3 => (if (16 : Int32) ≤ u3 then (K u2) else (f_X12_areBeside p1 u3 σ).bind (fun q2 => (if (ab_b q2) = 0 then ab_lt (u3 + (1 : Int32)) (fun x4 => (f_X12_flowsFrom_L4 p1 σ K n u2 x4)) else ab_ck (ab_ib ((44 : Int32) + u3) 450) ((if (σ 86 (((44 : Int32) + u3)).toNatClampNeg) = 0 then (if u2 < 0 then ab_lt (u3 + (1 : Int32)) (fun x9 => (f_X12_flowsFrom_L4 p1 σ K n u3 x9)) else (f_X12_levelOf u3 σ).bind (fun q10 => (f_X12_levelOf u2 σ).bind (fun q11 => (if q11 ≤ q10 then ab_lt (u3 + (1 : Int32)) (fun x13 => (f_X12_flowsFrom_L4 p1 σ K n u2 x13)) else ab_lt (u3 + (1 : Int32)) (fun x14 => (f_X12_flowsFrom_L4 p1 σ K n u3 x14)))))) else ab_lt (u3 + (1 : Int32)) (fun x7 => (f_X12_flowsFrom_L4 p1 σ K n u2 x7)))))))
set_option maxRecDepth 100000 in
set_option maxHeartbeats 4000000 in
theorem e_X12_flowsFrom_L4 {sc : Nat × (Nat → Int32)} {r : Option Nat × Option Nat} {p1 : Int32} {σ : ab_F} {K : Int32 → Option ab_F} {res : ab_F} (hK : ∀ (u2 : Int32), K u2 = some res → ab_E mX12_flowsFrom 1 sc 71 [some (.ref 85), some (.int p1), some (.int u2), none, none] [] (σ, r) (fun v S => v = none ∧ S = (res, r))) : ∀ (n : Nat) (u2 : Int32) (u3 : Int32), f_X12_flowsFrom_L4 p1 σ K n u2 u3 = some res → ab_E mX12_flowsFrom 1 sc 4 [some (.ref 85), some (.int p1), some (.int u2), some (.int u3), none] [] (σ, r) (fun v S => v = none ∧ S = (res, r)) := by
  intro n
  induction n with
  | zero =>
    intro u2 u3 h
    rw [f_X12_flowsFrom_L4] at h
    cases h
  | succ n ih =>
    intro u2 u3 h
    rw [f_X12_flowsFrom_L4] at h
    refine z_iload_n (pc2 := 5) rfl dX12_flowsFrom_4 rfl ?_
    refine z_bipush (pc2 := 7) rfl dX12_flowsFrom_5 lt_b_16 ?_
    refine z_icmp_ge (pc2 := 10) (tgt := 71) rfl dX12_flowsFrom_7 (by decide) (fun hc1 => ?_) (fun hc1 => ?_)
    · replace h := ab_pos hc1 h
      refine z_fgt [true, true, true, false, false] (L2 := [some (.ref 85), some (.int p1), some (.int u2), none, none]) rfl ?_
      exact hK _ h
    · replace h := ab_neg hc1 h
      refine z_iload_n (pc2 := 11) rfl dX12_flowsFrom_10 rfl ?_
      refine z_iload_n (pc2 := 12) rfl dX12_flowsFrom_11 rfl ?_
      obtain ⟨q2, hq2, h⟩ := ab_bnd h
      refine z_callSi [.int p1, .int u3] [some (.int p1), some (.int u3), none, none] (pc2 := 15) rfl rfl dX12_flowsFrom_12 ok_X12_areBeside ⟨fun _ => rfl, fun _ => Nat.le_of_ble_eq_true rfl⟩ rfl wd_1236 wd_1237 rfl (e_X12_areBeside hq2) ?_
      refine z_if_eq (pc2 := 18) (tgt := 34) rfl dX12_flowsFrom_15 (by decide) (fun hc3 => ?_) (fun hc3 => ?_)
      · replace h := ab_pos hc3 h
        refine z_iconst (pc2 := 35) rfl dX12_flowsFrom_34 lt_i_0 ?_
        refine z_istore (pc2 := 37) (L2 := [some (.ref 85), some (.int p1), some (.int u2), some (.int u3), some (.int (0 : Int32))]) rfl dX12_flowsFrom_35 (by decide) rfl rfl ?_
        refine z_iload (pc2 := 39) rfl dX12_flowsFrom_37 rfl ?_
        refine z_if_eq (pc2 := 42) (tgt := 63) rfl dX12_flowsFrom_39 (by decide) (fun hc => ?_) (fun hc => ?_)
        · refine z_iload_n (pc2 := 64) rfl dX12_flowsFrom_63 rfl ?_
          refine z_istore_n (pc2 := 65) (L2 := [some (.ref 85), some (.int p1), some (.int u2), some (.int u3), some (.int (0 : Int32))]) rfl dX12_flowsFrom_64 (by decide) rfl rfl ?_
          obtain ⟨x4, hxx4, h⟩ := ab_lt_e h
          refine z_iinc (pc2 := 68) (v := x4) (L2 := [some (.ref 85), some (.int p1), some (.int u2), some (.int x4), some (.int (0 : Int32))]) rfl dX12_flowsFrom_65 rfl (by rw [hxx4]; rfl) (by decide) rfl rfl ?_
          refine ab_goto (tgt := 4) dX12_flowsFrom_68 (by decide) ?_
          refine z_fgt [true, true, true, true, false] (L2 := [some (.ref 85), some (.int p1), some (.int u2), some (.int x4), none]) rfl ?_
          exact ih _ _ h
        · exact absurd hc (by decide)
      · replace h := ab_neg hc3 h
        refine z_aload_n (pc2 := 19) rfl dX12_flowsFrom_18 rfl ?_
        refine z_getR 85 12 0 86 (pc2 := 22) rfl dX12_flowsFrom_19 rfl rfl ff_12_0 wd_977 rfl ?_
        refine z_bipush (pc2 := 24) rfl dX12_flowsFrom_22 lt_b_44 ?_
        refine z_iload_n (pc2 := 25) rfl dX12_flowsFrom_24 rfl ?_
        refine z_iadd (pc2 := 26) rfl dX12_flowsFrom_25 ?_
        obtain ⟨hb5, h⟩ := ab_ck_e h
        refine z_iald 86 (pc2 := 27) (j := (((44 : Int32) + u3)).toNatClampNeg) rfl dX12_flowsFrom_26 rfl rfl hb5 rfl ?_
        refine z_if_ne (pc2 := 30) (tgt := 34) rfl dX12_flowsFrom_27 (by decide) (fun hc6 => ?_) (fun hc6 => ?_)
        · replace h := ab_neg hc6 h
          refine z_iconst (pc2 := 35) rfl dX12_flowsFrom_34 lt_i_0 ?_
          refine z_istore (pc2 := 37) (L2 := [some (.ref 85), some (.int p1), some (.int u2), some (.int u3), some (.int (0 : Int32))]) rfl dX12_flowsFrom_35 (by decide) rfl rfl ?_
          refine z_iload (pc2 := 39) rfl dX12_flowsFrom_37 rfl ?_
          refine z_if_eq (pc2 := 42) (tgt := 63) rfl dX12_flowsFrom_39 (by decide) (fun hc => ?_) (fun hc => ?_)
          · refine z_iload_n (pc2 := 64) rfl dX12_flowsFrom_63 rfl ?_
            refine z_istore_n (pc2 := 65) (L2 := [some (.ref 85), some (.int p1), some (.int u2), some (.int u3), some (.int (0 : Int32))]) rfl dX12_flowsFrom_64 (by decide) rfl rfl ?_
            obtain ⟨x7, hxx7, h⟩ := ab_lt_e h
            refine z_iinc (pc2 := 68) (v := x7) (L2 := [some (.ref 85), some (.int p1), some (.int u2), some (.int x7), some (.int (0 : Int32))]) rfl dX12_flowsFrom_65 rfl (by rw [hxx7]; rfl) (by decide) rfl rfl ?_
            refine ab_goto (tgt := 4) dX12_flowsFrom_68 (by decide) ?_
            refine z_fgt [true, true, true, true, false] (L2 := [some (.ref 85), some (.int p1), some (.int u2), some (.int x7), none]) rfl ?_
            exact ih _ _ h
          · exact absurd hc (by decide)
        · replace h := ab_pos hc6 h
          refine z_iconst (pc2 := 31) rfl dX12_flowsFrom_30 lt_i_1 ?_
          refine ab_goto (tgt := 35) dX12_flowsFrom_31 (by decide) ?_
          refine z_istore (pc2 := 37) (L2 := [some (.ref 85), some (.int p1), some (.int u2), some (.int u3), some (.int (1 : Int32))]) rfl dX12_flowsFrom_35 (by decide) rfl rfl ?_
          refine z_iload (pc2 := 39) rfl dX12_flowsFrom_37 rfl ?_
          refine z_if_eq (pc2 := 42) (tgt := 63) rfl dX12_flowsFrom_39 (by decide) (fun hc => ?_) (fun hc => ?_)
          · exact absurd hc (by decide)
          · refine z_iload_n (pc2 := 43) rfl dX12_flowsFrom_42 rfl ?_
            refine z_if_lt (pc2 := 46) (tgt := 59) rfl dX12_flowsFrom_43 (by decide) (fun hc8 => ?_) (fun hc8 => ?_)
            · replace h := ab_pos hc8 h
              refine z_iload_n (pc2 := 60) rfl dX12_flowsFrom_59 rfl ?_
              refine ab_goto (tgt := 64) dX12_flowsFrom_60 (by decide) ?_
              refine z_istore_n (pc2 := 65) (L2 := [some (.ref 85), some (.int p1), some (.int u3), some (.int u3), some (.int (1 : Int32))]) rfl dX12_flowsFrom_64 (by decide) rfl rfl ?_
              obtain ⟨x9, hxx9, h⟩ := ab_lt_e h
              refine z_iinc (pc2 := 68) (v := x9) (L2 := [some (.ref 85), some (.int p1), some (.int u3), some (.int x9), some (.int (1 : Int32))]) rfl dX12_flowsFrom_65 rfl (by rw [hxx9]; rfl) (by decide) rfl rfl ?_
              refine ab_goto (tgt := 4) dX12_flowsFrom_68 (by decide) ?_
              refine z_fgt [true, true, true, true, false] (L2 := [some (.ref 85), some (.int p1), some (.int u3), some (.int x9), none]) rfl ?_
              exact ih _ _ h
            · replace h := ab_neg hc8 h
              refine z_aload_n (pc2 := 47) rfl dX12_flowsFrom_46 rfl ?_
              refine z_iload_n (pc2 := 48) rfl dX12_flowsFrom_47 rfl ?_
              obtain ⟨q10, hq10, h⟩ := ab_bnd h
              refine z_callVi 85 [.int u3] [some (.ref 85), some (.int u3)] (pc2 := 51) rfl rfl dX12_flowsFrom_48 ok_X12_levelOf ⟨fun _ => rfl, fun _ => Nat.le_of_ble_eq_true rfl⟩ rfl rv_85 wd_1204 wd_1206 wd_40 rfl (e_X12_levelOf hq10) ?_
              refine z_aload_n (pc2 := 52) rfl dX12_flowsFrom_51 rfl ?_
              refine z_iload_n (pc2 := 53) rfl dX12_flowsFrom_52 rfl ?_
              obtain ⟨q11, hq11, h⟩ := ab_bnd h
              refine z_callVi 85 [.int u2] [some (.ref 85), some (.int u2)] (pc2 := 56) rfl rfl dX12_flowsFrom_53 ok_X12_levelOf ⟨fun _ => rfl, fun _ => Nat.le_of_ble_eq_true rfl⟩ rfl rv_85 wd_1204 wd_1206 wd_40 rfl (e_X12_levelOf hq11) ?_
              refine z_icmp_ge (pc2 := 59) (tgt := 63) rfl dX12_flowsFrom_56 (by decide) (fun hc12 => ?_) (fun hc12 => ?_)
              · replace h := ab_pos hc12 h
                refine z_iload_n (pc2 := 64) rfl dX12_flowsFrom_63 rfl ?_
                refine z_istore_n (pc2 := 65) (L2 := [some (.ref 85), some (.int p1), some (.int u2), some (.int u3), some (.int (1 : Int32))]) rfl dX12_flowsFrom_64 (by decide) rfl rfl ?_
                obtain ⟨x13, hxx13, h⟩ := ab_lt_e h
                refine z_iinc (pc2 := 68) (v := x13) (L2 := [some (.ref 85), some (.int p1), some (.int u2), some (.int x13), some (.int (1 : Int32))]) rfl dX12_flowsFrom_65 rfl (by rw [hxx13]; rfl) (by decide) rfl rfl ?_
                refine ab_goto (tgt := 4) dX12_flowsFrom_68 (by decide) ?_
                refine z_fgt [true, true, true, true, false] (L2 := [some (.ref 85), some (.int p1), some (.int u2), some (.int x13), none]) rfl ?_
                exact ih _ _ h
              · replace h := ab_neg hc12 h
                refine z_iload_n (pc2 := 60) rfl dX12_flowsFrom_59 rfl ?_
                refine ab_goto (tgt := 64) dX12_flowsFrom_60 (by decide) ?_
                refine z_istore_n (pc2 := 65) (L2 := [some (.ref 85), some (.int p1), some (.int u3), some (.int u3), some (.int (1 : Int32))]) rfl dX12_flowsFrom_64 (by decide) rfl rfl ?_
                obtain ⟨x14, hxx14, h⟩ := ab_lt_e h
                refine z_iinc (pc2 := 68) (v := x14) (L2 := [some (.ref 85), some (.int p1), some (.int u3), some (.int x14), some (.int (1 : Int32))]) rfl dX12_flowsFrom_65 rfl (by rw [hxx14]; rfl) (by decide) rfl rfl ?_
                refine ab_goto (tgt := 4) dX12_flowsFrom_68 (by decide) ?_
                refine z_fgt [true, true, true, true, false] (L2 := [some (.ref 85), some (.int p1), some (.int u3), some (.int x14), none]) rfl ?_
                exact ih _ _ h
def f_X12_flowsFrom (a1 : Int32) (σ : ab_F) : Option ab_F := (f_X12_flowsFrom_L4 a1 σ (fun (k15 : Int32) => ab_ck (ab_ib ((28 : Int32) + a1) 450) ((if (σ 86 (((28 : Int32) + a1)).toNatClampNeg) ≤ 0 then (some σ) else ab_ck (ab_ib ((44 : Int32) + a1) 450) ((if (σ 86 (((44 : Int32) + a1)).toNatClampNeg) = 0 then (if k15 < 0 then (some σ) else (f_X12_levelOf a1 σ).bind (fun q21 => (f_X12_levelOf k15 σ).bind (fun q22 => (if (q21 - q22) < (2 : Int32) then (some σ) else ab_ck (ab_ib ((28 : Int32) + k15) 450) ((if (99 : Int32) ≤ (σ 86 (((28 : Int32) + k15)).toNatClampNeg) then (some σ) else ab_ck (ab_ib ((28 : Int32) + a1) 450) (ab_ck (ab_ib ((28 : Int32) + a1) 450) (ab_lt (ab_u σ 86 (((28 : Int32) + a1)).toNatClampNeg ((σ 86 (((28 : Int32) + a1)).toNatClampNeg) - (1 : Int32))) (fun (s28 : ab_F) => ab_ck (ab_ib ((28 : Int32) + k15) 450) (ab_ck (ab_ib ((28 : Int32) + k15) 450) (ab_lt (ab_u s28 86 (((28 : Int32) + k15)).toNatClampNeg ((s28 86 (((28 : Int32) + k15)).toNatClampNeg) + (1 : Int32))) (fun (s31 : ab_F) => (some s31))))))))))))) else (some σ)))))) ab_fu (-1 : Int32) (0 : Int32))
set_option maxRecDepth 100000 in
set_option maxHeartbeats 4000000 in
theorem e_X12_flowsFrom {sc : Nat × (Nat → Int32)} {r : Option Nat × Option Nat} {a1 : Int32} {σ : ab_F} {res : ab_F} (h : f_X12_flowsFrom a1 σ = some res) : ab_E mX12_flowsFrom 1 sc 0 [some (.ref 85), some (.int a1), none, none, none] [] (σ, r) (fun v S => v = none ∧ S = (res, r)) := by
  unfold f_X12_flowsFrom at h
  refine z_iconst (pc2 := 1) rfl dX12_flowsFrom_0 lt_i_m1 ?_
  refine z_istore_n (pc2 := 2) (L2 := [some (.ref 85), some (.int a1), some (.int (-1 : Int32)), none, none]) rfl dX12_flowsFrom_1 (by decide) rfl rfl ?_
  refine z_iconst (pc2 := 3) rfl dX12_flowsFrom_2 lt_i_0 ?_
  refine z_istore_n (pc2 := 4) (L2 := [some (.ref 85), some (.int a1), some (.int (-1 : Int32)), some (.int (0 : Int32)), none]) rfl dX12_flowsFrom_3 (by decide) rfl rfl ?_
  refine z_fgt [true, true, true, true, false] (L2 := [some (.ref 85), some (.int a1), some (.int (-1 : Int32)), some (.int (0 : Int32)), none]) rfl ?_
  refine e_X12_flowsFrom_L4 (fun k15 h => ?_) _ _ _ h
  refine z_aload_n (pc2 := 72) rfl dX12_flowsFrom_71 rfl ?_
  refine z_getR 85 12 0 86 (pc2 := 75) rfl dX12_flowsFrom_72 rfl rfl ff_12_0 wd_977 rfl ?_
  refine z_bipush (pc2 := 77) rfl dX12_flowsFrom_75 lt_b_28 ?_
  refine z_iload_n (pc2 := 78) rfl dX12_flowsFrom_77 rfl ?_
  refine z_iadd (pc2 := 79) rfl dX12_flowsFrom_78 ?_
  obtain ⟨hb16, h⟩ := ab_ck_e h
  refine z_iald 86 (pc2 := 80) (j := (((28 : Int32) + a1)).toNatClampNeg) rfl dX12_flowsFrom_79 rfl rfl hb16 rfl ?_
  refine z_if_le (pc2 := 83) (tgt := 103) rfl dX12_flowsFrom_80 (by decide) (fun hc17 => ?_) (fun hc17 => ?_)
  · replace h := ab_pos hc17 h
    refine z_iconst (pc2 := 104) rfl dX12_flowsFrom_103 lt_i_0 ?_
    refine z_istore_n (pc2 := 105) (L2 := [some (.ref 85), some (.int a1), some (.int k15), some (.int (0 : Int32)), none]) rfl dX12_flowsFrom_104 (by decide) rfl rfl ?_
    refine z_iload_n (pc2 := 106) rfl dX12_flowsFrom_105 rfl ?_
    refine z_if_eq (pc2 := 109) (tgt := 164) rfl dX12_flowsFrom_106 (by decide) (fun hc => ?_) (fun hc => ?_)
    · exact z_vret dX12_flowsFrom_164 rfl (fv_w h)
    · exact absurd hc (by decide)
  · replace h := ab_neg hc17 h
    refine z_aload_n (pc2 := 84) rfl dX12_flowsFrom_83 rfl ?_
    refine z_getR 85 12 0 86 (pc2 := 87) rfl dX12_flowsFrom_84 rfl rfl ff_12_0 wd_977 rfl ?_
    refine z_bipush (pc2 := 89) rfl dX12_flowsFrom_87 lt_b_44 ?_
    refine z_iload_n (pc2 := 90) rfl dX12_flowsFrom_89 rfl ?_
    refine z_iadd (pc2 := 91) rfl dX12_flowsFrom_90 ?_
    obtain ⟨hb18, h⟩ := ab_ck_e h
    refine z_iald 86 (pc2 := 92) (j := (((44 : Int32) + a1)).toNatClampNeg) rfl dX12_flowsFrom_91 rfl rfl hb18 rfl ?_
    refine z_if_ne (pc2 := 95) (tgt := 103) rfl dX12_flowsFrom_92 (by decide) (fun hc19 => ?_) (fun hc19 => ?_)
    · replace h := ab_neg hc19 h
      refine z_iconst (pc2 := 104) rfl dX12_flowsFrom_103 lt_i_0 ?_
      refine z_istore_n (pc2 := 105) (L2 := [some (.ref 85), some (.int a1), some (.int k15), some (.int (0 : Int32)), none]) rfl dX12_flowsFrom_104 (by decide) rfl rfl ?_
      refine z_iload_n (pc2 := 106) rfl dX12_flowsFrom_105 rfl ?_
      refine z_if_eq (pc2 := 109) (tgt := 164) rfl dX12_flowsFrom_106 (by decide) (fun hc => ?_) (fun hc => ?_)
      · exact z_vret dX12_flowsFrom_164 rfl (fv_w h)
      · exact absurd hc (by decide)
    · replace h := ab_pos hc19 h
      refine z_iload_n (pc2 := 96) rfl dX12_flowsFrom_95 rfl ?_
      refine z_if_lt (pc2 := 99) (tgt := 103) rfl dX12_flowsFrom_96 (by decide) (fun hc20 => ?_) (fun hc20 => ?_)
      · replace h := ab_pos hc20 h
        refine z_iconst (pc2 := 104) rfl dX12_flowsFrom_103 lt_i_0 ?_
        refine z_istore_n (pc2 := 105) (L2 := [some (.ref 85), some (.int a1), some (.int k15), some (.int (0 : Int32)), none]) rfl dX12_flowsFrom_104 (by decide) rfl rfl ?_
        refine z_iload_n (pc2 := 106) rfl dX12_flowsFrom_105 rfl ?_
        refine z_if_eq (pc2 := 109) (tgt := 164) rfl dX12_flowsFrom_106 (by decide) (fun hc => ?_) (fun hc => ?_)
        · exact z_vret dX12_flowsFrom_164 rfl (fv_w h)
        · exact absurd hc (by decide)
      · replace h := ab_neg hc20 h
        refine z_iconst (pc2 := 100) rfl dX12_flowsFrom_99 lt_i_1 ?_
        refine ab_goto (tgt := 104) dX12_flowsFrom_100 (by decide) ?_
        refine z_istore_n (pc2 := 105) (L2 := [some (.ref 85), some (.int a1), some (.int k15), some (.int (1 : Int32)), none]) rfl dX12_flowsFrom_104 (by decide) rfl rfl ?_
        refine z_iload_n (pc2 := 106) rfl dX12_flowsFrom_105 rfl ?_
        refine z_if_eq (pc2 := 109) (tgt := 164) rfl dX12_flowsFrom_106 (by decide) (fun hc => ?_) (fun hc => ?_)
        · exact absurd hc (by decide)
        · refine z_aload_n (pc2 := 110) rfl dX12_flowsFrom_109 rfl ?_
          refine z_iload_n (pc2 := 111) rfl dX12_flowsFrom_110 rfl ?_
          obtain ⟨q21, hq21, h⟩ := ab_bnd h
          refine z_callVi 85 [.int a1] [some (.ref 85), some (.int a1)] (pc2 := 114) rfl rfl dX12_flowsFrom_111 ok_X12_levelOf ⟨fun _ => rfl, fun _ => Nat.le_of_ble_eq_true rfl⟩ rfl rv_85 wd_1204 wd_1206 wd_40 rfl (e_X12_levelOf hq21) ?_
          refine z_aload_n (pc2 := 115) rfl dX12_flowsFrom_114 rfl ?_
          refine z_iload_n (pc2 := 116) rfl dX12_flowsFrom_115 rfl ?_
          obtain ⟨q22, hq22, h⟩ := ab_bnd h
          refine z_callVi 85 [.int k15] [some (.ref 85), some (.int k15)] (pc2 := 119) rfl rfl dX12_flowsFrom_116 ok_X12_levelOf ⟨fun _ => rfl, fun _ => Nat.le_of_ble_eq_true rfl⟩ rfl rv_85 wd_1204 wd_1206 wd_40 rfl (e_X12_levelOf hq22) ?_
          refine z_isub (pc2 := 120) rfl dX12_flowsFrom_119 ?_
          refine z_iconst (pc2 := 121) rfl dX12_flowsFrom_120 lt_i_2 ?_
          refine z_icmp_lt (pc2 := 124) (tgt := 164) rfl dX12_flowsFrom_121 (by decide) (fun hc23 => ?_) (fun hc23 => ?_)
          · replace h := ab_pos hc23 h
            exact z_vret dX12_flowsFrom_164 rfl (fv_w h)
          · replace h := ab_neg hc23 h
            refine z_aload_n (pc2 := 125) rfl dX12_flowsFrom_124 rfl ?_
            refine z_getR 85 12 0 86 (pc2 := 128) rfl dX12_flowsFrom_125 rfl rfl ff_12_0 wd_977 rfl ?_
            refine z_bipush (pc2 := 130) rfl dX12_flowsFrom_128 lt_b_28 ?_
            refine z_iload_n (pc2 := 131) rfl dX12_flowsFrom_130 rfl ?_
            refine z_iadd (pc2 := 132) rfl dX12_flowsFrom_131 ?_
            obtain ⟨hb24, h⟩ := ab_ck_e h
            refine z_iald 86 (pc2 := 133) (j := (((28 : Int32) + k15)).toNatClampNeg) rfl dX12_flowsFrom_132 rfl rfl hb24 rfl ?_
            refine z_bipush (pc2 := 135) rfl dX12_flowsFrom_133 lt_b_99 ?_
            refine z_icmp_ge (pc2 := 138) (tgt := 164) rfl dX12_flowsFrom_135 (by decide) (fun hc25 => ?_) (fun hc25 => ?_)
            · replace h := ab_pos hc25 h
              exact z_vret dX12_flowsFrom_164 rfl (fv_w h)
            · replace h := ab_neg hc25 h
              refine z_aload_n (pc2 := 139) rfl dX12_flowsFrom_138 rfl ?_
              refine z_getR 85 12 0 86 (pc2 := 142) rfl dX12_flowsFrom_139 rfl rfl ff_12_0 wd_977 rfl ?_
              refine z_bipush (pc2 := 144) rfl dX12_flowsFrom_142 lt_b_28 ?_
              refine z_iload_n (pc2 := 145) rfl dX12_flowsFrom_144 rfl ?_
              refine z_iadd (pc2 := 146) rfl dX12_flowsFrom_145 ?_
              refine z_dup2 (pc2 := 147) rfl dX12_flowsFrom_146 rfl rfl ?_
              obtain ⟨hb26, h⟩ := ab_ck_e h
              refine z_iald 86 (pc2 := 148) (j := (((28 : Int32) + a1)).toNatClampNeg) rfl dX12_flowsFrom_147 rfl rfl hb26 rfl ?_
              refine z_iconst (pc2 := 149) rfl dX12_flowsFrom_148 lt_i_1 ?_
              refine z_isub (pc2 := 150) rfl dX12_flowsFrom_149 ?_
              obtain ⟨hb27, h⟩ := ab_ck_e h
              refine z_iast 86 (pc2 := 151) (j := (((28 : Int32) + a1)).toNatClampNeg) rfl dX12_flowsFrom_150 rfl rfl hb27 rfl ?_
              obtain ⟨s28, hs28, h⟩ := ab_lt_e h
              refine z_tops hs28 ?_
              refine z_aload_n (pc2 := 152) rfl dX12_flowsFrom_151 rfl ?_
              refine z_getR 85 12 0 86 (pc2 := 155) rfl dX12_flowsFrom_152 rfl rfl ff_12_0 wd_977 rfl ?_
              refine z_bipush (pc2 := 157) rfl dX12_flowsFrom_155 lt_b_28 ?_
              refine z_iload_n (pc2 := 158) rfl dX12_flowsFrom_157 rfl ?_
              refine z_iadd (pc2 := 159) rfl dX12_flowsFrom_158 ?_
              refine z_dup2 (pc2 := 160) rfl dX12_flowsFrom_159 rfl rfl ?_
              obtain ⟨hb29, h⟩ := ab_ck_e h
              refine z_iald 86 (pc2 := 161) (j := (((28 : Int32) + k15)).toNatClampNeg) rfl dX12_flowsFrom_160 rfl rfl hb29 rfl ?_
              refine z_iconst (pc2 := 162) rfl dX12_flowsFrom_161 lt_i_1 ?_
              refine z_iadd (pc2 := 163) rfl dX12_flowsFrom_162 ?_
              obtain ⟨hb30, h⟩ := ab_ck_e h
              refine z_iast 86 (pc2 := 164) (j := (((28 : Int32) + k15)).toNatClampNeg) rfl dX12_flowsFrom_163 rfl rfl hb30 rfl ?_
              obtain ⟨s31, hs31, h⟩ := ab_lt_e h
              refine z_tops hs31 ?_
              exact z_vret dX12_flowsFrom_164 rfl (fv_w h)
def f_X12_goesAway_L12 (p1 : Int32) (p2 : Int32) (σ : ab_F) (K : Int32 → Option ab_F) : Nat → Int32 → Int32 → Option ab_F
  | 0, _, _ => none
  | n + 1, u3, u4 => (if (16 : Int32) ≤ u4 then (K u3) else (f_X12_areBeside p2 u4 σ).bind (fun q3 => (if (ab_b q3) = 0 then ab_lt (u4 + (1 : Int32)) (fun x5 => (f_X12_goesAway_L12 p1 p2 σ K n u3 x5)) else (if u3 < 0 then ab_lt (u4 + (1 : Int32)) (fun x7 => (f_X12_goesAway_L12 p1 p2 σ K n u4 x7)) else ab_ck (ab_ib ((12 : Int32) + u4) 450) (ab_ck (ab_ib ((12 : Int32) + u3) 450) ((if (σ 86 (((12 : Int32) + u4)).toNatClampNeg) ≤ (σ 86 (((12 : Int32) + u3)).toNatClampNeg) then ab_lt (u4 + (1 : Int32)) (fun x11 => (f_X12_goesAway_L12 p1 p2 σ K n u3 x11)) else ab_lt (u4 + (1 : Int32)) (fun x12 => (f_X12_goesAway_L12 p1 p2 σ K n u4 x12)))))))))
set_option maxRecDepth 100000 in
set_option maxHeartbeats 4000000 in
theorem e_X12_goesAway_L12 {sc : Nat × (Nat → Int32)} {r : Option Nat × Option Nat} {p1 : Int32} {p2 : Int32} {σ : ab_F} {K : Int32 → Option ab_F} {res : ab_F} (hK : ∀ (u3 : Int32), K u3 = some res → ab_E mX12_goesAway 1 sc 67 [some (.ref 85), some (.int p1), none, some (.int u3), none] [] (σ, r) (fun v S => v = none ∧ S = (res, r))) : ∀ (n : Nat) (u3 : Int32) (u4 : Int32), f_X12_goesAway_L12 p1 p2 σ K n u3 u4 = some res → ab_E mX12_goesAway 1 sc 12 [some (.ref 85), some (.int p1), some (.int p2), some (.int u3), some (.int u4)] [] (σ, r) (fun v S => v = none ∧ S = (res, r)) := by
  intro n
  induction n with
  | zero =>
    intro u3 u4 h
    rw [f_X12_goesAway_L12] at h
    cases h
  | succ n ih =>
    intro u3 u4 h
    rw [f_X12_goesAway_L12] at h
    refine z_iload (pc2 := 14) rfl dX12_goesAway_12 rfl ?_
    refine z_bipush (pc2 := 16) rfl dX12_goesAway_14 lt_b_16 ?_
    refine z_icmp_ge (pc2 := 19) (tgt := 67) rfl dX12_goesAway_16 (by decide) (fun hc2 => ?_) (fun hc2 => ?_)
    · replace h := ab_pos hc2 h
      refine z_fgt [true, true, false, true, false] (L2 := [some (.ref 85), some (.int p1), none, some (.int u3), none]) rfl ?_
      exact hK _ h
    · replace h := ab_neg hc2 h
      refine z_iload_n (pc2 := 20) rfl dX12_goesAway_19 rfl ?_
      refine z_iload (pc2 := 22) rfl dX12_goesAway_20 rfl ?_
      obtain ⟨q3, hq3, h⟩ := ab_bnd h
      refine z_callSi [.int p2, .int u4] [some (.int p2), some (.int u4), none, none] (pc2 := 25) rfl rfl dX12_goesAway_22 ok_X12_areBeside ⟨fun _ => rfl, fun _ => Nat.le_of_ble_eq_true rfl⟩ rfl wd_1236 wd_1237 rfl (e_X12_areBeside hq3) ?_
      refine z_if_eq (pc2 := 28) (tgt := 59) rfl dX12_goesAway_25 (by decide) (fun hc4 => ?_) (fun hc4 => ?_)
      · replace h := ab_pos hc4 h
        refine z_iload_n (pc2 := 60) rfl dX12_goesAway_59 rfl ?_
        refine z_istore_n (pc2 := 61) (L2 := [some (.ref 85), some (.int p1), some (.int p2), some (.int u3), some (.int u4)]) rfl dX12_goesAway_60 (by decide) rfl rfl ?_
        obtain ⟨x5, hxx5, h⟩ := ab_lt_e h
        refine z_iinc (pc2 := 64) (v := x5) (L2 := [some (.ref 85), some (.int p1), some (.int p2), some (.int u3), some (.int x5)]) rfl dX12_goesAway_61 rfl (by rw [hxx5]; rfl) (by decide) rfl rfl ?_
        refine ab_goto (tgt := 12) dX12_goesAway_64 (by decide) ?_
        refine z_fgt [true, true, true, true, true] (L2 := [some (.ref 85), some (.int p1), some (.int p2), some (.int u3), some (.int x5)]) rfl ?_
        exact ih _ _ h
      · replace h := ab_neg hc4 h
        refine z_iload_n (pc2 := 29) rfl dX12_goesAway_28 rfl ?_
        refine z_if_lt (pc2 := 32) (tgt := 54) rfl dX12_goesAway_29 (by decide) (fun hc6 => ?_) (fun hc6 => ?_)
        · replace h := ab_pos hc6 h
          refine z_iload (pc2 := 56) rfl dX12_goesAway_54 rfl ?_
          refine ab_goto (tgt := 60) dX12_goesAway_56 (by decide) ?_
          refine z_istore_n (pc2 := 61) (L2 := [some (.ref 85), some (.int p1), some (.int p2), some (.int u4), some (.int u4)]) rfl dX12_goesAway_60 (by decide) rfl rfl ?_
          obtain ⟨x7, hxx7, h⟩ := ab_lt_e h
          refine z_iinc (pc2 := 64) (v := x7) (L2 := [some (.ref 85), some (.int p1), some (.int p2), some (.int u4), some (.int x7)]) rfl dX12_goesAway_61 rfl (by rw [hxx7]; rfl) (by decide) rfl rfl ?_
          refine ab_goto (tgt := 12) dX12_goesAway_64 (by decide) ?_
          refine z_fgt [true, true, true, true, true] (L2 := [some (.ref 85), some (.int p1), some (.int p2), some (.int u4), some (.int x7)]) rfl ?_
          exact ih _ _ h
        · replace h := ab_neg hc6 h
          refine z_aload_n (pc2 := 33) rfl dX12_goesAway_32 rfl ?_
          refine z_getR 85 12 0 86 (pc2 := 36) rfl dX12_goesAway_33 rfl rfl ff_12_0 wd_977 rfl ?_
          refine z_bipush (pc2 := 38) rfl dX12_goesAway_36 lt_b_12 ?_
          refine z_iload (pc2 := 40) rfl dX12_goesAway_38 rfl ?_
          refine z_iadd (pc2 := 41) rfl dX12_goesAway_40 ?_
          obtain ⟨hb8, h⟩ := ab_ck_e h
          refine z_iald 86 (pc2 := 42) (j := (((12 : Int32) + u4)).toNatClampNeg) rfl dX12_goesAway_41 rfl rfl hb8 rfl ?_
          refine z_aload_n (pc2 := 43) rfl dX12_goesAway_42 rfl ?_
          refine z_getR 85 12 0 86 (pc2 := 46) rfl dX12_goesAway_43 rfl rfl ff_12_0 wd_977 rfl ?_
          refine z_bipush (pc2 := 48) rfl dX12_goesAway_46 lt_b_12 ?_
          refine z_iload_n (pc2 := 49) rfl dX12_goesAway_48 rfl ?_
          refine z_iadd (pc2 := 50) rfl dX12_goesAway_49 ?_
          obtain ⟨hb9, h⟩ := ab_ck_e h
          refine z_iald 86 (pc2 := 51) (j := (((12 : Int32) + u3)).toNatClampNeg) rfl dX12_goesAway_50 rfl rfl hb9 rfl ?_
          refine z_icmp_le (pc2 := 54) (tgt := 59) rfl dX12_goesAway_51 (by decide) (fun hc10 => ?_) (fun hc10 => ?_)
          · replace h := ab_pos hc10 h
            refine z_iload_n (pc2 := 60) rfl dX12_goesAway_59 rfl ?_
            refine z_istore_n (pc2 := 61) (L2 := [some (.ref 85), some (.int p1), some (.int p2), some (.int u3), some (.int u4)]) rfl dX12_goesAway_60 (by decide) rfl rfl ?_
            obtain ⟨x11, hxx11, h⟩ := ab_lt_e h
            refine z_iinc (pc2 := 64) (v := x11) (L2 := [some (.ref 85), some (.int p1), some (.int p2), some (.int u3), some (.int x11)]) rfl dX12_goesAway_61 rfl (by rw [hxx11]; rfl) (by decide) rfl rfl ?_
            refine ab_goto (tgt := 12) dX12_goesAway_64 (by decide) ?_
            refine z_fgt [true, true, true, true, true] (L2 := [some (.ref 85), some (.int p1), some (.int p2), some (.int u3), some (.int x11)]) rfl ?_
            exact ih _ _ h
          · replace h := ab_neg hc10 h
            refine z_iload (pc2 := 56) rfl dX12_goesAway_54 rfl ?_
            refine ab_goto (tgt := 60) dX12_goesAway_56 (by decide) ?_
            refine z_istore_n (pc2 := 61) (L2 := [some (.ref 85), some (.int p1), some (.int p2), some (.int u4), some (.int u4)]) rfl dX12_goesAway_60 (by decide) rfl rfl ?_
            obtain ⟨x12, hxx12, h⟩ := ab_lt_e h
            refine z_iinc (pc2 := 64) (v := x12) (L2 := [some (.ref 85), some (.int p1), some (.int p2), some (.int u4), some (.int x12)]) rfl dX12_goesAway_61 rfl (by rw [hxx12]; rfl) (by decide) rfl rfl ?_
            refine ab_goto (tgt := 12) dX12_goesAway_64 (by decide) ?_
            refine z_fgt [true, true, true, true, true] (L2 := [some (.ref 85), some (.int p1), some (.int p2), some (.int u4), some (.int x12)]) rfl ?_
            exact ih _ _ h
def f_X12_goesAway (a1 : Int32) (σ : ab_F) : Option ab_F := (f_X12_its a1 (2 : Int32) σ).bind (fun q1 => (f_X12_goesAway_L12 a1 q1 σ (fun (k13 : Int32) => (f_X12_lays1 a1 (2 : Int32) k13 σ).bind (fun q14 => (some q14))) ab_fu (-1 : Int32) (0 : Int32)))
set_option maxRecDepth 100000 in
set_option maxHeartbeats 4000000 in
theorem e_X12_goesAway {sc : Nat × (Nat → Int32)} {r : Option Nat × Option Nat} {a1 : Int32} {σ : ab_F} {res : ab_F} (h : f_X12_goesAway a1 σ = some res) : ab_E mX12_goesAway 1 sc 0 [some (.ref 85), some (.int a1), none, none, none] [] (σ, r) (fun v S => v = none ∧ S = (res, r)) := by
  unfold f_X12_goesAway at h
  refine z_aload_n (pc2 := 1) rfl dX12_goesAway_0 rfl ?_
  refine z_iload_n (pc2 := 2) rfl dX12_goesAway_1 rfl ?_
  refine z_iconst (pc2 := 3) rfl dX12_goesAway_2 lt_i_2 ?_
  obtain ⟨q1, hq1, h⟩ := ab_bnd h
  refine z_callVi 85 [.int a1, .int (2 : Int32)] [some (.ref 85), some (.int a1), some (.int (2 : Int32))] (pc2 := 6) rfl rfl dX12_goesAway_3 ok_X12_its ⟨fun _ => rfl, fun _ => Nat.le_of_ble_eq_true rfl⟩ rfl rv_85 wd_1129 wd_1131 wd_31 rfl (e_X12_its hq1) ?_
  refine z_istore_n (pc2 := 7) (L2 := [some (.ref 85), some (.int a1), some (.int q1), none, none]) rfl dX12_goesAway_6 (by decide) rfl rfl ?_
  refine z_iconst (pc2 := 8) rfl dX12_goesAway_7 lt_i_m1 ?_
  refine z_istore_n (pc2 := 9) (L2 := [some (.ref 85), some (.int a1), some (.int q1), some (.int (-1 : Int32)), none]) rfl dX12_goesAway_8 (by decide) rfl rfl ?_
  refine z_iconst (pc2 := 10) rfl dX12_goesAway_9 lt_i_0 ?_
  refine z_istore (pc2 := 12) (L2 := [some (.ref 85), some (.int a1), some (.int q1), some (.int (-1 : Int32)), some (.int (0 : Int32))]) rfl dX12_goesAway_10 (by decide) rfl rfl ?_
  refine z_fgt [true, true, true, true, true] (L2 := [some (.ref 85), some (.int a1), some (.int q1), some (.int (-1 : Int32)), some (.int (0 : Int32))]) rfl ?_
  refine e_X12_goesAway_L12 (fun k13 h => ?_) _ _ _ h
  refine z_aload_n (pc2 := 68) rfl dX12_goesAway_67 rfl ?_
  refine z_iload_n (pc2 := 69) rfl dX12_goesAway_68 rfl ?_
  refine z_iconst (pc2 := 70) rfl dX12_goesAway_69 lt_i_2 ?_
  refine z_iload_n (pc2 := 71) rfl dX12_goesAway_70 rfl ?_
  obtain ⟨q14, hq14, h⟩ := ab_bnd h
  refine z_callVv 85 [.int a1, .int (2 : Int32), .int k13] [some (.ref 85), some (.int a1), some (.int (2 : Int32)), some (.int k13)] (pc2 := 74) rfl rfl dX12_goesAway_71 ok_X12_lays1 ⟨fun _ => rfl, fun _ => Nat.le_of_ble_eq_true rfl⟩ rfl rv_85 wd_1113 wd_1115 wd_28 rfl (e_X12_lays1 hq14) ?_
  exact z_vret dX12_goesAway_74 rfl (fv_w h)
def f_X12_getsWet (a1 : Int32) (σ : ab_F) : Option ab_F := (f_X12_its a1 (4 : Int32) σ).bind (fun q1 => (f_X12_its a1 (2 : Int32) σ).bind (fun q2 => ab_ck (ab_ib ((60 : Int32) + q2) 450) ((f_X12_lays1 a1 (4 : Int32) (q1 ||| (σ 86 (((60 : Int32) + q2)).toNatClampNeg)) σ).bind (fun q4 => (f_X12_doesNow a1 q4).bind (fun q5 => ab_lt (q5.1) (fun x6 => (if x6 = (1 : Int32) then (f_X12_its a1 (3 : Int32) q5.2).bind (fun q12 => (f_X12_held (q12 + (1 : Int32)) (0 : Int32) (20 : Int32) q5.2).bind (fun q13 => (f_X12_lays1 a1 (3 : Int32) q13 q5.2).bind (fun q14 => (some q14)))) else (if x6 = (2 : Int32) then (f_X12_lays1 a1 (3 : Int32) (0 : Int32) q5.2).bind (fun q11 => (some q11)) else (if x6 = (3 : Int32) then (f_X12_goesAway a1 q5.2).bind (fun q10 => (some q10)) else (some q5.2))))))))))
set_option maxRecDepth 100000 in
set_option maxHeartbeats 4000000 in
theorem e_X12_getsWet {sc : Nat × (Nat → Int32)} {r : Option Nat × Option Nat} {a1 : Int32} {σ : ab_F} {res : ab_F} (h : f_X12_getsWet a1 σ = some res) : ab_E mX12_getsWet 4 sc 0 [some (.ref 85), some (.int a1), none] [] (σ, r) (fun v S => v = none ∧ S = (res, r)) := by
  unfold f_X12_getsWet at h
  refine z_aload_n (pc2 := 1) rfl dX12_getsWet_0 rfl ?_
  refine z_iload_n (pc2 := 2) rfl dX12_getsWet_1 rfl ?_
  refine z_iconst (pc2 := 3) rfl dX12_getsWet_2 lt_i_4 ?_
  refine z_aload_n (pc2 := 4) rfl dX12_getsWet_3 rfl ?_
  refine z_iload_n (pc2 := 5) rfl dX12_getsWet_4 rfl ?_
  refine z_iconst (pc2 := 6) rfl dX12_getsWet_5 lt_i_4 ?_
  obtain ⟨q1, hq1, h⟩ := ab_bnd h
  refine z_callVi 85 [.int a1, .int (4 : Int32)] [some (.ref 85), some (.int a1), some (.int (4 : Int32))] (pc2 := 9) rfl rfl dX12_getsWet_6 ok_X12_its ⟨fun _ => rfl, fun _ => Nat.le_of_ble_eq_true rfl⟩ rfl rv_85 wd_1129 wd_1131 wd_31 rfl (e_X12_its hq1) ?_
  refine z_aload_n (pc2 := 10) rfl dX12_getsWet_9 rfl ?_
  refine z_getR 85 12 0 86 (pc2 := 13) rfl dX12_getsWet_10 rfl rfl ff_12_0 wd_977 rfl ?_
  refine z_bipush (pc2 := 15) rfl dX12_getsWet_13 lt_b_60 ?_
  refine z_aload_n (pc2 := 16) rfl dX12_getsWet_15 rfl ?_
  refine z_iload_n (pc2 := 17) rfl dX12_getsWet_16 rfl ?_
  refine z_iconst (pc2 := 18) rfl dX12_getsWet_17 lt_i_2 ?_
  obtain ⟨q2, hq2, h⟩ := ab_bnd h
  refine z_callVi 85 [.int a1, .int (2 : Int32)] [some (.ref 85), some (.int a1), some (.int (2 : Int32))] (pc2 := 21) rfl rfl dX12_getsWet_18 ok_X12_its ⟨fun _ => rfl, fun _ => Nat.le_of_ble_eq_true rfl⟩ rfl rv_85 wd_1129 wd_1131 wd_31 rfl (e_X12_its hq2) ?_
  refine z_iadd (pc2 := 22) rfl dX12_getsWet_21 ?_
  obtain ⟨hb3, h⟩ := ab_ck_e h
  refine z_iald 86 (pc2 := 23) (j := (((60 : Int32) + q2)).toNatClampNeg) rfl dX12_getsWet_22 rfl rfl hb3 rfl ?_
  refine z_ior (pc2 := 24) rfl dX12_getsWet_23 ?_
  obtain ⟨q4, hq4, h⟩ := ab_bnd h
  refine z_callVv 85 [.int a1, .int (4 : Int32), .int (q1 ||| (σ 86 (((60 : Int32) + q2)).toNatClampNeg))] [some (.ref 85), some (.int a1), some (.int (4 : Int32)), some (.int (q1 ||| (σ 86 (((60 : Int32) + q2)).toNatClampNeg)))] (pc2 := 27) rfl rfl dX12_getsWet_24 ok_X12_lays1 ⟨fun _ => rfl, fun _ => Nat.le_of_ble_eq_true rfl⟩ rfl rv_85 wd_1113 wd_1115 wd_28 rfl (e_X12_lays1 hq4) ?_
  refine z_aload_n (pc2 := 28) rfl dX12_getsWet_27 rfl ?_
  refine z_iload_n (pc2 := 29) rfl dX12_getsWet_28 rfl ?_
  obtain ⟨q5, hq5, h⟩ := ab_bnd h
  refine z_callVi 85 [.int a1] [some (.ref 85), some (.int a1)] (pc2 := 32) rfl rfl dX12_getsWet_29 ok_X12_doesNow ⟨fun _ => rfl, fun _ => Nat.le_of_ble_eq_true rfl⟩ rfl rv_85 wd_1133 wd_1135 wd_32 rfl (e_X12_doesNow hq5) ?_
  obtain ⟨x6, hxx6, h⟩ := ab_lt_e h
  refine z_top hxx6 ?_
  refine z_istore_n (pc2 := 33) (L2 := [some (.ref 85), some (.int a1), some (.int x6)]) rfl dX12_getsWet_32 (by decide) rfl rfl ?_
  refine z_iload_n (pc2 := 34) rfl dX12_getsWet_33 rfl ?_
  refine z_iconst (pc2 := 35) rfl dX12_getsWet_34 lt_i_1 ?_
  refine z_icmp_ne (pc2 := 38) (tgt := 61) rfl dX12_getsWet_35 (by decide) (fun hc7 => ?_) (fun hc7 => ?_)
  · replace h := ab_neg hc7 h
    refine z_iload_n (pc2 := 62) rfl dX12_getsWet_61 rfl ?_
    refine z_iconst (pc2 := 63) rfl dX12_getsWet_62 lt_i_2 ?_
    refine z_icmp_ne (pc2 := 66) (tgt := 76) rfl dX12_getsWet_63 (by decide) (fun hc8 => ?_) (fun hc8 => ?_)
    · replace h := ab_neg hc8 h
      refine z_iload_n (pc2 := 77) rfl dX12_getsWet_76 rfl ?_
      refine z_iconst (pc2 := 78) rfl dX12_getsWet_77 lt_i_3 ?_
      refine z_icmp_ne (pc2 := 81) (tgt := 86) rfl dX12_getsWet_78 (by decide) (fun hc9 => ?_) (fun hc9 => ?_)
      · replace h := ab_neg hc9 h
        exact z_vret dX12_getsWet_86 rfl (fv_w h)
      · replace h := ab_pos hc9 h
        refine z_aload_n (pc2 := 82) rfl dX12_getsWet_81 rfl ?_
        refine z_iload_n (pc2 := 83) rfl dX12_getsWet_82 rfl ?_
        obtain ⟨q10, hq10, h⟩ := ab_bnd h
        refine z_callVv 85 [.int a1] [some (.ref 85), some (.int a1), none, none, none] (pc2 := 86) rfl rfl dX12_getsWet_83 ok_X12_goesAway ⟨fun _ => rfl, fun _ => Nat.le_of_ble_eq_true rfl⟩ rfl rv_85 wd_1243 wd_1245 wd_45 rfl (e_X12_goesAway hq10) ?_
        exact z_vret dX12_getsWet_86 rfl (fv_w h)
    · replace h := ab_pos hc8 h
      refine z_aload_n (pc2 := 67) rfl dX12_getsWet_66 rfl ?_
      refine z_iload_n (pc2 := 68) rfl dX12_getsWet_67 rfl ?_
      refine z_iconst (pc2 := 69) rfl dX12_getsWet_68 lt_i_3 ?_
      refine z_iconst (pc2 := 70) rfl dX12_getsWet_69 lt_i_0 ?_
      obtain ⟨q11, hq11, h⟩ := ab_bnd h
      refine z_callVv 85 [.int a1, .int (3 : Int32), .int (0 : Int32)] [some (.ref 85), some (.int a1), some (.int (3 : Int32)), some (.int (0 : Int32))] (pc2 := 73) rfl rfl dX12_getsWet_70 ok_X12_lays1 ⟨fun _ => rfl, fun _ => Nat.le_of_ble_eq_true rfl⟩ rfl rv_85 wd_1113 wd_1115 wd_28 rfl (e_X12_lays1 hq11) ?_
      refine ab_goto (tgt := 86) dX12_getsWet_73 (by decide) ?_
      exact z_vret dX12_getsWet_86 rfl (fv_w h)
  · replace h := ab_pos hc7 h
    refine z_aload_n (pc2 := 39) rfl dX12_getsWet_38 rfl ?_
    refine z_iload_n (pc2 := 40) rfl dX12_getsWet_39 rfl ?_
    refine z_iconst (pc2 := 41) rfl dX12_getsWet_40 lt_i_3 ?_
    refine z_aload_n (pc2 := 42) rfl dX12_getsWet_41 rfl ?_
    refine z_iload_n (pc2 := 43) rfl dX12_getsWet_42 rfl ?_
    refine z_iconst (pc2 := 44) rfl dX12_getsWet_43 lt_i_3 ?_
    obtain ⟨q12, hq12, h⟩ := ab_bnd h
    refine z_callVi 85 [.int a1, .int (3 : Int32)] [some (.ref 85), some (.int a1), some (.int (3 : Int32))] (pc2 := 47) rfl rfl dX12_getsWet_44 ok_X12_its ⟨fun _ => rfl, fun _ => Nat.le_of_ble_eq_true rfl⟩ rfl rv_85 wd_1129 wd_1131 wd_31 rfl (e_X12_its hq12) ?_
    refine z_iconst (pc2 := 48) rfl dX12_getsWet_47 lt_i_1 ?_
    refine z_iadd (pc2 := 49) rfl dX12_getsWet_48 ?_
    refine z_iconst (pc2 := 50) rfl dX12_getsWet_49 lt_i_0 ?_
    refine z_bipush (pc2 := 52) rfl dX12_getsWet_50 lt_b_20 ?_
    obtain ⟨q13, hq13, h⟩ := ab_bnd h
    refine z_callSi [.int (q12 + (1 : Int32)), .int (0 : Int32), .int (20 : Int32)] [some (.int (q12 + (1 : Int32))), some (.int (0 : Int32)), some (.int (20 : Int32))] (pc2 := 55) rfl rfl dX12_getsWet_52 ok_X12_held ⟨fun _ => rfl, fun _ => Nat.le_of_ble_eq_true rfl⟩ rfl wd_1162 wd_1163 rfl (e_X12_held hq13) ?_
    obtain ⟨q14, hq14, h⟩ := ab_bnd h
    refine z_callVv 85 [.int a1, .int (3 : Int32), .int q13] [some (.ref 85), some (.int a1), some (.int (3 : Int32)), some (.int q13)] (pc2 := 58) rfl rfl dX12_getsWet_55 ok_X12_lays1 ⟨fun _ => rfl, fun _ => Nat.le_of_ble_eq_true rfl⟩ rfl rv_85 wd_1113 wd_1115 wd_28 rfl (e_X12_lays1 hq14) ?_
    refine ab_goto (tgt := 86) dX12_getsWet_58 (by decide) ?_
    exact z_vret dX12_getsWet_86 rfl (fv_w h)
def f_X12_day1_L55 (p2 : Int32) (K : ab_F → Option ab_F) : Nat → Int32 → ab_F → Option ab_F
  | 0, _, _ => none
  | n + 1, u3, σ => (if (16 : Int32) ≤ u3 then (K σ) else (f_X12_flowsFrom u3 σ).bind (fun q9 => ab_lt (u3 + (1 : Int32)) (fun x10 => (f_X12_day1_L55 p2 K n x10 q9))))
set_option maxRecDepth 100000 in
set_option maxHeartbeats 4000000 in
theorem e_X12_day1_L55 {sc : Nat × (Nat → Int32)} {r : Option Nat × Option Nat} {p2 : Int32} {K : ab_F → Option ab_F} {res : ab_F} (hK : ∀ (σ : ab_F), K σ = some res → ab_E mX12_day1 5 sc 72 [some (.ref 85), none, some (.int p2), none] [] (σ, r) (fun v S => v = none ∧ S = (res, r))) : ∀ (n : Nat) (u3 : Int32) (σ : ab_F), f_X12_day1_L55 p2 K n u3 σ = some res → ab_E mX12_day1 5 sc 55 [some (.ref 85), none, some (.int p2), some (.int u3)] [] (σ, r) (fun v S => v = none ∧ S = (res, r)) := by
  intro n
  induction n with
  | zero =>
    intro u3 σ h
    rw [f_X12_day1_L55] at h
    cases h
  | succ n ih =>
    intro u3 σ h
    rw [f_X12_day1_L55] at h
    refine z_iload_n (pc2 := 56) rfl dX12_day1_55 rfl ?_
    refine z_bipush (pc2 := 58) rfl dX12_day1_56 lt_b_16 ?_
    refine z_icmp_ge (pc2 := 61) (tgt := 72) rfl dX12_day1_58 (by decide) (fun hc8 => ?_) (fun hc8 => ?_)
    · replace h := ab_pos hc8 h
      refine z_fgt [true, false, true, false] (L2 := [some (.ref 85), none, some (.int p2), none]) rfl ?_
      exact hK  _ h
    · replace h := ab_neg hc8 h
      refine z_aload_n (pc2 := 62) rfl dX12_day1_61 rfl ?_
      refine z_iload_n (pc2 := 63) rfl dX12_day1_62 rfl ?_
      obtain ⟨q9, hq9, h⟩ := ab_bnd h
      refine z_callVv 85 [.int u3] [some (.ref 85), some (.int u3), none, none, none] (pc2 := 66) rfl rfl dX12_day1_63 ok_X12_flowsFrom ⟨fun _ => rfl, fun _ => Nat.le_of_ble_eq_true rfl⟩ rfl rv_85 wd_1232 wd_1234 wd_43 rfl (e_X12_flowsFrom hq9) ?_
      obtain ⟨x10, hxx10, h⟩ := ab_lt_e h
      refine z_iinc (pc2 := 69) (v := x10) (L2 := [some (.ref 85), none, some (.int p2), some (.int x10)]) rfl dX12_day1_66 rfl (by rw [hxx10]; rfl) (by decide) rfl rfl ?_
      refine ab_goto (tgt := 55) dX12_day1_69 (by decide) ?_
      refine z_fgt [true, false, true, true] (L2 := [some (.ref 85), none, some (.int p2), some (.int x10)]) rfl ?_
      exact ih _ _ h
def f_X12_day1_L48 (K : ab_F → Option ab_F) : Nat → Int32 → ab_F → Option ab_F
  | 0, _, _ => none
  | n + 1, u2, σ => (if (4 : Int32) ≤ u2 then (K σ) else (f_X12_day1_L55 u2 (fun (s11 : ab_F) => ab_lt (u2 + (1 : Int32)) (fun x12 => (f_X12_day1_L48 K n x12 s11))) ab_fu (0 : Int32) σ))
set_option maxRecDepth 100000 in
set_option maxHeartbeats 4000000 in
theorem e_X12_day1_L48 {sc : Nat × (Nat → Int32)} {r : Option Nat × Option Nat} {K : ab_F → Option ab_F} {res : ab_F} (hK : ∀ (σ : ab_F), K σ = some res → ab_E mX12_day1 5 sc 78 [some (.ref 85), none, none, none] [] (σ, r) (fun v S => v = none ∧ S = (res, r))) : ∀ (n : Nat) (u2 : Int32) (σ : ab_F), f_X12_day1_L48 K n u2 σ = some res → ab_E mX12_day1 5 sc 48 [some (.ref 85), none, some (.int u2), none] [] (σ, r) (fun v S => v = none ∧ S = (res, r)) := by
  intro n
  induction n with
  | zero =>
    intro u2 σ h
    rw [f_X12_day1_L48] at h
    cases h
  | succ n ih =>
    intro u2 σ h
    rw [f_X12_day1_L48] at h
    refine z_iload_n (pc2 := 49) rfl dX12_day1_48 rfl ?_
    refine z_iconst (pc2 := 50) rfl dX12_day1_49 lt_i_4 ?_
    refine z_icmp_ge (pc2 := 53) (tgt := 78) rfl dX12_day1_50 (by decide) (fun hc7 => ?_) (fun hc7 => ?_)
    · replace h := ab_pos hc7 h
      refine z_fgt [true, false, false, false] (L2 := [some (.ref 85), none, none, none]) rfl ?_
      exact hK  _ h
    · replace h := ab_neg hc7 h
      refine z_iconst (pc2 := 54) rfl dX12_day1_53 lt_i_0 ?_
      refine z_istore_n (pc2 := 55) (L2 := [some (.ref 85), none, some (.int u2), some (.int (0 : Int32))]) rfl dX12_day1_54 (by decide) rfl rfl ?_
      refine z_fgt [true, false, true, true] (L2 := [some (.ref 85), none, some (.int u2), some (.int (0 : Int32))]) rfl ?_
      refine e_X12_day1_L55 (fun s11 h => ?_) _ _ _ h
      obtain ⟨x12, hxx12, h⟩ := ab_lt_e h
      refine z_iinc (pc2 := 75) (v := x12) (L2 := [some (.ref 85), none, some (.int x12), none]) rfl dX12_day1_72 rfl (by rw [hxx12]; rfl) (by decide) rfl rfl ?_
      refine ab_goto (tgt := 48) dX12_day1_75 (by decide) ?_
      refine z_fgt [true, false, true, false] (L2 := [some (.ref 85), none, some (.int x12), none]) rfl ?_
      exact ih _ _ h
def f_X12_day1_L80 (K : ab_F → Option ab_F) : Nat → Int32 → ab_F → Option ab_F
  | 0, _, _ => none
  | n + 1, u2, σ => (if (σ 86 5) ≤ u2 then (K σ) else (f_X12_isWet u2 σ).bind (fun q15 => (if (ab_b q15) = 0 then ab_lt (u2 + (1 : Int32)) (fun x17 => (f_X12_day1_L80 K n x17 σ)) else (f_X12_getsWet u2 σ).bind (fun q18 => ab_lt (u2 + (1 : Int32)) (fun x19 => (f_X12_day1_L80 K n x19 q18))))))
set_option maxRecDepth 100000 in
set_option maxHeartbeats 4000000 in
theorem e_X12_day1_L80 {sc : Nat × (Nat → Int32)} {r : Option Nat × Option Nat} {K : ab_F → Option ab_F} {res : ab_F} (hK : ∀ (σ : ab_F), K σ = some res → ab_E mX12_day1 5 sc 109 [some (.ref 85), none, none, none] [] (σ, r) (fun v S => v = none ∧ S = (res, r))) : ∀ (n : Nat) (u2 : Int32) (σ : ab_F), f_X12_day1_L80 K n u2 σ = some res → ab_E mX12_day1 5 sc 80 [some (.ref 85), none, some (.int u2), none] [] (σ, r) (fun v S => v = none ∧ S = (res, r)) := by
  intro n
  induction n with
  | zero =>
    intro u2 σ h
    rw [f_X12_day1_L80] at h
    cases h
  | succ n ih =>
    intro u2 σ h
    rw [f_X12_day1_L80] at h
    refine z_iload_n (pc2 := 81) rfl dX12_day1_80 rfl ?_
    refine z_aload_n (pc2 := 82) rfl dX12_day1_81 rfl ?_
    refine z_getR 85 12 0 86 (pc2 := 85) rfl dX12_day1_82 rfl rfl ff_12_0 wd_977 rfl ?_
    refine z_iconst (pc2 := 86) rfl dX12_day1_85 lt_i_5 ?_
    refine z_iald 86 (pc2 := 87) (j := 5) rfl dX12_day1_86 rfl rfl (by decide) (by decide) ?_
    refine z_icmp_ge (pc2 := 90) (tgt := 109) rfl dX12_day1_87 (by decide) (fun hc14 => ?_) (fun hc14 => ?_)
    · replace h := ab_pos hc14 h
      refine z_fgt [true, false, false, false] (L2 := [some (.ref 85), none, none, none]) rfl ?_
      exact hK  _ h
    · replace h := ab_neg hc14 h
      refine z_aload_n (pc2 := 91) rfl dX12_day1_90 rfl ?_
      refine z_iload_n (pc2 := 92) rfl dX12_day1_91 rfl ?_
      obtain ⟨q15, hq15, h⟩ := ab_bnd h
      refine z_callVi 85 [.int u2] [some (.ref 85), some (.int u2)] (pc2 := 95) rfl rfl dX12_day1_92 ok_X12_isWet ⟨fun _ => rfl, fun _ => Nat.le_of_ble_eq_true rfl⟩ rfl rv_85 wd_1125 wd_1127 wd_30 rfl (e_X12_isWet hq15) ?_
      refine z_if_eq (pc2 := 98) (tgt := 103) rfl dX12_day1_95 (by decide) (fun hc16 => ?_) (fun hc16 => ?_)
      · replace h := ab_pos hc16 h
        obtain ⟨x17, hxx17, h⟩ := ab_lt_e h
        refine z_iinc (pc2 := 106) (v := x17) (L2 := [some (.ref 85), none, some (.int x17), none]) rfl dX12_day1_103 rfl (by rw [hxx17]; rfl) (by decide) rfl rfl ?_
        refine ab_goto (tgt := 80) dX12_day1_106 (by decide) ?_
        refine z_fgt [true, false, true, false] (L2 := [some (.ref 85), none, some (.int x17), none]) rfl ?_
        exact ih _ _ h
      · replace h := ab_neg hc16 h
        refine z_aload_n (pc2 := 99) rfl dX12_day1_98 rfl ?_
        refine z_iload_n (pc2 := 100) rfl dX12_day1_99 rfl ?_
        obtain ⟨q18, hq18, h⟩ := ab_bnd h
        refine z_callVv 85 [.int u2] [some (.ref 85), some (.int u2), none] (pc2 := 103) rfl rfl dX12_day1_100 ok_X12_getsWet ⟨fun _ => rfl, fun _ => Nat.le_of_ble_eq_true rfl⟩ rfl rv_85 wd_1239 wd_1241 wd_44 rfl (e_X12_getsWet hq18) ?_
        obtain ⟨x19, hxx19, h⟩ := ab_lt_e h
        refine z_iinc (pc2 := 106) (v := x19) (L2 := [some (.ref 85), none, some (.int x19), none]) rfl dX12_day1_103 rfl (by rw [hxx19]; rfl) (by decide) rfl rfl ?_
        refine ab_goto (tgt := 80) dX12_day1_106 (by decide) ?_
        refine z_fgt [true, false, true, false] (L2 := [some (.ref 85), none, some (.int x19), none]) rfl ?_
        exact ih _ _ h
def f_X12_day1 (σ : ab_F) : Option ab_F := ab_lt (((28 : Int32) + (σ 86 1))) (fun x1 => ab_ck (ab_ib x1 450) (ab_ck (ab_ib ((6 : Int32) + ((σ 86 0) - (σ 86 0) / (6 : Int32) * (6 : Int32))) 450) ((f_X12_held ((σ 86 (x1).toNatClampNeg) + (σ 86 (((6 : Int32) + ((σ 86 0) - (σ 86 0) / (6 : Int32) * (6 : Int32)))).toNatClampNeg)) (0 : Int32) (99 : Int32) σ).bind (fun q4 => ab_ck (ab_ib x1 450) (ab_lt (ab_u σ 86 (x1).toNatClampNeg q4) (fun (s6 : ab_F) => (f_X12_day1_L48 (fun (s13 : ab_F) => (f_X12_day1_L80 (fun (s20 : ab_F) => ab_lt (ab_u s20 86 0 ((s20 86 0) + (1 : Int32))) (fun (s21 : ab_F) => (some s21))) ab_fu (0 : Int32) s13)) ab_fu (0 : Int32) s6)))))))
set_option maxRecDepth 100000 in
set_option maxHeartbeats 4000000 in
theorem e_X12_day1 {sc : Nat × (Nat → Int32)} {r : Option Nat × Option Nat} {σ : ab_F} {res : ab_F} (h : f_X12_day1 σ = some res) : ab_E mX12_day1 5 sc 0 [some (.ref 85), none, none, none] [] (σ, r) (fun v S => v = none ∧ S = (res, r)) := by
  unfold f_X12_day1 at h
  refine z_bipush (pc2 := 2) rfl dX12_day1_0 lt_b_28 ?_
  refine z_aload_n (pc2 := 3) rfl dX12_day1_2 rfl ?_
  refine z_getR 85 12 0 86 (pc2 := 6) rfl dX12_day1_3 rfl rfl ff_12_0 wd_977 rfl ?_
  refine z_iconst (pc2 := 7) rfl dX12_day1_6 lt_i_1 ?_
  refine z_iald 86 (pc2 := 8) (j := 1) rfl dX12_day1_7 rfl rfl (by decide) (by decide) ?_
  refine z_iadd (pc2 := 9) rfl dX12_day1_8 ?_
  obtain ⟨x1, hxx1, h⟩ := ab_lt_e h
  refine z_top hxx1 ?_
  refine z_istore_n (pc2 := 10) (L2 := [some (.ref 85), some (.int x1), none, none]) rfl dX12_day1_9 (by decide) rfl rfl ?_
  refine z_aload_n (pc2 := 11) rfl dX12_day1_10 rfl ?_
  refine z_getR 85 12 0 86 (pc2 := 14) rfl dX12_day1_11 rfl rfl ff_12_0 wd_977 rfl ?_
  refine z_iload_n (pc2 := 15) rfl dX12_day1_14 rfl ?_
  refine z_aload_n (pc2 := 16) rfl dX12_day1_15 rfl ?_
  refine z_getR 85 12 0 86 (pc2 := 19) rfl dX12_day1_16 rfl rfl ff_12_0 wd_977 rfl ?_
  refine z_iload_n (pc2 := 20) rfl dX12_day1_19 rfl ?_
  obtain ⟨hb2, h⟩ := ab_ck_e h
  refine z_iald 86 (pc2 := 21) (j := (x1).toNatClampNeg) rfl dX12_day1_20 rfl rfl hb2 rfl ?_
  refine z_aload_n (pc2 := 22) rfl dX12_day1_21 rfl ?_
  refine z_getR 85 12 0 86 (pc2 := 25) rfl dX12_day1_22 rfl rfl ff_12_0 wd_977 rfl ?_
  refine z_bipush (pc2 := 27) rfl dX12_day1_25 lt_b_6 ?_
  refine z_aload_n (pc2 := 28) rfl dX12_day1_27 rfl ?_
  refine z_getR 85 12 0 86 (pc2 := 31) rfl dX12_day1_28 rfl rfl ff_12_0 wd_977 rfl ?_
  refine z_iconst (pc2 := 32) rfl dX12_day1_31 lt_i_0 ?_
  refine z_iald 86 (pc2 := 33) (j := 0) rfl dX12_day1_32 rfl rfl (by decide) (by decide) ?_
  refine z_bipush (pc2 := 35) rfl dX12_day1_33 lt_b_6 ?_
  refine z_irem (pc2 := 36) rfl dX12_day1_35 (by decide) ?_
  refine z_iadd (pc2 := 37) rfl dX12_day1_36 ?_
  obtain ⟨hb3, h⟩ := ab_ck_e h
  refine z_iald 86 (pc2 := 38) (j := (((6 : Int32) + ((σ 86 0) - (σ 86 0) / (6 : Int32) * (6 : Int32)))).toNatClampNeg) rfl dX12_day1_37 rfl rfl hb3 rfl ?_
  refine z_iadd (pc2 := 39) rfl dX12_day1_38 ?_
  refine z_iconst (pc2 := 40) rfl dX12_day1_39 lt_i_0 ?_
  refine z_bipush (pc2 := 42) rfl dX12_day1_40 lt_b_99 ?_
  obtain ⟨q4, hq4, h⟩ := ab_bnd h
  refine z_callSi [.int ((σ 86 (x1).toNatClampNeg) + (σ 86 (((6 : Int32) + ((σ 86 0) - (σ 86 0) / (6 : Int32) * (6 : Int32)))).toNatClampNeg)), .int (0 : Int32), .int (99 : Int32)] [some (.int ((σ 86 (x1).toNatClampNeg) + (σ 86 (((6 : Int32) + ((σ 86 0) - (σ 86 0) / (6 : Int32) * (6 : Int32)))).toNatClampNeg))), some (.int (0 : Int32)), some (.int (99 : Int32))] (pc2 := 45) rfl rfl dX12_day1_42 ok_X12_held ⟨fun _ => rfl, fun _ => Nat.le_of_ble_eq_true rfl⟩ rfl wd_1162 wd_1163 rfl (e_X12_held hq4) ?_
  obtain ⟨hb5, h⟩ := ab_ck_e h
  refine z_iast 86 (pc2 := 46) (j := (x1).toNatClampNeg) rfl dX12_day1_45 rfl rfl hb5 rfl ?_
  obtain ⟨s6, hs6, h⟩ := ab_lt_e h
  refine z_tops hs6 ?_
  refine z_iconst (pc2 := 47) rfl dX12_day1_46 lt_i_0 ?_
  refine z_istore_n (pc2 := 48) (L2 := [some (.ref 85), some (.int x1), some (.int (0 : Int32)), none]) rfl dX12_day1_47 (by decide) rfl rfl ?_
  refine z_fgt [true, false, true, false] (L2 := [some (.ref 85), none, some (.int (0 : Int32)), none]) rfl ?_
  refine e_X12_day1_L48 (fun s13 h => ?_) _ _ _ h
  refine z_iconst (pc2 := 79) rfl dX12_day1_78 lt_i_0 ?_
  refine z_istore_n (pc2 := 80) (L2 := [some (.ref 85), none, some (.int (0 : Int32)), none]) rfl dX12_day1_79 (by decide) rfl rfl ?_
  refine z_fgt [true, false, true, false] (L2 := [some (.ref 85), none, some (.int (0 : Int32)), none]) rfl ?_
  refine e_X12_day1_L80 (fun s20 h => ?_) _ _ _ h
  refine z_aload_n (pc2 := 110) rfl dX12_day1_109 rfl ?_
  refine z_getR 85 12 0 86 (pc2 := 113) rfl dX12_day1_110 rfl rfl ff_12_0 wd_977 rfl ?_
  refine z_iconst (pc2 := 114) rfl dX12_day1_113 lt_i_0 ?_
  refine z_dup2 (pc2 := 115) rfl dX12_day1_114 rfl rfl ?_
  refine z_iald 86 (pc2 := 116) (j := 0) rfl dX12_day1_115 rfl rfl (by decide) (by decide) ?_
  refine z_iconst (pc2 := 117) rfl dX12_day1_116 lt_i_1 ?_
  refine z_iadd (pc2 := 118) rfl dX12_day1_117 ?_
  refine z_iast 86 (pc2 := 119) (j := 0) rfl dX12_day1_118 rfl rfl (by decide) (by decide) ?_
  obtain ⟨s21, hs21, h⟩ := ab_lt_e h
  refine z_tops hs21 ?_
  exact z_vret dX12_day1_119 rfl (fv_w h)
