set_option maxRecDepth 100000 in
set_option maxHeartbeats 4000000 in
theorem e_X7_gives_35 {sc : Nat × (Nat → Int32)} {r : Option Nat × Option Nat} {a1 : Int32} {a2 : Int32} {a3 : Int32} {σ : ab_F} {res : (Int32 × ab_F)} (h : f_X7_gives 35 a1 a2 a3 σ = some res) : ab_E mX7_gives 1 sc 0 [some (.ref 35), some (.int a1), some (.int a2), some (.int a3), none, none, none] [] (σ, r) (fun v S => v = some (.int res.1) ∧ S = (res.2, r)) := by
  unfold f_X7_gives at h
  refine z_iconst (pc2 := 1) rfl dX7_gives_0 lt_i_m1 ?_
  refine z_istore (pc2 := 3) (L2 := [some (.ref 35), some (.int a1), some (.int a2), some (.int a3), some (.int (-1 : Int32)), none, none]) rfl dX7_gives_1 (by decide) rfl rfl ?_
  refine z_iconst (pc2 := 4) rfl dX7_gives_3 lt_i_0 ?_
  refine z_istore (pc2 := 6) (L2 := [some (.ref 35), some (.int a1), some (.int a2), some (.int a3), some (.int (-1 : Int32)), some (.int (0 : Int32)), none]) rfl dX7_gives_4 (by decide) rfl rfl ?_
  refine z_fgt [true, true, true, true, true, true, false] (L2 := [some (.ref 35), some (.int a1), some (.int a2), some (.int a3), some (.int (-1 : Int32)), some (.int (0 : Int32)), none]) rfl ?_
  refine e_X7_gives_35_L6 (fun s78 h => ?_) _ _ _ _ h
  refine z_aload_n (pc2 := 165) rfl dX7_gives_164 rfl ?_
  refine z_getR 35 7 2 37 (pc2 := 168) rfl dX7_gives_165 rfl rfl ff_7_2 wd_123 rfl ?_
  refine z_iconst (pc2 := 169) rfl dX7_gives_168 lt_i_0 ?_
  refine z_iald 37 (pc2 := 170) (j := 0) rfl dX7_gives_169 rfl rfl (by decide) (by decide) ?_
  exact z_iret dX7_gives_170 rfl rfl (fi_w h)
def f_X9_madeBy (w : Nat) (a1 : Int32) (a2 : Int32) (a3 : Int32) (σ : ab_F) : Option (Int32 × ab_F) := (if (σ 35 0) ≤ 0 then (f_J9_min_7cf53 (20 : Int32) a1 σ).bind (fun q2 => (f_J9_max_7cf53 (0 : Int32) q2 σ).bind (fun q3 => (some (q3, σ)))) else (f_X7_gives 35 a1 a2 a3 σ).bind (fun q4 => ab_lt (q4.1) (fun x5 => (f_J9_min_7cf53 (20 : Int32) x5 q4.2).bind (fun q6 => (f_J9_max_7cf53 (0 : Int32) q6 q4.2).bind (fun q7 => (some (q7, q4.2)))))))
set_option maxRecDepth 100000 in
set_option maxHeartbeats 4000000 in
theorem e_X9_madeBy_38 {sc : Nat × (Nat → Int32)} {r : Option Nat × Option Nat} {a1 : Int32} {a2 : Int32} {a3 : Int32} {σ : ab_F} {res : (Int32 × ab_F)} (h : f_X9_madeBy 38 a1 a2 a3 σ = some res) : ab_E mX9_madeBy 2 sc 0 [some (.ref 38), some (.int a1), some (.int a2), some (.int a3), none] [] (σ, r) (fun v S => v = some (.int res.1) ∧ S = (res.2, r)) := by
  unfold f_X9_madeBy at h
  refine z_aload_n (pc2 := 1) rfl dX9_madeBy_0 rfl ?_
  refine z_getR 38 9 2 35 (pc2 := 4) rfl dX9_madeBy_1 rfl rfl ff_9_2 wd_232 rfl ?_
  refine z_getI 35 7 0 (pc2 := 7) rfl dX9_madeBy_4 rfl rfl ff_7_0 wd_121 ?_
  refine z_if_le (pc2 := 10) (tgt := 23) rfl dX9_madeBy_7 (by decide) (fun hc1 => ?_) (fun hc1 => ?_)
  · replace h := ab_pos hc1 h
    refine z_iload_n (pc2 := 24) rfl dX9_madeBy_23 rfl ?_
    refine z_istore (pc2 := 26) (L2 := [some (.ref 38), some (.int a1), some (.int a2), some (.int a3), some (.int a1)]) rfl dX9_madeBy_24 (by decide) rfl rfl ?_
    refine z_iconst (pc2 := 27) rfl dX9_madeBy_26 lt_i_0 ?_
    refine z_bipush (pc2 := 29) rfl dX9_madeBy_27 lt_b_20 ?_
    refine z_iload (pc2 := 31) rfl dX9_madeBy_29 rfl ?_
    obtain ⟨q2, hq2, h⟩ := ab_bnd h
    refine z_callSi [.int (20 : Int32), .int a1] [some (.int (20 : Int32)), some (.int a1)] (pc2 := 34) rfl rfl dX9_madeBy_31 ok_J9_min_7cf53 ⟨fun _ => rfl, fun _ => Nat.le_of_ble_eq_true rfl⟩ rfl wd_458 wd_459 rfl (e_J9_min_7cf53 hq2) ?_
    obtain ⟨q3, hq3, h⟩ := ab_bnd h
    refine z_callSi [.int (0 : Int32), .int q2] [some (.int (0 : Int32)), some (.int q2)] (pc2 := 37) rfl rfl dX9_madeBy_34 ok_J9_max_7cf53 ⟨fun _ => rfl, fun _ => Nat.le_of_ble_eq_true rfl⟩ rfl wd_461 wd_462 rfl (e_J9_max_7cf53 hq3) ?_
    exact z_iret dX9_madeBy_37 rfl rfl (fi_w h)
  · replace h := ab_neg hc1 h
    refine z_aload_n (pc2 := 11) rfl dX9_madeBy_10 rfl ?_
    refine z_getR 38 9 2 35 (pc2 := 14) rfl dX9_madeBy_11 rfl rfl ff_9_2 wd_232 rfl ?_
    refine z_iload_n (pc2 := 15) rfl dX9_madeBy_14 rfl ?_
    refine z_iload_n (pc2 := 16) rfl dX9_madeBy_15 rfl ?_
    refine z_iload_n (pc2 := 17) rfl dX9_madeBy_16 rfl ?_
    obtain ⟨q4, hq4, h⟩ := ab_bnd h
    refine z_callVi 35 [.int a1, .int a2, .int a3] [some (.ref 35), some (.int a1), some (.int a2), some (.int a3), none, none, none] (pc2 := 20) rfl rfl dX9_madeBy_17 ok_X7_gives ⟨fun _ => rfl, fun _ => Nat.le_of_ble_eq_true rfl⟩ rfl rv_35 wd_412 wd_413 wd_414 rfl (e_X7_gives_35 hq4) ?_
    refine ab_goto (tgt := 24) dX9_madeBy_20 (by decide) ?_
    obtain ⟨x5, hxx5, h⟩ := ab_lt_e h
    refine z_top hxx5 ?_
    refine z_istore (pc2 := 26) (L2 := [some (.ref 38), some (.int a1), some (.int a2), some (.int a3), some (.int x5)]) rfl dX9_madeBy_24 (by decide) rfl rfl ?_
    refine z_iconst (pc2 := 27) rfl dX9_madeBy_26 lt_i_0 ?_
    refine z_bipush (pc2 := 29) rfl dX9_madeBy_27 lt_b_20 ?_
    refine z_iload (pc2 := 31) rfl dX9_madeBy_29 rfl ?_
    obtain ⟨q6, hq6, h⟩ := ab_bnd h
    refine z_callSi [.int (20 : Int32), .int x5] [some (.int (20 : Int32)), some (.int x5)] (pc2 := 34) rfl rfl dX9_madeBy_31 ok_J9_min_7cf53 ⟨fun _ => rfl, fun _ => Nat.le_of_ble_eq_true rfl⟩ rfl wd_458 wd_459 rfl (e_J9_min_7cf53 hq6) ?_
    obtain ⟨q7, hq7, h⟩ := ab_bnd h
    refine z_callSi [.int (0 : Int32), .int q6] [some (.int (0 : Int32)), some (.int q6)] (pc2 := 37) rfl rfl dX9_madeBy_34 ok_J9_max_7cf53 ⟨fun _ => rfl, fun _ => Nat.le_of_ble_eq_true rfl⟩ rfl wd_461 wd_462 rfl (e_J9_max_7cf53 hq7) ?_
    exact z_iret dX9_madeBy_37 rfl rfl (fi_w h)
def f_X2_tall_26 (w : Nat) (a2 : Int32) (σ : ab_F) : Option Int32 := (some (6 : Int32))
set_option maxRecDepth 100000 in
set_option maxHeartbeats 4000000 in
theorem e_X2_tall_26_38 {sc : Nat × (Nat → Int32)} {r : Option Nat × Option Nat} {a2 : Int32} {σ : ab_F} {res : Int32} (h : f_X2_tall_26 38 a2 σ = some res) : ab_E mX2_tall 0 sc 0 [some (.ref 26), some (.ref 38), some (.int a2)] [] (σ, r) (fun v S => v = some (.int res) ∧ S = (σ, r)) := by
  unfold f_X2_tall_26 at h
  refine z_bipush (pc2 := 2) rfl dX2_tall_0 lt_b_6 ?_
  exact z_iret dX2_tall_2 rfl rfl (fi_p h)
def f_X5_tall_26 (w : Nat) (a2 : Int32) (σ : ab_F) : Option Int32 := (f_X2_tall_26 w a2 σ).bind (fun q1 => (some (q1 + (2 : Int32))))
set_option maxRecDepth 100000 in
set_option maxHeartbeats 4000000 in
theorem e_X5_tall_26_38 {sc : Nat × (Nat → Int32)} {r : Option Nat × Option Nat} {a2 : Int32} {σ : ab_F} {res : Int32} (h : f_X5_tall_26 38 a2 σ = some res) : ab_E mX5_tall 1 sc 0 [some (.ref 26), some (.ref 38), some (.int a2)] [] (σ, r) (fun v S => v = some (.int res) ∧ S = (σ, r)) := by
  unfold f_X5_tall_26 at h
  refine z_aload_n (pc2 := 1) rfl dX5_tall_0 rfl ?_
  refine z_aload_n (pc2 := 2) rfl dX5_tall_1 rfl ?_
  refine z_iload_n (pc2 := 3) rfl dX5_tall_2 rfl ?_
  obtain ⟨q1, hq1, h⟩ := ab_bnd h
  refine z_callUi RX5 RX2 yX2_tall 26 [.ref 38, .int a2] [some (.ref 26), some (.ref 38), some (.int a2)] (pc2 := 6) rfl rfl dX5_tall_3 ok_X2_tall ⟨fun _ => rfl, fun _ => Nat.le_of_ble_eq_true rfl⟩ rfl rv_26 wd_443 wd_429 wd_186 (Or.inl rfl) wd_427 (by decide) rfl (e_X2_tall_26_38 hq1) ?_
  refine z_iconst (pc2 := 7) rfl dX5_tall_6 lt_i_2 ?_
  refine z_iadd (pc2 := 8) rfl dX5_tall_7 ?_
  exact z_iret dX5_tall_8 rfl rfl (fi_p h)
def f_X2_tall_27 (w : Nat) (a2 : Int32) (σ : ab_F) : Option Int32 := (some (6 : Int32))
set_option maxRecDepth 100000 in
set_option maxHeartbeats 4000000 in
theorem e_X2_tall_27_38 {sc : Nat × (Nat → Int32)} {r : Option Nat × Option Nat} {a2 : Int32} {σ : ab_F} {res : Int32} (h : f_X2_tall_27 38 a2 σ = some res) : ab_E mX2_tall 0 sc 0 [some (.ref 27), some (.ref 38), some (.int a2)] [] (σ, r) (fun v S => v = some (.int res) ∧ S = (σ, r)) := by
  unfold f_X2_tall_27 at h
  refine z_bipush (pc2 := 2) rfl dX2_tall_0 lt_b_6 ?_
  exact z_iret dX2_tall_2 rfl rfl (fi_p h)
def f_X10_tall_27 (w : Nat) (a2 : Int32) (σ : ab_F) : Option Int32 := (f_X2_tall_27 w a2 σ).bind (fun q1 => ab_ck (ab_ib a2 8) ((some (q1 - ((σ (w + 7) (a2).toNatClampNeg) / (2 : Int32))))))
set_option maxRecDepth 100000 in
set_option maxHeartbeats 4000000 in
theorem e_X10_tall_27_38 {sc : Nat × (Nat → Int32)} {r : Option Nat × Option Nat} {a2 : Int32} {σ : ab_F} {res : Int32} (h : f_X10_tall_27 38 a2 σ = some res) : ab_E mX10_tall 1 sc 0 [some (.ref 27), some (.ref 38), some (.int a2)] [] (σ, r) (fun v S => v = some (.int res) ∧ S = (σ, r)) := by
  unfold f_X10_tall_27 at h
  refine z_aload_n (pc2 := 1) rfl dX10_tall_0 rfl ?_
  refine z_aload_n (pc2 := 2) rfl dX10_tall_1 rfl ?_
  refine z_iload_n (pc2 := 3) rfl dX10_tall_2 rfl ?_
  obtain ⟨q1, hq1, h⟩ := ab_bnd h
  refine z_callUi RX10 RX2 yX2_tall 27 [.ref 38, .int a2] [some (.ref 27), some (.ref 38), some (.int a2)] (pc2 := 6) rfl rfl dX10_tall_3 ok_X2_tall ⟨fun _ => rfl, fun _ => Nat.le_of_ble_eq_true rfl⟩ rfl rv_27 wd_436 wd_429 wd_193 (Or.inl rfl) wd_427 (by decide) rfl (e_X2_tall_27_38 hq1) ?_
  refine z_aload_n (pc2 := 7) rfl dX10_tall_6 rfl ?_
  refine z_getR 38 9 13 45 (pc2 := 10) rfl dX10_tall_7 rfl rfl ff_9_13 wd_256 rfl ?_
  refine z_iload_n (pc2 := 11) rfl dX10_tall_10 rfl ?_
  obtain ⟨hb2, h⟩ := ab_ck_e h
  refine z_iald 45 (pc2 := 12) (j := (a2).toNatClampNeg) rfl dX10_tall_11 rfl rfl hb2 rfl ?_
  refine z_iconst (pc2 := 13) rfl dX10_tall_12 lt_i_2 ?_
  refine z_idiv (pc2 := 14) rfl dX10_tall_13 (by decide) ?_
  refine z_isub (pc2 := 15) rfl dX10_tall_14 ?_
  exact z_iret dX10_tall_15 rfl rfl (fi_p h)
def f_X3_tall_28 (w : Nat) (a2 : Int32) (σ : ab_F) : Option Int32 := (some (0 : Int32))
set_option maxRecDepth 100000 in
set_option maxHeartbeats 4000000 in
theorem e_X3_tall_28_38 {sc : Nat × (Nat → Int32)} {r : Option Nat × Option Nat} {a2 : Int32} {σ : ab_F} {res : Int32} (h : f_X3_tall_28 38 a2 σ = some res) : ab_E mX3_tall 0 sc 0 [some (.ref 28), some (.ref 38), some (.int a2)] [] (σ, r) (fun v S => v = some (.int res) ∧ S = (σ, r)) := by
  unfold f_X3_tall_28 at h
  refine z_iconst (pc2 := 1) rfl dX3_tall_0 lt_i_0 ?_
  exact z_iret dX3_tall_1 rfl rfl (fi_p h)
def f_X2_tall_29 (w : Nat) (a2 : Int32) (σ : ab_F) : Option Int32 := (some (6 : Int32))
set_option maxRecDepth 100000 in
set_option maxHeartbeats 4000000 in
theorem e_X2_tall_29_38 {sc : Nat × (Nat → Int32)} {r : Option Nat × Option Nat} {a2 : Int32} {σ : ab_F} {res : Int32} (h : f_X2_tall_29 38 a2 σ = some res) : ab_E mX2_tall 0 sc 0 [some (.ref 29), some (.ref 38), some (.int a2)] [] (σ, r) (fun v S => v = some (.int res) ∧ S = (σ, r)) := by
  unfold f_X2_tall_29 at h
  refine z_bipush (pc2 := 2) rfl dX2_tall_0 lt_b_6 ?_
  exact z_iret dX2_tall_2 rfl rfl (fi_p h)
def f_X5_tall_29 (w : Nat) (a2 : Int32) (σ : ab_F) : Option Int32 := (f_X2_tall_29 w a2 σ).bind (fun q1 => (some (q1 + (2 : Int32))))
set_option maxRecDepth 100000 in
set_option maxHeartbeats 4000000 in
theorem e_X5_tall_29_38 {sc : Nat × (Nat → Int32)} {r : Option Nat × Option Nat} {a2 : Int32} {σ : ab_F} {res : Int32} (h : f_X5_tall_29 38 a2 σ = some res) : ab_E mX5_tall 1 sc 0 [some (.ref 29), some (.ref 38), some (.int a2)] [] (σ, r) (fun v S => v = some (.int res) ∧ S = (σ, r)) := by
  unfold f_X5_tall_29 at h
  refine z_aload_n (pc2 := 1) rfl dX5_tall_0 rfl ?_
  refine z_aload_n (pc2 := 2) rfl dX5_tall_1 rfl ?_
  refine z_iload_n (pc2 := 3) rfl dX5_tall_2 rfl ?_
  obtain ⟨q1, hq1, h⟩ := ab_bnd h
  refine z_callUi RX1 RX2 yX2_tall 29 [.ref 38, .int a2] [some (.ref 29), some (.ref 38), some (.int a2)] (pc2 := 6) rfl rfl dX5_tall_3 ok_X2_tall ⟨fun _ => rfl, fun _ => Nat.le_of_ble_eq_true rfl⟩ rfl rv_29 wd_443 wd_429 wd_186 (Or.inl rfl) wd_427 (by decide) rfl (e_X2_tall_29_38 hq1) ?_
  refine z_iconst (pc2 := 7) rfl dX5_tall_6 lt_i_2 ?_
  refine z_iadd (pc2 := 8) rfl dX5_tall_7 ?_
  exact z_iret dX5_tall_8 rfl rfl (fi_p h)
def f_X1_tall_29 (w : Nat) (a2 : Int32) (σ : ab_F) : Option Int32 := (f_X5_tall_29 w a2 σ).bind (fun q1 => ab_ck (ab_ib a2 8) ((some (q1 + (σ (w + 7) (a2).toNatClampNeg)))))
set_option maxRecDepth 100000 in
set_option maxHeartbeats 4000000 in
theorem e_X1_tall_29_38 {sc : Nat × (Nat → Int32)} {r : Option Nat × Option Nat} {a2 : Int32} {σ : ab_F} {res : Int32} (h : f_X1_tall_29 38 a2 σ = some res) : ab_E mX1_tall 2 sc 0 [some (.ref 29), some (.ref 38), some (.int a2)] [] (σ, r) (fun v S => v = some (.int res) ∧ S = (σ, r)) := by
  unfold f_X1_tall_29 at h
  refine z_aload_n (pc2 := 1) rfl dX1_tall_0 rfl ?_
  refine z_aload_n (pc2 := 2) rfl dX1_tall_1 rfl ?_
  refine z_iload_n (pc2 := 3) rfl dX1_tall_2 rfl ?_
  obtain ⟨q1, hq1, h⟩ := ab_bnd h
  refine z_callUi RX1 RX5 yX5_tall 29 [.ref 38, .int a2] [some (.ref 29), some (.ref 38), some (.int a2)] (pc2 := 6) rfl rfl dX1_tall_3 ok_X5_tall ⟨fun _ => rfl, fun _ => Nat.le_of_ble_eq_true rfl⟩ rfl rv_29 wd_440 wd_1425 wd_207 (Or.inl rfl) wd_441 (by decide) rfl (e_X5_tall_29_38 hq1) ?_
  refine z_aload_n (pc2 := 7) rfl dX1_tall_6 rfl ?_
  refine z_getR 38 9 13 45 (pc2 := 10) rfl dX1_tall_7 rfl rfl ff_9_13 wd_257 rfl ?_
  refine z_iload_n (pc2 := 11) rfl dX1_tall_10 rfl ?_
  obtain ⟨hb2, h⟩ := ab_ck_e h
  refine z_iald 45 (pc2 := 12) (j := (a2).toNatClampNeg) rfl dX1_tall_11 rfl rfl hb2 rfl ?_
  refine z_iadd (pc2 := 13) rfl dX1_tall_12 ?_
  exact z_iret dX1_tall_13 rfl rfl (fi_p h)
def f_X2_tall_30 (w : Nat) (a2 : Int32) (σ : ab_F) : Option Int32 := (some (6 : Int32))
set_option maxRecDepth 100000 in
set_option maxHeartbeats 4000000 in
theorem e_X2_tall_30_38 {sc : Nat × (Nat → Int32)} {r : Option Nat × Option Nat} {a2 : Int32} {σ : ab_F} {res : Int32} (h : f_X2_tall_30 38 a2 σ = some res) : ab_E mX2_tall 0 sc 0 [some (.ref 30), some (.ref 38), some (.int a2)] [] (σ, r) (fun v S => v = some (.int res) ∧ S = (σ, r)) := by
  unfold f_X2_tall_30 at h
  refine z_bipush (pc2 := 2) rfl dX2_tall_0 lt_b_6 ?_
  exact z_iret dX2_tall_2 rfl rfl (fi_p h)
def f_X10_tall_30 (w : Nat) (a2 : Int32) (σ : ab_F) : Option Int32 := (f_X2_tall_30 w a2 σ).bind (fun q1 => ab_ck (ab_ib a2 8) ((some (q1 - ((σ (w + 7) (a2).toNatClampNeg) / (2 : Int32))))))
set_option maxRecDepth 100000 in
set_option maxHeartbeats 4000000 in
theorem e_X10_tall_30_38 {sc : Nat × (Nat → Int32)} {r : Option Nat × Option Nat} {a2 : Int32} {σ : ab_F} {res : Int32} (h : f_X10_tall_30 38 a2 σ = some res) : ab_E mX10_tall 1 sc 0 [some (.ref 30), some (.ref 38), some (.int a2)] [] (σ, r) (fun v S => v = some (.int res) ∧ S = (σ, r)) := by
  unfold f_X10_tall_30 at h
  refine z_aload_n (pc2 := 1) rfl dX10_tall_0 rfl ?_
  refine z_aload_n (pc2 := 2) rfl dX10_tall_1 rfl ?_
  refine z_iload_n (pc2 := 3) rfl dX10_tall_2 rfl ?_
  obtain ⟨q1, hq1, h⟩ := ab_bnd h
  refine z_callUi RX0 RX2 yX2_tall 30 [.ref 38, .int a2] [some (.ref 30), some (.ref 38), some (.int a2)] (pc2 := 6) rfl rfl dX10_tall_3 ok_X2_tall ⟨fun _ => rfl, fun _ => Nat.le_of_ble_eq_true rfl⟩ rfl rv_30 wd_436 wd_429 wd_193 (Or.inl rfl) wd_427 (by decide) rfl (e_X2_tall_30_38 hq1) ?_
  refine z_aload_n (pc2 := 7) rfl dX10_tall_6 rfl ?_
  refine z_getR 38 9 13 45 (pc2 := 10) rfl dX10_tall_7 rfl rfl ff_9_13 wd_256 rfl ?_
  refine z_iload_n (pc2 := 11) rfl dX10_tall_10 rfl ?_
  obtain ⟨hb2, h⟩ := ab_ck_e h
  refine z_iald 45 (pc2 := 12) (j := (a2).toNatClampNeg) rfl dX10_tall_11 rfl rfl hb2 rfl ?_
  refine z_iconst (pc2 := 13) rfl dX10_tall_12 lt_i_2 ?_
  refine z_idiv (pc2 := 14) rfl dX10_tall_13 (by decide) ?_
  refine z_isub (pc2 := 15) rfl dX10_tall_14 ?_
  exact z_iret dX10_tall_15 rfl rfl (fi_p h)
def f_X0_tall_30 (w : Nat) (a2 : Int32) (σ : ab_F) : Option Int32 := (f_X10_tall_30 w a2 σ).bind (fun q1 => (some (q1 / (2 : Int32))))
set_option maxRecDepth 100000 in
set_option maxHeartbeats 4000000 in
theorem e_X0_tall_30_38 {sc : Nat × (Nat → Int32)} {r : Option Nat × Option Nat} {a2 : Int32} {σ : ab_F} {res : Int32} (h : f_X0_tall_30 38 a2 σ = some res) : ab_E mX0_tall 2 sc 0 [some (.ref 30), some (.ref 38), some (.int a2)] [] (σ, r) (fun v S => v = some (.int res) ∧ S = (σ, r)) := by
  unfold f_X0_tall_30 at h
  refine z_aload_n (pc2 := 1) rfl dX0_tall_0 rfl ?_
  refine z_aload_n (pc2 := 2) rfl dX0_tall_1 rfl ?_
  refine z_iload_n (pc2 := 3) rfl dX0_tall_2 rfl ?_
  obtain ⟨q1, hq1, h⟩ := ab_bnd h
  refine z_callUi RX0 RX10 yX10_tall 30 [.ref 38, .int a2] [some (.ref 30), some (.ref 38), some (.int a2)] (pc2 := 6) rfl rfl dX0_tall_3 ok_X10_tall ⟨fun _ => rfl, fun _ => Nat.le_of_ble_eq_true rfl⟩ rfl rv_30 wd_433 wd_1424 wd_214 (Or.inl rfl) wd_434 (by decide) rfl (e_X10_tall_30_38 hq1) ?_
  refine z_iconst (pc2 := 7) rfl dX0_tall_6 lt_i_2 ?_
  refine z_idiv (pc2 := 8) rfl dX0_tall_7 (by decide) ?_
  exact z_iret dX0_tall_8 rfl rfl (fi_p h)
def f_X4_tall_31 (w : Nat) (a2 : Int32) (σ : ab_F) : Option Int32 := ab_ck (ab_ib a2 8) ((f_J6_bitCount_0f7a4 (σ (w + 10) (a2).toNatClampNeg) σ).bind (fun q2 => (some q2)))
set_option maxRecDepth 100000 in
set_option maxHeartbeats 4000000 in
theorem e_X4_tall_31_38 {sc : Nat × (Nat → Int32)} {r : Option Nat × Option Nat} {a2 : Int32} {σ : ab_F} {res : Int32} (h : f_X4_tall_31 38 a2 σ = some res) : ab_E mX4_tall 1 sc 0 [some (.ref 31), some (.ref 38), some (.int a2)] [] (σ, r) (fun v S => v = some (.int res) ∧ S = (σ, r)) := by
  unfold f_X4_tall_31 at h
  refine z_aload_n (pc2 := 1) rfl dX4_tall_0 rfl ?_
  refine z_getR 38 9 16 48 (pc2 := 4) rfl dX4_tall_1 rfl rfl ff_9_16 wd_265 rfl ?_
  refine z_iload_n (pc2 := 5) rfl dX4_tall_4 rfl ?_
  obtain ⟨hb1, h⟩ := ab_ck_e h
  refine z_iald 48 (pc2 := 6) (j := (a2).toNatClampNeg) rfl dX4_tall_5 rfl rfl hb1 rfl ?_
  obtain ⟨q2, hq2, h⟩ := ab_bnd h
  refine z_callSi [.int (σ (38 + 10) (a2).toNatClampNeg)] [some (.int (σ (38 + 10) (a2).toNatClampNeg))] (pc2 := 9) rfl rfl dX4_tall_6 ok_J6_bitCount_0f7a4 ⟨fun _ => rfl, fun _ => Nat.le_of_ble_eq_true rfl⟩ rfl wd_450 wd_386 rfl (e_J6_bitCount_0f7a4 hq2) ?_
  exact z_iret dX4_tall_9 rfl rfl (fi_p h)
def f_X9_made (w : Nat) (a1 : Int32) (σ : ab_F) : Option (Int32 × ab_F) := ab_ck (ab_ib a1 8) ((if (σ (w + 6) (a1).toNatClampNeg) = (0 : Int32) then (f_X2_tall_25 w a1 σ).bind (fun q2 => ab_ck (ab_ib a1 8) (ab_ck (ab_ib (σ (w + 8) (a1).toNatClampNeg) 16) ((f_X9_madeBy w q2 (σ (w + 1) ((σ (w + 8) (a1).toNatClampNeg)).toNatClampNeg) ((σ w 3) - (σ w 3) / (8 : Int32) * (8 : Int32)) σ).bind (fun q5 => (some (q5.1, q5.2)))))) else if (σ (w + 6) (a1).toNatClampNeg) = (1 : Int32) then (f_X5_tall_26 w a1 σ).bind (fun q7 => ab_ck (ab_ib a1 8) (ab_ck (ab_ib (σ (w + 8) (a1).toNatClampNeg) 16) ((f_X9_madeBy w q7 (σ (w + 1) ((σ (w + 8) (a1).toNatClampNeg)).toNatClampNeg) ((σ w 3) - (σ w 3) / (8 : Int32) * (8 : Int32)) σ).bind (fun q10 => (some (q10.1, q10.2)))))) else if (σ (w + 6) (a1).toNatClampNeg) = (2 : Int32) then (f_X10_tall_27 w a1 σ).bind (fun q12 => ab_ck (ab_ib a1 8) (ab_ck (ab_ib (σ (w + 8) (a1).toNatClampNeg) 16) ((f_X9_madeBy w q12 (σ (w + 1) ((σ (w + 8) (a1).toNatClampNeg)).toNatClampNeg) ((σ w 3) - (σ w 3) / (8 : Int32) * (8 : Int32)) σ).bind (fun q15 => (some (q15.1, q15.2)))))) else if (σ (w + 6) (a1).toNatClampNeg) = (3 : Int32) then (f_X3_tall_28 w a1 σ).bind (fun q17 => ab_ck (ab_ib a1 8) (ab_ck (ab_ib (σ (w + 8) (a1).toNatClampNeg) 16) ((f_X9_madeBy w q17 (σ (w + 1) ((σ (w + 8) (a1).toNatClampNeg)).toNatClampNeg) ((σ w 3) - (σ w 3) / (8 : Int32) * (8 : Int32)) σ).bind (fun q20 => (some (q20.1, q20.2)))))) else if (σ (w + 6) (a1).toNatClampNeg) = (4 : Int32) then (f_X1_tall_29 w a1 σ).bind (fun q22 => ab_ck (ab_ib a1 8) (ab_ck (ab_ib (σ (w + 8) (a1).toNatClampNeg) 16) ((f_X9_madeBy w q22 (σ (w + 1) ((σ (w + 8) (a1).toNatClampNeg)).toNatClampNeg) ((σ w 3) - (σ w 3) / (8 : Int32) * (8 : Int32)) σ).bind (fun q25 => (some (q25.1, q25.2)))))) else if (σ (w + 6) (a1).toNatClampNeg) = (5 : Int32) then (f_X0_tall_30 w a1 σ).bind (fun q27 => ab_ck (ab_ib a1 8) (ab_ck (ab_ib (σ (w + 8) (a1).toNatClampNeg) 16) ((f_X9_madeBy w q27 (σ (w + 1) ((σ (w + 8) (a1).toNatClampNeg)).toNatClampNeg) ((σ w 3) - (σ w 3) / (8 : Int32) * (8 : Int32)) σ).bind (fun q30 => (some (q30.1, q30.2)))))) else if (σ (w + 6) (a1).toNatClampNeg) = (6 : Int32) then (f_X4_tall_31 w a1 σ).bind (fun q32 => ab_ck (ab_ib a1 8) (ab_ck (ab_ib (σ (w + 8) (a1).toNatClampNeg) 16) ((f_X9_madeBy w q32 (σ (w + 1) ((σ (w + 8) (a1).toNatClampNeg)).toNatClampNeg) ((σ w 3) - (σ w 3) / (8 : Int32) * (8 : Int32)) σ).bind (fun q35 => (some (q35.1, q35.2)))))) else none))
set_option maxRecDepth 100000 in
set_option maxHeartbeats 4000000 in
theorem e_X9_made_38 {sc : Nat × (Nat → Int32)} {r : Option Nat × Option Nat} {a1 : Int32} {σ : ab_F} {res : (Int32 × ab_F)} (h : f_X9_made 38 a1 σ = some res) : ab_E mX9_made 3 sc 0 [some (.ref 38), some (.int a1)] [] (σ, r) (fun v S => v = some (.int res.1) ∧ S = (res.2, r)) := by
  unfold f_X9_made at h
  refine z_aload_n (pc2 := 1) rfl dX9_made_0 rfl ?_
  refine z_aload_n (pc2 := 2) rfl dX9_made_1 rfl ?_
  refine z_getR 38 9 0 24 (pc2 := 5) rfl dX9_made_2 rfl rfl ff_9_0 wd_228 rfl ?_
  refine z_aload_n (pc2 := 6) rfl dX9_made_5 rfl ?_
  refine z_getR 38 9 12 44 (pc2 := 9) rfl dX9_made_6 rfl rfl ff_9_12 wd_252 rfl ?_
  refine z_iload_n (pc2 := 10) rfl dX9_made_9 rfl ?_
  obtain ⟨hb1, h⟩ := ab_ck_e h
  refine z_iald 44 (pc2 := 11) (j := (a1).toNatClampNeg) rfl dX9_made_10 rfl rfl hb1 rfl ?_
  by_cases hi6 : (σ (38 + 6) (a1).toNatClampNeg) = (0 : Int32)
  · replace h := ab_pos hi6 h
    refine z_aaldG 24 25 (pc2 := 12) rfl dX9_made_11 rfl rfl (by rw [hi6]; rfl) (by rw [hi6]; rfl) ?_
    refine z_aload_n (pc2 := 13) rfl dX9_made_12 rfl ?_
    refine z_iload_n (pc2 := 14) rfl dX9_made_13 rfl ?_
    obtain ⟨q2, hq2, h⟩ := ab_bnd h
    refine z_callVi 25 [.ref 38, .int a1] [some (.ref 25), some (.ref 38), some (.int a1)] (pc2 := 17) rfl rfl dX9_made_14 ok_X2_tall ⟨fun _ => rfl, fun _ => Nat.le_of_ble_eq_true rfl⟩ rfl rv_25 wd_426 wd_427 wd_428 rfl (e_X2_tall_25_38 hq2) ?_
    refine z_aload_n (pc2 := 18) rfl dX9_made_17 rfl ?_
    refine z_getR 38 9 6 39 (pc2 := 21) rfl dX9_made_18 rfl rfl ff_9_6 wd_241 rfl ?_
    refine z_aload_n (pc2 := 22) rfl dX9_made_21 rfl ?_
    refine z_getR 38 9 14 46 (pc2 := 25) rfl dX9_made_22 rfl rfl ff_9_14 wd_259 rfl ?_
    refine z_iload_n (pc2 := 26) rfl dX9_made_25 rfl ?_
    obtain ⟨hb3, h⟩ := ab_ck_e h
    refine z_iald 46 (pc2 := 27) (j := (a1).toNatClampNeg) rfl dX9_made_26 rfl rfl hb3 rfl ?_
    obtain ⟨hb4, h⟩ := ab_ck_e h
    refine z_iald 39 (pc2 := 28) (j := ((σ (38 + 8) (a1).toNatClampNeg)).toNatClampNeg) rfl dX9_made_27 rfl rfl hb4 rfl ?_
    refine z_aload_n (pc2 := 29) rfl dX9_made_28 rfl ?_
    refine z_getI 38 9 3 (pc2 := 32) rfl dX9_made_29 rfl rfl ff_9_3 wd_235 ?_
    refine z_bipush (pc2 := 34) rfl dX9_made_32 lt_b_8 ?_
    refine z_irem (pc2 := 35) rfl dX9_made_34 (by decide) ?_
    obtain ⟨q5, hq5, h⟩ := ab_bnd h
    refine z_callVi 38 [.int q2, .int (σ (38 + 1) ((σ (38 + 8) (a1).toNatClampNeg)).toNatClampNeg), .int ((σ 38 3) - (σ 38 3) / (8 : Int32) * (8 : Int32))] [some (.ref 38), some (.int q2), some (.int (σ (38 + 1) ((σ (38 + 8) (a1).toNatClampNeg)).toNatClampNeg)), some (.int ((σ 38 3) - (σ 38 3) / (8 : Int32) * (8 : Int32))), none] (pc2 := 38) rfl rfl dX9_made_35 ok_X9_madeBy ⟨fun _ => rfl, fun _ => Nat.le_of_ble_eq_true rfl⟩ rfl rv_38 wd_454 wd_455 wd_456 rfl (e_X9_madeBy_38 hq5) ?_
    exact z_iret dX9_made_38 rfl rfl (fi_w h)
  · replace h := ab_neg hi6 h
    by_cases hi11 : (σ (38 + 6) (a1).toNatClampNeg) = (1 : Int32)
    · replace h := ab_pos hi11 h
      refine z_aaldG 24 26 (pc2 := 12) rfl dX9_made_11 rfl rfl (by rw [hi11]; rfl) (by rw [hi11]; rfl) ?_
      refine z_aload_n (pc2 := 13) rfl dX9_made_12 rfl ?_
      refine z_iload_n (pc2 := 14) rfl dX9_made_13 rfl ?_
      obtain ⟨q7, hq7, h⟩ := ab_bnd h
      refine z_callOi RX5 RX2 yX2_tall cX2_tall 3 (some .int) 26 [.ref 38, .int a1] [some (.ref 26), some (.ref 38), some (.int a1)] (pc2 := 17) rfl rfl dX9_made_14 ok_X5_tall ⟨fun _ => rfl, fun _ => Nat.le_of_ble_eq_true rfl⟩ rfl rv_26 wd_426 wd_429 wd_427 wd_451 wd_441 wd_453 ⟨by decide, by decide, rfl⟩ rfl (e_X5_tall_26_38 hq7) ?_
      refine z_aload_n (pc2 := 18) rfl dX9_made_17 rfl ?_
      refine z_getR 38 9 6 39 (pc2 := 21) rfl dX9_made_18 rfl rfl ff_9_6 wd_241 rfl ?_
      refine z_aload_n (pc2 := 22) rfl dX9_made_21 rfl ?_
      refine z_getR 38 9 14 46 (pc2 := 25) rfl dX9_made_22 rfl rfl ff_9_14 wd_259 rfl ?_
      refine z_iload_n (pc2 := 26) rfl dX9_made_25 rfl ?_
      obtain ⟨hb8, h⟩ := ab_ck_e h
      refine z_iald 46 (pc2 := 27) (j := (a1).toNatClampNeg) rfl dX9_made_26 rfl rfl hb8 rfl ?_
      obtain ⟨hb9, h⟩ := ab_ck_e h
      refine z_iald 39 (pc2 := 28) (j := ((σ (38 + 8) (a1).toNatClampNeg)).toNatClampNeg) rfl dX9_made_27 rfl rfl hb9 rfl ?_
      refine z_aload_n (pc2 := 29) rfl dX9_made_28 rfl ?_
      refine z_getI 38 9 3 (pc2 := 32) rfl dX9_made_29 rfl rfl ff_9_3 wd_235 ?_
      refine z_bipush (pc2 := 34) rfl dX9_made_32 lt_b_8 ?_
      refine z_irem (pc2 := 35) rfl dX9_made_34 (by decide) ?_
      obtain ⟨q10, hq10, h⟩ := ab_bnd h
      refine z_callVi 38 [.int q7, .int (σ (38 + 1) ((σ (38 + 8) (a1).toNatClampNeg)).toNatClampNeg), .int ((σ 38 3) - (σ 38 3) / (8 : Int32) * (8 : Int32))] [some (.ref 38), some (.int q7), some (.int (σ (38 + 1) ((σ (38 + 8) (a1).toNatClampNeg)).toNatClampNeg)), some (.int ((σ 38 3) - (σ 38 3) / (8 : Int32) * (8 : Int32))), none] (pc2 := 38) rfl rfl dX9_made_35 ok_X9_madeBy ⟨fun _ => rfl, fun _ => Nat.le_of_ble_eq_true rfl⟩ rfl rv_38 wd_454 wd_455 wd_456 rfl (e_X9_madeBy_38 hq10) ?_
      exact z_iret dX9_made_38 rfl rfl (fi_w h)
    · replace h := ab_neg hi11 h
      by_cases hi16 : (σ (38 + 6) (a1).toNatClampNeg) = (2 : Int32)
      · replace h := ab_pos hi16 h
        refine z_aaldG 24 27 (pc2 := 12) rfl dX9_made_11 rfl rfl (by rw [hi16]; rfl) (by rw [hi16]; rfl) ?_
        refine z_aload_n (pc2 := 13) rfl dX9_made_12 rfl ?_
        refine z_iload_n (pc2 := 14) rfl dX9_made_13 rfl ?_
        obtain ⟨q12, hq12, h⟩ := ab_bnd h
        refine z_callOi RX10 RX2 yX2_tall cX2_tall 3 (some .int) 27 [.ref 38, .int a1] [some (.ref 27), some (.ref 38), some (.int a1)] (pc2 := 17) rfl rfl dX9_made_14 ok_X10_tall ⟨fun _ => rfl, fun _ => Nat.le_of_ble_eq_true rfl⟩ rfl rv_27 wd_426 wd_429 wd_427 wd_452 wd_434 wd_453 ⟨by decide, by decide, rfl⟩ rfl (e_X10_tall_27_38 hq12) ?_
        refine z_aload_n (pc2 := 18) rfl dX9_made_17 rfl ?_
        refine z_getR 38 9 6 39 (pc2 := 21) rfl dX9_made_18 rfl rfl ff_9_6 wd_241 rfl ?_
        refine z_aload_n (pc2 := 22) rfl dX9_made_21 rfl ?_
        refine z_getR 38 9 14 46 (pc2 := 25) rfl dX9_made_22 rfl rfl ff_9_14 wd_259 rfl ?_
        refine z_iload_n (pc2 := 26) rfl dX9_made_25 rfl ?_
        obtain ⟨hb13, h⟩ := ab_ck_e h
        refine z_iald 46 (pc2 := 27) (j := (a1).toNatClampNeg) rfl dX9_made_26 rfl rfl hb13 rfl ?_
        obtain ⟨hb14, h⟩ := ab_ck_e h
        refine z_iald 39 (pc2 := 28) (j := ((σ (38 + 8) (a1).toNatClampNeg)).toNatClampNeg) rfl dX9_made_27 rfl rfl hb14 rfl ?_
        refine z_aload_n (pc2 := 29) rfl dX9_made_28 rfl ?_
        refine z_getI 38 9 3 (pc2 := 32) rfl dX9_made_29 rfl rfl ff_9_3 wd_235 ?_
        refine z_bipush (pc2 := 34) rfl dX9_made_32 lt_b_8 ?_
        refine z_irem (pc2 := 35) rfl dX9_made_34 (by decide) ?_
        obtain ⟨q15, hq15, h⟩ := ab_bnd h
        refine z_callVi 38 [.int q12, .int (σ (38 + 1) ((σ (38 + 8) (a1).toNatClampNeg)).toNatClampNeg), .int ((σ 38 3) - (σ 38 3) / (8 : Int32) * (8 : Int32))] [some (.ref 38), some (.int q12), some (.int (σ (38 + 1) ((σ (38 + 8) (a1).toNatClampNeg)).toNatClampNeg)), some (.int ((σ 38 3) - (σ 38 3) / (8 : Int32) * (8 : Int32))), none] (pc2 := 38) rfl rfl dX9_made_35 ok_X9_madeBy ⟨fun _ => rfl, fun _ => Nat.le_of_ble_eq_true rfl⟩ rfl rv_38 wd_454 wd_455 wd_456 rfl (e_X9_madeBy_38 hq15) ?_
        exact z_iret dX9_made_38 rfl rfl (fi_w h)
      · replace h := ab_neg hi16 h
        by_cases hi21 : (σ (38 + 6) (a1).toNatClampNeg) = (3 : Int32)
        · replace h := ab_pos hi21 h
          refine z_aaldG 24 28 (pc2 := 12) rfl dX9_made_11 rfl rfl (by rw [hi21]; rfl) (by rw [hi21]; rfl) ?_
          refine z_aload_n (pc2 := 13) rfl dX9_made_12 rfl ?_
          refine z_iload_n (pc2 := 14) rfl dX9_made_13 rfl ?_
          obtain ⟨q17, hq17, h⟩ := ab_bnd h
          refine z_callOi RX3 RX2 yX2_tall cX2_tall 3 (some .int) 28 [.ref 38, .int a1] [some (.ref 28), some (.ref 38), some (.int a1)] (pc2 := 17) rfl rfl dX9_made_14 ok_X3_tall ⟨fun _ => rfl, fun _ => Nat.le_of_ble_eq_true rfl⟩ rfl rv_28 wd_426 wd_429 wd_427 wd_444 wd_445 wd_453 ⟨by decide, by decide, rfl⟩ rfl (e_X3_tall_28_38 hq17) ?_
          refine z_aload_n (pc2 := 18) rfl dX9_made_17 rfl ?_
          refine z_getR 38 9 6 39 (pc2 := 21) rfl dX9_made_18 rfl rfl ff_9_6 wd_241 rfl ?_
          refine z_aload_n (pc2 := 22) rfl dX9_made_21 rfl ?_
          refine z_getR 38 9 14 46 (pc2 := 25) rfl dX9_made_22 rfl rfl ff_9_14 wd_259 rfl ?_
          refine z_iload_n (pc2 := 26) rfl dX9_made_25 rfl ?_
          obtain ⟨hb18, h⟩ := ab_ck_e h
          refine z_iald 46 (pc2 := 27) (j := (a1).toNatClampNeg) rfl dX9_made_26 rfl rfl hb18 rfl ?_
          obtain ⟨hb19, h⟩ := ab_ck_e h
          refine z_iald 39 (pc2 := 28) (j := ((σ (38 + 8) (a1).toNatClampNeg)).toNatClampNeg) rfl dX9_made_27 rfl rfl hb19 rfl ?_
          refine z_aload_n (pc2 := 29) rfl dX9_made_28 rfl ?_
          refine z_getI 38 9 3 (pc2 := 32) rfl dX9_made_29 rfl rfl ff_9_3 wd_235 ?_
          refine z_bipush (pc2 := 34) rfl dX9_made_32 lt_b_8 ?_
          refine z_irem (pc2 := 35) rfl dX9_made_34 (by decide) ?_
          obtain ⟨q20, hq20, h⟩ := ab_bnd h
          refine z_callVi 38 [.int q17, .int (σ (38 + 1) ((σ (38 + 8) (a1).toNatClampNeg)).toNatClampNeg), .int ((σ 38 3) - (σ 38 3) / (8 : Int32) * (8 : Int32))] [some (.ref 38), some (.int q17), some (.int (σ (38 + 1) ((σ (38 + 8) (a1).toNatClampNeg)).toNatClampNeg)), some (.int ((σ 38 3) - (σ 38 3) / (8 : Int32) * (8 : Int32))), none] (pc2 := 38) rfl rfl dX9_made_35 ok_X9_madeBy ⟨fun _ => rfl, fun _ => Nat.le_of_ble_eq_true rfl⟩ rfl rv_38 wd_454 wd_455 wd_456 rfl (e_X9_madeBy_38 hq20) ?_
          exact z_iret dX9_made_38 rfl rfl (fi_w h)
        · replace h := ab_neg hi21 h
          by_cases hi26 : (σ (38 + 6) (a1).toNatClampNeg) = (4 : Int32)
          · replace h := ab_pos hi26 h
            refine z_aaldG 24 29 (pc2 := 12) rfl dX9_made_11 rfl rfl (by rw [hi26]; rfl) (by rw [hi26]; rfl) ?_
            refine z_aload_n (pc2 := 13) rfl dX9_made_12 rfl ?_
            refine z_iload_n (pc2 := 14) rfl dX9_made_13 rfl ?_
            obtain ⟨q22, hq22, h⟩ := ab_bnd h
            refine z_callOi RX1 RX2 yX2_tall cX2_tall 3 (some .int) 29 [.ref 38, .int a1] [some (.ref 29), some (.ref 38), some (.int a1)] (pc2 := 17) rfl rfl dX9_made_14 ok_X1_tall ⟨fun _ => rfl, fun _ => Nat.le_of_ble_eq_true rfl⟩ rfl rv_29 wd_426 wd_429 wd_427 wd_437 wd_438 wd_453 ⟨by decide, by decide, rfl⟩ rfl (e_X1_tall_29_38 hq22) ?_
            refine z_aload_n (pc2 := 18) rfl dX9_made_17 rfl ?_
            refine z_getR 38 9 6 39 (pc2 := 21) rfl dX9_made_18 rfl rfl ff_9_6 wd_241 rfl ?_
            refine z_aload_n (pc2 := 22) rfl dX9_made_21 rfl ?_
            refine z_getR 38 9 14 46 (pc2 := 25) rfl dX9_made_22 rfl rfl ff_9_14 wd_259 rfl ?_
            refine z_iload_n (pc2 := 26) rfl dX9_made_25 rfl ?_
            obtain ⟨hb23, h⟩ := ab_ck_e h
            refine z_iald 46 (pc2 := 27) (j := (a1).toNatClampNeg) rfl dX9_made_26 rfl rfl hb23 rfl ?_
            obtain ⟨hb24, h⟩ := ab_ck_e h
            refine z_iald 39 (pc2 := 28) (j := ((σ (38 + 8) (a1).toNatClampNeg)).toNatClampNeg) rfl dX9_made_27 rfl rfl hb24 rfl ?_
            refine z_aload_n (pc2 := 29) rfl dX9_made_28 rfl ?_
            refine z_getI 38 9 3 (pc2 := 32) rfl dX9_made_29 rfl rfl ff_9_3 wd_235 ?_
            refine z_bipush (pc2 := 34) rfl dX9_made_32 lt_b_8 ?_
            refine z_irem (pc2 := 35) rfl dX9_made_34 (by decide) ?_
            obtain ⟨q25, hq25, h⟩ := ab_bnd h
            refine z_callVi 38 [.int q22, .int (σ (38 + 1) ((σ (38 + 8) (a1).toNatClampNeg)).toNatClampNeg), .int ((σ 38 3) - (σ 38 3) / (8 : Int32) * (8 : Int32))] [some (.ref 38), some (.int q22), some (.int (σ (38 + 1) ((σ (38 + 8) (a1).toNatClampNeg)).toNatClampNeg)), some (.int ((σ 38 3) - (σ 38 3) / (8 : Int32) * (8 : Int32))), none] (pc2 := 38) rfl rfl dX9_made_35 ok_X9_madeBy ⟨fun _ => rfl, fun _ => Nat.le_of_ble_eq_true rfl⟩ rfl rv_38 wd_454 wd_455 wd_456 rfl (e_X9_madeBy_38 hq25) ?_
            exact z_iret dX9_made_38 rfl rfl (fi_w h)
          · replace h := ab_neg hi26 h
            by_cases hi31 : (σ (38 + 6) (a1).toNatClampNeg) = (5 : Int32)
            · replace h := ab_pos hi31 h
              refine z_aaldG 24 30 (pc2 := 12) rfl dX9_made_11 rfl rfl (by rw [hi31]; rfl) (by rw [hi31]; rfl) ?_
              refine z_aload_n (pc2 := 13) rfl dX9_made_12 rfl ?_
              refine z_iload_n (pc2 := 14) rfl dX9_made_13 rfl ?_
              obtain ⟨q27, hq27, h⟩ := ab_bnd h
              refine z_callOi RX0 RX2 yX2_tall cX2_tall 3 (some .int) 30 [.ref 38, .int a1] [some (.ref 30), some (.ref 38), some (.int a1)] (pc2 := 17) rfl rfl dX9_made_14 ok_X0_tall ⟨fun _ => rfl, fun _ => Nat.le_of_ble_eq_true rfl⟩ rfl rv_30 wd_426 wd_429 wd_427 wd_430 wd_431 wd_453 ⟨by decide, by decide, rfl⟩ rfl (e_X0_tall_30_38 hq27) ?_
              refine z_aload_n (pc2 := 18) rfl dX9_made_17 rfl ?_
              refine z_getR 38 9 6 39 (pc2 := 21) rfl dX9_made_18 rfl rfl ff_9_6 wd_241 rfl ?_
              refine z_aload_n (pc2 := 22) rfl dX9_made_21 rfl ?_
              refine z_getR 38 9 14 46 (pc2 := 25) rfl dX9_made_22 rfl rfl ff_9_14 wd_259 rfl ?_
              refine z_iload_n (pc2 := 26) rfl dX9_made_25 rfl ?_
              obtain ⟨hb28, h⟩ := ab_ck_e h
              refine z_iald 46 (pc2 := 27) (j := (a1).toNatClampNeg) rfl dX9_made_26 rfl rfl hb28 rfl ?_
              obtain ⟨hb29, h⟩ := ab_ck_e h
              refine z_iald 39 (pc2 := 28) (j := ((σ (38 + 8) (a1).toNatClampNeg)).toNatClampNeg) rfl dX9_made_27 rfl rfl hb29 rfl ?_
              refine z_aload_n (pc2 := 29) rfl dX9_made_28 rfl ?_
              refine z_getI 38 9 3 (pc2 := 32) rfl dX9_made_29 rfl rfl ff_9_3 wd_235 ?_
              refine z_bipush (pc2 := 34) rfl dX9_made_32 lt_b_8 ?_
              refine z_irem (pc2 := 35) rfl dX9_made_34 (by decide) ?_
              obtain ⟨q30, hq30, h⟩ := ab_bnd h
              refine z_callVi 38 [.int q27, .int (σ (38 + 1) ((σ (38 + 8) (a1).toNatClampNeg)).toNatClampNeg), .int ((σ 38 3) - (σ 38 3) / (8 : Int32) * (8 : Int32))] [some (.ref 38), some (.int q27), some (.int (σ (38 + 1) ((σ (38 + 8) (a1).toNatClampNeg)).toNatClampNeg)), some (.int ((σ 38 3) - (σ 38 3) / (8 : Int32) * (8 : Int32))), none] (pc2 := 38) rfl rfl dX9_made_35 ok_X9_madeBy ⟨fun _ => rfl, fun _ => Nat.le_of_ble_eq_true rfl⟩ rfl rv_38 wd_454 wd_455 wd_456 rfl (e_X9_madeBy_38 hq30) ?_
              exact z_iret dX9_made_38 rfl rfl (fi_w h)
            · replace h := ab_neg hi31 h
              by_cases hi36 : (σ (38 + 6) (a1).toNatClampNeg) = (6 : Int32)
              · replace h := ab_pos hi36 h
                refine z_aaldG 24 31 (pc2 := 12) rfl dX9_made_11 rfl rfl (by rw [hi36]; rfl) (by rw [hi36]; rfl) ?_
                refine z_aload_n (pc2 := 13) rfl dX9_made_12 rfl ?_
                refine z_iload_n (pc2 := 14) rfl dX9_made_13 rfl ?_
                obtain ⟨q32, hq32, h⟩ := ab_bnd h
                refine z_callOi RX4 RX2 yX2_tall cX2_tall 3 (some .int) 31 [.ref 38, .int a1] [some (.ref 31), some (.ref 38), some (.int a1)] (pc2 := 17) rfl rfl dX9_made_14 ok_X4_tall ⟨fun _ => rfl, fun _ => Nat.le_of_ble_eq_true rfl⟩ rfl rv_31 wd_426 wd_429 wd_427 wd_447 wd_448 wd_453 ⟨by decide, by decide, rfl⟩ rfl (e_X4_tall_31_38 hq32) ?_
                refine z_aload_n (pc2 := 18) rfl dX9_made_17 rfl ?_
                refine z_getR 38 9 6 39 (pc2 := 21) rfl dX9_made_18 rfl rfl ff_9_6 wd_241 rfl ?_
                refine z_aload_n (pc2 := 22) rfl dX9_made_21 rfl ?_
                refine z_getR 38 9 14 46 (pc2 := 25) rfl dX9_made_22 rfl rfl ff_9_14 wd_259 rfl ?_
                refine z_iload_n (pc2 := 26) rfl dX9_made_25 rfl ?_
                obtain ⟨hb33, h⟩ := ab_ck_e h
                refine z_iald 46 (pc2 := 27) (j := (a1).toNatClampNeg) rfl dX9_made_26 rfl rfl hb33 rfl ?_
                obtain ⟨hb34, h⟩ := ab_ck_e h
                refine z_iald 39 (pc2 := 28) (j := ((σ (38 + 8) (a1).toNatClampNeg)).toNatClampNeg) rfl dX9_made_27 rfl rfl hb34 rfl ?_
                refine z_aload_n (pc2 := 29) rfl dX9_made_28 rfl ?_
                refine z_getI 38 9 3 (pc2 := 32) rfl dX9_made_29 rfl rfl ff_9_3 wd_235 ?_
                refine z_bipush (pc2 := 34) rfl dX9_made_32 lt_b_8 ?_
                refine z_irem (pc2 := 35) rfl dX9_made_34 (by decide) ?_
                obtain ⟨q35, hq35, h⟩ := ab_bnd h
                refine z_callVi 38 [.int q32, .int (σ (38 + 1) ((σ (38 + 8) (a1).toNatClampNeg)).toNatClampNeg), .int ((σ 38 3) - (σ 38 3) / (8 : Int32) * (8 : Int32))] [some (.ref 38), some (.int q32), some (.int (σ (38 + 1) ((σ (38 + 8) (a1).toNatClampNeg)).toNatClampNeg)), some (.int ((σ 38 3) - (σ 38 3) / (8 : Int32) * (8 : Int32))), none] (pc2 := 38) rfl rfl dX9_made_35 ok_X9_madeBy ⟨fun _ => rfl, fun _ => Nat.le_of_ble_eq_true rfl⟩ rfl rv_38 wd_454 wd_455 wd_456 rfl (e_X9_madeBy_38 hq35) ?_
                exact z_iret dX9_made_38 rfl rfl (fi_w h)
              · replace h := ab_neg hi36 h
                cases h
def f_X11_oneIs (a1 : Int32) (a2 : Int32) (σ : ab_F) : Option (Int32 × ab_F) := (f_X11_nobody a1 σ).bind (fun q1 => (if (ab_b q1) = 0 then (if a2 = (0 : Int32) then ab_ck (ab_ib a1 8) ((some ((σ 44 (a1).toNatClampNeg), σ))) else if a2 = (1 : Int32) then ab_ck (ab_ib a1 8) ((some ((σ 45 (a1).toNatClampNeg), σ))) else if a2 = (2 : Int32) then ab_ck (ab_ib a1 8) ((some ((σ 46 (a1).toNatClampNeg), σ))) else if a2 = (3 : Int32) then ab_ck (ab_ib a1 8) ((some ((σ 47 (a1).toNatClampNeg), σ))) else if a2 = (4 : Int32) then ab_ck (ab_ib a1 8) ((some ((σ 48 (a1).toNatClampNeg), σ))) else if a2 = (5 : Int32) then (f_X9_isWet 38 a1 σ).bind (fun q14 => (if (ab_b q14) = 0 then (some ((0 : Int32), σ)) else (some ((1 : Int32), σ)))) else if a2 = (6 : Int32) then (f_X9_does 38 a1 σ).bind (fun q17 => (some (q17.1, q17.2))) else if a2 = (7 : Int32) then (f_X9_made 38 a1 σ).bind (fun q19 => (some (q19.1, q19.2))) else (f_X11_refuse (1 : Int32) σ).bind (fun q20 => (some (q20.1, q20.2)))) else (f_X11_refuse (1 : Int32) σ).bind (fun q21 => (some (q21.1, q21.2)))))
set_option maxRecDepth 100000 in
set_option maxHeartbeats 4000000 in
theorem e_X11_oneIs {sc : Nat × (Nat → Int32)} {r : Option Nat × Option Nat} {a1 : Int32} {a2 : Int32} {σ : ab_F} {res : (Int32 × ab_F)} (h : f_X11_oneIs a1 a2 σ = some res) : ab_E mX11_oneIs 4 sc 0 [some (.ref 8), some (.int a1), some (.int a2)] [] (σ, r) (fun v S => v = some (.int res.1) ∧ S = (res.2, r)) := by
  unfold f_X11_oneIs at h
  refine z_aload_n (pc2 := 1) rfl dX11_oneIs_0 rfl ?_
  refine z_iload_n (pc2 := 2) rfl dX11_oneIs_1 rfl ?_
  obtain ⟨q1, hq1, h⟩ := ab_bnd h
  refine z_callVi 8 [.int a1] [some (.ref 8), some (.int a1)] (pc2 := 5) rfl rfl dX11_oneIs_2 ok_X11_nobody ⟨fun _ => rfl, fun _ => Nat.le_of_ble_eq_true rfl⟩ rfl rv_8 wd_359 wd_361 wd_1 rfl (e_X11_nobody hq1) ?_
  refine z_if_eq (pc2 := 8) (tgt := 14) rfl dX11_oneIs_5 (by decide) (fun hc2 => ?_) (fun hc2 => ?_)
  · replace h := ab_pos hc2 h
    refine z_iload_n (pc2 := 15) rfl dX11_oneIs_14 rfl ?_
    by_cases hc3 : a2 = (0 : Int32)
    · replace h := ab_pos hc3 h
      refine ab_tsIn (tgt := 60) dX11_oneIs_15 (by rw [hc3]; decide) (by rw [hc3]; decide) (by rw [hc3]; rfl) (by decide) ?_
      refine z_aload_n (pc2 := 61) rfl dX11_oneIs_60 rfl ?_
      refine z_getR 8 11 0 38 (pc2 := 64) rfl dX11_oneIs_61 rfl rfl ff_11_0 wd_302 rfl ?_
      refine z_getR 38 9 12 44 (pc2 := 67) rfl dX11_oneIs_64 rfl rfl ff_9_12 wd_253 rfl ?_
      refine z_iload_n (pc2 := 68) rfl dX11_oneIs_67 rfl ?_
      obtain ⟨hb4, h⟩ := ab_ck_e h
      refine z_iald 44 (pc2 := 69) (j := (a1).toNatClampNeg) rfl dX11_oneIs_68 rfl rfl hb4 rfl ?_
      exact z_iret dX11_oneIs_69 rfl rfl (fi_w h)
    · replace h := ab_neg hc3 h
      by_cases hc5 : a2 = (1 : Int32)
      · replace h := ab_pos hc5 h
        refine ab_tsIn (tgt := 70) dX11_oneIs_15 (by rw [hc5]; decide) (by rw [hc5]; decide) (by rw [hc5]; rfl) (by decide) ?_
        refine z_aload_n (pc2 := 71) rfl dX11_oneIs_70 rfl ?_
        refine z_getR 8 11 0 38 (pc2 := 74) rfl dX11_oneIs_71 rfl rfl ff_11_0 wd_302 rfl ?_
        refine z_getR 38 9 13 45 (pc2 := 77) rfl dX11_oneIs_74 rfl rfl ff_9_13 wd_258 rfl ?_
        refine z_iload_n (pc2 := 78) rfl dX11_oneIs_77 rfl ?_
        obtain ⟨hb6, h⟩ := ab_ck_e h
        refine z_iald 45 (pc2 := 79) (j := (a1).toNatClampNeg) rfl dX11_oneIs_78 rfl rfl hb6 rfl ?_
        exact z_iret dX11_oneIs_79 rfl rfl (fi_w h)
      · replace h := ab_neg hc5 h
        by_cases hc7 : a2 = (2 : Int32)
        · replace h := ab_pos hc7 h
          refine ab_tsIn (tgt := 80) dX11_oneIs_15 (by rw [hc7]; decide) (by rw [hc7]; decide) (by rw [hc7]; rfl) (by decide) ?_
          refine z_aload_n (pc2 := 81) rfl dX11_oneIs_80 rfl ?_
          refine z_getR 8 11 0 38 (pc2 := 84) rfl dX11_oneIs_81 rfl rfl ff_11_0 wd_302 rfl ?_
          refine z_getR 38 9 14 46 (pc2 := 87) rfl dX11_oneIs_84 rfl rfl ff_9_14 wd_260 rfl ?_
          refine z_iload_n (pc2 := 88) rfl dX11_oneIs_87 rfl ?_
          obtain ⟨hb8, h⟩ := ab_ck_e h
          refine z_iald 46 (pc2 := 89) (j := (a1).toNatClampNeg) rfl dX11_oneIs_88 rfl rfl hb8 rfl ?_
          exact z_iret dX11_oneIs_89 rfl rfl (fi_w h)
        · replace h := ab_neg hc7 h
          by_cases hc9 : a2 = (3 : Int32)
          · replace h := ab_pos hc9 h
            refine ab_tsIn (tgt := 90) dX11_oneIs_15 (by rw [hc9]; decide) (by rw [hc9]; decide) (by rw [hc9]; rfl) (by decide) ?_
            refine z_aload_n (pc2 := 91) rfl dX11_oneIs_90 rfl ?_
            refine z_getR 8 11 0 38 (pc2 := 94) rfl dX11_oneIs_91 rfl rfl ff_11_0 wd_302 rfl ?_
            refine z_getR 38 9 15 47 (pc2 := 97) rfl dX11_oneIs_94 rfl rfl ff_9_15 wd_262 rfl ?_
            refine z_iload_n (pc2 := 98) rfl dX11_oneIs_97 rfl ?_
            obtain ⟨hb10, h⟩ := ab_ck_e h
            refine z_iald 47 (pc2 := 99) (j := (a1).toNatClampNeg) rfl dX11_oneIs_98 rfl rfl hb10 rfl ?_
            exact z_iret dX11_oneIs_99 rfl rfl (fi_w h)
          · replace h := ab_neg hc9 h
            by_cases hc11 : a2 = (4 : Int32)
            · replace h := ab_pos hc11 h
              refine ab_tsIn (tgt := 100) dX11_oneIs_15 (by rw [hc11]; decide) (by rw [hc11]; decide) (by rw [hc11]; rfl) (by decide) ?_
              refine z_aload_n (pc2 := 101) rfl dX11_oneIs_100 rfl ?_
              refine z_getR 8 11 0 38 (pc2 := 104) rfl dX11_oneIs_101 rfl rfl ff_11_0 wd_302 rfl ?_
              refine z_getR 38 9 16 48 (pc2 := 107) rfl dX11_oneIs_104 rfl rfl ff_9_16 wd_266 rfl ?_
              refine z_iload_n (pc2 := 108) rfl dX11_oneIs_107 rfl ?_
              obtain ⟨hb12, h⟩ := ab_ck_e h
              refine z_iald 48 (pc2 := 109) (j := (a1).toNatClampNeg) rfl dX11_oneIs_108 rfl rfl hb12 rfl ?_
              exact z_iret dX11_oneIs_109 rfl rfl (fi_w h)
            · replace h := ab_neg hc11 h
              by_cases hc13 : a2 = (5 : Int32)
              · replace h := ab_pos hc13 h
                refine ab_tsIn (tgt := 110) dX11_oneIs_15 (by rw [hc13]; decide) (by rw [hc13]; decide) (by rw [hc13]; rfl) (by decide) ?_
                refine z_aload_n (pc2 := 111) rfl dX11_oneIs_110 rfl ?_
                refine z_getR 8 11 0 38 (pc2 := 114) rfl dX11_oneIs_111 rfl rfl ff_11_0 wd_302 rfl ?_
                refine z_iload_n (pc2 := 115) rfl dX11_oneIs_114 rfl ?_
                obtain ⟨q14, hq14, h⟩ := ab_bnd h
                refine z_callVi 38 [.int a1] [some (.ref 38), some (.int a1)] (pc2 := 118) rfl rfl dX11_oneIs_115 ok_X9_isWet ⟨fun _ => rfl, fun _ => Nat.le_of_ble_eq_true rfl⟩ rfl rv_38 wd_363 wd_364 wd_365 rfl (e_X9_isWet_38 hq14) ?_
                refine z_if_eq (pc2 := 121) (tgt := 125) rfl dX11_oneIs_118 (by decide) (fun hc15 => ?_) (fun hc15 => ?_)
                · replace h := ab_pos hc15 h
                  refine z_iconst (pc2 := 126) rfl dX11_oneIs_125 lt_i_0 ?_
                  exact z_iret dX11_oneIs_126 rfl rfl (fi_w h)
                · replace h := ab_neg hc15 h
                  refine z_iconst (pc2 := 122) rfl dX11_oneIs_121 lt_i_1 ?_
                  refine ab_goto (tgt := 126) dX11_oneIs_122 (by decide) ?_
                  exact z_iret dX11_oneIs_126 rfl rfl (fi_w h)
              · replace h := ab_neg hc13 h
                by_cases hc16 : a2 = (6 : Int32)
                · replace h := ab_pos hc16 h
                  refine ab_tsIn (tgt := 127) dX11_oneIs_15 (by rw [hc16]; decide) (by rw [hc16]; decide) (by rw [hc16]; rfl) (by decide) ?_
                  refine z_aload_n (pc2 := 128) rfl dX11_oneIs_127 rfl ?_
                  refine z_getR 8 11 0 38 (pc2 := 131) rfl dX11_oneIs_128 rfl rfl ff_11_0 wd_302 rfl ?_
                  refine z_iload_n (pc2 := 132) rfl dX11_oneIs_131 rfl ?_
                  obtain ⟨q17, hq17, h⟩ := ab_bnd h
                  refine z_callVi 38 [.int a1] [some (.ref 38), some (.int a1)] (pc2 := 135) rfl rfl dX11_oneIs_132 ok_X9_does ⟨fun _ => rfl, fun _ => Nat.le_of_ble_eq_true rfl⟩ rfl rv_38 wd_367 wd_368 wd_369 rfl (e_X9_does_38 hq17) ?_
                  exact z_iret dX11_oneIs_135 rfl rfl (fi_w h)
                · replace h := ab_neg hc16 h
                  by_cases hc18 : a2 = (7 : Int32)
                  · replace h := ab_pos hc18 h
                    refine ab_tsIn (tgt := 136) dX11_oneIs_15 (by rw [hc18]; decide) (by rw [hc18]; decide) (by rw [hc18]; rfl) (by decide) ?_
                    refine z_aload_n (pc2 := 137) rfl dX11_oneIs_136 rfl ?_
                    refine z_getR 8 11 0 38 (pc2 := 140) rfl dX11_oneIs_137 rfl rfl ff_11_0 wd_302 rfl ?_
                    refine z_iload_n (pc2 := 141) rfl dX11_oneIs_140 rfl ?_
                    obtain ⟨q19, hq19, h⟩ := ab_bnd h
                    refine z_callVi 38 [.int a1] [some (.ref 38), some (.int a1)] (pc2 := 144) rfl rfl dX11_oneIs_141 ok_X9_made ⟨fun _ => rfl, fun _ => Nat.le_of_ble_eq_true rfl⟩ rfl rv_38 wd_422 wd_423 wd_424 rfl (e_X9_made_38 hq19) ?_
                    exact z_iret dX11_oneIs_144 rfl rfl (fi_w h)
                  · replace h := ab_neg hc18 h
                    have thc3 := ab_ne_toInt (k := 0) hc3 (by decide)
                    have thc5 := ab_ne_toInt (k := 1) hc5 (by decide)
                    have thc7 := ab_ne_toInt (k := 2) hc7 (by decide)
                    have thc9 := ab_ne_toInt (k := 3) hc9 (by decide)
                    have thc11 := ab_ne_toInt (k := 4) hc11 (by decide)
                    have thc13 := ab_ne_toInt (k := 5) hc13 (by decide)
                    have thc16 := ab_ne_toInt (k := 6) hc16 (by decide)
                    have thc18 := ab_ne_toInt (k := 7) hc18 (by decide)
                    refine ab_tsOut (tgt := 145) dX11_oneIs_15 (by omega) (by decide) ?_
                    refine z_aload_n (pc2 := 146) rfl dX11_oneIs_145 rfl ?_
                    refine z_iconst (pc2 := 147) rfl dX11_oneIs_146 lt_i_1 ?_
                    obtain ⟨q20, hq20, h⟩ := ab_bnd h
                    refine z_callVi 8 [.int (1 : Int32)] [some (.ref 8), some (.int (1 : Int32))] (pc2 := 150) rfl rfl dX11_oneIs_147 ok_X11_refuse ⟨fun _ => rfl, fun _ => Nat.le_of_ble_eq_true rfl⟩ rfl rv_8 wd_346 wd_348 wd_0 rfl (e_X11_refuse hq20) ?_
                    exact z_iret dX11_oneIs_150 rfl rfl (fi_w h)
  · replace h := ab_neg hc2 h
    refine z_aload_n (pc2 := 9) rfl dX11_oneIs_8 rfl ?_
    refine z_iconst (pc2 := 10) rfl dX11_oneIs_9 lt_i_1 ?_
    obtain ⟨q21, hq21, h⟩ := ab_bnd h
    refine z_callVi 8 [.int (1 : Int32)] [some (.ref 8), some (.int (1 : Int32))] (pc2 := 13) rfl rfl dX11_oneIs_10 ok_X11_refuse ⟨fun _ => rfl, fun _ => Nat.le_of_ble_eq_true rfl⟩ rfl rv_8 wd_346 wd_348 wd_0 rfl (e_X11_refuse hq21) ?_
    exact z_iret dX11_oneIs_13 rfl rfl (fi_w h)
def f_X11_become (a1 : Int32) (a2 : Int32) (σ : ab_F) : Option (Int32 × ab_F) := (f_X11_nobody a1 σ).bind (fun q1 => (if (ab_b q1) = 0 then (f_X11_outside a2 (69 : Int32) σ).bind (fun q4 => (if (ab_b q4) = 0 then ab_ck (ab_ib a1 8) (ab_lt ((σ 44 (a1).toNatClampNeg)) (fun x7 => ab_ck (ab_ib a1 8) (ab_lt (ab_u σ 44 (a1).toNatClampNeg (a2 / (10 : Int32))) (fun (s9 : ab_F) => ab_ck (ab_ib a1 8) (ab_lt (ab_u s9 45 (a1).toNatClampNeg (a2 - a2 / (10 : Int32) * (10 : Int32))) (fun (s11 : ab_F) => (some (x7, s11)))))))) else (f_X11_refuse (1 : Int32) σ).bind (fun q12 => (some (q12.1, q12.2))))) else (f_X11_refuse (1 : Int32) σ).bind (fun q3 => (some (q3.1, q3.2)))))
set_option maxRecDepth 100000 in
set_option maxHeartbeats 4000000 in
theorem e_X11_become {sc : Nat × (Nat → Int32)} {r : Option Nat × Option Nat} {a1 : Int32} {a2 : Int32} {σ : ab_F} {res : (Int32 × ab_F)} (h : f_X11_become a1 a2 σ = some res) : ab_E mX11_become 1 sc 0 [some (.ref 8), some (.int a1), some (.int a2), none] [] (σ, r) (fun v S => v = some (.int res.1) ∧ S = (res.2, r)) := by
  unfold f_X11_become at h
  refine z_aload_n (pc2 := 1) rfl dX11_become_0 rfl ?_
  refine z_iload_n (pc2 := 2) rfl dX11_become_1 rfl ?_
  obtain ⟨q1, hq1, h⟩ := ab_bnd h
  refine z_callVi 8 [.int a1] [some (.ref 8), some (.int a1)] (pc2 := 5) rfl rfl dX11_become_2 ok_X11_nobody ⟨fun _ => rfl, fun _ => Nat.le_of_ble_eq_true rfl⟩ rfl rv_8 wd_359 wd_361 wd_1 rfl (e_X11_nobody hq1) ?_
  refine z_if_ne (pc2 := 8) (tgt := 17) rfl dX11_become_5 (by decide) (fun hc2 => ?_) (fun hc2 => ?_)
  · replace h := ab_neg hc2 h
    refine z_aload_n (pc2 := 18) rfl dX11_become_17 rfl ?_
    refine z_iconst (pc2 := 19) rfl dX11_become_18 lt_i_1 ?_
    obtain ⟨q3, hq3, h⟩ := ab_bnd h
    refine z_callVi 8 [.int (1 : Int32)] [some (.ref 8), some (.int (1 : Int32))] (pc2 := 22) rfl rfl dX11_become_19 ok_X11_refuse ⟨fun _ => rfl, fun _ => Nat.le_of_ble_eq_true rfl⟩ rfl rv_8 wd_346 wd_348 wd_0 rfl (e_X11_refuse hq3) ?_
    exact z_iret dX11_become_22 rfl rfl (fi_w h)
  · replace h := ab_pos hc2 h
    refine z_iload_n (pc2 := 9) rfl dX11_become_8 rfl ?_
    refine z_bipush (pc2 := 11) rfl dX11_become_9 lt_b_69 ?_
    obtain ⟨q4, hq4, h⟩ := ab_bnd h
    refine z_callSi [.int a2, .int (69 : Int32)] [some (.int a2), some (.int (69 : Int32))] (pc2 := 14) rfl rfl dX11_become_11 ok_X11_outside ⟨fun _ => rfl, fun _ => Nat.le_of_ble_eq_true rfl⟩ rfl wd_343 wd_344 rfl (e_X11_outside hq4) ?_
    refine z_if_eq (pc2 := 17) (tgt := 23) rfl dX11_become_14 (by decide) (fun hc5 => ?_) (fun hc5 => ?_)
    · replace h := ab_pos hc5 h
      refine z_aload_n (pc2 := 24) rfl dX11_become_23 rfl ?_
      refine z_getR 8 11 0 38 (pc2 := 27) rfl dX11_become_24 rfl rfl ff_11_0 wd_302 rfl ?_
      refine z_getR 38 9 12 44 (pc2 := 30) rfl dX11_become_27 rfl rfl ff_9_12 wd_253 rfl ?_
      refine z_iload_n (pc2 := 31) rfl dX11_become_30 rfl ?_
      obtain ⟨hb6, h⟩ := ab_ck_e h
      refine z_iald 44 (pc2 := 32) (j := (a1).toNatClampNeg) rfl dX11_become_31 rfl rfl hb6 rfl ?_
      obtain ⟨x7, hxx7, h⟩ := ab_lt_e h
      refine z_top hxx7 ?_
      refine z_istore_n (pc2 := 33) (L2 := [some (.ref 8), some (.int a1), some (.int a2), some (.int x7)]) rfl dX11_become_32 (by decide) rfl rfl ?_
      refine z_aload_n (pc2 := 34) rfl dX11_become_33 rfl ?_
      refine z_getR 8 11 0 38 (pc2 := 37) rfl dX11_become_34 rfl rfl ff_11_0 wd_302 rfl ?_
      refine z_getR 38 9 12 44 (pc2 := 40) rfl dX11_become_37 rfl rfl ff_9_12 wd_253 rfl ?_
      refine z_iload_n (pc2 := 41) rfl dX11_become_40 rfl ?_
      refine z_iload_n (pc2 := 42) rfl dX11_become_41 rfl ?_
      refine z_bipush (pc2 := 44) rfl dX11_become_42 lt_b_10 ?_
      refine z_idiv (pc2 := 45) rfl dX11_become_44 (by decide) ?_
      obtain ⟨hb8, h⟩ := ab_ck_e h
      refine z_iast 44 (pc2 := 46) (j := (a1).toNatClampNeg) rfl dX11_become_45 rfl rfl hb8 rfl ?_
      obtain ⟨s9, hs9, h⟩ := ab_lt_e h
      refine z_tops hs9 ?_
      refine z_aload_n (pc2 := 47) rfl dX11_become_46 rfl ?_
      refine z_getR 8 11 0 38 (pc2 := 50) rfl dX11_become_47 rfl rfl ff_11_0 wd_302 rfl ?_
      refine z_getR 38 9 13 45 (pc2 := 53) rfl dX11_become_50 rfl rfl ff_9_13 wd_258 rfl ?_
      refine z_iload_n (pc2 := 54) rfl dX11_become_53 rfl ?_
      refine z_iload_n (pc2 := 55) rfl dX11_become_54 rfl ?_
      refine z_bipush (pc2 := 57) rfl dX11_become_55 lt_b_10 ?_
      refine z_irem (pc2 := 58) rfl dX11_become_57 (by decide) ?_
      obtain ⟨hb10, h⟩ := ab_ck_e h
      refine z_iast 45 (pc2 := 59) (j := (a1).toNatClampNeg) rfl dX11_become_58 rfl rfl hb10 rfl ?_
      obtain ⟨s11, hs11, h⟩ := ab_lt_e h
      refine z_tops hs11 ?_
      refine z_iload_n (pc2 := 60) rfl dX11_become_59 rfl ?_
      exact z_iret dX11_become_60 rfl rfl (fi_w h)
    · replace h := ab_neg hc5 h
      refine z_aload_n (pc2 := 18) rfl dX11_become_17 rfl ?_
      refine z_iconst (pc2 := 19) rfl dX11_become_18 lt_i_1 ?_
      obtain ⟨q12, hq12, h⟩ := ab_bnd h
      refine z_callVi 8 [.int (1 : Int32)] [some (.ref 8), some (.int (1 : Int32))] (pc2 := 22) rfl rfl dX11_become_19 ok_X11_refuse ⟨fun _ => rfl, fun _ => Nat.le_of_ble_eq_true rfl⟩ rfl rv_8 wd_346 wd_348 wd_0 rfl (e_X11_refuse hq12) ?_
      exact z_iret dX11_become_22 rfl rfl (fi_w h)
def f_X11_isUnder_25 (a1 : Int32) (σ : ab_F) : Option Bool := (if a1 = (0 : Int32) then (some true) else if a1 = (1 : Int32) then (some false) else if a1 = (2 : Int32) then (some false) else if a1 = (3 : Int32) then (some false) else if a1 = (4 : Int32) then (some false) else if a1 = (5 : Int32) then (some false) else (some false))
set_option maxRecDepth 100000 in
set_option maxHeartbeats 4000000 in
theorem e_X11_isUnder_25 {sc : Nat × (Nat → Int32)} {r : Option Nat × Option Nat} {a1 : Int32} {σ : ab_F} {res : Bool} (h : f_X11_isUnder_25 a1 σ = some res) : ab_E mX11_isUnder 0 sc 0 [some (.ref 25), some (.int a1)] [] (σ, r) (fun v S => v = some (.int (ab_b res)) ∧ S = (σ, r)) := by
  unfold f_X11_isUnder_25 at h
  refine z_iload_n (pc2 := 1) rfl dX11_isUnder_0 rfl ?_
  by_cases hc1 : a1 = (0 : Int32)
  · replace h := ab_pos hc1 h
    refine ab_tsIn (tgt := 40) dX11_isUnder_1 (by rw [hc1]; decide) (by rw [hc1]; decide) (by rw [hc1]; rfl) (by decide) ?_
    refine z_iconst (pc2 := 41) rfl dX11_isUnder_40 lt_i_1 ?_
    exact z_iret dX11_isUnder_41 rfl rfl (fz_p rfl h)
  · replace h := ab_neg hc1 h
    by_cases hc2 : a1 = (1 : Int32)
    · replace h := ab_pos hc2 h
      refine ab_tsIn (tgt := 42) dX11_isUnder_1 (by rw [hc2]; decide) (by rw [hc2]; decide) (by rw [hc2]; rfl) (by decide) ?_
      refine z_aload_n (pc2 := 43) rfl dX11_isUnder_42 rfl ?_
      refine z_instN 25 2 (pc2 := 46) rfl dX11_isUnder_43 rfl rfl rfl (by decide) wd_180 ?_
      exact z_iret dX11_isUnder_46 rfl rfl (fz_p rfl h)
    · replace h := ab_neg hc2 h
      by_cases hc3 : a1 = (2 : Int32)
      · replace h := ab_pos hc3 h
        refine ab_tsIn (tgt := 47) dX11_isUnder_1 (by rw [hc3]; decide) (by rw [hc3]; decide) (by rw [hc3]; rfl) (by decide) ?_
        refine z_aload_n (pc2 := 48) rfl dX11_isUnder_47 rfl ?_
        refine z_instN 25 2 (pc2 := 51) rfl dX11_isUnder_48 rfl rfl rfl (by decide) wd_187 ?_
        exact z_iret dX11_isUnder_51 rfl rfl (fz_p rfl h)
      · replace h := ab_neg hc3 h
        by_cases hc4 : a1 = (3 : Int32)
        · replace h := ab_pos hc4 h
          refine ab_tsIn (tgt := 52) dX11_isUnder_1 (by rw [hc4]; decide) (by rw [hc4]; decide) (by rw [hc4]; rfl) (by decide) ?_
          refine z_aload_n (pc2 := 53) rfl dX11_isUnder_52 rfl ?_
          refine z_instN 25 2 (pc2 := 56) rfl dX11_isUnder_53 rfl rfl rfl (by decide) wd_194 ?_
          exact z_iret dX11_isUnder_56 rfl rfl (fz_p rfl h)
        · replace h := ab_neg hc4 h
          by_cases hc5 : a1 = (4 : Int32)
          · replace h := ab_pos hc5 h
            refine ab_tsIn (tgt := 57) dX11_isUnder_1 (by rw [hc5]; decide) (by rw [hc5]; decide) (by rw [hc5]; rfl) (by decide) ?_
            refine z_aload_n (pc2 := 58) rfl dX11_isUnder_57 rfl ?_
            refine z_instN 25 2 (pc2 := 61) rfl dX11_isUnder_58 rfl rfl rfl (by decide) wd_201 ?_
            exact z_iret dX11_isUnder_61 rfl rfl (fz_p rfl h)
          · replace h := ab_neg hc5 h
            by_cases hc6 : a1 = (5 : Int32)
            · replace h := ab_pos hc6 h
              refine ab_tsIn (tgt := 62) dX11_isUnder_1 (by rw [hc6]; decide) (by rw [hc6]; decide) (by rw [hc6]; rfl) (by decide) ?_
              refine z_aload_n (pc2 := 63) rfl dX11_isUnder_62 rfl ?_
              refine z_instN 25 2 (pc2 := 66) rfl dX11_isUnder_63 rfl rfl rfl (by decide) wd_208 ?_
              exact z_iret dX11_isUnder_66 rfl rfl (fz_p rfl h)
            · replace h := ab_neg hc6 h
              have thc1 := ab_ne_toInt (k := 0) hc1 (by decide)
              have thc2 := ab_ne_toInt (k := 1) hc2 (by decide)
              have thc3 := ab_ne_toInt (k := 2) hc3 (by decide)
              have thc4 := ab_ne_toInt (k := 3) hc4 (by decide)
              have thc5 := ab_ne_toInt (k := 4) hc5 (by decide)
              have thc6 := ab_ne_toInt (k := 5) hc6 (by decide)
              refine ab_tsOut (tgt := 67) dX11_isUnder_1 (by omega) (by decide) ?_
              refine z_aload_n (pc2 := 68) rfl dX11_isUnder_67 rfl ?_
              refine z_instN 25 2 (pc2 := 71) rfl dX11_isUnder_68 rfl rfl rfl (by decide) wd_215 ?_
              exact z_iret dX11_isUnder_71 rfl rfl (fz_p rfl h)
def f_X11_isUnder_26 (a1 : Int32) (σ : ab_F) : Option Bool := (if a1 = (0 : Int32) then (some true) else if a1 = (1 : Int32) then (some true) else if a1 = (2 : Int32) then (some false) else if a1 = (3 : Int32) then (some false) else if a1 = (4 : Int32) then (some false) else if a1 = (5 : Int32) then (some false) else (some false))
set_option maxRecDepth 100000 in
set_option maxHeartbeats 4000000 in
theorem e_X11_isUnder_26 {sc : Nat × (Nat → Int32)} {r : Option Nat × Option Nat} {a1 : Int32} {σ : ab_F} {res : Bool} (h : f_X11_isUnder_26 a1 σ = some res) : ab_E mX11_isUnder 0 sc 0 [some (.ref 26), some (.int a1)] [] (σ, r) (fun v S => v = some (.int (ab_b res)) ∧ S = (σ, r)) := by
  unfold f_X11_isUnder_26 at h
  refine z_iload_n (pc2 := 1) rfl dX11_isUnder_0 rfl ?_
  by_cases hc1 : a1 = (0 : Int32)
  · replace h := ab_pos hc1 h
    refine ab_tsIn (tgt := 40) dX11_isUnder_1 (by rw [hc1]; decide) (by rw [hc1]; decide) (by rw [hc1]; rfl) (by decide) ?_
    refine z_iconst (pc2 := 41) rfl dX11_isUnder_40 lt_i_1 ?_
    exact z_iret dX11_isUnder_41 rfl rfl (fz_p rfl h)
  · replace h := ab_neg hc1 h
    by_cases hc2 : a1 = (1 : Int32)
    · replace h := ab_pos hc2 h
      refine ab_tsIn (tgt := 42) dX11_isUnder_1 (by rw [hc2]; decide) (by rw [hc2]; decide) (by rw [hc2]; rfl) (by decide) ?_
      refine z_aload_n (pc2 := 43) rfl dX11_isUnder_42 rfl ?_
      refine z_instS 26 5 (pc2 := 46) rfl dX11_isUnder_43 rfl rfl rfl rfl wd_180 ?_
      exact z_iret dX11_isUnder_46 rfl rfl (fz_p rfl h)
    · replace h := ab_neg hc2 h
      by_cases hc3 : a1 = (2 : Int32)
      · replace h := ab_pos hc3 h
        refine ab_tsIn (tgt := 47) dX11_isUnder_1 (by rw [hc3]; decide) (by rw [hc3]; decide) (by rw [hc3]; rfl) (by decide) ?_
        refine z_aload_n (pc2 := 48) rfl dX11_isUnder_47 rfl ?_
        refine z_instN 26 5 (pc2 := 51) rfl dX11_isUnder_48 rfl rfl rfl (by decide) wd_187 ?_
        exact z_iret dX11_isUnder_51 rfl rfl (fz_p rfl h)
      · replace h := ab_neg hc3 h
        by_cases hc4 : a1 = (3 : Int32)
        · replace h := ab_pos hc4 h
          refine ab_tsIn (tgt := 52) dX11_isUnder_1 (by rw [hc4]; decide) (by rw [hc4]; decide) (by rw [hc4]; rfl) (by decide) ?_
          refine z_aload_n (pc2 := 53) rfl dX11_isUnder_52 rfl ?_
          refine z_instN 26 5 (pc2 := 56) rfl dX11_isUnder_53 rfl rfl rfl (by decide) wd_194 ?_
          exact z_iret dX11_isUnder_56 rfl rfl (fz_p rfl h)
        · replace h := ab_neg hc4 h
          by_cases hc5 : a1 = (4 : Int32)
          · replace h := ab_pos hc5 h
            refine ab_tsIn (tgt := 57) dX11_isUnder_1 (by rw [hc5]; decide) (by rw [hc5]; decide) (by rw [hc5]; rfl) (by decide) ?_
            refine z_aload_n (pc2 := 58) rfl dX11_isUnder_57 rfl ?_
            refine z_instN 26 5 (pc2 := 61) rfl dX11_isUnder_58 rfl rfl rfl (by decide) wd_201 ?_
            exact z_iret dX11_isUnder_61 rfl rfl (fz_p rfl h)
          · replace h := ab_neg hc5 h
            by_cases hc6 : a1 = (5 : Int32)
            · replace h := ab_pos hc6 h
              refine ab_tsIn (tgt := 62) dX11_isUnder_1 (by rw [hc6]; decide) (by rw [hc6]; decide) (by rw [hc6]; rfl) (by decide) ?_
              refine z_aload_n (pc2 := 63) rfl dX11_isUnder_62 rfl ?_
              refine z_instN 26 5 (pc2 := 66) rfl dX11_isUnder_63 rfl rfl rfl (by decide) wd_208 ?_
              exact z_iret dX11_isUnder_66 rfl rfl (fz_p rfl h)
            · replace h := ab_neg hc6 h
              have thc1 := ab_ne_toInt (k := 0) hc1 (by decide)
              have thc2 := ab_ne_toInt (k := 1) hc2 (by decide)
              have thc3 := ab_ne_toInt (k := 2) hc3 (by decide)
              have thc4 := ab_ne_toInt (k := 3) hc4 (by decide)
              have thc5 := ab_ne_toInt (k := 4) hc5 (by decide)
              have thc6 := ab_ne_toInt (k := 5) hc6 (by decide)
              refine ab_tsOut (tgt := 67) dX11_isUnder_1 (by omega) (by decide) ?_
              refine z_aload_n (pc2 := 68) rfl dX11_isUnder_67 rfl ?_
              refine z_instN 26 5 (pc2 := 71) rfl dX11_isUnder_68 rfl rfl rfl (by decide) wd_215 ?_
              exact z_iret dX11_isUnder_71 rfl rfl (fz_p rfl h)
