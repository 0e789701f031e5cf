set_option maxRecDepth 100000 in
set_option maxHeartbeats 4000000 in
theorem e_X5_parts_26 {sc : Nat × (Nat → Int32)} {r : Option Nat × Option Nat} {a2 : Int32} {σ : ab_F} {res : (Int32 × ab_F)} (h : f_X5_parts_26 a2 σ = some res) : ab_E mX5_parts 4 sc 0 [some (.ref 26), some (.ref 21), some (.int a2), none] [] (σ, r) (fun v S => v = some (.int res.1) ∧ S = (res.2, r)) := by
  unfold f_X5_parts_26 at h
  refine z_aload_n (pc2 := 1) rfl dX5_parts_0 rfl ?_
  refine z_bipush (pc2 := 3) rfl dX5_parts_1 lt_b_21 ?_
  obtain ⟨q1, hq1, h⟩ := ab_bnd h
  refine z_callVv 21 [.int (21 : Int32)] [some (.ref 21), some (.int (21 : Int32))] (pc2 := 6) rfl rfl dX5_parts_3 ok_X8_begins ⟨fun _ => rfl, fun _ => Nat.le_of_ble_eq_true rfl⟩ rfl rv_21 wd_821 wd_815 wd_816 rfl (e_X8_begins hq1) ?_
  refine z_aload_n (pc2 := 7) rfl dX5_parts_6 rfl ?_
  refine z_aload_n (pc2 := 8) rfl dX5_parts_7 rfl ?_
  refine z_iload_n (pc2 := 9) rfl dX5_parts_8 rfl ?_
  obtain ⟨q2, hq2, h⟩ := ab_bnd h
  refine z_callUi RX5 RX2 yX2_parts 26 [.ref 21, .int a2] [some (.ref 26), some (.ref 21), some (.int a2), none] (pc2 := 12) rfl rfl dX5_parts_9 ok_X2_parts ⟨fun _ => rfl, fun _ => Nat.le_of_ble_eq_true rfl⟩ rfl rv_26 wd_884 wd_879 wd_186 (Or.inl rfl) wd_877 (by decide) rfl (e_X2_parts_26 hq2) ?_
  obtain ⟨x3, hxx3, h⟩ := ab_lt_e h
  refine z_top hxx3 ?_
  refine z_istore_n (pc2 := 13) (L2 := [some (.ref 26), some (.ref 21), some (.int a2), some (.int x3)]) rfl dX5_parts_12 (by decide) rfl rfl ?_
  refine z_aload_n (pc2 := 14) rfl dX5_parts_13 rfl ?_
  refine z_getI 21 8 2 (pc2 := 17) rfl dX5_parts_14 rfl rfl ff_8_2 wd_154 ?_
  refine z_if_eq (pc2 := 20) (tgt := 24) rfl dX5_parts_17 (by decide) (fun hc4 => ?_) (fun hc4 => ?_)
  · replace h := ab_pos hc4 h
    refine z_iload_n (pc2 := 25) rfl dX5_parts_24 rfl ?_
    refine z_aload_n (pc2 := 26) rfl dX5_parts_25 rfl ?_
    refine z_aload_n (pc2 := 27) rfl dX5_parts_26 rfl ?_
    refine z_iconst (pc2 := 28) rfl dX5_parts_27 lt_i_1 ?_
    obtain ⟨q5, hq5, h⟩ := ab_bnd h
    refine z_callOi RX5 RX2 ⟨"StiltParish$Postman", "knows", "(LStiltParish$Voice;I)I"⟩ cX2_knows 3 (some .int) 26 [.ref 21, .int (1 : Int32)] [some (.ref 26), some (.ref 21), some (.int (1 : Int32))] (pc2 := 31) rfl rfl dX5_parts_28 ok_X2_knows ⟨fun _ => rfl, fun _ => Nat.le_of_ble_eq_true rfl⟩ rfl rv_26 wd_885 wd_886 wd_833 wd_889 wd_833 wd_853 ⟨by decide, by decide, rfl⟩ rfl (e_X2_knows_26 hq5) ?_
    refine z_iadd (pc2 := 32) rfl dX5_parts_31 ?_
    exact z_iret dX5_parts_32 rfl rfl (fi_w h)
  · replace h := ab_neg hc4 h
    refine z_iconst (pc2 := 21) rfl dX5_parts_20 lt_i_0 ?_
    refine ab_goto (tgt := 32) dX5_parts_21 (by decide) ?_
    exact z_iret dX5_parts_32 rfl rfl (fi_w h)
def f_X2_wades_27 (a2 : Int32) (σ : ab_F) : Option (Int32 × ab_F) := (f_X8_begins (10 : Int32) σ).bind (fun q1 => (some ((a2 + (q1 21 0)), q1)))
set_option maxRecDepth 100000 in
set_option maxHeartbeats 4000000 in
theorem e_X2_wades_27 {sc : Nat × (Nat → Int32)} {r : Option Nat × Option Nat} {a2 : Int32} {σ : ab_F} {res : (Int32 × ab_F)} (h : f_X2_wades_27 a2 σ = some res) : ab_E mX2_wades 1 sc 0 [some (.ref 27), some (.ref 21), some (.int a2)] [] (σ, r) (fun v S => v = some (.int res.1) ∧ S = (res.2, r)) := by
  unfold f_X2_wades_27 at h
  refine z_aload_n (pc2 := 1) rfl dX2_wades_0 rfl ?_
  refine z_bipush (pc2 := 3) rfl dX2_wades_1 lt_b_10 ?_
  obtain ⟨q1, hq1, h⟩ := ab_bnd h
  refine z_callVv 21 [.int (10 : Int32)] [some (.ref 21), some (.int (10 : Int32))] (pc2 := 6) rfl rfl dX2_wades_3 ok_X8_begins ⟨fun _ => rfl, fun _ => Nat.le_of_ble_eq_true rfl⟩ rfl rv_21 wd_831 wd_815 wd_816 rfl (e_X8_begins hq1) ?_
  refine z_iload_n (pc2 := 7) rfl dX2_wades_6 rfl ?_
  refine z_aload_n (pc2 := 8) rfl dX2_wades_7 rfl ?_
  refine z_getI 21 8 0 (pc2 := 11) rfl dX2_wades_8 rfl rfl ff_8_0 wd_148 ?_
  refine z_iadd (pc2 := 12) rfl dX2_wades_11 ?_
  exact z_iret dX2_wades_12 rfl rfl (fi_w h)
def f_X2_knows_27 (a2 : Int32) (σ : ab_F) : Option (Int32 × ab_F) := (f_X8_begins (11 : Int32) σ).bind (fun q1 => (f_X2_wades_27 a2 q1).bind (fun q2 => (some ((q2.1 * (2 : Int32)), q2.2))))
set_option maxRecDepth 100000 in
set_option maxHeartbeats 4000000 in
theorem e_X2_knows_27 {sc : Nat × (Nat → Int32)} {r : Option Nat × Option Nat} {a2 : Int32} {σ : ab_F} {res : (Int32 × ab_F)} (h : f_X2_knows_27 a2 σ = some res) : ab_E mX2_knows 2 sc 0 [some (.ref 27), some (.ref 21), some (.int a2)] [] (σ, r) (fun v S => v = some (.int res.1) ∧ S = (res.2, r)) := by
  unfold f_X2_knows_27 at h
  refine z_aload_n (pc2 := 1) rfl dX2_knows_0 rfl ?_
  refine z_bipush (pc2 := 3) rfl dX2_knows_1 lt_b_11 ?_
  obtain ⟨q1, hq1, h⟩ := ab_bnd h
  refine z_callVv 21 [.int (11 : Int32)] [some (.ref 21), some (.int (11 : Int32))] (pc2 := 6) rfl rfl dX2_knows_3 ok_X8_begins ⟨fun _ => rfl, fun _ => Nat.le_of_ble_eq_true rfl⟩ rfl rv_21 wd_831 wd_815 wd_816 rfl (e_X8_begins hq1) ?_
  refine z_aload_n (pc2 := 7) rfl dX2_knows_6 rfl ?_
  refine z_aload_n (pc2 := 8) rfl dX2_knows_7 rfl ?_
  refine z_iload_n (pc2 := 9) rfl dX2_knows_8 rfl ?_
  obtain ⟨q2, hq2, h⟩ := ab_bnd h
  refine z_callOi RX10 RX2 yX2_wades cX2_wades 3 (some .int) 27 [.ref 21, .int a2] [some (.ref 27), some (.ref 21), some (.int a2)] (pc2 := 12) rfl rfl dX2_knows_9 ok_X2_wades ⟨fun _ => rfl, fun _ => Nat.le_of_ble_eq_true rfl⟩ rfl rv_27 wd_854 wd_809 wd_807 wd_829 wd_807 wd_830 ⟨by decide, by decide, rfl⟩ rfl (e_X2_wades_27 hq2) ?_
  refine z_iconst (pc2 := 13) rfl dX2_knows_12 lt_i_2 ?_
  refine z_imul (pc2 := 14) rfl dX2_knows_13 ?_
  exact z_iret dX2_knows_14 rfl rfl (fi_w h)
def f_X10_knows_27 (a2 : Int32) (σ : ab_F) : Option (Int32 × ab_F) := (f_X8_begins (30 : Int32) σ).bind (fun q1 => (f_X2_knows_27 a2 q1).bind (fun q2 => (some (((0 : Int32) - q2.1), q2.2))))
set_option maxRecDepth 100000 in
set_option maxHeartbeats 4000000 in
theorem e_X10_knows_27 {sc : Nat × (Nat → Int32)} {r : Option Nat × Option Nat} {a2 : Int32} {σ : ab_F} {res : (Int32 × ab_F)} (h : f_X10_knows_27 a2 σ = some res) : ab_E mX10_knows 3 sc 0 [some (.ref 27), some (.ref 21), some (.int a2)] [] (σ, r) (fun v S => v = some (.int res.1) ∧ S = (res.2, r)) := by
  unfold f_X10_knows_27 at h
  refine z_aload_n (pc2 := 1) rfl dX10_knows_0 rfl ?_
  refine z_bipush (pc2 := 3) rfl dX10_knows_1 lt_b_30 ?_
  obtain ⟨q1, hq1, h⟩ := ab_bnd h
  refine z_callVv 21 [.int (30 : Int32)] [some (.ref 21), some (.int (30 : Int32))] (pc2 := 6) rfl rfl dX10_knows_3 ok_X8_begins ⟨fun _ => rfl, fun _ => Nat.le_of_ble_eq_true rfl⟩ rfl rv_21 wd_843 wd_815 wd_816 rfl (e_X8_begins hq1) ?_
  refine z_iconst (pc2 := 7) rfl dX10_knows_6 lt_i_0 ?_
  refine z_aload_n (pc2 := 8) rfl dX10_knows_7 rfl ?_
  refine z_aload_n (pc2 := 9) rfl dX10_knows_8 rfl ?_
  refine z_iload_n (pc2 := 10) rfl dX10_knows_9 rfl ?_
  obtain ⟨q2, hq2, h⟩ := ab_bnd h
  refine z_callUi RX10 RX2 yX2_knows 27 [.ref 21, .int a2] [some (.ref 27), some (.ref 21), some (.int a2)] (pc2 := 13) rfl rfl dX10_knows_10 ok_X2_knows ⟨fun _ => rfl, fun _ => Nat.le_of_ble_eq_true rfl⟩ rfl rv_27 wd_844 wd_835 wd_193 (Or.inl rfl) wd_833 (by decide) rfl (e_X2_knows_27 hq2) ?_
  refine z_isub (pc2 := 14) rfl dX10_knows_13 ?_
  exact z_iret dX10_knows_14 rfl rfl (fi_w h)
def f_X2_sits_27 (a2 : Int32) (σ : ab_F) : Option (Int32 × ab_F) := (f_X8_begins (12 : Int32) σ).bind (fun q1 => (f_X10_knows_27 a2 q1).bind (fun q2 => (some ((q2.1 - (q2.2 21 1)), q2.2))))
set_option maxRecDepth 100000 in
set_option maxHeartbeats 4000000 in
theorem e_X2_sits_27 {sc : Nat × (Nat → Int32)} {r : Option Nat × Option Nat} {a2 : Int32} {σ : ab_F} {res : (Int32 × ab_F)} (h : f_X2_sits_27 a2 σ = some res) : ab_E mX2_sits 4 sc 0 [some (.ref 27), some (.ref 21), some (.int a2)] [] (σ, r) (fun v S => v = some (.int res.1) ∧ S = (res.2, r)) := by
  unfold f_X2_sits_27 at h
  refine z_aload_n (pc2 := 1) rfl dX2_sits_0 rfl ?_
  refine z_bipush (pc2 := 3) rfl dX2_sits_1 lt_b_12 ?_
  obtain ⟨q1, hq1, h⟩ := ab_bnd h
  refine z_callVv 21 [.int (12 : Int32)] [some (.ref 21), some (.int (12 : Int32))] (pc2 := 6) rfl rfl dX2_sits_3 ok_X8_begins ⟨fun _ => rfl, fun _ => Nat.le_of_ble_eq_true rfl⟩ rfl rv_21 wd_831 wd_815 wd_816 rfl (e_X8_begins hq1) ?_
  refine z_aload_n (pc2 := 7) rfl dX2_sits_6 rfl ?_
  refine z_aload_n (pc2 := 8) rfl dX2_sits_7 rfl ?_
  refine z_iload_n (pc2 := 9) rfl dX2_sits_8 rfl ?_
  obtain ⟨q2, hq2, h⟩ := ab_bnd h
  refine z_callOi RX10 RX2 yX2_knows cX2_knows 3 (some .int) 27 [.ref 21, .int a2] [some (.ref 27), some (.ref 21), some (.int a2)] (pc2 := 12) rfl rfl dX2_sits_9 ok_X10_knows ⟨fun _ => rfl, fun _ => Nat.le_of_ble_eq_true rfl⟩ rfl rv_27 wd_875 wd_835 wd_833 wd_852 wd_841 wd_853 ⟨by decide, by decide, rfl⟩ rfl (e_X10_knows_27 hq2) ?_
  refine z_aload_n (pc2 := 13) rfl dX2_sits_12 rfl ?_
  refine z_getI 21 8 1 (pc2 := 16) rfl dX2_sits_13 rfl rfl ff_8_1 wd_152 ?_
  refine z_isub (pc2 := 17) rfl dX2_sits_16 ?_
  exact z_iret dX2_sits_17 rfl rfl (fi_w h)
def f_X2_parts_27 (a2 : Int32) (σ : ab_F) : Option (Int32 × ab_F) := (f_X8_begins (13 : Int32) σ).bind (fun q1 => ab_lt (((q1 21 1) - (q1 21 0))) (fun x2 => (if x2 = 0 then ab_lt (ab_u q1 21 2 (1 : Int32)) (fun (s5 : ab_F) => (some ((0 : Int32), s5))) else ab_ck (ab_nz x2) ((some ((a2 / x2), q1))))))
set_option maxRecDepth 100000 in
set_option maxHeartbeats 4000000 in
theorem e_X2_parts_27 {sc : Nat × (Nat → Int32)} {r : Option Nat × Option Nat} {a2 : Int32} {σ : ab_F} {res : (Int32 × ab_F)} (h : f_X2_parts_27 a2 σ = some res) : ab_E mX2_parts 1 sc 0 [some (.ref 27), some (.ref 21), some (.int a2), none] [] (σ, r) (fun v S => v = some (.int res.1) ∧ S = (res.2, r)) := by
  unfold f_X2_parts_27 at h
  refine z_aload_n (pc2 := 1) rfl dX2_parts_0 rfl ?_
  refine z_bipush (pc2 := 3) rfl dX2_parts_1 lt_b_13 ?_
  obtain ⟨q1, hq1, h⟩ := ab_bnd h
  refine z_callVv 21 [.int (13 : Int32)] [some (.ref 21), some (.int (13 : Int32))] (pc2 := 6) rfl rfl dX2_parts_3 ok_X8_begins ⟨fun _ => rfl, fun _ => Nat.le_of_ble_eq_true rfl⟩ rfl rv_21 wd_831 wd_815 wd_816 rfl (e_X8_begins hq1) ?_
  refine z_aload_n (pc2 := 7) rfl dX2_parts_6 rfl ?_
  refine z_getI 21 8 1 (pc2 := 10) rfl dX2_parts_7 rfl rfl ff_8_1 wd_152 ?_
  refine z_aload_n (pc2 := 11) rfl dX2_parts_10 rfl ?_
  refine z_getI 21 8 0 (pc2 := 14) rfl dX2_parts_11 rfl rfl ff_8_0 wd_148 ?_
  refine z_isub (pc2 := 15) rfl dX2_parts_14 ?_
  obtain ⟨x2, hxx2, h⟩ := ab_lt_e h
  refine z_top hxx2 ?_
  refine z_istore_n (pc2 := 16) (L2 := [some (.ref 27), some (.ref 21), some (.int a2), some (.int x2)]) rfl dX2_parts_15 (by decide) rfl rfl ?_
  refine z_iload_n (pc2 := 17) rfl dX2_parts_16 rfl ?_
  refine z_if_ne (pc2 := 20) (tgt := 27) rfl dX2_parts_17 (by decide) (fun hc3 => ?_) (fun hc3 => ?_)
  · replace h := ab_neg hc3 h
    refine z_iload_n (pc2 := 28) rfl dX2_parts_27 rfl ?_
    refine z_iload_n (pc2 := 29) rfl dX2_parts_28 rfl ?_
    obtain ⟨hb4, h⟩ := ab_ck_e h
    refine z_idiv (pc2 := 30) rfl dX2_parts_29 (ab_nz_e hb4) ?_
    exact z_iret dX2_parts_30 rfl rfl (fi_w h)
  · replace h := ab_pos hc3 h
    refine z_aload_n (pc2 := 21) rfl dX2_parts_20 rfl ?_
    refine z_iconst (pc2 := 22) rfl dX2_parts_21 lt_i_1 ?_
    refine z_putI 21 8 2 (pc2 := 25) (ft := .boolean) rfl dX2_parts_22 rfl rfl ff_8_2 wd_155 rfl (by decide +kernel) rfl rfl ?_
    obtain ⟨s5, hs5, h⟩ := ab_lt_e h
    refine z_tops hs5 ?_
    refine z_iconst (pc2 := 26) rfl dX2_parts_25 lt_i_0 ?_
    exact z_iret dX2_parts_26 rfl rfl (fi_w h)
def f_X2_wades_28 (a2 : Int32) (σ : ab_F) : Option (Int32 × ab_F) := (f_X8_begins (10 : Int32) σ).bind (fun q1 => (some ((a2 + (q1 21 0)), q1)))
set_option maxRecDepth 100000 in
set_option maxHeartbeats 4000000 in
theorem e_X2_wades_28 {sc : Nat × (Nat → Int32)} {r : Option Nat × Option Nat} {a2 : Int32} {σ : ab_F} {res : (Int32 × ab_F)} (h : f_X2_wades_28 a2 σ = some res) : ab_E mX2_wades 1 sc 0 [some (.ref 28), some (.ref 21), some (.int a2)] [] (σ, r) (fun v S => v = some (.int res.1) ∧ S = (res.2, r)) := by
  unfold f_X2_wades_28 at h
  refine z_aload_n (pc2 := 1) rfl dX2_wades_0 rfl ?_
  refine z_bipush (pc2 := 3) rfl dX2_wades_1 lt_b_10 ?_
  obtain ⟨q1, hq1, h⟩ := ab_bnd h
  refine z_callVv 21 [.int (10 : Int32)] [some (.ref 21), some (.int (10 : Int32))] (pc2 := 6) rfl rfl dX2_wades_3 ok_X8_begins ⟨fun _ => rfl, fun _ => Nat.le_of_ble_eq_true rfl⟩ rfl rv_21 wd_831 wd_815 wd_816 rfl (e_X8_begins hq1) ?_
  refine z_iload_n (pc2 := 7) rfl dX2_wades_6 rfl ?_
  refine z_aload_n (pc2 := 8) rfl dX2_wades_7 rfl ?_
  refine z_getI 21 8 0 (pc2 := 11) rfl dX2_wades_8 rfl rfl ff_8_0 wd_148 ?_
  refine z_iadd (pc2 := 12) rfl dX2_wades_11 ?_
  exact z_iret dX2_wades_12 rfl rfl (fi_w h)
def f_X2_knows_28 (a2 : Int32) (σ : ab_F) : Option (Int32 × ab_F) := (f_X8_begins (11 : Int32) σ).bind (fun q1 => (f_X2_wades_28 a2 q1).bind (fun q2 => (some ((q2.1 * (2 : Int32)), q2.2))))
set_option maxRecDepth 100000 in
set_option maxHeartbeats 4000000 in
theorem e_X2_knows_28 {sc : Nat × (Nat → Int32)} {r : Option Nat × Option Nat} {a2 : Int32} {σ : ab_F} {res : (Int32 × ab_F)} (h : f_X2_knows_28 a2 σ = some res) : ab_E mX2_knows 2 sc 0 [some (.ref 28), some (.ref 21), some (.int a2)] [] (σ, r) (fun v S => v = some (.int res.1) ∧ S = (res.2, r)) := by
  unfold f_X2_knows_28 at h
  refine z_aload_n (pc2 := 1) rfl dX2_knows_0 rfl ?_
  refine z_bipush (pc2 := 3) rfl dX2_knows_1 lt_b_11 ?_
  obtain ⟨q1, hq1, h⟩ := ab_bnd h
  refine z_callVv 21 [.int (11 : Int32)] [some (.ref 21), some (.int (11 : Int32))] (pc2 := 6) rfl rfl dX2_knows_3 ok_X8_begins ⟨fun _ => rfl, fun _ => Nat.le_of_ble_eq_true rfl⟩ rfl rv_21 wd_831 wd_815 wd_816 rfl (e_X8_begins hq1) ?_
  refine z_aload_n (pc2 := 7) rfl dX2_knows_6 rfl ?_
  refine z_aload_n (pc2 := 8) rfl dX2_knows_7 rfl ?_
  refine z_iload_n (pc2 := 9) rfl dX2_knows_8 rfl ?_
  obtain ⟨q2, hq2, h⟩ := ab_bnd h
  refine z_callOi RX3 RX2 yX2_wades cX2_wades 3 (some .int) 28 [.ref 21, .int a2] [some (.ref 28), some (.ref 21), some (.int a2)] (pc2 := 12) rfl rfl dX2_knows_9 ok_X2_wades ⟨fun _ => rfl, fun _ => Nat.le_of_ble_eq_true rfl⟩ rfl rv_28 wd_854 wd_809 wd_807 wd_823 wd_807 wd_830 ⟨by decide, by decide, rfl⟩ rfl (e_X2_wades_28 hq2) ?_
  refine z_iconst (pc2 := 13) rfl dX2_knows_12 lt_i_2 ?_
  refine z_imul (pc2 := 14) rfl dX2_knows_13 ?_
  exact z_iret dX2_knows_14 rfl rfl (fi_w h)
def f_X2_sits_28 (a2 : Int32) (σ : ab_F) : Option (Int32 × ab_F) := (f_X8_begins (12 : Int32) σ).bind (fun q1 => (f_X2_knows_28 a2 q1).bind (fun q2 => (some ((q2.1 - (q2.2 21 1)), q2.2))))
set_option maxRecDepth 100000 in
set_option maxHeartbeats 4000000 in
theorem e_X2_sits_28 {sc : Nat × (Nat → Int32)} {r : Option Nat × Option Nat} {a2 : Int32} {σ : ab_F} {res : (Int32 × ab_F)} (h : f_X2_sits_28 a2 σ = some res) : ab_E mX2_sits 3 sc 0 [some (.ref 28), some (.ref 21), some (.int a2)] [] (σ, r) (fun v S => v = some (.int res.1) ∧ S = (res.2, r)) := by
  unfold f_X2_sits_28 at h
  refine z_aload_n (pc2 := 1) rfl dX2_sits_0 rfl ?_
  refine z_bipush (pc2 := 3) rfl dX2_sits_1 lt_b_12 ?_
  obtain ⟨q1, hq1, h⟩ := ab_bnd h
  refine z_callVv 21 [.int (12 : Int32)] [some (.ref 21), some (.int (12 : Int32))] (pc2 := 6) rfl rfl dX2_sits_3 ok_X8_begins ⟨fun _ => rfl, fun _ => Nat.le_of_ble_eq_true rfl⟩ rfl rv_21 wd_831 wd_815 wd_816 rfl (e_X8_begins hq1) ?_
  refine z_aload_n (pc2 := 7) rfl dX2_sits_6 rfl ?_
  refine z_aload_n (pc2 := 8) rfl dX2_sits_7 rfl ?_
  refine z_iload_n (pc2 := 9) rfl dX2_sits_8 rfl ?_
  obtain ⟨q2, hq2, h⟩ := ab_bnd h
  refine z_callOi RX3 RX2 yX2_knows cX2_knows 3 (some .int) 28 [.ref 21, .int a2] [some (.ref 28), some (.ref 21), some (.int a2)] (pc2 := 12) rfl rfl dX2_sits_9 ok_X2_knows ⟨fun _ => rfl, fun _ => Nat.le_of_ble_eq_true rfl⟩ rfl rv_28 wd_875 wd_835 wd_833 wd_846 wd_833 wd_853 ⟨by decide, by decide, rfl⟩ rfl (e_X2_knows_28 hq2) ?_
  refine z_aload_n (pc2 := 13) rfl dX2_sits_12 rfl ?_
  refine z_getI 21 8 1 (pc2 := 16) rfl dX2_sits_13 rfl rfl ff_8_1 wd_152 ?_
  refine z_isub (pc2 := 17) rfl dX2_sits_16 ?_
  exact z_iret dX2_sits_17 rfl rfl (fi_w h)
def f_X3_sits_28 (a2 : Int32) (σ : ab_F) : Option (Int32 × ab_F) := (f_X8_begins (40 : Int32) σ).bind (fun q1 => (f_X2_sits_28 (a2 / (2 : Int32)) q1).bind (fun q2 => (some (q2.1, q2.2))))
set_option maxRecDepth 100000 in
set_option maxHeartbeats 4000000 in
theorem e_X3_sits_28 {sc : Nat × (Nat → Int32)} {r : Option Nat × Option Nat} {a2 : Int32} {σ : ab_F} {res : (Int32 × ab_F)} (h : f_X3_sits_28 a2 σ = some res) : ab_E mX3_sits 4 sc 0 [some (.ref 28), some (.ref 21), some (.int a2)] [] (σ, r) (fun v S => v = some (.int res.1) ∧ S = (res.2, r)) := by
  unfold f_X3_sits_28 at h
  refine z_aload_n (pc2 := 1) rfl dX3_sits_0 rfl ?_
  refine z_bipush (pc2 := 3) rfl dX3_sits_1 lt_b_40 ?_
  obtain ⟨q1, hq1, h⟩ := ab_bnd h
  refine z_callVv 21 [.int (40 : Int32)] [some (.ref 21), some (.int (40 : Int32))] (pc2 := 6) rfl rfl dX3_sits_3 ok_X8_begins ⟨fun _ => rfl, fun _ => Nat.le_of_ble_eq_true rfl⟩ rfl rv_21 wd_869 wd_815 wd_816 rfl (e_X8_begins hq1) ?_
  refine z_aload_n (pc2 := 7) rfl dX3_sits_6 rfl ?_
  refine z_aload_n (pc2 := 8) rfl dX3_sits_7 rfl ?_
  refine z_iload_n (pc2 := 9) rfl dX3_sits_8 rfl ?_
  refine z_iconst (pc2 := 10) rfl dX3_sits_9 lt_i_2 ?_
  refine z_idiv (pc2 := 11) rfl dX3_sits_10 (by decide) ?_
  obtain ⟨q2, hq2, h⟩ := ab_bnd h
  refine z_callUi RX3 RX2 yX2_sits 28 [.ref 21, .int (a2 / (2 : Int32))] [some (.ref 28), some (.ref 21), some (.int (a2 / (2 : Int32)))] (pc2 := 14) rfl rfl dX3_sits_11 ok_X2_sits ⟨fun _ => rfl, fun _ => Nat.le_of_ble_eq_true rfl⟩ rfl rv_28 wd_870 wd_858 wd_200 (Or.inl rfl) wd_856 (by decide) rfl (e_X2_sits_28 hq2) ?_
  exact z_iret dX3_sits_14 rfl rfl (fi_w h)
def f_X2_parts_28 (a2 : Int32) (σ : ab_F) : Option (Int32 × ab_F) := (f_X8_begins (13 : Int32) σ).bind (fun q1 => ab_lt (((q1 21 1) - (q1 21 0))) (fun x2 => (if x2 = 0 then ab_lt (ab_u q1 21 2 (1 : Int32)) (fun (s5 : ab_F) => (some ((0 : Int32), s5))) else ab_ck (ab_nz x2) ((some ((a2 / x2), q1))))))
set_option maxRecDepth 100000 in
set_option maxHeartbeats 4000000 in
theorem e_X2_parts_28 {sc : Nat × (Nat → Int32)} {r : Option Nat × Option Nat} {a2 : Int32} {σ : ab_F} {res : (Int32 × ab_F)} (h : f_X2_parts_28 a2 σ = some res) : ab_E mX2_parts 1 sc 0 [some (.ref 28), some (.ref 21), some (.int a2), none] [] (σ, r) (fun v S => v = some (.int res.1) ∧ S = (res.2, r)) := by
  unfold f_X2_parts_28 at h
  refine z_aload_n (pc2 := 1) rfl dX2_parts_0 rfl ?_
  refine z_bipush (pc2 := 3) rfl dX2_parts_1 lt_b_13 ?_
  obtain ⟨q1, hq1, h⟩ := ab_bnd h
  refine z_callVv 21 [.int (13 : Int32)] [some (.ref 21), some (.int (13 : Int32))] (pc2 := 6) rfl rfl dX2_parts_3 ok_X8_begins ⟨fun _ => rfl, fun _ => Nat.le_of_ble_eq_true rfl⟩ rfl rv_21 wd_831 wd_815 wd_816 rfl (e_X8_begins hq1) ?_
  refine z_aload_n (pc2 := 7) rfl dX2_parts_6 rfl ?_
  refine z_getI 21 8 1 (pc2 := 10) rfl dX2_parts_7 rfl rfl ff_8_1 wd_152 ?_
  refine z_aload_n (pc2 := 11) rfl dX2_parts_10 rfl ?_
  refine z_getI 21 8 0 (pc2 := 14) rfl dX2_parts_11 rfl rfl ff_8_0 wd_148 ?_
  refine z_isub (pc2 := 15) rfl dX2_parts_14 ?_
  obtain ⟨x2, hxx2, h⟩ := ab_lt_e h
  refine z_top hxx2 ?_
  refine z_istore_n (pc2 := 16) (L2 := [some (.ref 28), some (.ref 21), some (.int a2), some (.int x2)]) rfl dX2_parts_15 (by decide) rfl rfl ?_
  refine z_iload_n (pc2 := 17) rfl dX2_parts_16 rfl ?_
  refine z_if_ne (pc2 := 20) (tgt := 27) rfl dX2_parts_17 (by decide) (fun hc3 => ?_) (fun hc3 => ?_)
  · replace h := ab_neg hc3 h
    refine z_iload_n (pc2 := 28) rfl dX2_parts_27 rfl ?_
    refine z_iload_n (pc2 := 29) rfl dX2_parts_28 rfl ?_
    obtain ⟨hb4, h⟩ := ab_ck_e h
    refine z_idiv (pc2 := 30) rfl dX2_parts_29 (ab_nz_e hb4) ?_
    exact z_iret dX2_parts_30 rfl rfl (fi_w h)
  · replace h := ab_pos hc3 h
    refine z_aload_n (pc2 := 21) rfl dX2_parts_20 rfl ?_
    refine z_iconst (pc2 := 22) rfl dX2_parts_21 lt_i_1 ?_
    refine z_putI 21 8 2 (pc2 := 25) (ft := .boolean) rfl dX2_parts_22 rfl rfl ff_8_2 wd_155 rfl (by decide +kernel) rfl rfl ?_
    obtain ⟨s5, hs5, h⟩ := ab_lt_e h
    refine z_tops hs5 ?_
    refine z_iconst (pc2 := 26) rfl dX2_parts_25 lt_i_0 ?_
    exact z_iret dX2_parts_26 rfl rfl (fi_w h)
def f_X2_wades_29 (a2 : Int32) (σ : ab_F) : Option (Int32 × ab_F) := (f_X8_begins (10 : Int32) σ).bind (fun q1 => (some ((a2 + (q1 21 0)), q1)))
set_option maxRecDepth 100000 in
set_option maxHeartbeats 4000000 in
theorem e_X2_wades_29 {sc : Nat × (Nat → Int32)} {r : Option Nat × Option Nat} {a2 : Int32} {σ : ab_F} {res : (Int32 × ab_F)} (h : f_X2_wades_29 a2 σ = some res) : ab_E mX2_wades 1 sc 0 [some (.ref 29), some (.ref 21), some (.int a2)] [] (σ, r) (fun v S => v = some (.int res.1) ∧ S = (res.2, r)) := by
  unfold f_X2_wades_29 at h
  refine z_aload_n (pc2 := 1) rfl dX2_wades_0 rfl ?_
  refine z_bipush (pc2 := 3) rfl dX2_wades_1 lt_b_10 ?_
  obtain ⟨q1, hq1, h⟩ := ab_bnd h
  refine z_callVv 21 [.int (10 : Int32)] [some (.ref 21), some (.int (10 : Int32))] (pc2 := 6) rfl rfl dX2_wades_3 ok_X8_begins ⟨fun _ => rfl, fun _ => Nat.le_of_ble_eq_true rfl⟩ rfl rv_21 wd_831 wd_815 wd_816 rfl (e_X8_begins hq1) ?_
  refine z_iload_n (pc2 := 7) rfl dX2_wades_6 rfl ?_
  refine z_aload_n (pc2 := 8) rfl dX2_wades_7 rfl ?_
  refine z_getI 21 8 0 (pc2 := 11) rfl dX2_wades_8 rfl rfl ff_8_0 wd_148 ?_
  refine z_iadd (pc2 := 12) rfl dX2_wades_11 ?_
  exact z_iret dX2_wades_12 rfl rfl (fi_w h)
def f_X5_wades_29 (a2 : Int32) (σ : ab_F) : Option (Int32 × ab_F) := (f_X8_begins (20 : Int32) σ).bind (fun q1 => (f_X2_wades_29 a2 q1).bind (fun q2 => (some ((q2.1 - (4 : Int32)), q2.2))))
set_option maxRecDepth 100000 in
set_option maxHeartbeats 4000000 in
theorem e_X5_wades_29 {sc : Nat × (Nat → Int32)} {r : Option Nat × Option Nat} {a2 : Int32} {σ : ab_F} {res : (Int32 × ab_F)} (h : f_X5_wades_29 a2 σ = some res) : ab_E mX5_wades 2 sc 0 [some (.ref 29), some (.ref 21), some (.int a2)] [] (σ, r) (fun v S => v = some (.int res.1) ∧ S = (res.2, r)) := by
  unfold f_X5_wades_29 at h
  refine z_aload_n (pc2 := 1) rfl dX5_wades_0 rfl ?_
  refine z_bipush (pc2 := 3) rfl dX5_wades_1 lt_b_20 ?_
  obtain ⟨q1, hq1, h⟩ := ab_bnd h
  refine z_callVv 21 [.int (20 : Int32)] [some (.ref 21), some (.int (20 : Int32))] (pc2 := 6) rfl rfl dX5_wades_3 ok_X8_begins ⟨fun _ => rfl, fun _ => Nat.le_of_ble_eq_true rfl⟩ rfl rv_21 wd_821 wd_815 wd_816 rfl (e_X8_begins hq1) ?_
  refine z_aload_n (pc2 := 7) rfl dX5_wades_6 rfl ?_
  refine z_aload_n (pc2 := 8) rfl dX5_wades_7 rfl ?_
  refine z_iload_n (pc2 := 9) rfl dX5_wades_8 rfl ?_
  obtain ⟨q2, hq2, h⟩ := ab_bnd h
  refine z_callUi RX1 RX2 yX2_wades 29 [.ref 21, .int a2] [some (.ref 29), some (.ref 21), some (.int a2)] (pc2 := 12) rfl rfl dX5_wades_9 ok_X2_wades ⟨fun _ => rfl, fun _ => Nat.le_of_ble_eq_true rfl⟩ rfl rv_29 wd_822 wd_809 wd_186 (Or.inl rfl) wd_807 (by decide) rfl (e_X2_wades_29 hq2) ?_
  refine z_iconst (pc2 := 13) rfl dX5_wades_12 lt_i_4 ?_
  refine z_isub (pc2 := 14) rfl dX5_wades_13 ?_
  exact z_iret dX5_wades_14 rfl rfl (fi_w h)
def f_X1_wades_29 (a2 : Int32) (σ : ab_F) : Option (Int32 × ab_F) := (f_X8_begins (50 : Int32) σ).bind (fun q1 => (f_X5_wades_29 a2 q1).bind (fun q2 => (some ((q2.1 * (3 : Int32)), q2.2))))
set_option maxRecDepth 100000 in
set_option maxHeartbeats 4000000 in
theorem e_X1_wades_29 {sc : Nat × (Nat → Int32)} {r : Option Nat × Option Nat} {a2 : Int32} {σ : ab_F} {res : (Int32 × ab_F)} (h : f_X1_wades_29 a2 σ = some res) : ab_E mX1_wades 3 sc 0 [some (.ref 29), some (.ref 21), some (.int a2)] [] (σ, r) (fun v S => v = some (.int res.1) ∧ S = (res.2, r)) := by
  unfold f_X1_wades_29 at h
  refine z_aload_n (pc2 := 1) rfl dX1_wades_0 rfl ?_
  refine z_bipush (pc2 := 3) rfl dX1_wades_1 lt_b_50 ?_
  obtain ⟨q1, hq1, h⟩ := ab_bnd h
  refine z_callVv 21 [.int (50 : Int32)] [some (.ref 21), some (.int (50 : Int32))] (pc2 := 6) rfl rfl dX1_wades_3 ok_X8_begins ⟨fun _ => rfl, fun _ => Nat.le_of_ble_eq_true rfl⟩ rfl rv_21 wd_814 wd_815 wd_816 rfl (e_X8_begins hq1) ?_
  refine z_aload_n (pc2 := 7) rfl dX1_wades_6 rfl ?_
  refine z_aload_n (pc2 := 8) rfl dX1_wades_7 rfl ?_
  refine z_iload_n (pc2 := 9) rfl dX1_wades_8 rfl ?_
  obtain ⟨q2, hq2, h⟩ := ab_bnd h
  refine z_callUi RX1 RX5 yX5_wades 29 [.ref 21, .int a2] [some (.ref 29), some (.ref 21), some (.int a2)] (pc2 := 12) rfl rfl dX1_wades_9 ok_X5_wades ⟨fun _ => rfl, fun _ => Nat.le_of_ble_eq_true rfl⟩ rfl rv_29 wd_818 wd_1426 wd_207 (Or.inl rfl) wd_819 (by decide) rfl (e_X5_wades_29 hq2) ?_
  refine z_iconst (pc2 := 13) rfl dX1_wades_12 lt_i_3 ?_
  refine z_imul (pc2 := 14) rfl dX1_wades_13 ?_
  exact z_iret dX1_wades_14 rfl rfl (fi_w h)
def f_X2_knows_29 (a2 : Int32) (σ : ab_F) : Option (Int32 × ab_F) := (f_X8_begins (11 : Int32) σ).bind (fun q1 => (f_X1_wades_29 a2 q1).bind (fun q2 => (some ((q2.1 * (2 : Int32)), q2.2))))
set_option maxRecDepth 100000 in
set_option maxHeartbeats 4000000 in
theorem e_X2_knows_29 {sc : Nat × (Nat → Int32)} {r : Option Nat × Option Nat} {a2 : Int32} {σ : ab_F} {res : (Int32 × ab_F)} (h : f_X2_knows_29 a2 σ = some res) : ab_E mX2_knows 4 sc 0 [some (.ref 29), some (.ref 21), some (.int a2)] [] (σ, r) (fun v S => v = some (.int res.1) ∧ S = (res.2, r)) := by
  unfold f_X2_knows_29 at h
  refine z_aload_n (pc2 := 1) rfl dX2_knows_0 rfl ?_
  refine z_bipush (pc2 := 3) rfl dX2_knows_1 lt_b_11 ?_
  obtain ⟨q1, hq1, h⟩ := ab_bnd h
  refine z_callVv 21 [.int (11 : Int32)] [some (.ref 21), some (.int (11 : Int32))] (pc2 := 6) rfl rfl dX2_knows_3 ok_X8_begins ⟨fun _ => rfl, fun _ => Nat.le_of_ble_eq_true rfl⟩ rfl rv_21 wd_831 wd_815 wd_816 rfl (e_X8_begins hq1) ?_
  refine z_aload_n (pc2 := 7) rfl dX2_knows_6 rfl ?_
  refine z_aload_n (pc2 := 8) rfl dX2_knows_7 rfl ?_
  refine z_iload_n (pc2 := 9) rfl dX2_knows_8 rfl ?_
  obtain ⟨q2, hq2, h⟩ := ab_bnd h
  refine z_callOi RX1 RX2 yX2_wades cX2_wades 3 (some .int) 29 [.ref 21, .int a2] [some (.ref 29), some (.ref 21), some (.int a2)] (pc2 := 12) rfl rfl dX2_knows_9 ok_X1_wades ⟨fun _ => rfl, fun _ => Nat.le_of_ble_eq_true rfl⟩ rfl rv_29 wd_854 wd_809 wd_807 wd_811 wd_812 wd_830 ⟨by decide, by decide, rfl⟩ rfl (e_X1_wades_29 hq2) ?_
  refine z_iconst (pc2 := 13) rfl dX2_knows_12 lt_i_2 ?_
  refine z_imul (pc2 := 14) rfl dX2_knows_13 ?_
  exact z_iret dX2_knows_14 rfl rfl (fi_w h)
def f_X2_sits_29 (a2 : Int32) (σ : ab_F) : Option (Int32 × ab_F) := (f_X8_begins (12 : Int32) σ).bind (fun q1 => (f_X2_knows_29 a2 q1).bind (fun q2 => (some ((q2.1 - (q2.2 21 1)), q2.2))))
set_option maxRecDepth 100000 in
set_option maxHeartbeats 4000000 in
theorem e_X2_sits_29 {sc : Nat × (Nat → Int32)} {r : Option Nat × Option Nat} {a2 : Int32} {σ : ab_F} {res : (Int32 × ab_F)} (h : f_X2_sits_29 a2 σ = some res) : ab_E mX2_sits 5 sc 0 [some (.ref 29), some (.ref 21), some (.int a2)] [] (σ, r) (fun v S => v = some (.int res.1) ∧ S = (res.2, r)) := by
  unfold f_X2_sits_29 at h
  refine z_aload_n (pc2 := 1) rfl dX2_sits_0 rfl ?_
  refine z_bipush (pc2 := 3) rfl dX2_sits_1 lt_b_12 ?_
  obtain ⟨q1, hq1, h⟩ := ab_bnd h
  refine z_callVv 21 [.int (12 : Int32)] [some (.ref 21), some (.int (12 : Int32))] (pc2 := 6) rfl rfl dX2_sits_3 ok_X8_begins ⟨fun _ => rfl, fun _ => Nat.le_of_ble_eq_true rfl⟩ rfl rv_21 wd_831 wd_815 wd_816 rfl (e_X8_begins hq1) ?_
  refine z_aload_n (pc2 := 7) rfl dX2_sits_6 rfl ?_
  refine z_aload_n (pc2 := 8) rfl dX2_sits_7 rfl ?_
  refine z_iload_n (pc2 := 9) rfl dX2_sits_8 rfl ?_
  obtain ⟨q2, hq2, h⟩ := ab_bnd h
  refine z_callOi RX1 RX2 yX2_knows cX2_knows 3 (some .int) 29 [.ref 21, .int a2] [some (.ref 29), some (.ref 21), some (.int a2)] (pc2 := 12) rfl rfl dX2_sits_9 ok_X2_knows ⟨fun _ => rfl, fun _ => Nat.le_of_ble_eq_true rfl⟩ rfl rv_29 wd_875 wd_835 wd_833 wd_845 wd_833 wd_853 ⟨by decide, by decide, rfl⟩ rfl (e_X2_knows_29 hq2) ?_
  refine z_aload_n (pc2 := 13) rfl dX2_sits_12 rfl ?_
  refine z_getI 21 8 1 (pc2 := 16) rfl dX2_sits_13 rfl rfl ff_8_1 wd_152 ?_
  refine z_isub (pc2 := 17) rfl dX2_sits_16 ?_
  exact z_iret dX2_sits_17 rfl rfl (fi_w h)
def f_X1_sits_29 (a2 : Int32) (σ : ab_F) : Option (Int32 × ab_F) := (f_X8_begins (51 : Int32) σ).bind (fun q1 => (f_X2_sits_29 a2 q1).bind (fun q2 => (some ((q2.1 ^^^ (q2.2 21 0)), q2.2))))
set_option maxRecDepth 100000 in
set_option maxHeartbeats 4000000 in
theorem e_X1_sits_29 {sc : Nat × (Nat → Int32)} {r : Option Nat × Option Nat} {a2 : Int32} {σ : ab_F} {res : (Int32 × ab_F)} (h : f_X1_sits_29 a2 σ = some res) : ab_E mX1_sits 6 sc 0 [some (.ref 29), some (.ref 21), some (.int a2)] [] (σ, r) (fun v S => v = some (.int res.1) ∧ S = (res.2, r)) := by
  unfold f_X1_sits_29 at h
  refine z_aload_n (pc2 := 1) rfl dX1_sits_0 rfl ?_
  refine z_bipush (pc2 := 3) rfl dX1_sits_1 lt_b_51 ?_
  obtain ⟨q1, hq1, h⟩ := ab_bnd h
  refine z_callVv 21 [.int (51 : Int32)] [some (.ref 21), some (.int (51 : Int32))] (pc2 := 6) rfl rfl dX1_sits_3 ok_X8_begins ⟨fun _ => rfl, fun _ => Nat.le_of_ble_eq_true rfl⟩ rfl rv_21 wd_814 wd_815 wd_816 rfl (e_X8_begins hq1) ?_
  refine z_aload_n (pc2 := 7) rfl dX1_sits_6 rfl ?_
  refine z_aload_n (pc2 := 8) rfl dX1_sits_7 rfl ?_
  refine z_iload_n (pc2 := 9) rfl dX1_sits_8 rfl ?_
  obtain ⟨q2, hq2, h⟩ := ab_bnd h
  refine z_callUi RX1 RX2 ⟨"StiltParish$Postman", "sits", "(LStiltParish$Voice;I)I"⟩ 29 [.ref 21, .int a2] [some (.ref 29), some (.ref 21), some (.int a2)] (pc2 := 12) rfl rfl dX1_sits_9 ok_X2_sits ⟨fun _ => rfl, fun _ => Nat.le_of_ble_eq_true rfl⟩ rfl rv_29 wd_863 wd_864 wd_207 (Or.inr wd_186) wd_856 (by decide) rfl (e_X2_sits_29 hq2) ?_
  refine z_aload_n (pc2 := 13) rfl dX1_sits_12 rfl ?_
  refine z_getI 21 8 0 (pc2 := 16) rfl dX1_sits_13 rfl rfl ff_8_0 wd_149 ?_
  refine z_ixor (pc2 := 17) rfl dX1_sits_16 ?_
  exact z_iret dX1_sits_17 rfl rfl (fi_w h)
def f_X2_parts_29 (a2 : Int32) (σ : ab_F) : Option (Int32 × ab_F) := (f_X8_begins (13 : Int32) σ).bind (fun q1 => ab_lt (((q1 21 1) - (q1 21 0))) (fun x2 => (if x2 = 0 then ab_lt (ab_u q1 21 2 (1 : Int32)) (fun (s5 : ab_F) => (some ((0 : Int32), s5))) else ab_ck (ab_nz x2) ((some ((a2 / x2), q1))))))
set_option maxRecDepth 100000 in
set_option maxHeartbeats 4000000 in
theorem e_X2_parts_29 {sc : Nat × (Nat → Int32)} {r : Option Nat × Option Nat} {a2 : Int32} {σ : ab_F} {res : (Int32 × ab_F)} (h : f_X2_parts_29 a2 σ = some res) : ab_E mX2_parts 1 sc 0 [some (.ref 29), some (.ref 21), some (.int a2), none] [] (σ, r) (fun v S => v = some (.int res.1) ∧ S = (res.2, r)) := by
  unfold f_X2_parts_29 at h
  refine z_aload_n (pc2 := 1) rfl dX2_parts_0 rfl ?_
  refine z_bipush (pc2 := 3) rfl dX2_parts_1 lt_b_13 ?_
  obtain ⟨q1, hq1, h⟩ := ab_bnd h
  refine z_callVv 21 [.int (13 : Int32)] [some (.ref 21), some (.int (13 : Int32))] (pc2 := 6) rfl rfl dX2_parts_3 ok_X8_begins ⟨fun _ => rfl, fun _ => Nat.le_of_ble_eq_true rfl⟩ rfl rv_21 wd_831 wd_815 wd_816 rfl (e_X8_begins hq1) ?_
  refine z_aload_n (pc2 := 7) rfl dX2_parts_6 rfl ?_
  refine z_getI 21 8 1 (pc2 := 10) rfl dX2_parts_7 rfl rfl ff_8_1 wd_152 ?_
  refine z_aload_n (pc2 := 11) rfl dX2_parts_10 rfl ?_
  refine z_getI 21 8 0 (pc2 := 14) rfl dX2_parts_11 rfl rfl ff_8_0 wd_148 ?_
  refine z_isub (pc2 := 15) rfl dX2_parts_14 ?_
  obtain ⟨x2, hxx2, h⟩ := ab_lt_e h
  refine z_top hxx2 ?_
  refine z_istore_n (pc2 := 16) (L2 := [some (.ref 29), some (.ref 21), some (.int a2), some (.int x2)]) rfl dX2_parts_15 (by decide) rfl rfl ?_
  refine z_iload_n (pc2 := 17) rfl dX2_parts_16 rfl ?_
  refine z_if_ne (pc2 := 20) (tgt := 27) rfl dX2_parts_17 (by decide) (fun hc3 => ?_) (fun hc3 => ?_)
  · replace h := ab_neg hc3 h
    refine z_iload_n (pc2 := 28) rfl dX2_parts_27 rfl ?_
    refine z_iload_n (pc2 := 29) rfl dX2_parts_28 rfl ?_
    obtain ⟨hb4, h⟩ := ab_ck_e h
    refine z_idiv (pc2 := 30) rfl dX2_parts_29 (ab_nz_e hb4) ?_
    exact z_iret dX2_parts_30 rfl rfl (fi_w h)
  · replace h := ab_pos hc3 h
    refine z_aload_n (pc2 := 21) rfl dX2_parts_20 rfl ?_
    refine z_iconst (pc2 := 22) rfl dX2_parts_21 lt_i_1 ?_
    refine z_putI 21 8 2 (pc2 := 25) (ft := .boolean) rfl dX2_parts_22 rfl rfl ff_8_2 wd_155 rfl (by decide +kernel) rfl rfl ?_
    obtain ⟨s5, hs5, h⟩ := ab_lt_e h
    refine z_tops hs5 ?_
    refine z_iconst (pc2 := 26) rfl dX2_parts_25 lt_i_0 ?_
    exact z_iret dX2_parts_26 rfl rfl (fi_w h)
def f_X5_parts_29 (a2 : Int32) (σ : ab_F) : Option (Int32 × ab_F) := (f_X8_begins (21 : Int32) σ).bind (fun q1 => (f_X2_parts_29 a2 q1).bind (fun q2 => ab_lt (q2.1) (fun x3 => (if (q2.2 21 2) = 0 then (f_X2_knows_29 (1 : Int32) q2.2).bind (fun q5 => (some ((x3 + q5.1), q5.2))) else (some ((0 : Int32), q2.2))))))
set_option maxRecDepth 100000 in
set_option maxHeartbeats 4000000 in
theorem e_X5_parts_29 {sc : Nat × (Nat → Int32)} {r : Option Nat × Option Nat} {a2 : Int32} {σ : ab_F} {res : (Int32 × ab_F)} (h : f_X5_parts_29 a2 σ = some res) : ab_E mX5_parts 5 sc 0 [some (.ref 29), some (.ref 21), some (.int a2), none] [] (σ, r) (fun v S => v = some (.int res.1) ∧ S = (res.2, r)) := by
  unfold f_X5_parts_29 at h
  refine z_aload_n (pc2 := 1) rfl dX5_parts_0 rfl ?_
  refine z_bipush (pc2 := 3) rfl dX5_parts_1 lt_b_21 ?_
  obtain ⟨q1, hq1, h⟩ := ab_bnd h
  refine z_callVv 21 [.int (21 : Int32)] [some (.ref 21), some (.int (21 : Int32))] (pc2 := 6) rfl rfl dX5_parts_3 ok_X8_begins ⟨fun _ => rfl, fun _ => Nat.le_of_ble_eq_true rfl⟩ rfl rv_21 wd_821 wd_815 wd_816 rfl (e_X8_begins hq1) ?_
  refine z_aload_n (pc2 := 7) rfl dX5_parts_6 rfl ?_
  refine z_aload_n (pc2 := 8) rfl dX5_parts_7 rfl ?_
  refine z_iload_n (pc2 := 9) rfl dX5_parts_8 rfl ?_
  obtain ⟨q2, hq2, h⟩ := ab_bnd h
  refine z_callUi RX1 RX2 yX2_parts 29 [.ref 21, .int a2] [some (.ref 29), some (.ref 21), some (.int a2), none] (pc2 := 12) rfl rfl dX5_parts_9 ok_X2_parts ⟨fun _ => rfl, fun _ => Nat.le_of_ble_eq_true rfl⟩ rfl rv_29 wd_884 wd_879 wd_186 (Or.inl rfl) wd_877 (by decide) rfl (e_X2_parts_29 hq2) ?_
  obtain ⟨x3, hxx3, h⟩ := ab_lt_e h
  refine z_top hxx3 ?_
  refine z_istore_n (pc2 := 13) (L2 := [some (.ref 29), some (.ref 21), some (.int a2), some (.int x3)]) rfl dX5_parts_12 (by decide) rfl rfl ?_
  refine z_aload_n (pc2 := 14) rfl dX5_parts_13 rfl ?_
  refine z_getI 21 8 2 (pc2 := 17) rfl dX5_parts_14 rfl rfl ff_8_2 wd_154 ?_
  refine z_if_eq (pc2 := 20) (tgt := 24) rfl dX5_parts_17 (by decide) (fun hc4 => ?_) (fun hc4 => ?_)
  · replace h := ab_pos hc4 h
    refine z_iload_n (pc2 := 25) rfl dX5_parts_24 rfl ?_
    refine z_aload_n (pc2 := 26) rfl dX5_parts_25 rfl ?_
    refine z_aload_n (pc2 := 27) rfl dX5_parts_26 rfl ?_
    refine z_iconst (pc2 := 28) rfl dX5_parts_27 lt_i_1 ?_
    obtain ⟨q5, hq5, h⟩ := ab_bnd h
    refine z_callOi RX1 RX2 ⟨"StiltParish$Postman", "knows", "(LStiltParish$Voice;I)I"⟩ cX2_knows 3 (some .int) 29 [.ref 21, .int (1 : Int32)] [some (.ref 29), some (.ref 21), some (.int (1 : Int32))] (pc2 := 31) rfl rfl dX5_parts_28 ok_X2_knows ⟨fun _ => rfl, fun _ => Nat.le_of_ble_eq_true rfl⟩ rfl rv_29 wd_885 wd_886 wd_833 wd_888 wd_833 wd_853 ⟨by decide, by decide, rfl⟩ rfl (e_X2_knows_29 hq5) ?_
    refine z_iadd (pc2 := 32) rfl dX5_parts_31 ?_
    exact z_iret dX5_parts_32 rfl rfl (fi_w h)
  · replace h := ab_neg hc4 h
    refine z_iconst (pc2 := 21) rfl dX5_parts_20 lt_i_0 ?_
    refine ab_goto (tgt := 32) dX5_parts_21 (by decide) ?_
    exact z_iret dX5_parts_32 rfl rfl (fi_w h)
def f_X2_wades_30 (a2 : Int32) (σ : ab_F) : Option (Int32 × ab_F) := (f_X8_begins (10 : Int32) σ).bind (fun q1 => (some ((a2 + (q1 21 0)), q1)))
set_option maxRecDepth 100000 in
set_option maxHeartbeats 4000000 in
theorem e_X2_wades_30 {sc : Nat × (Nat → Int32)} {r : Option Nat × Option Nat} {a2 : Int32} {σ : ab_F} {res : (Int32 × ab_F)} (h : f_X2_wades_30 a2 σ = some res) : ab_E mX2_wades 1 sc 0 [some (.ref 30), some (.ref 21), some (.int a2)] [] (σ, r) (fun v S => v = some (.int res.1) ∧ S = (res.2, r)) := by
  unfold f_X2_wades_30 at h
  refine z_aload_n (pc2 := 1) rfl dX2_wades_0 rfl ?_
  refine z_bipush (pc2 := 3) rfl dX2_wades_1 lt_b_10 ?_
  obtain ⟨q1, hq1, h⟩ := ab_bnd h
  refine z_callVv 21 [.int (10 : Int32)] [some (.ref 21), some (.int (10 : Int32))] (pc2 := 6) rfl rfl dX2_wades_3 ok_X8_begins ⟨fun _ => rfl, fun _ => Nat.le_of_ble_eq_true rfl⟩ rfl rv_21 wd_831 wd_815 wd_816 rfl (e_X8_begins hq1) ?_
  refine z_iload_n (pc2 := 7) rfl dX2_wades_6 rfl ?_
  refine z_aload_n (pc2 := 8) rfl dX2_wades_7 rfl ?_
  refine z_getI 21 8 0 (pc2 := 11) rfl dX2_wades_8 rfl rfl ff_8_0 wd_148 ?_
  refine z_iadd (pc2 := 12) rfl dX2_wades_11 ?_
  exact z_iret dX2_wades_12 rfl rfl (fi_w h)
def f_X2_knows_30 (a2 : Int32) (σ : ab_F) : Option (Int32 × ab_F) := (f_X8_begins (11 : Int32) σ).bind (fun q1 => (f_X2_wades_30 a2 q1).bind (fun q2 => (some ((q2.1 * (2 : Int32)), q2.2))))
set_option maxRecDepth 100000 in
set_option maxHeartbeats 4000000 in
theorem e_X2_knows_30 {sc : Nat × (Nat → Int32)} {r : Option Nat × Option Nat} {a2 : Int32} {σ : ab_F} {res : (Int32 × ab_F)} (h : f_X2_knows_30 a2 σ = some res) : ab_E mX2_knows 2 sc 0 [some (.ref 30), some (.ref 21), some (.int a2)] [] (σ, r) (fun v S => v = some (.int res.1) ∧ S = (res.2, r)) := by
  unfold f_X2_knows_30 at h
  refine z_aload_n (pc2 := 1) rfl dX2_knows_0 rfl ?_
  refine z_bipush (pc2 := 3) rfl dX2_knows_1 lt_b_11 ?_
  obtain ⟨q1, hq1, h⟩ := ab_bnd h
  refine z_callVv 21 [.int (11 : Int32)] [some (.ref 21), some (.int (11 : Int32))] (pc2 := 6) rfl rfl dX2_knows_3 ok_X8_begins ⟨fun _ => rfl, fun _ => Nat.le_of_ble_eq_true rfl⟩ rfl rv_21 wd_831 wd_815 wd_816 rfl (e_X8_begins hq1) ?_
  refine z_aload_n (pc2 := 7) rfl dX2_knows_6 rfl ?_
  refine z_aload_n (pc2 := 8) rfl dX2_knows_7 rfl ?_
  refine z_iload_n (pc2 := 9) rfl dX2_knows_8 rfl ?_
  obtain ⟨q2, hq2, h⟩ := ab_bnd h
  refine z_callOi RX0 RX2 yX2_wades cX2_wades 3 (some .int) 30 [.ref 21, .int a2] [some (.ref 30), some (.ref 21), some (.int a2)] (pc2 := 12) rfl rfl dX2_knows_9 ok_X2_wades ⟨fun _ => rfl, fun _ => Nat.le_of_ble_eq_true rfl⟩ rfl rv_30 wd_854 wd_809 wd_807 wd_810 wd_807 wd_830 ⟨by decide, by decide, rfl⟩ rfl (e_X2_wades_30 hq2) ?_
  refine z_iconst (pc2 := 13) rfl dX2_knows_12 lt_i_2 ?_
  refine z_imul (pc2 := 14) rfl dX2_knows_13 ?_
  exact z_iret dX2_knows_14 rfl rfl (fi_w h)
def f_X10_knows_30 (a2 : Int32) (σ : ab_F) : Option (Int32 × ab_F) := (f_X8_begins (30 : Int32) σ).bind (fun q1 => (f_X2_knows_30 a2 q1).bind (fun q2 => (some (((0 : Int32) - q2.1), q2.2))))
set_option maxRecDepth 100000 in
set_option maxHeartbeats 4000000 in
theorem e_X10_knows_30 {sc : Nat × (Nat → Int32)} {r : Option Nat × Option Nat} {a2 : Int32} {σ : ab_F} {res : (Int32 × ab_F)} (h : f_X10_knows_30 a2 σ = some res) : ab_E mX10_knows 3 sc 0 [some (.ref 30), some (.ref 21), some (.int a2)] [] (σ, r) (fun v S => v = some (.int res.1) ∧ S = (res.2, r)) := by
  unfold f_X10_knows_30 at h
  refine z_aload_n (pc2 := 1) rfl dX10_knows_0 rfl ?_
  refine z_bipush (pc2 := 3) rfl dX10_knows_1 lt_b_30 ?_
  obtain ⟨q1, hq1, h⟩ := ab_bnd h
  refine z_callVv 21 [.int (30 : Int32)] [some (.ref 21), some (.int (30 : Int32))] (pc2 := 6) rfl rfl dX10_knows_3 ok_X8_begins ⟨fun _ => rfl, fun _ => Nat.le_of_ble_eq_true rfl⟩ rfl rv_21 wd_843 wd_815 wd_816 rfl (e_X8_begins hq1) ?_
  refine z_iconst (pc2 := 7) rfl dX10_knows_6 lt_i_0 ?_
  refine z_aload_n (pc2 := 8) rfl dX10_knows_7 rfl ?_
  refine z_aload_n (pc2 := 9) rfl dX10_knows_8 rfl ?_
  refine z_iload_n (pc2 := 10) rfl dX10_knows_9 rfl ?_
  obtain ⟨q2, hq2, h⟩ := ab_bnd h
  refine z_callUi RX0 RX2 yX2_knows 30 [.ref 21, .int a2] [some (.ref 30), some (.ref 21), some (.int a2)] (pc2 := 13) rfl rfl dX10_knows_10 ok_X2_knows ⟨fun _ => rfl, fun _ => Nat.le_of_ble_eq_true rfl⟩ rfl rv_30 wd_844 wd_835 wd_193 (Or.inl rfl) wd_833 (by decide) rfl (e_X2_knows_30 hq2) ?_
  refine z_isub (pc2 := 14) rfl dX10_knows_13 ?_
  exact z_iret dX10_knows_14 rfl rfl (fi_w h)
def f_X0_knows_30 (a2 : Int32) (σ : ab_F) : Option (Int32 × ab_F) := (f_X8_begins (60 : Int32) σ).bind (fun q1 => (f_X10_knows_30 (a2 + (1 : Int32)) q1).bind (fun q2 => (some (q2.1, q2.2))))
set_option maxRecDepth 100000 in
set_option maxHeartbeats 4000000 in
theorem e_X0_knows_30 {sc : Nat × (Nat → Int32)} {r : Option Nat × Option Nat} {a2 : Int32} {σ : ab_F} {res : (Int32 × ab_F)} (h : f_X0_knows_30 a2 σ = some res) : ab_E mX0_knows 4 sc 0 [some (.ref 30), some (.ref 21), some (.int a2)] [] (σ, r) (fun v S => v = some (.int res.1) ∧ S = (res.2, r)) := by
  unfold f_X0_knows_30 at h
  refine z_aload_n (pc2 := 1) rfl dX0_knows_0 rfl ?_
  refine z_bipush (pc2 := 3) rfl dX0_knows_1 lt_b_60 ?_
  obtain ⟨q1, hq1, h⟩ := ab_bnd h
  refine z_callVv 21 [.int (60 : Int32)] [some (.ref 21), some (.int (60 : Int32))] (pc2 := 6) rfl rfl dX0_knows_3 ok_X8_begins ⟨fun _ => rfl, fun _ => Nat.le_of_ble_eq_true rfl⟩ rfl rv_21 wd_839 wd_815 wd_816 rfl (e_X8_begins hq1) ?_
  refine z_aload_n (pc2 := 7) rfl dX0_knows_6 rfl ?_
  refine z_aload_n (pc2 := 8) rfl dX0_knows_7 rfl ?_
  refine z_iload_n (pc2 := 9) rfl dX0_knows_8 rfl ?_
  refine z_iconst (pc2 := 10) rfl dX0_knows_9 lt_i_1 ?_
  refine z_iadd (pc2 := 11) rfl dX0_knows_10 ?_
  obtain ⟨q2, hq2, h⟩ := ab_bnd h
  refine z_callUi RX0 RX10 yX10_knows 30 [.ref 21, .int (a2 + (1 : Int32))] [some (.ref 30), some (.ref 21), some (.int (a2 + (1 : Int32)))] (pc2 := 14) rfl rfl dX0_knows_11 ok_X10_knows ⟨fun _ => rfl, fun _ => Nat.le_of_ble_eq_true rfl⟩ rfl rv_30 wd_840 wd_1427 wd_214 (Or.inl rfl) wd_841 (by decide) rfl (e_X10_knows_30 hq2) ?_
  exact z_iret dX0_knows_14 rfl rfl (fi_w h)
def f_X2_sits_30 (a2 : Int32) (σ : ab_F) : Option (Int32 × ab_F) := (f_X8_begins (12 : Int32) σ).bind (fun q1 => (f_X0_knows_30 a2 q1).bind (fun q2 => (some ((q2.1 - (q2.2 21 1)), q2.2))))
set_option maxRecDepth 100000 in
set_option maxHeartbeats 4000000 in
theorem e_X2_sits_30 {sc : Nat × (Nat → Int32)} {r : Option Nat × Option Nat} {a2 : Int32} {σ : ab_F} {res : (Int32 × ab_F)} (h : f_X2_sits_30 a2 σ = some res) : ab_E mX2_sits 5 sc 0 [some (.ref 30), some (.ref 21), some (.int a2)] [] (σ, r) (fun v S => v = some (.int res.1) ∧ S = (res.2, r)) := by
  unfold f_X2_sits_30 at h
  refine z_aload_n (pc2 := 1) rfl dX2_sits_0 rfl ?_
  refine z_bipush (pc2 := 3) rfl dX2_sits_1 lt_b_12 ?_
  obtain ⟨q1, hq1, h⟩ := ab_bnd h
  refine z_callVv 21 [.int (12 : Int32)] [some (.ref 21), some (.int (12 : Int32))] (pc2 := 6) rfl rfl dX2_sits_3 ok_X8_begins ⟨fun _ => rfl, fun _ => Nat.le_of_ble_eq_true rfl⟩ rfl rv_21 wd_831 wd_815 wd_816 rfl (e_X8_begins hq1) ?_
  refine z_aload_n (pc2 := 7) rfl dX2_sits_6 rfl ?_
  refine z_aload_n (pc2 := 8) rfl dX2_sits_7 rfl ?_
  refine z_iload_n (pc2 := 9) rfl dX2_sits_8 rfl ?_
  obtain ⟨q2, hq2, h⟩ := ab_bnd h
  refine z_callOi RX0 RX2 yX2_knows cX2_knows 3 (some .int) 30 [.ref 21, .int a2] [some (.ref 30), some (.ref 21), some (.int a2)] (pc2 := 12) rfl rfl dX2_sits_9 ok_X0_knows ⟨fun _ => rfl, fun _ => Nat.le_of_ble_eq_true rfl⟩ rfl rv_30 wd_875 wd_835 wd_833 wd_836 wd_837 wd_853 ⟨by decide, by decide, rfl⟩ rfl (e_X0_knows_30 hq2) ?_
  refine z_aload_n (pc2 := 13) rfl dX2_sits_12 rfl ?_
  refine z_getI 21 8 1 (pc2 := 16) rfl dX2_sits_13 rfl rfl ff_8_1 wd_152 ?_
  refine z_isub (pc2 := 17) rfl dX2_sits_16 ?_
  exact z_iret dX2_sits_17 rfl rfl (fi_w h)
def f_X2_parts_30 (a2 : Int32) (σ : ab_F) : Option (Int32 × ab_F) := (f_X8_begins (13 : Int32) σ).bind (fun q1 => ab_lt (((q1 21 1) - (q1 21 0))) (fun x2 => (if x2 = 0 then ab_lt (ab_u q1 21 2 (1 : Int32)) (fun (s5 : ab_F) => (some ((0 : Int32), s5))) else ab_ck (ab_nz x2) ((some ((a2 / x2), q1))))))
set_option maxRecDepth 100000 in
set_option maxHeartbeats 4000000 in
theorem e_X2_parts_30 {sc : Nat × (Nat → Int32)} {r : Option Nat × Option Nat} {a2 : Int32} {σ : ab_F} {res : (Int32 × ab_F)} (h : f_X2_parts_30 a2 σ = some res) : ab_E mX2_parts 1 sc 0 [some (.ref 30), some (.ref 21), some (.int a2), none] [] (σ, r) (fun v S => v = some (.int res.1) ∧ S = (res.2, r)) := by
  unfold f_X2_parts_30 at h
  refine z_aload_n (pc2 := 1) rfl dX2_parts_0 rfl ?_
  refine z_bipush (pc2 := 3) rfl dX2_parts_1 lt_b_13 ?_
  obtain ⟨q1, hq1, h⟩ := ab_bnd h
  refine z_callVv 21 [.int (13 : Int32)] [some (.ref 21), some (.int (13 : Int32))] (pc2 := 6) rfl rfl dX2_parts_3 ok_X8_begins ⟨fun _ => rfl, fun _ => Nat.le_of_ble_eq_true rfl⟩ rfl rv_21 wd_831 wd_815 wd_816 rfl (e_X8_begins hq1) ?_
  refine z_aload_n (pc2 := 7) rfl dX2_parts_6 rfl ?_
  refine z_getI 21 8 1 (pc2 := 10) rfl dX2_parts_7 rfl rfl ff_8_1 wd_152 ?_
  refine z_aload_n (pc2 := 11) rfl dX2_parts_10 rfl ?_
  refine z_getI 21 8 0 (pc2 := 14) rfl dX2_parts_11 rfl rfl ff_8_0 wd_148 ?_
  refine z_isub (pc2 := 15) rfl dX2_parts_14 ?_
  obtain ⟨x2, hxx2, h⟩ := ab_lt_e h
  refine z_top hxx2 ?_
  refine z_istore_n (pc2 := 16) (L2 := [some (.ref 30), some (.ref 21), some (.int a2), some (.int x2)]) rfl dX2_parts_15 (by decide) rfl rfl ?_
  refine z_iload_n (pc2 := 17) rfl dX2_parts_16 rfl ?_
  refine z_if_ne (pc2 := 20) (tgt := 27) rfl dX2_parts_17 (by decide) (fun hc3 => ?_) (fun hc3 => ?_)
  · replace h := ab_neg hc3 h
    refine z_iload_n (pc2 := 28) rfl dX2_parts_27 rfl ?_
    refine z_iload_n (pc2 := 29) rfl dX2_parts_28 rfl ?_
    obtain ⟨hb4, h⟩ := ab_ck_e h
    refine z_idiv (pc2 := 30) rfl dX2_parts_29 (ab_nz_e hb4) ?_
    exact z_iret dX2_parts_30 rfl rfl (fi_w h)
  · replace h := ab_pos hc3 h
    refine z_aload_n (pc2 := 21) rfl dX2_parts_20 rfl ?_
    refine z_iconst (pc2 := 22) rfl dX2_parts_21 lt_i_1 ?_
    refine z_putI 21 8 2 (pc2 := 25) (ft := .boolean) rfl dX2_parts_22 rfl rfl ff_8_2 wd_155 rfl (by decide +kernel) rfl rfl ?_
    obtain ⟨s5, hs5, h⟩ := ab_lt_e h
    refine z_tops hs5 ?_
    refine z_iconst (pc2 := 26) rfl dX2_parts_25 lt_i_0 ?_
    exact z_iret dX2_parts_26 rfl rfl (fi_w h)
def f_X4_wades_31 (a2 : Int32) (σ : ab_F) : Option (Int32 × ab_F) := (f_X8_begins (70 : Int32) σ).bind (fun q1 => (some ((9 : Int32), q1)))
set_option maxRecDepth 100000 in
set_option maxHeartbeats 4000000 in
theorem e_X4_wades_31 {sc : Nat × (Nat → Int32)} {r : Option Nat × Option Nat} {a2 : Int32} {σ : ab_F} {res : (Int32 × ab_F)} (h : f_X4_wades_31 a2 σ = some res) : ab_E mX4_wades 1 sc 0 [some (.ref 31), some (.ref 21), some (.int a2)] [] (σ, r) (fun v S => v = some (.int res.1) ∧ S = (res.2, r)) := by
  unfold f_X4_wades_31 at h
  refine z_aload_n (pc2 := 1) rfl dX4_wades_0 rfl ?_
  refine z_bipush (pc2 := 3) rfl dX4_wades_1 lt_b_70 ?_
  obtain ⟨q1, hq1, h⟩ := ab_bnd h
  refine z_callVv 21 [.int (70 : Int32)] [some (.ref 21), some (.int (70 : Int32))] (pc2 := 6) rfl rfl dX4_wades_3 ok_X8_begins ⟨fun _ => rfl, fun _ => Nat.le_of_ble_eq_true rfl⟩ rfl rv_21 wd_827 wd_815 wd_816 rfl (e_X8_begins hq1) ?_
  refine z_bipush (pc2 := 8) rfl dX4_wades_6 lt_b_9 ?_
  exact z_iret dX4_wades_8 rfl rfl (fi_w h)
def f_X2_knows_31 (a2 : Int32) (σ : ab_F) : Option (Int32 × ab_F) := (f_X8_begins (11 : Int32) σ).bind (fun q1 => (f_X4_wades_31 a2 q1).bind (fun q2 => (some ((q2.1 * (2 : Int32)), q2.2))))
set_option maxRecDepth 100000 in
set_option maxHeartbeats 4000000 in
theorem e_X2_knows_31 {sc : Nat × (Nat → Int32)} {r : Option Nat × Option Nat} {a2 : Int32} {σ : ab_F} {res : (Int32 × ab_F)} (h : f_X2_knows_31 a2 σ = some res) : ab_E mX2_knows 2 sc 0 [some (.ref 31), some (.ref 21), some (.int a2)] [] (σ, r) (fun v S => v = some (.int res.1) ∧ S = (res.2, r)) := by
  unfold f_X2_knows_31 at h
  refine z_aload_n (pc2 := 1) rfl dX2_knows_0 rfl ?_
  refine z_bipush (pc2 := 3) rfl dX2_knows_1 lt_b_11 ?_
  obtain ⟨q1, hq1, h⟩ := ab_bnd h
  refine z_callVv 21 [.int (11 : Int32)] [some (.ref 21), some (.int (11 : Int32))] (pc2 := 6) rfl rfl dX2_knows_3 ok_X8_begins ⟨fun _ => rfl, fun _ => Nat.le_of_ble_eq_true rfl⟩ rfl rv_21 wd_831 wd_815 wd_816 rfl (e_X8_begins hq1) ?_
  refine z_aload_n (pc2 := 7) rfl dX2_knows_6 rfl ?_
  refine z_aload_n (pc2 := 8) rfl dX2_knows_7 rfl ?_
  refine z_iload_n (pc2 := 9) rfl dX2_knows_8 rfl ?_
  obtain ⟨q2, hq2, h⟩ := ab_bnd h
  refine z_callOi RX4 RX2 yX2_wades cX2_wades 3 (some .int) 31 [.ref 21, .int a2] [some (.ref 31), some (.ref 21), some (.int a2)] (pc2 := 12) rfl rfl dX2_knows_9 ok_X4_wades ⟨fun _ => rfl, fun _ => Nat.le_of_ble_eq_true rfl⟩ rfl rv_31 wd_854 wd_809 wd_807 wd_824 wd_825 wd_830 ⟨by decide, by decide, rfl⟩ rfl (e_X4_wades_31 hq2) ?_
  refine z_iconst (pc2 := 13) rfl dX2_knows_12 lt_i_2 ?_
  refine z_imul (pc2 := 14) rfl dX2_knows_13 ?_
  exact z_iret dX2_knows_14 rfl rfl (fi_w h)
def f_X4_knows_31 (a2 : Int32) (σ : ab_F) : Option (Int32 × ab_F) := (f_X8_begins (71 : Int32) σ).bind (fun q1 => (f_X2_knows_31 a2 q1).bind (fun q2 => (some ((q2.1 + (q2.2 21 1)), q2.2))))
set_option maxRecDepth 100000 in
set_option maxHeartbeats 4000000 in
theorem e_X4_knows_31 {sc : Nat × (Nat → Int32)} {r : Option Nat × Option Nat} {a2 : Int32} {σ : ab_F} {res : (Int32 × ab_F)} (h : f_X4_knows_31 a2 σ = some res) : ab_E mX4_knows 3 sc 0 [some (.ref 31), some (.ref 21), some (.int a2)] [] (σ, r) (fun v S => v = some (.int res.1) ∧ S = (res.2, r)) := by
  unfold f_X4_knows_31 at h
  refine z_aload_n (pc2 := 1) rfl dX4_knows_0 rfl ?_
  refine z_bipush (pc2 := 3) rfl dX4_knows_1 lt_b_71 ?_
  obtain ⟨q1, hq1, h⟩ := ab_bnd h
  refine z_callVv 21 [.int (71 : Int32)] [some (.ref 21), some (.int (71 : Int32))] (pc2 := 6) rfl rfl dX4_knows_3 ok_X8_begins ⟨fun _ => rfl, fun _ => Nat.le_of_ble_eq_true rfl⟩ rfl rv_21 wd_827 wd_815 wd_816 rfl (e_X8_begins hq1) ?_
  refine z_aload_n (pc2 := 7) rfl dX4_knows_6 rfl ?_
  refine z_aload_n (pc2 := 8) rfl dX4_knows_7 rfl ?_
  refine z_iload_n (pc2 := 9) rfl dX4_knows_8 rfl ?_
  obtain ⟨q2, hq2, h⟩ := ab_bnd h
  refine z_callUi RX4 RX2 yX2_knows 31 [.ref 21, .int a2] [some (.ref 31), some (.ref 21), some (.int a2)] (pc2 := 12) rfl rfl dX4_knows_9 ok_X2_knows ⟨fun _ => rfl, fun _ => Nat.le_of_ble_eq_true rfl⟩ rfl rv_31 wd_850 wd_835 wd_221 (Or.inl rfl) wd_833 (by decide) rfl (e_X2_knows_31 hq2) ?_
  refine z_aload_n (pc2 := 13) rfl dX4_knows_12 rfl ?_
  refine z_getI 21 8 1 (pc2 := 16) rfl dX4_knows_13 rfl rfl ff_8_1 wd_151 ?_
  refine z_iadd (pc2 := 17) rfl dX4_knows_16 ?_
  exact z_iret dX4_knows_17 rfl rfl (fi_w h)
def f_X2_sits_31 (a2 : Int32) (σ : ab_F) : Option (Int32 × ab_F) := (f_X8_begins (12 : Int32) σ).bind (fun q1 => (f_X4_knows_31 a2 q1).bind (fun q2 => (some ((q2.1 - (q2.2 21 1)), q2.2))))
set_option maxRecDepth 100000 in
set_option maxHeartbeats 4000000 in
theorem e_X2_sits_31 {sc : Nat × (Nat → Int32)} {r : Option Nat × Option Nat} {a2 : Int32} {σ : ab_F} {res : (Int32 × ab_F)} (h : f_X2_sits_31 a2 σ = some res) : ab_E mX2_sits 4 sc 0 [some (.ref 31), some (.ref 21), some (.int a2)] [] (σ, r) (fun v S => v = some (.int res.1) ∧ S = (res.2, r)) := by
  unfold f_X2_sits_31 at h
  refine z_aload_n (pc2 := 1) rfl dX2_sits_0 rfl ?_
  refine z_bipush (pc2 := 3) rfl dX2_sits_1 lt_b_12 ?_
  obtain ⟨q1, hq1, h⟩ := ab_bnd h
  refine z_callVv 21 [.int (12 : Int32)] [some (.ref 21), some (.int (12 : Int32))] (pc2 := 6) rfl rfl dX2_sits_3 ok_X8_begins ⟨fun _ => rfl, fun _ => Nat.le_of_ble_eq_true rfl⟩ rfl rv_21 wd_831 wd_815 wd_816 rfl (e_X8_begins hq1) ?_
  refine z_aload_n (pc2 := 7) rfl dX2_sits_6 rfl ?_
  refine z_aload_n (pc2 := 8) rfl dX2_sits_7 rfl ?_
  refine z_iload_n (pc2 := 9) rfl dX2_sits_8 rfl ?_
  obtain ⟨q2, hq2, h⟩ := ab_bnd h
  refine z_callOi RX4 RX2 yX2_knows cX2_knows 3 (some .int) 31 [.ref 21, .int a2] [some (.ref 31), some (.ref 21), some (.int a2)] (pc2 := 12) rfl rfl dX2_sits_9 ok_X4_knows ⟨fun _ => rfl, fun _ => Nat.le_of_ble_eq_true rfl⟩ rfl rv_31 wd_875 wd_835 wd_833 wd_847 wd_848 wd_853 ⟨by decide, by decide, rfl⟩ rfl (e_X4_knows_31 hq2) ?_
  refine z_aload_n (pc2 := 13) rfl dX2_sits_12 rfl ?_
  refine z_getI 21 8 1 (pc2 := 16) rfl dX2_sits_13 rfl rfl ff_8_1 wd_152 ?_
  refine z_isub (pc2 := 17) rfl dX2_sits_16 ?_
  exact z_iret dX2_sits_17 rfl rfl (fi_w h)
def f_X2_parts_31 (a2 : Int32) (σ : ab_F) : Option (Int32 × ab_F) := (f_X8_begins (13 : Int32) σ).bind (fun q1 => ab_lt (((q1 21 1) - (q1 21 0))) (fun x2 => (if x2 = 0 then ab_lt (ab_u q1 21 2 (1 : Int32)) (fun (s5 : ab_F) => (some ((0 : Int32), s5))) else ab_ck (ab_nz x2) ((some ((a2 / x2), q1))))))
set_option maxRecDepth 100000 in
set_option maxHeartbeats 4000000 in
theorem e_X2_parts_31 {sc : Nat × (Nat → Int32)} {r : Option Nat × Option Nat} {a2 : Int32} {σ : ab_F} {res : (Int32 × ab_F)} (h : f_X2_parts_31 a2 σ = some res) : ab_E mX2_parts 1 sc 0 [some (.ref 31), some (.ref 21), some (.int a2), none] [] (σ, r) (fun v S => v = some (.int res.1) ∧ S = (res.2, r)) := by
  unfold f_X2_parts_31 at h
  refine z_aload_n (pc2 := 1) rfl dX2_parts_0 rfl ?_
  refine z_bipush (pc2 := 3) rfl dX2_parts_1 lt_b_13 ?_
  obtain ⟨q1, hq1, h⟩ := ab_bnd h
  refine z_callVv 21 [.int (13 : Int32)] [some (.ref 21), some (.int (13 : Int32))] (pc2 := 6) rfl rfl dX2_parts_3 ok_X8_begins ⟨fun _ => rfl, fun _ => Nat.le_of_ble_eq_true rfl⟩ rfl rv_21 wd_831 wd_815 wd_816 rfl (e_X8_begins hq1) ?_
  refine z_aload_n (pc2 := 7) rfl dX2_parts_6 rfl ?_
  refine z_getI 21 8 1 (pc2 := 10) rfl dX2_parts_7 rfl rfl ff_8_1 wd_152 ?_
  refine z_aload_n (pc2 := 11) rfl dX2_parts_10 rfl ?_
  refine z_getI 21 8 0 (pc2 := 14) rfl dX2_parts_11 rfl rfl ff_8_0 wd_148 ?_
  refine z_isub (pc2 := 15) rfl dX2_parts_14 ?_
  obtain ⟨x2, hxx2, h⟩ := ab_lt_e h
  refine z_top hxx2 ?_
  refine z_istore_n (pc2 := 16) (L2 := [some (.ref 31), some (.ref 21), some (.int a2), some (.int x2)]) rfl dX2_parts_15 (by decide) rfl rfl ?_
  refine z_iload_n (pc2 := 17) rfl dX2_parts_16 rfl ?_
  refine z_if_ne (pc2 := 20) (tgt := 27) rfl dX2_parts_17 (by decide) (fun hc3 => ?_) (fun hc3 => ?_)
  · replace h := ab_neg hc3 h
    refine z_iload_n (pc2 := 28) rfl dX2_parts_27 rfl ?_
    refine z_iload_n (pc2 := 29) rfl dX2_parts_28 rfl ?_
    obtain ⟨hb4, h⟩ := ab_ck_e h
    refine z_idiv (pc2 := 30) rfl dX2_parts_29 (ab_nz_e hb4) ?_
    exact z_iret dX2_parts_30 rfl rfl (fi_w h)
  · replace h := ab_pos hc3 h
    refine z_aload_n (pc2 := 21) rfl dX2_parts_20 rfl ?_
    refine z_iconst (pc2 := 22) rfl dX2_parts_21 lt_i_1 ?_
    refine z_putI 21 8 2 (pc2 := 25) (ft := .boolean) rfl dX2_parts_22 rfl rfl ff_8_2 wd_155 rfl (by decide +kernel) rfl rfl ?_
    obtain ⟨s5, hs5, h⟩ := ab_lt_e h
    refine z_tops hs5 ?_
    refine z_iconst (pc2 := 26) rfl dX2_parts_25 lt_i_0 ?_
    exact z_iret dX2_parts_26 rfl rfl (fi_w h)
def f_X11_voice (a1 : Int32) (a2 : Int32) (a3 : Int32) (σ : ab_F) : Option (Int32 × ab_F) := (f_X11_nobody a1 σ).bind (fun q1 => (if (ab_b q1) = 0 then (f_X11_outside a2 (3 : Int32) σ).bind (fun q4 => (if (ab_b q4) = 0 then ab_ck (ab_ib a1 8) ((f_X8_opens a1 (σ 45 (a1).toNatClampNeg) σ).bind (fun q7 => ab_ck (ab_ib a1 8) ((if (q7 44 (a1).toNatClampNeg) = (0 : Int32) then (if a2 = (0 : Int32) then (f_X2_wades_25 a3 q7).bind (fun q10 => ab_lt (q10.1) (fun x11 => (if (q10.2 21 2) = 0 then (some (x11, q10.2)) else (f_X11_refuse (6 : Int32) q10.2).bind (fun q13 => (some (q13.1, q13.2)))))) else if a2 = (1 : Int32) then (f_X2_knows_25 a3 q7).bind (fun q15 => ab_lt (q15.1) (fun x16 => (if (q15.2 21 2) = 0 then (some (x16, q15.2)) else (f_X11_refuse (6 : Int32) q15.2).bind (fun q18 => (some (q18.1, q18.2)))))) else if a2 = (2 : Int32) then (f_X2_sits_25 a3 q7).bind (fun q20 => ab_lt (q20.1) (fun x21 => (if (q20.2 21 2) = 0 then (some (x21, q20.2)) else (f_X11_refuse (6 : Int32) q20.2).bind (fun q23 => (some (q23.1, q23.2)))))) else (f_X2_parts_25 a3 q7).bind (fun q24 => ab_lt (q24.1) (fun x25 => (if (q24.2 21 2) = 0 then (some (x25, q24.2)) else (f_X11_refuse (6 : Int32) q24.2).bind (fun q27 => (some (q27.1, q27.2))))))) else if (q7 44 (a1).toNatClampNeg) = (1 : Int32) then (if a2 = (0 : Int32) then (f_X5_wades_26 a3 q7).bind (fun q30 => ab_lt (q30.1) (fun x31 => (if (q30.2 21 2) = 0 then (some (x31, q30.2)) else (f_X11_refuse (6 : Int32) q30.2).bind (fun q33 => (some (q33.1, q33.2)))))) else if a2 = (1 : Int32) then (f_X2_knows_26 a3 q7).bind (fun q35 => ab_lt (q35.1) (fun x36 => (if (q35.2 21 2) = 0 then (some (x36, q35.2)) else (f_X11_refuse (6 : Int32) q35.2).bind (fun q38 => (some (q38.1, q38.2)))))) else if a2 = (2 : Int32) then (f_X2_sits_26 a3 q7).bind (fun q40 => ab_lt (q40.1) (fun x41 => (if (q40.2 21 2) = 0 then (some (x41, q40.2)) else (f_X11_refuse (6 : Int32) q40.2).bind (fun q43 => (some (q43.1, q43.2)))))) else (f_X5_parts_26 a3 q7).bind (fun q44 => ab_lt (q44.1) (fun x45 => (if (q44.2 21 2) = 0 then (some (x45, q44.2)) else (f_X11_refuse (6 : Int32) q44.2).bind (fun q47 => (some (q47.1, q47.2))))))) else if (q7 44 (a1).toNatClampNeg) = (2 : Int32) then (if a2 = (0 : Int32) then (f_X2_wades_27 a3 q7).bind (fun q50 => ab_lt (q50.1) (fun x51 => (if (q50.2 21 2) = 0 then (some (x51, q50.2)) else (f_X11_refuse (6 : Int32) q50.2).bind (fun q53 => (some (q53.1, q53.2)))))) else if a2 = (1 : Int32) then (f_X10_knows_27 a3 q7).bind (fun q55 => ab_lt (q55.1) (fun x56 => (if (q55.2 21 2) = 0 then (some (x56, q55.2)) else (f_X11_refuse (6 : Int32) q55.2).bind (fun q58 => (some (q58.1, q58.2)))))) else if a2 = (2 : Int32) then (f_X2_sits_27 a3 q7).bind (fun q60 => ab_lt (q60.1) (fun x61 => (if (q60.2 21 2) = 0 then (some (x61, q60.2)) else (f_X11_refuse (6 : Int32) q60.2).bind (fun q63 => (some (q63.1, q63.2)))))) else (f_X2_parts_27 a3 q7).bind (fun q64 => ab_lt (q64.1) (fun x65 => (if (q64.2 21 2) = 0 then (some (x65, q64.2)) else (f_X11_refuse (6 : Int32) q64.2).bind (fun q67 => (some (q67.1, q67.2))))))) else if (q7 44 (a1).toNatClampNeg) = (3 : Int32) then (if a2 = (0 : Int32) then (f_X2_wades_28 a3 q7).bind (fun q70 => ab_lt (q70.1) (fun x71 => (if (q70.2 21 2) = 0 then (some (x71, q70.2)) else (f_X11_refuse (6 : Int32) q70.2).bind (fun q73 => (some (q73.1, q73.2)))))) else if a2 = (1 : Int32) then (f_X2_knows_28 a3 q7).bind (fun q75 => ab_lt (q75.1) (fun x76 => (if (q75.2 21 2) = 0 then (some (x76, q75.2)) else (f_X11_refuse (6 : Int32) q75.2).bind (fun q78 => (some (q78.1, q78.2)))))) else if a2 = (2 : Int32) then (f_X3_sits_28 a3 q7).bind (fun q80 => ab_lt (q80.1) (fun x81 => (if (q80.2 21 2) = 0 then (some (x81, q80.2)) else (f_X11_refuse (6 : Int32) q80.2).bind (fun q83 => (some (q83.1, q83.2)))))) else (f_X2_parts_28 a3 q7).bind (fun q84 => ab_lt (q84.1) (fun x85 => (if (q84.2 21 2) = 0 then (some (x85, q84.2)) else (f_X11_refuse (6 : Int32) q84.2).bind (fun q87 => (some (q87.1, q87.2))))))) else if (q7 44 (a1).toNatClampNeg) = (4 : Int32) then (if a2 = (0 : Int32) then (f_X1_wades_29 a3 q7).bind (fun q90 => ab_lt (q90.1) (fun x91 => (if (q90.2 21 2) = 0 then (some (x91, q90.2)) else (f_X11_refuse (6 : Int32) q90.2).bind (fun q93 => (some (q93.1, q93.2)))))) else if a2 = (1 : Int32) then (f_X2_knows_29 a3 q7).bind (fun q95 => ab_lt (q95.1) (fun x96 => (if (q95.2 21 2) = 0 then (some (x96, q95.2)) else (f_X11_refuse (6 : Int32) q95.2).bind (fun q98 => (some (q98.1, q98.2)))))) else if a2 = (2 : Int32) then (f_X1_sits_29 a3 q7).bind (fun q100 => ab_lt (q100.1) (fun x101 => (if (q100.2 21 2) = 0 then (some (x101, q100.2)) else (f_X11_refuse (6 : Int32) q100.2).bind (fun q103 => (some (q103.1, q103.2)))))) else (f_X5_parts_29 a3 q7).bind (fun q104 => ab_lt (q104.1) (fun x105 => (if (q104.2 21 2) = 0 then (some (x105, q104.2)) else (f_X11_refuse (6 : Int32) q104.2).bind (fun q107 => (some (q107.1, q107.2))))))) else if (q7 44 (a1).toNatClampNeg) = (5 : Int32) then (if a2 = (0 : Int32) then (f_X2_wades_30 a3 q7).bind (fun q110 => ab_lt (q110.1) (fun x111 => (if (q110.2 21 2) = 0 then (some (x111, q110.2)) else (f_X11_refuse (6 : Int32) q110.2).bind (fun q113 => (some (q113.1, q113.2)))))) else if a2 = (1 : Int32) then (f_X0_knows_30 a3 q7).bind (fun q115 => ab_lt (q115.1) (fun x116 => (if (q115.2 21 2) = 0 then (some (x116, q115.2)) else (f_X11_refuse (6 : Int32) q115.2).bind (fun q118 => (some (q118.1, q118.2)))))) else if a2 = (2 : Int32) then (f_X2_sits_30 a3 q7).bind (fun q120 => ab_lt (q120.1) (fun x121 => (if (q120.2 21 2) = 0 then (some (x121, q120.2)) else (f_X11_refuse (6 : Int32) q120.2).bind (fun q123 => (some (q123.1, q123.2)))))) else (f_X2_parts_30 a3 q7).bind (fun q124 => ab_lt (q124.1) (fun x125 => (if (q124.2 21 2) = 0 then (some (x125, q124.2)) else (f_X11_refuse (6 : Int32) q124.2).bind (fun q127 => (some (q127.1, q127.2))))))) else if (q7 44 (a1).toNatClampNeg) = (6 : Int32) then (if a2 = (0 : Int32) then (f_X4_wades_31 a3 q7).bind (fun q130 => ab_lt (q130.1) (fun x131 => (if (q130.2 21 2) = 0 then (some (x131, q130.2)) else (f_X11_refuse (6 : Int32) q130.2).bind (fun q133 => (some (q133.1, q133.2)))))) else if a2 = (1 : Int32) then (f_X4_knows_31 a3 q7).bind (fun q135 => ab_lt (q135.1) (fun x136 => (if (q135.2 21 2) = 0 then (some (x136, q135.2)) else (f_X11_refuse (6 : Int32) q135.2).bind (fun q138 => (some (q138.1, q138.2)))))) else if a2 = (2 : Int32) then (f_X2_sits_31 a3 q7).bind (fun q140 => ab_lt (q140.1) (fun x141 => (if (q140.2 21 2) = 0 then (some (x141, q140.2)) else (f_X11_refuse (6 : Int32) q140.2).bind (fun q143 => (some (q143.1, q143.2)))))) else (f_X2_parts_31 a3 q7).bind (fun q144 => ab_lt (q144.1) (fun x145 => (if (q144.2 21 2) = 0 then (some (x145, q144.2)) else (f_X11_refuse (6 : Int32) q144.2).bind (fun q147 => (some (q147.1, q147.2))))))) else none)))) else (f_X11_refuse (1 : Int32) σ).bind (fun q149 => (some (q149.1, q149.2))))) else (f_X11_refuse (1 : Int32) σ).bind (fun q3 => (some (q3.1, q3.2)))))
