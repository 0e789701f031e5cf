def f_X12_goesOn_L2 (p1 : Int32) (K : ab_F → Option ab_F) : Nat → Int32 → ab_F → Option ab_F
  | 0, _, _ => none
  | n + 1, u2, σ => (if p1 ≤ u2 then (K σ) else (f_X12_day1 σ).bind (fun q2 => ab_lt (u2 + (1 : Int32)) (fun x3 => (f_X12_goesOn_L2 p1 K n x3 q2))))
set_option maxRecDepth 100000 in
set_option maxHeartbeats 4000000 in
theorem e_X12_goesOn_L2 {sc : Nat × (Nat → Int32)} {r : Option Nat × Option Nat} {p1 : Int32} {K : ab_F → Option ab_F} {res : ab_F} (hK : ∀ (σ : ab_F), K σ = some res → ab_E mX12_goesOn 6 sc 17 [none, none, none] [] (σ, r) (fun v S => v = none ∧ S = (res, r))) : ∀ (n : Nat) (u2 : Int32) (σ : ab_F), f_X12_goesOn_L2 p1 K n u2 σ = some res → ab_E mX12_goesOn 6 sc 2 [some (.ref 85), some (.int p1), some (.int u2)] [] (σ, r) (fun v S => v = none ∧ S = (res, r)) := by
  intro n
  induction n with
  | zero =>
    intro u2 σ h
    rw [f_X12_goesOn_L2] at h
    cases h
  | succ n ih =>
    intro u2 σ h
    rw [f_X12_goesOn_L2] at h
    refine z_iload_n (pc2 := 3) rfl dX12_goesOn_2 rfl ?_
    refine z_iload_n (pc2 := 4) rfl dX12_goesOn_3 rfl ?_
    refine z_icmp_ge (pc2 := 7) (tgt := 17) rfl dX12_goesOn_4 (by decide) (fun hc1 => ?_) (fun hc1 => ?_)
    · replace h := ab_pos hc1 h
      refine z_fgt [false, false, false] (L2 := [none, none, none]) rfl ?_
      exact hK  _ h
    · replace h := ab_neg hc1 h
      refine z_aload_n (pc2 := 8) rfl dX12_goesOn_7 rfl ?_
      obtain ⟨q2, hq2, h⟩ := ab_bnd h
      refine z_callVv 85 [] [some (.ref 85), none, none, none] (pc2 := 11) rfl rfl dX12_goesOn_8 ok_X12_day1 ⟨fun _ => rfl, fun _ => Nat.le_of_ble_eq_true rfl⟩ rfl rv_85 wd_1228 wd_1230 wd_42 rfl (e_X12_day1 hq2) ?_
      obtain ⟨x3, hxx3, h⟩ := ab_lt_e h
      refine z_iinc (pc2 := 14) (v := x3) (L2 := [some (.ref 85), some (.int p1), some (.int x3)]) rfl dX12_goesOn_11 rfl (by rw [hxx3]; rfl) (by decide) rfl rfl ?_
      refine ab_goto (tgt := 2) dX12_goesOn_14 (by decide) ?_
      refine z_fgt [true, true, true] (L2 := [some (.ref 85), some (.int p1), some (.int x3)]) rfl ?_
      exact ih _ _ h
def f_X12_goesOn (a1 : Int32) (σ : ab_F) : Option ab_F := (f_X12_goesOn_L2 a1 (fun (s4 : ab_F) => (some s4)) ab_fu (0 : Int32) σ)
set_option maxRecDepth 100000 in
set_option maxHeartbeats 4000000 in
theorem e_X12_goesOn {sc : Nat × (Nat → Int32)} {r : Option Nat × Option Nat} {a1 : Int32} {σ : ab_F} {res : ab_F} (h : f_X12_goesOn a1 σ = some res) : ab_E mX12_goesOn 6 sc 0 [some (.ref 85), some (.int a1), none] [] (σ, r) (fun v S => v = none ∧ S = (res, r)) := by
  unfold f_X12_goesOn at h
  refine z_iconst (pc2 := 1) rfl dX12_goesOn_0 lt_i_0 ?_
  refine z_istore_n (pc2 := 2) (L2 := [some (.ref 85), some (.int a1), some (.int (0 : Int32))]) rfl dX12_goesOn_1 (by decide) rfl rfl ?_
  refine z_fgt [true, true, true] (L2 := [some (.ref 85), some (.int a1), some (.int (0 : Int32))]) rfl ?_
  refine e_X12_goesOn_L2 (fun s4 h => ?_) _ _ _ h
  exact z_vret dX12_goesOn_17 rfl (fv_w h)
def f_X12_knownNow_L4 (σ : ab_F) (K : Int32 → Option Int32) : Nat → Int32 → Int32 → Option Int32
  | 0, _, _ => none
  | n + 1, u1, u2 => (if (σ 86 5) ≤ u2 then (K u1) else (f_X12_its u2 (4 : Int32) σ).bind (fun q2 => ab_lt ((u1 ||| q2)) (fun x3 => ab_lt (u2 + (1 : Int32)) (fun x4 => (f_X12_knownNow_L4 σ K n x3 x4)))))
set_option maxRecDepth 100000 in
set_option maxHeartbeats 4000000 in
theorem e_X12_knownNow_L4 {sc : Nat × (Nat → Int32)} {r : Option Nat × Option Nat} {σ : ab_F} {K : Int32 → Option Int32} {res : Int32} (hK : ∀ (u1 : Int32), K u1 = some res → ab_E mX12_knownNow 1 sc 29 [none, some (.int u1), none] [] (σ, r) (fun v S => v = some (.int res) ∧ S = (σ, r))) : ∀ (n : Nat) (u1 : Int32) (u2 : Int32), f_X12_knownNow_L4 σ K n u1 u2 = some res → ab_E mX12_knownNow 1 sc 4 [some (.ref 85), some (.int u1), some (.int u2)] [] (σ, r) (fun v S => v = some (.int res) ∧ S = (σ, r)) := by
  intro n
  induction n with
  | zero =>
    intro u1 u2 h
    rw [f_X12_knownNow_L4] at h
    cases h
  | succ n ih =>
    intro u1 u2 h
    rw [f_X12_knownNow_L4] at h
    refine z_iload_n (pc2 := 5) rfl dX12_knownNow_4 rfl ?_
    refine z_aload_n (pc2 := 6) rfl dX12_knownNow_5 rfl ?_
    refine z_getR 85 12 0 86 (pc2 := 9) rfl dX12_knownNow_6 rfl rfl ff_12_0 wd_977 rfl ?_
    refine z_iconst (pc2 := 10) rfl dX12_knownNow_9 lt_i_5 ?_
    refine z_iald 86 (pc2 := 11) (j := 5) rfl dX12_knownNow_10 rfl rfl (by decide) (by decide) ?_
    refine z_icmp_ge (pc2 := 14) (tgt := 29) rfl dX12_knownNow_11 (by decide) (fun hc1 => ?_) (fun hc1 => ?_)
    · replace h := ab_pos hc1 h
      refine z_fgt [false, true, false] (L2 := [none, some (.int u1), none]) rfl ?_
      exact hK _ h
    · replace h := ab_neg hc1 h
      refine z_iload_n (pc2 := 15) rfl dX12_knownNow_14 rfl ?_
      refine z_aload_n (pc2 := 16) rfl dX12_knownNow_15 rfl ?_
      refine z_iload_n (pc2 := 17) rfl dX12_knownNow_16 rfl ?_
      refine z_iconst (pc2 := 18) rfl dX12_knownNow_17 lt_i_4 ?_
      obtain ⟨q2, hq2, h⟩ := ab_bnd h
      refine z_callVi 85 [.int u2, .int (4 : Int32)] [some (.ref 85), some (.int u2), some (.int (4 : Int32))] (pc2 := 21) rfl rfl dX12_knownNow_18 ok_X12_its ⟨fun _ => rfl, fun _ => Nat.le_of_ble_eq_true rfl⟩ rfl rv_85 wd_1129 wd_1131 wd_31 rfl (e_X12_its hq2) ?_
      refine z_ior (pc2 := 22) rfl dX12_knownNow_21 ?_
      obtain ⟨x3, hxx3, h⟩ := ab_lt_e h
      refine z_top hxx3 ?_
      refine z_istore_n (pc2 := 23) (L2 := [some (.ref 85), some (.int x3), some (.int u2)]) rfl dX12_knownNow_22 (by decide) rfl rfl ?_
      obtain ⟨x4, hxx4, h⟩ := ab_lt_e h
      refine z_iinc (pc2 := 26) (v := x4) (L2 := [some (.ref 85), some (.int x3), some (.int x4)]) rfl dX12_knownNow_23 rfl (by rw [hxx4]; rfl) (by decide) rfl rfl ?_
      refine ab_goto (tgt := 4) dX12_knownNow_26 (by decide) ?_
      refine z_fgt [true, true, true] (L2 := [some (.ref 85), some (.int x3), some (.int x4)]) rfl ?_
      exact ih _ _ h
def f_X12_knownNow (σ : ab_F) : Option Int32 := (f_X12_knownNow_L4 σ (fun (k5 : Int32) => (some k5)) ab_fu (0 : Int32) (0 : Int32))
set_option maxRecDepth 100000 in
set_option maxHeartbeats 4000000 in
theorem e_X12_knownNow {sc : Nat × (Nat → Int32)} {r : Option Nat × Option Nat} {σ : ab_F} {res : Int32} (h : f_X12_knownNow σ = some res) : ab_E mX12_knownNow 1 sc 0 [some (.ref 85), none, none] [] (σ, r) (fun v S => v = some (.int res) ∧ S = (σ, r)) := by
  unfold f_X12_knownNow at h
  refine z_iconst (pc2 := 1) rfl dX12_knownNow_0 lt_i_0 ?_
  refine z_istore_n (pc2 := 2) (L2 := [some (.ref 85), some (.int (0 : Int32)), none]) rfl dX12_knownNow_1 (by decide) rfl rfl ?_
  refine z_iconst (pc2 := 3) rfl dX12_knownNow_2 lt_i_0 ?_
  refine z_istore_n (pc2 := 4) (L2 := [some (.ref 85), some (.int (0 : Int32)), some (.int (0 : Int32))]) rfl dX12_knownNow_3 (by decide) rfl rfl ?_
  refine z_fgt [true, true, true] (L2 := [some (.ref 85), some (.int (0 : Int32)), some (.int (0 : Int32))]) rfl ?_
  refine e_X12_knownNow_L4 (fun k5 h => ?_) _ _ _ h
  refine z_iload_n (pc2 := 30) rfl dX12_knownNow_29 rfl ?_
  exact z_iret dX12_knownNow_30 rfl rfl (fi_p h)
def f_X12_isKm (a0 : Int32) (σ : ab_F) : Option Bool := (f_X12_in a0 (0 : Int32) (69 : Int32) σ).bind (fun q1 => (some q1))
set_option maxRecDepth 100000 in
set_option maxHeartbeats 4000000 in
theorem e_X12_isKm {sc : Nat × (Nat → Int32)} {r : Option Nat × Option Nat} {a0 : Int32} {σ : ab_F} {res : Bool} (h : f_X12_isKm a0 σ = some res) : ab_E mX12_isKm 1 sc 0 [some (.int a0)] [] (σ, r) (fun v S => v = some (.int (ab_b res)) ∧ S = (σ, r)) := by
  unfold f_X12_isKm at h
  refine z_iload_n (pc2 := 1) rfl dX12_isKm_0 rfl ?_
  refine z_iconst (pc2 := 2) rfl dX12_isKm_1 lt_i_0 ?_
  refine z_bipush (pc2 := 4) rfl dX12_isKm_2 lt_b_69 ?_
  obtain ⟨q1, hq1, h⟩ := ab_bnd h
  refine z_callSi [.int a0, .int (0 : Int32), .int (69 : Int32)] [some (.int a0), some (.int (0 : Int32)), some (.int (69 : Int32))] (pc2 := 7) rfl rfl dX12_isKm_4 ok_X12_in ⟨fun _ => rfl, fun _ => Nat.le_of_ble_eq_true rfl⟩ rfl wd_1042 wd_1043 rfl (e_X12_in hq1) ?_
  exact z_iret dX12_isKm_7 rfl (ab_b_n _) (fz_p rfl h)
def f_X12_isCell (a0 : Int32) (σ : ab_F) : Option Bool := (f_X12_in a0 (0 : Int32) (15 : Int32) σ).bind (fun q1 => (some q1))
set_option maxRecDepth 100000 in
set_option maxHeartbeats 4000000 in
theorem e_X12_isCell {sc : Nat × (Nat → Int32)} {r : Option Nat × Option Nat} {a0 : Int32} {σ : ab_F} {res : Bool} (h : f_X12_isCell a0 σ = some res) : ab_E mX12_isCell 1 sc 0 [some (.int a0)] [] (σ, r) (fun v S => v = some (.int (ab_b res)) ∧ S = (σ, r)) := by
  unfold f_X12_isCell at h
  refine z_iload_n (pc2 := 1) rfl dX12_isCell_0 rfl ?_
  refine z_iconst (pc2 := 2) rfl dX12_isCell_1 lt_i_0 ?_
  refine z_bipush (pc2 := 4) rfl dX12_isCell_2 lt_b_15 ?_
  obtain ⟨q1, hq1, h⟩ := ab_bnd h
  refine z_callSi [.int a0, .int (0 : Int32), .int (15 : Int32)] [some (.int a0), some (.int (0 : Int32)), some (.int (15 : Int32))] (pc2 := 7) rfl rfl dX12_isCell_4 ok_X12_in ⟨fun _ => rfl, fun _ => Nat.le_of_ble_eq_true rfl⟩ rfl wd_1042 wd_1043 rfl (e_X12_in hq1) ?_
  exact z_iret dX12_isCell_7 rfl (ab_b_n _) (fz_p rfl h)
def f_X12_one_ (a1 : Int32) (a2 : Int32) (σ : ab_F) : Option (Int32 × ab_F) := (f_X12_isKm a1 σ).bind (fun q1 => (if (ab_b q1) = 0 then (f_X12_error (1 : Int32) σ).bind (fun q3 => (some (q3.1, q3.2))) else (f_X12_isCell a2 σ).bind (fun q4 => (if (ab_b q4) = 0 then (f_X12_error (1 : Int32) σ).bind (fun q15 => (some (q15.1, q15.2))) else (if (σ 86 5) = (8 : Int32) then (f_X12_error (4 : Int32) σ).bind (fun q14 => (some (q14.1, q14.2))) else ab_lt ((σ 86 5)) (fun x7 => (f_X12_lays1 x7 (0 : Int32) (a1 / (10 : Int32)) σ).bind (fun q8 => (f_X12_lays1 x7 (1 : Int32) (a1 - a1 / (10 : Int32) * (10 : Int32)) q8).bind (fun q9 => (f_X12_lays1 x7 (2 : Int32) a2 q9).bind (fun q10 => (f_X12_lays1 x7 (3 : Int32) (6 : Int32) q10).bind (fun q11 => (f_X12_lays1 x7 (4 : Int32) (0 : Int32) q11).bind (fun q12 => ab_lt (ab_u q12 86 5 ((q12 86 5) + (1 : Int32))) (fun (s13 : ab_F) => (some (x7, s13))))))))))))))
set_option maxRecDepth 100000 in
set_option maxHeartbeats 4000000 in
theorem e_X12_one_ {sc : Nat × (Nat → Int32)} {r : Option Nat × Option Nat} {a1 : Int32} {a2 : Int32} {σ : ab_F} {res : (Int32 × ab_F)} (h : f_X12_one_ a1 a2 σ = some res) : ab_E mX12_one_ 2 sc 0 [some (.ref 85), some (.int a1), some (.int a2), none] [] (σ, r) (fun v S => v = some (.int res.1) ∧ S = (res.2, r)) := by
  unfold f_X12_one_ at h
  refine z_iload_n (pc2 := 1) rfl dX12_one__0 rfl ?_
  obtain ⟨q1, hq1, h⟩ := ab_bnd h
  refine z_callSi [.int a1] [some (.int a1)] (pc2 := 4) rfl rfl dX12_one__1 ok_X12_isKm ⟨fun _ => rfl, fun _ => Nat.le_of_ble_eq_true rfl⟩ rfl wd_1107 wd_1108 rfl (e_X12_isKm hq1) ?_
  refine z_if_eq (pc2 := 7) (tgt := 14) rfl dX12_one__4 (by decide) (fun hc2 => ?_) (fun hc2 => ?_)
  · replace h := ab_pos hc2 h
    refine z_aload_n (pc2 := 15) rfl dX12_one__14 rfl ?_
    refine z_iconst (pc2 := 16) rfl dX12_one__15 lt_i_1 ?_
    obtain ⟨q3, hq3, h⟩ := ab_bnd h
    refine z_callVi 85 [.int (1 : Int32)] [some (.ref 85), some (.int (1 : Int32))] (pc2 := 19) rfl rfl dX12_one__16 ok_X12_error ⟨fun _ => rfl, fun _ => Nat.le_of_ble_eq_true rfl⟩ rfl rv_85 wd_1045 wd_1047 wd_16 rfl (e_X12_error hq3) ?_
    exact z_iret dX12_one__19 rfl rfl (fi_w h)
  · replace h := ab_neg hc2 h
    refine z_iload_n (pc2 := 8) rfl dX12_one__7 rfl ?_
    obtain ⟨q4, hq4, h⟩ := ab_bnd h
    refine z_callSi [.int a2] [some (.int a2)] (pc2 := 11) rfl rfl dX12_one__8 ok_X12_isCell ⟨fun _ => rfl, fun _ => Nat.le_of_ble_eq_true rfl⟩ rfl wd_1110 wd_1111 rfl (e_X12_isCell hq4) ?_
    refine z_if_ne (pc2 := 14) (tgt := 20) rfl dX12_one__11 (by decide) (fun hc5 => ?_) (fun hc5 => ?_)
    · replace h := ab_neg hc5 h
      refine z_aload_n (pc2 := 21) rfl dX12_one__20 rfl ?_
      refine z_getR 85 12 0 86 (pc2 := 24) rfl dX12_one__21 rfl rfl ff_12_0 wd_977 rfl ?_
      refine z_iconst (pc2 := 25) rfl dX12_one__24 lt_i_5 ?_
      refine z_iald 86 (pc2 := 26) (j := 5) rfl dX12_one__25 rfl rfl (by decide) (by decide) ?_
      refine z_bipush (pc2 := 28) rfl dX12_one__26 lt_b_8 ?_
      refine z_icmp_ne (pc2 := 31) (tgt := 37) rfl dX12_one__28 (by decide) (fun hc6 => ?_) (fun hc6 => ?_)
      · replace h := ab_neg hc6 h
        refine z_aload_n (pc2 := 38) rfl dX12_one__37 rfl ?_
        refine z_getR 85 12 0 86 (pc2 := 41) rfl dX12_one__38 rfl rfl ff_12_0 wd_977 rfl ?_
        refine z_iconst (pc2 := 42) rfl dX12_one__41 lt_i_5 ?_
        refine z_iald 86 (pc2 := 43) (j := 5) rfl dX12_one__42 rfl rfl (by decide) (by decide) ?_
        obtain ⟨x7, hxx7, h⟩ := ab_lt_e h
        refine z_top hxx7 ?_
        refine z_istore_n (pc2 := 44) (L2 := [some (.ref 85), some (.int a1), some (.int a2), some (.int x7)]) rfl dX12_one__43 (by decide) rfl rfl ?_
        refine z_aload_n (pc2 := 45) rfl dX12_one__44 rfl ?_
        refine z_iload_n (pc2 := 46) rfl dX12_one__45 rfl ?_
        refine z_iconst (pc2 := 47) rfl dX12_one__46 lt_i_0 ?_
        refine z_iload_n (pc2 := 48) rfl dX12_one__47 rfl ?_
        refine z_bipush (pc2 := 50) rfl dX12_one__48 lt_b_10 ?_
        refine z_idiv (pc2 := 51) rfl dX12_one__50 (by decide) ?_
        obtain ⟨q8, hq8, h⟩ := ab_bnd h
        refine z_callVv 85 [.int x7, .int (0 : Int32), .int (a1 / (10 : Int32))] [some (.ref 85), some (.int x7), some (.int (0 : Int32)), some (.int (a1 / (10 : Int32)))] (pc2 := 54) rfl rfl dX12_one__51 ok_X12_lays1 ⟨fun _ => rfl, fun _ => Nat.le_of_ble_eq_true rfl⟩ rfl rv_85 wd_1113 wd_1115 wd_28 rfl (e_X12_lays1 hq8) ?_
        refine z_aload_n (pc2 := 55) rfl dX12_one__54 rfl ?_
        refine z_iload_n (pc2 := 56) rfl dX12_one__55 rfl ?_
        refine z_iconst (pc2 := 57) rfl dX12_one__56 lt_i_1 ?_
        refine z_iload_n (pc2 := 58) rfl dX12_one__57 rfl ?_
        refine z_bipush (pc2 := 60) rfl dX12_one__58 lt_b_10 ?_
        refine z_irem (pc2 := 61) rfl dX12_one__60 (by decide) ?_
        obtain ⟨q9, hq9, h⟩ := ab_bnd h
        refine z_callVv 85 [.int x7, .int (1 : Int32), .int (a1 - a1 / (10 : Int32) * (10 : Int32))] [some (.ref 85), some (.int x7), some (.int (1 : Int32)), some (.int (a1 - a1 / (10 : Int32) * (10 : Int32)))] (pc2 := 64) rfl rfl dX12_one__61 ok_X12_lays1 ⟨fun _ => rfl, fun _ => Nat.le_of_ble_eq_true rfl⟩ rfl rv_85 wd_1113 wd_1115 wd_28 rfl (e_X12_lays1 hq9) ?_
        refine z_aload_n (pc2 := 65) rfl dX12_one__64 rfl ?_
        refine z_iload_n (pc2 := 66) rfl dX12_one__65 rfl ?_
        refine z_iconst (pc2 := 67) rfl dX12_one__66 lt_i_2 ?_
        refine z_iload_n (pc2 := 68) rfl dX12_one__67 rfl ?_
        obtain ⟨q10, hq10, h⟩ := ab_bnd h
        refine z_callVv 85 [.int x7, .int (2 : Int32), .int a2] [some (.ref 85), some (.int x7), some (.int (2 : Int32)), some (.int a2)] (pc2 := 71) rfl rfl dX12_one__68 ok_X12_lays1 ⟨fun _ => rfl, fun _ => Nat.le_of_ble_eq_true rfl⟩ rfl rv_85 wd_1113 wd_1115 wd_28 rfl (e_X12_lays1 hq10) ?_
        refine z_aload_n (pc2 := 72) rfl dX12_one__71 rfl ?_
        refine z_iload_n (pc2 := 73) rfl dX12_one__72 rfl ?_
        refine z_iconst (pc2 := 74) rfl dX12_one__73 lt_i_3 ?_
        refine z_bipush (pc2 := 76) rfl dX12_one__74 lt_b_6 ?_
        obtain ⟨q11, hq11, h⟩ := ab_bnd h
        refine z_callVv 85 [.int x7, .int (3 : Int32), .int (6 : Int32)] [some (.ref 85), some (.int x7), some (.int (3 : Int32)), some (.int (6 : Int32))] (pc2 := 79) rfl rfl dX12_one__76 ok_X12_lays1 ⟨fun _ => rfl, fun _ => Nat.le_of_ble_eq_true rfl⟩ rfl rv_85 wd_1113 wd_1115 wd_28 rfl (e_X12_lays1 hq11) ?_
        refine z_aload_n (pc2 := 80) rfl dX12_one__79 rfl ?_
        refine z_iload_n (pc2 := 81) rfl dX12_one__80 rfl ?_
        refine z_iconst (pc2 := 82) rfl dX12_one__81 lt_i_4 ?_
        refine z_iconst (pc2 := 83) rfl dX12_one__82 lt_i_0 ?_
        obtain ⟨q12, hq12, h⟩ := ab_bnd h
        refine z_callVv 85 [.int x7, .int (4 : Int32), .int (0 : Int32)] [some (.ref 85), some (.int x7), some (.int (4 : Int32)), some (.int (0 : Int32))] (pc2 := 86) rfl rfl dX12_one__83 ok_X12_lays1 ⟨fun _ => rfl, fun _ => Nat.le_of_ble_eq_true rfl⟩ rfl rv_85 wd_1113 wd_1115 wd_28 rfl (e_X12_lays1 hq12) ?_
        refine z_aload_n (pc2 := 87) rfl dX12_one__86 rfl ?_
        refine z_getR 85 12 0 86 (pc2 := 90) rfl dX12_one__87 rfl rfl ff_12_0 wd_977 rfl ?_
        refine z_iconst (pc2 := 91) rfl dX12_one__90 lt_i_5 ?_
        refine z_dup2 (pc2 := 92) rfl dX12_one__91 rfl rfl ?_
        refine z_iald 86 (pc2 := 93) (j := 5) rfl dX12_one__92 rfl rfl (by decide) (by decide) ?_
        refine z_iconst (pc2 := 94) rfl dX12_one__93 lt_i_1 ?_
        refine z_iadd (pc2 := 95) rfl dX12_one__94 ?_
        refine z_iast 86 (pc2 := 96) (j := 5) rfl dX12_one__95 rfl rfl (by decide) (by decide) ?_
        obtain ⟨s13, hs13, h⟩ := ab_lt_e h
        refine z_tops hs13 ?_
        refine z_iload_n (pc2 := 97) rfl dX12_one__96 rfl ?_
        exact z_iret dX12_one__97 rfl rfl (fi_w h)
      · replace h := ab_pos hc6 h
        refine z_aload_n (pc2 := 32) rfl dX12_one__31 rfl ?_
        refine z_iconst (pc2 := 33) rfl dX12_one__32 lt_i_4 ?_
        obtain ⟨q14, hq14, h⟩ := ab_bnd h
        refine z_callVi 85 [.int (4 : Int32)] [some (.ref 85), some (.int (4 : Int32))] (pc2 := 36) rfl rfl dX12_one__33 ok_X12_error ⟨fun _ => rfl, fun _ => Nat.le_of_ble_eq_true rfl⟩ rfl rv_85 wd_1045 wd_1047 wd_16 rfl (e_X12_error hq14) ?_
        exact z_iret dX12_one__36 rfl rfl (fi_w h)
    · replace h := ab_pos hc5 h
      refine z_aload_n (pc2 := 15) rfl dX12_one__14 rfl ?_
      refine z_iconst (pc2 := 16) rfl dX12_one__15 lt_i_1 ?_
      obtain ⟨q15, hq15, h⟩ := ab_bnd h
      refine z_callVi 85 [.int (1 : Int32)] [some (.ref 85), some (.int (1 : Int32))] (pc2 := 19) rfl rfl dX12_one__16 ok_X12_error ⟨fun _ => rfl, fun _ => Nat.le_of_ble_eq_true rfl⟩ rfl rv_85 wd_1045 wd_1047 wd_16 rfl (e_X12_error hq15) ?_
      exact z_iret dX12_one__19 rfl rfl (fi_w h)
def f_X12_oneIs (a1 : Int32) (a2 : Int32) (σ : ab_F) : Option (Int32 × ab_F) := (f_X12_isOne a1 σ).bind (fun q1 => (if (ab_b q1) = 0 then (f_X12_error (1 : Int32) σ).bind (fun q3 => (some (q3.1, q3.2))) else (f_X12_in a2 (0 : Int32) (7 : Int32) σ).bind (fun q4 => (if (ab_b q4) = 0 then (f_X12_error (1 : Int32) σ).bind (fun q14 => (some (q14.1, q14.2))) else (if a2 = (5 : Int32) then (f_X12_isWet a1 σ).bind (fun q12 => (if (ab_b q12) = 0 then (some ((0 : Int32), σ)) else (some ((1 : Int32), σ)))) else (if a2 = (6 : Int32) then (f_X12_doesNow a1 σ).bind (fun q11 => (some (q11.1, q11.2))) else (if a2 = (7 : Int32) then (f_X12_madeNow a1 σ).bind (fun q10 => (some (q10.1, q10.2))) else (f_X12_its a1 a2 σ).bind (fun q9 => (some (q9, σ))))))))))
set_option maxRecDepth 100000 in
set_option maxHeartbeats 4000000 in
theorem e_X12_oneIs {sc : Nat × (Nat → Int32)} {r : Option Nat × Option Nat} {a1 : Int32} {a2 : Int32} {σ : ab_F} {res : (Int32 × ab_F)} (h : f_X12_oneIs a1 a2 σ = some res) : ab_E mX12_oneIs 4 sc 0 [some (.ref 85), some (.int a1), some (.int a2)] [] (σ, r) (fun v S => v = some (.int res.1) ∧ S = (res.2, r)) := by
  unfold f_X12_oneIs at h
  refine z_aload_n (pc2 := 1) rfl dX12_oneIs_0 rfl ?_
  refine z_iload_n (pc2 := 2) rfl dX12_oneIs_1 rfl ?_
  obtain ⟨q1, hq1, h⟩ := ab_bnd h
  refine z_callVi 85 [.int a1] [some (.ref 85), some (.int a1)] (pc2 := 5) rfl rfl dX12_oneIs_2 ok_X12_isOne ⟨fun _ => rfl, fun _ => Nat.le_of_ble_eq_true rfl⟩ rfl rv_85 wd_1121 wd_1123 wd_29 rfl (e_X12_isOne hq1) ?_
  refine z_if_eq (pc2 := 8) (tgt := 18) rfl dX12_oneIs_5 (by decide) (fun hc2 => ?_) (fun hc2 => ?_)
  · replace h := ab_pos hc2 h
    refine z_aload_n (pc2 := 19) rfl dX12_oneIs_18 rfl ?_
    refine z_iconst (pc2 := 20) rfl dX12_oneIs_19 lt_i_1 ?_
    obtain ⟨q3, hq3, h⟩ := ab_bnd h
    refine z_callVi 85 [.int (1 : Int32)] [some (.ref 85), some (.int (1 : Int32))] (pc2 := 23) rfl rfl dX12_oneIs_20 ok_X12_error ⟨fun _ => rfl, fun _ => Nat.le_of_ble_eq_true rfl⟩ rfl rv_85 wd_1045 wd_1047 wd_16 rfl (e_X12_error hq3) ?_
    exact z_iret dX12_oneIs_23 rfl rfl (fi_w h)
  · replace h := ab_neg hc2 h
    refine z_iload_n (pc2 := 9) rfl dX12_oneIs_8 rfl ?_
    refine z_iconst (pc2 := 10) rfl dX12_oneIs_9 lt_i_0 ?_
    refine z_bipush (pc2 := 12) rfl dX12_oneIs_10 lt_b_7 ?_
    obtain ⟨q4, hq4, h⟩ := ab_bnd h
    refine z_callSi [.int a2, .int (0 : Int32), .int (7 : Int32)] [some (.int a2), some (.int (0 : Int32)), some (.int (7 : Int32))] (pc2 := 15) rfl rfl dX12_oneIs_12 ok_X12_in ⟨fun _ => rfl, fun _ => Nat.le_of_ble_eq_true rfl⟩ rfl wd_1042 wd_1043 rfl (e_X12_in hq4) ?_
    refine z_if_ne (pc2 := 18) (tgt := 24) rfl dX12_oneIs_15 (by decide) (fun hc5 => ?_) (fun hc5 => ?_)
    · replace h := ab_neg hc5 h
      refine z_iload_n (pc2 := 25) rfl dX12_oneIs_24 rfl ?_
      refine z_iconst (pc2 := 26) rfl dX12_oneIs_25 lt_i_5 ?_
      refine z_icmp_ne (pc2 := 29) (tgt := 45) rfl dX12_oneIs_26 (by decide) (fun hc6 => ?_) (fun hc6 => ?_)
      · replace h := ab_neg hc6 h
        refine z_iload_n (pc2 := 46) rfl dX12_oneIs_45 rfl ?_
        refine z_bipush (pc2 := 48) rfl dX12_oneIs_46 lt_b_6 ?_
        refine z_icmp_ne (pc2 := 51) (tgt := 59) rfl dX12_oneIs_48 (by decide) (fun hc7 => ?_) (fun hc7 => ?_)
        · replace h := ab_neg hc7 h
          refine z_iload_n (pc2 := 60) rfl dX12_oneIs_59 rfl ?_
          refine z_bipush (pc2 := 62) rfl dX12_oneIs_60 lt_b_7 ?_
          refine z_icmp_ne (pc2 := 65) (tgt := 73) rfl dX12_oneIs_62 (by decide) (fun hc8 => ?_) (fun hc8 => ?_)
          · replace h := ab_neg hc8 h
            refine z_aload_n (pc2 := 74) rfl dX12_oneIs_73 rfl ?_
            refine z_iload_n (pc2 := 75) rfl dX12_oneIs_74 rfl ?_
            refine z_iload_n (pc2 := 76) rfl dX12_oneIs_75 rfl ?_
            obtain ⟨q9, hq9, h⟩ := ab_bnd h
            refine z_callVi 85 [.int a1, .int a2] [some (.ref 85), some (.int a1), some (.int a2)] (pc2 := 79) rfl rfl dX12_oneIs_76 ok_X12_its ⟨fun _ => rfl, fun _ => Nat.le_of_ble_eq_true rfl⟩ rfl rv_85 wd_1129 wd_1131 wd_31 rfl (e_X12_its hq9) ?_
            exact z_iret dX12_oneIs_79 rfl rfl (fi_w h)
          · replace h := ab_pos hc8 h
            refine z_aload_n (pc2 := 66) rfl dX12_oneIs_65 rfl ?_
            refine z_iload_n (pc2 := 67) rfl dX12_oneIs_66 rfl ?_
            obtain ⟨q10, hq10, h⟩ := ab_bnd h
            refine z_callVi 85 [.int a1] [some (.ref 85), some (.int a1)] (pc2 := 70) rfl rfl dX12_oneIs_67 ok_X12_madeNow ⟨fun _ => rfl, fun _ => Nat.le_of_ble_eq_true rfl⟩ rfl rv_85 wd_1165 wd_1167 wd_37 rfl (e_X12_madeNow hq10) ?_
            refine ab_goto (tgt := 79) dX12_oneIs_70 (by decide) ?_
            exact z_iret dX12_oneIs_79 rfl rfl (fi_w h)
        · replace h := ab_pos hc7 h
          refine z_aload_n (pc2 := 52) rfl dX12_oneIs_51 rfl ?_
          refine z_iload_n (pc2 := 53) rfl dX12_oneIs_52 rfl ?_
          obtain ⟨q11, hq11, h⟩ := ab_bnd h
          refine z_callVi 85 [.int a1] [some (.ref 85), some (.int a1)] (pc2 := 56) rfl rfl dX12_oneIs_53 ok_X12_doesNow ⟨fun _ => rfl, fun _ => Nat.le_of_ble_eq_true rfl⟩ rfl rv_85 wd_1133 wd_1135 wd_32 rfl (e_X12_doesNow hq11) ?_
          refine ab_goto (tgt := 79) dX12_oneIs_56 (by decide) ?_
          exact z_iret dX12_oneIs_79 rfl rfl (fi_w h)
      · replace h := ab_pos hc6 h
        refine z_aload_n (pc2 := 30) rfl dX12_oneIs_29 rfl ?_
        refine z_iload_n (pc2 := 31) rfl dX12_oneIs_30 rfl ?_
        obtain ⟨q12, hq12, h⟩ := ab_bnd h
        refine z_callVi 85 [.int a1] [some (.ref 85), some (.int a1)] (pc2 := 34) rfl rfl dX12_oneIs_31 ok_X12_isWet ⟨fun _ => rfl, fun _ => Nat.le_of_ble_eq_true rfl⟩ rfl rv_85 wd_1125 wd_1127 wd_30 rfl (e_X12_isWet hq12) ?_
        refine z_if_eq (pc2 := 37) (tgt := 41) rfl dX12_oneIs_34 (by decide) (fun hc13 => ?_) (fun hc13 => ?_)
        · replace h := ab_pos hc13 h
          refine z_iconst (pc2 := 42) rfl dX12_oneIs_41 lt_i_0 ?_
          refine ab_goto (tgt := 79) dX12_oneIs_42 (by decide) ?_
          exact z_iret dX12_oneIs_79 rfl rfl (fi_w h)
        · replace h := ab_neg hc13 h
          refine z_iconst (pc2 := 38) rfl dX12_oneIs_37 lt_i_1 ?_
          refine ab_goto (tgt := 79) dX12_oneIs_38 (by decide) ?_
          exact z_iret dX12_oneIs_79 rfl rfl (fi_w h)
    · replace h := ab_pos hc5 h
      refine z_aload_n (pc2 := 19) rfl dX12_oneIs_18 rfl ?_
      refine z_iconst (pc2 := 20) rfl dX12_oneIs_19 lt_i_1 ?_
      obtain ⟨q14, hq14, h⟩ := ab_bnd h
      refine z_callVi 85 [.int (1 : Int32)] [some (.ref 85), some (.int (1 : Int32))] (pc2 := 23) rfl rfl dX12_oneIs_20 ok_X12_error ⟨fun _ => rfl, fun _ => Nat.le_of_ble_eq_true rfl⟩ rfl rv_85 wd_1045 wd_1047 wd_16 rfl (e_X12_error hq14) ?_
      exact z_iret dX12_oneIs_23 rfl rfl (fi_w h)
def f_X12_become (a1 : Int32) (a2 : Int32) (σ : ab_F) : Option (Int32 × ab_F) := (f_X12_isOne a1 σ).bind (fun q1 => (if (ab_b q1) = 0 then (f_X12_error (1 : Int32) σ).bind (fun q3 => (some (q3.1, q3.2))) else (f_X12_isKm a2 σ).bind (fun q4 => (if (ab_b q4) = 0 then (f_X12_error (1 : Int32) σ).bind (fun q9 => (some (q9.1, q9.2))) else (f_X12_its a1 (0 : Int32) σ).bind (fun q6 => (f_X12_lays1 a1 (0 : Int32) (a2 / (10 : Int32)) σ).bind (fun q7 => (f_X12_lays1 a1 (1 : Int32) (a2 - a2 / (10 : Int32) * (10 : Int32)) q7).bind (fun q8 => (some (q6, q8)))))))))
set_option maxRecDepth 100000 in
set_option maxHeartbeats 4000000 in
theorem e_X12_become {sc : Nat × (Nat → Int32)} {r : Option Nat × Option Nat} {a1 : Int32} {a2 : Int32} {σ : ab_F} {res : (Int32 × ab_F)} (h : f_X12_become a1 a2 σ = some res) : ab_E mX12_become 2 sc 0 [some (.ref 85), some (.int a1), some (.int a2), none] [] (σ, r) (fun v S => v = some (.int res.1) ∧ S = (res.2, r)) := by
  unfold f_X12_become at h
  refine z_aload_n (pc2 := 1) rfl dX12_become_0 rfl ?_
  refine z_iload_n (pc2 := 2) rfl dX12_become_1 rfl ?_
  obtain ⟨q1, hq1, h⟩ := ab_bnd h
  refine z_callVi 85 [.int a1] [some (.ref 85), some (.int a1)] (pc2 := 5) rfl rfl dX12_become_2 ok_X12_isOne ⟨fun _ => rfl, fun _ => Nat.le_of_ble_eq_true rfl⟩ rfl rv_85 wd_1121 wd_1123 wd_29 rfl (e_X12_isOne hq1) ?_
  refine z_if_eq (pc2 := 8) (tgt := 15) rfl dX12_become_5 (by decide) (fun hc2 => ?_) (fun hc2 => ?_)
  · replace h := ab_pos hc2 h
    refine z_aload_n (pc2 := 16) rfl dX12_become_15 rfl ?_
    refine z_iconst (pc2 := 17) rfl dX12_become_16 lt_i_1 ?_
    obtain ⟨q3, hq3, h⟩ := ab_bnd h
    refine z_callVi 85 [.int (1 : Int32)] [some (.ref 85), some (.int (1 : Int32))] (pc2 := 20) rfl rfl dX12_become_17 ok_X12_error ⟨fun _ => rfl, fun _ => Nat.le_of_ble_eq_true rfl⟩ rfl rv_85 wd_1045 wd_1047 wd_16 rfl (e_X12_error hq3) ?_
    exact z_iret dX12_become_20 rfl rfl (fi_w h)
  · replace h := ab_neg hc2 h
    refine z_iload_n (pc2 := 9) rfl dX12_become_8 rfl ?_
    obtain ⟨q4, hq4, h⟩ := ab_bnd h
    refine z_callSi [.int a2] [some (.int a2)] (pc2 := 12) rfl rfl dX12_become_9 ok_X12_isKm ⟨fun _ => rfl, fun _ => Nat.le_of_ble_eq_true rfl⟩ rfl wd_1107 wd_1108 rfl (e_X12_isKm hq4) ?_
    refine z_if_ne (pc2 := 15) (tgt := 21) rfl dX12_become_12 (by decide) (fun hc5 => ?_) (fun hc5 => ?_)
    · replace h := ab_neg hc5 h
      refine z_aload_n (pc2 := 22) rfl dX12_become_21 rfl ?_
      refine z_iload_n (pc2 := 23) rfl dX12_become_22 rfl ?_
      refine z_iconst (pc2 := 24) rfl dX12_become_23 lt_i_0 ?_
      obtain ⟨q6, hq6, h⟩ := ab_bnd h
      refine z_callVi 85 [.int a1, .int (0 : Int32)] [some (.ref 85), some (.int a1), some (.int (0 : Int32))] (pc2 := 27) rfl rfl dX12_become_24 ok_X12_its ⟨fun _ => rfl, fun _ => Nat.le_of_ble_eq_true rfl⟩ rfl rv_85 wd_1129 wd_1131 wd_31 rfl (e_X12_its hq6) ?_
      refine z_istore_n (pc2 := 28) (L2 := [some (.ref 85), some (.int a1), some (.int a2), some (.int q6)]) rfl dX12_become_27 (by decide) rfl rfl ?_
      refine z_aload_n (pc2 := 29) rfl dX12_become_28 rfl ?_
      refine z_iload_n (pc2 := 30) rfl dX12_become_29 rfl ?_
      refine z_iconst (pc2 := 31) rfl dX12_become_30 lt_i_0 ?_
      refine z_iload_n (pc2 := 32) rfl dX12_become_31 rfl ?_
      refine z_bipush (pc2 := 34) rfl dX12_become_32 lt_b_10 ?_
      refine z_idiv (pc2 := 35) rfl dX12_become_34 (by decide) ?_
      obtain ⟨q7, hq7, h⟩ := ab_bnd h
      refine z_callVv 85 [.int a1, .int (0 : Int32), .int (a2 / (10 : Int32))] [some (.ref 85), some (.int a1), some (.int (0 : Int32)), some (.int (a2 / (10 : Int32)))] (pc2 := 38) rfl rfl dX12_become_35 ok_X12_lays1 ⟨fun _ => rfl, fun _ => Nat.le_of_ble_eq_true rfl⟩ rfl rv_85 wd_1113 wd_1115 wd_28 rfl (e_X12_lays1 hq7) ?_
      refine z_aload_n (pc2 := 39) rfl dX12_become_38 rfl ?_
      refine z_iload_n (pc2 := 40) rfl dX12_become_39 rfl ?_
      refine z_iconst (pc2 := 41) rfl dX12_become_40 lt_i_1 ?_
      refine z_iload_n (pc2 := 42) rfl dX12_become_41 rfl ?_
      refine z_bipush (pc2 := 44) rfl dX12_become_42 lt_b_10 ?_
      refine z_irem (pc2 := 45) rfl dX12_become_44 (by decide) ?_
      obtain ⟨q8, hq8, h⟩ := ab_bnd h
      refine z_callVv 85 [.int a1, .int (1 : Int32), .int (a2 - a2 / (10 : Int32) * (10 : Int32))] [some (.ref 85), some (.int a1), some (.int (1 : Int32)), some (.int (a2 - a2 / (10 : Int32) * (10 : Int32)))] (pc2 := 48) rfl rfl dX12_become_45 ok_X12_lays1 ⟨fun _ => rfl, fun _ => Nat.le_of_ble_eq_true rfl⟩ rfl rv_85 wd_1113 wd_1115 wd_28 rfl (e_X12_lays1 hq8) ?_
      refine z_iload_n (pc2 := 49) rfl dX12_become_48 rfl ?_
      exact z_iret dX12_become_49 rfl rfl (fi_w h)
    · replace h := ab_pos hc5 h
      refine z_aload_n (pc2 := 16) rfl dX12_become_15 rfl ?_
      refine z_iconst (pc2 := 17) rfl dX12_become_16 lt_i_1 ?_
      obtain ⟨q9, hq9, h⟩ := ab_bnd h
      refine z_callVi 85 [.int (1 : Int32)] [some (.ref 85), some (.int (1 : Int32))] (pc2 := 20) rfl rfl dX12_become_17 ok_X12_error ⟨fun _ => rfl, fun _ => Nat.le_of_ble_eq_true rfl⟩ rfl rv_85 wd_1045 wd_1047 wd_16 rfl (e_X12_error hq9) ?_
      exact z_iret dX12_become_20 rfl rfl (fi_w h)
def f_X12_above (a0 : Int32) (σ : ab_F) : Option Int32 := (if a0 = (4 : Int32) then (some (1 : Int32)) else (if a0 = (5 : Int32) then (some (2 : Int32)) else (some (0 : Int32))))
set_option maxRecDepth 100000 in
set_option maxHeartbeats 4000000 in
theorem e_X12_above {sc : Nat × (Nat → Int32)} {r : Option Nat × Option Nat} {a0 : Int32} {σ : ab_F} {res : Int32} (h : f_X12_above a0 σ = some res) : ab_E mX12_above 0 sc 0 [some (.int a0)] [] (σ, r) (fun v S => v = some (.int res) ∧ S = (σ, r)) := by
  unfold f_X12_above at h
  refine z_iload_n (pc2 := 1) rfl dX12_above_0 rfl ?_
  refine z_iconst (pc2 := 2) rfl dX12_above_1 lt_i_4 ?_
  refine z_icmp_ne (pc2 := 5) (tgt := 9) rfl dX12_above_2 (by decide) (fun hc1 => ?_) (fun hc1 => ?_)
  · replace h := ab_neg hc1 h
    refine z_iload_n (pc2 := 10) rfl dX12_above_9 rfl ?_
    refine z_iconst (pc2 := 11) rfl dX12_above_10 lt_i_5 ?_
    refine z_icmp_ne (pc2 := 14) (tgt := 18) rfl dX12_above_11 (by decide) (fun hc2 => ?_) (fun hc2 => ?_)
    · replace h := ab_neg hc2 h
      refine z_iconst (pc2 := 19) rfl dX12_above_18 lt_i_0 ?_
      exact z_iret dX12_above_19 rfl rfl (fi_p h)
    · replace h := ab_pos hc2 h
      refine z_iconst (pc2 := 15) rfl dX12_above_14 lt_i_2 ?_
      refine ab_goto (tgt := 19) dX12_above_15 (by decide) ?_
      exact z_iret dX12_above_19 rfl rfl (fi_p h)
  · replace h := ab_pos hc1 h
    refine z_iconst (pc2 := 6) rfl dX12_above_5 lt_i_1 ?_
    refine ab_goto (tgt := 19) dX12_above_6 (by decide) ?_
    exact z_iret dX12_above_19 rfl rfl (fi_p h)
def f_X12_as (a1 : Int32) (a2 : Int32) (σ : ab_F) : Option (Int32 × ab_F) := (f_X12_isOne a1 σ).bind (fun q1 => (if (ab_b q1) = 0 then (f_X12_error (1 : Int32) σ).bind (fun q3 => (some (q3.1, q3.2))) else (f_X12_in a2 (0 : Int32) (6 : Int32) σ).bind (fun q4 => (if (ab_b q4) = 0 then (f_X12_error (1 : Int32) σ).bind (fun q15 => (some (q15.1, q15.2))) else (f_X12_its a1 (0 : Int32) σ).bind (fun q6 => (if a2 = 0 then (f_X12_its a1 (1 : Int32) σ).bind (fun q8 => (some (q8, σ))) else (if q6 = a2 then (f_X12_its a1 (1 : Int32) σ).bind (fun q10 => (some (q10, σ))) else (f_X12_above q6 σ).bind (fun q11 => (if q11 = a2 then (f_X12_its a1 (1 : Int32) σ).bind (fun q14 => (some (q14, σ))) else (f_X12_error (5 : Int32) σ).bind (fun q13 => (some (q13.1, q13.2))))))))))))
set_option maxRecDepth 100000 in
set_option maxHeartbeats 4000000 in
theorem e_X12_as {sc : Nat × (Nat → Int32)} {r : Option Nat × Option Nat} {a1 : Int32} {a2 : Int32} {σ : ab_F} {res : (Int32 × ab_F)} (h : f_X12_as a1 a2 σ = some res) : ab_E mX12_as 2 sc 0 [some (.ref 85), some (.int a1), some (.int a2), none, none] [] (σ, r) (fun v S => v = some (.int res.1) ∧ S = (res.2, r)) := by
  unfold f_X12_as at h
  refine z_aload_n (pc2 := 1) rfl dX12_as_0 rfl ?_
  refine z_iload_n (pc2 := 2) rfl dX12_as_1 rfl ?_
  obtain ⟨q1, hq1, h⟩ := ab_bnd h
  refine z_callVi 85 [.int a1] [some (.ref 85), some (.int a1)] (pc2 := 5) rfl rfl dX12_as_2 ok_X12_isOne ⟨fun _ => rfl, fun _ => Nat.le_of_ble_eq_true rfl⟩ rfl rv_85 wd_1121 wd_1123 wd_29 rfl (e_X12_isOne hq1) ?_
  refine z_if_eq (pc2 := 8) (tgt := 18) rfl dX12_as_5 (by decide) (fun hc2 => ?_) (fun hc2 => ?_)
  · replace h := ab_pos hc2 h
    refine z_aload_n (pc2 := 19) rfl dX12_as_18 rfl ?_
    refine z_iconst (pc2 := 20) rfl dX12_as_19 lt_i_1 ?_
    obtain ⟨q3, hq3, h⟩ := ab_bnd h
    refine z_callVi 85 [.int (1 : Int32)] [some (.ref 85), some (.int (1 : Int32))] (pc2 := 23) rfl rfl dX12_as_20 ok_X12_error ⟨fun _ => rfl, fun _ => Nat.le_of_ble_eq_true rfl⟩ rfl rv_85 wd_1045 wd_1047 wd_16 rfl (e_X12_error hq3) ?_
    exact z_iret dX12_as_23 rfl rfl (fi_w h)
  · replace h := ab_neg hc2 h
    refine z_iload_n (pc2 := 9) rfl dX12_as_8 rfl ?_
    refine z_iconst (pc2 := 10) rfl dX12_as_9 lt_i_0 ?_
    refine z_bipush (pc2 := 12) rfl dX12_as_10 lt_b_6 ?_
    obtain ⟨q4, hq4, h⟩ := ab_bnd h
    refine z_callSi [.int a2, .int (0 : Int32), .int (6 : Int32)] [some (.int a2), some (.int (0 : Int32)), some (.int (6 : Int32))] (pc2 := 15) rfl rfl dX12_as_12 ok_X12_in ⟨fun _ => rfl, fun _ => Nat.le_of_ble_eq_true rfl⟩ rfl wd_1042 wd_1043 rfl (e_X12_in hq4) ?_
    refine z_if_ne (pc2 := 18) (tgt := 24) rfl dX12_as_15 (by decide) (fun hc5 => ?_) (fun hc5 => ?_)
    · replace h := ab_neg hc5 h
      refine z_aload_n (pc2 := 25) rfl dX12_as_24 rfl ?_
      refine z_iload_n (pc2 := 26) rfl dX12_as_25 rfl ?_
      refine z_iconst (pc2 := 27) rfl dX12_as_26 lt_i_0 ?_
      obtain ⟨q6, hq6, h⟩ := ab_bnd h
      refine z_callVi 85 [.int a1, .int (0 : Int32)] [some (.ref 85), some (.int a1), some (.int (0 : Int32))] (pc2 := 30) rfl rfl dX12_as_27 ok_X12_its ⟨fun _ => rfl, fun _ => Nat.le_of_ble_eq_true rfl⟩ rfl rv_85 wd_1129 wd_1131 wd_31 rfl (e_X12_its hq6) ?_
      refine z_istore_n (pc2 := 31) (L2 := [some (.ref 85), some (.int a1), some (.int a2), some (.int q6), none]) rfl dX12_as_30 (by decide) rfl rfl ?_
      refine z_iload_n (pc2 := 32) rfl dX12_as_31 rfl ?_
      refine z_if_eq (pc2 := 35) (tgt := 48) rfl dX12_as_32 (by decide) (fun hc7 => ?_) (fun hc7 => ?_)
      · replace h := ab_pos hc7 h
        refine z_iconst (pc2 := 49) rfl dX12_as_48 lt_i_1 ?_
        refine ab_goto (tgt := 53) dX12_as_49 (by decide) ?_
        refine z_istore (pc2 := 55) (L2 := [some (.ref 85), some (.int a1), some (.int a2), some (.int q6), some (.int (1 : Int32))]) rfl dX12_as_53 (by decide) rfl rfl ?_
        refine z_iload (pc2 := 57) rfl dX12_as_55 rfl ?_
        refine z_if_eq (pc2 := 60) (tgt := 69) rfl dX12_as_57 (by decide) (fun hc => ?_) (fun hc => ?_)
        · exact absurd hc (by decide)
        · refine z_aload_n (pc2 := 61) rfl dX12_as_60 rfl ?_
          refine z_iload_n (pc2 := 62) rfl dX12_as_61 rfl ?_
          refine z_iconst (pc2 := 63) rfl dX12_as_62 lt_i_1 ?_
          obtain ⟨q8, hq8, h⟩ := ab_bnd h
          refine z_callVi 85 [.int a1, .int (1 : Int32)] [some (.ref 85), some (.int a1), some (.int (1 : Int32))] (pc2 := 66) rfl rfl dX12_as_63 ok_X12_its ⟨fun _ => rfl, fun _ => Nat.le_of_ble_eq_true rfl⟩ rfl rv_85 wd_1129 wd_1131 wd_31 rfl (e_X12_its hq8) ?_
          refine ab_goto (tgt := 74) dX12_as_66 (by decide) ?_
          exact z_iret dX12_as_74 rfl rfl (fi_w h)
      · replace h := ab_neg hc7 h
        refine z_iload_n (pc2 := 36) rfl dX12_as_35 rfl ?_
        refine z_iload_n (pc2 := 37) rfl dX12_as_36 rfl ?_
        refine z_icmp_eq (pc2 := 40) (tgt := 48) rfl dX12_as_37 (by decide) (fun hc9 => ?_) (fun hc9 => ?_)
        · replace h := ab_pos hc9 h
          refine z_iconst (pc2 := 49) rfl dX12_as_48 lt_i_1 ?_
          refine ab_goto (tgt := 53) dX12_as_49 (by decide) ?_
          refine z_istore (pc2 := 55) (L2 := [some (.ref 85), some (.int a1), some (.int a2), some (.int q6), some (.int (1 : Int32))]) rfl dX12_as_53 (by decide) rfl rfl ?_
          refine z_iload (pc2 := 57) rfl dX12_as_55 rfl ?_
          refine z_if_eq (pc2 := 60) (tgt := 69) rfl dX12_as_57 (by decide) (fun hc => ?_) (fun hc => ?_)
          · exact absurd hc (by decide)
          · refine z_aload_n (pc2 := 61) rfl dX12_as_60 rfl ?_
            refine z_iload_n (pc2 := 62) rfl dX12_as_61 rfl ?_
            refine z_iconst (pc2 := 63) rfl dX12_as_62 lt_i_1 ?_
            obtain ⟨q10, hq10, h⟩ := ab_bnd h
            refine z_callVi 85 [.int a1, .int (1 : Int32)] [some (.ref 85), some (.int a1), some (.int (1 : Int32))] (pc2 := 66) rfl rfl dX12_as_63 ok_X12_its ⟨fun _ => rfl, fun _ => Nat.le_of_ble_eq_true rfl⟩ rfl rv_85 wd_1129 wd_1131 wd_31 rfl (e_X12_its hq10) ?_
            refine ab_goto (tgt := 74) dX12_as_66 (by decide) ?_
            exact z_iret dX12_as_74 rfl rfl (fi_w h)
        · replace h := ab_neg hc9 h
          refine z_iload_n (pc2 := 41) rfl dX12_as_40 rfl ?_
          obtain ⟨q11, hq11, h⟩ := ab_bnd h
          refine z_callSi [.int q6] [some (.int q6)] (pc2 := 44) rfl rfl dX12_as_41 ok_X12_above ⟨fun _ => rfl, fun _ => Nat.le_of_ble_eq_true rfl⟩ rfl wd_1181 wd_1182 rfl (e_X12_above hq11) ?_
          refine z_iload_n (pc2 := 45) rfl dX12_as_44 rfl ?_
          refine z_icmp_ne (pc2 := 48) (tgt := 52) rfl dX12_as_45 (by decide) (fun hc12 => ?_) (fun hc12 => ?_)
          · replace h := ab_neg hc12 h
            refine z_iconst (pc2 := 53) rfl dX12_as_52 lt_i_0 ?_
            refine z_istore (pc2 := 55) (L2 := [some (.ref 85), some (.int a1), some (.int a2), some (.int q6), some (.int (0 : Int32))]) rfl dX12_as_53 (by decide) rfl rfl ?_
            refine z_iload (pc2 := 57) rfl dX12_as_55 rfl ?_
            refine z_if_eq (pc2 := 60) (tgt := 69) rfl dX12_as_57 (by decide) (fun hc => ?_) (fun hc => ?_)
            · refine z_aload_n (pc2 := 70) rfl dX12_as_69 rfl ?_
              refine z_iconst (pc2 := 71) rfl dX12_as_70 lt_i_5 ?_
              obtain ⟨q13, hq13, h⟩ := ab_bnd h
              refine z_callVi 85 [.int (5 : Int32)] [some (.ref 85), some (.int (5 : Int32))] (pc2 := 74) rfl rfl dX12_as_71 ok_X12_error ⟨fun _ => rfl, fun _ => Nat.le_of_ble_eq_true rfl⟩ rfl rv_85 wd_1045 wd_1047 wd_16 rfl (e_X12_error hq13) ?_
              exact z_iret dX12_as_74 rfl rfl (fi_w h)
            · exact absurd hc (by decide)
          · replace h := ab_pos hc12 h
            refine z_iconst (pc2 := 49) rfl dX12_as_48 lt_i_1 ?_
            refine ab_goto (tgt := 53) dX12_as_49 (by decide) ?_
            refine z_istore (pc2 := 55) (L2 := [some (.ref 85), some (.int a1), some (.int a2), some (.int q6), some (.int (1 : Int32))]) rfl dX12_as_53 (by decide) rfl rfl ?_
            refine z_iload (pc2 := 57) rfl dX12_as_55 rfl ?_
            refine z_if_eq (pc2 := 60) (tgt := 69) rfl dX12_as_57 (by decide) (fun hc => ?_) (fun hc => ?_)
            · exact absurd hc (by decide)
            · refine z_aload_n (pc2 := 61) rfl dX12_as_60 rfl ?_
              refine z_iload_n (pc2 := 62) rfl dX12_as_61 rfl ?_
              refine z_iconst (pc2 := 63) rfl dX12_as_62 lt_i_1 ?_
              obtain ⟨q14, hq14, h⟩ := ab_bnd h
              refine z_callVi 85 [.int a1, .int (1 : Int32)] [some (.ref 85), some (.int a1), some (.int (1 : Int32))] (pc2 := 66) rfl rfl dX12_as_63 ok_X12_its ⟨fun _ => rfl, fun _ => Nat.le_of_ble_eq_true rfl⟩ rfl rv_85 wd_1129 wd_1131 wd_31 rfl (e_X12_its hq14) ?_
              refine ab_goto (tgt := 74) dX12_as_66 (by decide) ?_
              exact z_iret dX12_as_74 rfl rfl (fi_w h)
    · replace h := ab_pos hc5 h
      refine z_aload_n (pc2 := 19) rfl dX12_as_18 rfl ?_
      refine z_iconst (pc2 := 20) rfl dX12_as_19 lt_i_1 ?_
      obtain ⟨q15, hq15, h⟩ := ab_bnd h
      refine z_callVi 85 [.int (1 : Int32)] [some (.ref 85), some (.int (1 : Int32))] (pc2 := 23) rfl rfl dX12_as_20 ok_X12_error ⟨fun _ => rfl, fun _ => Nat.le_of_ble_eq_true rfl⟩ rfl rv_85 wd_1045 wd_1047 wd_16 rfl (e_X12_error hq15) ?_
      exact z_iret dX12_as_23 rfl rfl (fi_w h)
def f_X12_set (a1 : Int32) (a2 : Int32) (a3 : Int32) (σ : ab_F) : Option (Int32 × ab_F) := (if a2 = 0 then (f_X12_isOne a1 σ).bind (fun q23 => (if (ab_b q23) = 0 then (f_X12_error (1 : Int32) σ).bind (fun q25 => (some (q25.1, q25.2))) else (f_X12_in a2 (0 : Int32) (2 : Int32) σ).bind (fun q26 => (if (ab_b q26) = 0 then (f_X12_error (1 : Int32) σ).bind (fun q28 => (some (q28.1, q28.2))) else (f_X12_in a3 (0 : Int32) (15 : Int32) σ).bind (fun q29 => (if (ab_b q29) = 0 then (f_X12_error (1 : Int32) σ).bind (fun q31 => (some (q31.1, q31.2))) else (f_X12_change1 ((((76 : Int32) + ((5 : Int32) * a1)) + (2 : Int32)) + a2) a3 σ).bind (fun q32 => (some (q32.1, q32.2))))))))) else (if a2 = (1 : Int32) then (f_X12_isOne a1 σ).bind (fun q13 => (if (ab_b q13) = 0 then (f_X12_error (1 : Int32) σ).bind (fun q15 => (some (q15.1, q15.2))) else (f_X12_in a2 (0 : Int32) (2 : Int32) σ).bind (fun q16 => (if (ab_b q16) = 0 then (f_X12_error (1 : Int32) σ).bind (fun q18 => (some (q18.1, q18.2))) else (f_X12_in a3 (0 : Int32) (20 : Int32) σ).bind (fun q19 => (if (ab_b q19) = 0 then (f_X12_error (1 : Int32) σ).bind (fun q21 => (some (q21.1, q21.2))) else (f_X12_change1 ((((76 : Int32) + ((5 : Int32) * a1)) + (2 : Int32)) + a2) a3 σ).bind (fun q22 => (some (q22.1, q22.2))))))))) else (f_X12_isOne a1 σ).bind (fun q3 => (if (ab_b q3) = 0 then (f_X12_error (1 : Int32) σ).bind (fun q5 => (some (q5.1, q5.2))) else (f_X12_in a2 (0 : Int32) (2 : Int32) σ).bind (fun q6 => (if (ab_b q6) = 0 then (f_X12_error (1 : Int32) σ).bind (fun q8 => (some (q8.1, q8.2))) else (f_X12_in a3 (0 : Int32) (4095 : Int32) σ).bind (fun q9 => (if (ab_b q9) = 0 then (f_X12_error (1 : Int32) σ).bind (fun q11 => (some (q11.1, q11.2))) else (f_X12_change1 ((((76 : Int32) + ((5 : Int32) * a1)) + (2 : Int32)) + a2) a3 σ).bind (fun q12 => (some (q12.1, q12.2)))))))))))
set_option maxRecDepth 100000 in
set_option maxHeartbeats 4000000 in
theorem e_X12_set {sc : Nat × (Nat → Int32)} {r : Option Nat × Option Nat} {a1 : Int32} {a2 : Int32} {a3 : Int32} {σ : ab_F} {res : (Int32 × ab_F)} (h : f_X12_set a1 a2 a3 σ = some res) : ab_E mX12_set 2 sc 0 [some (.ref 85), some (.int a1), some (.int a2), some (.int a3), none, none] [] (σ, r) (fun v S => v = some (.int res.1) ∧ S = (res.2, r)) := by
  unfold f_X12_set at h
  refine z_iload_n (pc2 := 1) rfl dX12_set_0 rfl ?_
  refine z_if_ne (pc2 := 4) (tgt := 9) rfl dX12_set_1 (by decide) (fun hc1 => ?_) (fun hc1 => ?_)
  · replace h := ab_neg hc1 h
    refine z_iload_n (pc2 := 10) rfl dX12_set_9 rfl ?_
    refine z_iconst (pc2 := 11) rfl dX12_set_10 lt_i_1 ?_
    refine z_icmp_ne (pc2 := 14) (tgt := 19) rfl dX12_set_11 (by decide) (fun hc2 => ?_) (fun hc2 => ?_)
    · replace h := ab_neg hc2 h
      refine z_sipush (pc2 := 22) rfl dX12_set_19 lt_s_4095 ?_
      refine z_istore (pc2 := 24) (L2 := [some (.ref 85), some (.int a1), some (.int a2), some (.int a3), some (.int (4095 : Int32)), none]) rfl dX12_set_22 (by decide) rfl rfl ?_
      refine z_aload_n (pc2 := 25) rfl dX12_set_24 rfl ?_
      refine z_iload_n (pc2 := 26) rfl dX12_set_25 rfl ?_
      obtain ⟨q3, hq3, h⟩ := ab_bnd h
      refine z_callVi 85 [.int a1] [some (.ref 85), some (.int a1)] (pc2 := 29) rfl rfl dX12_set_26 ok_X12_isOne ⟨fun _ => rfl, fun _ => Nat.le_of_ble_eq_true rfl⟩ rfl rv_85 wd_1121 wd_1123 wd_29 rfl (e_X12_isOne hq3) ?_
      refine z_if_eq (pc2 := 32) (tgt := 55) rfl dX12_set_29 (by decide) (fun hc4 => ?_) (fun hc4 => ?_)
      · replace h := ab_pos hc4 h
        refine z_iconst (pc2 := 56) rfl dX12_set_55 lt_i_0 ?_
        refine z_istore (pc2 := 58) (L2 := [some (.ref 85), some (.int a1), some (.int a2), some (.int a3), some (.int (4095 : Int32)), some (.int (0 : Int32))]) rfl dX12_set_56 (by decide) rfl rfl ?_
        refine z_iload (pc2 := 60) rfl dX12_set_58 rfl ?_
        refine z_if_eq (pc2 := 63) (tgt := 81) rfl dX12_set_60 (by decide) (fun hc => ?_) (fun hc => ?_)
        · refine z_aload_n (pc2 := 82) rfl dX12_set_81 rfl ?_
          refine z_iconst (pc2 := 83) rfl dX12_set_82 lt_i_1 ?_
          obtain ⟨q5, hq5, h⟩ := ab_bnd h
          refine z_callVi 85 [.int (1 : Int32)] [some (.ref 85), some (.int (1 : Int32))] (pc2 := 86) rfl rfl dX12_set_83 ok_X12_error ⟨fun _ => rfl, fun _ => Nat.le_of_ble_eq_true rfl⟩ rfl rv_85 wd_1045 wd_1047 wd_16 rfl (e_X12_error hq5) ?_
          exact z_iret dX12_set_86 rfl rfl (fi_w h)
        · exact absurd hc (by decide)
      · replace h := ab_neg hc4 h
        refine z_iload_n (pc2 := 33) rfl dX12_set_32 rfl ?_
        refine z_iconst (pc2 := 34) rfl dX12_set_33 lt_i_0 ?_
        refine z_iconst (pc2 := 35) rfl dX12_set_34 lt_i_2 ?_
        obtain ⟨q6, hq6, h⟩ := ab_bnd h
        refine z_callSi [.int a2, .int (0 : Int32), .int (2 : Int32)] [some (.int a2), some (.int (0 : Int32)), some (.int (2 : Int32))] (pc2 := 38) rfl rfl dX12_set_35 ok_X12_in ⟨fun _ => rfl, fun _ => Nat.le_of_ble_eq_true rfl⟩ rfl wd_1042 wd_1043 rfl (e_X12_in hq6) ?_
        refine z_if_eq (pc2 := 41) (tgt := 55) rfl dX12_set_38 (by decide) (fun hc7 => ?_) (fun hc7 => ?_)
        · replace h := ab_pos hc7 h
          refine z_iconst (pc2 := 56) rfl dX12_set_55 lt_i_0 ?_
          refine z_istore (pc2 := 58) (L2 := [some (.ref 85), some (.int a1), some (.int a2), some (.int a3), some (.int (4095 : Int32)), some (.int (0 : Int32))]) rfl dX12_set_56 (by decide) rfl rfl ?_
          refine z_iload (pc2 := 60) rfl dX12_set_58 rfl ?_
          refine z_if_eq (pc2 := 63) (tgt := 81) rfl dX12_set_60 (by decide) (fun hc => ?_) (fun hc => ?_)
          · refine z_aload_n (pc2 := 82) rfl dX12_set_81 rfl ?_
            refine z_iconst (pc2 := 83) rfl dX12_set_82 lt_i_1 ?_
            obtain ⟨q8, hq8, h⟩ := ab_bnd h
            refine z_callVi 85 [.int (1 : Int32)] [some (.ref 85), some (.int (1 : Int32))] (pc2 := 86) rfl rfl dX12_set_83 ok_X12_error ⟨fun _ => rfl, fun _ => Nat.le_of_ble_eq_true rfl⟩ rfl rv_85 wd_1045 wd_1047 wd_16 rfl (e_X12_error hq8) ?_
            exact z_iret dX12_set_86 rfl rfl (fi_w h)
          · exact absurd hc (by decide)
        · replace h := ab_neg hc7 h
          refine z_iload_n (pc2 := 42) rfl dX12_set_41 rfl ?_
          refine z_iconst (pc2 := 43) rfl dX12_set_42 lt_i_0 ?_
          refine z_iload (pc2 := 45) rfl dX12_set_43 rfl ?_
          obtain ⟨q9, hq9, h⟩ := ab_bnd h
          refine z_callSi [.int a3, .int (0 : Int32), .int (4095 : Int32)] [some (.int a3), some (.int (0 : Int32)), some (.int (4095 : Int32))] (pc2 := 48) rfl rfl dX12_set_45 ok_X12_in ⟨fun _ => rfl, fun _ => Nat.le_of_ble_eq_true rfl⟩ rfl wd_1042 wd_1043 rfl (e_X12_in hq9) ?_
          refine z_if_eq (pc2 := 51) (tgt := 55) rfl dX12_set_48 (by decide) (fun hc10 => ?_) (fun hc10 => ?_)
          · replace h := ab_pos hc10 h
            refine z_iconst (pc2 := 56) rfl dX12_set_55 lt_i_0 ?_
            refine z_istore (pc2 := 58) (L2 := [some (.ref 85), some (.int a1), some (.int a2), some (.int a3), some (.int (4095 : Int32)), some (.int (0 : Int32))]) rfl dX12_set_56 (by decide) rfl rfl ?_
            refine z_iload (pc2 := 60) rfl dX12_set_58 rfl ?_
            refine z_if_eq (pc2 := 63) (tgt := 81) rfl dX12_set_60 (by decide) (fun hc => ?_) (fun hc => ?_)
            · refine z_aload_n (pc2 := 82) rfl dX12_set_81 rfl ?_
              refine z_iconst (pc2 := 83) rfl dX12_set_82 lt_i_1 ?_
              obtain ⟨q11, hq11, h⟩ := ab_bnd h
              refine z_callVi 85 [.int (1 : Int32)] [some (.ref 85), some (.int (1 : Int32))] (pc2 := 86) rfl rfl dX12_set_83 ok_X12_error ⟨fun _ => rfl, fun _ => Nat.le_of_ble_eq_true rfl⟩ rfl rv_85 wd_1045 wd_1047 wd_16 rfl (e_X12_error hq11) ?_
              exact z_iret dX12_set_86 rfl rfl (fi_w h)
            · exact absurd hc (by decide)
          · replace h := ab_neg hc10 h
            refine z_iconst (pc2 := 52) rfl dX12_set_51 lt_i_1 ?_
            refine ab_goto (tgt := 56) dX12_set_52 (by decide) ?_
            refine z_istore (pc2 := 58) (L2 := [some (.ref 85), some (.int a1), some (.int a2), some (.int a3), some (.int (4095 : Int32)), some (.int (1 : Int32))]) rfl dX12_set_56 (by decide) rfl rfl ?_
            refine z_iload (pc2 := 60) rfl dX12_set_58 rfl ?_
            refine z_if_eq (pc2 := 63) (tgt := 81) rfl dX12_set_60 (by decide) (fun hc => ?_) (fun hc => ?_)
            · exact absurd hc (by decide)
            · refine z_aload_n (pc2 := 64) rfl dX12_set_63 rfl ?_
              refine z_bipush (pc2 := 66) rfl dX12_set_64 lt_b_76 ?_
              refine z_iconst (pc2 := 67) rfl dX12_set_66 lt_i_5 ?_
              refine z_iload_n (pc2 := 68) rfl dX12_set_67 rfl ?_
              refine z_imul (pc2 := 69) rfl dX12_set_68 ?_
              refine z_iadd (pc2 := 70) rfl dX12_set_69 ?_
              refine z_iconst (pc2 := 71) rfl dX12_set_70 lt_i_2 ?_
              refine z_iadd (pc2 := 72) rfl dX12_set_71 ?_
              refine z_iload_n (pc2 := 73) rfl dX12_set_72 rfl ?_
              refine z_iadd (pc2 := 74) rfl dX12_set_73 ?_
              refine z_iload_n (pc2 := 75) rfl dX12_set_74 rfl ?_
              obtain ⟨q12, hq12, h⟩ := ab_bnd h
              refine z_callVi 85 [.int ((((76 : Int32) + ((5 : Int32) * a1)) + (2 : Int32)) + a2), .int a3] [some (.ref 85), some (.int ((((76 : Int32) + ((5 : Int32) * a1)) + (2 : Int32)) + a2)), some (.int a3), none] (pc2 := 78) rfl rfl dX12_set_75 ok_X12_change1 ⟨fun _ => rfl, fun _ => Nat.le_of_ble_eq_true rfl⟩ rfl rv_85 wd_1188 wd_1190 wd_39 rfl (e_X12_change1 hq12) ?_
              refine ab_goto (tgt := 86) dX12_set_78 (by decide) ?_
              exact z_iret dX12_set_86 rfl rfl (fi_w h)
    · replace h := ab_pos hc2 h
      refine z_bipush (pc2 := 16) rfl dX12_set_14 lt_b_20 ?_
      refine ab_goto (tgt := 22) dX12_set_16 (by decide) ?_
      refine z_istore (pc2 := 24) (L2 := [some (.ref 85), some (.int a1), some (.int a2), some (.int a3), some (.int (20 : Int32)), none]) rfl dX12_set_22 (by decide) rfl rfl ?_
      refine z_aload_n (pc2 := 25) rfl dX12_set_24 rfl ?_
      refine z_iload_n (pc2 := 26) rfl dX12_set_25 rfl ?_
      obtain ⟨q13, hq13, h⟩ := ab_bnd h
      refine z_callVi 85 [.int a1] [some (.ref 85), some (.int a1)] (pc2 := 29) rfl rfl dX12_set_26 ok_X12_isOne ⟨fun _ => rfl, fun _ => Nat.le_of_ble_eq_true rfl⟩ rfl rv_85 wd_1121 wd_1123 wd_29 rfl (e_X12_isOne hq13) ?_
      refine z_if_eq (pc2 := 32) (tgt := 55) rfl dX12_set_29 (by decide) (fun hc14 => ?_) (fun hc14 => ?_)
      · replace h := ab_pos hc14 h
        refine z_iconst (pc2 := 56) rfl dX12_set_55 lt_i_0 ?_
        refine z_istore (pc2 := 58) (L2 := [some (.ref 85), some (.int a1), some (.int a2), some (.int a3), some (.int (20 : Int32)), some (.int (0 : Int32))]) rfl dX12_set_56 (by decide) rfl rfl ?_
        refine z_iload (pc2 := 60) rfl dX12_set_58 rfl ?_
        refine z_if_eq (pc2 := 63) (tgt := 81) rfl dX12_set_60 (by decide) (fun hc => ?_) (fun hc => ?_)
        · refine z_aload_n (pc2 := 82) rfl dX12_set_81 rfl ?_
          refine z_iconst (pc2 := 83) rfl dX12_set_82 lt_i_1 ?_
          obtain ⟨q15, hq15, h⟩ := ab_bnd h
          refine z_callVi 85 [.int (1 : Int32)] [some (.ref 85), some (.int (1 : Int32))] (pc2 := 86) rfl rfl dX12_set_83 ok_X12_error ⟨fun _ => rfl, fun _ => Nat.le_of_ble_eq_true rfl⟩ rfl rv_85 wd_1045 wd_1047 wd_16 rfl (e_X12_error hq15) ?_
          exact z_iret dX12_set_86 rfl rfl (fi_w h)
        · exact absurd hc (by decide)
      · replace h := ab_neg hc14 h
        refine z_iload_n (pc2 := 33) rfl dX12_set_32 rfl ?_
        refine z_iconst (pc2 := 34) rfl dX12_set_33 lt_i_0 ?_
        refine z_iconst (pc2 := 35) rfl dX12_set_34 lt_i_2 ?_
        obtain ⟨q16, hq16, h⟩ := ab_bnd h
        refine z_callSi [.int a2, .int (0 : Int32), .int (2 : Int32)] [some (.int a2), some (.int (0 : Int32)), some (.int (2 : Int32))] (pc2 := 38) rfl rfl dX12_set_35 ok_X12_in ⟨fun _ => rfl, fun _ => Nat.le_of_ble_eq_true rfl⟩ rfl wd_1042 wd_1043 rfl (e_X12_in hq16) ?_
        refine z_if_eq (pc2 := 41) (tgt := 55) rfl dX12_set_38 (by decide) (fun hc17 => ?_) (fun hc17 => ?_)
        · replace h := ab_pos hc17 h
          refine z_iconst (pc2 := 56) rfl dX12_set_55 lt_i_0 ?_
          refine z_istore (pc2 := 58) (L2 := [some (.ref 85), some (.int a1), some (.int a2), some (.int a3), some (.int (20 : Int32)), some (.int (0 : Int32))]) rfl dX12_set_56 (by decide) rfl rfl ?_
          refine z_iload (pc2 := 60) rfl dX12_set_58 rfl ?_
          refine z_if_eq (pc2 := 63) (tgt := 81) rfl dX12_set_60 (by decide) (fun hc => ?_) (fun hc => ?_)
          · refine z_aload_n (pc2 := 82) rfl dX12_set_81 rfl ?_
            refine z_iconst (pc2 := 83) rfl dX12_set_82 lt_i_1 ?_
            obtain ⟨q18, hq18, h⟩ := ab_bnd h
            refine z_callVi 85 [.int (1 : Int32)] [some (.ref 85), some (.int (1 : Int32))] (pc2 := 86) rfl rfl dX12_set_83 ok_X12_error ⟨fun _ => rfl, fun _ => Nat.le_of_ble_eq_true rfl⟩ rfl rv_85 wd_1045 wd_1047 wd_16 rfl (e_X12_error hq18) ?_
            exact z_iret dX12_set_86 rfl rfl (fi_w h)
          · exact absurd hc (by decide)
        · replace h := ab_neg hc17 h
          refine z_iload_n (pc2 := 42) rfl dX12_set_41 rfl ?_
          refine z_iconst (pc2 := 43) rfl dX12_set_42 lt_i_0 ?_
          refine z_iload (pc2 := 45) rfl dX12_set_43 rfl ?_
          obtain ⟨q19, hq19, h⟩ := ab_bnd h
          refine z_callSi [.int a3, .int (0 : Int32), .int (20 : Int32)] [some (.int a3), some (.int (0 : Int32)), some (.int (20 : Int32))] (pc2 := 48) rfl rfl dX12_set_45 ok_X12_in ⟨fun _ => rfl, fun _ => Nat.le_of_ble_eq_true rfl⟩ rfl wd_1042 wd_1043 rfl (e_X12_in hq19) ?_
          refine z_if_eq (pc2 := 51) (tgt := 55) rfl dX12_set_48 (by decide) (fun hc20 => ?_) (fun hc20 => ?_)
          · replace h := ab_pos hc20 h
            refine z_iconst (pc2 := 56) rfl dX12_set_55 lt_i_0 ?_
            refine z_istore (pc2 := 58) (L2 := [some (.ref 85), some (.int a1), some (.int a2), some (.int a3), some (.int (20 : Int32)), some (.int (0 : Int32))]) rfl dX12_set_56 (by decide) rfl rfl ?_
            refine z_iload (pc2 := 60) rfl dX12_set_58 rfl ?_
            refine z_if_eq (pc2 := 63) (tgt := 81) rfl dX12_set_60 (by decide) (fun hc => ?_) (fun hc => ?_)
            · refine z_aload_n (pc2 := 82) rfl dX12_set_81 rfl ?_
              refine z_iconst (pc2 := 83) rfl dX12_set_82 lt_i_1 ?_
              obtain ⟨q21, hq21, h⟩ := ab_bnd h
              refine z_callVi 85 [.int (1 : Int32)] [some (.ref 85), some (.int (1 : Int32))] (pc2 := 86) rfl rfl dX12_set_83 ok_X12_error ⟨fun _ => rfl, fun _ => Nat.le_of_ble_eq_true rfl⟩ rfl rv_85 wd_1045 wd_1047 wd_16 rfl (e_X12_error hq21) ?_
              exact z_iret dX12_set_86 rfl rfl (fi_w h)
            · exact absurd hc (by decide)
          · replace h := ab_neg hc20 h
            refine z_iconst (pc2 := 52) rfl dX12_set_51 lt_i_1 ?_
            refine ab_goto (tgt := 56) dX12_set_52 (by decide) ?_
            refine z_istore (pc2 := 58) (L2 := [some (.ref 85), some (.int a1), some (.int a2), some (.int a3), some (.int (20 : Int32)), some (.int (1 : Int32))]) rfl dX12_set_56 (by decide) rfl rfl ?_
            refine z_iload (pc2 := 60) rfl dX12_set_58 rfl ?_
            refine z_if_eq (pc2 := 63) (tgt := 81) rfl dX12_set_60 (by decide) (fun hc => ?_) (fun hc => ?_)
            · exact absurd hc (by decide)
            · refine z_aload_n (pc2 := 64) rfl dX12_set_63 rfl ?_
              refine z_bipush (pc2 := 66) rfl dX12_set_64 lt_b_76 ?_
              refine z_iconst (pc2 := 67) rfl dX12_set_66 lt_i_5 ?_
              refine z_iload_n (pc2 := 68) rfl dX12_set_67 rfl ?_
              refine z_imul (pc2 := 69) rfl dX12_set_68 ?_
              refine z_iadd (pc2 := 70) rfl dX12_set_69 ?_
              refine z_iconst (pc2 := 71) rfl dX12_set_70 lt_i_2 ?_
              refine z_iadd (pc2 := 72) rfl dX12_set_71 ?_
              refine z_iload_n (pc2 := 73) rfl dX12_set_72 rfl ?_
              refine z_iadd (pc2 := 74) rfl dX12_set_73 ?_
              refine z_iload_n (pc2 := 75) rfl dX12_set_74 rfl ?_
              obtain ⟨q22, hq22, h⟩ := ab_bnd h
              refine z_callVi 85 [.int ((((76 : Int32) + ((5 : Int32) * a1)) + (2 : Int32)) + a2), .int a3] [some (.ref 85), some (.int ((((76 : Int32) + ((5 : Int32) * a1)) + (2 : Int32)) + a2)), some (.int a3), none] (pc2 := 78) rfl rfl dX12_set_75 ok_X12_change1 ⟨fun _ => rfl, fun _ => Nat.le_of_ble_eq_true rfl⟩ rfl rv_85 wd_1188 wd_1190 wd_39 rfl (e_X12_change1 hq22) ?_
              refine ab_goto (tgt := 86) dX12_set_78 (by decide) ?_
              exact z_iret dX12_set_86 rfl rfl (fi_w h)
  · replace h := ab_pos hc1 h
    refine z_bipush (pc2 := 6) rfl dX12_set_4 lt_b_15 ?_
    refine ab_goto (tgt := 22) dX12_set_6 (by decide) ?_
    refine z_istore (pc2 := 24) (L2 := [some (.ref 85), some (.int a1), some (.int a2), some (.int a3), some (.int (15 : Int32)), none]) rfl dX12_set_22 (by decide) rfl rfl ?_
    refine z_aload_n (pc2 := 25) rfl dX12_set_24 rfl ?_
    refine z_iload_n (pc2 := 26) rfl dX12_set_25 rfl ?_
    obtain ⟨q23, hq23, h⟩ := ab_bnd h
    refine z_callVi 85 [.int a1] [some (.ref 85), some (.int a1)] (pc2 := 29) rfl rfl dX12_set_26 ok_X12_isOne ⟨fun _ => rfl, fun _ => Nat.le_of_ble_eq_true rfl⟩ rfl rv_85 wd_1121 wd_1123 wd_29 rfl (e_X12_isOne hq23) ?_
    refine z_if_eq (pc2 := 32) (tgt := 55) rfl dX12_set_29 (by decide) (fun hc24 => ?_) (fun hc24 => ?_)
    · replace h := ab_pos hc24 h
      refine z_iconst (pc2 := 56) rfl dX12_set_55 lt_i_0 ?_
      refine z_istore (pc2 := 58) (L2 := [some (.ref 85), some (.int a1), some (.int a2), some (.int a3), some (.int (15 : Int32)), some (.int (0 : Int32))]) rfl dX12_set_56 (by decide) rfl rfl ?_
      refine z_iload (pc2 := 60) rfl dX12_set_58 rfl ?_
      refine z_if_eq (pc2 := 63) (tgt := 81) rfl dX12_set_60 (by decide) (fun hc => ?_) (fun hc => ?_)
      · refine z_aload_n (pc2 := 82) rfl dX12_set_81 rfl ?_
        refine z_iconst (pc2 := 83) rfl dX12_set_82 lt_i_1 ?_
        obtain ⟨q25, hq25, h⟩ := ab_bnd h
        refine z_callVi 85 [.int (1 : Int32)] [some (.ref 85), some (.int (1 : Int32))] (pc2 := 86) rfl rfl dX12_set_83 ok_X12_error ⟨fun _ => rfl, fun _ => Nat.le_of_ble_eq_true rfl⟩ rfl rv_85 wd_1045 wd_1047 wd_16 rfl (e_X12_error hq25) ?_
        exact z_iret dX12_set_86 rfl rfl (fi_w h)
      · exact absurd hc (by decide)
    · replace h := ab_neg hc24 h
      refine z_iload_n (pc2 := 33) rfl dX12_set_32 rfl ?_
      refine z_iconst (pc2 := 34) rfl dX12_set_33 lt_i_0 ?_
      refine z_iconst (pc2 := 35) rfl dX12_set_34 lt_i_2 ?_
      obtain ⟨q26, hq26, h⟩ := ab_bnd h
      refine z_callSi [.int a2, .int (0 : Int32), .int (2 : Int32)] [some (.int a2), some (.int (0 : Int32)), some (.int (2 : Int32))] (pc2 := 38) rfl rfl dX12_set_35 ok_X12_in ⟨fun _ => rfl, fun _ => Nat.le_of_ble_eq_true rfl⟩ rfl wd_1042 wd_1043 rfl (e_X12_in hq26) ?_
      refine z_if_eq (pc2 := 41) (tgt := 55) rfl dX12_set_38 (by decide) (fun hc27 => ?_) (fun hc27 => ?_)
      · replace h := ab_pos hc27 h
        refine z_iconst (pc2 := 56) rfl dX12_set_55 lt_i_0 ?_
        refine z_istore (pc2 := 58) (L2 := [some (.ref 85), some (.int a1), some (.int a2), some (.int a3), some (.int (15 : Int32)), some (.int (0 : Int32))]) rfl dX12_set_56 (by decide) rfl rfl ?_
        refine z_iload (pc2 := 60) rfl dX12_set_58 rfl ?_
        refine z_if_eq (pc2 := 63) (tgt := 81) rfl dX12_set_60 (by decide) (fun hc => ?_) (fun hc => ?_)
        · refine z_aload_n (pc2 := 82) rfl dX12_set_81 rfl ?_
          refine z_iconst (pc2 := 83) rfl dX12_set_82 lt_i_1 ?_
          obtain ⟨q28, hq28, h⟩ := ab_bnd h
          refine z_callVi 85 [.int (1 : Int32)] [some (.ref 85), some (.int (1 : Int32))] (pc2 := 86) rfl rfl dX12_set_83 ok_X12_error ⟨fun _ => rfl, fun _ => Nat.le_of_ble_eq_true rfl⟩ rfl rv_85 wd_1045 wd_1047 wd_16 rfl (e_X12_error hq28) ?_
          exact z_iret dX12_set_86 rfl rfl (fi_w h)
        · exact absurd hc (by decide)
      · replace h := ab_neg hc27 h
        refine z_iload_n (pc2 := 42) rfl dX12_set_41 rfl ?_
        refine z_iconst (pc2 := 43) rfl dX12_set_42 lt_i_0 ?_
        refine z_iload (pc2 := 45) rfl dX12_set_43 rfl ?_
        obtain ⟨q29, hq29, h⟩ := ab_bnd h
        refine z_callSi [.int a3, .int (0 : Int32), .int (15 : Int32)] [some (.int a3), some (.int (0 : Int32)), some (.int (15 : Int32))] (pc2 := 48) rfl rfl dX12_set_45 ok_X12_in ⟨fun _ => rfl, fun _ => Nat.le_of_ble_eq_true rfl⟩ rfl wd_1042 wd_1043 rfl (e_X12_in hq29) ?_
        refine z_if_eq (pc2 := 51) (tgt := 55) rfl dX12_set_48 (by decide) (fun hc30 => ?_) (fun hc30 => ?_)
        · replace h := ab_pos hc30 h
          refine z_iconst (pc2 := 56) rfl dX12_set_55 lt_i_0 ?_
          refine z_istore (pc2 := 58) (L2 := [some (.ref 85), some (.int a1), some (.int a2), some (.int a3), some (.int (15 : Int32)), some (.int (0 : Int32))]) rfl dX12_set_56 (by decide) rfl rfl ?_
          refine z_iload (pc2 := 60) rfl dX12_set_58 rfl ?_
          refine z_if_eq (pc2 := 63) (tgt := 81) rfl dX12_set_60 (by decide) (fun hc => ?_) (fun hc => ?_)
          · refine z_aload_n (pc2 := 82) rfl dX12_set_81 rfl ?_
            refine z_iconst (pc2 := 83) rfl dX12_set_82 lt_i_1 ?_
            obtain ⟨q31, hq31, h⟩ := ab_bnd h
            refine z_callVi 85 [.int (1 : Int32)] [some (.ref 85), some (.int (1 : Int32))] (pc2 := 86) rfl rfl dX12_set_83 ok_X12_error ⟨fun _ => rfl, fun _ => Nat.le_of_ble_eq_true rfl⟩ rfl rv_85 wd_1045 wd_1047 wd_16 rfl (e_X12_error hq31) ?_
            exact z_iret dX12_set_86 rfl rfl (fi_w h)
          · exact absurd hc (by decide)
        · replace h := ab_neg hc30 h
          refine z_iconst (pc2 := 52) rfl dX12_set_51 lt_i_1 ?_
          refine ab_goto (tgt := 56) dX12_set_52 (by decide) ?_
          refine z_istore (pc2 := 58) (L2 := [some (.ref 85), some (.int a1), some (.int a2), some (.int a3), some (.int (15 : Int32)), some (.int (1 : Int32))]) rfl dX12_set_56 (by decide) rfl rfl ?_
          refine z_iload (pc2 := 60) rfl dX12_set_58 rfl ?_
          refine z_if_eq (pc2 := 63) (tgt := 81) rfl dX12_set_60 (by decide) (fun hc => ?_) (fun hc => ?_)
          · exact absurd hc (by decide)
          · refine z_aload_n (pc2 := 64) rfl dX12_set_63 rfl ?_
            refine z_bipush (pc2 := 66) rfl dX12_set_64 lt_b_76 ?_
            refine z_iconst (pc2 := 67) rfl dX12_set_66 lt_i_5 ?_
            refine z_iload_n (pc2 := 68) rfl dX12_set_67 rfl ?_
            refine z_imul (pc2 := 69) rfl dX12_set_68 ?_
            refine z_iadd (pc2 := 70) rfl dX12_set_69 ?_
            refine z_iconst (pc2 := 71) rfl dX12_set_70 lt_i_2 ?_
            refine z_iadd (pc2 := 72) rfl dX12_set_71 ?_
            refine z_iload_n (pc2 := 73) rfl dX12_set_72 rfl ?_
            refine z_iadd (pc2 := 74) rfl dX12_set_73 ?_
            refine z_iload_n (pc2 := 75) rfl dX12_set_74 rfl ?_
            obtain ⟨q32, hq32, h⟩ := ab_bnd h
            refine z_callVi 85 [.int ((((76 : Int32) + ((5 : Int32) * a1)) + (2 : Int32)) + a2), .int a3] [some (.ref 85), some (.int ((((76 : Int32) + ((5 : Int32) * a1)) + (2 : Int32)) + a2)), some (.int a3), none] (pc2 := 78) rfl rfl dX12_set_75 ok_X12_change1 ⟨fun _ => rfl, fun _ => Nat.le_of_ble_eq_true rfl⟩ rfl rv_85 wd_1188 wd_1190 wd_39 rfl (e_X12_change1 hq32) ?_
            refine ab_goto (tgt := 86) dX12_set_78 (by decide) ?_
            exact z_iret dX12_set_86 rfl rfl (fi_w h)
