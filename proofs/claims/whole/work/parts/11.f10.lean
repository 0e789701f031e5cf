set_option maxRecDepth 100000 in
set_option maxHeartbeats 4000000 in
theorem e_X9_highestBeside_49 {sc : Nat × (Nat → Int32)} {r : Option Nat × Option Nat} {a1 : Int32} {σ : ab_F} {res : Int32} (h : f_X9_highestBeside 49 a1 σ = some res) : ab_E mX9_highestBeside 0 sc 0 [some (.ref 49), some (.int a1), none, none, none, none] [] (σ, r) (fun v S => v = some (.int res) ∧ S = (σ, r)) := by
  unfold f_X9_highestBeside at h
  refine z_iload_n (pc2 := 1) rfl dX9_highestBeside_0 rfl ?_
  refine z_istore_n (pc2 := 2) (L2 := [some (.ref 49), some (.int a1), some (.int a1), none, none, none]) rfl dX9_highestBeside_1 (by decide) rfl rfl ?_
  refine z_iconst (pc2 := 3) rfl dX9_highestBeside_2 lt_i_m1 ?_
  refine z_istore_n (pc2 := 4) (L2 := [some (.ref 49), some (.int a1), some (.int a1), some (.int (-1 : Int32)), none, none]) rfl dX9_highestBeside_3 (by decide) rfl rfl ?_
  refine z_iconst (pc2 := 5) rfl dX9_highestBeside_4 lt_i_4 ?_
  refine z_iload_n (pc2 := 6) rfl dX9_highestBeside_5 rfl ?_
  refine z_imul (pc2 := 7) rfl dX9_highestBeside_6 ?_
  obtain ⟨x1, hxx1, h⟩ := ab_lt_e h
  refine z_top hxx1 ?_
  refine z_istore (pc2 := 9) (L2 := [some (.ref 49), some (.int a1), some (.int a1), some (.int (-1 : Int32)), some (.int x1), none]) rfl dX9_highestBeside_7 (by decide) rfl rfl ?_
  refine z_fgt [true, true, true, true, true, false] (L2 := [some (.ref 49), some (.int a1), some (.int a1), some (.int (-1 : Int32)), some (.int x1), none]) rfl ?_
  refine e_X9_highestBeside_49_L9 (fun k13 h => ?_) _ _ _ _ h
  refine z_iload_n (pc2 := 61) rfl dX9_highestBeside_60 rfl ?_
  exact z_iret dX9_highestBeside_61 rfl rfl (fi_p h)
set_option maxRecDepth 100000 in
set_option maxHeartbeats 4000000 in
theorem e_X9_getsWet_49 {sc : Nat × (Nat → Int32)} {r : Option Nat × Option Nat} {a1 : Int32} {σ : ab_F} {res : ab_F} (h : f_X9_getsWet 49 a1 σ = some res) : ab_E mX9_getsWet 4 sc 0 [some (.ref 49), some (.int a1)] [] (σ, r) (fun v S => v = none ∧ S = (res, r)) := by
  unfold f_X9_getsWet at h
  refine z_aload_n (pc2 := 1) rfl dX9_getsWet_0 rfl ?_
  refine z_getR 49 9 16 59 (pc2 := 4) rfl dX9_getsWet_1 rfl rfl ff_9_16 wd_263 rfl ?_
  refine z_iload_n (pc2 := 5) rfl dX9_getsWet_4 rfl ?_
  refine z_dup2 (pc2 := 6) rfl dX9_getsWet_5 rfl rfl ?_
  obtain ⟨hb1, h⟩ := ab_ck_e h
  refine z_iald 59 (pc2 := 7) (j := (a1).toNatClampNeg) rfl dX9_getsWet_6 rfl rfl hb1 rfl ?_
  refine z_aload_n (pc2 := 8) rfl dX9_getsWet_7 rfl ?_
  refine z_getR 49 9 9 53 (pc2 := 11) rfl dX9_getsWet_8 rfl rfl ff_9_9 wd_247 rfl ?_
  refine z_aload_n (pc2 := 12) rfl dX9_getsWet_11 rfl ?_
  refine z_getR 49 9 14 57 (pc2 := 15) rfl dX9_getsWet_12 rfl rfl ff_9_14 wd_259 rfl ?_
  refine z_iload_n (pc2 := 16) rfl dX9_getsWet_15 rfl ?_
  obtain ⟨hb2, h⟩ := ab_ck_e h
  refine z_iald 57 (pc2 := 17) (j := (a1).toNatClampNeg) rfl dX9_getsWet_16 rfl rfl hb2 rfl ?_
  obtain ⟨hb3, h⟩ := ab_ck_e h
  refine z_iald 53 (pc2 := 18) (j := ((σ (49 + 8) (a1).toNatClampNeg)).toNatClampNeg) rfl dX9_getsWet_17 rfl rfl hb3 rfl ?_
  refine z_ior (pc2 := 19) rfl dX9_getsWet_18 ?_
  obtain ⟨hb4, h⟩ := ab_ck_e h
  refine z_iast 59 (pc2 := 20) (j := (a1).toNatClampNeg) rfl dX9_getsWet_19 rfl rfl hb4 rfl ?_
  obtain ⟨s5, hs5, h⟩ := ab_lt_e h
  refine z_tops hs5 ?_
  refine z_aload_n (pc2 := 21) rfl dX9_getsWet_20 rfl ?_
  refine z_iload_n (pc2 := 22) rfl dX9_getsWet_21 rfl ?_
  obtain ⟨q6, hq6, h⟩ := ab_bnd h
  refine z_callVi 49 [.int a1] [some (.ref 49), some (.int a1)] (pc2 := 25) rfl rfl dX9_getsWet_22 ok_X9_does ⟨fun _ => rfl, fun _ => Nat.le_of_ble_eq_true rfl⟩ rfl rv_49 wd_695 wd_368 wd_369 rfl (e_X9_does_49 hq6) ?_
  by_cases hc7 : q6.1 = (1 : Int32)
  · replace h := ab_pos hc7 h
    refine ab_tsIn (tgt := 52) dX9_getsWet_25 (by rw [hc7]; decide) (by rw [hc7]; decide) (by rw [hc7]; rfl) (by decide) ?_
    refine z_aload_n (pc2 := 53) rfl dX9_getsWet_52 rfl ?_
    refine z_getR 49 9 15 58 (pc2 := 56) rfl dX9_getsWet_53 rfl rfl ff_9_15 wd_261 rfl ?_
    refine z_iload_n (pc2 := 57) rfl dX9_getsWet_56 rfl ?_
    refine z_bipush (pc2 := 59) rfl dX9_getsWet_57 lt_b_20 ?_
    refine z_aload_n (pc2 := 60) rfl dX9_getsWet_59 rfl ?_
    refine z_getR 49 9 15 58 (pc2 := 63) rfl dX9_getsWet_60 rfl rfl ff_9_15 wd_261 rfl ?_
    refine z_iload_n (pc2 := 64) rfl dX9_getsWet_63 rfl ?_
    obtain ⟨hb8, h⟩ := ab_ck_e h
    refine z_iald 58 (pc2 := 65) (j := (a1).toNatClampNeg) rfl dX9_getsWet_64 rfl rfl hb8 rfl ?_
    refine z_iconst (pc2 := 66) rfl dX9_getsWet_65 lt_i_1 ?_
    refine z_iadd (pc2 := 67) rfl dX9_getsWet_66 ?_
    obtain ⟨q9, hq9, h⟩ := ab_bnd h
    refine z_callSi [.int (20 : Int32), .int ((q6.2 (49 + 9) (a1).toNatClampNeg) + (1 : Int32))] [some (.int (20 : Int32)), some (.int ((q6.2 (49 + 9) (a1).toNatClampNeg) + (1 : Int32)))] (pc2 := 70) rfl rfl dX9_getsWet_67 ok_J9_min_7cf53 ⟨fun _ => rfl, fun _ => Nat.le_of_ble_eq_true rfl⟩ rfl wd_458 wd_459 rfl (e_J9_min_7cf53 hq9) ?_
    obtain ⟨hb10, h⟩ := ab_ck_e h
    refine z_iast 58 (pc2 := 71) (j := (a1).toNatClampNeg) rfl dX9_getsWet_70 rfl rfl hb10 rfl ?_
    obtain ⟨s11, hs11, h⟩ := ab_lt_e h
    refine z_tops hs11 ?_
    refine ab_goto (tgt := 103) dX9_getsWet_71 (by decide) ?_
    exact z_vret dX9_getsWet_103 rfl (fv_w h)
  · replace h := ab_neg hc7 h
    by_cases hc12 : q6.1 = (2 : Int32)
    · replace h := ab_pos hc12 h
      refine ab_tsIn (tgt := 74) dX9_getsWet_25 (by rw [hc12]; decide) (by rw [hc12]; decide) (by rw [hc12]; rfl) (by decide) ?_
      refine z_aload_n (pc2 := 75) rfl dX9_getsWet_74 rfl ?_
      refine z_getR 49 9 15 58 (pc2 := 78) rfl dX9_getsWet_75 rfl rfl ff_9_15 wd_261 rfl ?_
      refine z_iload_n (pc2 := 79) rfl dX9_getsWet_78 rfl ?_
      refine z_iconst (pc2 := 80) rfl dX9_getsWet_79 lt_i_0 ?_
      obtain ⟨hb13, h⟩ := ab_ck_e h
      refine z_iast 58 (pc2 := 81) (j := (a1).toNatClampNeg) rfl dX9_getsWet_80 rfl rfl hb13 rfl ?_
      obtain ⟨s14, hs14, h⟩ := ab_lt_e h
      refine z_tops hs14 ?_
      refine ab_goto (tgt := 103) dX9_getsWet_81 (by decide) ?_
      exact z_vret dX9_getsWet_103 rfl (fv_w h)
    · replace h := ab_neg hc12 h
      by_cases hc15 : q6.1 = (3 : Int32)
      · replace h := ab_pos hc15 h
        refine ab_tsIn (tgt := 84) dX9_getsWet_25 (by rw [hc15]; decide) (by rw [hc15]; decide) (by rw [hc15]; rfl) (by decide) ?_
        refine z_aload_n (pc2 := 85) rfl dX9_getsWet_84 rfl ?_
        refine z_getR 49 9 14 57 (pc2 := 88) rfl dX9_getsWet_85 rfl rfl ff_9_14 wd_259 rfl ?_
        refine z_iload_n (pc2 := 89) rfl dX9_getsWet_88 rfl ?_
        refine z_aload_n (pc2 := 90) rfl dX9_getsWet_89 rfl ?_
        refine z_aload_n (pc2 := 91) rfl dX9_getsWet_90 rfl ?_
        refine z_getR 49 9 14 57 (pc2 := 94) rfl dX9_getsWet_91 rfl rfl ff_9_14 wd_259 rfl ?_
        refine z_iload_n (pc2 := 95) rfl dX9_getsWet_94 rfl ?_
        obtain ⟨hb16, h⟩ := ab_ck_e h
        refine z_iald 57 (pc2 := 96) (j := (a1).toNatClampNeg) rfl dX9_getsWet_95 rfl rfl hb16 rfl ?_
        obtain ⟨q17, hq17, h⟩ := ab_bnd h
        refine z_callVi 49 [.int (q6.2 (49 + 8) (a1).toNatClampNeg)] [some (.ref 49), some (.int (q6.2 (49 + 8) (a1).toNatClampNeg)), none, none, none, none] (pc2 := 99) rfl rfl dX9_getsWet_96 ok_X9_highestBeside ⟨fun _ => rfl, fun _ => Nat.le_of_ble_eq_true rfl⟩ rfl rv_49 wd_696 wd_698 wd_12 rfl (e_X9_highestBeside_49 hq17) ?_
        obtain ⟨hb18, h⟩ := ab_ck_e h
        refine z_iast 57 (pc2 := 100) (j := (a1).toNatClampNeg) rfl dX9_getsWet_99 rfl rfl hb18 rfl ?_
        obtain ⟨s19, hs19, h⟩ := ab_lt_e h
        refine z_tops hs19 ?_
        refine ab_goto (tgt := 103) dX9_getsWet_100 (by decide) ?_
        exact z_vret dX9_getsWet_103 rfl (fv_w h)
      · replace h := ab_neg hc15 h
        have thc7 := ab_ne_toInt (k := 1) hc7 (by decide)
        have thc12 := ab_ne_toInt (k := 2) hc12 (by decide)
        have thc15 := ab_ne_toInt (k := 3) hc15 (by decide)
        refine ab_tsOut (tgt := 103) dX9_getsWet_25 (by omega) (by decide) ?_
        exact z_vret dX9_getsWet_103 rfl (fv_w h)
set_option maxRecDepth 100000 in
set_option maxHeartbeats 4000000 in
theorem e_X9_dayGoes_49_L6 {sc : Nat × (Nat → Int32)} {r : Option Nat × Option Nat} {K : ab_F → Option ab_F} {res : ab_F} (hK : ∀ (σ : ab_F), K σ = some res → ab_E mX9_dayGoes 5 sc 33 [some (.ref 49), none] [] (σ, r) (fun v S => v = none ∧ S = (res, r))) : ∀ (n : Nat) (u1 : Int32) (σ : ab_F), f_X9_dayGoes_L6 49 K n u1 σ = some res → ab_E mX9_dayGoes 5 sc 6 [some (.ref 49), some (.int u1)] [] (σ, r) (fun v S => v = none ∧ S = (res, r)) := by
  intro n
  induction n with
  | zero =>
    intro u1 σ h
    rw [f_X9_dayGoes_L6] at h
    cases h
  | succ n ih =>
    intro u1 σ h
    rw [f_X9_dayGoes_L6] at h
    refine z_iload_n (pc2 := 7) rfl dX9_dayGoes_6 rfl ?_
    refine z_aload_n (pc2 := 8) rfl dX9_dayGoes_7 rfl ?_
    refine z_getI 49 9 11 (pc2 := 11) rfl dX9_dayGoes_8 rfl rfl ff_9_11 wd_250 ?_
    refine z_icmp_ge (pc2 := 14) (tgt := 33) rfl dX9_dayGoes_11 (by decide) (fun hc2 => ?_) (fun hc2 => ?_)
    · replace h := ab_pos hc2 h
      refine z_fgt [true, false] (L2 := [some (.ref 49), none]) rfl ?_
      exact hK  _ h
    · replace h := ab_neg hc2 h
      refine z_aload_n (pc2 := 15) rfl dX9_dayGoes_14 rfl ?_
      refine z_iload_n (pc2 := 16) rfl dX9_dayGoes_15 rfl ?_
      obtain ⟨q3, hq3, h⟩ := ab_bnd h
      refine z_callVi 49 [.int u1] [some (.ref 49), some (.int u1)] (pc2 := 19) rfl rfl dX9_dayGoes_16 ok_X9_isWet ⟨fun _ => rfl, fun _ => Nat.le_of_ble_eq_true rfl⟩ rfl rv_49 wd_690 wd_364 wd_365 rfl (e_X9_isWet_49 hq3) ?_
      refine z_if_eq (pc2 := 22) (tgt := 27) rfl dX9_dayGoes_19 (by decide) (fun hc4 => ?_) (fun hc4 => ?_)
      · replace h := ab_pos hc4 h
        obtain ⟨x5, hxx5, h⟩ := ab_lt_e h
        refine z_iinc (pc2 := 30) (v := x5) (L2 := [some (.ref 49), some (.int x5)]) rfl dX9_dayGoes_27 rfl (by rw [hxx5]; rfl) (by decide) rfl rfl ?_
        refine ab_goto (tgt := 6) dX9_dayGoes_30 (by decide) ?_
        refine z_fgt [true, true] (L2 := [some (.ref 49), some (.int x5)]) rfl ?_
        exact ih _ _ h
      · replace h := ab_neg hc4 h
        refine z_aload_n (pc2 := 23) rfl dX9_dayGoes_22 rfl ?_
        refine z_iload_n (pc2 := 24) rfl dX9_dayGoes_23 rfl ?_
        obtain ⟨q6, hq6, h⟩ := ab_bnd h
        refine z_callVv 49 [.int u1] [some (.ref 49), some (.int u1)] (pc2 := 27) rfl rfl dX9_dayGoes_24 ok_X9_getsWet ⟨fun _ => rfl, fun _ => Nat.le_of_ble_eq_true rfl⟩ rfl rv_49 wd_691 wd_693 wd_11 rfl (e_X9_getsWet_49 hq6) ?_
        obtain ⟨x7, hxx7, h⟩ := ab_lt_e h
        refine z_iinc (pc2 := 30) (v := x7) (L2 := [some (.ref 49), some (.int x7)]) rfl dX9_dayGoes_27 rfl (by rw [hxx7]; rfl) (by decide) rfl rfl ?_
        refine ab_goto (tgt := 6) dX9_dayGoes_30 (by decide) ?_
        refine z_fgt [true, true] (L2 := [some (.ref 49), some (.int x7)]) rfl ?_
        exact ih _ _ h
set_option maxRecDepth 100000 in
set_option maxHeartbeats 4000000 in
theorem e_X9_dayGoes_49 {sc : Nat × (Nat → Int32)} {r : Option Nat × Option Nat} {σ : ab_F} {res : ab_F} (h : f_X9_dayGoes 49 σ = some res) : ab_E mX9_dayGoes 5 sc 0 [some (.ref 49), none] [] (σ, r) (fun v S => v = none ∧ S = (res, r)) := by
  unfold f_X9_dayGoes at h
  refine z_aload_n (pc2 := 1) rfl dX9_dayGoes_0 rfl ?_
  obtain ⟨q1, hq1, h⟩ := ab_bnd h
  refine z_callVv 49 [] [some (.ref 49), none, none] (pc2 := 4) rfl rfl dX9_dayGoes_1 ok_X9_waterRises ⟨fun _ => rfl, fun _ => Nat.le_of_ble_eq_true rfl⟩ rfl rv_49 wd_679 wd_681 wd_9 rfl (e_X9_waterRises_49 hq1) ?_
  refine z_iconst (pc2 := 5) rfl dX9_dayGoes_4 lt_i_0 ?_
  refine z_istore_n (pc2 := 6) (L2 := [some (.ref 49), some (.int (0 : Int32))]) rfl dX9_dayGoes_5 (by decide) rfl rfl ?_
  refine z_fgt [true, true] (L2 := [some (.ref 49), some (.int (0 : Int32))]) rfl ?_
  refine e_X9_dayGoes_49_L6 (fun s8 h => ?_) _ _ _ h
  refine z_aload_n (pc2 := 34) rfl dX9_dayGoes_33 rfl ?_
  refine z_dup (pc2 := 35) rfl dX9_dayGoes_34 rfl ?_
  refine z_getI 49 9 3 (pc2 := 38) rfl dX9_dayGoes_35 rfl rfl ff_9_3 wd_235 ?_
  refine z_iconst (pc2 := 39) rfl dX9_dayGoes_38 lt_i_1 ?_
  refine z_iadd (pc2 := 40) rfl dX9_dayGoes_39 ?_
  refine z_putI 49 9 3 (pc2 := 43) (ft := .int) rfl dX9_dayGoes_40 rfl rfl ff_9_3 wd_235 rfl (by decide +kernel) rfl rfl ?_
  obtain ⟨s9, hs9, h⟩ := ab_lt_e h
  refine z_tops hs9 ?_
  exact z_vret dX9_dayGoes_43 rfl (fv_w h)
set_option maxRecDepth 100000 in
set_option maxHeartbeats 4000000 in
theorem e_X9_daysGo_49_L2 {sc : Nat × (Nat → Int32)} {r : Option Nat × Option Nat} {p1 : Int32} {K : ab_F → Option ab_F} {res : ab_F} (hK : ∀ (σ : ab_F), K σ = some res → ab_E mX9_daysGo 6 sc 17 [none, none, none] [] (σ, r) (fun v S => v = none ∧ S = (res, r))) : ∀ (n : Nat) (u2 : Int32) (σ : ab_F), f_X9_daysGo_L2 49 p1 K n u2 σ = some res → ab_E mX9_daysGo 6 sc 2 [some (.ref 49), some (.int p1), some (.int u2)] [] (σ, r) (fun v S => v = none ∧ S = (res, r)) := by
  intro n
  induction n with
  | zero =>
    intro u2 σ h
    rw [f_X9_daysGo_L2] at h
    cases h
  | succ n ih =>
    intro u2 σ h
    rw [f_X9_daysGo_L2] at h
    refine z_iload_n (pc2 := 3) rfl dX9_daysGo_2 rfl ?_
    refine z_iload_n (pc2 := 4) rfl dX9_daysGo_3 rfl ?_
    refine z_icmp_ge (pc2 := 7) (tgt := 17) rfl dX9_daysGo_4 (by decide) (fun hc1 => ?_) (fun hc1 => ?_)
    · replace h := ab_pos hc1 h
      refine z_fgt [false, false, false] (L2 := [none, none, none]) rfl ?_
      exact hK  _ h
    · replace h := ab_neg hc1 h
      refine z_aload_n (pc2 := 8) rfl dX9_daysGo_7 rfl ?_
      obtain ⟨q2, hq2, h⟩ := ab_bnd h
      refine z_callVv 49 [] [some (.ref 49), none] (pc2 := 11) rfl rfl dX9_daysGo_8 ok_X9_dayGoes ⟨fun _ => rfl, fun _ => Nat.le_of_ble_eq_true rfl⟩ rfl rv_49 wd_675 wd_676 wd_677 rfl (e_X9_dayGoes_49 hq2) ?_
      obtain ⟨x3, hxx3, h⟩ := ab_lt_e h
      refine z_iinc (pc2 := 14) (v := x3) (L2 := [some (.ref 49), some (.int p1), some (.int x3)]) rfl dX9_daysGo_11 rfl (by rw [hxx3]; rfl) (by decide) rfl rfl ?_
      refine ab_goto (tgt := 2) dX9_daysGo_14 (by decide) ?_
      refine z_fgt [true, true, true] (L2 := [some (.ref 49), some (.int p1), some (.int x3)]) rfl ?_
      exact ih _ _ h
set_option maxRecDepth 100000 in
set_option maxHeartbeats 4000000 in
theorem e_X9_daysGo_49 {sc : Nat × (Nat → Int32)} {r : Option Nat × Option Nat} {a1 : Int32} {σ : ab_F} {res : ab_F} (h : f_X9_daysGo 49 a1 σ = some res) : ab_E mX9_daysGo 6 sc 0 [some (.ref 49), some (.int a1), none] [] (σ, r) (fun v S => v = none ∧ S = (res, r)) := by
  unfold f_X9_daysGo at h
  refine z_iconst (pc2 := 1) rfl dX9_daysGo_0 lt_i_0 ?_
  refine z_istore_n (pc2 := 2) (L2 := [some (.ref 49), some (.int a1), some (.int (0 : Int32))]) rfl dX9_daysGo_1 (by decide) rfl rfl ?_
  refine z_fgt [true, true, true] (L2 := [some (.ref 49), some (.int a1), some (.int (0 : Int32))]) rfl ?_
  refine e_X9_daysGo_49_L2 (fun s4 h => ?_) _ _ _ h
  exact z_vret dX9_daysGo_17 rfl (fv_w h)
def f_X11_learns (a1 : Int32) (a2 : Int32) (σ : ab_F) : Option (Int32 × ab_F) := (f_X11_nobody a1 σ).bind (fun q1 => (if (ab_b q1) = 0 then (f_X11_outside a2 (60 : Int32) σ).bind (fun q4 => (if (ab_b q4) = 0 then (f_X9_copyFrom_49_38 σ).bind (fun q6 => (f_X9_daysGo 49 a2 q6).bind (fun q7 => ab_ck (ab_ib a1 8) ((some ((q7 59 (a1).toNatClampNeg), q7))))) else (f_X11_refuse (1 : Int32) σ).bind (fun q9 => (some (q9.1, q9.2))))) else (f_X11_refuse (1 : Int32) σ).bind (fun q3 => (some (q3.1, q3.2)))))
set_option maxRecDepth 100000 in
set_option maxHeartbeats 4000000 in
theorem e_X11_learns {sc : Nat × (Nat → Int32)} {r : Option Nat × Option Nat} {a1 : Int32} {a2 : Int32} {σ : ab_F} {res : (Int32 × ab_F)} (h : f_X11_learns a1 a2 σ = some res) : ab_E mX11_learns 7 sc 0 [some (.ref 8), some (.int a1), some (.int a2)] [] (σ, r) (fun v S => v = some (.int res.1) ∧ S = (res.2, r)) := by
  unfold f_X11_learns at h
  refine z_aload_n (pc2 := 1) rfl dX11_learns_0 rfl ?_
  refine z_iload_n (pc2 := 2) rfl dX11_learns_1 rfl ?_
  obtain ⟨q1, hq1, h⟩ := ab_bnd h
  refine z_callVi 8 [.int a1] [some (.ref 8), some (.int a1)] (pc2 := 5) rfl rfl dX11_learns_2 ok_X11_nobody ⟨fun _ => rfl, fun _ => Nat.le_of_ble_eq_true rfl⟩ rfl rv_8 wd_359 wd_361 wd_1 rfl (e_X11_nobody hq1) ?_
  refine z_if_ne (pc2 := 8) (tgt := 17) rfl dX11_learns_5 (by decide) (fun hc2 => ?_) (fun hc2 => ?_)
  · replace h := ab_neg hc2 h
    refine z_aload_n (pc2 := 18) rfl dX11_learns_17 rfl ?_
    refine z_iconst (pc2 := 19) rfl dX11_learns_18 lt_i_1 ?_
    obtain ⟨q3, hq3, h⟩ := ab_bnd h
    refine z_callVi 8 [.int (1 : Int32)] [some (.ref 8), some (.int (1 : Int32))] (pc2 := 22) rfl rfl dX11_learns_19 ok_X11_refuse ⟨fun _ => rfl, fun _ => Nat.le_of_ble_eq_true rfl⟩ rfl rv_8 wd_346 wd_348 wd_0 rfl (e_X11_refuse hq3) ?_
    exact z_iret dX11_learns_22 rfl rfl (fi_w h)
  · replace h := ab_pos hc2 h
    refine z_iload_n (pc2 := 9) rfl dX11_learns_8 rfl ?_
    refine z_bipush (pc2 := 11) rfl dX11_learns_9 lt_b_60 ?_
    obtain ⟨q4, hq4, h⟩ := ab_bnd h
    refine z_callSi [.int a2, .int (60 : Int32)] [some (.int a2), some (.int (60 : Int32))] (pc2 := 14) rfl rfl dX11_learns_11 ok_X11_outside ⟨fun _ => rfl, fun _ => Nat.le_of_ble_eq_true rfl⟩ rfl wd_343 wd_344 rfl (e_X11_outside hq4) ?_
    refine z_if_eq (pc2 := 17) (tgt := 23) rfl dX11_learns_14 (by decide) (fun hc5 => ?_) (fun hc5 => ?_)
    · replace h := ab_pos hc5 h
      refine z_aload_n (pc2 := 24) rfl dX11_learns_23 rfl ?_
      refine z_getR 8 11 1 49 (pc2 := 27) rfl dX11_learns_24 rfl rfl ff_11_1 wd_303 rfl ?_
      refine z_aload_n (pc2 := 28) rfl dX11_learns_27 rfl ?_
      refine z_getR 8 11 0 38 (pc2 := 31) rfl dX11_learns_28 rfl rfl ff_11_0 wd_302 rfl ?_
      obtain ⟨q6, hq6, h⟩ := ab_bnd h
      refine z_callVv 49 [.ref 38] [some (.ref 49), some (.ref 38)] (pc2 := 34) rfl rfl dX11_learns_31 ok_X9_copyFrom ⟨fun _ => rfl, fun _ => Nat.le_of_ble_eq_true rfl⟩ rfl rv_49 wd_734 wd_735 wd_736 rfl (e_X9_copyFrom_49_38 hq6) ?_
      refine z_aload_n (pc2 := 35) rfl dX11_learns_34 rfl ?_
      refine z_getR 8 11 1 49 (pc2 := 38) rfl dX11_learns_35 rfl rfl ff_11_1 wd_303 rfl ?_
      refine z_iload_n (pc2 := 39) rfl dX11_learns_38 rfl ?_
      obtain ⟨q7, hq7, h⟩ := ab_bnd h
      refine z_callVv 49 [.int a2] [some (.ref 49), some (.int a2), none] (pc2 := 42) rfl rfl dX11_learns_39 ok_X9_daysGo ⟨fun _ => rfl, fun _ => Nat.le_of_ble_eq_true rfl⟩ rfl rv_49 wd_671 wd_672 wd_673 rfl (e_X9_daysGo_49 hq7) ?_
      refine z_aload_n (pc2 := 43) rfl dX11_learns_42 rfl ?_
      refine z_getR 8 11 1 49 (pc2 := 46) rfl dX11_learns_43 rfl rfl ff_11_1 wd_303 rfl ?_
      refine z_getR 49 9 16 59 (pc2 := 49) rfl dX11_learns_46 rfl rfl ff_9_16 wd_266 rfl ?_
      refine z_iload_n (pc2 := 50) rfl dX11_learns_49 rfl ?_
      obtain ⟨hb8, h⟩ := ab_ck_e h
      refine z_iald 59 (pc2 := 51) (j := (a1).toNatClampNeg) rfl dX11_learns_50 rfl rfl hb8 rfl ?_
      exact z_iret dX11_learns_51 rfl rfl (fi_w h)
    · replace h := ab_neg hc5 h
      refine z_aload_n (pc2 := 18) rfl dX11_learns_17 rfl ?_
      refine z_iconst (pc2 := 19) rfl dX11_learns_18 lt_i_1 ?_
      obtain ⟨q9, hq9, h⟩ := ab_bnd h
      refine z_callVi 8 [.int (1 : Int32)] [some (.ref 8), some (.int (1 : Int32))] (pc2 := 22) rfl rfl dX11_learns_19 ok_X11_refuse ⟨fun _ => rfl, fun _ => Nat.le_of_ble_eq_true rfl⟩ rfl rv_8 wd_346 wd_348 wd_0 rfl (e_X11_refuse hq9) ?_
      exact z_iret dX11_learns_22 rfl rfl (fi_w h)
set_option maxRecDepth 100000 in
set_option maxHeartbeats 4000000 in
theorem e_X9_knownAmong_49_L4 {sc : Nat × (Nat → Int32)} {r : Option Nat × Option Nat} {p1 : Int32} {σ : ab_F} {K : Int32 → Option Int32} {res : Int32} (hK : ∀ (u2 : Int32), K u2 = some res → ab_E mX9_knownAmong 0 sc 36 [none, none, some (.int u2), none] [] (σ, r) (fun v S => v = some (.int res) ∧ S = (σ, r))) : ∀ (n : Nat) (u2 : Int32) (u3 : Int32), f_X9_knownAmong_L4 49 p1 σ K n u2 u3 = some res → ab_E mX9_knownAmong 0 sc 4 [some (.ref 49), some (.int p1), some (.int u2), some (.int u3)] [] (σ, r) (fun v S => v = some (.int res) ∧ S = (σ, r)) := by
  intro n
  induction n with
  | zero =>
    intro u2 u3 h
    rw [f_X9_knownAmong_L4] at h
    cases h
  | succ n ih =>
    intro u2 u3 h
    rw [f_X9_knownAmong_L4] at h
    refine z_iload_n (pc2 := 5) rfl dX9_knownAmong_4 rfl ?_
    refine z_aload_n (pc2 := 6) rfl dX9_knownAmong_5 rfl ?_
    refine z_getI 49 9 11 (pc2 := 9) rfl dX9_knownAmong_6 rfl rfl ff_9_11 wd_250 ?_
    refine z_icmp_ge (pc2 := 12) (tgt := 36) rfl dX9_knownAmong_9 (by decide) (fun hc1 => ?_) (fun hc1 => ?_)
    · replace h := ab_pos hc1 h
      refine z_fgt [false, false, true, false] (L2 := [none, none, some (.int u2), none]) rfl ?_
      exact hK _ h
    · replace h := ab_neg hc1 h
      refine z_iload_n (pc2 := 13) rfl dX9_knownAmong_12 rfl ?_
      refine z_iload_n (pc2 := 14) rfl dX9_knownAmong_13 rfl ?_
      refine z_ishr (pc2 := 15) rfl dX9_knownAmong_14 ?_
      refine z_iconst (pc2 := 16) rfl dX9_knownAmong_15 lt_i_1 ?_
      refine z_iand (pc2 := 17) rfl dX9_knownAmong_16 ?_
      refine z_iconst (pc2 := 18) rfl dX9_knownAmong_17 lt_i_1 ?_
      refine z_icmp_ne (pc2 := 21) (tgt := 30) rfl dX9_knownAmong_18 (by decide) (fun hc2 => ?_) (fun hc2 => ?_)
      · replace h := ab_neg hc2 h
        obtain ⟨x3, hxx3, h⟩ := ab_lt_e h
        refine z_iinc (pc2 := 33) (v := x3) (L2 := [some (.ref 49), some (.int p1), some (.int u2), some (.int x3)]) rfl dX9_knownAmong_30 rfl (by rw [hxx3]; rfl) (by decide) rfl rfl ?_
        refine ab_goto (tgt := 4) dX9_knownAmong_33 (by decide) ?_
        refine z_fgt [true, true, true, true] (L2 := [some (.ref 49), some (.int p1), some (.int u2), some (.int x3)]) rfl ?_
        exact ih _ _ h
      · replace h := ab_pos hc2 h
        refine z_iload_n (pc2 := 22) rfl dX9_knownAmong_21 rfl ?_
        refine z_aload_n (pc2 := 23) rfl dX9_knownAmong_22 rfl ?_
        refine z_getR 49 9 16 59 (pc2 := 26) rfl dX9_knownAmong_23 rfl rfl ff_9_16 wd_263 rfl ?_
        refine z_iload_n (pc2 := 27) rfl dX9_knownAmong_26 rfl ?_
        obtain ⟨hb4, h⟩ := ab_ck_e h
        refine z_iald 59 (pc2 := 28) (j := (u3).toNatClampNeg) rfl dX9_knownAmong_27 rfl rfl hb4 rfl ?_
        refine z_ior (pc2 := 29) rfl dX9_knownAmong_28 ?_
        obtain ⟨x5, hxx5, h⟩ := ab_lt_e h
        refine z_top hxx5 ?_
        refine z_istore_n (pc2 := 30) (L2 := [some (.ref 49), some (.int p1), some (.int x5), some (.int u3)]) rfl dX9_knownAmong_29 (by decide) rfl rfl ?_
        obtain ⟨x6, hxx6, h⟩ := ab_lt_e h
        refine z_iinc (pc2 := 33) (v := x6) (L2 := [some (.ref 49), some (.int p1), some (.int x5), some (.int x6)]) rfl dX9_knownAmong_30 rfl (by rw [hxx6]; rfl) (by decide) rfl rfl ?_
        refine ab_goto (tgt := 4) dX9_knownAmong_33 (by decide) ?_
        refine z_fgt [true, true, true, true] (L2 := [some (.ref 49), some (.int p1), some (.int x5), some (.int x6)]) rfl ?_
        exact ih _ _ h
set_option maxRecDepth 100000 in
set_option maxHeartbeats 4000000 in
theorem e_X9_knownAmong_49 {sc : Nat × (Nat → Int32)} {r : Option Nat × Option Nat} {a1 : Int32} {σ : ab_F} {res : Int32} (h : f_X9_knownAmong 49 a1 σ = some res) : ab_E mX9_knownAmong 0 sc 0 [some (.ref 49), some (.int a1), none, none] [] (σ, r) (fun v S => v = some (.int res) ∧ S = (σ, r)) := by
  unfold f_X9_knownAmong at h
  refine z_iconst (pc2 := 1) rfl dX9_knownAmong_0 lt_i_0 ?_
  refine z_istore_n (pc2 := 2) (L2 := [some (.ref 49), some (.int a1), some (.int (0 : Int32)), none]) rfl dX9_knownAmong_1 (by decide) rfl rfl ?_
  refine z_iconst (pc2 := 3) rfl dX9_knownAmong_2 lt_i_0 ?_
  refine z_istore_n (pc2 := 4) (L2 := [some (.ref 49), some (.int a1), some (.int (0 : Int32)), some (.int (0 : Int32))]) rfl dX9_knownAmong_3 (by decide) rfl rfl ?_
  refine z_fgt [true, true, true, true] (L2 := [some (.ref 49), some (.int a1), some (.int (0 : Int32)), some (.int (0 : Int32))]) rfl ?_
  refine e_X9_knownAmong_49_L4 (fun k7 h => ?_) _ _ _ h
  refine z_iload_n (pc2 := 37) rfl dX9_knownAmong_36 rfl ?_
  exact z_iret dX9_knownAmong_37 rfl rfl (fi_p h)
set_option maxRecDepth 100000 in
set_option maxHeartbeats 4000000 in
theorem e_X9_known_49 {sc : Nat × (Nat → Int32)} {r : Option Nat × Option Nat} {σ : ab_F} {res : Int32} (h : f_X9_known 49 σ = some res) : ab_E mX9_known 1 sc 0 [some (.ref 49)] [] (σ, r) (fun v S => v = some (.int res) ∧ S = (σ, r)) := by
  unfold f_X9_known at h
  refine z_aload_n (pc2 := 1) rfl dX9_known_0 rfl ?_
  refine z_iconst (pc2 := 2) rfl dX9_known_1 lt_i_m1 ?_
  obtain ⟨q1, hq1, h⟩ := ab_bnd h
  refine z_callVi 49 [.int (-1 : Int32)] [some (.ref 49), some (.int (-1 : Int32)), none, none] (pc2 := 5) rfl rfl dX9_known_2 ok_X9_knownAmong ⟨fun _ => rfl, fun _ => Nat.le_of_ble_eq_true rfl⟩ rfl rv_49 wd_704 wd_705 wd_706 rfl (e_X9_knownAmong_49 hq1) ?_
  exact z_iret dX9_known_5 rfl rfl (fi_p h)
def f_X11_soonest_L28 (p1 : Int32) (K : ab_F → Option (Int32 × ab_F)) : Nat → Int32 → ab_F → Option (Int32 × ab_F)
  | 0, _, _ => none
  | n + 1, u2, σ => (if (60 : Int32) < u2 then (K σ) else (f_X9_known 49 σ).bind (fun q5 => (if ((q5 >>> (p1 &&& 31)) &&& (1 : Int32)) = (1 : Int32) then (some (u2, σ)) else (f_X9_dayGoes 49 σ).bind (fun q7 => ab_lt (u2 + (1 : Int32)) (fun x8 => (f_X11_soonest_L28 p1 K n x8 q7))))))
set_option maxRecDepth 100000 in
set_option maxHeartbeats 4000000 in
theorem e_X11_soonest_L28 {sc : Nat × (Nat → Int32)} {r : Option Nat × Option Nat} {p1 : Int32} {K : ab_F → Option (Int32 × ab_F)} {res : (Int32 × ab_F)} (hK : ∀ (σ : ab_F), K σ = some res → ab_E mX11_soonest 6 sc 64 [some (.ref 8), none, none] [] (σ, r) (fun v S => v = some (.int res.1) ∧ S = (res.2, r))) : ∀ (n : Nat) (u2 : Int32) (σ : ab_F), f_X11_soonest_L28 p1 K n u2 σ = some res → ab_E mX11_soonest 6 sc 28 [some (.ref 8), some (.int p1), some (.int u2)] [] (σ, r) (fun v S => v = some (.int res.1) ∧ S = (res.2, r)) := by
  intro n
  induction n with
  | zero =>
    intro u2 σ h
    rw [f_X11_soonest_L28] at h
    cases h
  | succ n ih =>
    intro u2 σ h
    rw [f_X11_soonest_L28] at h
    refine z_iload_n (pc2 := 29) rfl dX11_soonest_28 rfl ?_
    refine z_bipush (pc2 := 31) rfl dX11_soonest_29 lt_b_60 ?_
    refine z_icmp_gt (pc2 := 34) (tgt := 64) rfl dX11_soonest_31 (by decide) (fun hc4 => ?_) (fun hc4 => ?_)
    · replace h := ab_pos hc4 h
      refine z_fgt [true, false, false] (L2 := [some (.ref 8), none, none]) rfl ?_
      exact hK  _ h
    · replace h := ab_neg hc4 h
      refine z_aload_n (pc2 := 35) rfl dX11_soonest_34 rfl ?_
      refine z_getR 8 11 1 49 (pc2 := 38) rfl dX11_soonest_35 rfl rfl ff_11_1 wd_303 rfl ?_
      obtain ⟨q5, hq5, h⟩ := ab_bnd h
      refine z_callVi 49 [] [some (.ref 49)] (pc2 := 41) rfl rfl dX11_soonest_38 ok_X9_known ⟨fun _ => rfl, fun _ => Nat.le_of_ble_eq_true rfl⟩ rfl rv_49 wd_700 wd_701 wd_702 rfl (e_X9_known_49 hq5) ?_
      refine z_iload_n (pc2 := 42) rfl dX11_soonest_41 rfl ?_
      refine z_ishr (pc2 := 43) rfl dX11_soonest_42 ?_
      refine z_iconst (pc2 := 44) rfl dX11_soonest_43 lt_i_1 ?_
      refine z_iand (pc2 := 45) rfl dX11_soonest_44 ?_
      refine z_iconst (pc2 := 46) rfl dX11_soonest_45 lt_i_1 ?_
      refine z_icmp_ne (pc2 := 49) (tgt := 51) rfl dX11_soonest_46 (by decide) (fun hc6 => ?_) (fun hc6 => ?_)
      · replace h := ab_neg hc6 h
        refine z_aload_n (pc2 := 52) rfl dX11_soonest_51 rfl ?_
        refine z_getR 8 11 1 49 (pc2 := 55) rfl dX11_soonest_52 rfl rfl ff_11_1 wd_303 rfl ?_
        obtain ⟨q7, hq7, h⟩ := ab_bnd h
        refine z_callVv 49 [] [some (.ref 49), none] (pc2 := 58) rfl rfl dX11_soonest_55 ok_X9_dayGoes ⟨fun _ => rfl, fun _ => Nat.le_of_ble_eq_true rfl⟩ rfl rv_49 wd_721 wd_676 wd_677 rfl (e_X9_dayGoes_49 hq7) ?_
        obtain ⟨x8, hxx8, h⟩ := ab_lt_e h
        refine z_iinc (pc2 := 61) (v := x8) (L2 := [some (.ref 8), some (.int p1), some (.int x8)]) rfl dX11_soonest_58 rfl (by rw [hxx8]; rfl) (by decide) rfl rfl ?_
        refine ab_goto (tgt := 28) dX11_soonest_61 (by decide) ?_
        refine z_fgt [true, true, true] (L2 := [some (.ref 8), some (.int p1), some (.int x8)]) rfl ?_
        exact ih _ _ h
      · replace h := ab_pos hc6 h
        refine z_iload_n (pc2 := 50) rfl dX11_soonest_49 rfl ?_
        exact z_iret dX11_soonest_50 rfl rfl (fi_w h)
def f_X11_soonest (a1 : Int32) (σ : ab_F) : Option (Int32 × ab_F) := (f_X11_outside a1 (11 : Int32) σ).bind (fun q1 => (if (ab_b q1) = 0 then (f_X9_copyFrom_49_38 σ).bind (fun q3 => (f_X11_soonest_L28 a1 (fun (s9 : ab_F) => (f_X11_refuse (2 : Int32) s9).bind (fun q10 => (some (q10.1, q10.2)))) ab_fu (0 : Int32) q3)) else (f_X11_refuse (1 : Int32) σ).bind (fun q11 => (some (q11.1, q11.2)))))
set_option maxRecDepth 100000 in
set_option maxHeartbeats 4000000 in
theorem e_X11_soonest {sc : Nat × (Nat → Int32)} {r : Option Nat × Option Nat} {a1 : Int32} {σ : ab_F} {res : (Int32 × ab_F)} (h : f_X11_soonest a1 σ = some res) : ab_E mX11_soonest 6 sc 0 [some (.ref 8), some (.int a1), none] [] (σ, r) (fun v S => v = some (.int res.1) ∧ S = (res.2, r)) := by
  unfold f_X11_soonest at h
  refine z_iload_n (pc2 := 1) rfl dX11_soonest_0 rfl ?_
  refine z_bipush (pc2 := 3) rfl dX11_soonest_1 lt_b_11 ?_
  obtain ⟨q1, hq1, h⟩ := ab_bnd h
  refine z_callSi [.int a1, .int (11 : Int32)] [some (.int a1), some (.int (11 : Int32))] (pc2 := 6) rfl rfl dX11_soonest_3 ok_X11_outside ⟨fun _ => rfl, fun _ => Nat.le_of_ble_eq_true rfl⟩ rfl wd_343 wd_344 rfl (e_X11_outside hq1) ?_
  refine z_if_eq (pc2 := 9) (tgt := 15) rfl dX11_soonest_6 (by decide) (fun hc2 => ?_) (fun hc2 => ?_)
  · replace h := ab_pos hc2 h
    refine z_aload_n (pc2 := 16) rfl dX11_soonest_15 rfl ?_
    refine z_getR 8 11 1 49 (pc2 := 19) rfl dX11_soonest_16 rfl rfl ff_11_1 wd_303 rfl ?_
    refine z_aload_n (pc2 := 20) rfl dX11_soonest_19 rfl ?_
    refine z_getR 8 11 0 38 (pc2 := 23) rfl dX11_soonest_20 rfl rfl ff_11_0 wd_302 rfl ?_
    obtain ⟨q3, hq3, h⟩ := ab_bnd h
    refine z_callVv 49 [.ref 38] [some (.ref 49), some (.ref 38)] (pc2 := 26) rfl rfl dX11_soonest_23 ok_X9_copyFrom ⟨fun _ => rfl, fun _ => Nat.le_of_ble_eq_true rfl⟩ rfl rv_49 wd_734 wd_735 wd_736 rfl (e_X9_copyFrom_49_38 hq3) ?_
    refine z_iconst (pc2 := 27) rfl dX11_soonest_26 lt_i_0 ?_
    refine z_istore_n (pc2 := 28) (L2 := [some (.ref 8), some (.int a1), some (.int (0 : Int32))]) rfl dX11_soonest_27 (by decide) rfl rfl ?_
    refine z_fgt [true, true, true] (L2 := [some (.ref 8), some (.int a1), some (.int (0 : Int32))]) rfl ?_
    refine e_X11_soonest_L28 (fun s9 h => ?_) _ _ _ h
    refine z_aload_n (pc2 := 65) rfl dX11_soonest_64 rfl ?_
    refine z_iconst (pc2 := 66) rfl dX11_soonest_65 lt_i_2 ?_
    obtain ⟨q10, hq10, h⟩ := ab_bnd h
    refine z_callVi 8 [.int (2 : Int32)] [some (.ref 8), some (.int (2 : Int32))] (pc2 := 69) rfl rfl dX11_soonest_66 ok_X11_refuse ⟨fun _ => rfl, fun _ => Nat.le_of_ble_eq_true rfl⟩ rfl rv_8 wd_346 wd_348 wd_0 rfl (e_X11_refuse hq10) ?_
    exact z_iret dX11_soonest_69 rfl rfl (fi_w h)
  · replace h := ab_neg hc2 h
    refine z_aload_n (pc2 := 10) rfl dX11_soonest_9 rfl ?_
    refine z_iconst (pc2 := 11) rfl dX11_soonest_10 lt_i_1 ?_
    obtain ⟨q11, hq11, h⟩ := ab_bnd h
    refine z_callVi 8 [.int (1 : Int32)] [some (.ref 8), some (.int (1 : Int32))] (pc2 := 14) rfl rfl dX11_soonest_11 ok_X11_refuse ⟨fun _ => rfl, fun _ => Nat.le_of_ble_eq_true rfl⟩ rfl rv_8 wd_346 wd_348 wd_0 rfl (e_X11_refuse hq11) ?_
    exact z_iret dX11_soonest_14 rfl rfl (fi_w h)
def f_X11_learnsNothing_L24 (p1 : Int32) (p2 : Int32) (K : ab_F → Option (Bool × ab_F)) : Nat → Int32 → ab_F → Option (Bool × ab_F)
  | 0, _, _ => none
  | n + 1, u4, σ => (if p2 ≤ u4 then (K σ) else ab_ck (ab_ib p1 8) (ab_ck (ab_ib p1 8) ((if (σ 59 (p1).toNatClampNeg) = (σ 48 (p1).toNatClampNeg) then (f_X9_dayGoes 49 σ).bind (fun q8 => ab_lt (u4 + (1 : Int32)) (fun x9 => (f_X11_learnsNothing_L24 p1 p2 K n x9 q8))) else (K σ)))))
set_option maxRecDepth 100000 in
set_option maxHeartbeats 4000000 in
theorem e_X11_learnsNothing_L24 {sc : Nat × (Nat → Int32)} {r : Option Nat × Option Nat} {p1 : Int32} {p2 : Int32} {K : ab_F → Option (Bool × ab_F)} {res : (Bool × ab_F)} (hK : ∀ (σ : ab_F), K σ = some res → ab_E mX11_learnsNothing 6 sc 64 [some (.ref 8), some (.int p1), none, none, none] [] (σ, r) (fun v S => v = some (.int (ab_b res.1)) ∧ S = (res.2, r))) : ∀ (n : Nat) (u4 : Int32) (σ : ab_F), f_X11_learnsNothing_L24 p1 p2 K n u4 σ = some res → ab_E mX11_learnsNothing 6 sc 24 [some (.ref 8), some (.int p1), some (.int p2), none, some (.int u4)] [] (σ, r) (fun v S => v = some (.int (ab_b res.1)) ∧ S = (res.2, r)) := by
  intro n
  induction n with
  | zero =>
    intro u4 σ h
    rw [f_X11_learnsNothing_L24] at h
    cases h
  | succ n ih =>
    intro u4 σ h
    rw [f_X11_learnsNothing_L24] at h
    refine z_iload (pc2 := 26) rfl dX11_learnsNothing_24 rfl ?_
    refine z_iload_n (pc2 := 27) rfl dX11_learnsNothing_26 rfl ?_
    refine z_icmp_ge (pc2 := 30) (tgt := 64) rfl dX11_learnsNothing_27 (by decide) (fun hc4 => ?_) (fun hc4 => ?_)
    · replace h := ab_pos hc4 h
      refine z_fgt [true, true, false, false, false] (L2 := [some (.ref 8), some (.int p1), none, none, none]) rfl ?_
      exact hK  _ h
    · replace h := ab_neg hc4 h
      refine z_aload_n (pc2 := 31) rfl dX11_learnsNothing_30 rfl ?_
      refine z_getR 8 11 1 49 (pc2 := 34) rfl dX11_learnsNothing_31 rfl rfl ff_11_1 wd_303 rfl ?_
      refine z_getR 49 9 16 59 (pc2 := 37) rfl dX11_learnsNothing_34 rfl rfl ff_9_16 wd_266 rfl ?_
      refine z_iload_n (pc2 := 38) rfl dX11_learnsNothing_37 rfl ?_
      obtain ⟨hb5, h⟩ := ab_ck_e h
      refine z_iald 59 (pc2 := 39) (j := (p1).toNatClampNeg) rfl dX11_learnsNothing_38 rfl rfl hb5 rfl ?_
      refine z_aload_n (pc2 := 40) rfl dX11_learnsNothing_39 rfl ?_
      refine z_getR 8 11 0 38 (pc2 := 43) rfl dX11_learnsNothing_40 rfl rfl ff_11_0 wd_302 rfl ?_
      refine z_getR 38 9 16 48 (pc2 := 46) rfl dX11_learnsNothing_43 rfl rfl ff_9_16 wd_266 rfl ?_
      refine z_iload_n (pc2 := 47) rfl dX11_learnsNothing_46 rfl ?_
      obtain ⟨hb6, h⟩ := ab_ck_e h
      refine z_iald 48 (pc2 := 48) (j := (p1).toNatClampNeg) rfl dX11_learnsNothing_47 rfl rfl hb6 rfl ?_
      refine z_icmp_ne (pc2 := 51) (tgt := 64) rfl dX11_learnsNothing_48 (by decide) (fun hc7 => ?_) (fun hc7 => ?_)
      · replace h := ab_neg hc7 h
        refine z_fgt [true, true, false, false, false] (L2 := [some (.ref 8), some (.int p1), none, none, none]) rfl ?_
        exact hK  _ h
      · replace h := ab_pos hc7 h
        refine z_aload_n (pc2 := 52) rfl dX11_learnsNothing_51 rfl ?_
        refine z_getR 8 11 1 49 (pc2 := 55) rfl dX11_learnsNothing_52 rfl rfl ff_11_1 wd_303 rfl ?_
        obtain ⟨q8, hq8, h⟩ := ab_bnd h
        refine z_callVv 49 [] [some (.ref 49), none] (pc2 := 58) rfl rfl dX11_learnsNothing_55 ok_X9_dayGoes ⟨fun _ => rfl, fun _ => Nat.le_of_ble_eq_true rfl⟩ rfl rv_49 wd_721 wd_676 wd_677 rfl (e_X9_dayGoes_49 hq8) ?_
        obtain ⟨x9, hxx9, h⟩ := ab_lt_e h
        refine z_iinc (pc2 := 61) (v := x9) (L2 := [some (.ref 8), some (.int p1), some (.int p2), none, some (.int x9)]) rfl dX11_learnsNothing_58 rfl (by rw [hxx9]; rfl) (by decide) rfl rfl ?_
        refine ab_goto (tgt := 24) dX11_learnsNothing_61 (by decide) ?_
        refine z_fgt [true, true, true, false, true] (L2 := [some (.ref 8), some (.int p1), some (.int p2), none, some (.int x9)]) rfl ?_
        exact ih _ _ h
def f_X11_learnsNothing (a1 : Int32) (a2 : Int32) (a3 : Int32) (σ : ab_F) : Option (Bool × ab_F) := (f_X9_copyFrom_49_38 σ).bind (fun q1 => ab_ck (ab_ib a1 8) (ab_lt (ab_u q1 58 (a1).toNatClampNeg a3) (fun (s3 : ab_F) => (f_X11_learnsNothing_L24 a1 a2 (fun (s10 : ab_F) => ab_ck (ab_ib a1 8) (ab_ck (ab_ib a1 8) ((if (s10 59 (a1).toNatClampNeg) = (s10 48 (a1).toNatClampNeg) then (some (true, s10)) else (some (false, s10)))))) ab_fu (0 : Int32) s3))))
set_option maxRecDepth 100000 in
set_option maxHeartbeats 4000000 in
theorem e_X11_learnsNothing {sc : Nat × (Nat → Int32)} {r : Option Nat × Option Nat} {a1 : Int32} {a2 : Int32} {a3 : Int32} {σ : ab_F} {res : (Bool × ab_F)} (h : f_X11_learnsNothing a1 a2 a3 σ = some res) : ab_E mX11_learnsNothing 6 sc 0 [some (.ref 8), some (.int a1), some (.int a2), some (.int a3), none] [] (σ, r) (fun v S => v = some (.int (ab_b res.1)) ∧ S = (res.2, r)) := by
  unfold f_X11_learnsNothing at h
  refine z_aload_n (pc2 := 1) rfl dX11_learnsNothing_0 rfl ?_
  refine z_getR 8 11 1 49 (pc2 := 4) rfl dX11_learnsNothing_1 rfl rfl ff_11_1 wd_303 rfl ?_
  refine z_aload_n (pc2 := 5) rfl dX11_learnsNothing_4 rfl ?_
  refine z_getR 8 11 0 38 (pc2 := 8) rfl dX11_learnsNothing_5 rfl rfl ff_11_0 wd_302 rfl ?_
  obtain ⟨q1, hq1, h⟩ := ab_bnd h
  refine z_callVv 49 [.ref 38] [some (.ref 49), some (.ref 38)] (pc2 := 11) rfl rfl dX11_learnsNothing_8 ok_X9_copyFrom ⟨fun _ => rfl, fun _ => Nat.le_of_ble_eq_true rfl⟩ rfl rv_49 wd_734 wd_735 wd_736 rfl (e_X9_copyFrom_49_38 hq1) ?_
  refine z_aload_n (pc2 := 12) rfl dX11_learnsNothing_11 rfl ?_
  refine z_getR 8 11 1 49 (pc2 := 15) rfl dX11_learnsNothing_12 rfl rfl ff_11_1 wd_303 rfl ?_
  refine z_getR 49 9 15 58 (pc2 := 18) rfl dX11_learnsNothing_15 rfl rfl ff_9_15 wd_262 rfl ?_
  refine z_iload_n (pc2 := 19) rfl dX11_learnsNothing_18 rfl ?_
  refine z_iload_n (pc2 := 20) rfl dX11_learnsNothing_19 rfl ?_
  obtain ⟨hb2, h⟩ := ab_ck_e h
  refine z_iast 58 (pc2 := 21) (j := (a1).toNatClampNeg) rfl dX11_learnsNothing_20 rfl rfl hb2 rfl ?_
  obtain ⟨s3, hs3, h⟩ := ab_lt_e h
  refine z_tops hs3 ?_
  refine z_iconst (pc2 := 22) rfl dX11_learnsNothing_21 lt_i_0 ?_
  refine z_istore (pc2 := 24) (L2 := [some (.ref 8), some (.int a1), some (.int a2), some (.int a3), some (.int (0 : Int32))]) rfl dX11_learnsNothing_22 (by decide) rfl rfl ?_
  refine z_fgt [true, true, true, false, true] (L2 := [some (.ref 8), some (.int a1), some (.int a2), none, some (.int (0 : Int32))]) rfl ?_
  refine e_X11_learnsNothing_L24 (fun s10 h => ?_) _ _ _ h
  refine z_aload_n (pc2 := 65) rfl dX11_learnsNothing_64 rfl ?_
  refine z_getR 8 11 1 49 (pc2 := 68) rfl dX11_learnsNothing_65 rfl rfl ff_11_1 wd_303 rfl ?_
  refine z_getR 49 9 16 59 (pc2 := 71) rfl dX11_learnsNothing_68 rfl rfl ff_9_16 wd_266 rfl ?_
  refine z_iload_n (pc2 := 72) rfl dX11_learnsNothing_71 rfl ?_
  obtain ⟨hb11, h⟩ := ab_ck_e h
  refine z_iald 59 (pc2 := 73) (j := (a1).toNatClampNeg) rfl dX11_learnsNothing_72 rfl rfl hb11 rfl ?_
  refine z_aload_n (pc2 := 74) rfl dX11_learnsNothing_73 rfl ?_
  refine z_getR 8 11 0 38 (pc2 := 77) rfl dX11_learnsNothing_74 rfl rfl ff_11_0 wd_302 rfl ?_
  refine z_getR 38 9 16 48 (pc2 := 80) rfl dX11_learnsNothing_77 rfl rfl ff_9_16 wd_266 rfl ?_
  refine z_iload_n (pc2 := 81) rfl dX11_learnsNothing_80 rfl ?_
  obtain ⟨hb12, h⟩ := ab_ck_e h
  refine z_iald 48 (pc2 := 82) (j := (a1).toNatClampNeg) rfl dX11_learnsNothing_81 rfl rfl hb12 rfl ?_
  refine z_icmp_ne (pc2 := 85) (tgt := 89) rfl dX11_learnsNothing_82 (by decide) (fun hc13 => ?_) (fun hc13 => ?_)
  · replace h := ab_neg hc13 h
    refine z_iconst (pc2 := 90) rfl dX11_learnsNothing_89 lt_i_0 ?_
    exact z_iret dX11_learnsNothing_90 rfl rfl (fz_w rfl h)
  · replace h := ab_pos hc13 h
    refine z_iconst (pc2 := 86) rfl dX11_learnsNothing_85 lt_i_1 ?_
    refine ab_goto (tgt := 90) dX11_learnsNothing_86 (by decide) ?_
    exact z_iret dX11_learnsNothing_90 rfl rfl (fz_w rfl h)
def f_X11_stiltsFor_L25 (p1 : Int32) (p2 : Int32) (K : ab_F → Option (Int32 × ab_F)) : Nat → Int32 → ab_F → Option (Int32 × ab_F)
  | 0, _, _ => none
  | n + 1, u3, σ => (if (20 : Int32) < u3 then (K σ) else (f_X11_learnsNothing p1 p2 u3 σ).bind (fun q7 => (if (ab_b q7.1) = 0 then ab_lt (u3 + (1 : Int32)) (fun x9 => (f_X11_stiltsFor_L25 p1 p2 K n x9 q7.2)) else (some (u3, q7.2)))))
set_option maxRecDepth 100000 in
set_option maxHeartbeats 4000000 in
theorem e_X11_stiltsFor_L25 {sc : Nat × (Nat → Int32)} {r : Option Nat × Option Nat} {p1 : Int32} {p2 : Int32} {K : ab_F → Option (Int32 × ab_F)} {res : (Int32 × ab_F)} (hK : ∀ (σ : ab_F), K σ = some res → ab_E mX11_stiltsFor 7 sc 49 [some (.ref 8), none, none, none] [] (σ, r) (fun v S => v = some (.int res.1) ∧ S = (res.2, r))) : ∀ (n : Nat) (u3 : Int32) (σ : ab_F), f_X11_stiltsFor_L25 p1 p2 K n u3 σ = some res → ab_E mX11_stiltsFor 7 sc 25 [some (.ref 8), some (.int p1), some (.int p2), some (.int u3)] [] (σ, r) (fun v S => v = some (.int res.1) ∧ S = (res.2, r)) := by
  intro n
  induction n with
  | zero =>
    intro u3 σ h
    rw [f_X11_stiltsFor_L25] at h
    cases h
  | succ n ih =>
    intro u3 σ h
    rw [f_X11_stiltsFor_L25] at h
    refine z_iload_n (pc2 := 26) rfl dX11_stiltsFor_25 rfl ?_
    refine z_bipush (pc2 := 28) rfl dX11_stiltsFor_26 lt_b_20 ?_
    refine z_icmp_gt (pc2 := 31) (tgt := 49) rfl dX11_stiltsFor_28 (by decide) (fun hc6 => ?_) (fun hc6 => ?_)
    · replace h := ab_pos hc6 h
      refine z_fgt [true, false, false, false] (L2 := [some (.ref 8), none, none, none]) rfl ?_
      exact hK  _ h
    · replace h := ab_neg hc6 h
      refine z_aload_n (pc2 := 32) rfl dX11_stiltsFor_31 rfl ?_
      refine z_iload_n (pc2 := 33) rfl dX11_stiltsFor_32 rfl ?_
      refine z_iload_n (pc2 := 34) rfl dX11_stiltsFor_33 rfl ?_
      refine z_iload_n (pc2 := 35) rfl dX11_stiltsFor_34 rfl ?_
      obtain ⟨q7, hq7, h⟩ := ab_bnd h
      refine z_callVi 8 [.int p1, .int p2, .int u3] [some (.ref 8), some (.int p1), some (.int p2), some (.int u3), none] (pc2 := 38) rfl rfl dX11_stiltsFor_35 ok_X11_learnsNothing ⟨fun _ => rfl, fun _ => Nat.le_of_ble_eq_true rfl⟩ rfl rv_8 wd_755 wd_757 wd_14 rfl (e_X11_learnsNothing hq7) ?_
      refine z_if_eq (pc2 := 41) (tgt := 43) rfl dX11_stiltsFor_38 (by decide) (fun hc8 => ?_) (fun hc8 => ?_)
      · replace h := ab_pos hc8 h
        obtain ⟨x9, hxx9, h⟩ := ab_lt_e h
        refine z_iinc (pc2 := 46) (v := x9) (L2 := [some (.ref 8), some (.int p1), some (.int p2), some (.int x9)]) rfl dX11_stiltsFor_43 rfl (by rw [hxx9]; rfl) (by decide) rfl rfl ?_
        refine ab_goto (tgt := 25) dX11_stiltsFor_46 (by decide) ?_
        refine z_fgt [true, true, true, true] (L2 := [some (.ref 8), some (.int p1), some (.int p2), some (.int x9)]) rfl ?_
        exact ih _ _ h
      · replace h := ab_neg hc8 h
        refine z_iload_n (pc2 := 42) rfl dX11_stiltsFor_41 rfl ?_
        exact z_iret dX11_stiltsFor_42 rfl rfl (fi_w h)
def f_X11_stiltsFor (a1 : Int32) (a2 : Int32) (σ : ab_F) : Option (Int32 × ab_F) := (f_X11_nobody a1 σ).bind (fun q1 => (if (ab_b q1) = 0 then (f_X11_outside a2 (40 : Int32) σ).bind (fun q4 => (if (ab_b q4) = 0 then (f_X11_stiltsFor_L25 a1 a2 (fun (s10 : ab_F) => (f_X11_refuse (2 : Int32) s10).bind (fun q11 => (some (q11.1, q11.2)))) ab_fu (0 : Int32) σ) else (f_X11_refuse (1 : Int32) σ).bind (fun q12 => (some (q12.1, q12.2))))) else (f_X11_refuse (1 : Int32) σ).bind (fun q3 => (some (q3.1, q3.2)))))
set_option maxRecDepth 100000 in
set_option maxHeartbeats 4000000 in
theorem e_X11_stiltsFor {sc : Nat × (Nat → Int32)} {r : Option Nat × Option Nat} {a1 : Int32} {a2 : Int32} {σ : ab_F} {res : (Int32 × ab_F)} (h : f_X11_stiltsFor a1 a2 σ = some res) : ab_E mX11_stiltsFor 7 sc 0 [some (.ref 8), some (.int a1), some (.int a2), none] [] (σ, r) (fun v S => v = some (.int res.1) ∧ S = (res.2, r)) := by
  unfold f_X11_stiltsFor at h
  refine z_aload_n (pc2 := 1) rfl dX11_stiltsFor_0 rfl ?_
  refine z_iload_n (pc2 := 2) rfl dX11_stiltsFor_1 rfl ?_
  obtain ⟨q1, hq1, h⟩ := ab_bnd h
  refine z_callVi 8 [.int a1] [some (.ref 8), some (.int a1)] (pc2 := 5) rfl rfl dX11_stiltsFor_2 ok_X11_nobody ⟨fun _ => rfl, fun _ => Nat.le_of_ble_eq_true rfl⟩ rfl rv_8 wd_359 wd_361 wd_1 rfl (e_X11_nobody hq1) ?_
  refine z_if_ne (pc2 := 8) (tgt := 17) rfl dX11_stiltsFor_5 (by decide) (fun hc2 => ?_) (fun hc2 => ?_)
  · replace h := ab_neg hc2 h
    refine z_aload_n (pc2 := 18) rfl dX11_stiltsFor_17 rfl ?_
    refine z_iconst (pc2 := 19) rfl dX11_stiltsFor_18 lt_i_1 ?_
    obtain ⟨q3, hq3, h⟩ := ab_bnd h
    refine z_callVi 8 [.int (1 : Int32)] [some (.ref 8), some (.int (1 : Int32))] (pc2 := 22) rfl rfl dX11_stiltsFor_19 ok_X11_refuse ⟨fun _ => rfl, fun _ => Nat.le_of_ble_eq_true rfl⟩ rfl rv_8 wd_346 wd_348 wd_0 rfl (e_X11_refuse hq3) ?_
    exact z_iret dX11_stiltsFor_22 rfl rfl (fi_w h)
  · replace h := ab_pos hc2 h
    refine z_iload_n (pc2 := 9) rfl dX11_stiltsFor_8 rfl ?_
    refine z_bipush (pc2 := 11) rfl dX11_stiltsFor_9 lt_b_40 ?_
    obtain ⟨q4, hq4, h⟩ := ab_bnd h
    refine z_callSi [.int a2, .int (40 : Int32)] [some (.int a2), some (.int (40 : Int32))] (pc2 := 14) rfl rfl dX11_stiltsFor_11 ok_X11_outside ⟨fun _ => rfl, fun _ => Nat.le_of_ble_eq_true rfl⟩ rfl wd_343 wd_344 rfl (e_X11_outside hq4) ?_
    refine z_if_eq (pc2 := 17) (tgt := 23) rfl dX11_stiltsFor_14 (by decide) (fun hc5 => ?_) (fun hc5 => ?_)
    · replace h := ab_pos hc5 h
      refine z_iconst (pc2 := 24) rfl dX11_stiltsFor_23 lt_i_0 ?_
      refine z_istore_n (pc2 := 25) (L2 := [some (.ref 8), some (.int a1), some (.int a2), some (.int (0 : Int32))]) rfl dX11_stiltsFor_24 (by decide) rfl rfl ?_
      refine z_fgt [true, true, true, true] (L2 := [some (.ref 8), some (.int a1), some (.int a2), some (.int (0 : Int32))]) rfl ?_
      refine e_X11_stiltsFor_L25 (fun s10 h => ?_) _ _ _ h
      refine z_aload_n (pc2 := 50) rfl dX11_stiltsFor_49 rfl ?_
      refine z_iconst (pc2 := 51) rfl dX11_stiltsFor_50 lt_i_2 ?_
      obtain ⟨q11, hq11, h⟩ := ab_bnd h
      refine z_callVi 8 [.int (2 : Int32)] [some (.ref 8), some (.int (2 : Int32))] (pc2 := 54) rfl rfl dX11_stiltsFor_51 ok_X11_refuse ⟨fun _ => rfl, fun _ => Nat.le_of_ble_eq_true rfl⟩ rfl rv_8 wd_346 wd_348 wd_0 rfl (e_X11_refuse hq11) ?_
      exact z_iret dX11_stiltsFor_54 rfl rfl (fi_w h)
    · replace h := ab_neg hc5 h
      refine z_aload_n (pc2 := 18) rfl dX11_stiltsFor_17 rfl ?_
      refine z_iconst (pc2 := 19) rfl dX11_stiltsFor_18 lt_i_1 ?_
      obtain ⟨q12, hq12, h⟩ := ab_bnd h
      refine z_callVi 8 [.int (1 : Int32)] [some (.ref 8), some (.int (1 : Int32))] (pc2 := 22) rfl rfl dX11_stiltsFor_19 ok_X11_refuse ⟨fun _ => rfl, fun _ => Nat.le_of_ble_eq_true rfl⟩ rfl rv_8 wd_346 wd_348 wd_0 rfl (e_X11_refuse hq12) ?_
      exact z_iret dX11_stiltsFor_22 rfl rfl (fi_w h)
def f_X11_wallFor_L68 (p1 : Int32) (p2 : Int32) (p3 : Int32) (K : Int32 → Int32 → ab_F → Option (Int32 × ab_F)) : Nat → Int32 → Int32 → Int32 → ab_F → Option (Int32 × ab_F)
  | 0, _, _, _, _ => none
  | n + 1, u4, u5, u6, σ => (if (16 : Int32) ≤ u6 then (K u4 u5 σ) else (f_X9_copyFrom_49_38 σ).bind (fun q14 => ab_ck (ab_ib u6 16) (ab_lt (ab_u q14 52 (u6).toNatClampNeg (1 : Int32)) (fun (s16 : ab_F) => (f_X9_waterGoes 49 p2 s16).bind (fun q17 => ab_ck (ab_ib p1 16) ((if u4 ≤ (q17 51 (p1).toNatClampNeg) then ab_lt (u6 + (1 : Int32)) (fun x20 => (f_X11_wallFor_L68 p1 p2 p3 K n u4 u5 x20 q17)) else ab_ck (ab_ib p1 16) (ab_lt ((q17 51 (p1).toNatClampNeg)) (fun x22 => ab_lt (u6 + (1 : Int32)) (fun x23 => (f_X11_wallFor_L68 p1 p2 p3 K n x22 u6 x23 q17)))))))))))
set_option maxRecDepth 100000 in
set_option maxHeartbeats 4000000 in
theorem e_X11_wallFor_L68 {sc : Nat × (Nat → Int32)} {r : Option Nat × Option Nat} {p1 : Int32} {p2 : Int32} {p3 : Int32} {K : Int32 → Int32 → ab_F → Option (Int32 × ab_F)} {res : (Int32 × ab_F)} (hK : ∀ (u4 : Int32) (u5 : Int32) (σ : ab_F), K u4 u5 σ = some res → ab_E mX11_wallFor 4 sc 140 [some (.ref 8), none, none, some (.int p3), some (.int u4), some (.int u5), none] [] (σ, r) (fun v S => v = some (.int res.1) ∧ S = (res.2, r))) : ∀ (n : Nat) (u4 : Int32) (u5 : Int32) (u6 : Int32) (σ : ab_F), f_X11_wallFor_L68 p1 p2 p3 K n u4 u5 u6 σ = some res → ab_E mX11_wallFor 4 sc 68 [some (.ref 8), some (.int p1), some (.int p2), some (.int p3), some (.int u4), some (.int u5), some (.int u6)] [] (σ, r) (fun v S => v = some (.int res.1) ∧ S = (res.2, r)) := by
  intro n
  induction n with
  | zero =>
    intro u4 u5 u6 σ h
    rw [f_X11_wallFor_L68] at h
    cases h
  | succ n ih =>
    intro u4 u5 u6 σ h
    rw [f_X11_wallFor_L68] at h
    refine z_iload (pc2 := 70) rfl dX11_wallFor_68 rfl ?_
    refine z_bipush (pc2 := 72) rfl dX11_wallFor_70 lt_b_16 ?_
    refine z_icmp_ge (pc2 := 75) (tgt := 140) rfl dX11_wallFor_72 (by decide) (fun hc13 => ?_) (fun hc13 => ?_)
    · replace h := ab_pos hc13 h
      refine z_fgt [true, false, false, true, true, true, false] (L2 := [some (.ref 8), none, none, some (.int p3), some (.int u4), some (.int u5), none]) rfl ?_
      exact hK _ _ _ h
    · replace h := ab_neg hc13 h
      refine z_aload_n (pc2 := 76) rfl dX11_wallFor_75 rfl ?_
      refine z_getR 8 11 1 49 (pc2 := 79) rfl dX11_wallFor_76 rfl rfl ff_11_1 wd_303 rfl ?_
      refine z_aload_n (pc2 := 80) rfl dX11_wallFor_79 rfl ?_
      refine z_getR 8 11 0 38 (pc2 := 83) rfl dX11_wallFor_80 rfl rfl ff_11_0 wd_302 rfl ?_
      obtain ⟨q14, hq14, h⟩ := ab_bnd h
      refine z_callVv 49 [.ref 38] [some (.ref 49), some (.ref 38)] (pc2 := 86) rfl rfl dX11_wallFor_83 ok_X9_copyFrom ⟨fun _ => rfl, fun _ => Nat.le_of_ble_eq_true rfl⟩ rfl rv_49 wd_734 wd_735 wd_736 rfl (e_X9_copyFrom_49_38 hq14) ?_
      refine z_aload_n (pc2 := 87) rfl dX11_wallFor_86 rfl ?_
      refine z_getR 8 11 1 49 (pc2 := 90) rfl dX11_wallFor_87 rfl rfl ff_11_1 wd_303 rfl ?_
      refine z_getR 49 9 8 52 (pc2 := 93) rfl dX11_wallFor_90 rfl rfl ff_9_8 wd_246 rfl ?_
      refine z_iload (pc2 := 95) rfl dX11_wallFor_93 rfl ?_
      refine z_iconst (pc2 := 96) rfl dX11_wallFor_95 lt_i_1 ?_
      obtain ⟨hb15, h⟩ := ab_ck_e h
      refine z_iast 52 (pc2 := 97) (j := (u6).toNatClampNeg) rfl dX11_wallFor_96 rfl rfl hb15 rfl ?_
      obtain ⟨s16, hs16, h⟩ := ab_lt_e h
      refine z_tops hs16 ?_
      refine z_aload_n (pc2 := 98) rfl dX11_wallFor_97 rfl ?_
      refine z_getR 8 11 1 49 (pc2 := 101) rfl dX11_wallFor_98 rfl rfl ff_11_1 wd_303 rfl ?_
      refine z_iload_n (pc2 := 102) rfl dX11_wallFor_101 rfl ?_
      obtain ⟨q17, hq17, h⟩ := ab_bnd h
      refine z_callVv 49 [.int p2] [some (.ref 49), some (.int p2), none] (pc2 := 105) rfl rfl dX11_wallFor_102 ok_X9_waterGoes ⟨fun _ => rfl, fun _ => Nat.le_of_ble_eq_true rfl⟩ rfl rv_49 wd_739 wd_740 wd_741 rfl (e_X9_waterGoes_49 hq17) ?_
      refine z_aload_n (pc2 := 106) rfl dX11_wallFor_105 rfl ?_
      refine z_getR 8 11 1 49 (pc2 := 109) rfl dX11_wallFor_106 rfl rfl ff_11_1 wd_303 rfl ?_
      refine z_getR 49 9 7 51 (pc2 := 112) rfl dX11_wallFor_109 rfl rfl ff_9_7 wd_244 rfl ?_
      refine z_iload_n (pc2 := 113) rfl dX11_wallFor_112 rfl ?_
      obtain ⟨hb18, h⟩ := ab_ck_e h
      refine z_iald 51 (pc2 := 114) (j := (p1).toNatClampNeg) rfl dX11_wallFor_113 rfl rfl hb18 rfl ?_
      refine z_iload (pc2 := 116) rfl dX11_wallFor_114 rfl ?_
      refine z_icmp_ge (pc2 := 119) (tgt := 134) rfl dX11_wallFor_116 (by decide) (fun hc19 => ?_) (fun hc19 => ?_)
      · replace h := ab_pos hc19 h
        obtain ⟨x20, hxx20, h⟩ := ab_lt_e h
        refine z_iinc (pc2 := 137) (v := x20) (L2 := [some (.ref 8), some (.int p1), some (.int p2), some (.int p3), some (.int u4), some (.int u5), some (.int x20)]) rfl dX11_wallFor_134 rfl (by rw [hxx20]; rfl) (by decide) rfl rfl ?_
        refine ab_goto (tgt := 68) dX11_wallFor_137 (by decide) ?_
        refine z_fgt [true, true, true, true, true, true, true] (L2 := [some (.ref 8), some (.int p1), some (.int p2), some (.int p3), some (.int u4), some (.int u5), some (.int x20)]) rfl ?_
        exact ih _ _ _ _ h
      · replace h := ab_neg hc19 h
        refine z_aload_n (pc2 := 120) rfl dX11_wallFor_119 rfl ?_
        refine z_getR 8 11 1 49 (pc2 := 123) rfl dX11_wallFor_120 rfl rfl ff_11_1 wd_303 rfl ?_
        refine z_getR 49 9 7 51 (pc2 := 126) rfl dX11_wallFor_123 rfl rfl ff_9_7 wd_244 rfl ?_
        refine z_iload_n (pc2 := 127) rfl dX11_wallFor_126 rfl ?_
        obtain ⟨hb21, h⟩ := ab_ck_e h
        refine z_iald 51 (pc2 := 128) (j := (p1).toNatClampNeg) rfl dX11_wallFor_127 rfl rfl hb21 rfl ?_
        obtain ⟨x22, hxx22, h⟩ := ab_lt_e h
        refine z_top hxx22 ?_
        refine z_istore (pc2 := 130) (L2 := [some (.ref 8), some (.int p1), some (.int p2), some (.int p3), some (.int x22), some (.int u5), some (.int u6)]) rfl dX11_wallFor_128 (by decide) rfl rfl ?_
        refine z_iload (pc2 := 132) rfl dX11_wallFor_130 rfl ?_
        refine z_istore (pc2 := 134) (L2 := [some (.ref 8), some (.int p1), some (.int p2), some (.int p3), some (.int x22), some (.int u6), some (.int u6)]) rfl dX11_wallFor_132 (by decide) rfl rfl ?_
        obtain ⟨x23, hxx23, h⟩ := ab_lt_e h
        refine z_iinc (pc2 := 137) (v := x23) (L2 := [some (.ref 8), some (.int p1), some (.int p2), some (.int p3), some (.int x22), some (.int u6), some (.int x23)]) rfl dX11_wallFor_134 rfl (by rw [hxx23]; rfl) (by decide) rfl rfl ?_
        refine ab_goto (tgt := 68) dX11_wallFor_137 (by decide) ?_
        refine z_fgt [true, true, true, true, true, true, true] (L2 := [some (.ref 8), some (.int p1), some (.int p2), some (.int p3), some (.int x22), some (.int u6), some (.int x23)]) rfl ?_
        exact ih _ _ _ _ h
def f_X11_wallFor (a1 : Int32) (a2 : Int32) (a3 : Int32) (σ : ab_F) : Option (Int32 × ab_F) := (f_X11_outside a1 (15 : Int32) σ).bind (fun q1 => (if (ab_b q1) = 0 then (f_X11_outside a2 (40 : Int32) σ).bind (fun q4 => (if (ab_b q4) = 0 then (f_X11_outside a3 (1 : Int32) σ).bind (fun q7 => (if (ab_b q7) = 0 then (f_X9_copyFrom_49_38 σ).bind (fun q9 => (f_X9_waterGoes 49 a2 q9).bind (fun q10 => ab_ck (ab_ib a1 16) (ab_lt ((q10 51 (a1).toNatClampNeg)) (fun x12 => (f_X11_wallFor_L68 a1 a2 a3 (fun (k24 : Int32) (k25 : Int32) (s26 : ab_F) => (if 0 ≤ k25 then (if a3 = 0 then (some (k25, s26)) else (some (k24, s26))) else (f_X11_refuse (2 : Int32) s26).bind (fun q29 => (some (q29.1, q29.2))))) ab_fu x12 (-1 : Int32) (0 : Int32) q10))))) else (f_X11_refuse (1 : Int32) σ).bind (fun q30 => (some (q30.1, q30.2))))) else (f_X11_refuse (1 : Int32) σ).bind (fun q6 => (some (q6.1, q6.2))))) else (f_X11_refuse (1 : Int32) σ).bind (fun q3 => (some (q3.1, q3.2)))))
set_option maxRecDepth 100000 in
set_option maxHeartbeats 4000000 in
theorem e_X11_wallFor {sc : Nat × (Nat → Int32)} {r : Option Nat × Option Nat} {a1 : Int32} {a2 : Int32} {a3 : Int32} {σ : ab_F} {res : (Int32 × ab_F)} (h : f_X11_wallFor a1 a2 a3 σ = some res) : ab_E mX11_wallFor 4 sc 0 [some (.ref 8), some (.int a1), some (.int a2), some (.int a3), none, none, none] [] (σ, r) (fun v S => v = some (.int res.1) ∧ S = (res.2, r)) := by
  unfold f_X11_wallFor at h
  refine z_iload_n (pc2 := 1) rfl dX11_wallFor_0 rfl ?_
  refine z_bipush (pc2 := 3) rfl dX11_wallFor_1 lt_b_15 ?_
  obtain ⟨q1, hq1, h⟩ := ab_bnd h
  refine z_callSi [.int a1, .int (15 : Int32)] [some (.int a1), some (.int (15 : Int32))] (pc2 := 6) rfl rfl dX11_wallFor_3 ok_X11_outside ⟨fun _ => rfl, fun _ => Nat.le_of_ble_eq_true rfl⟩ rfl wd_343 wd_344 rfl (e_X11_outside hq1) ?_
  refine z_if_ne (pc2 := 9) (tgt := 26) rfl dX11_wallFor_6 (by decide) (fun hc2 => ?_) (fun hc2 => ?_)
  · replace h := ab_neg hc2 h
    refine z_aload_n (pc2 := 27) rfl dX11_wallFor_26 rfl ?_
    refine z_iconst (pc2 := 28) rfl dX11_wallFor_27 lt_i_1 ?_
    obtain ⟨q3, hq3, h⟩ := ab_bnd h
    refine z_callVi 8 [.int (1 : Int32)] [some (.ref 8), some (.int (1 : Int32))] (pc2 := 31) rfl rfl dX11_wallFor_28 ok_X11_refuse ⟨fun _ => rfl, fun _ => Nat.le_of_ble_eq_true rfl⟩ rfl rv_8 wd_346 wd_348 wd_0 rfl (e_X11_refuse hq3) ?_
    exact z_iret dX11_wallFor_31 rfl rfl (fi_w h)
  · replace h := ab_pos hc2 h
    refine z_iload_n (pc2 := 10) rfl dX11_wallFor_9 rfl ?_
    refine z_bipush (pc2 := 12) rfl dX11_wallFor_10 lt_b_40 ?_
    obtain ⟨q4, hq4, h⟩ := ab_bnd h
    refine z_callSi [.int a2, .int (40 : Int32)] [some (.int a2), some (.int (40 : Int32))] (pc2 := 15) rfl rfl dX11_wallFor_12 ok_X11_outside ⟨fun _ => rfl, fun _ => Nat.le_of_ble_eq_true rfl⟩ rfl wd_343 wd_344 rfl (e_X11_outside hq4) ?_
    refine z_if_ne (pc2 := 18) (tgt := 26) rfl dX11_wallFor_15 (by decide) (fun hc5 => ?_) (fun hc5 => ?_)
    · replace h := ab_neg hc5 h
      refine z_aload_n (pc2 := 27) rfl dX11_wallFor_26 rfl ?_
      refine z_iconst (pc2 := 28) rfl dX11_wallFor_27 lt_i_1 ?_
      obtain ⟨q6, hq6, h⟩ := ab_bnd h
      refine z_callVi 8 [.int (1 : Int32)] [some (.ref 8), some (.int (1 : Int32))] (pc2 := 31) rfl rfl dX11_wallFor_28 ok_X11_refuse ⟨fun _ => rfl, fun _ => Nat.le_of_ble_eq_true rfl⟩ rfl rv_8 wd_346 wd_348 wd_0 rfl (e_X11_refuse hq6) ?_
      exact z_iret dX11_wallFor_31 rfl rfl (fi_w h)
    · replace h := ab_pos hc5 h
      refine z_iload_n (pc2 := 19) rfl dX11_wallFor_18 rfl ?_
      refine z_iconst (pc2 := 20) rfl dX11_wallFor_19 lt_i_1 ?_
      obtain ⟨q7, hq7, h⟩ := ab_bnd h
      refine z_callSi [.int a3, .int (1 : Int32)] [some (.int a3), some (.int (1 : Int32))] (pc2 := 23) rfl rfl dX11_wallFor_20 ok_X11_outside ⟨fun _ => rfl, fun _ => Nat.le_of_ble_eq_true rfl⟩ rfl wd_343 wd_344 rfl (e_X11_outside hq7) ?_
      refine z_if_eq (pc2 := 26) (tgt := 32) rfl dX11_wallFor_23 (by decide) (fun hc8 => ?_) (fun hc8 => ?_)
      · replace h := ab_pos hc8 h
        refine z_aload_n (pc2 := 33) rfl dX11_wallFor_32 rfl ?_
        refine z_getR 8 11 1 49 (pc2 := 36) rfl dX11_wallFor_33 rfl rfl ff_11_1 wd_303 rfl ?_
        refine z_aload_n (pc2 := 37) rfl dX11_wallFor_36 rfl ?_
        refine z_getR 8 11 0 38 (pc2 := 40) rfl dX11_wallFor_37 rfl rfl ff_11_0 wd_302 rfl ?_
        obtain ⟨q9, hq9, h⟩ := ab_bnd h
        refine z_callVv 49 [.ref 38] [some (.ref 49), some (.ref 38)] (pc2 := 43) rfl rfl dX11_wallFor_40 ok_X9_copyFrom ⟨fun _ => rfl, fun _ => Nat.le_of_ble_eq_true rfl⟩ rfl rv_49 wd_734 wd_735 wd_736 rfl (e_X9_copyFrom_49_38 hq9) ?_
        refine z_aload_n (pc2 := 44) rfl dX11_wallFor_43 rfl ?_
        refine z_getR 8 11 1 49 (pc2 := 47) rfl dX11_wallFor_44 rfl rfl ff_11_1 wd_303 rfl ?_
        refine z_iload_n (pc2 := 48) rfl dX11_wallFor_47 rfl ?_
        obtain ⟨q10, hq10, h⟩ := ab_bnd h
        refine z_callVv 49 [.int a2] [some (.ref 49), some (.int a2), none] (pc2 := 51) rfl rfl dX11_wallFor_48 ok_X9_waterGoes ⟨fun _ => rfl, fun _ => Nat.le_of_ble_eq_true rfl⟩ rfl rv_49 wd_739 wd_740 wd_741 rfl (e_X9_waterGoes_49 hq10) ?_
        refine z_aload_n (pc2 := 52) rfl dX11_wallFor_51 rfl ?_
        refine z_getR 8 11 1 49 (pc2 := 55) rfl dX11_wallFor_52 rfl rfl ff_11_1 wd_303 rfl ?_
        refine z_getR 49 9 7 51 (pc2 := 58) rfl dX11_wallFor_55 rfl rfl ff_9_7 wd_244 rfl ?_
        refine z_iload_n (pc2 := 59) rfl dX11_wallFor_58 rfl ?_
        obtain ⟨hb11, h⟩ := ab_ck_e h
        refine z_iald 51 (pc2 := 60) (j := (a1).toNatClampNeg) rfl dX11_wallFor_59 rfl rfl hb11 rfl ?_
        obtain ⟨x12, hxx12, h⟩ := ab_lt_e h
        refine z_top hxx12 ?_
        refine z_istore (pc2 := 62) (L2 := [some (.ref 8), some (.int a1), some (.int a2), some (.int a3), some (.int x12), none, none]) rfl dX11_wallFor_60 (by decide) rfl rfl ?_
        refine z_iconst (pc2 := 63) rfl dX11_wallFor_62 lt_i_m1 ?_
        refine z_istore (pc2 := 65) (L2 := [some (.ref 8), some (.int a1), some (.int a2), some (.int a3), some (.int x12), some (.int (-1 : Int32)), none]) rfl dX11_wallFor_63 (by decide) rfl rfl ?_
        refine z_iconst (pc2 := 66) rfl dX11_wallFor_65 lt_i_0 ?_
        refine z_istore (pc2 := 68) (L2 := [some (.ref 8), some (.int a1), some (.int a2), some (.int a3), some (.int x12), some (.int (-1 : Int32)), some (.int (0 : Int32))]) rfl dX11_wallFor_66 (by decide) rfl rfl ?_
        refine z_fgt [true, true, true, true, true, true, true] (L2 := [some (.ref 8), some (.int a1), some (.int a2), some (.int a3), some (.int x12), some (.int (-1 : Int32)), some (.int (0 : Int32))]) rfl ?_
        refine e_X11_wallFor_L68 (fun k24 k25 s26 h => ?_) _ _ _ _ _ h
        refine z_iload (pc2 := 142) rfl dX11_wallFor_140 rfl ?_
        refine z_if_ge (pc2 := 145) (tgt := 151) rfl dX11_wallFor_142 (by decide) (fun hc27 => ?_) (fun hc27 => ?_)
        · replace h := ab_pos hc27 h
          refine z_iload_n (pc2 := 152) rfl dX11_wallFor_151 rfl ?_
          refine z_if_ne (pc2 := 155) (tgt := 160) rfl dX11_wallFor_152 (by decide) (fun hc28 => ?_) (fun hc28 => ?_)
          · replace h := ab_neg hc28 h
            refine z_iload (pc2 := 162) rfl dX11_wallFor_160 rfl ?_
            exact z_iret dX11_wallFor_162 rfl rfl (fi_w h)
          · replace h := ab_pos hc28 h
            refine z_iload (pc2 := 157) rfl dX11_wallFor_155 rfl ?_
            refine ab_goto (tgt := 162) dX11_wallFor_157 (by decide) ?_
            exact z_iret dX11_wallFor_162 rfl rfl (fi_w h)
        · replace h := ab_neg hc27 h
          refine z_aload_n (pc2 := 146) rfl dX11_wallFor_145 rfl ?_
          refine z_iconst (pc2 := 147) rfl dX11_wallFor_146 lt_i_2 ?_
          obtain ⟨q29, hq29, h⟩ := ab_bnd h
          refine z_callVi 8 [.int (2 : Int32)] [some (.ref 8), some (.int (2 : Int32))] (pc2 := 150) rfl rfl dX11_wallFor_147 ok_X11_refuse ⟨fun _ => rfl, fun _ => Nat.le_of_ble_eq_true rfl⟩ rfl rv_8 wd_346 wd_348 wd_0 rfl (e_X11_refuse hq29) ?_
          exact z_iret dX11_wallFor_150 rfl rfl (fi_w h)
      · replace h := ab_neg hc8 h
        refine z_aload_n (pc2 := 27) rfl dX11_wallFor_26 rfl ?_
        refine z_iconst (pc2 := 28) rfl dX11_wallFor_27 lt_i_1 ?_
        obtain ⟨q30, hq30, h⟩ := ab_bnd h
        refine z_callVi 8 [.int (1 : Int32)] [some (.ref 8), some (.int (1 : Int32))] (pc2 := 31) rfl rfl dX11_wallFor_28 ok_X11_refuse ⟨fun _ => rfl, fun _ => Nat.le_of_ble_eq_true rfl⟩ rfl rv_8 wd_346 wd_348 wd_0 rfl (e_X11_refuse hq30) ?_
        exact z_iret dX11_wallFor_31 rfl rfl (fi_w h)
