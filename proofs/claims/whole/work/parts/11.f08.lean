def f_X9_highestBeside (w : Nat) (a1 : Int32) (σ : ab_F) : Option Int32 := ab_lt (((4 : Int32) * a1)) (fun x1 => (f_X9_highestBeside_L9 w a1 σ (fun (k13 : Int32) => (some k13)) ab_fu a1 (-1 : Int32) x1))
set_option maxRecDepth 100000 in
set_option maxHeartbeats 4000000 in
theorem e_X9_highestBeside_38 {sc : Nat × (Nat → Int32)} {r : Option Nat × Option Nat} {a1 : Int32} {σ : ab_F} {res : Int32} (h : f_X9_highestBeside 38 a1 σ = some res) : ab_E mX9_highestBeside 0 sc 0 [some (.ref 38), some (.int a1), none, none, none, none] [] (σ, r) (fun v S => v = some (.int res) ∧ S = (σ, r)) := by
  unfold f_X9_highestBeside at h
  refine z_iload_n (pc2 := 1) rfl dX9_highestBeside_0 rfl ?_
  refine z_istore_n (pc2 := 2) (L2 := [some (.ref 38), some (.int a1), some (.int a1), none, none, none]) rfl dX9_highestBeside_1 (by decide) rfl rfl ?_
  refine z_iconst (pc2 := 3) rfl dX9_highestBeside_2 lt_i_m1 ?_
  refine z_istore_n (pc2 := 4) (L2 := [some (.ref 38), some (.int a1), some (.int a1), some (.int (-1 : Int32)), none, none]) rfl dX9_highestBeside_3 (by decide) rfl rfl ?_
  refine z_iconst (pc2 := 5) rfl dX9_highestBeside_4 lt_i_4 ?_
  refine z_iload_n (pc2 := 6) rfl dX9_highestBeside_5 rfl ?_
  refine z_imul (pc2 := 7) rfl dX9_highestBeside_6 ?_
  obtain ⟨x1, hxx1, h⟩ := ab_lt_e h
  refine z_top hxx1 ?_
  refine z_istore (pc2 := 9) (L2 := [some (.ref 38), some (.int a1), some (.int a1), some (.int (-1 : Int32)), some (.int x1), none]) rfl dX9_highestBeside_7 (by decide) rfl rfl ?_
  refine z_fgt [true, true, true, true, true, false] (L2 := [some (.ref 38), some (.int a1), some (.int a1), some (.int (-1 : Int32)), some (.int x1), none]) rfl ?_
  refine e_X9_highestBeside_38_L9 (fun k13 h => ?_) _ _ _ _ h
  refine z_iload_n (pc2 := 61) rfl dX9_highestBeside_60 rfl ?_
  exact z_iret dX9_highestBeside_61 rfl rfl (fi_p h)
def f_X9_getsWet (w : Nat) (a1 : Int32) (σ : ab_F) : Option ab_F := ab_ck (ab_ib a1 8) (ab_ck (ab_ib a1 8) (ab_ck (ab_ib (σ (w + 8) (a1).toNatClampNeg) 16) (ab_ck (ab_ib a1 8) (ab_lt (ab_u σ (w + 10) (a1).toNatClampNeg ((σ (w + 10) (a1).toNatClampNeg) ||| (σ (w + 4) ((σ (w + 8) (a1).toNatClampNeg)).toNatClampNeg))) (fun (s5 : ab_F) => (f_X9_does w a1 s5).bind (fun q6 => (if q6.1 = (1 : Int32) then ab_ck (ab_ib a1 8) ((f_J9_min_7cf53 (20 : Int32) ((q6.2 (w + 9) (a1).toNatClampNeg) + (1 : Int32)) q6.2).bind (fun q9 => ab_ck (ab_ib a1 8) (ab_lt (ab_u q6.2 (w + 9) (a1).toNatClampNeg q9) (fun (s11 : ab_F) => (some s11))))) else if q6.1 = (2 : Int32) then ab_ck (ab_ib a1 8) (ab_lt (ab_u q6.2 (w + 9) (a1).toNatClampNeg (0 : Int32)) (fun (s14 : ab_F) => (some s14))) else if q6.1 = (3 : Int32) then ab_ck (ab_ib a1 8) ((f_X9_highestBeside w (q6.2 (w + 8) (a1).toNatClampNeg) q6.2).bind (fun q17 => ab_ck (ab_ib a1 8) (ab_lt (ab_u q6.2 (w + 8) (a1).toNatClampNeg q17) (fun (s19 : ab_F) => (some s19))))) else (some q6.2))))))))
set_option maxRecDepth 100000 in
set_option maxHeartbeats 4000000 in
theorem e_X9_getsWet_38 {sc : Nat × (Nat → Int32)} {r : Option Nat × Option Nat} {a1 : Int32} {σ : ab_F} {res : ab_F} (h : f_X9_getsWet 38 a1 σ = some res) : ab_E mX9_getsWet 4 sc 0 [some (.ref 38), some (.int a1)] [] (σ, r) (fun v S => v = none ∧ S = (res, r)) := by
  unfold f_X9_getsWet at h
  refine z_aload_n (pc2 := 1) rfl dX9_getsWet_0 rfl ?_
  refine z_getR 38 9 16 48 (pc2 := 4) rfl dX9_getsWet_1 rfl rfl ff_9_16 wd_263 rfl ?_
  refine z_iload_n (pc2 := 5) rfl dX9_getsWet_4 rfl ?_
  refine z_dup2 (pc2 := 6) rfl dX9_getsWet_5 rfl rfl ?_
  obtain ⟨hb1, h⟩ := ab_ck_e h
  refine z_iald 48 (pc2 := 7) (j := (a1).toNatClampNeg) rfl dX9_getsWet_6 rfl rfl hb1 rfl ?_
  refine z_aload_n (pc2 := 8) rfl dX9_getsWet_7 rfl ?_
  refine z_getR 38 9 9 42 (pc2 := 11) rfl dX9_getsWet_8 rfl rfl ff_9_9 wd_247 rfl ?_
  refine z_aload_n (pc2 := 12) rfl dX9_getsWet_11 rfl ?_
  refine z_getR 38 9 14 46 (pc2 := 15) rfl dX9_getsWet_12 rfl rfl ff_9_14 wd_259 rfl ?_
  refine z_iload_n (pc2 := 16) rfl dX9_getsWet_15 rfl ?_
  obtain ⟨hb2, h⟩ := ab_ck_e h
  refine z_iald 46 (pc2 := 17) (j := (a1).toNatClampNeg) rfl dX9_getsWet_16 rfl rfl hb2 rfl ?_
  obtain ⟨hb3, h⟩ := ab_ck_e h
  refine z_iald 42 (pc2 := 18) (j := ((σ (38 + 8) (a1).toNatClampNeg)).toNatClampNeg) rfl dX9_getsWet_17 rfl rfl hb3 rfl ?_
  refine z_ior (pc2 := 19) rfl dX9_getsWet_18 ?_
  obtain ⟨hb4, h⟩ := ab_ck_e h
  refine z_iast 48 (pc2 := 20) (j := (a1).toNatClampNeg) rfl dX9_getsWet_19 rfl rfl hb4 rfl ?_
  obtain ⟨s5, hs5, h⟩ := ab_lt_e h
  refine z_tops hs5 ?_
  refine z_aload_n (pc2 := 21) rfl dX9_getsWet_20 rfl ?_
  refine z_iload_n (pc2 := 22) rfl dX9_getsWet_21 rfl ?_
  obtain ⟨q6, hq6, h⟩ := ab_bnd h
  refine z_callVi 38 [.int a1] [some (.ref 38), some (.int a1)] (pc2 := 25) rfl rfl dX9_getsWet_22 ok_X9_does ⟨fun _ => rfl, fun _ => Nat.le_of_ble_eq_true rfl⟩ rfl rv_38 wd_695 wd_368 wd_369 rfl (e_X9_does_38 hq6) ?_
  by_cases hc7 : q6.1 = (1 : Int32)
  · replace h := ab_pos hc7 h
    refine ab_tsIn (tgt := 52) dX9_getsWet_25 (by rw [hc7]; decide) (by rw [hc7]; decide) (by rw [hc7]; rfl) (by decide) ?_
    refine z_aload_n (pc2 := 53) rfl dX9_getsWet_52 rfl ?_
    refine z_getR 38 9 15 47 (pc2 := 56) rfl dX9_getsWet_53 rfl rfl ff_9_15 wd_261 rfl ?_
    refine z_iload_n (pc2 := 57) rfl dX9_getsWet_56 rfl ?_
    refine z_bipush (pc2 := 59) rfl dX9_getsWet_57 lt_b_20 ?_
    refine z_aload_n (pc2 := 60) rfl dX9_getsWet_59 rfl ?_
    refine z_getR 38 9 15 47 (pc2 := 63) rfl dX9_getsWet_60 rfl rfl ff_9_15 wd_261 rfl ?_
    refine z_iload_n (pc2 := 64) rfl dX9_getsWet_63 rfl ?_
    obtain ⟨hb8, h⟩ := ab_ck_e h
    refine z_iald 47 (pc2 := 65) (j := (a1).toNatClampNeg) rfl dX9_getsWet_64 rfl rfl hb8 rfl ?_
    refine z_iconst (pc2 := 66) rfl dX9_getsWet_65 lt_i_1 ?_
    refine z_iadd (pc2 := 67) rfl dX9_getsWet_66 ?_
    obtain ⟨q9, hq9, h⟩ := ab_bnd h
    refine z_callSi [.int (20 : Int32), .int ((q6.2 (38 + 9) (a1).toNatClampNeg) + (1 : Int32))] [some (.int (20 : Int32)), some (.int ((q6.2 (38 + 9) (a1).toNatClampNeg) + (1 : Int32)))] (pc2 := 70) rfl rfl dX9_getsWet_67 ok_J9_min_7cf53 ⟨fun _ => rfl, fun _ => Nat.le_of_ble_eq_true rfl⟩ rfl wd_458 wd_459 rfl (e_J9_min_7cf53 hq9) ?_
    obtain ⟨hb10, h⟩ := ab_ck_e h
    refine z_iast 47 (pc2 := 71) (j := (a1).toNatClampNeg) rfl dX9_getsWet_70 rfl rfl hb10 rfl ?_
    obtain ⟨s11, hs11, h⟩ := ab_lt_e h
    refine z_tops hs11 ?_
    refine ab_goto (tgt := 103) dX9_getsWet_71 (by decide) ?_
    exact z_vret dX9_getsWet_103 rfl (fv_w h)
  · replace h := ab_neg hc7 h
    by_cases hc12 : q6.1 = (2 : Int32)
    · replace h := ab_pos hc12 h
      refine ab_tsIn (tgt := 74) dX9_getsWet_25 (by rw [hc12]; decide) (by rw [hc12]; decide) (by rw [hc12]; rfl) (by decide) ?_
      refine z_aload_n (pc2 := 75) rfl dX9_getsWet_74 rfl ?_
      refine z_getR 38 9 15 47 (pc2 := 78) rfl dX9_getsWet_75 rfl rfl ff_9_15 wd_261 rfl ?_
      refine z_iload_n (pc2 := 79) rfl dX9_getsWet_78 rfl ?_
      refine z_iconst (pc2 := 80) rfl dX9_getsWet_79 lt_i_0 ?_
      obtain ⟨hb13, h⟩ := ab_ck_e h
      refine z_iast 47 (pc2 := 81) (j := (a1).toNatClampNeg) rfl dX9_getsWet_80 rfl rfl hb13 rfl ?_
      obtain ⟨s14, hs14, h⟩ := ab_lt_e h
      refine z_tops hs14 ?_
      refine ab_goto (tgt := 103) dX9_getsWet_81 (by decide) ?_
      exact z_vret dX9_getsWet_103 rfl (fv_w h)
    · replace h := ab_neg hc12 h
      by_cases hc15 : q6.1 = (3 : Int32)
      · replace h := ab_pos hc15 h
        refine ab_tsIn (tgt := 84) dX9_getsWet_25 (by rw [hc15]; decide) (by rw [hc15]; decide) (by rw [hc15]; rfl) (by decide) ?_
        refine z_aload_n (pc2 := 85) rfl dX9_getsWet_84 rfl ?_
        refine z_getR 38 9 14 46 (pc2 := 88) rfl dX9_getsWet_85 rfl rfl ff_9_14 wd_259 rfl ?_
        refine z_iload_n (pc2 := 89) rfl dX9_getsWet_88 rfl ?_
        refine z_aload_n (pc2 := 90) rfl dX9_getsWet_89 rfl ?_
        refine z_aload_n (pc2 := 91) rfl dX9_getsWet_90 rfl ?_
        refine z_getR 38 9 14 46 (pc2 := 94) rfl dX9_getsWet_91 rfl rfl ff_9_14 wd_259 rfl ?_
        refine z_iload_n (pc2 := 95) rfl dX9_getsWet_94 rfl ?_
        obtain ⟨hb16, h⟩ := ab_ck_e h
        refine z_iald 46 (pc2 := 96) (j := (a1).toNatClampNeg) rfl dX9_getsWet_95 rfl rfl hb16 rfl ?_
        obtain ⟨q17, hq17, h⟩ := ab_bnd h
        refine z_callVi 38 [.int (q6.2 (38 + 8) (a1).toNatClampNeg)] [some (.ref 38), some (.int (q6.2 (38 + 8) (a1).toNatClampNeg)), none, none, none, none] (pc2 := 99) rfl rfl dX9_getsWet_96 ok_X9_highestBeside ⟨fun _ => rfl, fun _ => Nat.le_of_ble_eq_true rfl⟩ rfl rv_38 wd_696 wd_698 wd_12 rfl (e_X9_highestBeside_38 hq17) ?_
        obtain ⟨hb18, h⟩ := ab_ck_e h
        refine z_iast 46 (pc2 := 100) (j := (a1).toNatClampNeg) rfl dX9_getsWet_99 rfl rfl hb18 rfl ?_
        obtain ⟨s19, hs19, h⟩ := ab_lt_e h
        refine z_tops hs19 ?_
        refine ab_goto (tgt := 103) dX9_getsWet_100 (by decide) ?_
        exact z_vret dX9_getsWet_103 rfl (fv_w h)
      · replace h := ab_neg hc15 h
        have thc7 := ab_ne_toInt (k := 1) hc7 (by decide)
        have thc12 := ab_ne_toInt (k := 2) hc12 (by decide)
        have thc15 := ab_ne_toInt (k := 3) hc15 (by decide)
        refine ab_tsOut (tgt := 103) dX9_getsWet_25 (by omega) (by decide) ?_
        exact z_vret dX9_getsWet_103 rfl (fv_w h)
def f_X9_dayGoes_L6 (w : Nat) (K : ab_F → Option ab_F) : Nat → Int32 → ab_F → Option ab_F
  | 0, _, _ => none
  | n + 1, u1, σ => (if (σ w 11) ≤ u1 then (K σ) else (f_X9_isWet w u1 σ).bind (fun q3 => (if (ab_b q3) = 0 then ab_lt (u1 + (1 : Int32)) (fun x5 => (f_X9_dayGoes_L6 w K n x5 σ)) else (f_X9_getsWet w u1 σ).bind (fun q6 => ab_lt (u1 + (1 : Int32)) (fun x7 => (f_X9_dayGoes_L6 w K n x7 q6))))))
set_option maxRecDepth 100000 in
set_option maxHeartbeats 4000000 in
theorem e_X9_dayGoes_38_L6 {sc : Nat × (Nat → Int32)} {r : Option Nat × Option Nat} {K : ab_F → Option ab_F} {res : ab_F} (hK : ∀ (σ : ab_F), K σ = some res → ab_E mX9_dayGoes 5 sc 33 [some (.ref 38), none] [] (σ, r) (fun v S => v = none ∧ S = (res, r))) : ∀ (n : Nat) (u1 : Int32) (σ : ab_F), f_X9_dayGoes_L6 38 K n u1 σ = some res → ab_E mX9_dayGoes 5 sc 6 [some (.ref 38), some (.int u1)] [] (σ, r) (fun v S => v = none ∧ S = (res, r)) := by
  intro n
  induction n with
  | zero =>
    intro u1 σ h
    rw [f_X9_dayGoes_L6] at h
    cases h
  | succ n ih =>
    intro u1 σ h
    rw [f_X9_dayGoes_L6] at h
    refine z_iload_n (pc2 := 7) rfl dX9_dayGoes_6 rfl ?_
    refine z_aload_n (pc2 := 8) rfl dX9_dayGoes_7 rfl ?_
    refine z_getI 38 9 11 (pc2 := 11) rfl dX9_dayGoes_8 rfl rfl ff_9_11 wd_250 ?_
    refine z_icmp_ge (pc2 := 14) (tgt := 33) rfl dX9_dayGoes_11 (by decide) (fun hc2 => ?_) (fun hc2 => ?_)
    · replace h := ab_pos hc2 h
      refine z_fgt [true, false] (L2 := [some (.ref 38), none]) rfl ?_
      exact hK  _ h
    · replace h := ab_neg hc2 h
      refine z_aload_n (pc2 := 15) rfl dX9_dayGoes_14 rfl ?_
      refine z_iload_n (pc2 := 16) rfl dX9_dayGoes_15 rfl ?_
      obtain ⟨q3, hq3, h⟩ := ab_bnd h
      refine z_callVi 38 [.int u1] [some (.ref 38), some (.int u1)] (pc2 := 19) rfl rfl dX9_dayGoes_16 ok_X9_isWet ⟨fun _ => rfl, fun _ => Nat.le_of_ble_eq_true rfl⟩ rfl rv_38 wd_690 wd_364 wd_365 rfl (e_X9_isWet_38 hq3) ?_
      refine z_if_eq (pc2 := 22) (tgt := 27) rfl dX9_dayGoes_19 (by decide) (fun hc4 => ?_) (fun hc4 => ?_)
      · replace h := ab_pos hc4 h
        obtain ⟨x5, hxx5, h⟩ := ab_lt_e h
        refine z_iinc (pc2 := 30) (v := x5) (L2 := [some (.ref 38), some (.int x5)]) rfl dX9_dayGoes_27 rfl (by rw [hxx5]; rfl) (by decide) rfl rfl ?_
        refine ab_goto (tgt := 6) dX9_dayGoes_30 (by decide) ?_
        refine z_fgt [true, true] (L2 := [some (.ref 38), some (.int x5)]) rfl ?_
        exact ih _ _ h
      · replace h := ab_neg hc4 h
        refine z_aload_n (pc2 := 23) rfl dX9_dayGoes_22 rfl ?_
        refine z_iload_n (pc2 := 24) rfl dX9_dayGoes_23 rfl ?_
        obtain ⟨q6, hq6, h⟩ := ab_bnd h
        refine z_callVv 38 [.int u1] [some (.ref 38), some (.int u1)] (pc2 := 27) rfl rfl dX9_dayGoes_24 ok_X9_getsWet ⟨fun _ => rfl, fun _ => Nat.le_of_ble_eq_true rfl⟩ rfl rv_38 wd_691 wd_693 wd_11 rfl (e_X9_getsWet_38 hq6) ?_
        obtain ⟨x7, hxx7, h⟩ := ab_lt_e h
        refine z_iinc (pc2 := 30) (v := x7) (L2 := [some (.ref 38), some (.int x7)]) rfl dX9_dayGoes_27 rfl (by rw [hxx7]; rfl) (by decide) rfl rfl ?_
        refine ab_goto (tgt := 6) dX9_dayGoes_30 (by decide) ?_
        refine z_fgt [true, true] (L2 := [some (.ref 38), some (.int x7)]) rfl ?_
        exact ih _ _ h
def f_X9_dayGoes (w : Nat) (σ : ab_F) : Option ab_F := (f_X9_waterRises w σ).bind (fun q1 => (f_X9_dayGoes_L6 w (fun (s8 : ab_F) => ab_lt (ab_u s8 w 3 ((s8 w 3) + (1 : Int32))) (fun (s9 : ab_F) => (some s9))) ab_fu (0 : Int32) q1))
set_option maxRecDepth 100000 in
set_option maxHeartbeats 4000000 in
theorem e_X9_dayGoes_38 {sc : Nat × (Nat → Int32)} {r : Option Nat × Option Nat} {σ : ab_F} {res : ab_F} (h : f_X9_dayGoes 38 σ = some res) : ab_E mX9_dayGoes 5 sc 0 [some (.ref 38), none] [] (σ, r) (fun v S => v = none ∧ S = (res, r)) := by
  unfold f_X9_dayGoes at h
  refine z_aload_n (pc2 := 1) rfl dX9_dayGoes_0 rfl ?_
  obtain ⟨q1, hq1, h⟩ := ab_bnd h
  refine z_callVv 38 [] [some (.ref 38), none, none] (pc2 := 4) rfl rfl dX9_dayGoes_1 ok_X9_waterRises ⟨fun _ => rfl, fun _ => Nat.le_of_ble_eq_true rfl⟩ rfl rv_38 wd_679 wd_681 wd_9 rfl (e_X9_waterRises_38 hq1) ?_
  refine z_iconst (pc2 := 5) rfl dX9_dayGoes_4 lt_i_0 ?_
  refine z_istore_n (pc2 := 6) (L2 := [some (.ref 38), some (.int (0 : Int32))]) rfl dX9_dayGoes_5 (by decide) rfl rfl ?_
  refine z_fgt [true, true] (L2 := [some (.ref 38), some (.int (0 : Int32))]) rfl ?_
  refine e_X9_dayGoes_38_L6 (fun s8 h => ?_) _ _ _ h
  refine z_aload_n (pc2 := 34) rfl dX9_dayGoes_33 rfl ?_
  refine z_dup (pc2 := 35) rfl dX9_dayGoes_34 rfl ?_
  refine z_getI 38 9 3 (pc2 := 38) rfl dX9_dayGoes_35 rfl rfl ff_9_3 wd_235 ?_
  refine z_iconst (pc2 := 39) rfl dX9_dayGoes_38 lt_i_1 ?_
  refine z_iadd (pc2 := 40) rfl dX9_dayGoes_39 ?_
  refine z_putI 38 9 3 (pc2 := 43) (ft := .int) rfl dX9_dayGoes_40 rfl rfl ff_9_3 wd_235 rfl (by decide +kernel) rfl rfl ?_
  obtain ⟨s9, hs9, h⟩ := ab_lt_e h
  refine z_tops hs9 ?_
  exact z_vret dX9_dayGoes_43 rfl (fv_w h)
def f_X9_daysGo_L2 (w : Nat) (p1 : Int32) (K : ab_F → Option ab_F) : Nat → Int32 → ab_F → Option ab_F
  | 0, _, _ => none
  | n + 1, u2, σ => (if p1 ≤ u2 then (K σ) else (f_X9_dayGoes w σ).bind (fun q2 => ab_lt (u2 + (1 : Int32)) (fun x3 => (f_X9_daysGo_L2 w p1 K n x3 q2))))
set_option maxRecDepth 100000 in
set_option maxHeartbeats 4000000 in
theorem e_X9_daysGo_38_L2 {sc : Nat × (Nat → Int32)} {r : Option Nat × Option Nat} {p1 : Int32} {K : ab_F → Option ab_F} {res : ab_F} (hK : ∀ (σ : ab_F), K σ = some res → ab_E mX9_daysGo 6 sc 17 [none, none, none] [] (σ, r) (fun v S => v = none ∧ S = (res, r))) : ∀ (n : Nat) (u2 : Int32) (σ : ab_F), f_X9_daysGo_L2 38 p1 K n u2 σ = some res → ab_E mX9_daysGo 6 sc 2 [some (.ref 38), some (.int p1), some (.int u2)] [] (σ, r) (fun v S => v = none ∧ S = (res, r)) := by
  intro n
  induction n with
  | zero =>
    intro u2 σ h
    rw [f_X9_daysGo_L2] at h
    cases h
  | succ n ih =>
    intro u2 σ h
    rw [f_X9_daysGo_L2] at h
    refine z_iload_n (pc2 := 3) rfl dX9_daysGo_2 rfl ?_
    refine z_iload_n (pc2 := 4) rfl dX9_daysGo_3 rfl ?_
    refine z_icmp_ge (pc2 := 7) (tgt := 17) rfl dX9_daysGo_4 (by decide) (fun hc1 => ?_) (fun hc1 => ?_)
    · replace h := ab_pos hc1 h
      refine z_fgt [false, false, false] (L2 := [none, none, none]) rfl ?_
      exact hK  _ h
    · replace h := ab_neg hc1 h
      refine z_aload_n (pc2 := 8) rfl dX9_daysGo_7 rfl ?_
      obtain ⟨q2, hq2, h⟩ := ab_bnd h
      refine z_callVv 38 [] [some (.ref 38), none] (pc2 := 11) rfl rfl dX9_daysGo_8 ok_X9_dayGoes ⟨fun _ => rfl, fun _ => Nat.le_of_ble_eq_true rfl⟩ rfl rv_38 wd_675 wd_676 wd_677 rfl (e_X9_dayGoes_38 hq2) ?_
      obtain ⟨x3, hxx3, h⟩ := ab_lt_e h
      refine z_iinc (pc2 := 14) (v := x3) (L2 := [some (.ref 38), some (.int p1), some (.int x3)]) rfl dX9_daysGo_11 rfl (by rw [hxx3]; rfl) (by decide) rfl rfl ?_
      refine ab_goto (tgt := 2) dX9_daysGo_14 (by decide) ?_
      refine z_fgt [true, true, true] (L2 := [some (.ref 38), some (.int p1), some (.int x3)]) rfl ?_
      exact ih _ _ h
def f_X9_daysGo (w : Nat) (a1 : Int32) (σ : ab_F) : Option ab_F := (f_X9_daysGo_L2 w a1 (fun (s4 : ab_F) => (some s4)) ab_fu (0 : Int32) σ)
set_option maxRecDepth 100000 in
set_option maxHeartbeats 4000000 in
theorem e_X9_daysGo_38 {sc : Nat × (Nat → Int32)} {r : Option Nat × Option Nat} {a1 : Int32} {σ : ab_F} {res : ab_F} (h : f_X9_daysGo 38 a1 σ = some res) : ab_E mX9_daysGo 6 sc 0 [some (.ref 38), some (.int a1), none] [] (σ, r) (fun v S => v = none ∧ S = (res, r)) := by
  unfold f_X9_daysGo at h
  refine z_iconst (pc2 := 1) rfl dX9_daysGo_0 lt_i_0 ?_
  refine z_istore_n (pc2 := 2) (L2 := [some (.ref 38), some (.int a1), some (.int (0 : Int32))]) rfl dX9_daysGo_1 (by decide) rfl rfl ?_
  refine z_fgt [true, true, true] (L2 := [some (.ref 38), some (.int a1), some (.int (0 : Int32))]) rfl ?_
  refine e_X9_daysGo_38_L2 (fun s4 h => ?_) _ _ _ h
  exact z_vret dX9_daysGo_17 rfl (fv_w h)
def f_X9_knownAmong_L4 (w : Nat) (p1 : Int32) (σ : ab_F) (K : Int32 → Option Int32) : Nat → Int32 → Int32 → Option Int32
  | 0, _, _ => none
  | n + 1, u2, u3 => (if (σ w 11) ≤ u3 then (K u2) else (if ((p1 >>> (u3 &&& 31)) &&& (1 : Int32)) = (1 : Int32) then ab_ck (ab_ib u3 8) (ab_lt ((u2 ||| (σ (w + 10) (u3).toNatClampNeg))) (fun x5 => ab_lt (u3 + (1 : Int32)) (fun x6 => (f_X9_knownAmong_L4 w p1 σ K n x5 x6)))) else ab_lt (u3 + (1 : Int32)) (fun x3 => (f_X9_knownAmong_L4 w p1 σ K n u2 x3))))
set_option maxRecDepth 100000 in
set_option maxHeartbeats 4000000 in
theorem e_X9_knownAmong_38_L4 {sc : Nat × (Nat → Int32)} {r : Option Nat × Option Nat} {p1 : Int32} {σ : ab_F} {K : Int32 → Option Int32} {res : Int32} (hK : ∀ (u2 : Int32), K u2 = some res → ab_E mX9_knownAmong 0 sc 36 [none, none, some (.int u2), none] [] (σ, r) (fun v S => v = some (.int res) ∧ S = (σ, r))) : ∀ (n : Nat) (u2 : Int32) (u3 : Int32), f_X9_knownAmong_L4 38 p1 σ K n u2 u3 = some res → ab_E mX9_knownAmong 0 sc 4 [some (.ref 38), some (.int p1), some (.int u2), some (.int u3)] [] (σ, r) (fun v S => v = some (.int res) ∧ S = (σ, r)) := by
  intro n
  induction n with
  | zero =>
    intro u2 u3 h
    rw [f_X9_knownAmong_L4] at h
    cases h
  | succ n ih =>
    intro u2 u3 h
    rw [f_X9_knownAmong_L4] at h
    refine z_iload_n (pc2 := 5) rfl dX9_knownAmong_4 rfl ?_
    refine z_aload_n (pc2 := 6) rfl dX9_knownAmong_5 rfl ?_
    refine z_getI 38 9 11 (pc2 := 9) rfl dX9_knownAmong_6 rfl rfl ff_9_11 wd_250 ?_
    refine z_icmp_ge (pc2 := 12) (tgt := 36) rfl dX9_knownAmong_9 (by decide) (fun hc1 => ?_) (fun hc1 => ?_)
    · replace h := ab_pos hc1 h
      refine z_fgt [false, false, true, false] (L2 := [none, none, some (.int u2), none]) rfl ?_
      exact hK _ h
    · replace h := ab_neg hc1 h
      refine z_iload_n (pc2 := 13) rfl dX9_knownAmong_12 rfl ?_
      refine z_iload_n (pc2 := 14) rfl dX9_knownAmong_13 rfl ?_
      refine z_ishr (pc2 := 15) rfl dX9_knownAmong_14 ?_
      refine z_iconst (pc2 := 16) rfl dX9_knownAmong_15 lt_i_1 ?_
      refine z_iand (pc2 := 17) rfl dX9_knownAmong_16 ?_
      refine z_iconst (pc2 := 18) rfl dX9_knownAmong_17 lt_i_1 ?_
      refine z_icmp_ne (pc2 := 21) (tgt := 30) rfl dX9_knownAmong_18 (by decide) (fun hc2 => ?_) (fun hc2 => ?_)
      · replace h := ab_neg hc2 h
        obtain ⟨x3, hxx3, h⟩ := ab_lt_e h
        refine z_iinc (pc2 := 33) (v := x3) (L2 := [some (.ref 38), some (.int p1), some (.int u2), some (.int x3)]) rfl dX9_knownAmong_30 rfl (by rw [hxx3]; rfl) (by decide) rfl rfl ?_
        refine ab_goto (tgt := 4) dX9_knownAmong_33 (by decide) ?_
        refine z_fgt [true, true, true, true] (L2 := [some (.ref 38), some (.int p1), some (.int u2), some (.int x3)]) rfl ?_
        exact ih _ _ h
      · replace h := ab_pos hc2 h
        refine z_iload_n (pc2 := 22) rfl dX9_knownAmong_21 rfl ?_
        refine z_aload_n (pc2 := 23) rfl dX9_knownAmong_22 rfl ?_
        refine z_getR 38 9 16 48 (pc2 := 26) rfl dX9_knownAmong_23 rfl rfl ff_9_16 wd_263 rfl ?_
        refine z_iload_n (pc2 := 27) rfl dX9_knownAmong_26 rfl ?_
        obtain ⟨hb4, h⟩ := ab_ck_e h
        refine z_iald 48 (pc2 := 28) (j := (u3).toNatClampNeg) rfl dX9_knownAmong_27 rfl rfl hb4 rfl ?_
        refine z_ior (pc2 := 29) rfl dX9_knownAmong_28 ?_
        obtain ⟨x5, hxx5, h⟩ := ab_lt_e h
        refine z_top hxx5 ?_
        refine z_istore_n (pc2 := 30) (L2 := [some (.ref 38), some (.int p1), some (.int x5), some (.int u3)]) rfl dX9_knownAmong_29 (by decide) rfl rfl ?_
        obtain ⟨x6, hxx6, h⟩ := ab_lt_e h
        refine z_iinc (pc2 := 33) (v := x6) (L2 := [some (.ref 38), some (.int p1), some (.int x5), some (.int x6)]) rfl dX9_knownAmong_30 rfl (by rw [hxx6]; rfl) (by decide) rfl rfl ?_
        refine ab_goto (tgt := 4) dX9_knownAmong_33 (by decide) ?_
        refine z_fgt [true, true, true, true] (L2 := [some (.ref 38), some (.int p1), some (.int x5), some (.int x6)]) rfl ?_
        exact ih _ _ h
def f_X9_knownAmong (w : Nat) (a1 : Int32) (σ : ab_F) : Option Int32 := (f_X9_knownAmong_L4 w a1 σ (fun (k7 : Int32) => (some k7)) ab_fu (0 : Int32) (0 : Int32))
set_option maxRecDepth 100000 in
set_option maxHeartbeats 4000000 in
theorem e_X9_knownAmong_38 {sc : Nat × (Nat → Int32)} {r : Option Nat × Option Nat} {a1 : Int32} {σ : ab_F} {res : Int32} (h : f_X9_knownAmong 38 a1 σ = some res) : ab_E mX9_knownAmong 0 sc 0 [some (.ref 38), some (.int a1), none, none] [] (σ, r) (fun v S => v = some (.int res) ∧ S = (σ, r)) := by
  unfold f_X9_knownAmong at h
  refine z_iconst (pc2 := 1) rfl dX9_knownAmong_0 lt_i_0 ?_
  refine z_istore_n (pc2 := 2) (L2 := [some (.ref 38), some (.int a1), some (.int (0 : Int32)), none]) rfl dX9_knownAmong_1 (by decide) rfl rfl ?_
  refine z_iconst (pc2 := 3) rfl dX9_knownAmong_2 lt_i_0 ?_
  refine z_istore_n (pc2 := 4) (L2 := [some (.ref 38), some (.int a1), some (.int (0 : Int32)), some (.int (0 : Int32))]) rfl dX9_knownAmong_3 (by decide) rfl rfl ?_
  refine z_fgt [true, true, true, true] (L2 := [some (.ref 38), some (.int a1), some (.int (0 : Int32)), some (.int (0 : Int32))]) rfl ?_
  refine e_X9_knownAmong_38_L4 (fun k7 h => ?_) _ _ _ h
  refine z_iload_n (pc2 := 37) rfl dX9_knownAmong_36 rfl ?_
  exact z_iret dX9_knownAmong_37 rfl rfl (fi_p h)
def f_X9_known (w : Nat) (σ : ab_F) : Option Int32 := (f_X9_knownAmong w (-1 : Int32) σ).bind (fun q1 => (some q1))
set_option maxRecDepth 100000 in
set_option maxHeartbeats 4000000 in
theorem e_X9_known_38 {sc : Nat × (Nat → Int32)} {r : Option Nat × Option Nat} {σ : ab_F} {res : Int32} (h : f_X9_known 38 σ = some res) : ab_E mX9_known 1 sc 0 [some (.ref 38)] [] (σ, r) (fun v S => v = some (.int res) ∧ S = (σ, r)) := by
  unfold f_X9_known at h
  refine z_aload_n (pc2 := 1) rfl dX9_known_0 rfl ?_
  refine z_iconst (pc2 := 2) rfl dX9_known_1 lt_i_m1 ?_
  obtain ⟨q1, hq1, h⟩ := ab_bnd h
  refine z_callVi 38 [.int (-1 : Int32)] [some (.ref 38), some (.int (-1 : Int32)), none, none] (pc2 := 5) rfl rfl dX9_known_2 ok_X9_knownAmong ⟨fun _ => rfl, fun _ => Nat.le_of_ble_eq_true rfl⟩ rfl rv_38 wd_704 wd_705 wd_706 rfl (e_X9_knownAmong_38 hq1) ?_
  exact z_iret dX9_known_5 rfl rfl (fi_p h)
def f_X11_days (a1 : Int32) (σ : ab_F) : Option (Int32 × ab_F) := (if a1 < (1 : Int32) then (f_X11_refuse (1 : Int32) σ).bind (fun q2 => (some (q2.1, q2.2))) else (if a1 ≤ (60 : Int32) then (if ((σ 38 3) + a1) ≤ (9999 : Int32) then (f_X9_daysGo 38 a1 σ).bind (fun q5 => (f_X9_known 38 q5).bind (fun q6 => (some (q6, q5)))) else (f_X11_refuse (3 : Int32) σ).bind (fun q7 => (some (q7.1, q7.2)))) else (f_X11_refuse (1 : Int32) σ).bind (fun q8 => (some (q8.1, q8.2)))))
set_option maxRecDepth 100000 in
set_option maxHeartbeats 4000000 in
theorem e_X11_days {sc : Nat × (Nat → Int32)} {r : Option Nat × Option Nat} {a1 : Int32} {σ : ab_F} {res : (Int32 × ab_F)} (h : f_X11_days a1 σ = some res) : ab_E mX11_days 7 sc 0 [some (.ref 8), some (.int a1)] [] (σ, r) (fun v S => v = some (.int res.1) ∧ S = (res.2, r)) := by
  unfold f_X11_days at h
  refine z_iload_n (pc2 := 1) rfl dX11_days_0 rfl ?_
  refine z_iconst (pc2 := 2) rfl dX11_days_1 lt_i_1 ?_
  refine z_icmp_lt (pc2 := 5) (tgt := 11) rfl dX11_days_2 (by decide) (fun hc1 => ?_) (fun hc1 => ?_)
  · replace h := ab_pos hc1 h
    refine z_aload_n (pc2 := 12) rfl dX11_days_11 rfl ?_
    refine z_iconst (pc2 := 13) rfl dX11_days_12 lt_i_1 ?_
    obtain ⟨q2, hq2, h⟩ := ab_bnd h
    refine z_callVi 8 [.int (1 : Int32)] [some (.ref 8), some (.int (1 : Int32))] (pc2 := 16) rfl rfl dX11_days_13 ok_X11_refuse ⟨fun _ => rfl, fun _ => Nat.le_of_ble_eq_true rfl⟩ rfl rv_8 wd_346 wd_348 wd_0 rfl (e_X11_refuse hq2) ?_
    exact z_iret dX11_days_16 rfl rfl (fi_w h)
  · replace h := ab_neg hc1 h
    refine z_iload_n (pc2 := 6) rfl dX11_days_5 rfl ?_
    refine z_bipush (pc2 := 8) rfl dX11_days_6 lt_b_60 ?_
    refine z_icmp_le (pc2 := 11) (tgt := 17) rfl dX11_days_8 (by decide) (fun hc3 => ?_) (fun hc3 => ?_)
    · replace h := ab_pos hc3 h
      refine z_aload_n (pc2 := 18) rfl dX11_days_17 rfl ?_
      refine z_getR 8 11 0 38 (pc2 := 21) rfl dX11_days_18 rfl rfl ff_11_0 wd_302 rfl ?_
      refine z_getI 38 9 3 (pc2 := 24) rfl dX11_days_21 rfl rfl ff_9_3 wd_236 ?_
      refine z_iload_n (pc2 := 25) rfl dX11_days_24 rfl ?_
      refine z_iadd (pc2 := 26) rfl dX11_days_25 ?_
      refine z_sipush (pc2 := 29) rfl dX11_days_26 lt_s_9999 ?_
      refine z_icmp_le (pc2 := 32) (tgt := 38) rfl dX11_days_29 (by decide) (fun hc4 => ?_) (fun hc4 => ?_)
      · replace h := ab_pos hc4 h
        refine z_aload_n (pc2 := 39) rfl dX11_days_38 rfl ?_
        refine z_getR 8 11 0 38 (pc2 := 42) rfl dX11_days_39 rfl rfl ff_11_0 wd_302 rfl ?_
        refine z_iload_n (pc2 := 43) rfl dX11_days_42 rfl ?_
        obtain ⟨q5, hq5, h⟩ := ab_bnd h
        refine z_callVv 38 [.int a1] [some (.ref 38), some (.int a1), none] (pc2 := 46) rfl rfl dX11_days_43 ok_X9_daysGo ⟨fun _ => rfl, fun _ => Nat.le_of_ble_eq_true rfl⟩ rfl rv_38 wd_671 wd_672 wd_673 rfl (e_X9_daysGo_38 hq5) ?_
        refine z_aload_n (pc2 := 47) rfl dX11_days_46 rfl ?_
        refine z_getR 8 11 0 38 (pc2 := 50) rfl dX11_days_47 rfl rfl ff_11_0 wd_302 rfl ?_
        obtain ⟨q6, hq6, h⟩ := ab_bnd h
        refine z_callVi 38 [] [some (.ref 38)] (pc2 := 53) rfl rfl dX11_days_50 ok_X9_known ⟨fun _ => rfl, fun _ => Nat.le_of_ble_eq_true rfl⟩ rfl rv_38 wd_700 wd_701 wd_702 rfl (e_X9_known_38 hq6) ?_
        exact z_iret dX11_days_53 rfl rfl (fi_w h)
      · replace h := ab_neg hc4 h
        refine z_aload_n (pc2 := 33) rfl dX11_days_32 rfl ?_
        refine z_iconst (pc2 := 34) rfl dX11_days_33 lt_i_3 ?_
        obtain ⟨q7, hq7, h⟩ := ab_bnd h
        refine z_callVi 8 [.int (3 : Int32)] [some (.ref 8), some (.int (3 : Int32))] (pc2 := 37) rfl rfl dX11_days_34 ok_X11_refuse ⟨fun _ => rfl, fun _ => Nat.le_of_ble_eq_true rfl⟩ rfl rv_8 wd_346 wd_348 wd_0 rfl (e_X11_refuse hq7) ?_
        exact z_iret dX11_days_37 rfl rfl (fi_w h)
    · replace h := ab_neg hc3 h
      refine z_aload_n (pc2 := 12) rfl dX11_days_11 rfl ?_
      refine z_iconst (pc2 := 13) rfl dX11_days_12 lt_i_1 ?_
      obtain ⟨q8, hq8, h⟩ := ab_bnd h
      refine z_callVi 8 [.int (1 : Int32)] [some (.ref 8), some (.int (1 : Int32))] (pc2 := 16) rfl rfl dX11_days_13 ok_X11_refuse ⟨fun _ => rfl, fun _ => Nat.le_of_ble_eq_true rfl⟩ rfl rv_8 wd_346 wd_348 wd_0 rfl (e_X11_refuse hq8) ?_
      exact z_iret dX11_days_16 rfl rfl (fi_w h)
def f_X9_draw (w : Nat) (σ : ab_F) : Option (Int32 × ab_F) := ab_lt (ab_u σ w 5 (((σ w 5) * (1103515245 : Int32)) + (12345 : Int32))) (fun (s1 : ab_F) => (some ((((s1 w 5)).toUInt32 >>> (((8 : Int32)).toUInt32 &&& Int32.toUInt32 31)).toInt32, s1)))
set_option maxRecDepth 100000 in
set_option maxHeartbeats 4000000 in
theorem e_X9_draw_38 {sc : Nat × (Nat → Int32)} {r : Option Nat × Option Nat} {σ : ab_F} {res : (Int32 × ab_F)} (h : f_X9_draw 38 σ = some res) : ab_E mX9_draw 0 sc 0 [some (.ref 38)] [] (σ, r) (fun v S => v = some (.int res.1) ∧ S = (res.2, r)) := by
  unfold f_X9_draw at h
  refine z_aload_n (pc2 := 1) rfl dX9_draw_0 rfl ?_
  refine z_aload_n (pc2 := 2) rfl dX9_draw_1 rfl ?_
  refine z_getI 38 9 5 (pc2 := 5) rfl dX9_draw_2 rfl rfl ff_9_5 wd_239 ?_
  refine z_ldc (pc2 := 7) rfl dX9_draw_5 wd_720 ?_
  refine z_imul (pc2 := 8) rfl dX9_draw_7 ?_
  refine z_sipush (pc2 := 11) rfl dX9_draw_8 lt_s_12345 ?_
  refine z_iadd (pc2 := 12) rfl dX9_draw_11 ?_
  refine z_putI 38 9 5 (pc2 := 15) (ft := .int) rfl dX9_draw_12 rfl rfl ff_9_5 wd_239 rfl (by decide +kernel) rfl rfl ?_
  obtain ⟨s1, hs1, h⟩ := ab_lt_e h
  refine z_tops hs1 ?_
  refine z_aload_n (pc2 := 16) rfl dX9_draw_15 rfl ?_
  refine z_getI 38 9 5 (pc2 := 19) rfl dX9_draw_16 rfl rfl ff_9_5 wd_239 ?_
  refine z_bipush (pc2 := 21) rfl dX9_draw_19 lt_b_8 ?_
  refine z_iushr (pc2 := 22) rfl dX9_draw_21 ?_
  exact z_iret dX9_draw_22 rfl rfl (fi_w h)
def f_X9_drawSpring (w : Nat) (σ : ab_F) : Option ab_F := (f_X9_draw w σ).bind (fun q1 => ab_lt (ab_u q1.2 w 4 (q1.1 - q1.1 / (16 : Int32) * (16 : Int32))) (fun (s2 : ab_F) => (f_X9_draw w s2).bind (fun q3 => ab_ck (ab_ib ((s2 w 3) - (s2 w 3) / (6 : Int32) * (6 : Int32)) 6) (ab_lt (ab_u q3.2 (w + 5) (((s2 w 3) - (s2 w 3) / (6 : Int32) * (6 : Int32))).toNatClampNeg (q3.1 - q3.1 / (10 : Int32) * (10 : Int32))) (fun (s5 : ab_F) => (some s5))))))
set_option maxRecDepth 100000 in
set_option maxHeartbeats 4000000 in
theorem e_X9_drawSpring_38 {sc : Nat × (Nat → Int32)} {r : Option Nat × Option Nat} {σ : ab_F} {res : ab_F} (h : f_X9_drawSpring 38 σ = some res) : ab_E mX9_drawSpring 1 sc 0 [some (.ref 38)] [] (σ, r) (fun v S => v = none ∧ S = (res, r)) := by
  unfold f_X9_drawSpring at h
  refine z_aload_n (pc2 := 1) rfl dX9_drawSpring_0 rfl ?_
  refine z_aload_n (pc2 := 2) rfl dX9_drawSpring_1 rfl ?_
  obtain ⟨q1, hq1, h⟩ := ab_bnd h
  refine z_callVi 38 [] [some (.ref 38)] (pc2 := 5) rfl rfl dX9_drawSpring_2 ok_X9_draw ⟨fun _ => rfl, fun _ => Nat.le_of_ble_eq_true rfl⟩ rfl rv_38 wd_716 wd_718 wd_13 rfl (e_X9_draw_38 hq1) ?_
  refine z_bipush (pc2 := 7) rfl dX9_drawSpring_5 lt_b_16 ?_
  refine z_irem (pc2 := 8) rfl dX9_drawSpring_7 (by decide) ?_
  refine z_putI 38 9 4 (pc2 := 11) (ft := .int) rfl dX9_drawSpring_8 rfl rfl ff_9_4 wd_237 rfl (by decide +kernel) rfl rfl ?_
  obtain ⟨s2, hs2, h⟩ := ab_lt_e h
  refine z_tops hs2 ?_
  refine z_aload_n (pc2 := 12) rfl dX9_drawSpring_11 rfl ?_
  refine z_getR 38 9 10 43 (pc2 := 15) rfl dX9_drawSpring_12 rfl rfl ff_9_10 wd_248 rfl ?_
  refine z_aload_n (pc2 := 16) rfl dX9_drawSpring_15 rfl ?_
  refine z_getI 38 9 3 (pc2 := 19) rfl dX9_drawSpring_16 rfl rfl ff_9_3 wd_235 ?_
  refine z_bipush (pc2 := 21) rfl dX9_drawSpring_19 lt_b_6 ?_
  refine z_irem (pc2 := 22) rfl dX9_drawSpring_21 (by decide) ?_
  refine z_aload_n (pc2 := 23) rfl dX9_drawSpring_22 rfl ?_
  obtain ⟨q3, hq3, h⟩ := ab_bnd h
  refine z_callVi 38 [] [some (.ref 38)] (pc2 := 26) rfl rfl dX9_drawSpring_23 ok_X9_draw ⟨fun _ => rfl, fun _ => Nat.le_of_ble_eq_true rfl⟩ rfl rv_38 wd_716 wd_718 wd_13 rfl (e_X9_draw_38 hq3) ?_
  refine z_bipush (pc2 := 28) rfl dX9_drawSpring_26 lt_b_10 ?_
  refine z_irem (pc2 := 29) rfl dX9_drawSpring_28 (by decide) ?_
  obtain ⟨hb4, h⟩ := ab_ck_e h
  refine z_iast 43 (pc2 := 30) (j := (((s2 38 3) - (s2 38 3) / (6 : Int32) * (6 : Int32))).toNatClampNeg) rfl dX9_drawSpring_29 rfl rfl hb4 rfl ?_
  obtain ⟨s5, hs5, h⟩ := ab_lt_e h
  refine z_tops hs5 ?_
  exact z_vret dX9_drawSpring_30 rfl (fv_w h)
def f_X11_loose_L40 (p1 : Int32) (K : ab_F → Option (Int32 × ab_F)) : Nat → Int32 → ab_F → Option (Int32 × ab_F)
  | 0, _, _ => none
  | n + 1, u2, σ => (if p1 ≤ u2 then (K σ) else (f_X9_drawSpring 38 σ).bind (fun q6 => (f_X9_dayGoes 38 q6).bind (fun q7 => ab_lt (u2 + (1 : Int32)) (fun x8 => (f_X11_loose_L40 p1 K n x8 q7)))))
set_option maxRecDepth 100000 in
set_option maxHeartbeats 4000000 in
theorem e_X11_loose_L40 {sc : Nat × (Nat → Int32)} {r : Option Nat × Option Nat} {p1 : Int32} {K : ab_F → Option (Int32 × ab_F)} {res : (Int32 × ab_F)} (hK : ∀ (σ : ab_F), K σ = some res → ab_E mX11_loose 6 sc 65 [some (.ref 8), none, none] [] (σ, r) (fun v S => v = some (.int res.1) ∧ S = (res.2, r))) : ∀ (n : Nat) (u2 : Int32) (σ : ab_F), f_X11_loose_L40 p1 K n u2 σ = some res → ab_E mX11_loose 6 sc 40 [some (.ref 8), some (.int p1), some (.int u2)] [] (σ, r) (fun v S => v = some (.int res.1) ∧ S = (res.2, r)) := by
  intro n
  induction n with
  | zero =>
    intro u2 σ h
    rw [f_X11_loose_L40] at h
    cases h
  | succ n ih =>
    intro u2 σ h
    rw [f_X11_loose_L40] at h
    refine z_iload_n (pc2 := 41) rfl dX11_loose_40 rfl ?_
    refine z_iload_n (pc2 := 42) rfl dX11_loose_41 rfl ?_
    refine z_icmp_ge (pc2 := 45) (tgt := 65) rfl dX11_loose_42 (by decide) (fun hc5 => ?_) (fun hc5 => ?_)
    · replace h := ab_pos hc5 h
      refine z_fgt [true, false, false] (L2 := [some (.ref 8), none, none]) rfl ?_
      exact hK  _ h
    · replace h := ab_neg hc5 h
      refine z_aload_n (pc2 := 46) rfl dX11_loose_45 rfl ?_
      refine z_getR 8 11 0 38 (pc2 := 49) rfl dX11_loose_46 rfl rfl ff_11_0 wd_302 rfl ?_
      obtain ⟨q6, hq6, h⟩ := ab_bnd h
      refine z_callVv 38 [] [some (.ref 38)] (pc2 := 52) rfl rfl dX11_loose_49 ok_X9_drawSpring ⟨fun _ => rfl, fun _ => Nat.le_of_ble_eq_true rfl⟩ rfl rv_38 wd_712 wd_713 wd_714 rfl (e_X9_drawSpring_38 hq6) ?_
      refine z_aload_n (pc2 := 53) rfl dX11_loose_52 rfl ?_
      refine z_getR 8 11 0 38 (pc2 := 56) rfl dX11_loose_53 rfl rfl ff_11_0 wd_302 rfl ?_
      obtain ⟨q7, hq7, h⟩ := ab_bnd h
      refine z_callVv 38 [] [some (.ref 38), none] (pc2 := 59) rfl rfl dX11_loose_56 ok_X9_dayGoes ⟨fun _ => rfl, fun _ => Nat.le_of_ble_eq_true rfl⟩ rfl rv_38 wd_721 wd_676 wd_677 rfl (e_X9_dayGoes_38 hq7) ?_
      obtain ⟨x8, hxx8, h⟩ := ab_lt_e h
      refine z_iinc (pc2 := 62) (v := x8) (L2 := [some (.ref 8), some (.int p1), some (.int x8)]) rfl dX11_loose_59 rfl (by rw [hxx8]; rfl) (by decide) rfl rfl ?_
      refine ab_goto (tgt := 40) dX11_loose_62 (by decide) ?_
      refine z_fgt [true, true, true] (L2 := [some (.ref 8), some (.int p1), some (.int x8)]) rfl ?_
      exact ih _ _ h
def f_X11_loose (a1 : Int32) (σ : ab_F) : Option (Int32 × ab_F) := (if a1 < (1 : Int32) then (f_X11_refuse (1 : Int32) σ).bind (fun q2 => (some (q2.1, q2.2))) else (if a1 ≤ (30 : Int32) then (if ((σ 38 3) + a1) ≤ (9999 : Int32) then (f_X11_loose_L40 a1 (fun (s9 : ab_F) => (f_X9_known 38 s9).bind (fun q10 => (some (q10, s9)))) ab_fu (0 : Int32) σ) else (f_X11_refuse (3 : Int32) σ).bind (fun q11 => (some (q11.1, q11.2)))) else (f_X11_refuse (1 : Int32) σ).bind (fun q12 => (some (q12.1, q12.2)))))
set_option maxRecDepth 100000 in
set_option maxHeartbeats 4000000 in
theorem e_X11_loose {sc : Nat × (Nat → Int32)} {r : Option Nat × Option Nat} {a1 : Int32} {σ : ab_F} {res : (Int32 × ab_F)} (h : f_X11_loose a1 σ = some res) : ab_E mX11_loose 6 sc 0 [some (.ref 8), some (.int a1), none] [] (σ, r) (fun v S => v = some (.int res.1) ∧ S = (res.2, r)) := by
  unfold f_X11_loose at h
  refine z_iload_n (pc2 := 1) rfl dX11_loose_0 rfl ?_
  refine z_iconst (pc2 := 2) rfl dX11_loose_1 lt_i_1 ?_
  refine z_icmp_lt (pc2 := 5) (tgt := 11) rfl dX11_loose_2 (by decide) (fun hc1 => ?_) (fun hc1 => ?_)
  · replace h := ab_pos hc1 h
    refine z_aload_n (pc2 := 12) rfl dX11_loose_11 rfl ?_
    refine z_iconst (pc2 := 13) rfl dX11_loose_12 lt_i_1 ?_
    obtain ⟨q2, hq2, h⟩ := ab_bnd h
    refine z_callVi 8 [.int (1 : Int32)] [some (.ref 8), some (.int (1 : Int32))] (pc2 := 16) rfl rfl dX11_loose_13 ok_X11_refuse ⟨fun _ => rfl, fun _ => Nat.le_of_ble_eq_true rfl⟩ rfl rv_8 wd_346 wd_348 wd_0 rfl (e_X11_refuse hq2) ?_
    exact z_iret dX11_loose_16 rfl rfl (fi_w h)
  · replace h := ab_neg hc1 h
    refine z_iload_n (pc2 := 6) rfl dX11_loose_5 rfl ?_
    refine z_bipush (pc2 := 8) rfl dX11_loose_6 lt_b_30 ?_
    refine z_icmp_le (pc2 := 11) (tgt := 17) rfl dX11_loose_8 (by decide) (fun hc3 => ?_) (fun hc3 => ?_)
    · replace h := ab_pos hc3 h
      refine z_aload_n (pc2 := 18) rfl dX11_loose_17 rfl ?_
      refine z_getR 8 11 0 38 (pc2 := 21) rfl dX11_loose_18 rfl rfl ff_11_0 wd_302 rfl ?_
      refine z_getI 38 9 3 (pc2 := 24) rfl dX11_loose_21 rfl rfl ff_9_3 wd_236 ?_
      refine z_iload_n (pc2 := 25) rfl dX11_loose_24 rfl ?_
      refine z_iadd (pc2 := 26) rfl dX11_loose_25 ?_
      refine z_sipush (pc2 := 29) rfl dX11_loose_26 lt_s_9999 ?_
      refine z_icmp_le (pc2 := 32) (tgt := 38) rfl dX11_loose_29 (by decide) (fun hc4 => ?_) (fun hc4 => ?_)
      · replace h := ab_pos hc4 h
        refine z_iconst (pc2 := 39) rfl dX11_loose_38 lt_i_0 ?_
        refine z_istore_n (pc2 := 40) (L2 := [some (.ref 8), some (.int a1), some (.int (0 : Int32))]) rfl dX11_loose_39 (by decide) rfl rfl ?_
        refine z_fgt [true, true, true] (L2 := [some (.ref 8), some (.int a1), some (.int (0 : Int32))]) rfl ?_
        refine e_X11_loose_L40 (fun s9 h => ?_) _ _ _ h
        refine z_aload_n (pc2 := 66) rfl dX11_loose_65 rfl ?_
        refine z_getR 8 11 0 38 (pc2 := 69) rfl dX11_loose_66 rfl rfl ff_11_0 wd_302 rfl ?_
        obtain ⟨q10, hq10, h⟩ := ab_bnd h
        refine z_callVi 38 [] [some (.ref 38)] (pc2 := 72) rfl rfl dX11_loose_69 ok_X9_known ⟨fun _ => rfl, fun _ => Nat.le_of_ble_eq_true rfl⟩ rfl rv_38 wd_700 wd_701 wd_702 rfl (e_X9_known_38 hq10) ?_
        exact z_iret dX11_loose_72 rfl rfl (fi_w h)
      · replace h := ab_neg hc4 h
        refine z_aload_n (pc2 := 33) rfl dX11_loose_32 rfl ?_
        refine z_iconst (pc2 := 34) rfl dX11_loose_33 lt_i_3 ?_
        obtain ⟨q11, hq11, h⟩ := ab_bnd h
        refine z_callVi 8 [.int (3 : Int32)] [some (.ref 8), some (.int (3 : Int32))] (pc2 := 37) rfl rfl dX11_loose_34 ok_X11_refuse ⟨fun _ => rfl, fun _ => Nat.le_of_ble_eq_true rfl⟩ rfl rv_8 wd_346 wd_348 wd_0 rfl (e_X11_refuse hq11) ?_
        exact z_iret dX11_loose_37 rfl rfl (fi_w h)
    · replace h := ab_neg hc3 h
      refine z_aload_n (pc2 := 12) rfl dX11_loose_11 rfl ?_
      refine z_iconst (pc2 := 13) rfl dX11_loose_12 lt_i_1 ?_
      obtain ⟨q12, hq12, h⟩ := ab_bnd h
      refine z_callVi 8 [.int (1 : Int32)] [some (.ref 8), some (.int (1 : Int32))] (pc2 := 16) rfl rfl dX11_loose_13 ok_X11_refuse ⟨fun _ => rfl, fun _ => Nat.le_of_ble_eq_true rfl⟩ rfl rv_8 wd_346 wd_348 wd_0 rfl (e_X11_refuse hq12) ?_
      exact z_iret dX11_loose_16 rfl rfl (fi_w h)
def f_X11_day (a1 : Int32) (σ : ab_F) : Option (Int32 × ab_F) := (f_X11_outside a1 (9999 : Int32) σ).bind (fun q1 => (if (ab_b q1) = 0 then ab_lt ((σ 38 3)) (fun x3 => ab_lt (ab_u σ 38 3 a1) (fun (s4 : ab_F) => (some (x3, s4)))) else (f_X11_refuse (1 : Int32) σ).bind (fun q5 => (some (q5.1, q5.2)))))
set_option maxRecDepth 100000 in
set_option maxHeartbeats 4000000 in
theorem e_X11_day {sc : Nat × (Nat → Int32)} {r : Option Nat × Option Nat} {a1 : Int32} {σ : ab_F} {res : (Int32 × ab_F)} (h : f_X11_day a1 σ = some res) : ab_E mX11_day 1 sc 0 [some (.ref 8), some (.int a1), none] [] (σ, r) (fun v S => v = some (.int res.1) ∧ S = (res.2, r)) := by
  unfold f_X11_day at h
  refine z_iload_n (pc2 := 1) rfl dX11_day_0 rfl ?_
  refine z_sipush (pc2 := 4) rfl dX11_day_1 lt_s_9999 ?_
  obtain ⟨q1, hq1, h⟩ := ab_bnd h
  refine z_callSi [.int a1, .int (9999 : Int32)] [some (.int a1), some (.int (9999 : Int32))] (pc2 := 7) rfl rfl dX11_day_4 ok_X11_outside ⟨fun _ => rfl, fun _ => Nat.le_of_ble_eq_true rfl⟩ rfl wd_343 wd_344 rfl (e_X11_outside hq1) ?_
  refine z_if_eq (pc2 := 10) (tgt := 16) rfl dX11_day_7 (by decide) (fun hc2 => ?_) (fun hc2 => ?_)
  · replace h := ab_pos hc2 h
    refine z_aload_n (pc2 := 17) rfl dX11_day_16 rfl ?_
    refine z_getR 8 11 0 38 (pc2 := 20) rfl dX11_day_17 rfl rfl ff_11_0 wd_302 rfl ?_
    refine z_getI 38 9 3 (pc2 := 23) rfl dX11_day_20 rfl rfl ff_9_3 wd_236 ?_
    obtain ⟨x3, hxx3, h⟩ := ab_lt_e h
    refine z_top hxx3 ?_
    refine z_istore_n (pc2 := 24) (L2 := [some (.ref 8), some (.int a1), some (.int x3)]) rfl dX11_day_23 (by decide) rfl rfl ?_
    refine z_aload_n (pc2 := 25) rfl dX11_day_24 rfl ?_
    refine z_getR 8 11 0 38 (pc2 := 28) rfl dX11_day_25 rfl rfl ff_11_0 wd_302 rfl ?_
    refine z_iload_n (pc2 := 29) rfl dX11_day_28 rfl ?_
    refine z_putI 38 9 3 (pc2 := 32) (ft := .int) rfl dX11_day_29 rfl rfl ff_9_3 wd_236 rfl (by decide +kernel) rfl rfl ?_
    obtain ⟨s4, hs4, h⟩ := ab_lt_e h
    refine z_tops hs4 ?_
    refine z_iload_n (pc2 := 33) rfl dX11_day_32 rfl ?_
    exact z_iret dX11_day_33 rfl rfl (fi_w h)
  · replace h := ab_neg hc2 h
    refine z_aload_n (pc2 := 11) rfl dX11_day_10 rfl ?_
    refine z_iconst (pc2 := 12) rfl dX11_day_11 lt_i_1 ?_
    obtain ⟨q5, hq5, h⟩ := ab_bnd h
    refine z_callVi 8 [.int (1 : Int32)] [some (.ref 8), some (.int (1 : Int32))] (pc2 := 15) rfl rfl dX11_day_12 ok_X11_refuse ⟨fun _ => rfl, fun _ => Nat.le_of_ble_eq_true rfl⟩ rfl rv_8 wd_346 wd_348 wd_0 rfl (e_X11_refuse hq5) ?_
    exact z_iret dX11_day_15 rfl rfl (fi_w h)
def f_X11_seed (a1 : Int32) (σ : ab_F) : Option (Int32 × ab_F) := ab_lt ((σ 38 5)) (fun x1 => ab_lt (ab_u σ 38 5 a1) (fun (s2 : ab_F) => (some (x1, s2))))
set_option maxRecDepth 100000 in
set_option maxHeartbeats 4000000 in
theorem e_X11_seed {sc : Nat × (Nat → Int32)} {r : Option Nat × Option Nat} {a1 : Int32} {σ : ab_F} {res : (Int32 × ab_F)} (h : f_X11_seed a1 σ = some res) : ab_E mX11_seed 0 sc 0 [some (.ref 8), some (.int a1), none] [] (σ, r) (fun v S => v = some (.int res.1) ∧ S = (res.2, r)) := by
  unfold f_X11_seed at h
  refine z_aload_n (pc2 := 1) rfl dX11_seed_0 rfl ?_
  refine z_getR 8 11 0 38 (pc2 := 4) rfl dX11_seed_1 rfl rfl ff_11_0 wd_302 rfl ?_
  refine z_getI 38 9 5 (pc2 := 7) rfl dX11_seed_4 rfl rfl ff_9_5 wd_240 ?_
  obtain ⟨x1, hxx1, h⟩ := ab_lt_e h
  refine z_top hxx1 ?_
  refine z_istore_n (pc2 := 8) (L2 := [some (.ref 8), some (.int a1), some (.int x1)]) rfl dX11_seed_7 (by decide) rfl rfl ?_
  refine z_aload_n (pc2 := 9) rfl dX11_seed_8 rfl ?_
  refine z_getR 8 11 0 38 (pc2 := 12) rfl dX11_seed_9 rfl rfl ff_11_0 wd_302 rfl ?_
  refine z_iload_n (pc2 := 13) rfl dX11_seed_12 rfl ?_
  refine z_putI 38 9 5 (pc2 := 16) (ft := .int) rfl dX11_seed_13 rfl rfl ff_9_5 wd_240 rfl (by decide +kernel) rfl rfl ?_
  obtain ⟨s2, hs2, h⟩ := ab_lt_e h
  refine z_tops hs2 ?_
  refine z_iload_n (pc2 := 17) rfl dX11_seed_16 rfl ?_
  exact z_iret dX11_seed_17 rfl rfl (fi_w h)
def f_X9_copyFrom_49_38 (σ : ab_F) : Option ab_F := ab_lt (ab_u σ 49 3 (σ 38 3)) (fun (s1 : ab_F) => ab_lt (ab_u s1 49 4 (s1 38 4)) (fun (s2 : ab_F) => ab_lt (ab_u s2 49 5 (s2 38 5)) (fun (s3 : ab_F) => ab_lt (ab_u s3 49 11 (s3 38 11)) (fun (s4 : ab_F) => ab_ck (ab_cp (0 : Int32) (0 : Int32) (16 : Int32) 16 16) (ab_lt (ab_r s4 50 (va_cpy (s4 39) (s4 50) ((0 : Int32)).toNatClampNeg ((0 : Int32)).toNatClampNeg ((16 : Int32)).toNatClampNeg)) (fun (s6 : ab_F) => ab_ck (ab_cp (0 : Int32) (0 : Int32) (16 : Int32) 16 16) (ab_lt (ab_r s6 51 (va_cpy (s6 40) (s6 51) ((0 : Int32)).toNatClampNeg ((0 : Int32)).toNatClampNeg ((16 : Int32)).toNatClampNeg)) (fun (s8 : ab_F) => ab_ck (ab_cp (0 : Int32) (0 : Int32) (16 : Int32) 16 16) (ab_lt (ab_r s8 52 (va_cpy (s8 41) (s8 52) ((0 : Int32)).toNatClampNeg ((0 : Int32)).toNatClampNeg ((16 : Int32)).toNatClampNeg)) (fun (s10 : ab_F) => ab_ck (ab_cp (0 : Int32) (0 : Int32) (16 : Int32) 16 16) (ab_lt (ab_r s10 53 (va_cpy (s10 42) (s10 53) ((0 : Int32)).toNatClampNeg ((0 : Int32)).toNatClampNeg ((16 : Int32)).toNatClampNeg)) (fun (s12 : ab_F) => ab_ck (ab_cp (0 : Int32) (0 : Int32) (6 : Int32) 6 6) (ab_lt (ab_r s12 54 (va_cpy (s12 43) (s12 54) ((0 : Int32)).toNatClampNeg ((0 : Int32)).toNatClampNeg ((6 : Int32)).toNatClampNeg)) (fun (s14 : ab_F) => ab_ck (ab_cp (0 : Int32) (0 : Int32) (8 : Int32) 8 8) (ab_lt (ab_r s14 55 (va_cpy (s14 44) (s14 55) ((0 : Int32)).toNatClampNeg ((0 : Int32)).toNatClampNeg ((8 : Int32)).toNatClampNeg)) (fun (s16 : ab_F) => ab_ck (ab_cp (0 : Int32) (0 : Int32) (8 : Int32) 8 8) (ab_lt (ab_r s16 56 (va_cpy (s16 45) (s16 56) ((0 : Int32)).toNatClampNeg ((0 : Int32)).toNatClampNeg ((8 : Int32)).toNatClampNeg)) (fun (s18 : ab_F) => ab_ck (ab_cp (0 : Int32) (0 : Int32) (8 : Int32) 8 8) (ab_lt (ab_r s18 57 (va_cpy (s18 46) (s18 57) ((0 : Int32)).toNatClampNeg ((0 : Int32)).toNatClampNeg ((8 : Int32)).toNatClampNeg)) (fun (s20 : ab_F) => ab_ck (ab_cp (0 : Int32) (0 : Int32) (8 : Int32) 8 8) (ab_lt (ab_r s20 58 (va_cpy (s20 47) (s20 58) ((0 : Int32)).toNatClampNeg ((0 : Int32)).toNatClampNeg ((8 : Int32)).toNatClampNeg)) (fun (s22 : ab_F) => ab_ck (ab_cp (0 : Int32) (0 : Int32) (8 : Int32) 8 8) (ab_lt (ab_r s22 59 (va_cpy (s22 48) (s22 59) ((0 : Int32)).toNatClampNeg ((0 : Int32)).toNatClampNeg ((8 : Int32)).toNatClampNeg)) (fun (s24 : ab_F) => (some s24)))))))))))))))))))))))))
set_option maxRecDepth 100000 in
set_option maxHeartbeats 4000000 in
theorem e_X9_copyFrom_49_38 {sc : Nat × (Nat → Int32)} {r : Option Nat × Option Nat} {σ : ab_F} {res : ab_F} (h : f_X9_copyFrom_49_38 σ = some res) : ab_E mX9_copyFrom 1 sc 0 [some (.ref 49), some (.ref 38)] [] (σ, r) (fun v S => v = none ∧ S = (res, r)) := by
  unfold f_X9_copyFrom_49_38 at h
  refine z_aload_n (pc2 := 1) rfl dX9_copyFrom_0 rfl ?_
  refine z_aload_n (pc2 := 2) rfl dX9_copyFrom_1 rfl ?_
  refine z_getI 38 9 3 (pc2 := 5) rfl dX9_copyFrom_2 rfl rfl ff_9_3 wd_235 ?_
  refine z_putI 49 9 3 (pc2 := 8) (ft := .int) rfl dX9_copyFrom_5 rfl rfl ff_9_3 wd_235 rfl (by decide +kernel) rfl rfl ?_
  obtain ⟨s1, hs1, h⟩ := ab_lt_e h
  refine z_tops hs1 ?_
  refine z_aload_n (pc2 := 9) rfl dX9_copyFrom_8 rfl ?_
  refine z_aload_n (pc2 := 10) rfl dX9_copyFrom_9 rfl ?_
  refine z_getI 38 9 4 (pc2 := 13) rfl dX9_copyFrom_10 rfl rfl ff_9_4 wd_237 ?_
  refine z_putI 49 9 4 (pc2 := 16) (ft := .int) rfl dX9_copyFrom_13 rfl rfl ff_9_4 wd_237 rfl (by decide +kernel) rfl rfl ?_
  obtain ⟨s2, hs2, h⟩ := ab_lt_e h
  refine z_tops hs2 ?_
  refine z_aload_n (pc2 := 17) rfl dX9_copyFrom_16 rfl ?_
  refine z_aload_n (pc2 := 18) rfl dX9_copyFrom_17 rfl ?_
  refine z_getI 38 9 5 (pc2 := 21) rfl dX9_copyFrom_18 rfl rfl ff_9_5 wd_239 ?_
  refine z_putI 49 9 5 (pc2 := 24) (ft := .int) rfl dX9_copyFrom_21 rfl rfl ff_9_5 wd_239 rfl (by decide +kernel) rfl rfl ?_
  obtain ⟨s3, hs3, h⟩ := ab_lt_e h
  refine z_tops hs3 ?_
  refine z_aload_n (pc2 := 25) rfl dX9_copyFrom_24 rfl ?_
  refine z_aload_n (pc2 := 26) rfl dX9_copyFrom_25 rfl ?_
  refine z_getI 38 9 11 (pc2 := 29) rfl dX9_copyFrom_26 rfl rfl ff_9_11 wd_250 ?_
  refine z_putI 49 9 11 (pc2 := 32) (ft := .int) rfl dX9_copyFrom_29 rfl rfl ff_9_11 wd_250 rfl (by decide +kernel) rfl rfl ?_
  obtain ⟨s4, hs4, h⟩ := ab_lt_e h
  refine z_tops hs4 ?_
  refine z_aload_n (pc2 := 33) rfl dX9_copyFrom_32 rfl ?_
  refine z_getR 38 9 6 39 (pc2 := 36) rfl dX9_copyFrom_33 rfl rfl ff_9_6 wd_241 rfl ?_
  refine z_iconst (pc2 := 37) rfl dX9_copyFrom_36 lt_i_0 ?_
  refine z_aload_n (pc2 := 38) rfl dX9_copyFrom_37 rfl ?_
  refine z_getR 49 9 6 50 (pc2 := 41) rfl dX9_copyFrom_38 rfl rfl ff_9_6 wd_241 rfl ?_
  refine z_iconst (pc2 := 42) rfl dX9_copyFrom_41 lt_i_0 ?_
  refine z_bipush (pc2 := 44) rfl dX9_copyFrom_42 lt_b_16 ?_
  obtain ⟨hb5, h⟩ := ab_ck_e h
  refine z_acopy 39 50 (pc2 := 47) rfl dX9_copyFrom_44 rfl rfl rfl rfl wd_738 wd_655 wd_654 wd_82 hb5 rfl rfl ?_
  obtain ⟨s6, hs6, h⟩ := ab_lt_e h
  refine z_tops hs6 ?_
  refine z_aload_n (pc2 := 48) rfl dX9_copyFrom_47 rfl ?_
  refine z_getR 38 9 7 40 (pc2 := 51) rfl dX9_copyFrom_48 rfl rfl ff_9_7 wd_243 rfl ?_
  refine z_iconst (pc2 := 52) rfl dX9_copyFrom_51 lt_i_0 ?_
  refine z_aload_n (pc2 := 53) rfl dX9_copyFrom_52 rfl ?_
  refine z_getR 49 9 7 51 (pc2 := 56) rfl dX9_copyFrom_53 rfl rfl ff_9_7 wd_243 rfl ?_
  refine z_iconst (pc2 := 57) rfl dX9_copyFrom_56 lt_i_0 ?_
  refine z_bipush (pc2 := 59) rfl dX9_copyFrom_57 lt_b_16 ?_
  obtain ⟨hb7, h⟩ := ab_ck_e h
  refine z_acopy 40 51 (pc2 := 62) rfl dX9_copyFrom_59 rfl rfl rfl rfl wd_738 wd_655 wd_654 wd_82 hb7 rfl rfl ?_
  obtain ⟨s8, hs8, h⟩ := ab_lt_e h
  refine z_tops hs8 ?_
  refine z_aload_n (pc2 := 63) rfl dX9_copyFrom_62 rfl ?_
  refine z_getR 38 9 8 41 (pc2 := 66) rfl dX9_copyFrom_63 rfl rfl ff_9_8 wd_245 rfl ?_
  refine z_iconst (pc2 := 67) rfl dX9_copyFrom_66 lt_i_0 ?_
  refine z_aload_n (pc2 := 68) rfl dX9_copyFrom_67 rfl ?_
  refine z_getR 49 9 8 52 (pc2 := 71) rfl dX9_copyFrom_68 rfl rfl ff_9_8 wd_245 rfl ?_
  refine z_iconst (pc2 := 72) rfl dX9_copyFrom_71 lt_i_0 ?_
  refine z_bipush (pc2 := 74) rfl dX9_copyFrom_72 lt_b_16 ?_
  obtain ⟨hb9, h⟩ := ab_ck_e h
  refine z_acopy 41 52 (pc2 := 77) rfl dX9_copyFrom_74 rfl rfl rfl rfl wd_738 wd_655 wd_654 wd_82 hb9 rfl rfl ?_
  obtain ⟨s10, hs10, h⟩ := ab_lt_e h
  refine z_tops hs10 ?_
  refine z_aload_n (pc2 := 78) rfl dX9_copyFrom_77 rfl ?_
  refine z_getR 38 9 9 42 (pc2 := 81) rfl dX9_copyFrom_78 rfl rfl ff_9_9 wd_247 rfl ?_
  refine z_iconst (pc2 := 82) rfl dX9_copyFrom_81 lt_i_0 ?_
  refine z_aload_n (pc2 := 83) rfl dX9_copyFrom_82 rfl ?_
  refine z_getR 49 9 9 53 (pc2 := 86) rfl dX9_copyFrom_83 rfl rfl ff_9_9 wd_247 rfl ?_
  refine z_iconst (pc2 := 87) rfl dX9_copyFrom_86 lt_i_0 ?_
  refine z_bipush (pc2 := 89) rfl dX9_copyFrom_87 lt_b_16 ?_
  obtain ⟨hb11, h⟩ := ab_ck_e h
  refine z_acopy 42 53 (pc2 := 92) rfl dX9_copyFrom_89 rfl rfl rfl rfl wd_738 wd_655 wd_654 wd_82 hb11 rfl rfl ?_
  obtain ⟨s12, hs12, h⟩ := ab_lt_e h
  refine z_tops hs12 ?_
  refine z_aload_n (pc2 := 93) rfl dX9_copyFrom_92 rfl ?_
  refine z_getR 38 9 10 43 (pc2 := 96) rfl dX9_copyFrom_93 rfl rfl ff_9_10 wd_248 rfl ?_
  refine z_iconst (pc2 := 97) rfl dX9_copyFrom_96 lt_i_0 ?_
  refine z_aload_n (pc2 := 98) rfl dX9_copyFrom_97 rfl ?_
  refine z_getR 49 9 10 54 (pc2 := 101) rfl dX9_copyFrom_98 rfl rfl ff_9_10 wd_248 rfl ?_
  refine z_iconst (pc2 := 102) rfl dX9_copyFrom_101 lt_i_0 ?_
  refine z_bipush (pc2 := 104) rfl dX9_copyFrom_102 lt_b_6 ?_
  obtain ⟨hb13, h⟩ := ab_ck_e h
  refine z_acopy 43 54 (pc2 := 107) rfl dX9_copyFrom_104 rfl rfl rfl rfl wd_738 wd_655 wd_654 wd_82 hb13 rfl rfl ?_
  obtain ⟨s14, hs14, h⟩ := ab_lt_e h
  refine z_tops hs14 ?_
  refine z_aload_n (pc2 := 108) rfl dX9_copyFrom_107 rfl ?_
  refine z_getR 38 9 12 44 (pc2 := 111) rfl dX9_copyFrom_108 rfl rfl ff_9_12 wd_252 rfl ?_
  refine z_iconst (pc2 := 112) rfl dX9_copyFrom_111 lt_i_0 ?_
  refine z_aload_n (pc2 := 113) rfl dX9_copyFrom_112 rfl ?_
  refine z_getR 49 9 12 55 (pc2 := 116) rfl dX9_copyFrom_113 rfl rfl ff_9_12 wd_252 rfl ?_
  refine z_iconst (pc2 := 117) rfl dX9_copyFrom_116 lt_i_0 ?_
  refine z_bipush (pc2 := 119) rfl dX9_copyFrom_117 lt_b_8 ?_
  obtain ⟨hb15, h⟩ := ab_ck_e h
  refine z_acopy 44 55 (pc2 := 122) rfl dX9_copyFrom_119 rfl rfl rfl rfl wd_738 wd_655 wd_654 wd_82 hb15 rfl rfl ?_
  obtain ⟨s16, hs16, h⟩ := ab_lt_e h
  refine z_tops hs16 ?_
  refine z_aload_n (pc2 := 123) rfl dX9_copyFrom_122 rfl ?_
  refine z_getR 38 9 13 45 (pc2 := 126) rfl dX9_copyFrom_123 rfl rfl ff_9_13 wd_254 rfl ?_
  refine z_iconst (pc2 := 127) rfl dX9_copyFrom_126 lt_i_0 ?_
  refine z_aload_n (pc2 := 128) rfl dX9_copyFrom_127 rfl ?_
  refine z_getR 49 9 13 56 (pc2 := 131) rfl dX9_copyFrom_128 rfl rfl ff_9_13 wd_254 rfl ?_
  refine z_iconst (pc2 := 132) rfl dX9_copyFrom_131 lt_i_0 ?_
  refine z_bipush (pc2 := 134) rfl dX9_copyFrom_132 lt_b_8 ?_
  obtain ⟨hb17, h⟩ := ab_ck_e h
  refine z_acopy 45 56 (pc2 := 137) rfl dX9_copyFrom_134 rfl rfl rfl rfl wd_738 wd_655 wd_654 wd_82 hb17 rfl rfl ?_
  obtain ⟨s18, hs18, h⟩ := ab_lt_e h
  refine z_tops hs18 ?_
  refine z_aload_n (pc2 := 138) rfl dX9_copyFrom_137 rfl ?_
  refine z_getR 38 9 14 46 (pc2 := 141) rfl dX9_copyFrom_138 rfl rfl ff_9_14 wd_259 rfl ?_
  refine z_iconst (pc2 := 142) rfl dX9_copyFrom_141 lt_i_0 ?_
  refine z_aload_n (pc2 := 143) rfl dX9_copyFrom_142 rfl ?_
  refine z_getR 49 9 14 57 (pc2 := 146) rfl dX9_copyFrom_143 rfl rfl ff_9_14 wd_259 rfl ?_
  refine z_iconst (pc2 := 147) rfl dX9_copyFrom_146 lt_i_0 ?_
  refine z_bipush (pc2 := 149) rfl dX9_copyFrom_147 lt_b_8 ?_
  obtain ⟨hb19, h⟩ := ab_ck_e h
  refine z_acopy 46 57 (pc2 := 152) rfl dX9_copyFrom_149 rfl rfl rfl rfl wd_738 wd_655 wd_654 wd_82 hb19 rfl rfl ?_
  obtain ⟨s20, hs20, h⟩ := ab_lt_e h
  refine z_tops hs20 ?_
  refine z_aload_n (pc2 := 153) rfl dX9_copyFrom_152 rfl ?_
  refine z_getR 38 9 15 47 (pc2 := 156) rfl dX9_copyFrom_153 rfl rfl ff_9_15 wd_261 rfl ?_
  refine z_iconst (pc2 := 157) rfl dX9_copyFrom_156 lt_i_0 ?_
  refine z_aload_n (pc2 := 158) rfl dX9_copyFrom_157 rfl ?_
  refine z_getR 49 9 15 58 (pc2 := 161) rfl dX9_copyFrom_158 rfl rfl ff_9_15 wd_261 rfl ?_
  refine z_iconst (pc2 := 162) rfl dX9_copyFrom_161 lt_i_0 ?_
  refine z_bipush (pc2 := 164) rfl dX9_copyFrom_162 lt_b_8 ?_
  obtain ⟨hb21, h⟩ := ab_ck_e h
  refine z_acopy 47 58 (pc2 := 167) rfl dX9_copyFrom_164 rfl rfl rfl rfl wd_738 wd_655 wd_654 wd_82 hb21 rfl rfl ?_
  obtain ⟨s22, hs22, h⟩ := ab_lt_e h
  refine z_tops hs22 ?_
  refine z_aload_n (pc2 := 168) rfl dX9_copyFrom_167 rfl ?_
  refine z_getR 38 9 16 48 (pc2 := 171) rfl dX9_copyFrom_168 rfl rfl ff_9_16 wd_263 rfl ?_
  refine z_iconst (pc2 := 172) rfl dX9_copyFrom_171 lt_i_0 ?_
  refine z_aload_n (pc2 := 173) rfl dX9_copyFrom_172 rfl ?_
  refine z_getR 49 9 16 59 (pc2 := 176) rfl dX9_copyFrom_173 rfl rfl ff_9_16 wd_263 rfl ?_
  refine z_iconst (pc2 := 177) rfl dX9_copyFrom_176 lt_i_0 ?_
  refine z_bipush (pc2 := 179) rfl dX9_copyFrom_177 lt_b_8 ?_
  obtain ⟨hb23, h⟩ := ab_ck_e h
  refine z_acopy 48 59 (pc2 := 182) rfl dX9_copyFrom_179 rfl rfl rfl rfl wd_738 wd_655 wd_654 wd_82 hb23 rfl rfl ?_
  obtain ⟨s24, hs24, h⟩ := ab_lt_e h
  refine z_tops hs24 ?_
  exact z_vret dX9_copyFrom_182 rfl (fv_w h)
set_option maxRecDepth 100000 in
set_option maxHeartbeats 4000000 in
theorem e_X9_level_49 {sc : Nat × (Nat → Int32)} {r : Option Nat × Option Nat} {a1 : Int32} {σ : ab_F} {res : Int32} (h : f_X9_level 49 a1 σ = some res) : ab_E mX9_level 0 sc 0 [some (.ref 49), some (.int a1)] [] (σ, r) (fun v S => v = some (.int res) ∧ S = (σ, r)) := by
  unfold f_X9_level at h
  refine z_aload_n (pc2 := 1) rfl dX9_level_0 rfl ?_
  refine z_getR 49 9 6 50 (pc2 := 4) rfl dX9_level_1 rfl rfl ff_9_6 wd_241 rfl ?_
  refine z_iload_n (pc2 := 5) rfl dX9_level_4 rfl ?_
  obtain ⟨hb1, h⟩ := ab_ck_e h
  refine z_iald 50 (pc2 := 6) (j := (a1).toNatClampNeg) rfl dX9_level_5 rfl rfl hb1 rfl ?_
  refine z_aload_n (pc2 := 7) rfl dX9_level_6 rfl ?_
  refine z_getR 49 9 7 51 (pc2 := 10) rfl dX9_level_7 rfl rfl ff_9_7 wd_243 rfl ?_
  refine z_iload_n (pc2 := 11) rfl dX9_level_10 rfl ?_
  obtain ⟨hb2, h⟩ := ab_ck_e h
  refine z_iald 51 (pc2 := 12) (j := (a1).toNatClampNeg) rfl dX9_level_11 rfl rfl hb2 rfl ?_
  refine z_iadd (pc2 := 13) rfl dX9_level_12 ?_
  exact z_iret dX9_level_13 rfl rfl (fi_p h)
set_option maxRecDepth 100000 in
set_option maxHeartbeats 4000000 in
theorem e_X9_flowFrom_49_L9 {sc : Nat × (Nat → Int32)} {r : Option Nat × Option Nat} {p1 : Int32} {σ : ab_F} {K : Int32 → Int32 → Option ab_F} {res : ab_F} (hK : ∀ (u2 : Int32) (u3 : Int32), K u2 u3 = some res → ab_E mX9_flowFrom 1 sc 81 [some (.ref 49), some (.int p1), some (.int u2), some (.int u3), none, none, none] [] (σ, r) (fun v S => v = none ∧ S = (res, r))) : ∀ (n : Nat) (u2 : Int32) (u3 : Int32) (u4 : Int32), f_X9_flowFrom_L9 49 p1 σ K n u2 u3 u4 = some res → ab_E mX9_flowFrom 1 sc 9 [some (.ref 49), some (.int p1), some (.int u2), some (.int u3), some (.int u4), none, none] [] (σ, r) (fun v S => v = none ∧ S = (res, r)) := by
  intro n
  induction n with
  | zero =>
    intro u2 u3 u4 h
    rw [f_X9_flowFrom_L9] at h
    cases h
  | succ n ih =>
    intro u2 u3 u4 h
    rw [f_X9_flowFrom_L9] at h
    refine z_iload (pc2 := 11) rfl dX9_flowFrom_9 rfl ?_
    refine z_iconst (pc2 := 12) rfl dX9_flowFrom_11 lt_i_4 ?_
    refine z_iload_n (pc2 := 13) rfl dX9_flowFrom_12 rfl ?_
    refine z_imul (pc2 := 14) rfl dX9_flowFrom_13 ?_
    refine z_iconst (pc2 := 15) rfl dX9_flowFrom_14 lt_i_4 ?_
    refine z_iadd (pc2 := 16) rfl dX9_flowFrom_15 ?_
    refine z_icmp_ge (pc2 := 19) (tgt := 81) rfl dX9_flowFrom_16 (by decide) (fun hc2 => ?_) (fun hc2 => ?_)
    · replace h := ab_pos hc2 h
      refine z_fgt [true, true, true, true, false, false, false] (L2 := [some (.ref 49), some (.int p1), some (.int u2), some (.int u3), none, none, none]) rfl ?_
      exact hK _ _ h
    · replace h := ab_neg hc2 h
      refine z_getsB (pc2 := 22) rfl rfl dX9_flowFrom_19 ?_
      refine z_iload (pc2 := 24) rfl dX9_flowFrom_22 rfl ?_
      obtain ⟨hb3, h⟩ := ab_ck_e h
      refine z_tald (1, 64) (pc2 := 25) rfl dX9_flowFrom_24 (by decide) hb3 ?_
      obtain ⟨x4, hxx4, h⟩ := ab_lt_e h
      refine z_top hxx4 ?_
      refine z_istore (pc2 := 27) (L2 := [some (.ref 49), some (.int p1), some (.int u2), some (.int u3), some (.int u4), some (.int x4), none]) rfl dX9_flowFrom_25 (by decide) rfl rfl ?_
      refine z_iload (pc2 := 29) rfl dX9_flowFrom_27 rfl ?_
      refine z_if_lt (pc2 := 32) (tgt := 75) rfl dX9_flowFrom_29 (by decide) (fun hc5 => ?_) (fun hc5 => ?_)
      · replace h := ab_pos hc5 h
        obtain ⟨x6, hxx6, h⟩ := ab_lt_e h
        refine z_iinc (pc2 := 78) (v := x6) (L2 := [some (.ref 49), some (.int p1), some (.int u2), some (.int u3), some (.int x6), some (.int x4), none]) rfl dX9_flowFrom_75 rfl (by rw [hxx6]; rfl) (by decide) rfl rfl ?_
        refine ab_goto (tgt := 9) dX9_flowFrom_78 (by decide) ?_
        refine z_fgt [true, true, true, true, true, false, false] (L2 := [some (.ref 49), some (.int p1), some (.int u2), some (.int u3), some (.int x6), none, none]) rfl ?_
        exact ih _ _ _ h
      · replace h := ab_neg hc5 h
        refine z_aload_n (pc2 := 33) rfl dX9_flowFrom_32 rfl ?_
        refine z_getR 49 9 8 52 (pc2 := 36) rfl dX9_flowFrom_33 rfl rfl ff_9_8 wd_245 rfl ?_
        refine z_iload (pc2 := 38) rfl dX9_flowFrom_36 rfl ?_
        obtain ⟨hb7, h⟩ := ab_ck_e h
        refine z_iald 52 (pc2 := 39) (j := (x4).toNatClampNeg) rfl dX9_flowFrom_38 rfl rfl hb7 rfl ?_
        refine z_if_ne (pc2 := 42) (tgt := 75) rfl dX9_flowFrom_39 (by decide) (fun hc8 => ?_) (fun hc8 => ?_)
        · replace h := ab_neg hc8 h
          obtain ⟨x9, hxx9, h⟩ := ab_lt_e h
          refine z_iinc (pc2 := 78) (v := x9) (L2 := [some (.ref 49), some (.int p1), some (.int u2), some (.int u3), some (.int x9), some (.int x4), none]) rfl dX9_flowFrom_75 rfl (by rw [hxx9]; rfl) (by decide) rfl rfl ?_
          refine ab_goto (tgt := 9) dX9_flowFrom_78 (by decide) ?_
          refine z_fgt [true, true, true, true, true, false, false] (L2 := [some (.ref 49), some (.int p1), some (.int u2), some (.int u3), some (.int x9), none, none]) rfl ?_
          exact ih _ _ _ h
        · replace h := ab_pos hc8 h
          refine z_aload_n (pc2 := 43) rfl dX9_flowFrom_42 rfl ?_
          refine z_getR 49 9 6 50 (pc2 := 46) rfl dX9_flowFrom_43 rfl rfl ff_9_6 wd_241 rfl ?_
          refine z_iload (pc2 := 48) rfl dX9_flowFrom_46 rfl ?_
          obtain ⟨hb10, h⟩ := ab_ck_e h
          refine z_iald 50 (pc2 := 49) (j := (x4).toNatClampNeg) rfl dX9_flowFrom_48 rfl rfl hb10 rfl ?_
          refine z_aload_n (pc2 := 50) rfl dX9_flowFrom_49 rfl ?_
          refine z_getR 49 9 7 51 (pc2 := 53) rfl dX9_flowFrom_50 rfl rfl ff_9_7 wd_243 rfl ?_
          refine z_iload (pc2 := 55) rfl dX9_flowFrom_53 rfl ?_
          obtain ⟨hb11, h⟩ := ab_ck_e h
          refine z_iald 51 (pc2 := 56) (j := (x4).toNatClampNeg) rfl dX9_flowFrom_55 rfl rfl hb11 rfl ?_
          refine z_iadd (pc2 := 57) rfl dX9_flowFrom_56 ?_
          obtain ⟨x12, hxx12, h⟩ := ab_lt_e h
          refine z_top hxx12 ?_
          refine z_istore (pc2 := 59) (L2 := [some (.ref 49), some (.int p1), some (.int u2), some (.int u3), some (.int u4), some (.int x4), some (.int x12)]) rfl dX9_flowFrom_57 (by decide) rfl rfl ?_
          refine z_iload_n (pc2 := 60) rfl dX9_flowFrom_59 rfl ?_
          refine z_if_lt (pc2 := 63) (tgt := 69) rfl dX9_flowFrom_60 (by decide) (fun hc13 => ?_) (fun hc13 => ?_)
          · replace h := ab_pos hc13 h
            refine z_iload (pc2 := 71) rfl dX9_flowFrom_69 rfl ?_
            refine z_istore_n (pc2 := 72) (L2 := [some (.ref 49), some (.int p1), some (.int x4), some (.int u3), some (.int u4), some (.int x4), some (.int x12)]) rfl dX9_flowFrom_71 (by decide) rfl rfl ?_
            refine z_iload (pc2 := 74) rfl dX9_flowFrom_72 rfl ?_
            refine z_istore_n (pc2 := 75) (L2 := [some (.ref 49), some (.int p1), some (.int x4), some (.int x12), some (.int u4), some (.int x4), some (.int x12)]) rfl dX9_flowFrom_74 (by decide) rfl rfl ?_
            obtain ⟨x14, hxx14, h⟩ := ab_lt_e h
            refine z_iinc (pc2 := 78) (v := x14) (L2 := [some (.ref 49), some (.int p1), some (.int x4), some (.int x12), some (.int x14), some (.int x4), some (.int x12)]) rfl dX9_flowFrom_75 rfl (by rw [hxx14]; rfl) (by decide) rfl rfl ?_
            refine ab_goto (tgt := 9) dX9_flowFrom_78 (by decide) ?_
            refine z_fgt [true, true, true, true, true, false, false] (L2 := [some (.ref 49), some (.int p1), some (.int x4), some (.int x12), some (.int x14), none, none]) rfl ?_
            exact ih _ _ _ h
          · replace h := ab_neg hc13 h
            refine z_iload (pc2 := 65) rfl dX9_flowFrom_63 rfl ?_
            refine z_iload_n (pc2 := 66) rfl dX9_flowFrom_65 rfl ?_
            refine z_icmp_ge (pc2 := 69) (tgt := 75) rfl dX9_flowFrom_66 (by decide) (fun hc15 => ?_) (fun hc15 => ?_)
            · replace h := ab_pos hc15 h
              obtain ⟨x16, hxx16, h⟩ := ab_lt_e h
              refine z_iinc (pc2 := 78) (v := x16) (L2 := [some (.ref 49), some (.int p1), some (.int u2), some (.int u3), some (.int x16), some (.int x4), some (.int x12)]) rfl dX9_flowFrom_75 rfl (by rw [hxx16]; rfl) (by decide) rfl rfl ?_
              refine ab_goto (tgt := 9) dX9_flowFrom_78 (by decide) ?_
              refine z_fgt [true, true, true, true, true, false, false] (L2 := [some (.ref 49), some (.int p1), some (.int u2), some (.int u3), some (.int x16), none, none]) rfl ?_
              exact ih _ _ _ h
            · replace h := ab_neg hc15 h
              refine z_iload (pc2 := 71) rfl dX9_flowFrom_69 rfl ?_
              refine z_istore_n (pc2 := 72) (L2 := [some (.ref 49), some (.int p1), some (.int x4), some (.int u3), some (.int u4), some (.int x4), some (.int x12)]) rfl dX9_flowFrom_71 (by decide) rfl rfl ?_
              refine z_iload (pc2 := 74) rfl dX9_flowFrom_72 rfl ?_
              refine z_istore_n (pc2 := 75) (L2 := [some (.ref 49), some (.int p1), some (.int x4), some (.int x12), some (.int u4), some (.int x4), some (.int x12)]) rfl dX9_flowFrom_74 (by decide) rfl rfl ?_
              obtain ⟨x17, hxx17, h⟩ := ab_lt_e h
              refine z_iinc (pc2 := 78) (v := x17) (L2 := [some (.ref 49), some (.int p1), some (.int x4), some (.int x12), some (.int x17), some (.int x4), some (.int x12)]) rfl dX9_flowFrom_75 rfl (by rw [hxx17]; rfl) (by decide) rfl rfl ?_
              refine ab_goto (tgt := 9) dX9_flowFrom_78 (by decide) ?_
              refine z_fgt [true, true, true, true, true, false, false] (L2 := [some (.ref 49), some (.int p1), some (.int x4), some (.int x12), some (.int x17), none, none]) rfl ?_
              exact ih _ _ _ h
