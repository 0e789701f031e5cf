def f_X12_cut (a1 : Int32) (σ : ab_F) : Option (Int32 × ab_F) := (f_X12_isOne a1 σ).bind (fun q1 => (if (ab_b q1) = 0 then (f_X12_error (1 : Int32) σ).bind (fun q3 => (some (q3.1, q3.2))) else (f_X12_madeNow a1 σ).bind (fun q4 => (f_X12_change1 (((76 : Int32) + ((5 : Int32) * a1)) + (3 : Int32)) q4.1 q4.2).bind (fun q5 => (some (q5.1, q5.2))))))
set_option maxRecDepth 100000 in
set_option maxHeartbeats 4000000 in
theorem e_X12_cut {sc : Nat × (Nat → Int32)} {r : Option Nat × Option Nat} {a1 : Int32} {σ : ab_F} {res : (Int32 × ab_F)} (h : f_X12_cut a1 σ = some res) : ab_E mX12_cut 4 sc 0 [some (.ref 85), some (.int a1)] [] (σ, r) (fun v S => v = some (.int res.1) ∧ S = (res.2, r)) := by
  unfold f_X12_cut at h
  refine z_aload_n (pc2 := 1) rfl dX12_cut_0 rfl ?_
  refine z_iload_n (pc2 := 2) rfl dX12_cut_1 rfl ?_
  obtain ⟨q1, hq1, h⟩ := ab_bnd h
  refine z_callVi 85 [.int a1] [some (.ref 85), some (.int a1)] (pc2 := 5) rfl rfl dX12_cut_2 ok_X12_isOne ⟨fun _ => rfl, fun _ => Nat.le_of_ble_eq_true rfl⟩ rfl rv_85 wd_1121 wd_1123 wd_29 rfl (e_X12_isOne hq1) ?_
  refine z_if_eq (pc2 := 8) (tgt := 28) rfl dX12_cut_5 (by decide) (fun hc2 => ?_) (fun hc2 => ?_)
  · replace h := ab_pos hc2 h
    refine z_aload_n (pc2 := 29) rfl dX12_cut_28 rfl ?_
    refine z_iconst (pc2 := 30) rfl dX12_cut_29 lt_i_1 ?_
    obtain ⟨q3, hq3, h⟩ := ab_bnd h
    refine z_callVi 85 [.int (1 : Int32)] [some (.ref 85), some (.int (1 : Int32))] (pc2 := 33) rfl rfl dX12_cut_30 ok_X12_error ⟨fun _ => rfl, fun _ => Nat.le_of_ble_eq_true rfl⟩ rfl rv_85 wd_1045 wd_1047 wd_16 rfl (e_X12_error hq3) ?_
    exact z_iret dX12_cut_33 rfl rfl (fi_w h)
  · replace h := ab_neg hc2 h
    refine z_aload_n (pc2 := 9) rfl dX12_cut_8 rfl ?_
    refine z_bipush (pc2 := 11) rfl dX12_cut_9 lt_b_76 ?_
    refine z_iconst (pc2 := 12) rfl dX12_cut_11 lt_i_5 ?_
    refine z_iload_n (pc2 := 13) rfl dX12_cut_12 rfl ?_
    refine z_imul (pc2 := 14) rfl dX12_cut_13 ?_
    refine z_iadd (pc2 := 15) rfl dX12_cut_14 ?_
    refine z_iconst (pc2 := 16) rfl dX12_cut_15 lt_i_3 ?_
    refine z_iadd (pc2 := 17) rfl dX12_cut_16 ?_
    refine z_aload_n (pc2 := 18) rfl dX12_cut_17 rfl ?_
    refine z_iload_n (pc2 := 19) rfl dX12_cut_18 rfl ?_
    obtain ⟨q4, hq4, h⟩ := ab_bnd h
    refine z_callVi 85 [.int a1] [some (.ref 85), some (.int a1)] (pc2 := 22) rfl rfl dX12_cut_19 ok_X12_madeNow ⟨fun _ => rfl, fun _ => Nat.le_of_ble_eq_true rfl⟩ rfl rv_85 wd_1165 wd_1167 wd_37 rfl (e_X12_madeNow hq4) ?_
    obtain ⟨q5, hq5, h⟩ := ab_bnd h
    refine z_callVi 85 [.int (((76 : Int32) + ((5 : Int32) * a1)) + (3 : Int32)), .int q4.1] [some (.ref 85), some (.int (((76 : Int32) + ((5 : Int32) * a1)) + (3 : Int32))), some (.int q4.1), none] (pc2 := 25) rfl rfl dX12_cut_22 ok_X12_change1 ⟨fun _ => rfl, fun _ => Nat.le_of_ble_eq_true rfl⟩ rfl rv_85 wd_1188 wd_1190 wd_39 rfl (e_X12_change1 hq5) ?_
    refine ab_goto (tgt := 33) dX12_cut_25 (by decide) ?_
    exact z_iret dX12_cut_33 rfl rfl (fi_w h)
def f_X12_land (a1 : Int32) (a2 : Int32) (a3 : Int32) (σ : ab_F) : Option (Int32 × ab_F) := (if a2 = 0 then (f_X12_isCell a1 σ).bind (fun q34 => (if (ab_b q34) = 0 then (f_X12_error (1 : Int32) σ).bind (fun q36 => (some (q36.1, q36.2))) else (f_X12_in a2 (0 : Int32) (3 : Int32) σ).bind (fun q37 => (if (ab_b q37) = 0 then (f_X12_error (1 : Int32) σ).bind (fun q39 => (some (q39.1, q39.2))) else (f_X12_in a3 (0 : Int32) (9 : Int32) σ).bind (fun q40 => (if (ab_b q40) = 0 then (f_X12_error (1 : Int32) σ).bind (fun q42 => (some (q42.1, q42.2))) else (f_X12_change1 (((12 : Int32) + ((16 : Int32) * a2)) + a1) a3 σ).bind (fun q43 => (some (q43.1, q43.2))))))))) else (if a2 = (1 : Int32) then (f_X12_isCell a1 σ).bind (fun q24 => (if (ab_b q24) = 0 then (f_X12_error (1 : Int32) σ).bind (fun q26 => (some (q26.1, q26.2))) else (f_X12_in a2 (0 : Int32) (3 : Int32) σ).bind (fun q27 => (if (ab_b q27) = 0 then (f_X12_error (1 : Int32) σ).bind (fun q29 => (some (q29.1, q29.2))) else (f_X12_in a3 (0 : Int32) (99 : Int32) σ).bind (fun q30 => (if (ab_b q30) = 0 then (f_X12_error (1 : Int32) σ).bind (fun q32 => (some (q32.1, q32.2))) else (f_X12_change1 (((12 : Int32) + ((16 : Int32) * a2)) + a1) a3 σ).bind (fun q33 => (some (q33.1, q33.2))))))))) else (if a2 = (2 : Int32) then (f_X12_isCell a1 σ).bind (fun q14 => (if (ab_b q14) = 0 then (f_X12_error (1 : Int32) σ).bind (fun q16 => (some (q16.1, q16.2))) else (f_X12_in a2 (0 : Int32) (3 : Int32) σ).bind (fun q17 => (if (ab_b q17) = 0 then (f_X12_error (1 : Int32) σ).bind (fun q19 => (some (q19.1, q19.2))) else (f_X12_in a3 (0 : Int32) (1 : Int32) σ).bind (fun q20 => (if (ab_b q20) = 0 then (f_X12_error (1 : Int32) σ).bind (fun q22 => (some (q22.1, q22.2))) else (f_X12_change1 (((12 : Int32) + ((16 : Int32) * a2)) + a1) a3 σ).bind (fun q23 => (some (q23.1, q23.2))))))))) else (f_X12_isCell a1 σ).bind (fun q4 => (if (ab_b q4) = 0 then (f_X12_error (1 : Int32) σ).bind (fun q6 => (some (q6.1, q6.2))) else (f_X12_in a2 (0 : Int32) (3 : Int32) σ).bind (fun q7 => (if (ab_b q7) = 0 then (f_X12_error (1 : Int32) σ).bind (fun q9 => (some (q9.1, q9.2))) else (f_X12_in a3 (0 : Int32) (4095 : Int32) σ).bind (fun q10 => (if (ab_b q10) = 0 then (f_X12_error (1 : Int32) σ).bind (fun q12 => (some (q12.1, q12.2))) else (f_X12_change1 (((12 : Int32) + ((16 : Int32) * a2)) + a1) a3 σ).bind (fun q13 => (some (q13.1, q13.2))))))))))))
set_option maxRecDepth 100000 in
set_option maxHeartbeats 4000000 in
theorem e_X12_land {sc : Nat × (Nat → Int32)} {r : Option Nat × Option Nat} {a1 : Int32} {a2 : Int32} {a3 : Int32} {σ : ab_F} {res : (Int32 × ab_F)} (h : f_X12_land a1 a2 a3 σ = some res) : ab_E mX12_land 2 sc 0 [some (.ref 85), some (.int a1), some (.int a2), some (.int a3), none, none] [] (σ, r) (fun v S => v = some (.int res.1) ∧ S = (res.2, r)) := by
  unfold f_X12_land at h
  refine z_iload_n (pc2 := 1) rfl dX12_land_0 rfl ?_
  refine z_if_ne (pc2 := 4) (tgt := 9) rfl dX12_land_1 (by decide) (fun hc1 => ?_) (fun hc1 => ?_)
  · replace h := ab_neg hc1 h
    refine z_iload_n (pc2 := 10) rfl dX12_land_9 rfl ?_
    refine z_iconst (pc2 := 11) rfl dX12_land_10 lt_i_1 ?_
    refine z_icmp_ne (pc2 := 14) (tgt := 19) rfl dX12_land_11 (by decide) (fun hc2 => ?_) (fun hc2 => ?_)
    · replace h := ab_neg hc2 h
      refine z_iload_n (pc2 := 20) rfl dX12_land_19 rfl ?_
      refine z_iconst (pc2 := 21) rfl dX12_land_20 lt_i_2 ?_
      refine z_icmp_ne (pc2 := 24) (tgt := 28) rfl dX12_land_21 (by decide) (fun hc3 => ?_) (fun hc3 => ?_)
      · replace h := ab_neg hc3 h
        refine z_sipush (pc2 := 31) rfl dX12_land_28 lt_s_4095 ?_
        refine z_istore (pc2 := 33) (L2 := [some (.ref 85), some (.int a1), some (.int a2), some (.int a3), some (.int (4095 : Int32)), none]) rfl dX12_land_31 (by decide) rfl rfl ?_
        refine z_iload_n (pc2 := 34) rfl dX12_land_33 rfl ?_
        obtain ⟨q4, hq4, h⟩ := ab_bnd h
        refine z_callSi [.int a1] [some (.int a1)] (pc2 := 37) rfl rfl dX12_land_34 ok_X12_isCell ⟨fun _ => rfl, fun _ => Nat.le_of_ble_eq_true rfl⟩ rfl wd_1110 wd_1111 rfl (e_X12_isCell hq4) ?_
        refine z_if_eq (pc2 := 40) (tgt := 63) rfl dX12_land_37 (by decide) (fun hc5 => ?_) (fun hc5 => ?_)
        · replace h := ab_pos hc5 h
          refine z_iconst (pc2 := 64) rfl dX12_land_63 lt_i_0 ?_
          refine z_istore (pc2 := 66) (L2 := [some (.ref 85), some (.int a1), some (.int a2), some (.int a3), some (.int (4095 : Int32)), some (.int (0 : Int32))]) rfl dX12_land_64 (by decide) rfl rfl ?_
          refine z_iload (pc2 := 68) rfl dX12_land_66 rfl ?_
          refine z_if_eq (pc2 := 71) (tgt := 88) rfl dX12_land_68 (by decide) (fun hc => ?_) (fun hc => ?_)
          · refine z_aload_n (pc2 := 89) rfl dX12_land_88 rfl ?_
            refine z_iconst (pc2 := 90) rfl dX12_land_89 lt_i_1 ?_
            obtain ⟨q6, hq6, h⟩ := ab_bnd h
            refine z_callVi 85 [.int (1 : Int32)] [some (.ref 85), some (.int (1 : Int32))] (pc2 := 93) rfl rfl dX12_land_90 ok_X12_error ⟨fun _ => rfl, fun _ => Nat.le_of_ble_eq_true rfl⟩ rfl rv_85 wd_1045 wd_1047 wd_16 rfl (e_X12_error hq6) ?_
            exact z_iret dX12_land_93 rfl rfl (fi_w h)
          · exact absurd hc (by decide)
        · replace h := ab_neg hc5 h
          refine z_iload_n (pc2 := 41) rfl dX12_land_40 rfl ?_
          refine z_iconst (pc2 := 42) rfl dX12_land_41 lt_i_0 ?_
          refine z_iconst (pc2 := 43) rfl dX12_land_42 lt_i_3 ?_
          obtain ⟨q7, hq7, h⟩ := ab_bnd h
          refine z_callSi [.int a2, .int (0 : Int32), .int (3 : Int32)] [some (.int a2), some (.int (0 : Int32)), some (.int (3 : Int32))] (pc2 := 46) rfl rfl dX12_land_43 ok_X12_in ⟨fun _ => rfl, fun _ => Nat.le_of_ble_eq_true rfl⟩ rfl wd_1042 wd_1043 rfl (e_X12_in hq7) ?_
          refine z_if_eq (pc2 := 49) (tgt := 63) rfl dX12_land_46 (by decide) (fun hc8 => ?_) (fun hc8 => ?_)
          · replace h := ab_pos hc8 h
            refine z_iconst (pc2 := 64) rfl dX12_land_63 lt_i_0 ?_
            refine z_istore (pc2 := 66) (L2 := [some (.ref 85), some (.int a1), some (.int a2), some (.int a3), some (.int (4095 : Int32)), some (.int (0 : Int32))]) rfl dX12_land_64 (by decide) rfl rfl ?_
            refine z_iload (pc2 := 68) rfl dX12_land_66 rfl ?_
            refine z_if_eq (pc2 := 71) (tgt := 88) rfl dX12_land_68 (by decide) (fun hc => ?_) (fun hc => ?_)
            · refine z_aload_n (pc2 := 89) rfl dX12_land_88 rfl ?_
              refine z_iconst (pc2 := 90) rfl dX12_land_89 lt_i_1 ?_
              obtain ⟨q9, hq9, h⟩ := ab_bnd h
              refine z_callVi 85 [.int (1 : Int32)] [some (.ref 85), some (.int (1 : Int32))] (pc2 := 93) rfl rfl dX12_land_90 ok_X12_error ⟨fun _ => rfl, fun _ => Nat.le_of_ble_eq_true rfl⟩ rfl rv_85 wd_1045 wd_1047 wd_16 rfl (e_X12_error hq9) ?_
              exact z_iret dX12_land_93 rfl rfl (fi_w h)
            · exact absurd hc (by decide)
          · replace h := ab_neg hc8 h
            refine z_iload_n (pc2 := 50) rfl dX12_land_49 rfl ?_
            refine z_iconst (pc2 := 51) rfl dX12_land_50 lt_i_0 ?_
            refine z_iload (pc2 := 53) rfl dX12_land_51 rfl ?_
            obtain ⟨q10, hq10, h⟩ := ab_bnd h
            refine z_callSi [.int a3, .int (0 : Int32), .int (4095 : Int32)] [some (.int a3), some (.int (0 : Int32)), some (.int (4095 : Int32))] (pc2 := 56) rfl rfl dX12_land_53 ok_X12_in ⟨fun _ => rfl, fun _ => Nat.le_of_ble_eq_true rfl⟩ rfl wd_1042 wd_1043 rfl (e_X12_in hq10) ?_
            refine z_if_eq (pc2 := 59) (tgt := 63) rfl dX12_land_56 (by decide) (fun hc11 => ?_) (fun hc11 => ?_)
            · replace h := ab_pos hc11 h
              refine z_iconst (pc2 := 64) rfl dX12_land_63 lt_i_0 ?_
              refine z_istore (pc2 := 66) (L2 := [some (.ref 85), some (.int a1), some (.int a2), some (.int a3), some (.int (4095 : Int32)), some (.int (0 : Int32))]) rfl dX12_land_64 (by decide) rfl rfl ?_
              refine z_iload (pc2 := 68) rfl dX12_land_66 rfl ?_
              refine z_if_eq (pc2 := 71) (tgt := 88) rfl dX12_land_68 (by decide) (fun hc => ?_) (fun hc => ?_)
              · refine z_aload_n (pc2 := 89) rfl dX12_land_88 rfl ?_
                refine z_iconst (pc2 := 90) rfl dX12_land_89 lt_i_1 ?_
                obtain ⟨q12, hq12, h⟩ := ab_bnd h
                refine z_callVi 85 [.int (1 : Int32)] [some (.ref 85), some (.int (1 : Int32))] (pc2 := 93) rfl rfl dX12_land_90 ok_X12_error ⟨fun _ => rfl, fun _ => Nat.le_of_ble_eq_true rfl⟩ rfl rv_85 wd_1045 wd_1047 wd_16 rfl (e_X12_error hq12) ?_
                exact z_iret dX12_land_93 rfl rfl (fi_w h)
              · exact absurd hc (by decide)
            · replace h := ab_neg hc11 h
              refine z_iconst (pc2 := 60) rfl dX12_land_59 lt_i_1 ?_
              refine ab_goto (tgt := 64) dX12_land_60 (by decide) ?_
              refine z_istore (pc2 := 66) (L2 := [some (.ref 85), some (.int a1), some (.int a2), some (.int a3), some (.int (4095 : Int32)), some (.int (1 : Int32))]) rfl dX12_land_64 (by decide) rfl rfl ?_
              refine z_iload (pc2 := 68) rfl dX12_land_66 rfl ?_
              refine z_if_eq (pc2 := 71) (tgt := 88) rfl dX12_land_68 (by decide) (fun hc => ?_) (fun hc => ?_)
              · exact absurd hc (by decide)
              · refine z_aload_n (pc2 := 72) rfl dX12_land_71 rfl ?_
                refine z_bipush (pc2 := 74) rfl dX12_land_72 lt_b_12 ?_
                refine z_bipush (pc2 := 76) rfl dX12_land_74 lt_b_16 ?_
                refine z_iload_n (pc2 := 77) rfl dX12_land_76 rfl ?_
                refine z_imul (pc2 := 78) rfl dX12_land_77 ?_
                refine z_iadd (pc2 := 79) rfl dX12_land_78 ?_
                refine z_iload_n (pc2 := 80) rfl dX12_land_79 rfl ?_
                refine z_iadd (pc2 := 81) rfl dX12_land_80 ?_
                refine z_iload_n (pc2 := 82) rfl dX12_land_81 rfl ?_
                obtain ⟨q13, hq13, h⟩ := ab_bnd h
                refine z_callVi 85 [.int (((12 : Int32) + ((16 : Int32) * a2)) + a1), .int a3] [some (.ref 85), some (.int (((12 : Int32) + ((16 : Int32) * a2)) + a1)), some (.int a3), none] (pc2 := 85) rfl rfl dX12_land_82 ok_X12_change1 ⟨fun _ => rfl, fun _ => Nat.le_of_ble_eq_true rfl⟩ rfl rv_85 wd_1188 wd_1190 wd_39 rfl (e_X12_change1 hq13) ?_
                refine ab_goto (tgt := 93) dX12_land_85 (by decide) ?_
                exact z_iret dX12_land_93 rfl rfl (fi_w h)
      · replace h := ab_pos hc3 h
        refine z_iconst (pc2 := 25) rfl dX12_land_24 lt_i_1 ?_
        refine ab_goto (tgt := 31) dX12_land_25 (by decide) ?_
        refine z_istore (pc2 := 33) (L2 := [some (.ref 85), some (.int a1), some (.int a2), some (.int a3), some (.int (1 : Int32)), none]) rfl dX12_land_31 (by decide) rfl rfl ?_
        refine z_iload_n (pc2 := 34) rfl dX12_land_33 rfl ?_
        obtain ⟨q14, hq14, h⟩ := ab_bnd h
        refine z_callSi [.int a1] [some (.int a1)] (pc2 := 37) rfl rfl dX12_land_34 ok_X12_isCell ⟨fun _ => rfl, fun _ => Nat.le_of_ble_eq_true rfl⟩ rfl wd_1110 wd_1111 rfl (e_X12_isCell hq14) ?_
        refine z_if_eq (pc2 := 40) (tgt := 63) rfl dX12_land_37 (by decide) (fun hc15 => ?_) (fun hc15 => ?_)
        · replace h := ab_pos hc15 h
          refine z_iconst (pc2 := 64) rfl dX12_land_63 lt_i_0 ?_
          refine z_istore (pc2 := 66) (L2 := [some (.ref 85), some (.int a1), some (.int a2), some (.int a3), some (.int (1 : Int32)), some (.int (0 : Int32))]) rfl dX12_land_64 (by decide) rfl rfl ?_
          refine z_iload (pc2 := 68) rfl dX12_land_66 rfl ?_
          refine z_if_eq (pc2 := 71) (tgt := 88) rfl dX12_land_68 (by decide) (fun hc => ?_) (fun hc => ?_)
          · refine z_aload_n (pc2 := 89) rfl dX12_land_88 rfl ?_
            refine z_iconst (pc2 := 90) rfl dX12_land_89 lt_i_1 ?_
            obtain ⟨q16, hq16, h⟩ := ab_bnd h
            refine z_callVi 85 [.int (1 : Int32)] [some (.ref 85), some (.int (1 : Int32))] (pc2 := 93) rfl rfl dX12_land_90 ok_X12_error ⟨fun _ => rfl, fun _ => Nat.le_of_ble_eq_true rfl⟩ rfl rv_85 wd_1045 wd_1047 wd_16 rfl (e_X12_error hq16) ?_
            exact z_iret dX12_land_93 rfl rfl (fi_w h)
          · exact absurd hc (by decide)
        · replace h := ab_neg hc15 h
          refine z_iload_n (pc2 := 41) rfl dX12_land_40 rfl ?_
          refine z_iconst (pc2 := 42) rfl dX12_land_41 lt_i_0 ?_
          refine z_iconst (pc2 := 43) rfl dX12_land_42 lt_i_3 ?_
          obtain ⟨q17, hq17, h⟩ := ab_bnd h
          refine z_callSi [.int a2, .int (0 : Int32), .int (3 : Int32)] [some (.int a2), some (.int (0 : Int32)), some (.int (3 : Int32))] (pc2 := 46) rfl rfl dX12_land_43 ok_X12_in ⟨fun _ => rfl, fun _ => Nat.le_of_ble_eq_true rfl⟩ rfl wd_1042 wd_1043 rfl (e_X12_in hq17) ?_
          refine z_if_eq (pc2 := 49) (tgt := 63) rfl dX12_land_46 (by decide) (fun hc18 => ?_) (fun hc18 => ?_)
          · replace h := ab_pos hc18 h
            refine z_iconst (pc2 := 64) rfl dX12_land_63 lt_i_0 ?_
            refine z_istore (pc2 := 66) (L2 := [some (.ref 85), some (.int a1), some (.int a2), some (.int a3), some (.int (1 : Int32)), some (.int (0 : Int32))]) rfl dX12_land_64 (by decide) rfl rfl ?_
            refine z_iload (pc2 := 68) rfl dX12_land_66 rfl ?_
            refine z_if_eq (pc2 := 71) (tgt := 88) rfl dX12_land_68 (by decide) (fun hc => ?_) (fun hc => ?_)
            · refine z_aload_n (pc2 := 89) rfl dX12_land_88 rfl ?_
              refine z_iconst (pc2 := 90) rfl dX12_land_89 lt_i_1 ?_
              obtain ⟨q19, hq19, h⟩ := ab_bnd h
              refine z_callVi 85 [.int (1 : Int32)] [some (.ref 85), some (.int (1 : Int32))] (pc2 := 93) rfl rfl dX12_land_90 ok_X12_error ⟨fun _ => rfl, fun _ => Nat.le_of_ble_eq_true rfl⟩ rfl rv_85 wd_1045 wd_1047 wd_16 rfl (e_X12_error hq19) ?_
              exact z_iret dX12_land_93 rfl rfl (fi_w h)
            · exact absurd hc (by decide)
          · replace h := ab_neg hc18 h
            refine z_iload_n (pc2 := 50) rfl dX12_land_49 rfl ?_
            refine z_iconst (pc2 := 51) rfl dX12_land_50 lt_i_0 ?_
            refine z_iload (pc2 := 53) rfl dX12_land_51 rfl ?_
            obtain ⟨q20, hq20, h⟩ := ab_bnd h
            refine z_callSi [.int a3, .int (0 : Int32), .int (1 : Int32)] [some (.int a3), some (.int (0 : Int32)), some (.int (1 : Int32))] (pc2 := 56) rfl rfl dX12_land_53 ok_X12_in ⟨fun _ => rfl, fun _ => Nat.le_of_ble_eq_true rfl⟩ rfl wd_1042 wd_1043 rfl (e_X12_in hq20) ?_
            refine z_if_eq (pc2 := 59) (tgt := 63) rfl dX12_land_56 (by decide) (fun hc21 => ?_) (fun hc21 => ?_)
            · replace h := ab_pos hc21 h
              refine z_iconst (pc2 := 64) rfl dX12_land_63 lt_i_0 ?_
              refine z_istore (pc2 := 66) (L2 := [some (.ref 85), some (.int a1), some (.int a2), some (.int a3), some (.int (1 : Int32)), some (.int (0 : Int32))]) rfl dX12_land_64 (by decide) rfl rfl ?_
              refine z_iload (pc2 := 68) rfl dX12_land_66 rfl ?_
              refine z_if_eq (pc2 := 71) (tgt := 88) rfl dX12_land_68 (by decide) (fun hc => ?_) (fun hc => ?_)
              · refine z_aload_n (pc2 := 89) rfl dX12_land_88 rfl ?_
                refine z_iconst (pc2 := 90) rfl dX12_land_89 lt_i_1 ?_
                obtain ⟨q22, hq22, h⟩ := ab_bnd h
                refine z_callVi 85 [.int (1 : Int32)] [some (.ref 85), some (.int (1 : Int32))] (pc2 := 93) rfl rfl dX12_land_90 ok_X12_error ⟨fun _ => rfl, fun _ => Nat.le_of_ble_eq_true rfl⟩ rfl rv_85 wd_1045 wd_1047 wd_16 rfl (e_X12_error hq22) ?_
                exact z_iret dX12_land_93 rfl rfl (fi_w h)
              · exact absurd hc (by decide)
            · replace h := ab_neg hc21 h
              refine z_iconst (pc2 := 60) rfl dX12_land_59 lt_i_1 ?_
              refine ab_goto (tgt := 64) dX12_land_60 (by decide) ?_
              refine z_istore (pc2 := 66) (L2 := [some (.ref 85), some (.int a1), some (.int a2), some (.int a3), some (.int (1 : Int32)), some (.int (1 : Int32))]) rfl dX12_land_64 (by decide) rfl rfl ?_
              refine z_iload (pc2 := 68) rfl dX12_land_66 rfl ?_
              refine z_if_eq (pc2 := 71) (tgt := 88) rfl dX12_land_68 (by decide) (fun hc => ?_) (fun hc => ?_)
              · exact absurd hc (by decide)
              · refine z_aload_n (pc2 := 72) rfl dX12_land_71 rfl ?_
                refine z_bipush (pc2 := 74) rfl dX12_land_72 lt_b_12 ?_
                refine z_bipush (pc2 := 76) rfl dX12_land_74 lt_b_16 ?_
                refine z_iload_n (pc2 := 77) rfl dX12_land_76 rfl ?_
                refine z_imul (pc2 := 78) rfl dX12_land_77 ?_
                refine z_iadd (pc2 := 79) rfl dX12_land_78 ?_
                refine z_iload_n (pc2 := 80) rfl dX12_land_79 rfl ?_
                refine z_iadd (pc2 := 81) rfl dX12_land_80 ?_
                refine z_iload_n (pc2 := 82) rfl dX12_land_81 rfl ?_
                obtain ⟨q23, hq23, h⟩ := ab_bnd h
                refine z_callVi 85 [.int (((12 : Int32) + ((16 : Int32) * a2)) + a1), .int a3] [some (.ref 85), some (.int (((12 : Int32) + ((16 : Int32) * a2)) + a1)), some (.int a3), none] (pc2 := 85) rfl rfl dX12_land_82 ok_X12_change1 ⟨fun _ => rfl, fun _ => Nat.le_of_ble_eq_true rfl⟩ rfl rv_85 wd_1188 wd_1190 wd_39 rfl (e_X12_change1 hq23) ?_
                refine ab_goto (tgt := 93) dX12_land_85 (by decide) ?_
                exact z_iret dX12_land_93 rfl rfl (fi_w h)
    · replace h := ab_pos hc2 h
      refine z_bipush (pc2 := 16) rfl dX12_land_14 lt_b_99 ?_
      refine ab_goto (tgt := 31) dX12_land_16 (by decide) ?_
      refine z_istore (pc2 := 33) (L2 := [some (.ref 85), some (.int a1), some (.int a2), some (.int a3), some (.int (99 : Int32)), none]) rfl dX12_land_31 (by decide) rfl rfl ?_
      refine z_iload_n (pc2 := 34) rfl dX12_land_33 rfl ?_
      obtain ⟨q24, hq24, h⟩ := ab_bnd h
      refine z_callSi [.int a1] [some (.int a1)] (pc2 := 37) rfl rfl dX12_land_34 ok_X12_isCell ⟨fun _ => rfl, fun _ => Nat.le_of_ble_eq_true rfl⟩ rfl wd_1110 wd_1111 rfl (e_X12_isCell hq24) ?_
      refine z_if_eq (pc2 := 40) (tgt := 63) rfl dX12_land_37 (by decide) (fun hc25 => ?_) (fun hc25 => ?_)
      · replace h := ab_pos hc25 h
        refine z_iconst (pc2 := 64) rfl dX12_land_63 lt_i_0 ?_
        refine z_istore (pc2 := 66) (L2 := [some (.ref 85), some (.int a1), some (.int a2), some (.int a3), some (.int (99 : Int32)), some (.int (0 : Int32))]) rfl dX12_land_64 (by decide) rfl rfl ?_
        refine z_iload (pc2 := 68) rfl dX12_land_66 rfl ?_
        refine z_if_eq (pc2 := 71) (tgt := 88) rfl dX12_land_68 (by decide) (fun hc => ?_) (fun hc => ?_)
        · refine z_aload_n (pc2 := 89) rfl dX12_land_88 rfl ?_
          refine z_iconst (pc2 := 90) rfl dX12_land_89 lt_i_1 ?_
          obtain ⟨q26, hq26, h⟩ := ab_bnd h
          refine z_callVi 85 [.int (1 : Int32)] [some (.ref 85), some (.int (1 : Int32))] (pc2 := 93) rfl rfl dX12_land_90 ok_X12_error ⟨fun _ => rfl, fun _ => Nat.le_of_ble_eq_true rfl⟩ rfl rv_85 wd_1045 wd_1047 wd_16 rfl (e_X12_error hq26) ?_
          exact z_iret dX12_land_93 rfl rfl (fi_w h)
        · exact absurd hc (by decide)
      · replace h := ab_neg hc25 h
        refine z_iload_n (pc2 := 41) rfl dX12_land_40 rfl ?_
        refine z_iconst (pc2 := 42) rfl dX12_land_41 lt_i_0 ?_
        refine z_iconst (pc2 := 43) rfl dX12_land_42 lt_i_3 ?_
        obtain ⟨q27, hq27, h⟩ := ab_bnd h
        refine z_callSi [.int a2, .int (0 : Int32), .int (3 : Int32)] [some (.int a2), some (.int (0 : Int32)), some (.int (3 : Int32))] (pc2 := 46) rfl rfl dX12_land_43 ok_X12_in ⟨fun _ => rfl, fun _ => Nat.le_of_ble_eq_true rfl⟩ rfl wd_1042 wd_1043 rfl (e_X12_in hq27) ?_
        refine z_if_eq (pc2 := 49) (tgt := 63) rfl dX12_land_46 (by decide) (fun hc28 => ?_) (fun hc28 => ?_)
        · replace h := ab_pos hc28 h
          refine z_iconst (pc2 := 64) rfl dX12_land_63 lt_i_0 ?_
          refine z_istore (pc2 := 66) (L2 := [some (.ref 85), some (.int a1), some (.int a2), some (.int a3), some (.int (99 : Int32)), some (.int (0 : Int32))]) rfl dX12_land_64 (by decide) rfl rfl ?_
          refine z_iload (pc2 := 68) rfl dX12_land_66 rfl ?_
          refine z_if_eq (pc2 := 71) (tgt := 88) rfl dX12_land_68 (by decide) (fun hc => ?_) (fun hc => ?_)
          · refine z_aload_n (pc2 := 89) rfl dX12_land_88 rfl ?_
            refine z_iconst (pc2 := 90) rfl dX12_land_89 lt_i_1 ?_
            obtain ⟨q29, hq29, h⟩ := ab_bnd h
            refine z_callVi 85 [.int (1 : Int32)] [some (.ref 85), some (.int (1 : Int32))] (pc2 := 93) rfl rfl dX12_land_90 ok_X12_error ⟨fun _ => rfl, fun _ => Nat.le_of_ble_eq_true rfl⟩ rfl rv_85 wd_1045 wd_1047 wd_16 rfl (e_X12_error hq29) ?_
            exact z_iret dX12_land_93 rfl rfl (fi_w h)
          · exact absurd hc (by decide)
        · replace h := ab_neg hc28 h
          refine z_iload_n (pc2 := 50) rfl dX12_land_49 rfl ?_
          refine z_iconst (pc2 := 51) rfl dX12_land_50 lt_i_0 ?_
          refine z_iload (pc2 := 53) rfl dX12_land_51 rfl ?_
          obtain ⟨q30, hq30, h⟩ := ab_bnd h
          refine z_callSi [.int a3, .int (0 : Int32), .int (99 : Int32)] [some (.int a3), some (.int (0 : Int32)), some (.int (99 : Int32))] (pc2 := 56) rfl rfl dX12_land_53 ok_X12_in ⟨fun _ => rfl, fun _ => Nat.le_of_ble_eq_true rfl⟩ rfl wd_1042 wd_1043 rfl (e_X12_in hq30) ?_
          refine z_if_eq (pc2 := 59) (tgt := 63) rfl dX12_land_56 (by decide) (fun hc31 => ?_) (fun hc31 => ?_)
          · replace h := ab_pos hc31 h
            refine z_iconst (pc2 := 64) rfl dX12_land_63 lt_i_0 ?_
            refine z_istore (pc2 := 66) (L2 := [some (.ref 85), some (.int a1), some (.int a2), some (.int a3), some (.int (99 : Int32)), some (.int (0 : Int32))]) rfl dX12_land_64 (by decide) rfl rfl ?_
            refine z_iload (pc2 := 68) rfl dX12_land_66 rfl ?_
            refine z_if_eq (pc2 := 71) (tgt := 88) rfl dX12_land_68 (by decide) (fun hc => ?_) (fun hc => ?_)
            · refine z_aload_n (pc2 := 89) rfl dX12_land_88 rfl ?_
              refine z_iconst (pc2 := 90) rfl dX12_land_89 lt_i_1 ?_
              obtain ⟨q32, hq32, h⟩ := ab_bnd h
              refine z_callVi 85 [.int (1 : Int32)] [some (.ref 85), some (.int (1 : Int32))] (pc2 := 93) rfl rfl dX12_land_90 ok_X12_error ⟨fun _ => rfl, fun _ => Nat.le_of_ble_eq_true rfl⟩ rfl rv_85 wd_1045 wd_1047 wd_16 rfl (e_X12_error hq32) ?_
              exact z_iret dX12_land_93 rfl rfl (fi_w h)
            · exact absurd hc (by decide)
          · replace h := ab_neg hc31 h
            refine z_iconst (pc2 := 60) rfl dX12_land_59 lt_i_1 ?_
            refine ab_goto (tgt := 64) dX12_land_60 (by decide) ?_
            refine z_istore (pc2 := 66) (L2 := [some (.ref 85), some (.int a1), some (.int a2), some (.int a3), some (.int (99 : Int32)), some (.int (1 : Int32))]) rfl dX12_land_64 (by decide) rfl rfl ?_
            refine z_iload (pc2 := 68) rfl dX12_land_66 rfl ?_
            refine z_if_eq (pc2 := 71) (tgt := 88) rfl dX12_land_68 (by decide) (fun hc => ?_) (fun hc => ?_)
            · exact absurd hc (by decide)
            · refine z_aload_n (pc2 := 72) rfl dX12_land_71 rfl ?_
              refine z_bipush (pc2 := 74) rfl dX12_land_72 lt_b_12 ?_
              refine z_bipush (pc2 := 76) rfl dX12_land_74 lt_b_16 ?_
              refine z_iload_n (pc2 := 77) rfl dX12_land_76 rfl ?_
              refine z_imul (pc2 := 78) rfl dX12_land_77 ?_
              refine z_iadd (pc2 := 79) rfl dX12_land_78 ?_
              refine z_iload_n (pc2 := 80) rfl dX12_land_79 rfl ?_
              refine z_iadd (pc2 := 81) rfl dX12_land_80 ?_
              refine z_iload_n (pc2 := 82) rfl dX12_land_81 rfl ?_
              obtain ⟨q33, hq33, h⟩ := ab_bnd h
              refine z_callVi 85 [.int (((12 : Int32) + ((16 : Int32) * a2)) + a1), .int a3] [some (.ref 85), some (.int (((12 : Int32) + ((16 : Int32) * a2)) + a1)), some (.int a3), none] (pc2 := 85) rfl rfl dX12_land_82 ok_X12_change1 ⟨fun _ => rfl, fun _ => Nat.le_of_ble_eq_true rfl⟩ rfl rv_85 wd_1188 wd_1190 wd_39 rfl (e_X12_change1 hq33) ?_
              refine ab_goto (tgt := 93) dX12_land_85 (by decide) ?_
              exact z_iret dX12_land_93 rfl rfl (fi_w h)
  · replace h := ab_pos hc1 h
    refine z_bipush (pc2 := 6) rfl dX12_land_4 lt_b_9 ?_
    refine ab_goto (tgt := 31) dX12_land_6 (by decide) ?_
    refine z_istore (pc2 := 33) (L2 := [some (.ref 85), some (.int a1), some (.int a2), some (.int a3), some (.int (9 : Int32)), none]) rfl dX12_land_31 (by decide) rfl rfl ?_
    refine z_iload_n (pc2 := 34) rfl dX12_land_33 rfl ?_
    obtain ⟨q34, hq34, h⟩ := ab_bnd h
    refine z_callSi [.int a1] [some (.int a1)] (pc2 := 37) rfl rfl dX12_land_34 ok_X12_isCell ⟨fun _ => rfl, fun _ => Nat.le_of_ble_eq_true rfl⟩ rfl wd_1110 wd_1111 rfl (e_X12_isCell hq34) ?_
    refine z_if_eq (pc2 := 40) (tgt := 63) rfl dX12_land_37 (by decide) (fun hc35 => ?_) (fun hc35 => ?_)
    · replace h := ab_pos hc35 h
      refine z_iconst (pc2 := 64) rfl dX12_land_63 lt_i_0 ?_
      refine z_istore (pc2 := 66) (L2 := [some (.ref 85), some (.int a1), some (.int a2), some (.int a3), some (.int (9 : Int32)), some (.int (0 : Int32))]) rfl dX12_land_64 (by decide) rfl rfl ?_
      refine z_iload (pc2 := 68) rfl dX12_land_66 rfl ?_
      refine z_if_eq (pc2 := 71) (tgt := 88) rfl dX12_land_68 (by decide) (fun hc => ?_) (fun hc => ?_)
      · refine z_aload_n (pc2 := 89) rfl dX12_land_88 rfl ?_
        refine z_iconst (pc2 := 90) rfl dX12_land_89 lt_i_1 ?_
        obtain ⟨q36, hq36, h⟩ := ab_bnd h
        refine z_callVi 85 [.int (1 : Int32)] [some (.ref 85), some (.int (1 : Int32))] (pc2 := 93) rfl rfl dX12_land_90 ok_X12_error ⟨fun _ => rfl, fun _ => Nat.le_of_ble_eq_true rfl⟩ rfl rv_85 wd_1045 wd_1047 wd_16 rfl (e_X12_error hq36) ?_
        exact z_iret dX12_land_93 rfl rfl (fi_w h)
      · exact absurd hc (by decide)
    · replace h := ab_neg hc35 h
      refine z_iload_n (pc2 := 41) rfl dX12_land_40 rfl ?_
      refine z_iconst (pc2 := 42) rfl dX12_land_41 lt_i_0 ?_
      refine z_iconst (pc2 := 43) rfl dX12_land_42 lt_i_3 ?_
      obtain ⟨q37, hq37, h⟩ := ab_bnd h
      refine z_callSi [.int a2, .int (0 : Int32), .int (3 : Int32)] [some (.int a2), some (.int (0 : Int32)), some (.int (3 : Int32))] (pc2 := 46) rfl rfl dX12_land_43 ok_X12_in ⟨fun _ => rfl, fun _ => Nat.le_of_ble_eq_true rfl⟩ rfl wd_1042 wd_1043 rfl (e_X12_in hq37) ?_
      refine z_if_eq (pc2 := 49) (tgt := 63) rfl dX12_land_46 (by decide) (fun hc38 => ?_) (fun hc38 => ?_)
      · replace h := ab_pos hc38 h
        refine z_iconst (pc2 := 64) rfl dX12_land_63 lt_i_0 ?_
        refine z_istore (pc2 := 66) (L2 := [some (.ref 85), some (.int a1), some (.int a2), some (.int a3), some (.int (9 : Int32)), some (.int (0 : Int32))]) rfl dX12_land_64 (by decide) rfl rfl ?_
        refine z_iload (pc2 := 68) rfl dX12_land_66 rfl ?_
        refine z_if_eq (pc2 := 71) (tgt := 88) rfl dX12_land_68 (by decide) (fun hc => ?_) (fun hc => ?_)
        · refine z_aload_n (pc2 := 89) rfl dX12_land_88 rfl ?_
          refine z_iconst (pc2 := 90) rfl dX12_land_89 lt_i_1 ?_
          obtain ⟨q39, hq39, h⟩ := ab_bnd h
          refine z_callVi 85 [.int (1 : Int32)] [some (.ref 85), some (.int (1 : Int32))] (pc2 := 93) rfl rfl dX12_land_90 ok_X12_error ⟨fun _ => rfl, fun _ => Nat.le_of_ble_eq_true rfl⟩ rfl rv_85 wd_1045 wd_1047 wd_16 rfl (e_X12_error hq39) ?_
          exact z_iret dX12_land_93 rfl rfl (fi_w h)
        · exact absurd hc (by decide)
      · replace h := ab_neg hc38 h
        refine z_iload_n (pc2 := 50) rfl dX12_land_49 rfl ?_
        refine z_iconst (pc2 := 51) rfl dX12_land_50 lt_i_0 ?_
        refine z_iload (pc2 := 53) rfl dX12_land_51 rfl ?_
        obtain ⟨q40, hq40, h⟩ := ab_bnd h
        refine z_callSi [.int a3, .int (0 : Int32), .int (9 : Int32)] [some (.int a3), some (.int (0 : Int32)), some (.int (9 : Int32))] (pc2 := 56) rfl rfl dX12_land_53 ok_X12_in ⟨fun _ => rfl, fun _ => Nat.le_of_ble_eq_true rfl⟩ rfl wd_1042 wd_1043 rfl (e_X12_in hq40) ?_
        refine z_if_eq (pc2 := 59) (tgt := 63) rfl dX12_land_56 (by decide) (fun hc41 => ?_) (fun hc41 => ?_)
        · replace h := ab_pos hc41 h
          refine z_iconst (pc2 := 64) rfl dX12_land_63 lt_i_0 ?_
          refine z_istore (pc2 := 66) (L2 := [some (.ref 85), some (.int a1), some (.int a2), some (.int a3), some (.int (9 : Int32)), some (.int (0 : Int32))]) rfl dX12_land_64 (by decide) rfl rfl ?_
          refine z_iload (pc2 := 68) rfl dX12_land_66 rfl ?_
          refine z_if_eq (pc2 := 71) (tgt := 88) rfl dX12_land_68 (by decide) (fun hc => ?_) (fun hc => ?_)
          · refine z_aload_n (pc2 := 89) rfl dX12_land_88 rfl ?_
            refine z_iconst (pc2 := 90) rfl dX12_land_89 lt_i_1 ?_
            obtain ⟨q42, hq42, h⟩ := ab_bnd h
            refine z_callVi 85 [.int (1 : Int32)] [some (.ref 85), some (.int (1 : Int32))] (pc2 := 93) rfl rfl dX12_land_90 ok_X12_error ⟨fun _ => rfl, fun _ => Nat.le_of_ble_eq_true rfl⟩ rfl rv_85 wd_1045 wd_1047 wd_16 rfl (e_X12_error hq42) ?_
            exact z_iret dX12_land_93 rfl rfl (fi_w h)
          · exact absurd hc (by decide)
        · replace h := ab_neg hc41 h
          refine z_iconst (pc2 := 60) rfl dX12_land_59 lt_i_1 ?_
          refine ab_goto (tgt := 64) dX12_land_60 (by decide) ?_
          refine z_istore (pc2 := 66) (L2 := [some (.ref 85), some (.int a1), some (.int a2), some (.int a3), some (.int (9 : Int32)), some (.int (1 : Int32))]) rfl dX12_land_64 (by decide) rfl rfl ?_
          refine z_iload (pc2 := 68) rfl dX12_land_66 rfl ?_
          refine z_if_eq (pc2 := 71) (tgt := 88) rfl dX12_land_68 (by decide) (fun hc => ?_) (fun hc => ?_)
          · exact absurd hc (by decide)
          · refine z_aload_n (pc2 := 72) rfl dX12_land_71 rfl ?_
            refine z_bipush (pc2 := 74) rfl dX12_land_72 lt_b_12 ?_
            refine z_bipush (pc2 := 76) rfl dX12_land_74 lt_b_16 ?_
            refine z_iload_n (pc2 := 77) rfl dX12_land_76 rfl ?_
            refine z_imul (pc2 := 78) rfl dX12_land_77 ?_
            refine z_iadd (pc2 := 79) rfl dX12_land_78 ?_
            refine z_iload_n (pc2 := 80) rfl dX12_land_79 rfl ?_
            refine z_iadd (pc2 := 81) rfl dX12_land_80 ?_
            refine z_iload_n (pc2 := 82) rfl dX12_land_81 rfl ?_
            obtain ⟨q43, hq43, h⟩ := ab_bnd h
            refine z_callVi 85 [.int (((12 : Int32) + ((16 : Int32) * a2)) + a1), .int a3] [some (.ref 85), some (.int (((12 : Int32) + ((16 : Int32) * a2)) + a1)), some (.int a3), none] (pc2 := 85) rfl rfl dX12_land_82 ok_X12_change1 ⟨fun _ => rfl, fun _ => Nat.le_of_ble_eq_true rfl⟩ rfl rv_85 wd_1188 wd_1190 wd_39 rfl (e_X12_change1 hq43) ?_
            refine ab_goto (tgt := 93) dX12_land_85 (by decide) ?_
            exact z_iret dX12_land_93 rfl rfl (fi_w h)
def f_X12_landIs (a1 : Int32) (a2 : Int32) (σ : ab_F) : Option (Int32 × ab_F) := (f_X12_isCell a1 σ).bind (fun q1 => (if (ab_b q1) = 0 then (f_X12_error (1 : Int32) σ).bind (fun q3 => (some (q3.1, q3.2))) else (f_X12_in a2 (0 : Int32) (4 : Int32) σ).bind (fun q4 => (if (ab_b q4) = 0 then (f_X12_error (1 : Int32) σ).bind (fun q9 => (some (q9.1, q9.2))) else (if a2 = (4 : Int32) then (f_X12_levelOf a1 σ).bind (fun q8 => (some (q8, σ))) else ab_ck (ab_ib (((12 : Int32) + ((16 : Int32) * a2)) + a1) 450) ((some ((σ 86 ((((12 : Int32) + ((16 : Int32) * a2)) + a1)).toNatClampNeg), σ))))))))
set_option maxRecDepth 100000 in
set_option maxHeartbeats 4000000 in
theorem e_X12_landIs {sc : Nat × (Nat → Int32)} {r : Option Nat × Option Nat} {a1 : Int32} {a2 : Int32} {σ : ab_F} {res : (Int32 × ab_F)} (h : f_X12_landIs a1 a2 σ = some res) : ab_E mX12_landIs 2 sc 0 [some (.ref 85), some (.int a1), some (.int a2)] [] (σ, r) (fun v S => v = some (.int res.1) ∧ S = (res.2, r)) := by
  unfold f_X12_landIs at h
  refine z_iload_n (pc2 := 1) rfl dX12_landIs_0 rfl ?_
  obtain ⟨q1, hq1, h⟩ := ab_bnd h
  refine z_callSi [.int a1] [some (.int a1)] (pc2 := 4) rfl rfl dX12_landIs_1 ok_X12_isCell ⟨fun _ => rfl, fun _ => Nat.le_of_ble_eq_true rfl⟩ rfl wd_1110 wd_1111 rfl (e_X12_isCell hq1) ?_
  refine z_if_eq (pc2 := 7) (tgt := 16) rfl dX12_landIs_4 (by decide) (fun hc2 => ?_) (fun hc2 => ?_)
  · replace h := ab_pos hc2 h
    refine z_aload_n (pc2 := 17) rfl dX12_landIs_16 rfl ?_
    refine z_iconst (pc2 := 18) rfl dX12_landIs_17 lt_i_1 ?_
    obtain ⟨q3, hq3, h⟩ := ab_bnd h
    refine z_callVi 85 [.int (1 : Int32)] [some (.ref 85), some (.int (1 : Int32))] (pc2 := 21) rfl rfl dX12_landIs_18 ok_X12_error ⟨fun _ => rfl, fun _ => Nat.le_of_ble_eq_true rfl⟩ rfl rv_85 wd_1045 wd_1047 wd_16 rfl (e_X12_error hq3) ?_
    exact z_iret dX12_landIs_21 rfl rfl (fi_w h)
  · replace h := ab_neg hc2 h
    refine z_iload_n (pc2 := 8) rfl dX12_landIs_7 rfl ?_
    refine z_iconst (pc2 := 9) rfl dX12_landIs_8 lt_i_0 ?_
    refine z_iconst (pc2 := 10) rfl dX12_landIs_9 lt_i_4 ?_
    obtain ⟨q4, hq4, h⟩ := ab_bnd h
    refine z_callSi [.int a2, .int (0 : Int32), .int (4 : Int32)] [some (.int a2), some (.int (0 : Int32)), some (.int (4 : Int32))] (pc2 := 13) rfl rfl dX12_landIs_10 ok_X12_in ⟨fun _ => rfl, fun _ => Nat.le_of_ble_eq_true rfl⟩ rfl wd_1042 wd_1043 rfl (e_X12_in hq4) ?_
    refine z_if_ne (pc2 := 16) (tgt := 22) rfl dX12_landIs_13 (by decide) (fun hc5 => ?_) (fun hc5 => ?_)
    · replace h := ab_neg hc5 h
      refine z_iload_n (pc2 := 23) rfl dX12_landIs_22 rfl ?_
      refine z_iconst (pc2 := 24) rfl dX12_landIs_23 lt_i_4 ?_
      refine z_icmp_ne (pc2 := 27) (tgt := 35) rfl dX12_landIs_24 (by decide) (fun hc6 => ?_) (fun hc6 => ?_)
      · replace h := ab_neg hc6 h
        refine z_aload_n (pc2 := 36) rfl dX12_landIs_35 rfl ?_
        refine z_getR 85 12 0 86 (pc2 := 39) rfl dX12_landIs_36 rfl rfl ff_12_0 wd_977 rfl ?_
        refine z_bipush (pc2 := 41) rfl dX12_landIs_39 lt_b_12 ?_
        refine z_bipush (pc2 := 43) rfl dX12_landIs_41 lt_b_16 ?_
        refine z_iload_n (pc2 := 44) rfl dX12_landIs_43 rfl ?_
        refine z_imul (pc2 := 45) rfl dX12_landIs_44 ?_
        refine z_iadd (pc2 := 46) rfl dX12_landIs_45 ?_
        refine z_iload_n (pc2 := 47) rfl dX12_landIs_46 rfl ?_
        refine z_iadd (pc2 := 48) rfl dX12_landIs_47 ?_
        obtain ⟨hb7, h⟩ := ab_ck_e h
        refine z_iald 86 (pc2 := 49) (j := ((((12 : Int32) + ((16 : Int32) * a2)) + a1)).toNatClampNeg) rfl dX12_landIs_48 rfl rfl hb7 rfl ?_
        exact z_iret dX12_landIs_49 rfl rfl (fi_w h)
      · replace h := ab_pos hc6 h
        refine z_aload_n (pc2 := 28) rfl dX12_landIs_27 rfl ?_
        refine z_iload_n (pc2 := 29) rfl dX12_landIs_28 rfl ?_
        obtain ⟨q8, hq8, h⟩ := ab_bnd h
        refine z_callVi 85 [.int a1] [some (.ref 85), some (.int a1)] (pc2 := 32) rfl rfl dX12_landIs_29 ok_X12_levelOf ⟨fun _ => rfl, fun _ => Nat.le_of_ble_eq_true rfl⟩ rfl rv_85 wd_1204 wd_1206 wd_40 rfl (e_X12_levelOf hq8) ?_
        refine ab_goto (tgt := 49) dX12_landIs_32 (by decide) ?_
        exact z_iret dX12_landIs_49 rfl rfl (fi_w h)
    · replace h := ab_pos hc5 h
      refine z_aload_n (pc2 := 17) rfl dX12_landIs_16 rfl ?_
      refine z_iconst (pc2 := 18) rfl dX12_landIs_17 lt_i_1 ?_
      obtain ⟨q9, hq9, h⟩ := ab_bnd h
      refine z_callVi 85 [.int (1 : Int32)] [some (.ref 85), some (.int (1 : Int32))] (pc2 := 21) rfl rfl dX12_landIs_18 ok_X12_error ⟨fun _ => rfl, fun _ => Nat.le_of_ble_eq_true rfl⟩ rfl rv_85 wd_1045 wd_1047 wd_16 rfl (e_X12_error hq9) ?_
      exact z_iret dX12_landIs_21 rfl rfl (fi_w h)
def f_X12_rises (a1 : Int32) (a2 : Int32) (σ : ab_F) : Option (Int32 × ab_F) := (f_X12_in a1 (0 : Int32) (5 : Int32) σ).bind (fun q1 => (if (ab_b q1) = 0 then (f_X12_error (1 : Int32) σ).bind (fun q3 => (some (q3.1, q3.2))) else (f_X12_in a2 (0 : Int32) (9 : Int32) σ).bind (fun q4 => (if (ab_b q4) = 0 then (f_X12_error (1 : Int32) σ).bind (fun q6 => (some (q6.1, q6.2))) else (f_X12_change1 ((6 : Int32) + a1) a2 σ).bind (fun q7 => (some (q7.1, q7.2)))))))
set_option maxRecDepth 100000 in
set_option maxHeartbeats 4000000 in
theorem e_X12_rises {sc : Nat × (Nat → Int32)} {r : Option Nat × Option Nat} {a1 : Int32} {a2 : Int32} {σ : ab_F} {res : (Int32 × ab_F)} (h : f_X12_rises a1 a2 σ = some res) : ab_E mX12_rises 1 sc 0 [some (.ref 85), some (.int a1), some (.int a2)] [] (σ, r) (fun v S => v = some (.int res.1) ∧ S = (res.2, r)) := by
  unfold f_X12_rises at h
  refine z_iload_n (pc2 := 1) rfl dX12_rises_0 rfl ?_
  refine z_iconst (pc2 := 2) rfl dX12_rises_1 lt_i_0 ?_
  refine z_iconst (pc2 := 3) rfl dX12_rises_2 lt_i_5 ?_
  obtain ⟨q1, hq1, h⟩ := ab_bnd h
  refine z_callSi [.int a1, .int (0 : Int32), .int (5 : Int32)] [some (.int a1), some (.int (0 : Int32)), some (.int (5 : Int32))] (pc2 := 6) rfl rfl dX12_rises_3 ok_X12_in ⟨fun _ => rfl, fun _ => Nat.le_of_ble_eq_true rfl⟩ rfl wd_1042 wd_1043 rfl (e_X12_in hq1) ?_
  refine z_if_eq (pc2 := 9) (tgt := 31) rfl dX12_rises_6 (by decide) (fun hc2 => ?_) (fun hc2 => ?_)
  · replace h := ab_pos hc2 h
    refine z_aload_n (pc2 := 32) rfl dX12_rises_31 rfl ?_
    refine z_iconst (pc2 := 33) rfl dX12_rises_32 lt_i_1 ?_
    obtain ⟨q3, hq3, h⟩ := ab_bnd h
    refine z_callVi 85 [.int (1 : Int32)] [some (.ref 85), some (.int (1 : Int32))] (pc2 := 36) rfl rfl dX12_rises_33 ok_X12_error ⟨fun _ => rfl, fun _ => Nat.le_of_ble_eq_true rfl⟩ rfl rv_85 wd_1045 wd_1047 wd_16 rfl (e_X12_error hq3) ?_
    exact z_iret dX12_rises_36 rfl rfl (fi_w h)
  · replace h := ab_neg hc2 h
    refine z_iload_n (pc2 := 10) rfl dX12_rises_9 rfl ?_
    refine z_iconst (pc2 := 11) rfl dX12_rises_10 lt_i_0 ?_
    refine z_bipush (pc2 := 13) rfl dX12_rises_11 lt_b_9 ?_
    obtain ⟨q4, hq4, h⟩ := ab_bnd h
    refine z_callSi [.int a2, .int (0 : Int32), .int (9 : Int32)] [some (.int a2), some (.int (0 : Int32)), some (.int (9 : Int32))] (pc2 := 16) rfl rfl dX12_rises_13 ok_X12_in ⟨fun _ => rfl, fun _ => Nat.le_of_ble_eq_true rfl⟩ rfl wd_1042 wd_1043 rfl (e_X12_in hq4) ?_
    refine z_if_eq (pc2 := 19) (tgt := 31) rfl dX12_rises_16 (by decide) (fun hc5 => ?_) (fun hc5 => ?_)
    · replace h := ab_pos hc5 h
      refine z_aload_n (pc2 := 32) rfl dX12_rises_31 rfl ?_
      refine z_iconst (pc2 := 33) rfl dX12_rises_32 lt_i_1 ?_
      obtain ⟨q6, hq6, h⟩ := ab_bnd h
      refine z_callVi 85 [.int (1 : Int32)] [some (.ref 85), some (.int (1 : Int32))] (pc2 := 36) rfl rfl dX12_rises_33 ok_X12_error ⟨fun _ => rfl, fun _ => Nat.le_of_ble_eq_true rfl⟩ rfl rv_85 wd_1045 wd_1047 wd_16 rfl (e_X12_error hq6) ?_
      exact z_iret dX12_rises_36 rfl rfl (fi_w h)
    · replace h := ab_neg hc5 h
      refine z_aload_n (pc2 := 20) rfl dX12_rises_19 rfl ?_
      refine z_bipush (pc2 := 22) rfl dX12_rises_20 lt_b_6 ?_
      refine z_iload_n (pc2 := 23) rfl dX12_rises_22 rfl ?_
      refine z_iadd (pc2 := 24) rfl dX12_rises_23 ?_
      refine z_iload_n (pc2 := 25) rfl dX12_rises_24 rfl ?_
      obtain ⟨q7, hq7, h⟩ := ab_bnd h
      refine z_callVi 85 [.int ((6 : Int32) + a1), .int a2] [some (.ref 85), some (.int ((6 : Int32) + a1)), some (.int a2), none] (pc2 := 28) rfl rfl dX12_rises_25 ok_X12_change1 ⟨fun _ => rfl, fun _ => Nat.le_of_ble_eq_true rfl⟩ rfl rv_85 wd_1188 wd_1190 wd_39 rfl (e_X12_change1 hq7) ?_
      refine ab_goto (tgt := 36) dX12_rises_28 (by decide) ?_
      exact z_iret dX12_rises_36 rfl rfl (fi_w h)
def f_X12_springs (a1 : Int32) (σ : ab_F) : Option (Int32 × ab_F) := (f_X12_isCell a1 σ).bind (fun q1 => (if (ab_b q1) = 0 then (f_X12_error (1 : Int32) σ).bind (fun q3 => (some (q3.1, q3.2))) else (f_X12_change1 (1 : Int32) a1 σ).bind (fun q4 => (some (q4.1, q4.2)))))
set_option maxRecDepth 100000 in
set_option maxHeartbeats 4000000 in
theorem e_X12_springs {sc : Nat × (Nat → Int32)} {r : Option Nat × Option Nat} {a1 : Int32} {σ : ab_F} {res : (Int32 × ab_F)} (h : f_X12_springs a1 σ = some res) : ab_E mX12_springs 2 sc 0 [some (.ref 85), some (.int a1)] [] (σ, r) (fun v S => v = some (.int res.1) ∧ S = (res.2, r)) := by
  unfold f_X12_springs at h
  refine z_iload_n (pc2 := 1) rfl dX12_springs_0 rfl ?_
  obtain ⟨q1, hq1, h⟩ := ab_bnd h
  refine z_callSi [.int a1] [some (.int a1)] (pc2 := 4) rfl rfl dX12_springs_1 ok_X12_isCell ⟨fun _ => rfl, fun _ => Nat.le_of_ble_eq_true rfl⟩ rfl wd_1110 wd_1111 rfl (e_X12_isCell hq1) ?_
  refine z_if_eq (pc2 := 7) (tgt := 16) rfl dX12_springs_4 (by decide) (fun hc2 => ?_) (fun hc2 => ?_)
  · replace h := ab_pos hc2 h
    refine z_aload_n (pc2 := 17) rfl dX12_springs_16 rfl ?_
    refine z_iconst (pc2 := 18) rfl dX12_springs_17 lt_i_1 ?_
    obtain ⟨q3, hq3, h⟩ := ab_bnd h
    refine z_callVi 85 [.int (1 : Int32)] [some (.ref 85), some (.int (1 : Int32))] (pc2 := 21) rfl rfl dX12_springs_18 ok_X12_error ⟨fun _ => rfl, fun _ => Nat.le_of_ble_eq_true rfl⟩ rfl rv_85 wd_1045 wd_1047 wd_16 rfl (e_X12_error hq3) ?_
    exact z_iret dX12_springs_21 rfl rfl (fi_w h)
  · replace h := ab_neg hc2 h
    refine z_aload_n (pc2 := 8) rfl dX12_springs_7 rfl ?_
    refine z_iconst (pc2 := 9) rfl dX12_springs_8 lt_i_1 ?_
    refine z_iload_n (pc2 := 10) rfl dX12_springs_9 rfl ?_
    obtain ⟨q4, hq4, h⟩ := ab_bnd h
    refine z_callVi 85 [.int (1 : Int32), .int a1] [some (.ref 85), some (.int (1 : Int32)), some (.int a1), none] (pc2 := 13) rfl rfl dX12_springs_10 ok_X12_change1 ⟨fun _ => rfl, fun _ => Nat.le_of_ble_eq_true rfl⟩ rfl rv_85 wd_1188 wd_1190 wd_39 rfl (e_X12_change1 hq4) ?_
    refine ab_goto (tgt := 21) dX12_springs_13 (by decide) ?_
    exact z_iret dX12_springs_21 rfl rfl (fi_w h)
def f_X12_law (a1 : Int32) (a2 : Int32) (a3 : Int32) (a4 : Int32) (σ : ab_F) : Option (Int32 × ab_F) := (f_X12_in a1 (0 : Int32) (1 : Int32) σ).bind (fun q1 => (if (ab_b q1) = 0 then (f_X12_error (1 : Int32) σ).bind (fun q3 => (some (q3.1, q3.2))) else (f_X12_givenBy a1 a2 a3 a4 σ).bind (fun q4 => (some (q4.1, q4.2)))))
set_option maxRecDepth 100000 in
set_option maxHeartbeats 4000000 in
theorem e_X12_law {sc : Nat × (Nat → Int32)} {r : Option Nat × Option Nat} {a1 : Int32} {a2 : Int32} {a3 : Int32} {a4 : Int32} {σ : ab_F} {res : (Int32 × ab_F)} (h : f_X12_law a1 a2 a3 a4 σ = some res) : ab_E mX12_law 3 sc 0 [some (.ref 85), some (.int a1), some (.int a2), some (.int a3), some (.int a4)] [] (σ, r) (fun v S => v = some (.int res.1) ∧ S = (res.2, r)) := by
  unfold f_X12_law at h
  refine z_iload_n (pc2 := 1) rfl dX12_law_0 rfl ?_
  refine z_iconst (pc2 := 2) rfl dX12_law_1 lt_i_0 ?_
  refine z_iconst (pc2 := 3) rfl dX12_law_2 lt_i_1 ?_
  obtain ⟨q1, hq1, h⟩ := ab_bnd h
  refine z_callSi [.int a1, .int (0 : Int32), .int (1 : Int32)] [some (.int a1), some (.int (0 : Int32)), some (.int (1 : Int32))] (pc2 := 6) rfl rfl dX12_law_3 ok_X12_in ⟨fun _ => rfl, fun _ => Nat.le_of_ble_eq_true rfl⟩ rfl wd_1042 wd_1043 rfl (e_X12_in hq1) ?_
  refine z_if_eq (pc2 := 9) (tgt := 21) rfl dX12_law_6 (by decide) (fun hc2 => ?_) (fun hc2 => ?_)
  · replace h := ab_pos hc2 h
    refine z_aload_n (pc2 := 22) rfl dX12_law_21 rfl ?_
    refine z_iconst (pc2 := 23) rfl dX12_law_22 lt_i_1 ?_
    obtain ⟨q3, hq3, h⟩ := ab_bnd h
    refine z_callVi 85 [.int (1 : Int32)] [some (.ref 85), some (.int (1 : Int32))] (pc2 := 26) rfl rfl dX12_law_23 ok_X12_error ⟨fun _ => rfl, fun _ => Nat.le_of_ble_eq_true rfl⟩ rfl rv_85 wd_1045 wd_1047 wd_16 rfl (e_X12_error hq3) ?_
    exact z_iret dX12_law_26 rfl rfl (fi_w h)
  · replace h := ab_neg hc2 h
    refine z_aload_n (pc2 := 10) rfl dX12_law_9 rfl ?_
    refine z_iload_n (pc2 := 11) rfl dX12_law_10 rfl ?_
    refine z_iload_n (pc2 := 12) rfl dX12_law_11 rfl ?_
    refine z_iload_n (pc2 := 13) rfl dX12_law_12 rfl ?_
    refine z_iload (pc2 := 15) rfl dX12_law_13 rfl ?_
    obtain ⟨q4, hq4, h⟩ := ab_bnd h
    refine z_callVi 85 [.int a1, .int a2, .int a3, .int a4] [some (.ref 85), some (.int a1), some (.int a2), some (.int a3), some (.int a4), none] (pc2 := 18) rfl rfl dX12_law_15 ok_X12_givenBy ⟨fun _ => rfl, fun _ => Nat.le_of_ble_eq_true rfl⟩ rfl rv_85 wd_1148 wd_1150 wd_35 rfl (e_X12_givenBy hq4) ?_
    refine ab_goto (tgt := 26) dX12_law_18 (by decide) ?_
    exact z_iret dX12_law_26 rfl rfl (fi_w h)
def f_X12_days (a1 : Int32) (σ : ab_F) : Option (Int32 × ab_F) := (f_X12_in a1 (1 : Int32) (60 : Int32) σ).bind (fun q1 => (if (ab_b q1) = 0 then (f_X12_error (1 : Int32) σ).bind (fun q7 => (some (q7.1, q7.2))) else (if ((σ 86 0) + a1) ≤ (9999 : Int32) then (f_X12_goesOn a1 σ).bind (fun q4 => (f_X12_knownNow q4).bind (fun q5 => (some (q5, q4)))) else (f_X12_error (3 : Int32) σ).bind (fun q6 => (some (q6.1, q6.2))))))
set_option maxRecDepth 100000 in
set_option maxHeartbeats 4000000 in
theorem e_X12_days {sc : Nat × (Nat → Int32)} {r : Option Nat × Option Nat} {a1 : Int32} {σ : ab_F} {res : (Int32 × ab_F)} (h : f_X12_days a1 σ = some res) : ab_E mX12_days 7 sc 0 [some (.ref 85), some (.int a1)] [] (σ, r) (fun v S => v = some (.int res.1) ∧ S = (res.2, r)) := by
  unfold f_X12_days at h
  refine z_iload_n (pc2 := 1) rfl dX12_days_0 rfl ?_
  refine z_iconst (pc2 := 2) rfl dX12_days_1 lt_i_1 ?_
  refine z_bipush (pc2 := 4) rfl dX12_days_2 lt_b_60 ?_
  obtain ⟨q1, hq1, h⟩ := ab_bnd h
  refine z_callSi [.int a1, .int (1 : Int32), .int (60 : Int32)] [some (.int a1), some (.int (1 : Int32)), some (.int (60 : Int32))] (pc2 := 7) rfl rfl dX12_days_4 ok_X12_in ⟨fun _ => rfl, fun _ => Nat.le_of_ble_eq_true rfl⟩ rfl wd_1042 wd_1043 rfl (e_X12_in hq1) ?_
  refine z_if_ne (pc2 := 10) (tgt := 16) rfl dX12_days_7 (by decide) (fun hc2 => ?_) (fun hc2 => ?_)
  · replace h := ab_neg hc2 h
    refine z_aload_n (pc2 := 17) rfl dX12_days_16 rfl ?_
    refine z_getR 85 12 0 86 (pc2 := 20) rfl dX12_days_17 rfl rfl ff_12_0 wd_977 rfl ?_
    refine z_iconst (pc2 := 21) rfl dX12_days_20 lt_i_0 ?_
    refine z_iald 86 (pc2 := 22) (j := 0) rfl dX12_days_21 rfl rfl (by decide) (by decide) ?_
    refine z_iload_n (pc2 := 23) rfl dX12_days_22 rfl ?_
    refine z_iadd (pc2 := 24) rfl dX12_days_23 ?_
    refine z_sipush (pc2 := 27) rfl dX12_days_24 lt_s_9999 ?_
    refine z_icmp_le (pc2 := 30) (tgt := 36) rfl dX12_days_27 (by decide) (fun hc3 => ?_) (fun hc3 => ?_)
    · replace h := ab_pos hc3 h
      refine z_aload_n (pc2 := 37) rfl dX12_days_36 rfl ?_
      refine z_iload_n (pc2 := 38) rfl dX12_days_37 rfl ?_
      obtain ⟨q4, hq4, h⟩ := ab_bnd h
      refine z_callVv 85 [.int a1] [some (.ref 85), some (.int a1), none] (pc2 := 41) rfl rfl dX12_days_38 ok_X12_goesOn ⟨fun _ => rfl, fun _ => Nat.le_of_ble_eq_true rfl⟩ rfl rv_85 wd_1224 wd_1226 wd_41 rfl (e_X12_goesOn hq4) ?_
      refine z_aload_n (pc2 := 42) rfl dX12_days_41 rfl ?_
      obtain ⟨q5, hq5, h⟩ := ab_bnd h
      refine z_callVi 85 [] [some (.ref 85), none, none] (pc2 := 45) rfl rfl dX12_days_42 ok_X12_knownNow ⟨fun _ => rfl, fun _ => Nat.le_of_ble_eq_true rfl⟩ rfl rv_85 wd_1247 wd_1249 wd_46 rfl (e_X12_knownNow hq5) ?_
      exact z_iret dX12_days_45 rfl rfl (fi_w h)
    · replace h := ab_neg hc3 h
      refine z_aload_n (pc2 := 31) rfl dX12_days_30 rfl ?_
      refine z_iconst (pc2 := 32) rfl dX12_days_31 lt_i_3 ?_
      obtain ⟨q6, hq6, h⟩ := ab_bnd h
      refine z_callVi 85 [.int (3 : Int32)] [some (.ref 85), some (.int (3 : Int32))] (pc2 := 35) rfl rfl dX12_days_32 ok_X12_error ⟨fun _ => rfl, fun _ => Nat.le_of_ble_eq_true rfl⟩ rfl rv_85 wd_1045 wd_1047 wd_16 rfl (e_X12_error hq6) ?_
      exact z_iret dX12_days_35 rfl rfl (fi_w h)
  · replace h := ab_pos hc2 h
    refine z_aload_n (pc2 := 11) rfl dX12_days_10 rfl ?_
    refine z_iconst (pc2 := 12) rfl dX12_days_11 lt_i_1 ?_
    obtain ⟨q7, hq7, h⟩ := ab_bnd h
    refine z_callVi 85 [.int (1 : Int32)] [some (.ref 85), some (.int (1 : Int32))] (pc2 := 15) rfl rfl dX12_days_12 ok_X12_error ⟨fun _ => rfl, fun _ => Nat.le_of_ble_eq_true rfl⟩ rfl rv_85 wd_1045 wd_1047 wd_16 rfl (e_X12_error hq7) ?_
    exact z_iret dX12_days_15 rfl rfl (fi_w h)
def f_X12_draw (σ : ab_F) : Option (Int32 × ab_F) := ab_lt (ab_u σ 86 2 (((σ 86 2) * (1103515245 : Int32)) + (12345 : Int32))) (fun (s1 : ab_F) => (some ((((s1 86 2)).toUInt32 >>> (((8 : Int32)).toUInt32 &&& Int32.toUInt32 31)).toInt32, s1)))
set_option maxRecDepth 100000 in
set_option maxHeartbeats 4000000 in
theorem e_X12_draw {sc : Nat × (Nat → Int32)} {r : Option Nat × Option Nat} {σ : ab_F} {res : (Int32 × ab_F)} (h : f_X12_draw σ = some res) : ab_E mX12_draw 0 sc 0 [some (.ref 85)] [] (σ, r) (fun v S => v = some (.int res.1) ∧ S = (res.2, r)) := by
  unfold f_X12_draw at h
  refine z_aload_n (pc2 := 1) rfl dX12_draw_0 rfl ?_
  refine z_getR 85 12 0 86 (pc2 := 4) rfl dX12_draw_1 rfl rfl ff_12_0 wd_977 rfl ?_
  refine z_iconst (pc2 := 5) rfl dX12_draw_4 lt_i_2 ?_
  refine z_aload_n (pc2 := 6) rfl dX12_draw_5 rfl ?_
  refine z_getR 85 12 0 86 (pc2 := 9) rfl dX12_draw_6 rfl rfl ff_12_0 wd_977 rfl ?_
  refine z_iconst (pc2 := 10) rfl dX12_draw_9 lt_i_2 ?_
  refine z_iald 86 (pc2 := 11) (j := 2) rfl dX12_draw_10 rfl rfl (by decide) (by decide) ?_
  refine z_ldc (pc2 := 13) rfl dX12_draw_11 wd_1259 ?_
  refine z_imul (pc2 := 14) rfl dX12_draw_13 ?_
  refine z_sipush (pc2 := 17) rfl dX12_draw_14 lt_s_12345 ?_
  refine z_iadd (pc2 := 18) rfl dX12_draw_17 ?_
  refine z_iast 86 (pc2 := 19) (j := 2) rfl dX12_draw_18 rfl rfl (by decide) (by decide) ?_
  obtain ⟨s1, hs1, h⟩ := ab_lt_e h
  refine z_tops hs1 ?_
  refine z_aload_n (pc2 := 20) rfl dX12_draw_19 rfl ?_
  refine z_getR 85 12 0 86 (pc2 := 23) rfl dX12_draw_20 rfl rfl ff_12_0 wd_977 rfl ?_
  refine z_iconst (pc2 := 24) rfl dX12_draw_23 lt_i_2 ?_
  refine z_iald 86 (pc2 := 25) (j := 2) rfl dX12_draw_24 rfl rfl (by decide) (by decide) ?_
  refine z_bipush (pc2 := 27) rfl dX12_draw_25 lt_b_8 ?_
  refine z_iushr (pc2 := 28) rfl dX12_draw_27 ?_
  exact z_iret dX12_draw_28 rfl rfl (fi_w h)
def f_X12_loose_L38 (p1 : Int32) (K : ab_F → Option (Int32 × ab_F)) : Nat → Int32 → ab_F → Option (Int32 × ab_F)
  | 0, _, _ => none
  | n + 1, u2, σ => (if p1 ≤ u2 then (K σ) else (f_X12_draw σ).bind (fun q5 => ab_lt (ab_u q5.2 86 1 (q5.1 - q5.1 / (16 : Int32) * (16 : Int32))) (fun (s6 : ab_F) => (f_X12_draw s6).bind (fun q7 => ab_ck (ab_ib ((6 : Int32) + ((s6 86 0) - (s6 86 0) / (6 : Int32) * (6 : Int32))) 450) (ab_lt (ab_u q7.2 86 (((6 : Int32) + ((s6 86 0) - (s6 86 0) / (6 : Int32) * (6 : Int32)))).toNatClampNeg (q7.1 - q7.1 / (10 : Int32) * (10 : Int32))) (fun (s9 : ab_F) => (f_X12_day1 s9).bind (fun q10 => ab_lt (u2 + (1 : Int32)) (fun x11 => (f_X12_loose_L38 p1 K n x11 q10)))))))))
set_option maxRecDepth 100000 in
set_option maxHeartbeats 4000000 in
theorem e_X12_loose_L38 {sc : Nat × (Nat → Int32)} {r : Option Nat × Option Nat} {p1 : Int32} {K : ab_F → Option (Int32 × ab_F)} {res : (Int32 × ab_F)} (hK : ∀ (σ : ab_F), K σ = some res → ab_E mX12_loose 6 sc 90 [some (.ref 85), none, none] [] (σ, r) (fun v S => v = some (.int res.1) ∧ S = (res.2, r))) : ∀ (n : Nat) (u2 : Int32) (σ : ab_F), f_X12_loose_L38 p1 K n u2 σ = some res → ab_E mX12_loose 6 sc 38 [some (.ref 85), some (.int p1), some (.int u2)] [] (σ, r) (fun v S => v = some (.int res.1) ∧ S = (res.2, r)) := by
  intro n
  induction n with
  | zero =>
    intro u2 σ h
    rw [f_X12_loose_L38] at h
    cases h
  | succ n ih =>
    intro u2 σ h
    rw [f_X12_loose_L38] at h
    refine z_iload_n (pc2 := 39) rfl dX12_loose_38 rfl ?_
    refine z_iload_n (pc2 := 40) rfl dX12_loose_39 rfl ?_
    refine z_icmp_ge (pc2 := 43) (tgt := 90) rfl dX12_loose_40 (by decide) (fun hc4 => ?_) (fun hc4 => ?_)
    · replace h := ab_pos hc4 h
      refine z_fgt [true, false, false] (L2 := [some (.ref 85), none, none]) rfl ?_
      exact hK  _ h
    · replace h := ab_neg hc4 h
      refine z_aload_n (pc2 := 44) rfl dX12_loose_43 rfl ?_
      refine z_getR 85 12 0 86 (pc2 := 47) rfl dX12_loose_44 rfl rfl ff_12_0 wd_977 rfl ?_
      refine z_iconst (pc2 := 48) rfl dX12_loose_47 lt_i_1 ?_
      refine z_aload_n (pc2 := 49) rfl dX12_loose_48 rfl ?_
      obtain ⟨q5, hq5, h⟩ := ab_bnd h
      refine z_callVi 85 [] [some (.ref 85)] (pc2 := 52) rfl rfl dX12_loose_49 ok_X12_draw ⟨fun _ => rfl, fun _ => Nat.le_of_ble_eq_true rfl⟩ rfl rv_85 wd_1255 wd_1257 wd_47 rfl (e_X12_draw hq5) ?_
      refine z_bipush (pc2 := 54) rfl dX12_loose_52 lt_b_16 ?_
      refine z_irem (pc2 := 55) rfl dX12_loose_54 (by decide) ?_
      refine z_iast 86 (pc2 := 56) (j := 1) rfl dX12_loose_55 rfl rfl (by decide) (by decide) ?_
      obtain ⟨s6, hs6, h⟩ := ab_lt_e h
      refine z_tops hs6 ?_
      refine z_aload_n (pc2 := 57) rfl dX12_loose_56 rfl ?_
      refine z_getR 85 12 0 86 (pc2 := 60) rfl dX12_loose_57 rfl rfl ff_12_0 wd_977 rfl ?_
      refine z_bipush (pc2 := 62) rfl dX12_loose_60 lt_b_6 ?_
      refine z_aload_n (pc2 := 63) rfl dX12_loose_62 rfl ?_
      refine z_getR 85 12 0 86 (pc2 := 66) rfl dX12_loose_63 rfl rfl ff_12_0 wd_977 rfl ?_
      refine z_iconst (pc2 := 67) rfl dX12_loose_66 lt_i_0 ?_
      refine z_iald 86 (pc2 := 68) (j := 0) rfl dX12_loose_67 rfl rfl (by decide) (by decide) ?_
      refine z_bipush (pc2 := 70) rfl dX12_loose_68 lt_b_6 ?_
      refine z_irem (pc2 := 71) rfl dX12_loose_70 (by decide) ?_
      refine z_iadd (pc2 := 72) rfl dX12_loose_71 ?_
      refine z_aload_n (pc2 := 73) rfl dX12_loose_72 rfl ?_
      obtain ⟨q7, hq7, h⟩ := ab_bnd h
      refine z_callVi 85 [] [some (.ref 85)] (pc2 := 76) rfl rfl dX12_loose_73 ok_X12_draw ⟨fun _ => rfl, fun _ => Nat.le_of_ble_eq_true rfl⟩ rfl rv_85 wd_1255 wd_1257 wd_47 rfl (e_X12_draw hq7) ?_
      refine z_bipush (pc2 := 78) rfl dX12_loose_76 lt_b_10 ?_
      refine z_irem (pc2 := 79) rfl dX12_loose_78 (by decide) ?_
      obtain ⟨hb8, h⟩ := ab_ck_e h
      refine z_iast 86 (pc2 := 80) (j := (((6 : Int32) + ((s6 86 0) - (s6 86 0) / (6 : Int32) * (6 : Int32)))).toNatClampNeg) rfl dX12_loose_79 rfl rfl hb8 rfl ?_
      obtain ⟨s9, hs9, h⟩ := ab_lt_e h
      refine z_tops hs9 ?_
      refine z_aload_n (pc2 := 81) rfl dX12_loose_80 rfl ?_
      obtain ⟨q10, hq10, h⟩ := ab_bnd h
      refine z_callVv 85 [] [some (.ref 85), none, none, none] (pc2 := 84) rfl rfl dX12_loose_81 ok_X12_day1 ⟨fun _ => rfl, fun _ => Nat.le_of_ble_eq_true rfl⟩ rfl rv_85 wd_1228 wd_1230 wd_42 rfl (e_X12_day1 hq10) ?_
      obtain ⟨x11, hxx11, h⟩ := ab_lt_e h
      refine z_iinc (pc2 := 87) (v := x11) (L2 := [some (.ref 85), some (.int p1), some (.int x11)]) rfl dX12_loose_84 rfl (by rw [hxx11]; rfl) (by decide) rfl rfl ?_
      refine ab_goto (tgt := 38) dX12_loose_87 (by decide) ?_
      refine z_fgt [true, true, true] (L2 := [some (.ref 85), some (.int p1), some (.int x11)]) rfl ?_
      exact ih _ _ h
def f_X12_loose (a1 : Int32) (σ : ab_F) : Option (Int32 × ab_F) := (f_X12_in a1 (1 : Int32) (30 : Int32) σ).bind (fun q1 => (if (ab_b q1) = 0 then (f_X12_error (1 : Int32) σ).bind (fun q15 => (some (q15.1, q15.2))) else (if ((σ 86 0) + a1) ≤ (9999 : Int32) then (f_X12_loose_L38 a1 (fun (s12 : ab_F) => (f_X12_knownNow s12).bind (fun q13 => (some (q13, s12)))) ab_fu (0 : Int32) σ) else (f_X12_error (3 : Int32) σ).bind (fun q14 => (some (q14.1, q14.2))))))
set_option maxRecDepth 100000 in
set_option maxHeartbeats 4000000 in
theorem e_X12_loose {sc : Nat × (Nat → Int32)} {r : Option Nat × Option Nat} {a1 : Int32} {σ : ab_F} {res : (Int32 × ab_F)} (h : f_X12_loose a1 σ = some res) : ab_E mX12_loose 6 sc 0 [some (.ref 85), some (.int a1), none] [] (σ, r) (fun v S => v = some (.int res.1) ∧ S = (res.2, r)) := by
  unfold f_X12_loose at h
  refine z_iload_n (pc2 := 1) rfl dX12_loose_0 rfl ?_
  refine z_iconst (pc2 := 2) rfl dX12_loose_1 lt_i_1 ?_
  refine z_bipush (pc2 := 4) rfl dX12_loose_2 lt_b_30 ?_
  obtain ⟨q1, hq1, h⟩ := ab_bnd h
  refine z_callSi [.int a1, .int (1 : Int32), .int (30 : Int32)] [some (.int a1), some (.int (1 : Int32)), some (.int (30 : Int32))] (pc2 := 7) rfl rfl dX12_loose_4 ok_X12_in ⟨fun _ => rfl, fun _ => Nat.le_of_ble_eq_true rfl⟩ rfl wd_1042 wd_1043 rfl (e_X12_in hq1) ?_
  refine z_if_ne (pc2 := 10) (tgt := 16) rfl dX12_loose_7 (by decide) (fun hc2 => ?_) (fun hc2 => ?_)
  · replace h := ab_neg hc2 h
    refine z_aload_n (pc2 := 17) rfl dX12_loose_16 rfl ?_
    refine z_getR 85 12 0 86 (pc2 := 20) rfl dX12_loose_17 rfl rfl ff_12_0 wd_977 rfl ?_
    refine z_iconst (pc2 := 21) rfl dX12_loose_20 lt_i_0 ?_
    refine z_iald 86 (pc2 := 22) (j := 0) rfl dX12_loose_21 rfl rfl (by decide) (by decide) ?_
    refine z_iload_n (pc2 := 23) rfl dX12_loose_22 rfl ?_
    refine z_iadd (pc2 := 24) rfl dX12_loose_23 ?_
    refine z_sipush (pc2 := 27) rfl dX12_loose_24 lt_s_9999 ?_
    refine z_icmp_le (pc2 := 30) (tgt := 36) rfl dX12_loose_27 (by decide) (fun hc3 => ?_) (fun hc3 => ?_)
    · replace h := ab_pos hc3 h
      refine z_iconst (pc2 := 37) rfl dX12_loose_36 lt_i_0 ?_
      refine z_istore_n (pc2 := 38) (L2 := [some (.ref 85), some (.int a1), some (.int (0 : Int32))]) rfl dX12_loose_37 (by decide) rfl rfl ?_
      refine z_fgt [true, true, true] (L2 := [some (.ref 85), some (.int a1), some (.int (0 : Int32))]) rfl ?_
      refine e_X12_loose_L38 (fun s12 h => ?_) _ _ _ h
      refine z_aload_n (pc2 := 91) rfl dX12_loose_90 rfl ?_
      obtain ⟨q13, hq13, h⟩ := ab_bnd h
      refine z_callVi 85 [] [some (.ref 85), none, none] (pc2 := 94) rfl rfl dX12_loose_91 ok_X12_knownNow ⟨fun _ => rfl, fun _ => Nat.le_of_ble_eq_true rfl⟩ rfl rv_85 wd_1247 wd_1249 wd_46 rfl (e_X12_knownNow hq13) ?_
      exact z_iret dX12_loose_94 rfl rfl (fi_w h)
    · replace h := ab_neg hc3 h
      refine z_aload_n (pc2 := 31) rfl dX12_loose_30 rfl ?_
      refine z_iconst (pc2 := 32) rfl dX12_loose_31 lt_i_3 ?_
      obtain ⟨q14, hq14, h⟩ := ab_bnd h
      refine z_callVi 85 [.int (3 : Int32)] [some (.ref 85), some (.int (3 : Int32))] (pc2 := 35) rfl rfl dX12_loose_32 ok_X12_error ⟨fun _ => rfl, fun _ => Nat.le_of_ble_eq_true rfl⟩ rfl rv_85 wd_1045 wd_1047 wd_16 rfl (e_X12_error hq14) ?_
      exact z_iret dX12_loose_35 rfl rfl (fi_w h)
  · replace h := ab_pos hc2 h
    refine z_aload_n (pc2 := 11) rfl dX12_loose_10 rfl ?_
    refine z_iconst (pc2 := 12) rfl dX12_loose_11 lt_i_1 ?_
    obtain ⟨q15, hq15, h⟩ := ab_bnd h
    refine z_callVi 85 [.int (1 : Int32)] [some (.ref 85), some (.int (1 : Int32))] (pc2 := 15) rfl rfl dX12_loose_12 ok_X12_error ⟨fun _ => rfl, fun _ => Nat.le_of_ble_eq_true rfl⟩ rfl rv_85 wd_1045 wd_1047 wd_16 rfl (e_X12_error hq15) ?_
    exact z_iret dX12_loose_15 rfl rfl (fi_w h)
