set_option maxRecDepth 100000 in
set_option maxHeartbeats 4000000 in
theorem e_X11_voice {sc : Nat × (Nat → Int32)} {r : Option Nat × Option Nat} {a1 : Int32} {a2 : Int32} {a3 : Int32} {σ : ab_F} {res : (Int32 × ab_F)} (h : f_X11_voice a1 a2 a3 σ = some res) : ab_E mX11_voice 7 sc 0 [some (.ref 8), some (.int a1), some (.int a2), some (.int a3), none, none] [] (σ, r) (fun v S => v = some (.int res.1) ∧ S = (res.2, r)) := by
  unfold f_X11_voice at h
  refine z_aload_n (pc2 := 1) rfl dX11_voice_0 rfl ?_
  refine z_iload_n (pc2 := 2) rfl dX11_voice_1 rfl ?_
  obtain ⟨q1, hq1, h⟩ := ab_bnd h
  refine z_callVi 8 [.int a1] [some (.ref 8), some (.int a1)] (pc2 := 5) rfl rfl dX11_voice_2 ok_X11_nobody ⟨fun _ => rfl, fun _ => Nat.le_of_ble_eq_true rfl⟩ rfl rv_8 wd_359 wd_361 wd_1 rfl (e_X11_nobody hq1) ?_
  refine z_if_ne (pc2 := 8) (tgt := 16) rfl dX11_voice_5 (by decide) (fun hc2 => ?_) (fun hc2 => ?_)
  · replace h := ab_neg hc2 h
    refine z_aload_n (pc2 := 17) rfl dX11_voice_16 rfl ?_
    refine z_iconst (pc2 := 18) rfl dX11_voice_17 lt_i_1 ?_
    obtain ⟨q3, hq3, h⟩ := ab_bnd h
    refine z_callVi 8 [.int (1 : Int32)] [some (.ref 8), some (.int (1 : Int32))] (pc2 := 21) rfl rfl dX11_voice_18 ok_X11_refuse ⟨fun _ => rfl, fun _ => Nat.le_of_ble_eq_true rfl⟩ rfl rv_8 wd_346 wd_348 wd_0 rfl (e_X11_refuse hq3) ?_
    exact z_iret dX11_voice_21 rfl rfl (fi_w h)
  · replace h := ab_pos hc2 h
    refine z_iload_n (pc2 := 9) rfl dX11_voice_8 rfl ?_
    refine z_iconst (pc2 := 10) rfl dX11_voice_9 lt_i_3 ?_
    obtain ⟨q4, hq4, h⟩ := ab_bnd h
    refine z_callSi [.int a2, .int (3 : Int32)] [some (.int a2), some (.int (3 : Int32))] (pc2 := 13) rfl rfl dX11_voice_10 ok_X11_outside ⟨fun _ => rfl, fun _ => Nat.le_of_ble_eq_true rfl⟩ rfl wd_343 wd_344 rfl (e_X11_outside hq4) ?_
    refine z_if_eq (pc2 := 16) (tgt := 22) rfl dX11_voice_13 (by decide) (fun hc5 => ?_) (fun hc5 => ?_)
    · replace h := ab_pos hc5 h
      refine z_aload_n (pc2 := 23) rfl dX11_voice_22 rfl ?_
      refine z_getR 8 11 9 21 (pc2 := 26) rfl dX11_voice_23 rfl rfl ff_11_9 wd_311 rfl ?_
      refine z_iload_n (pc2 := 27) rfl dX11_voice_26 rfl ?_
      refine z_aload_n (pc2 := 28) rfl dX11_voice_27 rfl ?_
      refine z_getR 8 11 0 38 (pc2 := 31) rfl dX11_voice_28 rfl rfl ff_11_0 wd_302 rfl ?_
      refine z_getR 38 9 13 45 (pc2 := 34) rfl dX11_voice_31 rfl rfl ff_9_13 wd_258 rfl ?_
      refine z_iload_n (pc2 := 35) rfl dX11_voice_34 rfl ?_
      obtain ⟨hb6, h⟩ := ab_ck_e h
      refine z_iald 45 (pc2 := 36) (j := (a1).toNatClampNeg) rfl dX11_voice_35 rfl rfl hb6 rfl ?_
      obtain ⟨q7, hq7, h⟩ := ab_bnd h
      refine z_callVv 21 [.int a1, .int (σ 45 (a1).toNatClampNeg)] [some (.ref 21), some (.int a1), some (.int (σ 45 (a1).toNatClampNeg))] (pc2 := 39) rfl rfl dX11_voice_36 ok_X8_opens ⟨fun _ => rfl, fun _ => Nat.le_of_ble_eq_true rfl⟩ rfl rv_21 wd_802 wd_803 wd_804 rfl (e_X8_opens hq7) ?_
      refine z_aload_n (pc2 := 40) rfl dX11_voice_39 rfl ?_
      refine z_getR 8 11 0 38 (pc2 := 43) rfl dX11_voice_40 rfl rfl ff_11_0 wd_302 rfl ?_
      refine z_getR 38 9 0 24 (pc2 := 46) rfl dX11_voice_43 rfl rfl ff_9_0 wd_229 rfl ?_
      refine z_aload_n (pc2 := 47) rfl dX11_voice_46 rfl ?_
      refine z_getR 8 11 0 38 (pc2 := 50) rfl dX11_voice_47 rfl rfl ff_11_0 wd_302 rfl ?_
      refine z_getR 38 9 12 44 (pc2 := 53) rfl dX11_voice_50 rfl rfl ff_9_12 wd_253 rfl ?_
      refine z_iload_n (pc2 := 54) rfl dX11_voice_53 rfl ?_
      obtain ⟨hb8, h⟩ := ab_ck_e h
      refine z_iald 44 (pc2 := 55) (j := (a1).toNatClampNeg) rfl dX11_voice_54 rfl rfl hb8 rfl ?_
      by_cases hi28 : (q7 44 (a1).toNatClampNeg) = (0 : Int32)
      · replace h := ab_pos hi28 h
        refine z_aaldG 24 25 (pc2 := 56) rfl dX11_voice_55 rfl rfl (by rw [hi28]; rfl) (by rw [hi28]; rfl) ?_
        refine z_astore (pc2 := 58) (L2 := [some (.ref 8), some (.int a1), some (.int a2), some (.int a3), some (.ref 25), none]) rfl dX11_voice_56 (by decide) rfl rfl ?_
        refine z_iload_n (pc2 := 59) rfl dX11_voice_58 rfl ?_
        by_cases hc9 : a2 = (0 : Int32)
        · replace h := ab_pos hc9 h
          refine ab_tsIn (tgt := 84) dX11_voice_59 (by rw [hc9]; decide) (by rw [hc9]; decide) (by rw [hc9]; rfl) (by decide) ?_
          refine z_aload (pc2 := 86) rfl dX11_voice_84 rfl ?_
          refine z_aload_n (pc2 := 87) rfl dX11_voice_86 rfl ?_
          refine z_getR 8 11 9 21 (pc2 := 90) rfl dX11_voice_87 rfl rfl ff_11_9 wd_311 rfl ?_
          refine z_iload_n (pc2 := 91) rfl dX11_voice_90 rfl ?_
          obtain ⟨q10, hq10, h⟩ := ab_bnd h
          refine z_callVi 25 [.ref 21, .int a3] [some (.ref 25), some (.ref 21), some (.int a3)] (pc2 := 94) rfl rfl dX11_voice_91 ok_X2_wades ⟨fun _ => rfl, fun _ => Nat.le_of_ble_eq_true rfl⟩ rfl rv_25 wd_806 wd_807 wd_808 rfl (e_X2_wades_25 hq10) ?_
          obtain ⟨x11, hxx11, h⟩ := ab_lt_e h
          refine z_top hxx11 ?_
          refine z_istore (pc2 := 96) (L2 := [some (.ref 8), some (.int a1), some (.int a2), some (.int a3), some (.ref 25), some (.int x11)]) rfl dX11_voice_94 (by decide) rfl rfl ?_
          refine ab_goto (tgt := 141) dX11_voice_96 (by decide) ?_
          refine z_aload_n (pc2 := 142) rfl dX11_voice_141 rfl ?_
          refine z_getR 8 11 9 21 (pc2 := 145) rfl dX11_voice_142 rfl rfl ff_11_9 wd_311 rfl ?_
          refine z_getI 21 8 2 (pc2 := 148) rfl dX11_voice_145 rfl rfl ff_8_2 wd_156 ?_
          refine z_if_eq (pc2 := 151) (tgt := 160) rfl dX11_voice_148 (by decide) (fun hc12 => ?_) (fun hc12 => ?_)
          · replace h := ab_pos hc12 h
            refine z_iload (pc2 := 162) rfl dX11_voice_160 rfl ?_
            exact z_iret dX11_voice_162 rfl rfl (fi_w h)
          · replace h := ab_neg hc12 h
            refine z_aload_n (pc2 := 152) rfl dX11_voice_151 rfl ?_
            refine z_bipush (pc2 := 154) rfl dX11_voice_152 lt_b_6 ?_
            obtain ⟨q13, hq13, h⟩ := ab_bnd h
            refine z_callVi 8 [.int (6 : Int32)] [some (.ref 8), some (.int (6 : Int32))] (pc2 := 157) rfl rfl dX11_voice_154 ok_X11_refuse ⟨fun _ => rfl, fun _ => Nat.le_of_ble_eq_true rfl⟩ rfl rv_8 wd_346 wd_348 wd_0 rfl (e_X11_refuse hq13) ?_
            refine ab_goto (tgt := 162) dX11_voice_157 (by decide) ?_
            exact z_iret dX11_voice_162 rfl rfl (fi_w h)
        · replace h := ab_neg hc9 h
          by_cases hc14 : a2 = (1 : Int32)
          · replace h := ab_pos hc14 h
            refine ab_tsIn (tgt := 99) dX11_voice_59 (by rw [hc14]; decide) (by rw [hc14]; decide) (by rw [hc14]; rfl) (by decide) ?_
            refine z_aload (pc2 := 101) rfl dX11_voice_99 rfl ?_
            refine z_aload_n (pc2 := 102) rfl dX11_voice_101 rfl ?_
            refine z_getR 8 11 9 21 (pc2 := 105) rfl dX11_voice_102 rfl rfl ff_11_9 wd_311 rfl ?_
            refine z_iload_n (pc2 := 106) rfl dX11_voice_105 rfl ?_
            obtain ⟨q15, hq15, h⟩ := ab_bnd h
            refine z_callVi 25 [.ref 21, .int a3] [some (.ref 25), some (.ref 21), some (.int a3)] (pc2 := 109) rfl rfl dX11_voice_106 ok_X2_knows ⟨fun _ => rfl, fun _ => Nat.le_of_ble_eq_true rfl⟩ rfl rv_25 wd_832 wd_833 wd_834 rfl (e_X2_knows_25 hq15) ?_
            obtain ⟨x16, hxx16, h⟩ := ab_lt_e h
            refine z_top hxx16 ?_
            refine z_istore (pc2 := 111) (L2 := [some (.ref 8), some (.int a1), some (.int a2), some (.int a3), some (.ref 25), some (.int x16)]) rfl dX11_voice_109 (by decide) rfl rfl ?_
            refine ab_goto (tgt := 141) dX11_voice_111 (by decide) ?_
            refine z_aload_n (pc2 := 142) rfl dX11_voice_141 rfl ?_
            refine z_getR 8 11 9 21 (pc2 := 145) rfl dX11_voice_142 rfl rfl ff_11_9 wd_311 rfl ?_
            refine z_getI 21 8 2 (pc2 := 148) rfl dX11_voice_145 rfl rfl ff_8_2 wd_156 ?_
            refine z_if_eq (pc2 := 151) (tgt := 160) rfl dX11_voice_148 (by decide) (fun hc17 => ?_) (fun hc17 => ?_)
            · replace h := ab_pos hc17 h
              refine z_iload (pc2 := 162) rfl dX11_voice_160 rfl ?_
              exact z_iret dX11_voice_162 rfl rfl (fi_w h)
            · replace h := ab_neg hc17 h
              refine z_aload_n (pc2 := 152) rfl dX11_voice_151 rfl ?_
              refine z_bipush (pc2 := 154) rfl dX11_voice_152 lt_b_6 ?_
              obtain ⟨q18, hq18, h⟩ := ab_bnd h
              refine z_callVi 8 [.int (6 : Int32)] [some (.ref 8), some (.int (6 : Int32))] (pc2 := 157) rfl rfl dX11_voice_154 ok_X11_refuse ⟨fun _ => rfl, fun _ => Nat.le_of_ble_eq_true rfl⟩ rfl rv_8 wd_346 wd_348 wd_0 rfl (e_X11_refuse hq18) ?_
              refine ab_goto (tgt := 162) dX11_voice_157 (by decide) ?_
              exact z_iret dX11_voice_162 rfl rfl (fi_w h)
          · replace h := ab_neg hc14 h
            by_cases hc19 : a2 = (2 : Int32)
            · replace h := ab_pos hc19 h
              refine ab_tsIn (tgt := 114) dX11_voice_59 (by rw [hc19]; decide) (by rw [hc19]; decide) (by rw [hc19]; rfl) (by decide) ?_
              refine z_aload (pc2 := 116) rfl dX11_voice_114 rfl ?_
              refine z_aload_n (pc2 := 117) rfl dX11_voice_116 rfl ?_
              refine z_getR 8 11 9 21 (pc2 := 120) rfl dX11_voice_117 rfl rfl ff_11_9 wd_311 rfl ?_
              refine z_iload_n (pc2 := 121) rfl dX11_voice_120 rfl ?_
              obtain ⟨q20, hq20, h⟩ := ab_bnd h
              refine z_callVi 25 [.ref 21, .int a3] [some (.ref 25), some (.ref 21), some (.int a3)] (pc2 := 124) rfl rfl dX11_voice_121 ok_X2_sits ⟨fun _ => rfl, fun _ => Nat.le_of_ble_eq_true rfl⟩ rfl rv_25 wd_855 wd_856 wd_857 rfl (e_X2_sits_25 hq20) ?_
              obtain ⟨x21, hxx21, h⟩ := ab_lt_e h
              refine z_top hxx21 ?_
              refine z_istore (pc2 := 126) (L2 := [some (.ref 8), some (.int a1), some (.int a2), some (.int a3), some (.ref 25), some (.int x21)]) rfl dX11_voice_124 (by decide) rfl rfl ?_
              refine ab_goto (tgt := 141) dX11_voice_126 (by decide) ?_
              refine z_aload_n (pc2 := 142) rfl dX11_voice_141 rfl ?_
              refine z_getR 8 11 9 21 (pc2 := 145) rfl dX11_voice_142 rfl rfl ff_11_9 wd_311 rfl ?_
              refine z_getI 21 8 2 (pc2 := 148) rfl dX11_voice_145 rfl rfl ff_8_2 wd_156 ?_
              refine z_if_eq (pc2 := 151) (tgt := 160) rfl dX11_voice_148 (by decide) (fun hc22 => ?_) (fun hc22 => ?_)
              · replace h := ab_pos hc22 h
                refine z_iload (pc2 := 162) rfl dX11_voice_160 rfl ?_
                exact z_iret dX11_voice_162 rfl rfl (fi_w h)
              · replace h := ab_neg hc22 h
                refine z_aload_n (pc2 := 152) rfl dX11_voice_151 rfl ?_
                refine z_bipush (pc2 := 154) rfl dX11_voice_152 lt_b_6 ?_
                obtain ⟨q23, hq23, h⟩ := ab_bnd h
                refine z_callVi 8 [.int (6 : Int32)] [some (.ref 8), some (.int (6 : Int32))] (pc2 := 157) rfl rfl dX11_voice_154 ok_X11_refuse ⟨fun _ => rfl, fun _ => Nat.le_of_ble_eq_true rfl⟩ rfl rv_8 wd_346 wd_348 wd_0 rfl (e_X11_refuse hq23) ?_
                refine ab_goto (tgt := 162) dX11_voice_157 (by decide) ?_
                exact z_iret dX11_voice_162 rfl rfl (fi_w h)
            · replace h := ab_neg hc19 h
              have thc9 := ab_ne_toInt (k := 0) hc9 (by decide)
              have thc14 := ab_ne_toInt (k := 1) hc14 (by decide)
              have thc19 := ab_ne_toInt (k := 2) hc19 (by decide)
              refine ab_tsOut (tgt := 129) dX11_voice_59 (by omega) (by decide) ?_
              refine z_aload (pc2 := 131) rfl dX11_voice_129 rfl ?_
              refine z_aload_n (pc2 := 132) rfl dX11_voice_131 rfl ?_
              refine z_getR 8 11 9 21 (pc2 := 135) rfl dX11_voice_132 rfl rfl ff_11_9 wd_311 rfl ?_
              refine z_iload_n (pc2 := 136) rfl dX11_voice_135 rfl ?_
              obtain ⟨q24, hq24, h⟩ := ab_bnd h
              refine z_callVi 25 [.ref 21, .int a3] [some (.ref 25), some (.ref 21), some (.int a3), none] (pc2 := 139) rfl rfl dX11_voice_136 ok_X2_parts ⟨fun _ => rfl, fun _ => Nat.le_of_ble_eq_true rfl⟩ rfl rv_25 wd_876 wd_877 wd_878 rfl (e_X2_parts_25 hq24) ?_
              obtain ⟨x25, hxx25, h⟩ := ab_lt_e h
              refine z_top hxx25 ?_
              refine z_istore (pc2 := 141) (L2 := [some (.ref 8), some (.int a1), some (.int a2), some (.int a3), some (.ref 25), some (.int x25)]) rfl dX11_voice_139 (by decide) rfl rfl ?_
              refine z_aload_n (pc2 := 142) rfl dX11_voice_141 rfl ?_
              refine z_getR 8 11 9 21 (pc2 := 145) rfl dX11_voice_142 rfl rfl ff_11_9 wd_311 rfl ?_
              refine z_getI 21 8 2 (pc2 := 148) rfl dX11_voice_145 rfl rfl ff_8_2 wd_156 ?_
              refine z_if_eq (pc2 := 151) (tgt := 160) rfl dX11_voice_148 (by decide) (fun hc26 => ?_) (fun hc26 => ?_)
              · replace h := ab_pos hc26 h
                refine z_iload (pc2 := 162) rfl dX11_voice_160 rfl ?_
                exact z_iret dX11_voice_162 rfl rfl (fi_w h)
              · replace h := ab_neg hc26 h
                refine z_aload_n (pc2 := 152) rfl dX11_voice_151 rfl ?_
                refine z_bipush (pc2 := 154) rfl dX11_voice_152 lt_b_6 ?_
                obtain ⟨q27, hq27, h⟩ := ab_bnd h
                refine z_callVi 8 [.int (6 : Int32)] [some (.ref 8), some (.int (6 : Int32))] (pc2 := 157) rfl rfl dX11_voice_154 ok_X11_refuse ⟨fun _ => rfl, fun _ => Nat.le_of_ble_eq_true rfl⟩ rfl rv_8 wd_346 wd_348 wd_0 rfl (e_X11_refuse hq27) ?_
                refine ab_goto (tgt := 162) dX11_voice_157 (by decide) ?_
                exact z_iret dX11_voice_162 rfl rfl (fi_w h)
      · replace h := ab_neg hi28 h
        by_cases hi48 : (q7 44 (a1).toNatClampNeg) = (1 : Int32)
        · replace h := ab_pos hi48 h
          refine z_aaldG 24 26 (pc2 := 56) rfl dX11_voice_55 rfl rfl (by rw [hi48]; rfl) (by rw [hi48]; rfl) ?_
          refine z_astore (pc2 := 58) (L2 := [some (.ref 8), some (.int a1), some (.int a2), some (.int a3), some (.ref 26), none]) rfl dX11_voice_56 (by decide) rfl rfl ?_
          refine z_iload_n (pc2 := 59) rfl dX11_voice_58 rfl ?_
          by_cases hc29 : a2 = (0 : Int32)
          · replace h := ab_pos hc29 h
            refine ab_tsIn (tgt := 84) dX11_voice_59 (by rw [hc29]; decide) (by rw [hc29]; decide) (by rw [hc29]; rfl) (by decide) ?_
            refine z_aload (pc2 := 86) rfl dX11_voice_84 rfl ?_
            refine z_aload_n (pc2 := 87) rfl dX11_voice_86 rfl ?_
            refine z_getR 8 11 9 21 (pc2 := 90) rfl dX11_voice_87 rfl rfl ff_11_9 wd_311 rfl ?_
            refine z_iload_n (pc2 := 91) rfl dX11_voice_90 rfl ?_
            obtain ⟨q30, hq30, h⟩ := ab_bnd h
            refine z_callOi RX5 RX2 yX2_wades cX2_wades 3 (some .int) 26 [.ref 21, .int a3] [some (.ref 26), some (.ref 21), some (.int a3)] (pc2 := 94) rfl rfl dX11_voice_91 ok_X5_wades ⟨fun _ => rfl, fun _ => Nat.le_of_ble_eq_true rfl⟩ rfl rv_26 wd_806 wd_809 wd_807 wd_828 wd_819 wd_830 ⟨by decide, by decide, rfl⟩ rfl (e_X5_wades_26 hq30) ?_
            obtain ⟨x31, hxx31, h⟩ := ab_lt_e h
            refine z_top hxx31 ?_
            refine z_istore (pc2 := 96) (L2 := [some (.ref 8), some (.int a1), some (.int a2), some (.int a3), some (.ref 26), some (.int x31)]) rfl dX11_voice_94 (by decide) rfl rfl ?_
            refine ab_goto (tgt := 141) dX11_voice_96 (by decide) ?_
            refine z_aload_n (pc2 := 142) rfl dX11_voice_141 rfl ?_
            refine z_getR 8 11 9 21 (pc2 := 145) rfl dX11_voice_142 rfl rfl ff_11_9 wd_311 rfl ?_
            refine z_getI 21 8 2 (pc2 := 148) rfl dX11_voice_145 rfl rfl ff_8_2 wd_156 ?_
            refine z_if_eq (pc2 := 151) (tgt := 160) rfl dX11_voice_148 (by decide) (fun hc32 => ?_) (fun hc32 => ?_)
            · replace h := ab_pos hc32 h
              refine z_iload (pc2 := 162) rfl dX11_voice_160 rfl ?_
              exact z_iret dX11_voice_162 rfl rfl (fi_w h)
            · replace h := ab_neg hc32 h
              refine z_aload_n (pc2 := 152) rfl dX11_voice_151 rfl ?_
              refine z_bipush (pc2 := 154) rfl dX11_voice_152 lt_b_6 ?_
              obtain ⟨q33, hq33, h⟩ := ab_bnd h
              refine z_callVi 8 [.int (6 : Int32)] [some (.ref 8), some (.int (6 : Int32))] (pc2 := 157) rfl rfl dX11_voice_154 ok_X11_refuse ⟨fun _ => rfl, fun _ => Nat.le_of_ble_eq_true rfl⟩ rfl rv_8 wd_346 wd_348 wd_0 rfl (e_X11_refuse hq33) ?_
              refine ab_goto (tgt := 162) dX11_voice_157 (by decide) ?_
              exact z_iret dX11_voice_162 rfl rfl (fi_w h)
          · replace h := ab_neg hc29 h
            by_cases hc34 : a2 = (1 : Int32)
            · replace h := ab_pos hc34 h
              refine ab_tsIn (tgt := 99) dX11_voice_59 (by rw [hc34]; decide) (by rw [hc34]; decide) (by rw [hc34]; rfl) (by decide) ?_
              refine z_aload (pc2 := 101) rfl dX11_voice_99 rfl ?_
              refine z_aload_n (pc2 := 102) rfl dX11_voice_101 rfl ?_
              refine z_getR 8 11 9 21 (pc2 := 105) rfl dX11_voice_102 rfl rfl ff_11_9 wd_311 rfl ?_
              refine z_iload_n (pc2 := 106) rfl dX11_voice_105 rfl ?_
              obtain ⟨q35, hq35, h⟩ := ab_bnd h
              refine z_callOi RX5 RX2 yX2_knows cX2_knows 3 (some .int) 26 [.ref 21, .int a3] [some (.ref 26), some (.ref 21), some (.int a3)] (pc2 := 109) rfl rfl dX11_voice_106 ok_X2_knows ⟨fun _ => rfl, fun _ => Nat.le_of_ble_eq_true rfl⟩ rfl rv_26 wd_832 wd_835 wd_833 wd_851 wd_833 wd_853 ⟨by decide, by decide, rfl⟩ rfl (e_X2_knows_26 hq35) ?_
              obtain ⟨x36, hxx36, h⟩ := ab_lt_e h
              refine z_top hxx36 ?_
              refine z_istore (pc2 := 111) (L2 := [some (.ref 8), some (.int a1), some (.int a2), some (.int a3), some (.ref 26), some (.int x36)]) rfl dX11_voice_109 (by decide) rfl rfl ?_
              refine ab_goto (tgt := 141) dX11_voice_111 (by decide) ?_
              refine z_aload_n (pc2 := 142) rfl dX11_voice_141 rfl ?_
              refine z_getR 8 11 9 21 (pc2 := 145) rfl dX11_voice_142 rfl rfl ff_11_9 wd_311 rfl ?_
              refine z_getI 21 8 2 (pc2 := 148) rfl dX11_voice_145 rfl rfl ff_8_2 wd_156 ?_
              refine z_if_eq (pc2 := 151) (tgt := 160) rfl dX11_voice_148 (by decide) (fun hc37 => ?_) (fun hc37 => ?_)
              · replace h := ab_pos hc37 h
                refine z_iload (pc2 := 162) rfl dX11_voice_160 rfl ?_
                exact z_iret dX11_voice_162 rfl rfl (fi_w h)
              · replace h := ab_neg hc37 h
                refine z_aload_n (pc2 := 152) rfl dX11_voice_151 rfl ?_
                refine z_bipush (pc2 := 154) rfl dX11_voice_152 lt_b_6 ?_
                obtain ⟨q38, hq38, h⟩ := ab_bnd h
                refine z_callVi 8 [.int (6 : Int32)] [some (.ref 8), some (.int (6 : Int32))] (pc2 := 157) rfl rfl dX11_voice_154 ok_X11_refuse ⟨fun _ => rfl, fun _ => Nat.le_of_ble_eq_true rfl⟩ rfl rv_8 wd_346 wd_348 wd_0 rfl (e_X11_refuse hq38) ?_
                refine ab_goto (tgt := 162) dX11_voice_157 (by decide) ?_
                exact z_iret dX11_voice_162 rfl rfl (fi_w h)
            · replace h := ab_neg hc34 h
              by_cases hc39 : a2 = (2 : Int32)
              · replace h := ab_pos hc39 h
                refine ab_tsIn (tgt := 114) dX11_voice_59 (by rw [hc39]; decide) (by rw [hc39]; decide) (by rw [hc39]; rfl) (by decide) ?_
                refine z_aload (pc2 := 116) rfl dX11_voice_114 rfl ?_
                refine z_aload_n (pc2 := 117) rfl dX11_voice_116 rfl ?_
                refine z_getR 8 11 9 21 (pc2 := 120) rfl dX11_voice_117 rfl rfl ff_11_9 wd_311 rfl ?_
                refine z_iload_n (pc2 := 121) rfl dX11_voice_120 rfl ?_
                obtain ⟨q40, hq40, h⟩ := ab_bnd h
                refine z_callOi RX5 RX2 yX2_sits cX2_sits 3 (some .int) 26 [.ref 21, .int a3] [some (.ref 26), some (.ref 21), some (.int a3)] (pc2 := 124) rfl rfl dX11_voice_121 ok_X2_sits ⟨fun _ => rfl, fun _ => Nat.le_of_ble_eq_true rfl⟩ rfl rv_26 wd_855 wd_858 wd_856 wd_872 wd_856 wd_874 ⟨by decide, by decide, rfl⟩ rfl (e_X2_sits_26 hq40) ?_
                obtain ⟨x41, hxx41, h⟩ := ab_lt_e h
                refine z_top hxx41 ?_
                refine z_istore (pc2 := 126) (L2 := [some (.ref 8), some (.int a1), some (.int a2), some (.int a3), some (.ref 26), some (.int x41)]) rfl dX11_voice_124 (by decide) rfl rfl ?_
                refine ab_goto (tgt := 141) dX11_voice_126 (by decide) ?_
                refine z_aload_n (pc2 := 142) rfl dX11_voice_141 rfl ?_
                refine z_getR 8 11 9 21 (pc2 := 145) rfl dX11_voice_142 rfl rfl ff_11_9 wd_311 rfl ?_
                refine z_getI 21 8 2 (pc2 := 148) rfl dX11_voice_145 rfl rfl ff_8_2 wd_156 ?_
                refine z_if_eq (pc2 := 151) (tgt := 160) rfl dX11_voice_148 (by decide) (fun hc42 => ?_) (fun hc42 => ?_)
                · replace h := ab_pos hc42 h
                  refine z_iload (pc2 := 162) rfl dX11_voice_160 rfl ?_
                  exact z_iret dX11_voice_162 rfl rfl (fi_w h)
                · replace h := ab_neg hc42 h
                  refine z_aload_n (pc2 := 152) rfl dX11_voice_151 rfl ?_
                  refine z_bipush (pc2 := 154) rfl dX11_voice_152 lt_b_6 ?_
                  obtain ⟨q43, hq43, h⟩ := ab_bnd h
                  refine z_callVi 8 [.int (6 : Int32)] [some (.ref 8), some (.int (6 : Int32))] (pc2 := 157) rfl rfl dX11_voice_154 ok_X11_refuse ⟨fun _ => rfl, fun _ => Nat.le_of_ble_eq_true rfl⟩ rfl rv_8 wd_346 wd_348 wd_0 rfl (e_X11_refuse hq43) ?_
                  refine ab_goto (tgt := 162) dX11_voice_157 (by decide) ?_
                  exact z_iret dX11_voice_162 rfl rfl (fi_w h)
              · replace h := ab_neg hc39 h
                have thc29 := ab_ne_toInt (k := 0) hc29 (by decide)
                have thc34 := ab_ne_toInt (k := 1) hc34 (by decide)
                have thc39 := ab_ne_toInt (k := 2) hc39 (by decide)
                refine ab_tsOut (tgt := 129) dX11_voice_59 (by omega) (by decide) ?_
                refine z_aload (pc2 := 131) rfl dX11_voice_129 rfl ?_
                refine z_aload_n (pc2 := 132) rfl dX11_voice_131 rfl ?_
                refine z_getR 8 11 9 21 (pc2 := 135) rfl dX11_voice_132 rfl rfl ff_11_9 wd_311 rfl ?_
                refine z_iload_n (pc2 := 136) rfl dX11_voice_135 rfl ?_
                obtain ⟨q44, hq44, h⟩ := ab_bnd h
                refine z_callOi RX5 RX2 yX2_parts cX2_parts 4 (some .int) 26 [.ref 21, .int a3] [some (.ref 26), some (.ref 21), some (.int a3), none] (pc2 := 139) rfl rfl dX11_voice_136 ok_X5_parts ⟨fun _ => rfl, fun _ => Nat.le_of_ble_eq_true rfl⟩ rfl rv_26 wd_876 wd_879 wd_877 wd_892 wd_882 wd_894 ⟨by decide, by decide, rfl⟩ rfl (e_X5_parts_26 hq44) ?_
                obtain ⟨x45, hxx45, h⟩ := ab_lt_e h
                refine z_top hxx45 ?_
                refine z_istore (pc2 := 141) (L2 := [some (.ref 8), some (.int a1), some (.int a2), some (.int a3), some (.ref 26), some (.int x45)]) rfl dX11_voice_139 (by decide) rfl rfl ?_
                refine z_aload_n (pc2 := 142) rfl dX11_voice_141 rfl ?_
                refine z_getR 8 11 9 21 (pc2 := 145) rfl dX11_voice_142 rfl rfl ff_11_9 wd_311 rfl ?_
                refine z_getI 21 8 2 (pc2 := 148) rfl dX11_voice_145 rfl rfl ff_8_2 wd_156 ?_
                refine z_if_eq (pc2 := 151) (tgt := 160) rfl dX11_voice_148 (by decide) (fun hc46 => ?_) (fun hc46 => ?_)
                · replace h := ab_pos hc46 h
                  refine z_iload (pc2 := 162) rfl dX11_voice_160 rfl ?_
                  exact z_iret dX11_voice_162 rfl rfl (fi_w h)
                · replace h := ab_neg hc46 h
                  refine z_aload_n (pc2 := 152) rfl dX11_voice_151 rfl ?_
                  refine z_bipush (pc2 := 154) rfl dX11_voice_152 lt_b_6 ?_
                  obtain ⟨q47, hq47, h⟩ := ab_bnd h
                  refine z_callVi 8 [.int (6 : Int32)] [some (.ref 8), some (.int (6 : Int32))] (pc2 := 157) rfl rfl dX11_voice_154 ok_X11_refuse ⟨fun _ => rfl, fun _ => Nat.le_of_ble_eq_true rfl⟩ rfl rv_8 wd_346 wd_348 wd_0 rfl (e_X11_refuse hq47) ?_
                  refine ab_goto (tgt := 162) dX11_voice_157 (by decide) ?_
                  exact z_iret dX11_voice_162 rfl rfl (fi_w h)
        · replace h := ab_neg hi48 h
          by_cases hi68 : (q7 44 (a1).toNatClampNeg) = (2 : Int32)
          · replace h := ab_pos hi68 h
            refine z_aaldG 24 27 (pc2 := 56) rfl dX11_voice_55 rfl rfl (by rw [hi68]; rfl) (by rw [hi68]; rfl) ?_
            refine z_astore (pc2 := 58) (L2 := [some (.ref 8), some (.int a1), some (.int a2), some (.int a3), some (.ref 27), none]) rfl dX11_voice_56 (by decide) rfl rfl ?_
            refine z_iload_n (pc2 := 59) rfl dX11_voice_58 rfl ?_
            by_cases hc49 : a2 = (0 : Int32)
            · replace h := ab_pos hc49 h
              refine ab_tsIn (tgt := 84) dX11_voice_59 (by rw [hc49]; decide) (by rw [hc49]; decide) (by rw [hc49]; rfl) (by decide) ?_
              refine z_aload (pc2 := 86) rfl dX11_voice_84 rfl ?_
              refine z_aload_n (pc2 := 87) rfl dX11_voice_86 rfl ?_
              refine z_getR 8 11 9 21 (pc2 := 90) rfl dX11_voice_87 rfl rfl ff_11_9 wd_311 rfl ?_
              refine z_iload_n (pc2 := 91) rfl dX11_voice_90 rfl ?_
              obtain ⟨q50, hq50, h⟩ := ab_bnd h
              refine z_callOi RX10 RX2 yX2_wades cX2_wades 3 (some .int) 27 [.ref 21, .int a3] [some (.ref 27), some (.ref 21), some (.int a3)] (pc2 := 94) rfl rfl dX11_voice_91 ok_X2_wades ⟨fun _ => rfl, fun _ => Nat.le_of_ble_eq_true rfl⟩ rfl rv_27 wd_806 wd_809 wd_807 wd_829 wd_807 wd_830 ⟨by decide, by decide, rfl⟩ rfl (e_X2_wades_27 hq50) ?_
              obtain ⟨x51, hxx51, h⟩ := ab_lt_e h
              refine z_top hxx51 ?_
              refine z_istore (pc2 := 96) (L2 := [some (.ref 8), some (.int a1), some (.int a2), some (.int a3), some (.ref 27), some (.int x51)]) rfl dX11_voice_94 (by decide) rfl rfl ?_
              refine ab_goto (tgt := 141) dX11_voice_96 (by decide) ?_
              refine z_aload_n (pc2 := 142) rfl dX11_voice_141 rfl ?_
              refine z_getR 8 11 9 21 (pc2 := 145) rfl dX11_voice_142 rfl rfl ff_11_9 wd_311 rfl ?_
              refine z_getI 21 8 2 (pc2 := 148) rfl dX11_voice_145 rfl rfl ff_8_2 wd_156 ?_
              refine z_if_eq (pc2 := 151) (tgt := 160) rfl dX11_voice_148 (by decide) (fun hc52 => ?_) (fun hc52 => ?_)
              · replace h := ab_pos hc52 h
                refine z_iload (pc2 := 162) rfl dX11_voice_160 rfl ?_
                exact z_iret dX11_voice_162 rfl rfl (fi_w h)
              · replace h := ab_neg hc52 h
                refine z_aload_n (pc2 := 152) rfl dX11_voice_151 rfl ?_
                refine z_bipush (pc2 := 154) rfl dX11_voice_152 lt_b_6 ?_
                obtain ⟨q53, hq53, h⟩ := ab_bnd h
                refine z_callVi 8 [.int (6 : Int32)] [some (.ref 8), some (.int (6 : Int32))] (pc2 := 157) rfl rfl dX11_voice_154 ok_X11_refuse ⟨fun _ => rfl, fun _ => Nat.le_of_ble_eq_true rfl⟩ rfl rv_8 wd_346 wd_348 wd_0 rfl (e_X11_refuse hq53) ?_
                refine ab_goto (tgt := 162) dX11_voice_157 (by decide) ?_
                exact z_iret dX11_voice_162 rfl rfl (fi_w h)
            · replace h := ab_neg hc49 h
              by_cases hc54 : a2 = (1 : Int32)
              · replace h := ab_pos hc54 h
                refine ab_tsIn (tgt := 99) dX11_voice_59 (by rw [hc54]; decide) (by rw [hc54]; decide) (by rw [hc54]; rfl) (by decide) ?_
                refine z_aload (pc2 := 101) rfl dX11_voice_99 rfl ?_
                refine z_aload_n (pc2 := 102) rfl dX11_voice_101 rfl ?_
                refine z_getR 8 11 9 21 (pc2 := 105) rfl dX11_voice_102 rfl rfl ff_11_9 wd_311 rfl ?_
                refine z_iload_n (pc2 := 106) rfl dX11_voice_105 rfl ?_
                obtain ⟨q55, hq55, h⟩ := ab_bnd h
                refine z_callOi RX10 RX2 yX2_knows cX2_knows 3 (some .int) 27 [.ref 21, .int a3] [some (.ref 27), some (.ref 21), some (.int a3)] (pc2 := 109) rfl rfl dX11_voice_106 ok_X10_knows ⟨fun _ => rfl, fun _ => Nat.le_of_ble_eq_true rfl⟩ rfl rv_27 wd_832 wd_835 wd_833 wd_852 wd_841 wd_853 ⟨by decide, by decide, rfl⟩ rfl (e_X10_knows_27 hq55) ?_
                obtain ⟨x56, hxx56, h⟩ := ab_lt_e h
                refine z_top hxx56 ?_
                refine z_istore (pc2 := 111) (L2 := [some (.ref 8), some (.int a1), some (.int a2), some (.int a3), some (.ref 27), some (.int x56)]) rfl dX11_voice_109 (by decide) rfl rfl ?_
                refine ab_goto (tgt := 141) dX11_voice_111 (by decide) ?_
                refine z_aload_n (pc2 := 142) rfl dX11_voice_141 rfl ?_
                refine z_getR 8 11 9 21 (pc2 := 145) rfl dX11_voice_142 rfl rfl ff_11_9 wd_311 rfl ?_
                refine z_getI 21 8 2 (pc2 := 148) rfl dX11_voice_145 rfl rfl ff_8_2 wd_156 ?_
                refine z_if_eq (pc2 := 151) (tgt := 160) rfl dX11_voice_148 (by decide) (fun hc57 => ?_) (fun hc57 => ?_)
                · replace h := ab_pos hc57 h
                  refine z_iload (pc2 := 162) rfl dX11_voice_160 rfl ?_
                  exact z_iret dX11_voice_162 rfl rfl (fi_w h)
                · replace h := ab_neg hc57 h
                  refine z_aload_n (pc2 := 152) rfl dX11_voice_151 rfl ?_
                  refine z_bipush (pc2 := 154) rfl dX11_voice_152 lt_b_6 ?_
                  obtain ⟨q58, hq58, h⟩ := ab_bnd h
                  refine z_callVi 8 [.int (6 : Int32)] [some (.ref 8), some (.int (6 : Int32))] (pc2 := 157) rfl rfl dX11_voice_154 ok_X11_refuse ⟨fun _ => rfl, fun _ => Nat.le_of_ble_eq_true rfl⟩ rfl rv_8 wd_346 wd_348 wd_0 rfl (e_X11_refuse hq58) ?_
                  refine ab_goto (tgt := 162) dX11_voice_157 (by decide) ?_
                  exact z_iret dX11_voice_162 rfl rfl (fi_w h)
              · replace h := ab_neg hc54 h
                by_cases hc59 : a2 = (2 : Int32)
                · replace h := ab_pos hc59 h
                  refine ab_tsIn (tgt := 114) dX11_voice_59 (by rw [hc59]; decide) (by rw [hc59]; decide) (by rw [hc59]; rfl) (by decide) ?_
                  refine z_aload (pc2 := 116) rfl dX11_voice_114 rfl ?_
                  refine z_aload_n (pc2 := 117) rfl dX11_voice_116 rfl ?_
                  refine z_getR 8 11 9 21 (pc2 := 120) rfl dX11_voice_117 rfl rfl ff_11_9 wd_311 rfl ?_
                  refine z_iload_n (pc2 := 121) rfl dX11_voice_120 rfl ?_
                  obtain ⟨q60, hq60, h⟩ := ab_bnd h
                  refine z_callOi RX10 RX2 yX2_sits cX2_sits 3 (some .int) 27 [.ref 21, .int a3] [some (.ref 27), some (.ref 21), some (.int a3)] (pc2 := 124) rfl rfl dX11_voice_121 ok_X2_sits ⟨fun _ => rfl, fun _ => Nat.le_of_ble_eq_true rfl⟩ rfl rv_27 wd_855 wd_858 wd_856 wd_873 wd_856 wd_874 ⟨by decide, by decide, rfl⟩ rfl (e_X2_sits_27 hq60) ?_
                  obtain ⟨x61, hxx61, h⟩ := ab_lt_e h
                  refine z_top hxx61 ?_
                  refine z_istore (pc2 := 126) (L2 := [some (.ref 8), some (.int a1), some (.int a2), some (.int a3), some (.ref 27), some (.int x61)]) rfl dX11_voice_124 (by decide) rfl rfl ?_
                  refine ab_goto (tgt := 141) dX11_voice_126 (by decide) ?_
                  refine z_aload_n (pc2 := 142) rfl dX11_voice_141 rfl ?_
                  refine z_getR 8 11 9 21 (pc2 := 145) rfl dX11_voice_142 rfl rfl ff_11_9 wd_311 rfl ?_
                  refine z_getI 21 8 2 (pc2 := 148) rfl dX11_voice_145 rfl rfl ff_8_2 wd_156 ?_
                  refine z_if_eq (pc2 := 151) (tgt := 160) rfl dX11_voice_148 (by decide) (fun hc62 => ?_) (fun hc62 => ?_)
                  · replace h := ab_pos hc62 h
                    refine z_iload (pc2 := 162) rfl dX11_voice_160 rfl ?_
                    exact z_iret dX11_voice_162 rfl rfl (fi_w h)
                  · replace h := ab_neg hc62 h
                    refine z_aload_n (pc2 := 152) rfl dX11_voice_151 rfl ?_
                    refine z_bipush (pc2 := 154) rfl dX11_voice_152 lt_b_6 ?_
                    obtain ⟨q63, hq63, h⟩ := ab_bnd h
                    refine z_callVi 8 [.int (6 : Int32)] [some (.ref 8), some (.int (6 : Int32))] (pc2 := 157) rfl rfl dX11_voice_154 ok_X11_refuse ⟨fun _ => rfl, fun _ => Nat.le_of_ble_eq_true rfl⟩ rfl rv_8 wd_346 wd_348 wd_0 rfl (e_X11_refuse hq63) ?_
                    refine ab_goto (tgt := 162) dX11_voice_157 (by decide) ?_
                    exact z_iret dX11_voice_162 rfl rfl (fi_w h)
                · replace h := ab_neg hc59 h
                  have thc49 := ab_ne_toInt (k := 0) hc49 (by decide)
                  have thc54 := ab_ne_toInt (k := 1) hc54 (by decide)
                  have thc59 := ab_ne_toInt (k := 2) hc59 (by decide)
                  refine ab_tsOut (tgt := 129) dX11_voice_59 (by omega) (by decide) ?_
                  refine z_aload (pc2 := 131) rfl dX11_voice_129 rfl ?_
                  refine z_aload_n (pc2 := 132) rfl dX11_voice_131 rfl ?_
                  refine z_getR 8 11 9 21 (pc2 := 135) rfl dX11_voice_132 rfl rfl ff_11_9 wd_311 rfl ?_
                  refine z_iload_n (pc2 := 136) rfl dX11_voice_135 rfl ?_
                  obtain ⟨q64, hq64, h⟩ := ab_bnd h
                  refine z_callOi RX10 RX2 yX2_parts cX2_parts 4 (some .int) 27 [.ref 21, .int a3] [some (.ref 27), some (.ref 21), some (.int a3), none] (pc2 := 139) rfl rfl dX11_voice_136 ok_X2_parts ⟨fun _ => rfl, fun _ => Nat.le_of_ble_eq_true rfl⟩ rfl rv_27 wd_876 wd_879 wd_877 wd_893 wd_877 wd_894 ⟨by decide, by decide, rfl⟩ rfl (e_X2_parts_27 hq64) ?_
                  obtain ⟨x65, hxx65, h⟩ := ab_lt_e h
                  refine z_top hxx65 ?_
                  refine z_istore (pc2 := 141) (L2 := [some (.ref 8), some (.int a1), some (.int a2), some (.int a3), some (.ref 27), some (.int x65)]) rfl dX11_voice_139 (by decide) rfl rfl ?_
                  refine z_aload_n (pc2 := 142) rfl dX11_voice_141 rfl ?_
                  refine z_getR 8 11 9 21 (pc2 := 145) rfl dX11_voice_142 rfl rfl ff_11_9 wd_311 rfl ?_
                  refine z_getI 21 8 2 (pc2 := 148) rfl dX11_voice_145 rfl rfl ff_8_2 wd_156 ?_
                  refine z_if_eq (pc2 := 151) (tgt := 160) rfl dX11_voice_148 (by decide) (fun hc66 => ?_) (fun hc66 => ?_)
                  · replace h := ab_pos hc66 h
                    refine z_iload (pc2 := 162) rfl dX11_voice_160 rfl ?_
                    exact z_iret dX11_voice_162 rfl rfl (fi_w h)
                  · replace h := ab_neg hc66 h
                    refine z_aload_n (pc2 := 152) rfl dX11_voice_151 rfl ?_
                    refine z_bipush (pc2 := 154) rfl dX11_voice_152 lt_b_6 ?_
                    obtain ⟨q67, hq67, h⟩ := ab_bnd h
                    refine z_callVi 8 [.int (6 : Int32)] [some (.ref 8), some (.int (6 : Int32))] (pc2 := 157) rfl rfl dX11_voice_154 ok_X11_refuse ⟨fun _ => rfl, fun _ => Nat.le_of_ble_eq_true rfl⟩ rfl rv_8 wd_346 wd_348 wd_0 rfl (e_X11_refuse hq67) ?_
                    refine ab_goto (tgt := 162) dX11_voice_157 (by decide) ?_
                    exact z_iret dX11_voice_162 rfl rfl (fi_w h)
          · replace h := ab_neg hi68 h
            by_cases hi88 : (q7 44 (a1).toNatClampNeg) = (3 : Int32)
            · replace h := ab_pos hi88 h
              refine z_aaldG 24 28 (pc2 := 56) rfl dX11_voice_55 rfl rfl (by rw [hi88]; rfl) (by rw [hi88]; rfl) ?_
              refine z_astore (pc2 := 58) (L2 := [some (.ref 8), some (.int a1), some (.int a2), some (.int a3), some (.ref 28), none]) rfl dX11_voice_56 (by decide) rfl rfl ?_
              refine z_iload_n (pc2 := 59) rfl dX11_voice_58 rfl ?_
              by_cases hc69 : a2 = (0 : Int32)
              · replace h := ab_pos hc69 h
                refine ab_tsIn (tgt := 84) dX11_voice_59 (by rw [hc69]; decide) (by rw [hc69]; decide) (by rw [hc69]; rfl) (by decide) ?_
                refine z_aload (pc2 := 86) rfl dX11_voice_84 rfl ?_
                refine z_aload_n (pc2 := 87) rfl dX11_voice_86 rfl ?_
                refine z_getR 8 11 9 21 (pc2 := 90) rfl dX11_voice_87 rfl rfl ff_11_9 wd_311 rfl ?_
                refine z_iload_n (pc2 := 91) rfl dX11_voice_90 rfl ?_
                obtain ⟨q70, hq70, h⟩ := ab_bnd h
                refine z_callOi RX3 RX2 yX2_wades cX2_wades 3 (some .int) 28 [.ref 21, .int a3] [some (.ref 28), some (.ref 21), some (.int a3)] (pc2 := 94) rfl rfl dX11_voice_91 ok_X2_wades ⟨fun _ => rfl, fun _ => Nat.le_of_ble_eq_true rfl⟩ rfl rv_28 wd_806 wd_809 wd_807 wd_823 wd_807 wd_830 ⟨by decide, by decide, rfl⟩ rfl (e_X2_wades_28 hq70) ?_
                obtain ⟨x71, hxx71, h⟩ := ab_lt_e h
                refine z_top hxx71 ?_
                refine z_istore (pc2 := 96) (L2 := [some (.ref 8), some (.int a1), some (.int a2), some (.int a3), some (.ref 28), some (.int x71)]) rfl dX11_voice_94 (by decide) rfl rfl ?_
                refine ab_goto (tgt := 141) dX11_voice_96 (by decide) ?_
                refine z_aload_n (pc2 := 142) rfl dX11_voice_141 rfl ?_
                refine z_getR 8 11 9 21 (pc2 := 145) rfl dX11_voice_142 rfl rfl ff_11_9 wd_311 rfl ?_
                refine z_getI 21 8 2 (pc2 := 148) rfl dX11_voice_145 rfl rfl ff_8_2 wd_156 ?_
                refine z_if_eq (pc2 := 151) (tgt := 160) rfl dX11_voice_148 (by decide) (fun hc72 => ?_) (fun hc72 => ?_)
                · replace h := ab_pos hc72 h
                  refine z_iload (pc2 := 162) rfl dX11_voice_160 rfl ?_
                  exact z_iret dX11_voice_162 rfl rfl (fi_w h)
                · replace h := ab_neg hc72 h
                  refine z_aload_n (pc2 := 152) rfl dX11_voice_151 rfl ?_
                  refine z_bipush (pc2 := 154) rfl dX11_voice_152 lt_b_6 ?_
                  obtain ⟨q73, hq73, h⟩ := ab_bnd h
                  refine z_callVi 8 [.int (6 : Int32)] [some (.ref 8), some (.int (6 : Int32))] (pc2 := 157) rfl rfl dX11_voice_154 ok_X11_refuse ⟨fun _ => rfl, fun _ => Nat.le_of_ble_eq_true rfl⟩ rfl rv_8 wd_346 wd_348 wd_0 rfl (e_X11_refuse hq73) ?_
                  refine ab_goto (tgt := 162) dX11_voice_157 (by decide) ?_
                  exact z_iret dX11_voice_162 rfl rfl (fi_w h)
              · replace h := ab_neg hc69 h
                by_cases hc74 : a2 = (1 : Int32)
                · replace h := ab_pos hc74 h
                  refine ab_tsIn (tgt := 99) dX11_voice_59 (by rw [hc74]; decide) (by rw [hc74]; decide) (by rw [hc74]; rfl) (by decide) ?_
                  refine z_aload (pc2 := 101) rfl dX11_voice_99 rfl ?_
                  refine z_aload_n (pc2 := 102) rfl dX11_voice_101 rfl ?_
                  refine z_getR 8 11 9 21 (pc2 := 105) rfl dX11_voice_102 rfl rfl ff_11_9 wd_311 rfl ?_
                  refine z_iload_n (pc2 := 106) rfl dX11_voice_105 rfl ?_
                  obtain ⟨q75, hq75, h⟩ := ab_bnd h
                  refine z_callOi RX3 RX2 yX2_knows cX2_knows 3 (some .int) 28 [.ref 21, .int a3] [some (.ref 28), some (.ref 21), some (.int a3)] (pc2 := 109) rfl rfl dX11_voice_106 ok_X2_knows ⟨fun _ => rfl, fun _ => Nat.le_of_ble_eq_true rfl⟩ rfl rv_28 wd_832 wd_835 wd_833 wd_846 wd_833 wd_853 ⟨by decide, by decide, rfl⟩ rfl (e_X2_knows_28 hq75) ?_
                  obtain ⟨x76, hxx76, h⟩ := ab_lt_e h
                  refine z_top hxx76 ?_
                  refine z_istore (pc2 := 111) (L2 := [some (.ref 8), some (.int a1), some (.int a2), some (.int a3), some (.ref 28), some (.int x76)]) rfl dX11_voice_109 (by decide) rfl rfl ?_
                  refine ab_goto (tgt := 141) dX11_voice_111 (by decide) ?_
                  refine z_aload_n (pc2 := 142) rfl dX11_voice_141 rfl ?_
                  refine z_getR 8 11 9 21 (pc2 := 145) rfl dX11_voice_142 rfl rfl ff_11_9 wd_311 rfl ?_
                  refine z_getI 21 8 2 (pc2 := 148) rfl dX11_voice_145 rfl rfl ff_8_2 wd_156 ?_
                  refine z_if_eq (pc2 := 151) (tgt := 160) rfl dX11_voice_148 (by decide) (fun hc77 => ?_) (fun hc77 => ?_)
                  · replace h := ab_pos hc77 h
                    refine z_iload (pc2 := 162) rfl dX11_voice_160 rfl ?_
                    exact z_iret dX11_voice_162 rfl rfl (fi_w h)
                  · replace h := ab_neg hc77 h
                    refine z_aload_n (pc2 := 152) rfl dX11_voice_151 rfl ?_
                    refine z_bipush (pc2 := 154) rfl dX11_voice_152 lt_b_6 ?_
                    obtain ⟨q78, hq78, h⟩ := ab_bnd h
                    refine z_callVi 8 [.int (6 : Int32)] [some (.ref 8), some (.int (6 : Int32))] (pc2 := 157) rfl rfl dX11_voice_154 ok_X11_refuse ⟨fun _ => rfl, fun _ => Nat.le_of_ble_eq_true rfl⟩ rfl rv_8 wd_346 wd_348 wd_0 rfl (e_X11_refuse hq78) ?_
                    refine ab_goto (tgt := 162) dX11_voice_157 (by decide) ?_
                    exact z_iret dX11_voice_162 rfl rfl (fi_w h)
                · replace h := ab_neg hc74 h
                  by_cases hc79 : a2 = (2 : Int32)
                  · replace h := ab_pos hc79 h
                    refine ab_tsIn (tgt := 114) dX11_voice_59 (by rw [hc79]; decide) (by rw [hc79]; decide) (by rw [hc79]; rfl) (by decide) ?_
                    refine z_aload (pc2 := 116) rfl dX11_voice_114 rfl ?_
                    refine z_aload_n (pc2 := 117) rfl dX11_voice_116 rfl ?_
                    refine z_getR 8 11 9 21 (pc2 := 120) rfl dX11_voice_117 rfl rfl ff_11_9 wd_311 rfl ?_
                    refine z_iload_n (pc2 := 121) rfl dX11_voice_120 rfl ?_
                    obtain ⟨q80, hq80, h⟩ := ab_bnd h
                    refine z_callOi RX3 RX2 yX2_sits cX2_sits 3 (some .int) 28 [.ref 21, .int a3] [some (.ref 28), some (.ref 21), some (.int a3)] (pc2 := 124) rfl rfl dX11_voice_121 ok_X3_sits ⟨fun _ => rfl, fun _ => Nat.le_of_ble_eq_true rfl⟩ rfl rv_28 wd_855 wd_858 wd_856 wd_866 wd_867 wd_874 ⟨by decide, by decide, rfl⟩ rfl (e_X3_sits_28 hq80) ?_
                    obtain ⟨x81, hxx81, h⟩ := ab_lt_e h
                    refine z_top hxx81 ?_
                    refine z_istore (pc2 := 126) (L2 := [some (.ref 8), some (.int a1), some (.int a2), some (.int a3), some (.ref 28), some (.int x81)]) rfl dX11_voice_124 (by decide) rfl rfl ?_
                    refine ab_goto (tgt := 141) dX11_voice_126 (by decide) ?_
                    refine z_aload_n (pc2 := 142) rfl dX11_voice_141 rfl ?_
                    refine z_getR 8 11 9 21 (pc2 := 145) rfl dX11_voice_142 rfl rfl ff_11_9 wd_311 rfl ?_
                    refine z_getI 21 8 2 (pc2 := 148) rfl dX11_voice_145 rfl rfl ff_8_2 wd_156 ?_
                    refine z_if_eq (pc2 := 151) (tgt := 160) rfl dX11_voice_148 (by decide) (fun hc82 => ?_) (fun hc82 => ?_)
                    · replace h := ab_pos hc82 h
                      refine z_iload (pc2 := 162) rfl dX11_voice_160 rfl ?_
                      exact z_iret dX11_voice_162 rfl rfl (fi_w h)
                    · replace h := ab_neg hc82 h
                      refine z_aload_n (pc2 := 152) rfl dX11_voice_151 rfl ?_
                      refine z_bipush (pc2 := 154) rfl dX11_voice_152 lt_b_6 ?_
                      obtain ⟨q83, hq83, h⟩ := ab_bnd h
                      refine z_callVi 8 [.int (6 : Int32)] [some (.ref 8), some (.int (6 : Int32))] (pc2 := 157) rfl rfl dX11_voice_154 ok_X11_refuse ⟨fun _ => rfl, fun _ => Nat.le_of_ble_eq_true rfl⟩ rfl rv_8 wd_346 wd_348 wd_0 rfl (e_X11_refuse hq83) ?_
                      refine ab_goto (tgt := 162) dX11_voice_157 (by decide) ?_
                      exact z_iret dX11_voice_162 rfl rfl (fi_w h)
                  · replace h := ab_neg hc79 h
                    have thc69 := ab_ne_toInt (k := 0) hc69 (by decide)
                    have thc74 := ab_ne_toInt (k := 1) hc74 (by decide)
                    have thc79 := ab_ne_toInt (k := 2) hc79 (by decide)
                    refine ab_tsOut (tgt := 129) dX11_voice_59 (by omega) (by decide) ?_
                    refine z_aload (pc2 := 131) rfl dX11_voice_129 rfl ?_
                    refine z_aload_n (pc2 := 132) rfl dX11_voice_131 rfl ?_
                    refine z_getR 8 11 9 21 (pc2 := 135) rfl dX11_voice_132 rfl rfl ff_11_9 wd_311 rfl ?_
                    refine z_iload_n (pc2 := 136) rfl dX11_voice_135 rfl ?_
                    obtain ⟨q84, hq84, h⟩ := ab_bnd h
                    refine z_callOi RX3 RX2 yX2_parts cX2_parts 4 (some .int) 28 [.ref 21, .int a3] [some (.ref 28), some (.ref 21), some (.int a3), none] (pc2 := 139) rfl rfl dX11_voice_136 ok_X2_parts ⟨fun _ => rfl, fun _ => Nat.le_of_ble_eq_true rfl⟩ rfl rv_28 wd_876 wd_879 wd_877 wd_890 wd_877 wd_894 ⟨by decide, by decide, rfl⟩ rfl (e_X2_parts_28 hq84) ?_
                    obtain ⟨x85, hxx85, h⟩ := ab_lt_e h
                    refine z_top hxx85 ?_
                    refine z_istore (pc2 := 141) (L2 := [some (.ref 8), some (.int a1), some (.int a2), some (.int a3), some (.ref 28), some (.int x85)]) rfl dX11_voice_139 (by decide) rfl rfl ?_
                    refine z_aload_n (pc2 := 142) rfl dX11_voice_141 rfl ?_
                    refine z_getR 8 11 9 21 (pc2 := 145) rfl dX11_voice_142 rfl rfl ff_11_9 wd_311 rfl ?_
                    refine z_getI 21 8 2 (pc2 := 148) rfl dX11_voice_145 rfl rfl ff_8_2 wd_156 ?_
                    refine z_if_eq (pc2 := 151) (tgt := 160) rfl dX11_voice_148 (by decide) (fun hc86 => ?_) (fun hc86 => ?_)
                    · replace h := ab_pos hc86 h
                      refine z_iload (pc2 := 162) rfl dX11_voice_160 rfl ?_
                      exact z_iret dX11_voice_162 rfl rfl (fi_w h)
                    · replace h := ab_neg hc86 h
                      refine z_aload_n (pc2 := 152) rfl dX11_voice_151 rfl ?_
                      refine z_bipush (pc2 := 154) rfl dX11_voice_152 lt_b_6 ?_
                      obtain ⟨q87, hq87, h⟩ := ab_bnd h
                      refine z_callVi 8 [.int (6 : Int32)] [some (.ref 8), some (.int (6 : Int32))] (pc2 := 157) rfl rfl dX11_voice_154 ok_X11_refuse ⟨fun _ => rfl, fun _ => Nat.le_of_ble_eq_true rfl⟩ rfl rv_8 wd_346 wd_348 wd_0 rfl (e_X11_refuse hq87) ?_
                      refine ab_goto (tgt := 162) dX11_voice_157 (by decide) ?_
                      exact z_iret dX11_voice_162 rfl rfl (fi_w h)
            · replace h := ab_neg hi88 h
              by_cases hi108 : (q7 44 (a1).toNatClampNeg) = (4 : Int32)
              · replace h := ab_pos hi108 h
                refine z_aaldG 24 29 (pc2 := 56) rfl dX11_voice_55 rfl rfl (by rw [hi108]; rfl) (by rw [hi108]; rfl) ?_
                refine z_astore (pc2 := 58) (L2 := [some (.ref 8), some (.int a1), some (.int a2), some (.int a3), some (.ref 29), none]) rfl dX11_voice_56 (by decide) rfl rfl ?_
                refine z_iload_n (pc2 := 59) rfl dX11_voice_58 rfl ?_
                by_cases hc89 : a2 = (0 : Int32)
                · replace h := ab_pos hc89 h
                  refine ab_tsIn (tgt := 84) dX11_voice_59 (by rw [hc89]; decide) (by rw [hc89]; decide) (by rw [hc89]; rfl) (by decide) ?_
                  refine z_aload (pc2 := 86) rfl dX11_voice_84 rfl ?_
                  refine z_aload_n (pc2 := 87) rfl dX11_voice_86 rfl ?_
                  refine z_getR 8 11 9 21 (pc2 := 90) rfl dX11_voice_87 rfl rfl ff_11_9 wd_311 rfl ?_
                  refine z_iload_n (pc2 := 91) rfl dX11_voice_90 rfl ?_
                  obtain ⟨q90, hq90, h⟩ := ab_bnd h
                  refine z_callOi RX1 RX2 yX2_wades cX2_wades 3 (some .int) 29 [.ref 21, .int a3] [some (.ref 29), some (.ref 21), some (.int a3)] (pc2 := 94) rfl rfl dX11_voice_91 ok_X1_wades ⟨fun _ => rfl, fun _ => Nat.le_of_ble_eq_true rfl⟩ rfl rv_29 wd_806 wd_809 wd_807 wd_811 wd_812 wd_830 ⟨by decide, by decide, rfl⟩ rfl (e_X1_wades_29 hq90) ?_
                  obtain ⟨x91, hxx91, h⟩ := ab_lt_e h
                  refine z_top hxx91 ?_
                  refine z_istore (pc2 := 96) (L2 := [some (.ref 8), some (.int a1), some (.int a2), some (.int a3), some (.ref 29), some (.int x91)]) rfl dX11_voice_94 (by decide) rfl rfl ?_
                  refine ab_goto (tgt := 141) dX11_voice_96 (by decide) ?_
                  refine z_aload_n (pc2 := 142) rfl dX11_voice_141 rfl ?_
                  refine z_getR 8 11 9 21 (pc2 := 145) rfl dX11_voice_142 rfl rfl ff_11_9 wd_311 rfl ?_
                  refine z_getI 21 8 2 (pc2 := 148) rfl dX11_voice_145 rfl rfl ff_8_2 wd_156 ?_
                  refine z_if_eq (pc2 := 151) (tgt := 160) rfl dX11_voice_148 (by decide) (fun hc92 => ?_) (fun hc92 => ?_)
                  · replace h := ab_pos hc92 h
                    refine z_iload (pc2 := 162) rfl dX11_voice_160 rfl ?_
                    exact z_iret dX11_voice_162 rfl rfl (fi_w h)
                  · replace h := ab_neg hc92 h
                    refine z_aload_n (pc2 := 152) rfl dX11_voice_151 rfl ?_
                    refine z_bipush (pc2 := 154) rfl dX11_voice_152 lt_b_6 ?_
                    obtain ⟨q93, hq93, h⟩ := ab_bnd h
                    refine z_callVi 8 [.int (6 : Int32)] [some (.ref 8), some (.int (6 : Int32))] (pc2 := 157) rfl rfl dX11_voice_154 ok_X11_refuse ⟨fun _ => rfl, fun _ => Nat.le_of_ble_eq_true rfl⟩ rfl rv_8 wd_346 wd_348 wd_0 rfl (e_X11_refuse hq93) ?_
                    refine ab_goto (tgt := 162) dX11_voice_157 (by decide) ?_
                    exact z_iret dX11_voice_162 rfl rfl (fi_w h)
                · replace h := ab_neg hc89 h
                  by_cases hc94 : a2 = (1 : Int32)
                  · replace h := ab_pos hc94 h
                    refine ab_tsIn (tgt := 99) dX11_voice_59 (by rw [hc94]; decide) (by rw [hc94]; decide) (by rw [hc94]; rfl) (by decide) ?_
                    refine z_aload (pc2 := 101) rfl dX11_voice_99 rfl ?_
                    refine z_aload_n (pc2 := 102) rfl dX11_voice_101 rfl ?_
                    refine z_getR 8 11 9 21 (pc2 := 105) rfl dX11_voice_102 rfl rfl ff_11_9 wd_311 rfl ?_
                    refine z_iload_n (pc2 := 106) rfl dX11_voice_105 rfl ?_
                    obtain ⟨q95, hq95, h⟩ := ab_bnd h
                    refine z_callOi RX1 RX2 yX2_knows cX2_knows 3 (some .int) 29 [.ref 21, .int a3] [some (.ref 29), some (.ref 21), some (.int a3)] (pc2 := 109) rfl rfl dX11_voice_106 ok_X2_knows ⟨fun _ => rfl, fun _ => Nat.le_of_ble_eq_true rfl⟩ rfl rv_29 wd_832 wd_835 wd_833 wd_845 wd_833 wd_853 ⟨by decide, by decide, rfl⟩ rfl (e_X2_knows_29 hq95) ?_
                    obtain ⟨x96, hxx96, h⟩ := ab_lt_e h
                    refine z_top hxx96 ?_
                    refine z_istore (pc2 := 111) (L2 := [some (.ref 8), some (.int a1), some (.int a2), some (.int a3), some (.ref 29), some (.int x96)]) rfl dX11_voice_109 (by decide) rfl rfl ?_
                    refine ab_goto (tgt := 141) dX11_voice_111 (by decide) ?_
                    refine z_aload_n (pc2 := 142) rfl dX11_voice_141 rfl ?_
                    refine z_getR 8 11 9 21 (pc2 := 145) rfl dX11_voice_142 rfl rfl ff_11_9 wd_311 rfl ?_
                    refine z_getI 21 8 2 (pc2 := 148) rfl dX11_voice_145 rfl rfl ff_8_2 wd_156 ?_
                    refine z_if_eq (pc2 := 151) (tgt := 160) rfl dX11_voice_148 (by decide) (fun hc97 => ?_) (fun hc97 => ?_)
                    · replace h := ab_pos hc97 h
                      refine z_iload (pc2 := 162) rfl dX11_voice_160 rfl ?_
                      exact z_iret dX11_voice_162 rfl rfl (fi_w h)
                    · replace h := ab_neg hc97 h
                      refine z_aload_n (pc2 := 152) rfl dX11_voice_151 rfl ?_
                      refine z_bipush (pc2 := 154) rfl dX11_voice_152 lt_b_6 ?_
                      obtain ⟨q98, hq98, h⟩ := ab_bnd h
                      refine z_callVi 8 [.int (6 : Int32)] [some (.ref 8), some (.int (6 : Int32))] (pc2 := 157) rfl rfl dX11_voice_154 ok_X11_refuse ⟨fun _ => rfl, fun _ => Nat.le_of_ble_eq_true rfl⟩ rfl rv_8 wd_346 wd_348 wd_0 rfl (e_X11_refuse hq98) ?_
                      refine ab_goto (tgt := 162) dX11_voice_157 (by decide) ?_
                      exact z_iret dX11_voice_162 rfl rfl (fi_w h)
                  · replace h := ab_neg hc94 h
                    by_cases hc99 : a2 = (2 : Int32)
                    · replace h := ab_pos hc99 h
                      refine ab_tsIn (tgt := 114) dX11_voice_59 (by rw [hc99]; decide) (by rw [hc99]; decide) (by rw [hc99]; rfl) (by decide) ?_
                      refine z_aload (pc2 := 116) rfl dX11_voice_114 rfl ?_
                      refine z_aload_n (pc2 := 117) rfl dX11_voice_116 rfl ?_
                      refine z_getR 8 11 9 21 (pc2 := 120) rfl dX11_voice_117 rfl rfl ff_11_9 wd_311 rfl ?_
                      refine z_iload_n (pc2 := 121) rfl dX11_voice_120 rfl ?_
                      obtain ⟨q100, hq100, h⟩ := ab_bnd h
                      refine z_callOi RX1 RX2 yX2_sits cX2_sits 3 (some .int) 29 [.ref 21, .int a3] [some (.ref 29), some (.ref 21), some (.int a3)] (pc2 := 124) rfl rfl dX11_voice_121 ok_X1_sits ⟨fun _ => rfl, fun _ => Nat.le_of_ble_eq_true rfl⟩ rfl rv_29 wd_855 wd_858 wd_856 wd_860 wd_861 wd_874 ⟨by decide, by decide, rfl⟩ rfl (e_X1_sits_29 hq100) ?_
                      obtain ⟨x101, hxx101, h⟩ := ab_lt_e h
                      refine z_top hxx101 ?_
                      refine z_istore (pc2 := 126) (L2 := [some (.ref 8), some (.int a1), some (.int a2), some (.int a3), some (.ref 29), some (.int x101)]) rfl dX11_voice_124 (by decide) rfl rfl ?_
                      refine ab_goto (tgt := 141) dX11_voice_126 (by decide) ?_
                      refine z_aload_n (pc2 := 142) rfl dX11_voice_141 rfl ?_
                      refine z_getR 8 11 9 21 (pc2 := 145) rfl dX11_voice_142 rfl rfl ff_11_9 wd_311 rfl ?_
                      refine z_getI 21 8 2 (pc2 := 148) rfl dX11_voice_145 rfl rfl ff_8_2 wd_156 ?_
                      refine z_if_eq (pc2 := 151) (tgt := 160) rfl dX11_voice_148 (by decide) (fun hc102 => ?_) (fun hc102 => ?_)
                      · replace h := ab_pos hc102 h
                        refine z_iload (pc2 := 162) rfl dX11_voice_160 rfl ?_
                        exact z_iret dX11_voice_162 rfl rfl (fi_w h)
                      · replace h := ab_neg hc102 h
                        refine z_aload_n (pc2 := 152) rfl dX11_voice_151 rfl ?_
                        refine z_bipush (pc2 := 154) rfl dX11_voice_152 lt_b_6 ?_
                        obtain ⟨q103, hq103, h⟩ := ab_bnd h
                        refine z_callVi 8 [.int (6 : Int32)] [some (.ref 8), some (.int (6 : Int32))] (pc2 := 157) rfl rfl dX11_voice_154 ok_X11_refuse ⟨fun _ => rfl, fun _ => Nat.le_of_ble_eq_true rfl⟩ rfl rv_8 wd_346 wd_348 wd_0 rfl (e_X11_refuse hq103) ?_
                        refine ab_goto (tgt := 162) dX11_voice_157 (by decide) ?_
                        exact z_iret dX11_voice_162 rfl rfl (fi_w h)
                    · replace h := ab_neg hc99 h
                      have thc89 := ab_ne_toInt (k := 0) hc89 (by decide)
                      have thc94 := ab_ne_toInt (k := 1) hc94 (by decide)
                      have thc99 := ab_ne_toInt (k := 2) hc99 (by decide)
                      refine ab_tsOut (tgt := 129) dX11_voice_59 (by omega) (by decide) ?_
                      refine z_aload (pc2 := 131) rfl dX11_voice_129 rfl ?_
                      refine z_aload_n (pc2 := 132) rfl dX11_voice_131 rfl ?_
                      refine z_getR 8 11 9 21 (pc2 := 135) rfl dX11_voice_132 rfl rfl ff_11_9 wd_311 rfl ?_
                      refine z_iload_n (pc2 := 136) rfl dX11_voice_135 rfl ?_
                      obtain ⟨q104, hq104, h⟩ := ab_bnd h
                      refine z_callOi RX1 RX2 yX2_parts cX2_parts 4 (some .int) 29 [.ref 21, .int a3] [some (.ref 29), some (.ref 21), some (.int a3), none] (pc2 := 139) rfl rfl dX11_voice_136 ok_X5_parts ⟨fun _ => rfl, fun _ => Nat.le_of_ble_eq_true rfl⟩ rfl rv_29 wd_876 wd_879 wd_877 wd_881 wd_882 wd_894 ⟨by decide, by decide, rfl⟩ rfl (e_X5_parts_29 hq104) ?_
                      obtain ⟨x105, hxx105, h⟩ := ab_lt_e h
                      refine z_top hxx105 ?_
                      refine z_istore (pc2 := 141) (L2 := [some (.ref 8), some (.int a1), some (.int a2), some (.int a3), some (.ref 29), some (.int x105)]) rfl dX11_voice_139 (by decide) rfl rfl ?_
                      refine z_aload_n (pc2 := 142) rfl dX11_voice_141 rfl ?_
                      refine z_getR 8 11 9 21 (pc2 := 145) rfl dX11_voice_142 rfl rfl ff_11_9 wd_311 rfl ?_
                      refine z_getI 21 8 2 (pc2 := 148) rfl dX11_voice_145 rfl rfl ff_8_2 wd_156 ?_
                      refine z_if_eq (pc2 := 151) (tgt := 160) rfl dX11_voice_148 (by decide) (fun hc106 => ?_) (fun hc106 => ?_)
                      · replace h := ab_pos hc106 h
                        refine z_iload (pc2 := 162) rfl dX11_voice_160 rfl ?_
                        exact z_iret dX11_voice_162 rfl rfl (fi_w h)
                      · replace h := ab_neg hc106 h
                        refine z_aload_n (pc2 := 152) rfl dX11_voice_151 rfl ?_
                        refine z_bipush (pc2 := 154) rfl dX11_voice_152 lt_b_6 ?_
                        obtain ⟨q107, hq107, h⟩ := ab_bnd h
                        refine z_callVi 8 [.int (6 : Int32)] [some (.ref 8), some (.int (6 : Int32))] (pc2 := 157) rfl rfl dX11_voice_154 ok_X11_refuse ⟨fun _ => rfl, fun _ => Nat.le_of_ble_eq_true rfl⟩ rfl rv_8 wd_346 wd_348 wd_0 rfl (e_X11_refuse hq107) ?_
                        refine ab_goto (tgt := 162) dX11_voice_157 (by decide) ?_
                        exact z_iret dX11_voice_162 rfl rfl (fi_w h)
              · replace h := ab_neg hi108 h
                by_cases hi128 : (q7 44 (a1).toNatClampNeg) = (5 : Int32)
                · replace h := ab_pos hi128 h
                  refine z_aaldG 24 30 (pc2 := 56) rfl dX11_voice_55 rfl rfl (by rw [hi128]; rfl) (by rw [hi128]; rfl) ?_
                  refine z_astore (pc2 := 58) (L2 := [some (.ref 8), some (.int a1), some (.int a2), some (.int a3), some (.ref 30), none]) rfl dX11_voice_56 (by decide) rfl rfl ?_
                  refine z_iload_n (pc2 := 59) rfl dX11_voice_58 rfl ?_
                  by_cases hc109 : a2 = (0 : Int32)
                  · replace h := ab_pos hc109 h
                    refine ab_tsIn (tgt := 84) dX11_voice_59 (by rw [hc109]; decide) (by rw [hc109]; decide) (by rw [hc109]; rfl) (by decide) ?_
                    refine z_aload (pc2 := 86) rfl dX11_voice_84 rfl ?_
                    refine z_aload_n (pc2 := 87) rfl dX11_voice_86 rfl ?_
                    refine z_getR 8 11 9 21 (pc2 := 90) rfl dX11_voice_87 rfl rfl ff_11_9 wd_311 rfl ?_
                    refine z_iload_n (pc2 := 91) rfl dX11_voice_90 rfl ?_
                    obtain ⟨q110, hq110, h⟩ := ab_bnd h
                    refine z_callOi RX0 RX2 yX2_wades cX2_wades 3 (some .int) 30 [.ref 21, .int a3] [some (.ref 30), some (.ref 21), some (.int a3)] (pc2 := 94) rfl rfl dX11_voice_91 ok_X2_wades ⟨fun _ => rfl, fun _ => Nat.le_of_ble_eq_true rfl⟩ rfl rv_30 wd_806 wd_809 wd_807 wd_810 wd_807 wd_830 ⟨by decide, by decide, rfl⟩ rfl (e_X2_wades_30 hq110) ?_
                    obtain ⟨x111, hxx111, h⟩ := ab_lt_e h
                    refine z_top hxx111 ?_
                    refine z_istore (pc2 := 96) (L2 := [some (.ref 8), some (.int a1), some (.int a2), some (.int a3), some (.ref 30), some (.int x111)]) rfl dX11_voice_94 (by decide) rfl rfl ?_
                    refine ab_goto (tgt := 141) dX11_voice_96 (by decide) ?_
                    refine z_aload_n (pc2 := 142) rfl dX11_voice_141 rfl ?_
                    refine z_getR 8 11 9 21 (pc2 := 145) rfl dX11_voice_142 rfl rfl ff_11_9 wd_311 rfl ?_
                    refine z_getI 21 8 2 (pc2 := 148) rfl dX11_voice_145 rfl rfl ff_8_2 wd_156 ?_
                    refine z_if_eq (pc2 := 151) (tgt := 160) rfl dX11_voice_148 (by decide) (fun hc112 => ?_) (fun hc112 => ?_)
                    · replace h := ab_pos hc112 h
                      refine z_iload (pc2 := 162) rfl dX11_voice_160 rfl ?_
                      exact z_iret dX11_voice_162 rfl rfl (fi_w h)
                    · replace h := ab_neg hc112 h
                      refine z_aload_n (pc2 := 152) rfl dX11_voice_151 rfl ?_
                      refine z_bipush (pc2 := 154) rfl dX11_voice_152 lt_b_6 ?_
                      obtain ⟨q113, hq113, h⟩ := ab_bnd h
                      refine z_callVi 8 [.int (6 : Int32)] [some (.ref 8), some (.int (6 : Int32))] (pc2 := 157) rfl rfl dX11_voice_154 ok_X11_refuse ⟨fun _ => rfl, fun _ => Nat.le_of_ble_eq_true rfl⟩ rfl rv_8 wd_346 wd_348 wd_0 rfl (e_X11_refuse hq113) ?_
                      refine ab_goto (tgt := 162) dX11_voice_157 (by decide) ?_
                      exact z_iret dX11_voice_162 rfl rfl (fi_w h)
                  · replace h := ab_neg hc109 h
                    by_cases hc114 : a2 = (1 : Int32)
                    · replace h := ab_pos hc114 h
                      refine ab_tsIn (tgt := 99) dX11_voice_59 (by rw [hc114]; decide) (by rw [hc114]; decide) (by rw [hc114]; rfl) (by decide) ?_
                      refine z_aload (pc2 := 101) rfl dX11_voice_99 rfl ?_
                      refine z_aload_n (pc2 := 102) rfl dX11_voice_101 rfl ?_
                      refine z_getR 8 11 9 21 (pc2 := 105) rfl dX11_voice_102 rfl rfl ff_11_9 wd_311 rfl ?_
                      refine z_iload_n (pc2 := 106) rfl dX11_voice_105 rfl ?_
                      obtain ⟨q115, hq115, h⟩ := ab_bnd h
                      refine z_callOi RX0 RX2 yX2_knows cX2_knows 3 (some .int) 30 [.ref 21, .int a3] [some (.ref 30), some (.ref 21), some (.int a3)] (pc2 := 109) rfl rfl dX11_voice_106 ok_X0_knows ⟨fun _ => rfl, fun _ => Nat.le_of_ble_eq_true rfl⟩ rfl rv_30 wd_832 wd_835 wd_833 wd_836 wd_837 wd_853 ⟨by decide, by decide, rfl⟩ rfl (e_X0_knows_30 hq115) ?_
                      obtain ⟨x116, hxx116, h⟩ := ab_lt_e h
                      refine z_top hxx116 ?_
                      refine z_istore (pc2 := 111) (L2 := [some (.ref 8), some (.int a1), some (.int a2), some (.int a3), some (.ref 30), some (.int x116)]) rfl dX11_voice_109 (by decide) rfl rfl ?_
                      refine ab_goto (tgt := 141) dX11_voice_111 (by decide) ?_
                      refine z_aload_n (pc2 := 142) rfl dX11_voice_141 rfl ?_
                      refine z_getR 8 11 9 21 (pc2 := 145) rfl dX11_voice_142 rfl rfl ff_11_9 wd_311 rfl ?_
                      refine z_getI 21 8 2 (pc2 := 148) rfl dX11_voice_145 rfl rfl ff_8_2 wd_156 ?_
                      refine z_if_eq (pc2 := 151) (tgt := 160) rfl dX11_voice_148 (by decide) (fun hc117 => ?_) (fun hc117 => ?_)
                      · replace h := ab_pos hc117 h
                        refine z_iload (pc2 := 162) rfl dX11_voice_160 rfl ?_
                        exact z_iret dX11_voice_162 rfl rfl (fi_w h)
                      · replace h := ab_neg hc117 h
                        refine z_aload_n (pc2 := 152) rfl dX11_voice_151 rfl ?_
                        refine z_bipush (pc2 := 154) rfl dX11_voice_152 lt_b_6 ?_
                        obtain ⟨q118, hq118, h⟩ := ab_bnd h
                        refine z_callVi 8 [.int (6 : Int32)] [some (.ref 8), some (.int (6 : Int32))] (pc2 := 157) rfl rfl dX11_voice_154 ok_X11_refuse ⟨fun _ => rfl, fun _ => Nat.le_of_ble_eq_true rfl⟩ rfl rv_8 wd_346 wd_348 wd_0 rfl (e_X11_refuse hq118) ?_
                        refine ab_goto (tgt := 162) dX11_voice_157 (by decide) ?_
                        exact z_iret dX11_voice_162 rfl rfl (fi_w h)
                    · replace h := ab_neg hc114 h
                      by_cases hc119 : a2 = (2 : Int32)
                      · replace h := ab_pos hc119 h
                        refine ab_tsIn (tgt := 114) dX11_voice_59 (by rw [hc119]; decide) (by rw [hc119]; decide) (by rw [hc119]; rfl) (by decide) ?_
                        refine z_aload (pc2 := 116) rfl dX11_voice_114 rfl ?_
                        refine z_aload_n (pc2 := 117) rfl dX11_voice_116 rfl ?_
                        refine z_getR 8 11 9 21 (pc2 := 120) rfl dX11_voice_117 rfl rfl ff_11_9 wd_311 rfl ?_
                        refine z_iload_n (pc2 := 121) rfl dX11_voice_120 rfl ?_
                        obtain ⟨q120, hq120, h⟩ := ab_bnd h
                        refine z_callOi RX0 RX2 yX2_sits cX2_sits 3 (some .int) 30 [.ref 21, .int a3] [some (.ref 30), some (.ref 21), some (.int a3)] (pc2 := 124) rfl rfl dX11_voice_121 ok_X2_sits ⟨fun _ => rfl, fun _ => Nat.le_of_ble_eq_true rfl⟩ rfl rv_30 wd_855 wd_858 wd_856 wd_859 wd_856 wd_874 ⟨by decide, by decide, rfl⟩ rfl (e_X2_sits_30 hq120) ?_
                        obtain ⟨x121, hxx121, h⟩ := ab_lt_e h
                        refine z_top hxx121 ?_
                        refine z_istore (pc2 := 126) (L2 := [some (.ref 8), some (.int a1), some (.int a2), some (.int a3), some (.ref 30), some (.int x121)]) rfl dX11_voice_124 (by decide) rfl rfl ?_
                        refine ab_goto (tgt := 141) dX11_voice_126 (by decide) ?_
                        refine z_aload_n (pc2 := 142) rfl dX11_voice_141 rfl ?_
                        refine z_getR 8 11 9 21 (pc2 := 145) rfl dX11_voice_142 rfl rfl ff_11_9 wd_311 rfl ?_
                        refine z_getI 21 8 2 (pc2 := 148) rfl dX11_voice_145 rfl rfl ff_8_2 wd_156 ?_
                        refine z_if_eq (pc2 := 151) (tgt := 160) rfl dX11_voice_148 (by decide) (fun hc122 => ?_) (fun hc122 => ?_)
                        · replace h := ab_pos hc122 h
                          refine z_iload (pc2 := 162) rfl dX11_voice_160 rfl ?_
                          exact z_iret dX11_voice_162 rfl rfl (fi_w h)
                        · replace h := ab_neg hc122 h
                          refine z_aload_n (pc2 := 152) rfl dX11_voice_151 rfl ?_
                          refine z_bipush (pc2 := 154) rfl dX11_voice_152 lt_b_6 ?_
                          obtain ⟨q123, hq123, h⟩ := ab_bnd h
                          refine z_callVi 8 [.int (6 : Int32)] [some (.ref 8), some (.int (6 : Int32))] (pc2 := 157) rfl rfl dX11_voice_154 ok_X11_refuse ⟨fun _ => rfl, fun _ => Nat.le_of_ble_eq_true rfl⟩ rfl rv_8 wd_346 wd_348 wd_0 rfl (e_X11_refuse hq123) ?_
                          refine ab_goto (tgt := 162) dX11_voice_157 (by decide) ?_
                          exact z_iret dX11_voice_162 rfl rfl (fi_w h)
                      · replace h := ab_neg hc119 h
                        have thc109 := ab_ne_toInt (k := 0) hc109 (by decide)
                        have thc114 := ab_ne_toInt (k := 1) hc114 (by decide)
                        have thc119 := ab_ne_toInt (k := 2) hc119 (by decide)
                        refine ab_tsOut (tgt := 129) dX11_voice_59 (by omega) (by decide) ?_
                        refine z_aload (pc2 := 131) rfl dX11_voice_129 rfl ?_
                        refine z_aload_n (pc2 := 132) rfl dX11_voice_131 rfl ?_
                        refine z_getR 8 11 9 21 (pc2 := 135) rfl dX11_voice_132 rfl rfl ff_11_9 wd_311 rfl ?_
                        refine z_iload_n (pc2 := 136) rfl dX11_voice_135 rfl ?_
                        obtain ⟨q124, hq124, h⟩ := ab_bnd h
                        refine z_callOi RX0 RX2 yX2_parts cX2_parts 4 (some .int) 30 [.ref 21, .int a3] [some (.ref 30), some (.ref 21), some (.int a3), none] (pc2 := 139) rfl rfl dX11_voice_136 ok_X2_parts ⟨fun _ => rfl, fun _ => Nat.le_of_ble_eq_true rfl⟩ rfl rv_30 wd_876 wd_879 wd_877 wd_880 wd_877 wd_894 ⟨by decide, by decide, rfl⟩ rfl (e_X2_parts_30 hq124) ?_
                        obtain ⟨x125, hxx125, h⟩ := ab_lt_e h
                        refine z_top hxx125 ?_
                        refine z_istore (pc2 := 141) (L2 := [some (.ref 8), some (.int a1), some (.int a2), some (.int a3), some (.ref 30), some (.int x125)]) rfl dX11_voice_139 (by decide) rfl rfl ?_
                        refine z_aload_n (pc2 := 142) rfl dX11_voice_141 rfl ?_
                        refine z_getR 8 11 9 21 (pc2 := 145) rfl dX11_voice_142 rfl rfl ff_11_9 wd_311 rfl ?_
                        refine z_getI 21 8 2 (pc2 := 148) rfl dX11_voice_145 rfl rfl ff_8_2 wd_156 ?_
                        refine z_if_eq (pc2 := 151) (tgt := 160) rfl dX11_voice_148 (by decide) (fun hc126 => ?_) (fun hc126 => ?_)
                        · replace h := ab_pos hc126 h
                          refine z_iload (pc2 := 162) rfl dX11_voice_160 rfl ?_
                          exact z_iret dX11_voice_162 rfl rfl (fi_w h)
                        · replace h := ab_neg hc126 h
                          refine z_aload_n (pc2 := 152) rfl dX11_voice_151 rfl ?_
                          refine z_bipush (pc2 := 154) rfl dX11_voice_152 lt_b_6 ?_
                          obtain ⟨q127, hq127, h⟩ := ab_bnd h
                          refine z_callVi 8 [.int (6 : Int32)] [some (.ref 8), some (.int (6 : Int32))] (pc2 := 157) rfl rfl dX11_voice_154 ok_X11_refuse ⟨fun _ => rfl, fun _ => Nat.le_of_ble_eq_true rfl⟩ rfl rv_8 wd_346 wd_348 wd_0 rfl (e_X11_refuse hq127) ?_
                          refine ab_goto (tgt := 162) dX11_voice_157 (by decide) ?_
                          exact z_iret dX11_voice_162 rfl rfl (fi_w h)
                · replace h := ab_neg hi128 h
                  by_cases hi148 : (q7 44 (a1).toNatClampNeg) = (6 : Int32)
                  · replace h := ab_pos hi148 h
                    refine z_aaldG 24 31 (pc2 := 56) rfl dX11_voice_55 rfl rfl (by rw [hi148]; rfl) (by rw [hi148]; rfl) ?_
                    refine z_astore (pc2 := 58) (L2 := [some (.ref 8), some (.int a1), some (.int a2), some (.int a3), some (.ref 31), none]) rfl dX11_voice_56 (by decide) rfl rfl ?_
                    refine z_iload_n (pc2 := 59) rfl dX11_voice_58 rfl ?_
                    by_cases hc129 : a2 = (0 : Int32)
                    · replace h := ab_pos hc129 h
                      refine ab_tsIn (tgt := 84) dX11_voice_59 (by rw [hc129]; decide) (by rw [hc129]; decide) (by rw [hc129]; rfl) (by decide) ?_
                      refine z_aload (pc2 := 86) rfl dX11_voice_84 rfl ?_
                      refine z_aload_n (pc2 := 87) rfl dX11_voice_86 rfl ?_
                      refine z_getR 8 11 9 21 (pc2 := 90) rfl dX11_voice_87 rfl rfl ff_11_9 wd_311 rfl ?_
                      refine z_iload_n (pc2 := 91) rfl dX11_voice_90 rfl ?_
                      obtain ⟨q130, hq130, h⟩ := ab_bnd h
                      refine z_callOi RX4 RX2 yX2_wades cX2_wades 3 (some .int) 31 [.ref 21, .int a3] [some (.ref 31), some (.ref 21), some (.int a3)] (pc2 := 94) rfl rfl dX11_voice_91 ok_X4_wades ⟨fun _ => rfl, fun _ => Nat.le_of_ble_eq_true rfl⟩ rfl rv_31 wd_806 wd_809 wd_807 wd_824 wd_825 wd_830 ⟨by decide, by decide, rfl⟩ rfl (e_X4_wades_31 hq130) ?_
                      obtain ⟨x131, hxx131, h⟩ := ab_lt_e h
                      refine z_top hxx131 ?_
                      refine z_istore (pc2 := 96) (L2 := [some (.ref 8), some (.int a1), some (.int a2), some (.int a3), some (.ref 31), some (.int x131)]) rfl dX11_voice_94 (by decide) rfl rfl ?_
                      refine ab_goto (tgt := 141) dX11_voice_96 (by decide) ?_
                      refine z_aload_n (pc2 := 142) rfl dX11_voice_141 rfl ?_
                      refine z_getR 8 11 9 21 (pc2 := 145) rfl dX11_voice_142 rfl rfl ff_11_9 wd_311 rfl ?_
                      refine z_getI 21 8 2 (pc2 := 148) rfl dX11_voice_145 rfl rfl ff_8_2 wd_156 ?_
                      refine z_if_eq (pc2 := 151) (tgt := 160) rfl dX11_voice_148 (by decide) (fun hc132 => ?_) (fun hc132 => ?_)
                      · replace h := ab_pos hc132 h
                        refine z_iload (pc2 := 162) rfl dX11_voice_160 rfl ?_
                        exact z_iret dX11_voice_162 rfl rfl (fi_w h)
                      · replace h := ab_neg hc132 h
                        refine z_aload_n (pc2 := 152) rfl dX11_voice_151 rfl ?_
                        refine z_bipush (pc2 := 154) rfl dX11_voice_152 lt_b_6 ?_
                        obtain ⟨q133, hq133, h⟩ := ab_bnd h
                        refine z_callVi 8 [.int (6 : Int32)] [some (.ref 8), some (.int (6 : Int32))] (pc2 := 157) rfl rfl dX11_voice_154 ok_X11_refuse ⟨fun _ => rfl, fun _ => Nat.le_of_ble_eq_true rfl⟩ rfl rv_8 wd_346 wd_348 wd_0 rfl (e_X11_refuse hq133) ?_
                        refine ab_goto (tgt := 162) dX11_voice_157 (by decide) ?_
                        exact z_iret dX11_voice_162 rfl rfl (fi_w h)
                    · replace h := ab_neg hc129 h
                      by_cases hc134 : a2 = (1 : Int32)
                      · replace h := ab_pos hc134 h
                        refine ab_tsIn (tgt := 99) dX11_voice_59 (by rw [hc134]; decide) (by rw [hc134]; decide) (by rw [hc134]; rfl) (by decide) ?_
                        refine z_aload (pc2 := 101) rfl dX11_voice_99 rfl ?_
                        refine z_aload_n (pc2 := 102) rfl dX11_voice_101 rfl ?_
                        refine z_getR 8 11 9 21 (pc2 := 105) rfl dX11_voice_102 rfl rfl ff_11_9 wd_311 rfl ?_
                        refine z_iload_n (pc2 := 106) rfl dX11_voice_105 rfl ?_
                        obtain ⟨q135, hq135, h⟩ := ab_bnd h
                        refine z_callOi RX4 RX2 yX2_knows cX2_knows 3 (some .int) 31 [.ref 21, .int a3] [some (.ref 31), some (.ref 21), some (.int a3)] (pc2 := 109) rfl rfl dX11_voice_106 ok_X4_knows ⟨fun _ => rfl, fun _ => Nat.le_of_ble_eq_true rfl⟩ rfl rv_31 wd_832 wd_835 wd_833 wd_847 wd_848 wd_853 ⟨by decide, by decide, rfl⟩ rfl (e_X4_knows_31 hq135) ?_
                        obtain ⟨x136, hxx136, h⟩ := ab_lt_e h
                        refine z_top hxx136 ?_
                        refine z_istore (pc2 := 111) (L2 := [some (.ref 8), some (.int a1), some (.int a2), some (.int a3), some (.ref 31), some (.int x136)]) rfl dX11_voice_109 (by decide) rfl rfl ?_
                        refine ab_goto (tgt := 141) dX11_voice_111 (by decide) ?_
                        refine z_aload_n (pc2 := 142) rfl dX11_voice_141 rfl ?_
                        refine z_getR 8 11 9 21 (pc2 := 145) rfl dX11_voice_142 rfl rfl ff_11_9 wd_311 rfl ?_
                        refine z_getI 21 8 2 (pc2 := 148) rfl dX11_voice_145 rfl rfl ff_8_2 wd_156 ?_
                        refine z_if_eq (pc2 := 151) (tgt := 160) rfl dX11_voice_148 (by decide) (fun hc137 => ?_) (fun hc137 => ?_)
                        · replace h := ab_pos hc137 h
                          refine z_iload (pc2 := 162) rfl dX11_voice_160 rfl ?_
                          exact z_iret dX11_voice_162 rfl rfl (fi_w h)
                        · replace h := ab_neg hc137 h
                          refine z_aload_n (pc2 := 152) rfl dX11_voice_151 rfl ?_
                          refine z_bipush (pc2 := 154) rfl dX11_voice_152 lt_b_6 ?_
                          obtain ⟨q138, hq138, h⟩ := ab_bnd h
                          refine z_callVi 8 [.int (6 : Int32)] [some (.ref 8), some (.int (6 : Int32))] (pc2 := 157) rfl rfl dX11_voice_154 ok_X11_refuse ⟨fun _ => rfl, fun _ => Nat.le_of_ble_eq_true rfl⟩ rfl rv_8 wd_346 wd_348 wd_0 rfl (e_X11_refuse hq138) ?_
                          refine ab_goto (tgt := 162) dX11_voice_157 (by decide) ?_
                          exact z_iret dX11_voice_162 rfl rfl (fi_w h)
                      · replace h := ab_neg hc134 h
                        by_cases hc139 : a2 = (2 : Int32)
                        · replace h := ab_pos hc139 h
                          refine ab_tsIn (tgt := 114) dX11_voice_59 (by rw [hc139]; decide) (by rw [hc139]; decide) (by rw [hc139]; rfl) (by decide) ?_
                          refine z_aload (pc2 := 116) rfl dX11_voice_114 rfl ?_
                          refine z_aload_n (pc2 := 117) rfl dX11_voice_116 rfl ?_
                          refine z_getR 8 11 9 21 (pc2 := 120) rfl dX11_voice_117 rfl rfl ff_11_9 wd_311 rfl ?_
                          refine z_iload_n (pc2 := 121) rfl dX11_voice_120 rfl ?_
                          obtain ⟨q140, hq140, h⟩ := ab_bnd h
                          refine z_callOi RX4 RX2 yX2_sits cX2_sits 3 (some .int) 31 [.ref 21, .int a3] [some (.ref 31), some (.ref 21), some (.int a3)] (pc2 := 124) rfl rfl dX11_voice_121 ok_X2_sits ⟨fun _ => rfl, fun _ => Nat.le_of_ble_eq_true rfl⟩ rfl rv_31 wd_855 wd_858 wd_856 wd_871 wd_856 wd_874 ⟨by decide, by decide, rfl⟩ rfl (e_X2_sits_31 hq140) ?_
                          obtain ⟨x141, hxx141, h⟩ := ab_lt_e h
                          refine z_top hxx141 ?_
                          refine z_istore (pc2 := 126) (L2 := [some (.ref 8), some (.int a1), some (.int a2), some (.int a3), some (.ref 31), some (.int x141)]) rfl dX11_voice_124 (by decide) rfl rfl ?_
                          refine ab_goto (tgt := 141) dX11_voice_126 (by decide) ?_
                          refine z_aload_n (pc2 := 142) rfl dX11_voice_141 rfl ?_
                          refine z_getR 8 11 9 21 (pc2 := 145) rfl dX11_voice_142 rfl rfl ff_11_9 wd_311 rfl ?_
                          refine z_getI 21 8 2 (pc2 := 148) rfl dX11_voice_145 rfl rfl ff_8_2 wd_156 ?_
                          refine z_if_eq (pc2 := 151) (tgt := 160) rfl dX11_voice_148 (by decide) (fun hc142 => ?_) (fun hc142 => ?_)
                          · replace h := ab_pos hc142 h
                            refine z_iload (pc2 := 162) rfl dX11_voice_160 rfl ?_
                            exact z_iret dX11_voice_162 rfl rfl (fi_w h)
                          · replace h := ab_neg hc142 h
                            refine z_aload_n (pc2 := 152) rfl dX11_voice_151 rfl ?_
                            refine z_bipush (pc2 := 154) rfl dX11_voice_152 lt_b_6 ?_
                            obtain ⟨q143, hq143, h⟩ := ab_bnd h
                            refine z_callVi 8 [.int (6 : Int32)] [some (.ref 8), some (.int (6 : Int32))] (pc2 := 157) rfl rfl dX11_voice_154 ok_X11_refuse ⟨fun _ => rfl, fun _ => Nat.le_of_ble_eq_true rfl⟩ rfl rv_8 wd_346 wd_348 wd_0 rfl (e_X11_refuse hq143) ?_
                            refine ab_goto (tgt := 162) dX11_voice_157 (by decide) ?_
                            exact z_iret dX11_voice_162 rfl rfl (fi_w h)
                        · replace h := ab_neg hc139 h
                          have thc129 := ab_ne_toInt (k := 0) hc129 (by decide)
                          have thc134 := ab_ne_toInt (k := 1) hc134 (by decide)
                          have thc139 := ab_ne_toInt (k := 2) hc139 (by decide)
                          refine ab_tsOut (tgt := 129) dX11_voice_59 (by omega) (by decide) ?_
                          refine z_aload (pc2 := 131) rfl dX11_voice_129 rfl ?_
                          refine z_aload_n (pc2 := 132) rfl dX11_voice_131 rfl ?_
                          refine z_getR 8 11 9 21 (pc2 := 135) rfl dX11_voice_132 rfl rfl ff_11_9 wd_311 rfl ?_
                          refine z_iload_n (pc2 := 136) rfl dX11_voice_135 rfl ?_
                          obtain ⟨q144, hq144, h⟩ := ab_bnd h
                          refine z_callOi RX4 RX2 yX2_parts cX2_parts 4 (some .int) 31 [.ref 21, .int a3] [some (.ref 31), some (.ref 21), some (.int a3), none] (pc2 := 139) rfl rfl dX11_voice_136 ok_X2_parts ⟨fun _ => rfl, fun _ => Nat.le_of_ble_eq_true rfl⟩ rfl rv_31 wd_876 wd_879 wd_877 wd_891 wd_877 wd_894 ⟨by decide, by decide, rfl⟩ rfl (e_X2_parts_31 hq144) ?_
                          obtain ⟨x145, hxx145, h⟩ := ab_lt_e h
                          refine z_top hxx145 ?_
                          refine z_istore (pc2 := 141) (L2 := [some (.ref 8), some (.int a1), some (.int a2), some (.int a3), some (.ref 31), some (.int x145)]) rfl dX11_voice_139 (by decide) rfl rfl ?_
                          refine z_aload_n (pc2 := 142) rfl dX11_voice_141 rfl ?_
                          refine z_getR 8 11 9 21 (pc2 := 145) rfl dX11_voice_142 rfl rfl ff_11_9 wd_311 rfl ?_
                          refine z_getI 21 8 2 (pc2 := 148) rfl dX11_voice_145 rfl rfl ff_8_2 wd_156 ?_
                          refine z_if_eq (pc2 := 151) (tgt := 160) rfl dX11_voice_148 (by decide) (fun hc146 => ?_) (fun hc146 => ?_)
                          · replace h := ab_pos hc146 h
                            refine z_iload (pc2 := 162) rfl dX11_voice_160 rfl ?_
                            exact z_iret dX11_voice_162 rfl rfl (fi_w h)
                          · replace h := ab_neg hc146 h
                            refine z_aload_n (pc2 := 152) rfl dX11_voice_151 rfl ?_
                            refine z_bipush (pc2 := 154) rfl dX11_voice_152 lt_b_6 ?_
                            obtain ⟨q147, hq147, h⟩ := ab_bnd h
                            refine z_callVi 8 [.int (6 : Int32)] [some (.ref 8), some (.int (6 : Int32))] (pc2 := 157) rfl rfl dX11_voice_154 ok_X11_refuse ⟨fun _ => rfl, fun _ => Nat.le_of_ble_eq_true rfl⟩ rfl rv_8 wd_346 wd_348 wd_0 rfl (e_X11_refuse hq147) ?_
                            refine ab_goto (tgt := 162) dX11_voice_157 (by decide) ?_
                            exact z_iret dX11_voice_162 rfl rfl (fi_w h)
                  · replace h := ab_neg hi148 h
                    cases h
    · replace h := ab_neg hc5 h
      refine z_aload_n (pc2 := 17) rfl dX11_voice_16 rfl ?_
      refine z_iconst (pc2 := 18) rfl dX11_voice_17 lt_i_1 ?_
      obtain ⟨q149, hq149, h⟩ := ab_bnd h
      refine z_callVi 8 [.int (1 : Int32)] [some (.ref 8), some (.int (1 : Int32))] (pc2 := 21) rfl rfl dX11_voice_18 ok_X11_refuse ⟨fun _ => rfl, fun _ => Nat.le_of_ble_eq_true rfl⟩ rfl rv_8 wd_346 wd_348 wd_0 rfl (e_X11_refuse hq149) ?_
      exact z_iret dX11_voice_21 rfl rfl (fi_w h)
