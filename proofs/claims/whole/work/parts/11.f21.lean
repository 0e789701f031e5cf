def f_X12_untell (a1 : Int32) (σ : ab_F) : Option (Int32 × ab_F) := (f_X12_in a1 (0 : Int32) (1 : Int32) σ).bind (fun q1 => (if (ab_b q1) = 0 then (f_X12_error (1 : Int32) σ).bind (fun q9 => (some (q9.1, q9.2))) else (f_X12_hasText a1 σ).bind (fun q3 => (if (ab_b q3) = 0 then ab_ck (ab_ib ((116 : Int32) + ((125 : Int32) * a1)) 450) (ab_lt (ab_u σ 86 (((116 : Int32) + ((125 : Int32) * a1))).toNatClampNeg (0 : Int32)) (fun (s6 : ab_F) => (some ((0 : Int32), s6)))) else ab_ck (ab_ib ((116 : Int32) + ((125 : Int32) * a1)) 450) (ab_lt (ab_u σ 86 (((116 : Int32) + ((125 : Int32) * a1))).toNatClampNeg (0 : Int32)) (fun (s8 : ab_F) => (some ((1 : Int32), s8))))))))
set_option maxRecDepth 100000 in
set_option maxHeartbeats 4000000 in
theorem e_X12_untell {sc : Nat × (Nat → Int32)} {r : Option Nat × Option Nat} {a1 : Int32} {σ : ab_F} {res : (Int32 × ab_F)} (h : f_X12_untell a1 σ = some res) : ab_E mX12_untell 1 sc 0 [some (.ref 85), some (.int a1), none] [] (σ, r) (fun v S => v = some (.int res.1) ∧ S = (res.2, r)) := by
  unfold f_X12_untell at h
  refine z_iload_n (pc2 := 1) rfl dX12_untell_0 rfl ?_
  refine z_iconst (pc2 := 2) rfl dX12_untell_1 lt_i_0 ?_
  refine z_iconst (pc2 := 3) rfl dX12_untell_2 lt_i_1 ?_
  obtain ⟨q1, hq1, h⟩ := ab_bnd h
  refine z_callSi [.int a1, .int (0 : Int32), .int (1 : Int32)] [some (.int a1), some (.int (0 : Int32)), some (.int (1 : Int32))] (pc2 := 6) rfl rfl dX12_untell_3 ok_X12_in ⟨fun _ => rfl, fun _ => Nat.le_of_ble_eq_true rfl⟩ rfl wd_1042 wd_1043 rfl (e_X12_in hq1) ?_
  refine z_if_ne (pc2 := 9) (tgt := 15) rfl dX12_untell_6 (by decide) (fun hc2 => ?_) (fun hc2 => ?_)
  · replace h := ab_neg hc2 h
    refine z_aload_n (pc2 := 16) rfl dX12_untell_15 rfl ?_
    refine z_iload_n (pc2 := 17) rfl dX12_untell_16 rfl ?_
    obtain ⟨q3, hq3, h⟩ := ab_bnd h
    refine z_callVi 85 [.int a1] [some (.ref 85), some (.int a1)] (pc2 := 20) rfl rfl dX12_untell_17 ok_X12_hasText ⟨fun _ => rfl, fun _ => Nat.le_of_ble_eq_true rfl⟩ rfl rv_85 wd_1099 wd_1101 wd_27 rfl (e_X12_hasText hq3) ?_
    refine z_if_eq (pc2 := 23) (tgt := 27) rfl dX12_untell_20 (by decide) (fun hc4 => ?_) (fun hc4 => ?_)
    · replace h := ab_pos hc4 h
      refine z_iconst (pc2 := 28) rfl dX12_untell_27 lt_i_0 ?_
      refine z_istore_n (pc2 := 29) (L2 := [some (.ref 85), some (.int a1), some (.int (0 : Int32))]) rfl dX12_untell_28 (by decide) rfl rfl ?_
      refine z_aload_n (pc2 := 30) rfl dX12_untell_29 rfl ?_
      refine z_getR 85 12 0 86 (pc2 := 33) rfl dX12_untell_30 rfl rfl ff_12_0 wd_977 rfl ?_
      refine z_bipush (pc2 := 35) rfl dX12_untell_33 lt_b_116 ?_
      refine z_bipush (pc2 := 37) rfl dX12_untell_35 lt_b_125 ?_
      refine z_iload_n (pc2 := 38) rfl dX12_untell_37 rfl ?_
      refine z_imul (pc2 := 39) rfl dX12_untell_38 ?_
      refine z_iadd (pc2 := 40) rfl dX12_untell_39 ?_
      refine z_iconst (pc2 := 41) rfl dX12_untell_40 lt_i_0 ?_
      obtain ⟨hb5, h⟩ := ab_ck_e h
      refine z_iast 86 (pc2 := 42) (j := (((116 : Int32) + ((125 : Int32) * a1))).toNatClampNeg) rfl dX12_untell_41 rfl rfl hb5 rfl ?_
      obtain ⟨s6, hs6, h⟩ := ab_lt_e h
      refine z_tops hs6 ?_
      refine z_iload_n (pc2 := 43) rfl dX12_untell_42 rfl ?_
      exact z_iret dX12_untell_43 rfl rfl (fi_w h)
    · replace h := ab_neg hc4 h
      refine z_iconst (pc2 := 24) rfl dX12_untell_23 lt_i_1 ?_
      refine ab_goto (tgt := 28) dX12_untell_24 (by decide) ?_
      refine z_istore_n (pc2 := 29) (L2 := [some (.ref 85), some (.int a1), some (.int (1 : Int32))]) rfl dX12_untell_28 (by decide) rfl rfl ?_
      refine z_aload_n (pc2 := 30) rfl dX12_untell_29 rfl ?_
      refine z_getR 85 12 0 86 (pc2 := 33) rfl dX12_untell_30 rfl rfl ff_12_0 wd_977 rfl ?_
      refine z_bipush (pc2 := 35) rfl dX12_untell_33 lt_b_116 ?_
      refine z_bipush (pc2 := 37) rfl dX12_untell_35 lt_b_125 ?_
      refine z_iload_n (pc2 := 38) rfl dX12_untell_37 rfl ?_
      refine z_imul (pc2 := 39) rfl dX12_untell_38 ?_
      refine z_iadd (pc2 := 40) rfl dX12_untell_39 ?_
      refine z_iconst (pc2 := 41) rfl dX12_untell_40 lt_i_0 ?_
      obtain ⟨hb7, h⟩ := ab_ck_e h
      refine z_iast 86 (pc2 := 42) (j := (((116 : Int32) + ((125 : Int32) * a1))).toNatClampNeg) rfl dX12_untell_41 rfl rfl hb7 rfl ?_
      obtain ⟨s8, hs8, h⟩ := ab_lt_e h
      refine z_tops hs8 ?_
      refine z_iload_n (pc2 := 43) rfl dX12_untell_42 rfl ?_
      exact z_iret dX12_untell_43 rfl rfl (fi_w h)
  · replace h := ab_pos hc2 h
    refine z_aload_n (pc2 := 10) rfl dX12_untell_9 rfl ?_
    refine z_iconst (pc2 := 11) rfl dX12_untell_10 lt_i_1 ?_
    obtain ⟨q9, hq9, h⟩ := ab_bnd h
    refine z_callVi 85 [.int (1 : Int32)] [some (.ref 85), some (.int (1 : Int32))] (pc2 := 14) rfl rfl dX12_untell_11 ok_X12_error ⟨fun _ => rfl, fun _ => Nat.le_of_ble_eq_true rfl⟩ rfl rv_85 wd_1045 wd_1047 wd_16 rfl (e_X12_error hq9) ?_
    exact z_iret dX12_untell_14 rfl rfl (fi_w h)
def f_X12_joined (a0 : Int32) (a1 : Int32) (a2 : Int32) (σ : ab_F) : Option Int32 := (if a0 = (37 : Int32) then (if a2 = 0 then (some (0 : Int32)) else (if a2 = (-1 : Int32) then (some (0 : Int32)) else ab_ck (ab_nz a2) ((some (a1 - a1 / a2 * a2))))) else if a0 = (38 : Int32) then (if a1 = 0 then (some (0 : Int32)) else (if a2 = 0 then (some (0 : Int32)) else (some (1 : Int32)))) else if a0 = (39 : Int32) then (if a1 = 0 then (if a2 = 0 then (some (0 : Int32)) else (some (1 : Int32))) else (some (1 : Int32))) else if a0 = (40 : Int32) then (if a1 = 0 then (if a2 = 0 then (some (0 : Int32)) else (some (1 : Int32))) else (some (1 : Int32))) else if a0 = (41 : Int32) then (if a1 = 0 then (if a2 = 0 then (some (0 : Int32)) else (some (1 : Int32))) else (some (1 : Int32))) else if a0 = (42 : Int32) then (some (a1 * a2)) else if a0 = (43 : Int32) then (some (a1 + a2)) else if a0 = (44 : Int32) then (if a1 = 0 then (if a2 = 0 then (some (0 : Int32)) else (some (1 : Int32))) else (some (1 : Int32))) else if a0 = (45 : Int32) then (some (a1 - a2)) else if a0 = (46 : Int32) then (if a1 = 0 then (if a2 = 0 then (some (0 : Int32)) else (some (1 : Int32))) else (some (1 : Int32))) else if a0 = (47 : Int32) then (if a2 = 0 then (some (0 : Int32)) else (if a2 = (-1 : Int32) then (some (-a1)) else ab_ck (ab_nz a2) ((some (a1 / a2))))) else if a0 = (48 : Int32) then (if a1 = 0 then (if a2 = 0 then (some (0 : Int32)) else (some (1 : Int32))) else (some (1 : Int32))) else if a0 = (49 : Int32) then (if a1 = 0 then (if a2 = 0 then (some (0 : Int32)) else (some (1 : Int32))) else (some (1 : Int32))) else if a0 = (50 : Int32) then (if a1 = 0 then (if a2 = 0 then (some (0 : Int32)) else (some (1 : Int32))) else (some (1 : Int32))) else if a0 = (51 : Int32) then (if a1 = 0 then (if a2 = 0 then (some (0 : Int32)) else (some (1 : Int32))) else (some (1 : Int32))) else if a0 = (52 : Int32) then (if a1 = 0 then (if a2 = 0 then (some (0 : Int32)) else (some (1 : Int32))) else (some (1 : Int32))) else if a0 = (53 : Int32) then (if a1 = 0 then (if a2 = 0 then (some (0 : Int32)) else (some (1 : Int32))) else (some (1 : Int32))) else if a0 = (54 : Int32) then (if a1 = 0 then (if a2 = 0 then (some (0 : Int32)) else (some (1 : Int32))) else (some (1 : Int32))) else if a0 = (55 : Int32) then (if a1 = 0 then (if a2 = 0 then (some (0 : Int32)) else (some (1 : Int32))) else (some (1 : Int32))) else if a0 = (56 : Int32) then (if a1 = 0 then (if a2 = 0 then (some (0 : Int32)) else (some (1 : Int32))) else (some (1 : Int32))) else if a0 = (57 : Int32) then (if a1 = 0 then (if a2 = 0 then (some (0 : Int32)) else (some (1 : Int32))) else (some (1 : Int32))) else if a0 = (58 : Int32) then (if a1 = 0 then (if a2 = 0 then (some (0 : Int32)) else (some (1 : Int32))) else (some (1 : Int32))) else if a0 = (59 : Int32) then (if a1 = 0 then (if a2 = 0 then (some (0 : Int32)) else (some (1 : Int32))) else (some (1 : Int32))) else if a0 = (60 : Int32) then (if a2 ≤ a1 then (some (0 : Int32)) else (some (1 : Int32))) else if a0 = (61 : Int32) then (if a1 = a2 then (some (1 : Int32)) else (some (0 : Int32))) else if a0 = (62 : Int32) then (if a1 ≤ a2 then (some (0 : Int32)) else (some (1 : Int32))) else (if a1 = 0 then (if a2 = 0 then (some (0 : Int32)) else (some (1 : Int32))) else (some (1 : Int32))))
set_option maxRecDepth 100000 in
set_option maxHeartbeats 4000000 in
theorem e_X12_joined {sc : Nat × (Nat → Int32)} {r : Option Nat × Option Nat} {a0 : Int32} {a1 : Int32} {a2 : Int32} {σ : ab_F} {res : Int32} (h : f_X12_joined a0 a1 a2 σ = some res) : ab_E mX12_joined 0 sc 0 [some (.int a0), some (.int a1), some (.int a2)] [] (σ, r) (fun v S => v = some (.int res) ∧ S = (σ, r)) := by
  unfold f_X12_joined at h
  refine z_iload_n (pc2 := 1) rfl dX12_joined_0 rfl ?_
  by_cases hc1 : a0 = (37 : Int32)
  · replace h := ab_pos hc1 h
    refine ab_tsIn (tgt := 154) dX12_joined_1 (by rw [hc1]; decide) (by rw [hc1]; decide) (by rw [hc1]; rfl) (by decide) ?_
    refine z_iload_n (pc2 := 155) rfl dX12_joined_154 rfl ?_
    refine z_if_eq (pc2 := 158) (tgt := 163) rfl dX12_joined_155 (by decide) (fun hc2 => ?_) (fun hc2 => ?_)
    · replace h := ab_pos hc2 h
      refine z_iconst (pc2 := 164) rfl dX12_joined_163 lt_i_0 ?_
      refine ab_goto (tgt := 170) dX12_joined_164 (by decide) ?_
      exact z_iret dX12_joined_170 rfl rfl (fi_p h)
    · replace h := ab_neg hc2 h
      refine z_iload_n (pc2 := 159) rfl dX12_joined_158 rfl ?_
      refine z_iconst (pc2 := 160) rfl dX12_joined_159 lt_i_m1 ?_
      refine z_icmp_ne (pc2 := 163) (tgt := 167) rfl dX12_joined_160 (by decide) (fun hc3 => ?_) (fun hc3 => ?_)
      · replace h := ab_neg hc3 h
        refine z_iload_n (pc2 := 168) rfl dX12_joined_167 rfl ?_
        refine z_iload_n (pc2 := 169) rfl dX12_joined_168 rfl ?_
        obtain ⟨hb4, h⟩ := ab_ck_e h
        refine z_irem (pc2 := 170) rfl dX12_joined_169 (ab_nz_e hb4) ?_
        exact z_iret dX12_joined_170 rfl rfl (fi_p h)
      · replace h := ab_pos hc3 h
        refine z_iconst (pc2 := 164) rfl dX12_joined_163 lt_i_0 ?_
        refine ab_goto (tgt := 170) dX12_joined_164 (by decide) ?_
        exact z_iret dX12_joined_170 rfl rfl (fi_p h)
  · replace h := ab_neg hc1 h
    by_cases hc5 : a0 = (38 : Int32)
    · replace h := ab_pos hc5 h
      refine ab_tsIn (tgt := 204) dX12_joined_1 (by rw [hc5]; decide) (by rw [hc5]; decide) (by rw [hc5]; rfl) (by decide) ?_
      refine z_iload_n (pc2 := 205) rfl dX12_joined_204 rfl ?_
      refine z_if_eq (pc2 := 208) (tgt := 216) rfl dX12_joined_205 (by decide) (fun hc6 => ?_) (fun hc6 => ?_)
      · replace h := ab_pos hc6 h
        refine z_iconst (pc2 := 217) rfl dX12_joined_216 lt_i_0 ?_
        exact z_iret dX12_joined_217 rfl rfl (fi_p h)
      · replace h := ab_neg hc6 h
        refine z_iload_n (pc2 := 209) rfl dX12_joined_208 rfl ?_
        refine z_if_eq (pc2 := 212) (tgt := 216) rfl dX12_joined_209 (by decide) (fun hc7 => ?_) (fun hc7 => ?_)
        · replace h := ab_pos hc7 h
          refine z_iconst (pc2 := 217) rfl dX12_joined_216 lt_i_0 ?_
          exact z_iret dX12_joined_217 rfl rfl (fi_p h)
        · replace h := ab_neg hc7 h
          refine z_iconst (pc2 := 213) rfl dX12_joined_212 lt_i_1 ?_
          refine ab_goto (tgt := 217) dX12_joined_213 (by decide) ?_
          exact z_iret dX12_joined_217 rfl rfl (fi_p h)
    · replace h := ab_neg hc5 h
      by_cases hc8 : a0 = (39 : Int32)
      · replace h := ab_pos hc8 h
        refine ab_tsIn (tgt := 218) dX12_joined_1 (by rw [hc8]; decide) (by rw [hc8]; decide) (by rw [hc8]; rfl) (by decide) ?_
        refine z_iload_n (pc2 := 219) rfl dX12_joined_218 rfl ?_
        refine z_if_ne (pc2 := 222) (tgt := 226) rfl dX12_joined_219 (by decide) (fun hc9 => ?_) (fun hc9 => ?_)
        · replace h := ab_neg hc9 h
          refine z_iconst (pc2 := 227) rfl dX12_joined_226 lt_i_1 ?_
          refine ab_goto (tgt := 231) dX12_joined_227 (by decide) ?_
          exact z_iret dX12_joined_231 rfl rfl (fi_p h)
        · replace h := ab_pos hc9 h
          refine z_iload_n (pc2 := 223) rfl dX12_joined_222 rfl ?_
          refine z_if_eq (pc2 := 226) (tgt := 230) rfl dX12_joined_223 (by decide) (fun hc10 => ?_) (fun hc10 => ?_)
          · replace h := ab_pos hc10 h
            refine z_iconst (pc2 := 231) rfl dX12_joined_230 lt_i_0 ?_
            exact z_iret dX12_joined_231 rfl rfl (fi_p h)
          · replace h := ab_neg hc10 h
            refine z_iconst (pc2 := 227) rfl dX12_joined_226 lt_i_1 ?_
            refine ab_goto (tgt := 231) dX12_joined_227 (by decide) ?_
            exact z_iret dX12_joined_231 rfl rfl (fi_p h)
      · replace h := ab_neg hc8 h
        by_cases hc11 : a0 = (40 : Int32)
        · replace h := ab_pos hc11 h
          refine ab_tsIn (tgt := 218) dX12_joined_1 (by rw [hc11]; decide) (by rw [hc11]; decide) (by rw [hc11]; rfl) (by decide) ?_
          refine z_iload_n (pc2 := 219) rfl dX12_joined_218 rfl ?_
          refine z_if_ne (pc2 := 222) (tgt := 226) rfl dX12_joined_219 (by decide) (fun hc12 => ?_) (fun hc12 => ?_)
          · replace h := ab_neg hc12 h
            refine z_iconst (pc2 := 227) rfl dX12_joined_226 lt_i_1 ?_
            refine ab_goto (tgt := 231) dX12_joined_227 (by decide) ?_
            exact z_iret dX12_joined_231 rfl rfl (fi_p h)
          · replace h := ab_pos hc12 h
            refine z_iload_n (pc2 := 223) rfl dX12_joined_222 rfl ?_
            refine z_if_eq (pc2 := 226) (tgt := 230) rfl dX12_joined_223 (by decide) (fun hc13 => ?_) (fun hc13 => ?_)
            · replace h := ab_pos hc13 h
              refine z_iconst (pc2 := 231) rfl dX12_joined_230 lt_i_0 ?_
              exact z_iret dX12_joined_231 rfl rfl (fi_p h)
            · replace h := ab_neg hc13 h
              refine z_iconst (pc2 := 227) rfl dX12_joined_226 lt_i_1 ?_
              refine ab_goto (tgt := 231) dX12_joined_227 (by decide) ?_
              exact z_iret dX12_joined_231 rfl rfl (fi_p h)
        · replace h := ab_neg hc11 h
          by_cases hc14 : a0 = (41 : Int32)
          · replace h := ab_pos hc14 h
            refine ab_tsIn (tgt := 218) dX12_joined_1 (by rw [hc14]; decide) (by rw [hc14]; decide) (by rw [hc14]; rfl) (by decide) ?_
            refine z_iload_n (pc2 := 219) rfl dX12_joined_218 rfl ?_
            refine z_if_ne (pc2 := 222) (tgt := 226) rfl dX12_joined_219 (by decide) (fun hc15 => ?_) (fun hc15 => ?_)
            · replace h := ab_neg hc15 h
              refine z_iconst (pc2 := 227) rfl dX12_joined_226 lt_i_1 ?_
              refine ab_goto (tgt := 231) dX12_joined_227 (by decide) ?_
              exact z_iret dX12_joined_231 rfl rfl (fi_p h)
            · replace h := ab_pos hc15 h
              refine z_iload_n (pc2 := 223) rfl dX12_joined_222 rfl ?_
              refine z_if_eq (pc2 := 226) (tgt := 230) rfl dX12_joined_223 (by decide) (fun hc16 => ?_) (fun hc16 => ?_)
              · replace h := ab_pos hc16 h
                refine z_iconst (pc2 := 231) rfl dX12_joined_230 lt_i_0 ?_
                exact z_iret dX12_joined_231 rfl rfl (fi_p h)
              · replace h := ab_neg hc16 h
                refine z_iconst (pc2 := 227) rfl dX12_joined_226 lt_i_1 ?_
                refine ab_goto (tgt := 231) dX12_joined_227 (by decide) ?_
                exact z_iret dX12_joined_231 rfl rfl (fi_p h)
          · replace h := ab_neg hc14 h
            by_cases hc17 : a0 = (42 : Int32)
            · replace h := ab_pos hc17 h
              refine ab_tsIn (tgt := 128) dX12_joined_1 (by rw [hc17]; decide) (by rw [hc17]; decide) (by rw [hc17]; rfl) (by decide) ?_
              refine z_iload_n (pc2 := 129) rfl dX12_joined_128 rfl ?_
              refine z_iload_n (pc2 := 130) rfl dX12_joined_129 rfl ?_
              refine z_imul (pc2 := 131) rfl dX12_joined_130 ?_
              exact z_iret dX12_joined_131 rfl rfl (fi_p h)
            · replace h := ab_neg hc17 h
              by_cases hc18 : a0 = (43 : Int32)
              · replace h := ab_pos hc18 h
                refine ab_tsIn (tgt := 120) dX12_joined_1 (by rw [hc18]; decide) (by rw [hc18]; decide) (by rw [hc18]; rfl) (by decide) ?_
                refine z_iload_n (pc2 := 121) rfl dX12_joined_120 rfl ?_
                refine z_iload_n (pc2 := 122) rfl dX12_joined_121 rfl ?_
                refine z_iadd (pc2 := 123) rfl dX12_joined_122 ?_
                exact z_iret dX12_joined_123 rfl rfl (fi_p h)
              · replace h := ab_neg hc18 h
                by_cases hc19 : a0 = (44 : Int32)
                · replace h := ab_pos hc19 h
                  refine ab_tsIn (tgt := 218) dX12_joined_1 (by rw [hc19]; decide) (by rw [hc19]; decide) (by rw [hc19]; rfl) (by decide) ?_
                  refine z_iload_n (pc2 := 219) rfl dX12_joined_218 rfl ?_
                  refine z_if_ne (pc2 := 222) (tgt := 226) rfl dX12_joined_219 (by decide) (fun hc20 => ?_) (fun hc20 => ?_)
                  · replace h := ab_neg hc20 h
                    refine z_iconst (pc2 := 227) rfl dX12_joined_226 lt_i_1 ?_
                    refine ab_goto (tgt := 231) dX12_joined_227 (by decide) ?_
                    exact z_iret dX12_joined_231 rfl rfl (fi_p h)
                  · replace h := ab_pos hc20 h
                    refine z_iload_n (pc2 := 223) rfl dX12_joined_222 rfl ?_
                    refine z_if_eq (pc2 := 226) (tgt := 230) rfl dX12_joined_223 (by decide) (fun hc21 => ?_) (fun hc21 => ?_)
                    · replace h := ab_pos hc21 h
                      refine z_iconst (pc2 := 231) rfl dX12_joined_230 lt_i_0 ?_
                      exact z_iret dX12_joined_231 rfl rfl (fi_p h)
                    · replace h := ab_neg hc21 h
                      refine z_iconst (pc2 := 227) rfl dX12_joined_226 lt_i_1 ?_
                      refine ab_goto (tgt := 231) dX12_joined_227 (by decide) ?_
                      exact z_iret dX12_joined_231 rfl rfl (fi_p h)
                · replace h := ab_neg hc19 h
                  by_cases hc22 : a0 = (45 : Int32)
                  · replace h := ab_pos hc22 h
                    refine ab_tsIn (tgt := 124) dX12_joined_1 (by rw [hc22]; decide) (by rw [hc22]; decide) (by rw [hc22]; rfl) (by decide) ?_
                    refine z_iload_n (pc2 := 125) rfl dX12_joined_124 rfl ?_
                    refine z_iload_n (pc2 := 126) rfl dX12_joined_125 rfl ?_
                    refine z_isub (pc2 := 127) rfl dX12_joined_126 ?_
                    exact z_iret dX12_joined_127 rfl rfl (fi_p h)
                  · replace h := ab_neg hc22 h
                    by_cases hc23 : a0 = (46 : Int32)
                    · replace h := ab_pos hc23 h
                      refine ab_tsIn (tgt := 218) dX12_joined_1 (by rw [hc23]; decide) (by rw [hc23]; decide) (by rw [hc23]; rfl) (by decide) ?_
                      refine z_iload_n (pc2 := 219) rfl dX12_joined_218 rfl ?_
                      refine z_if_ne (pc2 := 222) (tgt := 226) rfl dX12_joined_219 (by decide) (fun hc24 => ?_) (fun hc24 => ?_)
                      · replace h := ab_neg hc24 h
                        refine z_iconst (pc2 := 227) rfl dX12_joined_226 lt_i_1 ?_
                        refine ab_goto (tgt := 231) dX12_joined_227 (by decide) ?_
                        exact z_iret dX12_joined_231 rfl rfl (fi_p h)
                      · replace h := ab_pos hc24 h
                        refine z_iload_n (pc2 := 223) rfl dX12_joined_222 rfl ?_
                        refine z_if_eq (pc2 := 226) (tgt := 230) rfl dX12_joined_223 (by decide) (fun hc25 => ?_) (fun hc25 => ?_)
                        · replace h := ab_pos hc25 h
                          refine z_iconst (pc2 := 231) rfl dX12_joined_230 lt_i_0 ?_
                          exact z_iret dX12_joined_231 rfl rfl (fi_p h)
                        · replace h := ab_neg hc25 h
                          refine z_iconst (pc2 := 227) rfl dX12_joined_226 lt_i_1 ?_
                          refine ab_goto (tgt := 231) dX12_joined_227 (by decide) ?_
                          exact z_iret dX12_joined_231 rfl rfl (fi_p h)
                    · replace h := ab_neg hc23 h
                      by_cases hc26 : a0 = (47 : Int32)
                      · replace h := ab_pos hc26 h
                        refine ab_tsIn (tgt := 132) dX12_joined_1 (by rw [hc26]; decide) (by rw [hc26]; decide) (by rw [hc26]; rfl) (by decide) ?_
                        refine z_iload_n (pc2 := 133) rfl dX12_joined_132 rfl ?_
                        refine z_if_ne (pc2 := 136) (tgt := 140) rfl dX12_joined_133 (by decide) (fun hc27 => ?_) (fun hc27 => ?_)
                        · replace h := ab_neg hc27 h
                          refine z_iload_n (pc2 := 141) rfl dX12_joined_140 rfl ?_
                          refine z_iconst (pc2 := 142) rfl dX12_joined_141 lt_i_m1 ?_
                          refine z_icmp_ne (pc2 := 145) (tgt := 150) rfl dX12_joined_142 (by decide) (fun hc28 => ?_) (fun hc28 => ?_)
                          · replace h := ab_neg hc28 h
                            refine z_iload_n (pc2 := 151) rfl dX12_joined_150 rfl ?_
                            refine z_iload_n (pc2 := 152) rfl dX12_joined_151 rfl ?_
                            obtain ⟨hb29, h⟩ := ab_ck_e h
                            refine z_idiv (pc2 := 153) rfl dX12_joined_152 (ab_nz_e hb29) ?_
                            exact z_iret dX12_joined_153 rfl rfl (fi_p h)
                          · replace h := ab_pos hc28 h
                            refine z_iload_n (pc2 := 146) rfl dX12_joined_145 rfl ?_
                            refine z_ineg (pc2 := 147) rfl dX12_joined_146 ?_
                            refine ab_goto (tgt := 153) dX12_joined_147 (by decide) ?_
                            exact z_iret dX12_joined_153 rfl rfl (fi_p h)
                        · replace h := ab_pos hc27 h
                          refine z_iconst (pc2 := 137) rfl dX12_joined_136 lt_i_0 ?_
                          refine ab_goto (tgt := 153) dX12_joined_137 (by decide) ?_
                          exact z_iret dX12_joined_153 rfl rfl (fi_p h)
                      · replace h := ab_neg hc26 h
                        by_cases hc30 : a0 = (48 : Int32)
                        · replace h := ab_pos hc30 h
                          refine ab_tsIn (tgt := 218) dX12_joined_1 (by rw [hc30]; decide) (by rw [hc30]; decide) (by rw [hc30]; rfl) (by decide) ?_
                          refine z_iload_n (pc2 := 219) rfl dX12_joined_218 rfl ?_
                          refine z_if_ne (pc2 := 222) (tgt := 226) rfl dX12_joined_219 (by decide) (fun hc31 => ?_) (fun hc31 => ?_)
                          · replace h := ab_neg hc31 h
                            refine z_iconst (pc2 := 227) rfl dX12_joined_226 lt_i_1 ?_
                            refine ab_goto (tgt := 231) dX12_joined_227 (by decide) ?_
                            exact z_iret dX12_joined_231 rfl rfl (fi_p h)
                          · replace h := ab_pos hc31 h
                            refine z_iload_n (pc2 := 223) rfl dX12_joined_222 rfl ?_
                            refine z_if_eq (pc2 := 226) (tgt := 230) rfl dX12_joined_223 (by decide) (fun hc32 => ?_) (fun hc32 => ?_)
                            · replace h := ab_pos hc32 h
                              refine z_iconst (pc2 := 231) rfl dX12_joined_230 lt_i_0 ?_
                              exact z_iret dX12_joined_231 rfl rfl (fi_p h)
                            · replace h := ab_neg hc32 h
                              refine z_iconst (pc2 := 227) rfl dX12_joined_226 lt_i_1 ?_
                              refine ab_goto (tgt := 231) dX12_joined_227 (by decide) ?_
                              exact z_iret dX12_joined_231 rfl rfl (fi_p h)
                        · replace h := ab_neg hc30 h
                          by_cases hc33 : a0 = (49 : Int32)
                          · replace h := ab_pos hc33 h
                            refine ab_tsIn (tgt := 218) dX12_joined_1 (by rw [hc33]; decide) (by rw [hc33]; decide) (by rw [hc33]; rfl) (by decide) ?_
                            refine z_iload_n (pc2 := 219) rfl dX12_joined_218 rfl ?_
                            refine z_if_ne (pc2 := 222) (tgt := 226) rfl dX12_joined_219 (by decide) (fun hc34 => ?_) (fun hc34 => ?_)
                            · replace h := ab_neg hc34 h
                              refine z_iconst (pc2 := 227) rfl dX12_joined_226 lt_i_1 ?_
                              refine ab_goto (tgt := 231) dX12_joined_227 (by decide) ?_
                              exact z_iret dX12_joined_231 rfl rfl (fi_p h)
                            · replace h := ab_pos hc34 h
                              refine z_iload_n (pc2 := 223) rfl dX12_joined_222 rfl ?_
                              refine z_if_eq (pc2 := 226) (tgt := 230) rfl dX12_joined_223 (by decide) (fun hc35 => ?_) (fun hc35 => ?_)
                              · replace h := ab_pos hc35 h
                                refine z_iconst (pc2 := 231) rfl dX12_joined_230 lt_i_0 ?_
                                exact z_iret dX12_joined_231 rfl rfl (fi_p h)
                              · replace h := ab_neg hc35 h
                                refine z_iconst (pc2 := 227) rfl dX12_joined_226 lt_i_1 ?_
                                refine ab_goto (tgt := 231) dX12_joined_227 (by decide) ?_
                                exact z_iret dX12_joined_231 rfl rfl (fi_p h)
                          · replace h := ab_neg hc33 h
                            by_cases hc36 : a0 = (50 : Int32)
                            · replace h := ab_pos hc36 h
                              refine ab_tsIn (tgt := 218) dX12_joined_1 (by rw [hc36]; decide) (by rw [hc36]; decide) (by rw [hc36]; rfl) (by decide) ?_
                              refine z_iload_n (pc2 := 219) rfl dX12_joined_218 rfl ?_
                              refine z_if_ne (pc2 := 222) (tgt := 226) rfl dX12_joined_219 (by decide) (fun hc37 => ?_) (fun hc37 => ?_)
                              · replace h := ab_neg hc37 h
                                refine z_iconst (pc2 := 227) rfl dX12_joined_226 lt_i_1 ?_
                                refine ab_goto (tgt := 231) dX12_joined_227 (by decide) ?_
                                exact z_iret dX12_joined_231 rfl rfl (fi_p h)
                              · replace h := ab_pos hc37 h
                                refine z_iload_n (pc2 := 223) rfl dX12_joined_222 rfl ?_
                                refine z_if_eq (pc2 := 226) (tgt := 230) rfl dX12_joined_223 (by decide) (fun hc38 => ?_) (fun hc38 => ?_)
                                · replace h := ab_pos hc38 h
                                  refine z_iconst (pc2 := 231) rfl dX12_joined_230 lt_i_0 ?_
                                  exact z_iret dX12_joined_231 rfl rfl (fi_p h)
                                · replace h := ab_neg hc38 h
                                  refine z_iconst (pc2 := 227) rfl dX12_joined_226 lt_i_1 ?_
                                  refine ab_goto (tgt := 231) dX12_joined_227 (by decide) ?_
                                  exact z_iret dX12_joined_231 rfl rfl (fi_p h)
                            · replace h := ab_neg hc36 h
                              by_cases hc39 : a0 = (51 : Int32)
                              · replace h := ab_pos hc39 h
                                refine ab_tsIn (tgt := 218) dX12_joined_1 (by rw [hc39]; decide) (by rw [hc39]; decide) (by rw [hc39]; rfl) (by decide) ?_
                                refine z_iload_n (pc2 := 219) rfl dX12_joined_218 rfl ?_
                                refine z_if_ne (pc2 := 222) (tgt := 226) rfl dX12_joined_219 (by decide) (fun hc40 => ?_) (fun hc40 => ?_)
                                · replace h := ab_neg hc40 h
                                  refine z_iconst (pc2 := 227) rfl dX12_joined_226 lt_i_1 ?_
                                  refine ab_goto (tgt := 231) dX12_joined_227 (by decide) ?_
                                  exact z_iret dX12_joined_231 rfl rfl (fi_p h)
                                · replace h := ab_pos hc40 h
                                  refine z_iload_n (pc2 := 223) rfl dX12_joined_222 rfl ?_
                                  refine z_if_eq (pc2 := 226) (tgt := 230) rfl dX12_joined_223 (by decide) (fun hc41 => ?_) (fun hc41 => ?_)
                                  · replace h := ab_pos hc41 h
                                    refine z_iconst (pc2 := 231) rfl dX12_joined_230 lt_i_0 ?_
                                    exact z_iret dX12_joined_231 rfl rfl (fi_p h)
                                  · replace h := ab_neg hc41 h
                                    refine z_iconst (pc2 := 227) rfl dX12_joined_226 lt_i_1 ?_
                                    refine ab_goto (tgt := 231) dX12_joined_227 (by decide) ?_
                                    exact z_iret dX12_joined_231 rfl rfl (fi_p h)
                              · replace h := ab_neg hc39 h
                                by_cases hc42 : a0 = (52 : Int32)
                                · replace h := ab_pos hc42 h
                                  refine ab_tsIn (tgt := 218) dX12_joined_1 (by rw [hc42]; decide) (by rw [hc42]; decide) (by rw [hc42]; rfl) (by decide) ?_
                                  refine z_iload_n (pc2 := 219) rfl dX12_joined_218 rfl ?_
                                  refine z_if_ne (pc2 := 222) (tgt := 226) rfl dX12_joined_219 (by decide) (fun hc43 => ?_) (fun hc43 => ?_)
                                  · replace h := ab_neg hc43 h
                                    refine z_iconst (pc2 := 227) rfl dX12_joined_226 lt_i_1 ?_
                                    refine ab_goto (tgt := 231) dX12_joined_227 (by decide) ?_
                                    exact z_iret dX12_joined_231 rfl rfl (fi_p h)
                                  · replace h := ab_pos hc43 h
                                    refine z_iload_n (pc2 := 223) rfl dX12_joined_222 rfl ?_
                                    refine z_if_eq (pc2 := 226) (tgt := 230) rfl dX12_joined_223 (by decide) (fun hc44 => ?_) (fun hc44 => ?_)
                                    · replace h := ab_pos hc44 h
                                      refine z_iconst (pc2 := 231) rfl dX12_joined_230 lt_i_0 ?_
                                      exact z_iret dX12_joined_231 rfl rfl (fi_p h)
                                    · replace h := ab_neg hc44 h
                                      refine z_iconst (pc2 := 227) rfl dX12_joined_226 lt_i_1 ?_
                                      refine ab_goto (tgt := 231) dX12_joined_227 (by decide) ?_
                                      exact z_iret dX12_joined_231 rfl rfl (fi_p h)
                                · replace h := ab_neg hc42 h
                                  by_cases hc45 : a0 = (53 : Int32)
                                  · replace h := ab_pos hc45 h
                                    refine ab_tsIn (tgt := 218) dX12_joined_1 (by rw [hc45]; decide) (by rw [hc45]; decide) (by rw [hc45]; rfl) (by decide) ?_
                                    refine z_iload_n (pc2 := 219) rfl dX12_joined_218 rfl ?_
                                    refine z_if_ne (pc2 := 222) (tgt := 226) rfl dX12_joined_219 (by decide) (fun hc46 => ?_) (fun hc46 => ?_)
                                    · replace h := ab_neg hc46 h
                                      refine z_iconst (pc2 := 227) rfl dX12_joined_226 lt_i_1 ?_
                                      refine ab_goto (tgt := 231) dX12_joined_227 (by decide) ?_
                                      exact z_iret dX12_joined_231 rfl rfl (fi_p h)
                                    · replace h := ab_pos hc46 h
                                      refine z_iload_n (pc2 := 223) rfl dX12_joined_222 rfl ?_
                                      refine z_if_eq (pc2 := 226) (tgt := 230) rfl dX12_joined_223 (by decide) (fun hc47 => ?_) (fun hc47 => ?_)
                                      · replace h := ab_pos hc47 h
                                        refine z_iconst (pc2 := 231) rfl dX12_joined_230 lt_i_0 ?_
                                        exact z_iret dX12_joined_231 rfl rfl (fi_p h)
                                      · replace h := ab_neg hc47 h
                                        refine z_iconst (pc2 := 227) rfl dX12_joined_226 lt_i_1 ?_
                                        refine ab_goto (tgt := 231) dX12_joined_227 (by decide) ?_
                                        exact z_iret dX12_joined_231 rfl rfl (fi_p h)
                                  · replace h := ab_neg hc45 h
                                    by_cases hc48 : a0 = (54 : Int32)
                                    · replace h := ab_pos hc48 h
                                      refine ab_tsIn (tgt := 218) dX12_joined_1 (by rw [hc48]; decide) (by rw [hc48]; decide) (by rw [hc48]; rfl) (by decide) ?_
                                      refine z_iload_n (pc2 := 219) rfl dX12_joined_218 rfl ?_
                                      refine z_if_ne (pc2 := 222) (tgt := 226) rfl dX12_joined_219 (by decide) (fun hc49 => ?_) (fun hc49 => ?_)
                                      · replace h := ab_neg hc49 h
                                        refine z_iconst (pc2 := 227) rfl dX12_joined_226 lt_i_1 ?_
                                        refine ab_goto (tgt := 231) dX12_joined_227 (by decide) ?_
                                        exact z_iret dX12_joined_231 rfl rfl (fi_p h)
                                      · replace h := ab_pos hc49 h
                                        refine z_iload_n (pc2 := 223) rfl dX12_joined_222 rfl ?_
                                        refine z_if_eq (pc2 := 226) (tgt := 230) rfl dX12_joined_223 (by decide) (fun hc50 => ?_) (fun hc50 => ?_)
                                        · replace h := ab_pos hc50 h
                                          refine z_iconst (pc2 := 231) rfl dX12_joined_230 lt_i_0 ?_
                                          exact z_iret dX12_joined_231 rfl rfl (fi_p h)
                                        · replace h := ab_neg hc50 h
                                          refine z_iconst (pc2 := 227) rfl dX12_joined_226 lt_i_1 ?_
                                          refine ab_goto (tgt := 231) dX12_joined_227 (by decide) ?_
                                          exact z_iret dX12_joined_231 rfl rfl (fi_p h)
                                    · replace h := ab_neg hc48 h
                                      by_cases hc51 : a0 = (55 : Int32)
                                      · replace h := ab_pos hc51 h
                                        refine ab_tsIn (tgt := 218) dX12_joined_1 (by rw [hc51]; decide) (by rw [hc51]; decide) (by rw [hc51]; rfl) (by decide) ?_
                                        refine z_iload_n (pc2 := 219) rfl dX12_joined_218 rfl ?_
                                        refine z_if_ne (pc2 := 222) (tgt := 226) rfl dX12_joined_219 (by decide) (fun hc52 => ?_) (fun hc52 => ?_)
                                        · replace h := ab_neg hc52 h
                                          refine z_iconst (pc2 := 227) rfl dX12_joined_226 lt_i_1 ?_
                                          refine ab_goto (tgt := 231) dX12_joined_227 (by decide) ?_
                                          exact z_iret dX12_joined_231 rfl rfl (fi_p h)
                                        · replace h := ab_pos hc52 h
                                          refine z_iload_n (pc2 := 223) rfl dX12_joined_222 rfl ?_
                                          refine z_if_eq (pc2 := 226) (tgt := 230) rfl dX12_joined_223 (by decide) (fun hc53 => ?_) (fun hc53 => ?_)
                                          · replace h := ab_pos hc53 h
                                            refine z_iconst (pc2 := 231) rfl dX12_joined_230 lt_i_0 ?_
                                            exact z_iret dX12_joined_231 rfl rfl (fi_p h)
                                          · replace h := ab_neg hc53 h
                                            refine z_iconst (pc2 := 227) rfl dX12_joined_226 lt_i_1 ?_
                                            refine ab_goto (tgt := 231) dX12_joined_227 (by decide) ?_
                                            exact z_iret dX12_joined_231 rfl rfl (fi_p h)
                                      · replace h := ab_neg hc51 h
                                        by_cases hc54 : a0 = (56 : Int32)
                                        · replace h := ab_pos hc54 h
                                          refine ab_tsIn (tgt := 218) dX12_joined_1 (by rw [hc54]; decide) (by rw [hc54]; decide) (by rw [hc54]; rfl) (by decide) ?_
                                          refine z_iload_n (pc2 := 219) rfl dX12_joined_218 rfl ?_
                                          refine z_if_ne (pc2 := 222) (tgt := 226) rfl dX12_joined_219 (by decide) (fun hc55 => ?_) (fun hc55 => ?_)
                                          · replace h := ab_neg hc55 h
                                            refine z_iconst (pc2 := 227) rfl dX12_joined_226 lt_i_1 ?_
                                            refine ab_goto (tgt := 231) dX12_joined_227 (by decide) ?_
                                            exact z_iret dX12_joined_231 rfl rfl (fi_p h)
                                          · replace h := ab_pos hc55 h
                                            refine z_iload_n (pc2 := 223) rfl dX12_joined_222 rfl ?_
                                            refine z_if_eq (pc2 := 226) (tgt := 230) rfl dX12_joined_223 (by decide) (fun hc56 => ?_) (fun hc56 => ?_)
                                            · replace h := ab_pos hc56 h
                                              refine z_iconst (pc2 := 231) rfl dX12_joined_230 lt_i_0 ?_
                                              exact z_iret dX12_joined_231 rfl rfl (fi_p h)
                                            · replace h := ab_neg hc56 h
                                              refine z_iconst (pc2 := 227) rfl dX12_joined_226 lt_i_1 ?_
                                              refine ab_goto (tgt := 231) dX12_joined_227 (by decide) ?_
                                              exact z_iret dX12_joined_231 rfl rfl (fi_p h)
                                        · replace h := ab_neg hc54 h
                                          by_cases hc57 : a0 = (57 : Int32)
                                          · replace h := ab_pos hc57 h
                                            refine ab_tsIn (tgt := 218) dX12_joined_1 (by rw [hc57]; decide) (by rw [hc57]; decide) (by rw [hc57]; rfl) (by decide) ?_
                                            refine z_iload_n (pc2 := 219) rfl dX12_joined_218 rfl ?_
                                            refine z_if_ne (pc2 := 222) (tgt := 226) rfl dX12_joined_219 (by decide) (fun hc58 => ?_) (fun hc58 => ?_)
                                            · replace h := ab_neg hc58 h
                                              refine z_iconst (pc2 := 227) rfl dX12_joined_226 lt_i_1 ?_
                                              refine ab_goto (tgt := 231) dX12_joined_227 (by decide) ?_
                                              exact z_iret dX12_joined_231 rfl rfl (fi_p h)
                                            · replace h := ab_pos hc58 h
                                              refine z_iload_n (pc2 := 223) rfl dX12_joined_222 rfl ?_
                                              refine z_if_eq (pc2 := 226) (tgt := 230) rfl dX12_joined_223 (by decide) (fun hc59 => ?_) (fun hc59 => ?_)
                                              · replace h := ab_pos hc59 h
                                                refine z_iconst (pc2 := 231) rfl dX12_joined_230 lt_i_0 ?_
                                                exact z_iret dX12_joined_231 rfl rfl (fi_p h)
                                              · replace h := ab_neg hc59 h
                                                refine z_iconst (pc2 := 227) rfl dX12_joined_226 lt_i_1 ?_
                                                refine ab_goto (tgt := 231) dX12_joined_227 (by decide) ?_
                                                exact z_iret dX12_joined_231 rfl rfl (fi_p h)
                                          · replace h := ab_neg hc57 h
                                            by_cases hc60 : a0 = (58 : Int32)
                                            · replace h := ab_pos hc60 h
                                              refine ab_tsIn (tgt := 218) dX12_joined_1 (by rw [hc60]; decide) (by rw [hc60]; decide) (by rw [hc60]; rfl) (by decide) ?_
                                              refine z_iload_n (pc2 := 219) rfl dX12_joined_218 rfl ?_
                                              refine z_if_ne (pc2 := 222) (tgt := 226) rfl dX12_joined_219 (by decide) (fun hc61 => ?_) (fun hc61 => ?_)
                                              · replace h := ab_neg hc61 h
                                                refine z_iconst (pc2 := 227) rfl dX12_joined_226 lt_i_1 ?_
                                                refine ab_goto (tgt := 231) dX12_joined_227 (by decide) ?_
                                                exact z_iret dX12_joined_231 rfl rfl (fi_p h)
                                              · replace h := ab_pos hc61 h
                                                refine z_iload_n (pc2 := 223) rfl dX12_joined_222 rfl ?_
                                                refine z_if_eq (pc2 := 226) (tgt := 230) rfl dX12_joined_223 (by decide) (fun hc62 => ?_) (fun hc62 => ?_)
                                                · replace h := ab_pos hc62 h
                                                  refine z_iconst (pc2 := 231) rfl dX12_joined_230 lt_i_0 ?_
                                                  exact z_iret dX12_joined_231 rfl rfl (fi_p h)
                                                · replace h := ab_neg hc62 h
                                                  refine z_iconst (pc2 := 227) rfl dX12_joined_226 lt_i_1 ?_
                                                  refine ab_goto (tgt := 231) dX12_joined_227 (by decide) ?_
                                                  exact z_iret dX12_joined_231 rfl rfl (fi_p h)
                                            · replace h := ab_neg hc60 h
                                              by_cases hc63 : a0 = (59 : Int32)
                                              · replace h := ab_pos hc63 h
                                                refine ab_tsIn (tgt := 218) dX12_joined_1 (by rw [hc63]; decide) (by rw [hc63]; decide) (by rw [hc63]; rfl) (by decide) ?_
                                                refine z_iload_n (pc2 := 219) rfl dX12_joined_218 rfl ?_
                                                refine z_if_ne (pc2 := 222) (tgt := 226) rfl dX12_joined_219 (by decide) (fun hc64 => ?_) (fun hc64 => ?_)
                                                · replace h := ab_neg hc64 h
                                                  refine z_iconst (pc2 := 227) rfl dX12_joined_226 lt_i_1 ?_
                                                  refine ab_goto (tgt := 231) dX12_joined_227 (by decide) ?_
                                                  exact z_iret dX12_joined_231 rfl rfl (fi_p h)
                                                · replace h := ab_pos hc64 h
                                                  refine z_iload_n (pc2 := 223) rfl dX12_joined_222 rfl ?_
                                                  refine z_if_eq (pc2 := 226) (tgt := 230) rfl dX12_joined_223 (by decide) (fun hc65 => ?_) (fun hc65 => ?_)
                                                  · replace h := ab_pos hc65 h
                                                    refine z_iconst (pc2 := 231) rfl dX12_joined_230 lt_i_0 ?_
                                                    exact z_iret dX12_joined_231 rfl rfl (fi_p h)
                                                  · replace h := ab_neg hc65 h
                                                    refine z_iconst (pc2 := 227) rfl dX12_joined_226 lt_i_1 ?_
                                                    refine ab_goto (tgt := 231) dX12_joined_227 (by decide) ?_
                                                    exact z_iret dX12_joined_231 rfl rfl (fi_p h)
                                              · replace h := ab_neg hc63 h
                                                by_cases hc66 : a0 = (60 : Int32)
                                                · replace h := ab_pos hc66 h
                                                  refine ab_tsIn (tgt := 171) dX12_joined_1 (by rw [hc66]; decide) (by rw [hc66]; decide) (by rw [hc66]; rfl) (by decide) ?_
                                                  refine z_iload_n (pc2 := 172) rfl dX12_joined_171 rfl ?_
                                                  refine z_iload_n (pc2 := 173) rfl dX12_joined_172 rfl ?_
                                                  refine z_icmp_ge (pc2 := 176) (tgt := 180) rfl dX12_joined_173 (by decide) (fun hc67 => ?_) (fun hc67 => ?_)
                                                  · replace h := ab_pos hc67 h
                                                    refine z_iconst (pc2 := 181) rfl dX12_joined_180 lt_i_0 ?_
                                                    exact z_iret dX12_joined_181 rfl rfl (fi_p h)
                                                  · replace h := ab_neg hc67 h
                                                    refine z_iconst (pc2 := 177) rfl dX12_joined_176 lt_i_1 ?_
                                                    refine ab_goto (tgt := 181) dX12_joined_177 (by decide) ?_
                                                    exact z_iret dX12_joined_181 rfl rfl (fi_p h)
                                                · replace h := ab_neg hc66 h
                                                  by_cases hc68 : a0 = (61 : Int32)
                                                  · replace h := ab_pos hc68 h
                                                    refine ab_tsIn (tgt := 193) dX12_joined_1 (by rw [hc68]; decide) (by rw [hc68]; decide) (by rw [hc68]; rfl) (by decide) ?_
                                                    refine z_iload_n (pc2 := 194) rfl dX12_joined_193 rfl ?_
                                                    refine z_iload_n (pc2 := 195) rfl dX12_joined_194 rfl ?_
                                                    refine z_icmp_ne (pc2 := 198) (tgt := 202) rfl dX12_joined_195 (by decide) (fun hc69 => ?_) (fun hc69 => ?_)
                                                    · replace h := ab_neg hc69 h
                                                      refine z_iconst (pc2 := 203) rfl dX12_joined_202 lt_i_0 ?_
                                                      exact z_iret dX12_joined_203 rfl rfl (fi_p h)
                                                    · replace h := ab_pos hc69 h
                                                      refine z_iconst (pc2 := 199) rfl dX12_joined_198 lt_i_1 ?_
                                                      refine ab_goto (tgt := 203) dX12_joined_199 (by decide) ?_
                                                      exact z_iret dX12_joined_203 rfl rfl (fi_p h)
                                                  · replace h := ab_neg hc68 h
                                                    by_cases hc70 : a0 = (62 : Int32)
                                                    · replace h := ab_pos hc70 h
                                                      refine ab_tsIn (tgt := 182) dX12_joined_1 (by rw [hc70]; decide) (by rw [hc70]; decide) (by rw [hc70]; rfl) (by decide) ?_
                                                      refine z_iload_n (pc2 := 183) rfl dX12_joined_182 rfl ?_
                                                      refine z_iload_n (pc2 := 184) rfl dX12_joined_183 rfl ?_
                                                      refine z_icmp_le (pc2 := 187) (tgt := 191) rfl dX12_joined_184 (by decide) (fun hc71 => ?_) (fun hc71 => ?_)
                                                      · replace h := ab_pos hc71 h
                                                        refine z_iconst (pc2 := 192) rfl dX12_joined_191 lt_i_0 ?_
                                                        exact z_iret dX12_joined_192 rfl rfl (fi_p h)
                                                      · replace h := ab_neg hc71 h
                                                        refine z_iconst (pc2 := 188) rfl dX12_joined_187 lt_i_1 ?_
                                                        refine ab_goto (tgt := 192) dX12_joined_188 (by decide) ?_
                                                        exact z_iret dX12_joined_192 rfl rfl (fi_p h)
                                                    · replace h := ab_neg hc70 h
                                                      have thc1 := ab_ne_toInt (k := 37) hc1 (by decide)
                                                      have thc5 := ab_ne_toInt (k := 38) hc5 (by decide)
                                                      have thc8 := ab_ne_toInt (k := 39) hc8 (by decide)
                                                      have thc11 := ab_ne_toInt (k := 40) hc11 (by decide)
                                                      have thc14 := ab_ne_toInt (k := 41) hc14 (by decide)
                                                      have thc17 := ab_ne_toInt (k := 42) hc17 (by decide)
                                                      have thc18 := ab_ne_toInt (k := 43) hc18 (by decide)
                                                      have thc19 := ab_ne_toInt (k := 44) hc19 (by decide)
                                                      have thc22 := ab_ne_toInt (k := 45) hc22 (by decide)
                                                      have thc23 := ab_ne_toInt (k := 46) hc23 (by decide)
                                                      have thc26 := ab_ne_toInt (k := 47) hc26 (by decide)
                                                      have thc30 := ab_ne_toInt (k := 48) hc30 (by decide)
                                                      have thc33 := ab_ne_toInt (k := 49) hc33 (by decide)
                                                      have thc36 := ab_ne_toInt (k := 50) hc36 (by decide)
                                                      have thc39 := ab_ne_toInt (k := 51) hc39 (by decide)
                                                      have thc42 := ab_ne_toInt (k := 52) hc42 (by decide)
                                                      have thc45 := ab_ne_toInt (k := 53) hc45 (by decide)
                                                      have thc48 := ab_ne_toInt (k := 54) hc48 (by decide)
                                                      have thc51 := ab_ne_toInt (k := 55) hc51 (by decide)
                                                      have thc54 := ab_ne_toInt (k := 56) hc54 (by decide)
                                                      have thc57 := ab_ne_toInt (k := 57) hc57 (by decide)
                                                      have thc60 := ab_ne_toInt (k := 58) hc60 (by decide)
                                                      have thc63 := ab_ne_toInt (k := 59) hc63 (by decide)
                                                      have thc66 := ab_ne_toInt (k := 60) hc66 (by decide)
                                                      have thc68 := ab_ne_toInt (k := 61) hc68 (by decide)
                                                      have thc70 := ab_ne_toInt (k := 62) hc70 (by decide)
                                                      refine ab_tsOut (tgt := 218) dX12_joined_1 (by omega) (by decide) ?_
                                                      refine z_iload_n (pc2 := 219) rfl dX12_joined_218 rfl ?_
                                                      refine z_if_ne (pc2 := 222) (tgt := 226) rfl dX12_joined_219 (by decide) (fun hc72 => ?_) (fun hc72 => ?_)
                                                      · replace h := ab_neg hc72 h
                                                        refine z_iconst (pc2 := 227) rfl dX12_joined_226 lt_i_1 ?_
                                                        refine ab_goto (tgt := 231) dX12_joined_227 (by decide) ?_
                                                        exact z_iret dX12_joined_231 rfl rfl (fi_p h)
                                                      · replace h := ab_pos hc72 h
                                                        refine z_iload_n (pc2 := 223) rfl dX12_joined_222 rfl ?_
                                                        refine z_if_eq (pc2 := 226) (tgt := 230) rfl dX12_joined_223 (by decide) (fun hc73 => ?_) (fun hc73 => ?_)
                                                        · replace h := ab_pos hc73 h
                                                          refine z_iconst (pc2 := 231) rfl dX12_joined_230 lt_i_0 ?_
                                                          exact z_iret dX12_joined_231 rfl rfl (fi_p h)
                                                        · replace h := ab_neg hc73 h
                                                          refine z_iconst (pc2 := 227) rfl dX12_joined_226 lt_i_1 ?_
                                                          refine ab_goto (tgt := 231) dX12_joined_227 (by decide) ?_
                                                          exact z_iret dX12_joined_231 rfl rfl (fi_p h)
def f_X12_worked_L13 (p2 : Int32) (K : ab_F → Option (Int32 × ab_F)) : Nat → Int32 → Int32 → ab_F → Option (Int32 × ab_F)
  | 0, _, _, _ => none
  | n + 1, u3, u4, σ => ab_ck (ab_ib p2 450) ((if (σ 86 (p2).toNatClampNeg) ≤ u4 then (K σ) else ab_ck (ab_ib ((p2 + (1 : Int32)) + ((2 : Int32) * u4)) 450) (ab_lt ((σ 86 (((p2 + (1 : Int32)) + ((2 : Int32) * u4))).toNatClampNeg)) (fun x5 => ab_ck (ab_ib ((p2 + (2 : Int32)) + ((2 : Int32) * u4)) 450) (ab_lt ((σ 86 (((p2 + (2 : Int32)) + ((2 : Int32) * u4))).toNatClampNeg)) (fun x7 => (if x5 = 0 then (if x5 = 0 then ab_ck (ab_ib u3 64) (ab_lt (ab_u σ 92 (u3).toNatClampNeg x7) (fun (s16 : ab_F) => ab_lt (u3 + (1 : Int32)) (fun x17 => ab_lt (u4 + (1 : Int32)) (fun x18 => (f_X12_worked_L13 p2 K n x17 x18 s16))))) else ab_ck (ab_ib x7 128) (ab_ck (ab_ib u3 64) (ab_lt (ab_u σ 92 (u3).toNatClampNeg (σ 91 (x7).toNatClampNeg)) (fun (s12 : ab_F) => ab_lt (u3 + (1 : Int32)) (fun x13 => ab_lt (u4 + (1 : Int32)) (fun x14 => (f_X12_worked_L13 p2 K n x13 x14 s12))))))) else (if x5 = (1 : Int32) then (if x5 = 0 then ab_ck (ab_ib u3 64) (ab_lt (ab_u σ 92 (u3).toNatClampNeg x7) (fun (s43 : ab_F) => ab_lt (u3 + (1 : Int32)) (fun x44 => ab_lt (u4 + (1 : Int32)) (fun x45 => (f_X12_worked_L13 p2 K n x44 x45 s43))))) else ab_ck (ab_ib x7 128) (ab_ck (ab_ib u3 64) (ab_lt (ab_u σ 92 (u3).toNatClampNeg (σ 91 (x7).toNatClampNeg)) (fun (s39 : ab_F) => ab_lt (u3 + (1 : Int32)) (fun x40 => ab_lt (u4 + (1 : Int32)) (fun x41 => (f_X12_worked_L13 p2 K n x40 x41 s39))))))) else (if x5 = (2 : Int32) then ab_ck (ab_ib (u3 - (1 : Int32)) 64) ((if (σ 92 ((u3 - (1 : Int32))).toNatClampNeg) = 0 then ab_ck (ab_ib (u3 - (1 : Int32)) 64) (ab_lt (ab_u σ 92 ((u3 - (1 : Int32))).toNatClampNeg (1 : Int32)) (fun (s34 : ab_F) => ab_lt (u4 + (1 : Int32)) (fun x35 => (f_X12_worked_L13 p2 K n u3 x35 s34)))) else ab_ck (ab_ib (u3 - (1 : Int32)) 64) (ab_lt (ab_u σ 92 ((u3 - (1 : Int32))).toNatClampNeg (0 : Int32)) (fun (s31 : ab_F) => ab_lt (u4 + (1 : Int32)) (fun x32 => (f_X12_worked_L13 p2 K n u3 x32 s31)))))) else ab_lt (u3 + (-1 : Int32)) (fun x21 => ab_ck (ab_ib (x21 - (1 : Int32)) 64) (ab_ck (ab_ib x21 64) ((f_X12_joined x7 (σ 92 ((x21 - (1 : Int32))).toNatClampNeg) (σ 92 (x21).toNatClampNeg) σ).bind (fun q24 => ab_ck (ab_ib (x21 - (1 : Int32)) 64) (ab_lt (ab_u σ 92 ((x21 - (1 : Int32))).toNatClampNeg q24) (fun (s26 : ab_F) => ab_lt (u4 + (1 : Int32)) (fun x27 => (f_X12_worked_L13 p2 K n x21 x27 s26)))))))))))))))))
set_option maxRecDepth 100000 in
set_option maxHeartbeats 4000000 in
theorem e_X12_worked_L13 {sc : Nat × (Nat → Int32)} {r : Option Nat × Option Nat} {p2 : Int32} {K : ab_F → Option (Int32 × ab_F)} {res : (Int32 × ab_F)} (hK : ∀ (σ : ab_F), K σ = some res → ab_E mX12_worked 1 sc 163 [some (.ref 85), none, none, none, none, none, none] [] (σ, r) (fun v S => v = some (.int res.1) ∧ S = (res.2, r))) : ∀ (n : Nat) (u3 : Int32) (u4 : Int32) (σ : ab_F), f_X12_worked_L13 p2 K n u3 u4 σ = some res → ab_E mX12_worked 1 sc 13 [some (.ref 85), none, some (.int p2), some (.int u3), some (.int u4), none, none] [] (σ, r) (fun v S => v = some (.int res.1) ∧ S = (res.2, r)) := by
  intro n
  induction n with
  | zero =>
    intro u3 u4 σ h
    rw [f_X12_worked_L13] at h
    cases h
  | succ n ih =>
    intro u3 u4 σ h
    rw [f_X12_worked_L13] at h
    refine z_iload (pc2 := 15) rfl dX12_worked_13 rfl ?_
    refine z_aload_n (pc2 := 16) rfl dX12_worked_15 rfl ?_
    refine z_getR 85 12 0 86 (pc2 := 19) rfl dX12_worked_16 rfl rfl ff_12_0 wd_977 rfl ?_
    refine z_iload_n (pc2 := 20) rfl dX12_worked_19 rfl ?_
    obtain ⟨hb2, h⟩ := ab_ck_e h
    refine z_iald 86 (pc2 := 21) (j := (p2).toNatClampNeg) rfl dX12_worked_20 rfl rfl hb2 rfl ?_
    refine z_icmp_ge (pc2 := 24) (tgt := 163) rfl dX12_worked_21 (by decide) (fun hc3 => ?_) (fun hc3 => ?_)
    · replace h := ab_pos hc3 h
      refine z_fgt [true, false, false, false, false, false, false] (L2 := [some (.ref 85), none, none, none, none, none, none]) rfl ?_
      exact hK  _ h
    · replace h := ab_neg hc3 h
      refine z_aload_n (pc2 := 25) rfl dX12_worked_24 rfl ?_
      refine z_getR 85 12 0 86 (pc2 := 28) rfl dX12_worked_25 rfl rfl ff_12_0 wd_977 rfl ?_
      refine z_iload_n (pc2 := 29) rfl dX12_worked_28 rfl ?_
      refine z_iconst (pc2 := 30) rfl dX12_worked_29 lt_i_1 ?_
      refine z_iadd (pc2 := 31) rfl dX12_worked_30 ?_
      refine z_iconst (pc2 := 32) rfl dX12_worked_31 lt_i_2 ?_
      refine z_iload (pc2 := 34) rfl dX12_worked_32 rfl ?_
      refine z_imul (pc2 := 35) rfl dX12_worked_34 ?_
      refine z_iadd (pc2 := 36) rfl dX12_worked_35 ?_
      obtain ⟨hb4, h⟩ := ab_ck_e h
      refine z_iald 86 (pc2 := 37) (j := (((p2 + (1 : Int32)) + ((2 : Int32) * u4))).toNatClampNeg) rfl dX12_worked_36 rfl rfl hb4 rfl ?_
      obtain ⟨x5, hxx5, h⟩ := ab_lt_e h
      refine z_top hxx5 ?_
      refine z_istore (pc2 := 39) (L2 := [some (.ref 85), none, some (.int p2), some (.int u3), some (.int u4), some (.int x5), none]) rfl dX12_worked_37 (by decide) rfl rfl ?_
      refine z_aload_n (pc2 := 40) rfl dX12_worked_39 rfl ?_
      refine z_getR 85 12 0 86 (pc2 := 43) rfl dX12_worked_40 rfl rfl ff_12_0 wd_977 rfl ?_
      refine z_iload_n (pc2 := 44) rfl dX12_worked_43 rfl ?_
      refine z_iconst (pc2 := 45) rfl dX12_worked_44 lt_i_2 ?_
      refine z_iadd (pc2 := 46) rfl dX12_worked_45 ?_
      refine z_iconst (pc2 := 47) rfl dX12_worked_46 lt_i_2 ?_
      refine z_iload (pc2 := 49) rfl dX12_worked_47 rfl ?_
      refine z_imul (pc2 := 50) rfl dX12_worked_49 ?_
      refine z_iadd (pc2 := 51) rfl dX12_worked_50 ?_
      obtain ⟨hb6, h⟩ := ab_ck_e h
      refine z_iald 86 (pc2 := 52) (j := (((p2 + (2 : Int32)) + ((2 : Int32) * u4))).toNatClampNeg) rfl dX12_worked_51 rfl rfl hb6 rfl ?_
      obtain ⟨x7, hxx7, h⟩ := ab_lt_e h
      refine z_top hxx7 ?_
      refine z_istore (pc2 := 54) (L2 := [some (.ref 85), none, some (.int p2), some (.int u3), some (.int u4), some (.int x5), some (.int x7)]) rfl dX12_worked_52 (by decide) rfl rfl ?_
      refine z_iload (pc2 := 56) rfl dX12_worked_54 rfl ?_
      refine z_if_eq (pc2 := 59) (tgt := 65) rfl dX12_worked_56 (by decide) (fun hc8 => ?_) (fun hc8 => ?_)
      · replace h := ab_pos hc8 h
        refine z_aload_n (pc2 := 66) rfl dX12_worked_65 rfl ?_
        refine z_getR 85 12 11 92 (pc2 := 69) rfl dX12_worked_66 rfl rfl ff_12_11 wd_988 rfl ?_
        refine z_iload_n (pc2 := 70) rfl dX12_worked_69 rfl ?_
        refine z_iload (pc2 := 72) rfl dX12_worked_70 rfl ?_
        refine z_if_ne (pc2 := 75) (tgt := 80) rfl dX12_worked_72 (by decide) (fun hc9 => ?_) (fun hc9 => ?_)
        · replace h := ab_neg hc9 h
          refine z_aload_n (pc2 := 81) rfl dX12_worked_80 rfl ?_
          refine z_getR 85 12 10 91 (pc2 := 84) rfl dX12_worked_81 rfl rfl ff_12_10 wd_987 rfl ?_
          refine z_iload (pc2 := 86) rfl dX12_worked_84 rfl ?_
          obtain ⟨hb10, h⟩ := ab_ck_e h
          refine z_iald 91 (pc2 := 87) (j := (x7).toNatClampNeg) rfl dX12_worked_86 rfl rfl hb10 rfl ?_
          obtain ⟨hb11, h⟩ := ab_ck_e h
          refine z_iast 92 (pc2 := 88) (j := (u3).toNatClampNeg) rfl dX12_worked_87 rfl rfl hb11 rfl ?_
          obtain ⟨s12, hs12, h⟩ := ab_lt_e h
          refine z_tops hs12 ?_
          obtain ⟨x13, hxx13, h⟩ := ab_lt_e h
          refine z_iinc (pc2 := 91) (v := x13) (L2 := [some (.ref 85), none, some (.int p2), some (.int x13), some (.int u4), some (.int x5), some (.int x7)]) rfl dX12_worked_88 rfl (by rw [hxx13]; rfl) (by decide) rfl rfl ?_
          refine ab_goto (tgt := 157) dX12_worked_91 (by decide) ?_
          obtain ⟨x14, hxx14, h⟩ := ab_lt_e h
          refine z_iinc (pc2 := 160) (v := x14) (L2 := [some (.ref 85), none, some (.int p2), some (.int x13), some (.int x14), some (.int x5), some (.int x7)]) rfl dX12_worked_157 rfl (by rw [hxx14]; rfl) (by decide) rfl rfl ?_
          refine ab_goto (tgt := 13) dX12_worked_160 (by decide) ?_
          refine z_fgt [true, false, true, true, true, false, false] (L2 := [some (.ref 85), none, some (.int p2), some (.int x13), some (.int x14), none, none]) rfl ?_
          exact ih _ _ _ h
        · replace h := ab_pos hc9 h
          refine z_iload (pc2 := 77) rfl dX12_worked_75 rfl ?_
          refine ab_goto (tgt := 87) dX12_worked_77 (by decide) ?_
          obtain ⟨hb15, h⟩ := ab_ck_e h
          refine z_iast 92 (pc2 := 88) (j := (u3).toNatClampNeg) rfl dX12_worked_87 rfl rfl hb15 rfl ?_
          obtain ⟨s16, hs16, h⟩ := ab_lt_e h
          refine z_tops hs16 ?_
          obtain ⟨x17, hxx17, h⟩ := ab_lt_e h
          refine z_iinc (pc2 := 91) (v := x17) (L2 := [some (.ref 85), none, some (.int p2), some (.int x17), some (.int u4), some (.int x5), some (.int x7)]) rfl dX12_worked_88 rfl (by rw [hxx17]; rfl) (by decide) rfl rfl ?_
          refine ab_goto (tgt := 157) dX12_worked_91 (by decide) ?_
          obtain ⟨x18, hxx18, h⟩ := ab_lt_e h
          refine z_iinc (pc2 := 160) (v := x18) (L2 := [some (.ref 85), none, some (.int p2), some (.int x17), some (.int x18), some (.int x5), some (.int x7)]) rfl dX12_worked_157 rfl (by rw [hxx18]; rfl) (by decide) rfl rfl ?_
          refine ab_goto (tgt := 13) dX12_worked_160 (by decide) ?_
          refine z_fgt [true, false, true, true, true, false, false] (L2 := [some (.ref 85), none, some (.int p2), some (.int x17), some (.int x18), none, none]) rfl ?_
          exact ih _ _ _ h
      · replace h := ab_neg hc8 h
        refine z_iload (pc2 := 61) rfl dX12_worked_59 rfl ?_
        refine z_iconst (pc2 := 62) rfl dX12_worked_61 lt_i_1 ?_
        refine z_icmp_ne (pc2 := 65) (tgt := 94) rfl dX12_worked_62 (by decide) (fun hc19 => ?_) (fun hc19 => ?_)
        · replace h := ab_neg hc19 h
          refine z_iload (pc2 := 96) rfl dX12_worked_94 rfl ?_
          refine z_iconst (pc2 := 97) rfl dX12_worked_96 lt_i_2 ?_
          refine z_icmp_ne (pc2 := 100) (tgt := 127) rfl dX12_worked_97 (by decide) (fun hc20 => ?_) (fun hc20 => ?_)
          · replace h := ab_neg hc20 h
            obtain ⟨x21, hxx21, h⟩ := ab_lt_e h
            refine z_iinc (pc2 := 130) (v := x21) (L2 := [some (.ref 85), none, some (.int p2), some (.int x21), some (.int u4), some (.int x5), some (.int x7)]) rfl dX12_worked_127 rfl (by rw [hxx21]; rfl) (by decide) rfl rfl ?_
            refine z_aload_n (pc2 := 131) rfl dX12_worked_130 rfl ?_
            refine z_getR 85 12 11 92 (pc2 := 134) rfl dX12_worked_131 rfl rfl ff_12_11 wd_988 rfl ?_
            refine z_iload_n (pc2 := 135) rfl dX12_worked_134 rfl ?_
            refine z_iconst (pc2 := 136) rfl dX12_worked_135 lt_i_1 ?_
            refine z_isub (pc2 := 137) rfl dX12_worked_136 ?_
            refine z_iload (pc2 := 139) rfl dX12_worked_137 rfl ?_
            refine z_aload_n (pc2 := 140) rfl dX12_worked_139 rfl ?_
            refine z_getR 85 12 11 92 (pc2 := 143) rfl dX12_worked_140 rfl rfl ff_12_11 wd_988 rfl ?_
            refine z_iload_n (pc2 := 144) rfl dX12_worked_143 rfl ?_
            refine z_iconst (pc2 := 145) rfl dX12_worked_144 lt_i_1 ?_
            refine z_isub (pc2 := 146) rfl dX12_worked_145 ?_
            obtain ⟨hb22, h⟩ := ab_ck_e h
            refine z_iald 92 (pc2 := 147) (j := ((x21 - (1 : Int32))).toNatClampNeg) rfl dX12_worked_146 rfl rfl hb22 rfl ?_
            refine z_aload_n (pc2 := 148) rfl dX12_worked_147 rfl ?_
            refine z_getR 85 12 11 92 (pc2 := 151) rfl dX12_worked_148 rfl rfl ff_12_11 wd_988 rfl ?_
            refine z_iload_n (pc2 := 152) rfl dX12_worked_151 rfl ?_
            obtain ⟨hb23, h⟩ := ab_ck_e h
            refine z_iald 92 (pc2 := 153) (j := (x21).toNatClampNeg) rfl dX12_worked_152 rfl rfl hb23 rfl ?_
            obtain ⟨q24, hq24, h⟩ := ab_bnd h
            refine z_callSi [.int x7, .int (σ 92 ((x21 - (1 : Int32))).toNatClampNeg), .int (σ 92 (x21).toNatClampNeg)] [some (.int x7), some (.int (σ 92 ((x21 - (1 : Int32))).toNatClampNeg)), some (.int (σ 92 (x21).toNatClampNeg))] (pc2 := 156) rfl rfl dX12_worked_153 ok_X12_joined ⟨fun _ => rfl, fun _ => Nat.le_of_ble_eq_true rfl⟩ rfl wd_1156 wd_1157 rfl (e_X12_joined hq24) ?_
            obtain ⟨hb25, h⟩ := ab_ck_e h
            refine z_iast 92 (pc2 := 157) (j := ((x21 - (1 : Int32))).toNatClampNeg) rfl dX12_worked_156 rfl rfl hb25 rfl ?_
            obtain ⟨s26, hs26, h⟩ := ab_lt_e h
            refine z_tops hs26 ?_
            obtain ⟨x27, hxx27, h⟩ := ab_lt_e h
            refine z_iinc (pc2 := 160) (v := x27) (L2 := [some (.ref 85), none, some (.int p2), some (.int x21), some (.int x27), some (.int x5), some (.int x7)]) rfl dX12_worked_157 rfl (by rw [hxx27]; rfl) (by decide) rfl rfl ?_
            refine ab_goto (tgt := 13) dX12_worked_160 (by decide) ?_
            refine z_fgt [true, false, true, true, true, false, false] (L2 := [some (.ref 85), none, some (.int p2), some (.int x21), some (.int x27), none, none]) rfl ?_
            exact ih _ _ _ h
          · replace h := ab_pos hc20 h
            refine z_aload_n (pc2 := 101) rfl dX12_worked_100 rfl ?_
            refine z_getR 85 12 11 92 (pc2 := 104) rfl dX12_worked_101 rfl rfl ff_12_11 wd_988 rfl ?_
            refine z_iload_n (pc2 := 105) rfl dX12_worked_104 rfl ?_
            refine z_iconst (pc2 := 106) rfl dX12_worked_105 lt_i_1 ?_
            refine z_isub (pc2 := 107) rfl dX12_worked_106 ?_
            refine z_aload_n (pc2 := 108) rfl dX12_worked_107 rfl ?_
            refine z_getR 85 12 11 92 (pc2 := 111) rfl dX12_worked_108 rfl rfl ff_12_11 wd_988 rfl ?_
            refine z_iload_n (pc2 := 112) rfl dX12_worked_111 rfl ?_
            refine z_iconst (pc2 := 113) rfl dX12_worked_112 lt_i_1 ?_
            refine z_isub (pc2 := 114) rfl dX12_worked_113 ?_
            obtain ⟨hb28, h⟩ := ab_ck_e h
            refine z_iald 92 (pc2 := 115) (j := ((u3 - (1 : Int32))).toNatClampNeg) rfl dX12_worked_114 rfl rfl hb28 rfl ?_
            refine z_if_ne (pc2 := 118) (tgt := 122) rfl dX12_worked_115 (by decide) (fun hc29 => ?_) (fun hc29 => ?_)
            · replace h := ab_neg hc29 h
              refine z_iconst (pc2 := 123) rfl dX12_worked_122 lt_i_0 ?_
              obtain ⟨hb30, h⟩ := ab_ck_e h
              refine z_iast 92 (pc2 := 124) (j := ((u3 - (1 : Int32))).toNatClampNeg) rfl dX12_worked_123 rfl rfl hb30 rfl ?_
              obtain ⟨s31, hs31, h⟩ := ab_lt_e h
              refine z_tops hs31 ?_
              refine ab_goto (tgt := 157) dX12_worked_124 (by decide) ?_
              obtain ⟨x32, hxx32, h⟩ := ab_lt_e h
              refine z_iinc (pc2 := 160) (v := x32) (L2 := [some (.ref 85), none, some (.int p2), some (.int u3), some (.int x32), some (.int x5), some (.int x7)]) rfl dX12_worked_157 rfl (by rw [hxx32]; rfl) (by decide) rfl rfl ?_
              refine ab_goto (tgt := 13) dX12_worked_160 (by decide) ?_
              refine z_fgt [true, false, true, true, true, false, false] (L2 := [some (.ref 85), none, some (.int p2), some (.int u3), some (.int x32), none, none]) rfl ?_
              exact ih _ _ _ h
            · replace h := ab_pos hc29 h
              refine z_iconst (pc2 := 119) rfl dX12_worked_118 lt_i_1 ?_
              refine ab_goto (tgt := 123) dX12_worked_119 (by decide) ?_
              obtain ⟨hb33, h⟩ := ab_ck_e h
              refine z_iast 92 (pc2 := 124) (j := ((u3 - (1 : Int32))).toNatClampNeg) rfl dX12_worked_123 rfl rfl hb33 rfl ?_
              obtain ⟨s34, hs34, h⟩ := ab_lt_e h
              refine z_tops hs34 ?_
              refine ab_goto (tgt := 157) dX12_worked_124 (by decide) ?_
              obtain ⟨x35, hxx35, h⟩ := ab_lt_e h
              refine z_iinc (pc2 := 160) (v := x35) (L2 := [some (.ref 85), none, some (.int p2), some (.int u3), some (.int x35), some (.int x5), some (.int x7)]) rfl dX12_worked_157 rfl (by rw [hxx35]; rfl) (by decide) rfl rfl ?_
              refine ab_goto (tgt := 13) dX12_worked_160 (by decide) ?_
              refine z_fgt [true, false, true, true, true, false, false] (L2 := [some (.ref 85), none, some (.int p2), some (.int u3), some (.int x35), none, none]) rfl ?_
              exact ih _ _ _ h
        · replace h := ab_pos hc19 h
          refine z_aload_n (pc2 := 66) rfl dX12_worked_65 rfl ?_
          refine z_getR 85 12 11 92 (pc2 := 69) rfl dX12_worked_66 rfl rfl ff_12_11 wd_988 rfl ?_
          refine z_iload_n (pc2 := 70) rfl dX12_worked_69 rfl ?_
          refine z_iload (pc2 := 72) rfl dX12_worked_70 rfl ?_
          refine z_if_ne (pc2 := 75) (tgt := 80) rfl dX12_worked_72 (by decide) (fun hc36 => ?_) (fun hc36 => ?_)
          · replace h := ab_neg hc36 h
            refine z_aload_n (pc2 := 81) rfl dX12_worked_80 rfl ?_
            refine z_getR 85 12 10 91 (pc2 := 84) rfl dX12_worked_81 rfl rfl ff_12_10 wd_987 rfl ?_
            refine z_iload (pc2 := 86) rfl dX12_worked_84 rfl ?_
            obtain ⟨hb37, h⟩ := ab_ck_e h
            refine z_iald 91 (pc2 := 87) (j := (x7).toNatClampNeg) rfl dX12_worked_86 rfl rfl hb37 rfl ?_
            obtain ⟨hb38, h⟩ := ab_ck_e h
            refine z_iast 92 (pc2 := 88) (j := (u3).toNatClampNeg) rfl dX12_worked_87 rfl rfl hb38 rfl ?_
            obtain ⟨s39, hs39, h⟩ := ab_lt_e h
            refine z_tops hs39 ?_
            obtain ⟨x40, hxx40, h⟩ := ab_lt_e h
            refine z_iinc (pc2 := 91) (v := x40) (L2 := [some (.ref 85), none, some (.int p2), some (.int x40), some (.int u4), some (.int x5), some (.int x7)]) rfl dX12_worked_88 rfl (by rw [hxx40]; rfl) (by decide) rfl rfl ?_
            refine ab_goto (tgt := 157) dX12_worked_91 (by decide) ?_
            obtain ⟨x41, hxx41, h⟩ := ab_lt_e h
            refine z_iinc (pc2 := 160) (v := x41) (L2 := [some (.ref 85), none, some (.int p2), some (.int x40), some (.int x41), some (.int x5), some (.int x7)]) rfl dX12_worked_157 rfl (by rw [hxx41]; rfl) (by decide) rfl rfl ?_
            refine ab_goto (tgt := 13) dX12_worked_160 (by decide) ?_
            refine z_fgt [true, false, true, true, true, false, false] (L2 := [some (.ref 85), none, some (.int p2), some (.int x40), some (.int x41), none, none]) rfl ?_
            exact ih _ _ _ h
          · replace h := ab_pos hc36 h
            refine z_iload (pc2 := 77) rfl dX12_worked_75 rfl ?_
            refine ab_goto (tgt := 87) dX12_worked_77 (by decide) ?_
            obtain ⟨hb42, h⟩ := ab_ck_e h
            refine z_iast 92 (pc2 := 88) (j := (u3).toNatClampNeg) rfl dX12_worked_87 rfl rfl hb42 rfl ?_
            obtain ⟨s43, hs43, h⟩ := ab_lt_e h
            refine z_tops hs43 ?_
            obtain ⟨x44, hxx44, h⟩ := ab_lt_e h
            refine z_iinc (pc2 := 91) (v := x44) (L2 := [some (.ref 85), none, some (.int p2), some (.int x44), some (.int u4), some (.int x5), some (.int x7)]) rfl dX12_worked_88 rfl (by rw [hxx44]; rfl) (by decide) rfl rfl ?_
            refine ab_goto (tgt := 157) dX12_worked_91 (by decide) ?_
            obtain ⟨x45, hxx45, h⟩ := ab_lt_e h
            refine z_iinc (pc2 := 160) (v := x45) (L2 := [some (.ref 85), none, some (.int p2), some (.int x44), some (.int x45), some (.int x5), some (.int x7)]) rfl dX12_worked_157 rfl (by rw [hxx45]; rfl) (by decide) rfl rfl ?_
            refine ab_goto (tgt := 13) dX12_worked_160 (by decide) ?_
            refine z_fgt [true, false, true, true, true, false, false] (L2 := [some (.ref 85), none, some (.int p2), some (.int x44), some (.int x45), none, none]) rfl ?_
            exact ih _ _ _ h
