def f_X12_put (a1 : Int32) (a2 : Int32) (a3 : Int32) (σ : ab_F) : Option (Int32 × ab_F) := (f_X12_isSheet a1 σ).bind (fun q1 => (if (ab_b q1) = 0 then (f_X12_error (1 : Int32) σ).bind (fun q14 => (some (q14.1, q14.2))) else ab_ck (ab_ib a1 4) ((if (σ 94 (a1).toNatClampNeg) = 0 then (f_X12_error (2 : Int32) σ).bind (fun q13 => (some (q13.1, q13.2))) else ab_ck (ab_ib a1 4) ((f_X12_in a2 (0 : Int32) ((σ 95 (a1).toNatClampNeg) - (1 : Int32)) σ).bind (fun q6 => (if (ab_b q6) = 0 then (f_X12_error (1 : Int32) σ).bind (fun q12 => (some (q12.1, q12.2))) else ab_ck (ab_ib a1 4) (ab_lt (((32 : Int32) - (σ 94 (a1).toNatClampNeg))) (fun x9 => ab_ck (ab_ib (((24 : Int32) * a1) + a2) 96) (ab_lt (ab_u σ 96 ((((24 : Int32) * a1) + a2)).toNatClampNeg ((a3 <<< (x9 &&& 31)) >>> (x9 &&& 31))) (fun (s11 : ab_F) => (some ((1 : Int32), s11)))))))))))))
set_option maxRecDepth 100000 in
set_option maxHeartbeats 4000000 in
theorem e_X12_put {sc : Nat × (Nat → Int32)} {r : Option Nat × Option Nat} {a1 : Int32} {a2 : Int32} {a3 : Int32} {σ : ab_F} {res : (Int32 × ab_F)} (h : f_X12_put a1 a2 a3 σ = some res) : ab_E mX12_put 2 sc 0 [some (.ref 85), some (.int a1), some (.int a2), some (.int a3), none] [] (σ, r) (fun v S => v = some (.int res.1) ∧ S = (res.2, r)) := by
  unfold f_X12_put at h
  refine z_iload_n (pc2 := 1) rfl dX12_put_0 rfl ?_
  obtain ⟨q1, hq1, h⟩ := ab_bnd h
  refine z_callSi [.int a1] [some (.int a1)] (pc2 := 4) rfl rfl dX12_put_1 ok_X12_isSheet ⟨fun _ => rfl, fun _ => Nat.le_of_ble_eq_true rfl⟩ rfl wd_1323 wd_1324 rfl (e_X12_isSheet hq1) ?_
  refine z_if_ne (pc2 := 7) (tgt := 13) rfl dX12_put_4 (by decide) (fun hc2 => ?_) (fun hc2 => ?_)
  · replace h := ab_neg hc2 h
    refine z_aload_n (pc2 := 14) rfl dX12_put_13 rfl ?_
    refine z_getR 85 12 16 94 (pc2 := 17) rfl dX12_put_14 rfl rfl ff_12_16 wd_993 rfl ?_
    refine z_iload_n (pc2 := 18) rfl dX12_put_17 rfl ?_
    obtain ⟨hb3, h⟩ := ab_ck_e h
    refine z_iald 94 (pc2 := 19) (j := (a1).toNatClampNeg) rfl dX12_put_18 rfl rfl hb3 rfl ?_
    refine z_if_ne (pc2 := 22) (tgt := 28) rfl dX12_put_19 (by decide) (fun hc4 => ?_) (fun hc4 => ?_)
    · replace h := ab_neg hc4 h
      refine z_iload_n (pc2 := 29) rfl dX12_put_28 rfl ?_
      refine z_iconst (pc2 := 30) rfl dX12_put_29 lt_i_0 ?_
      refine z_aload_n (pc2 := 31) rfl dX12_put_30 rfl ?_
      refine z_getR 85 12 17 95 (pc2 := 34) rfl dX12_put_31 rfl rfl ff_12_17 wd_994 rfl ?_
      refine z_iload_n (pc2 := 35) rfl dX12_put_34 rfl ?_
      obtain ⟨hb5, h⟩ := ab_ck_e h
      refine z_iald 95 (pc2 := 36) (j := (a1).toNatClampNeg) rfl dX12_put_35 rfl rfl hb5 rfl ?_
      refine z_iconst (pc2 := 37) rfl dX12_put_36 lt_i_1 ?_
      refine z_isub (pc2 := 38) rfl dX12_put_37 ?_
      obtain ⟨q6, hq6, h⟩ := ab_bnd h
      refine z_callSi [.int a2, .int (0 : Int32), .int ((σ 95 (a1).toNatClampNeg) - (1 : Int32))] [some (.int a2), some (.int (0 : Int32)), some (.int ((σ 95 (a1).toNatClampNeg) - (1 : Int32)))] (pc2 := 41) rfl rfl dX12_put_38 ok_X12_in ⟨fun _ => rfl, fun _ => Nat.le_of_ble_eq_true rfl⟩ rfl wd_1042 wd_1043 rfl (e_X12_in hq6) ?_
      refine z_if_ne (pc2 := 44) (tgt := 50) rfl dX12_put_41 (by decide) (fun hc7 => ?_) (fun hc7 => ?_)
      · replace h := ab_neg hc7 h
        refine z_bipush (pc2 := 52) rfl dX12_put_50 lt_b_32 ?_
        refine z_aload_n (pc2 := 53) rfl dX12_put_52 rfl ?_
        refine z_getR 85 12 16 94 (pc2 := 56) rfl dX12_put_53 rfl rfl ff_12_16 wd_993 rfl ?_
        refine z_iload_n (pc2 := 57) rfl dX12_put_56 rfl ?_
        obtain ⟨hb8, h⟩ := ab_ck_e h
        refine z_iald 94 (pc2 := 58) (j := (a1).toNatClampNeg) rfl dX12_put_57 rfl rfl hb8 rfl ?_
        refine z_isub (pc2 := 59) rfl dX12_put_58 ?_
        obtain ⟨x9, hxx9, h⟩ := ab_lt_e h
        refine z_top hxx9 ?_
        refine z_istore (pc2 := 61) (L2 := [some (.ref 85), some (.int a1), some (.int a2), some (.int a3), some (.int x9)]) rfl dX12_put_59 (by decide) rfl rfl ?_
        refine z_aload_n (pc2 := 62) rfl dX12_put_61 rfl ?_
        refine z_getR 85 12 18 96 (pc2 := 65) rfl dX12_put_62 rfl rfl ff_12_18 wd_995 rfl ?_
        refine z_bipush (pc2 := 67) rfl dX12_put_65 lt_b_24 ?_
        refine z_iload_n (pc2 := 68) rfl dX12_put_67 rfl ?_
        refine z_imul (pc2 := 69) rfl dX12_put_68 ?_
        refine z_iload_n (pc2 := 70) rfl dX12_put_69 rfl ?_
        refine z_iadd (pc2 := 71) rfl dX12_put_70 ?_
        refine z_iload_n (pc2 := 72) rfl dX12_put_71 rfl ?_
        refine z_iload (pc2 := 74) rfl dX12_put_72 rfl ?_
        refine z_ishl (pc2 := 75) rfl dX12_put_74 ?_
        refine z_iload (pc2 := 77) rfl dX12_put_75 rfl ?_
        refine z_ishr (pc2 := 78) rfl dX12_put_77 ?_
        obtain ⟨hb10, h⟩ := ab_ck_e h
        refine z_iast 96 (pc2 := 79) (j := ((((24 : Int32) * a1) + a2)).toNatClampNeg) rfl dX12_put_78 rfl rfl hb10 rfl ?_
        obtain ⟨s11, hs11, h⟩ := ab_lt_e h
        refine z_tops hs11 ?_
        refine z_iconst (pc2 := 80) rfl dX12_put_79 lt_i_1 ?_
        exact z_iret dX12_put_80 rfl rfl (fi_w h)
      · replace h := ab_pos hc7 h
        refine z_aload_n (pc2 := 45) rfl dX12_put_44 rfl ?_
        refine z_iconst (pc2 := 46) rfl dX12_put_45 lt_i_1 ?_
        obtain ⟨q12, hq12, h⟩ := ab_bnd h
        refine z_callVi 85 [.int (1 : Int32)] [some (.ref 85), some (.int (1 : Int32))] (pc2 := 49) rfl rfl dX12_put_46 ok_X12_error ⟨fun _ => rfl, fun _ => Nat.le_of_ble_eq_true rfl⟩ rfl rv_85 wd_1045 wd_1047 wd_16 rfl (e_X12_error hq12) ?_
        exact z_iret dX12_put_49 rfl rfl (fi_w h)
    · replace h := ab_pos hc4 h
      refine z_aload_n (pc2 := 23) rfl dX12_put_22 rfl ?_
      refine z_iconst (pc2 := 24) rfl dX12_put_23 lt_i_2 ?_
      obtain ⟨q13, hq13, h⟩ := ab_bnd h
      refine z_callVi 85 [.int (2 : Int32)] [some (.ref 85), some (.int (2 : Int32))] (pc2 := 27) rfl rfl dX12_put_24 ok_X12_error ⟨fun _ => rfl, fun _ => Nat.le_of_ble_eq_true rfl⟩ rfl rv_85 wd_1045 wd_1047 wd_16 rfl (e_X12_error hq13) ?_
      exact z_iret dX12_put_27 rfl rfl (fi_w h)
  · replace h := ab_pos hc2 h
    refine z_aload_n (pc2 := 8) rfl dX12_put_7 rfl ?_
    refine z_iconst (pc2 := 9) rfl dX12_put_8 lt_i_1 ?_
    obtain ⟨q14, hq14, h⟩ := ab_bnd h
    refine z_callVi 85 [.int (1 : Int32)] [some (.ref 85), some (.int (1 : Int32))] (pc2 := 12) rfl rfl dX12_put_9 ok_X12_error ⟨fun _ => rfl, fun _ => Nat.le_of_ble_eq_true rfl⟩ rfl rv_85 wd_1045 wd_1047 wd_16 rfl (e_X12_error hq14) ?_
    exact z_iret dX12_put_12 rfl rfl (fi_w h)
def f_X12_move_L115 (p1 : Int32) (p2 : Int32) (p3 : Int32) (p4 : Int32) (p5 : Int32) (K : ab_F → Option (Int32 × ab_F)) : Nat → Int32 → ab_F → Option (Int32 × ab_F)
  | 0, _, _ => none
  | n + 1, u6, σ => (if p5 ≤ u6 then (K σ) else ab_ck (ab_ib ((((24 : Int32) * p1) + p2) + u6) 96) (ab_ck (ab_ib u6 24) (ab_lt (ab_u σ 97 (u6).toNatClampNeg (σ 96 (((((24 : Int32) * p1) + p2) + u6)).toNatClampNeg)) (fun (s28 : ab_F) => ab_lt (u6 + (1 : Int32)) (fun x29 => (f_X12_move_L115 p1 p2 p3 p4 p5 K n x29 s28))))))
set_option maxRecDepth 100000 in
set_option maxHeartbeats 4000000 in
theorem e_X12_move_L115 {sc : Nat × (Nat → Int32)} {r : Option Nat × Option Nat} {p1 : Int32} {p2 : Int32} {p3 : Int32} {p4 : Int32} {p5 : Int32} {K : ab_F → Option (Int32 × ab_F)} {res : (Int32 × ab_F)} (hK : ∀ (σ : ab_F), K σ = some res → ab_E mX12_move 2 sc 149 [some (.ref 85), none, none, some (.int p3), some (.int p4), some (.int p5), none] [] (σ, r) (fun v S => v = some (.int res.1) ∧ S = (res.2, r))) : ∀ (n : Nat) (u6 : Int32) (σ : ab_F), f_X12_move_L115 p1 p2 p3 p4 p5 K n u6 σ = some res → ab_E mX12_move 2 sc 115 [some (.ref 85), some (.int p1), some (.int p2), some (.int p3), some (.int p4), some (.int p5), some (.int u6)] [] (σ, r) (fun v S => v = some (.int res.1) ∧ S = (res.2, r)) := by
  intro n
  induction n with
  | zero =>
    intro u6 σ h
    rw [f_X12_move_L115] at h
    cases h
  | succ n ih =>
    intro u6 σ h
    rw [f_X12_move_L115] at h
    refine z_iload (pc2 := 117) rfl dX12_move_115 rfl ?_
    refine z_iload (pc2 := 119) rfl dX12_move_117 rfl ?_
    refine z_icmp_ge (pc2 := 122) (tgt := 149) rfl dX12_move_119 (by decide) (fun hc25 => ?_) (fun hc25 => ?_)
    · replace h := ab_pos hc25 h
      refine z_fgt [true, false, false, true, true, true, false] (L2 := [some (.ref 85), none, none, some (.int p3), some (.int p4), some (.int p5), none]) rfl ?_
      exact hK  _ h
    · replace h := ab_neg hc25 h
      refine z_aload_n (pc2 := 123) rfl dX12_move_122 rfl ?_
      refine z_getR 85 12 19 97 (pc2 := 126) rfl dX12_move_123 rfl rfl ff_12_19 wd_996 rfl ?_
      refine z_iload (pc2 := 128) rfl dX12_move_126 rfl ?_
      refine z_aload_n (pc2 := 129) rfl dX12_move_128 rfl ?_
      refine z_getR 85 12 18 96 (pc2 := 132) rfl dX12_move_129 rfl rfl ff_12_18 wd_995 rfl ?_
      refine z_bipush (pc2 := 134) rfl dX12_move_132 lt_b_24 ?_
      refine z_iload_n (pc2 := 135) rfl dX12_move_134 rfl ?_
      refine z_imul (pc2 := 136) rfl dX12_move_135 ?_
      refine z_iload_n (pc2 := 137) rfl dX12_move_136 rfl ?_
      refine z_iadd (pc2 := 138) rfl dX12_move_137 ?_
      refine z_iload (pc2 := 140) rfl dX12_move_138 rfl ?_
      refine z_iadd (pc2 := 141) rfl dX12_move_140 ?_
      obtain ⟨hb26, h⟩ := ab_ck_e h
      refine z_iald 96 (pc2 := 142) (j := (((((24 : Int32) * p1) + p2) + u6)).toNatClampNeg) rfl dX12_move_141 rfl rfl hb26 rfl ?_
      obtain ⟨hb27, h⟩ := ab_ck_e h
      refine z_iast 97 (pc2 := 143) (j := (u6).toNatClampNeg) rfl dX12_move_142 rfl rfl hb27 rfl ?_
      obtain ⟨s28, hs28, h⟩ := ab_lt_e h
      refine z_tops hs28 ?_
      obtain ⟨x29, hxx29, h⟩ := ab_lt_e h
      refine z_iinc (pc2 := 146) (v := x29) (L2 := [some (.ref 85), some (.int p1), some (.int p2), some (.int p3), some (.int p4), some (.int p5), some (.int x29)]) rfl dX12_move_143 rfl (by rw [hxx29]; rfl) (by decide) rfl rfl ?_
      refine ab_goto (tgt := 115) dX12_move_146 (by decide) ?_
      refine z_fgt [true, true, true, true, true, true, true] (L2 := [some (.ref 85), some (.int p1), some (.int p2), some (.int p3), some (.int p4), some (.int p5), some (.int x29)]) rfl ?_
      exact ih _ _ h
def f_X12_move_L152 (p3 : Int32) (p4 : Int32) (p5 : Int32) (K : ab_F → Option (Int32 × ab_F)) : Nat → Int32 → ab_F → Option (Int32 × ab_F)
  | 0, _, _ => none
  | n + 1, u6, σ => (if p5 ≤ u6 then (K σ) else ab_ck (ab_ib u6 24) (ab_ck (ab_ib ((((24 : Int32) * p3) + p4) + u6) 96) (ab_lt (ab_u σ 96 (((((24 : Int32) * p3) + p4) + u6)).toNatClampNeg (σ 97 (u6).toNatClampNeg)) (fun (s34 : ab_F) => ab_lt (u6 + (1 : Int32)) (fun x35 => (f_X12_move_L152 p3 p4 p5 K n x35 s34))))))
set_option maxRecDepth 100000 in
set_option maxHeartbeats 4000000 in
theorem e_X12_move_L152 {sc : Nat × (Nat → Int32)} {r : Option Nat × Option Nat} {p3 : Int32} {p4 : Int32} {p5 : Int32} {K : ab_F → Option (Int32 × ab_F)} {res : (Int32 × ab_F)} (hK : ∀ (σ : ab_F), K σ = some res → ab_E mX12_move 2 sc 187 [none, none, none, none, none, some (.int p5), none] [] (σ, r) (fun v S => v = some (.int res.1) ∧ S = (res.2, r))) : ∀ (n : Nat) (u6 : Int32) (σ : ab_F), f_X12_move_L152 p3 p4 p5 K n u6 σ = some res → ab_E mX12_move 2 sc 152 [some (.ref 85), none, none, some (.int p3), some (.int p4), some (.int p5), some (.int u6)] [] (σ, r) (fun v S => v = some (.int res.1) ∧ S = (res.2, r)) := by
  intro n
  induction n with
  | zero =>
    intro u6 σ h
    rw [f_X12_move_L152] at h
    cases h
  | succ n ih =>
    intro u6 σ h
    rw [f_X12_move_L152] at h
    refine z_iload (pc2 := 154) rfl dX12_move_152 rfl ?_
    refine z_iload (pc2 := 156) rfl dX12_move_154 rfl ?_
    refine z_icmp_ge (pc2 := 159) (tgt := 187) rfl dX12_move_156 (by decide) (fun hc31 => ?_) (fun hc31 => ?_)
    · replace h := ab_pos hc31 h
      refine z_fgt [false, false, false, false, false, true, false] (L2 := [none, none, none, none, none, some (.int p5), none]) rfl ?_
      exact hK  _ h
    · replace h := ab_neg hc31 h
      refine z_aload_n (pc2 := 160) rfl dX12_move_159 rfl ?_
      refine z_getR 85 12 18 96 (pc2 := 163) rfl dX12_move_160 rfl rfl ff_12_18 wd_995 rfl ?_
      refine z_bipush (pc2 := 165) rfl dX12_move_163 lt_b_24 ?_
      refine z_iload_n (pc2 := 166) rfl dX12_move_165 rfl ?_
      refine z_imul (pc2 := 167) rfl dX12_move_166 ?_
      refine z_iload (pc2 := 169) rfl dX12_move_167 rfl ?_
      refine z_iadd (pc2 := 170) rfl dX12_move_169 ?_
      refine z_iload (pc2 := 172) rfl dX12_move_170 rfl ?_
      refine z_iadd (pc2 := 173) rfl dX12_move_172 ?_
      refine z_aload_n (pc2 := 174) rfl dX12_move_173 rfl ?_
      refine z_getR 85 12 19 97 (pc2 := 177) rfl dX12_move_174 rfl rfl ff_12_19 wd_996 rfl ?_
      refine z_iload (pc2 := 179) rfl dX12_move_177 rfl ?_
      obtain ⟨hb32, h⟩ := ab_ck_e h
      refine z_iald 97 (pc2 := 180) (j := (u6).toNatClampNeg) rfl dX12_move_179 rfl rfl hb32 rfl ?_
      obtain ⟨hb33, h⟩ := ab_ck_e h
      refine z_iast 96 (pc2 := 181) (j := (((((24 : Int32) * p3) + p4) + u6)).toNatClampNeg) rfl dX12_move_180 rfl rfl hb33 rfl ?_
      obtain ⟨s34, hs34, h⟩ := ab_lt_e h
      refine z_tops hs34 ?_
      obtain ⟨x35, hxx35, h⟩ := ab_lt_e h
      refine z_iinc (pc2 := 184) (v := x35) (L2 := [some (.ref 85), none, none, some (.int p3), some (.int p4), some (.int p5), some (.int x35)]) rfl dX12_move_181 rfl (by rw [hxx35]; rfl) (by decide) rfl rfl ?_
      refine ab_goto (tgt := 152) dX12_move_184 (by decide) ?_
      refine z_fgt [true, false, false, true, true, true, true] (L2 := [some (.ref 85), none, none, some (.int p3), some (.int p4), some (.int p5), some (.int x35)]) rfl ?_
      exact ih _ _ h
def f_X12_move (a1 : Int32) (a2 : Int32) (a3 : Int32) (a4 : Int32) (a5 : Int32) (σ : ab_F) : Option (Int32 × ab_F) := (f_X12_isSheet a1 σ).bind (fun q1 => (if (ab_b q1) = 0 then (f_X12_error (1 : Int32) σ).bind (fun q3 => (some (q3.1, q3.2))) else (f_X12_isSheet a3 σ).bind (fun q4 => (if (ab_b q4) = 0 then (f_X12_error (1 : Int32) σ).bind (fun q40 => (some (q40.1, q40.2))) else ab_ck (ab_ib a1 4) ((if (σ 94 (a1).toNatClampNeg) = 0 then (f_X12_error (2 : Int32) σ).bind (fun q8 => (some (q8.1, q8.2))) else ab_ck (ab_ib a3 4) ((if (σ 94 (a3).toNatClampNeg) = 0 then (f_X12_error (2 : Int32) σ).bind (fun q39 => (some (q39.1, q39.2))) else ab_ck (ab_ib a1 4) (ab_ck (ab_ib a3 4) ((if (σ 94 (a1).toNatClampNeg) = (σ 94 (a3).toNatClampNeg) then (if a5 < 0 then (f_X12_error (1 : Int32) σ).bind (fun q15 => (some (q15.1, q15.2))) else (if a2 < 0 then (f_X12_error (1 : Int32) σ).bind (fun q17 => (some (q17.1, q17.2))) else (if a4 < 0 then (f_X12_error (1 : Int32) σ).bind (fun q19 => (some (q19.1, q19.2))) else ab_ck (ab_ib a1 4) ((if ((σ 95 (a1).toNatClampNeg) - a5) < a2 then (f_X12_error (1 : Int32) σ).bind (fun q22 => (some (q22.1, q22.2))) else ab_ck (ab_ib a3 4) ((if a4 ≤ ((σ 95 (a3).toNatClampNeg) - a5) then (f_X12_move_L115 a1 a2 a3 a4 a5 (fun (s30 : ab_F) => (f_X12_move_L152 a3 a4 a5 (fun (s36 : ab_F) => (some (a5, s36))) ab_fu (0 : Int32) s30)) ab_fu (0 : Int32) σ) else (f_X12_error (1 : Int32) σ).bind (fun q37 => (some (q37.1, q37.2)))))))))) else (f_X12_error (5 : Int32) σ).bind (fun q38 => (some (q38.1, q38.2))))))))))))))
set_option maxRecDepth 100000 in
set_option maxHeartbeats 4000000 in
theorem e_X12_move {sc : Nat × (Nat → Int32)} {r : Option Nat × Option Nat} {a1 : Int32} {a2 : Int32} {a3 : Int32} {a4 : Int32} {a5 : Int32} {σ : ab_F} {res : (Int32 × ab_F)} (h : f_X12_move a1 a2 a3 a4 a5 σ = some res) : ab_E mX12_move 2 sc 0 [some (.ref 85), some (.int a1), some (.int a2), some (.int a3), some (.int a4), some (.int a5), none] [] (σ, r) (fun v S => v = some (.int res.1) ∧ S = (res.2, r)) := by
  unfold f_X12_move at h
  refine z_iload_n (pc2 := 1) rfl dX12_move_0 rfl ?_
  obtain ⟨q1, hq1, h⟩ := ab_bnd h
  refine z_callSi [.int a1] [some (.int a1)] (pc2 := 4) rfl rfl dX12_move_1 ok_X12_isSheet ⟨fun _ => rfl, fun _ => Nat.le_of_ble_eq_true rfl⟩ rfl wd_1323 wd_1324 rfl (e_X12_isSheet hq1) ?_
  refine z_if_eq (pc2 := 7) (tgt := 14) rfl dX12_move_4 (by decide) (fun hc2 => ?_) (fun hc2 => ?_)
  · replace h := ab_pos hc2 h
    refine z_aload_n (pc2 := 15) rfl dX12_move_14 rfl ?_
    refine z_iconst (pc2 := 16) rfl dX12_move_15 lt_i_1 ?_
    obtain ⟨q3, hq3, h⟩ := ab_bnd h
    refine z_callVi 85 [.int (1 : Int32)] [some (.ref 85), some (.int (1 : Int32))] (pc2 := 19) rfl rfl dX12_move_16 ok_X12_error ⟨fun _ => rfl, fun _ => Nat.le_of_ble_eq_true rfl⟩ rfl rv_85 wd_1045 wd_1047 wd_16 rfl (e_X12_error hq3) ?_
    exact z_iret dX12_move_19 rfl rfl (fi_w h)
  · replace h := ab_neg hc2 h
    refine z_iload_n (pc2 := 8) rfl dX12_move_7 rfl ?_
    obtain ⟨q4, hq4, h⟩ := ab_bnd h
    refine z_callSi [.int a3] [some (.int a3)] (pc2 := 11) rfl rfl dX12_move_8 ok_X12_isSheet ⟨fun _ => rfl, fun _ => Nat.le_of_ble_eq_true rfl⟩ rfl wd_1323 wd_1324 rfl (e_X12_isSheet hq4) ?_
    refine z_if_ne (pc2 := 14) (tgt := 20) rfl dX12_move_11 (by decide) (fun hc5 => ?_) (fun hc5 => ?_)
    · replace h := ab_neg hc5 h
      refine z_aload_n (pc2 := 21) rfl dX12_move_20 rfl ?_
      refine z_getR 85 12 16 94 (pc2 := 24) rfl dX12_move_21 rfl rfl ff_12_16 wd_993 rfl ?_
      refine z_iload_n (pc2 := 25) rfl dX12_move_24 rfl ?_
      obtain ⟨hb6, h⟩ := ab_ck_e h
      refine z_iald 94 (pc2 := 26) (j := (a1).toNatClampNeg) rfl dX12_move_25 rfl rfl hb6 rfl ?_
      refine z_if_eq (pc2 := 29) (tgt := 38) rfl dX12_move_26 (by decide) (fun hc7 => ?_) (fun hc7 => ?_)
      · replace h := ab_pos hc7 h
        refine z_aload_n (pc2 := 39) rfl dX12_move_38 rfl ?_
        refine z_iconst (pc2 := 40) rfl dX12_move_39 lt_i_2 ?_
        obtain ⟨q8, hq8, h⟩ := ab_bnd h
        refine z_callVi 85 [.int (2 : Int32)] [some (.ref 85), some (.int (2 : Int32))] (pc2 := 43) rfl rfl dX12_move_40 ok_X12_error ⟨fun _ => rfl, fun _ => Nat.le_of_ble_eq_true rfl⟩ rfl rv_85 wd_1045 wd_1047 wd_16 rfl (e_X12_error hq8) ?_
        exact z_iret dX12_move_43 rfl rfl (fi_w h)
      · replace h := ab_neg hc7 h
        refine z_aload_n (pc2 := 30) rfl dX12_move_29 rfl ?_
        refine z_getR 85 12 16 94 (pc2 := 33) rfl dX12_move_30 rfl rfl ff_12_16 wd_993 rfl ?_
        refine z_iload_n (pc2 := 34) rfl dX12_move_33 rfl ?_
        obtain ⟨hb9, h⟩ := ab_ck_e h
        refine z_iald 94 (pc2 := 35) (j := (a3).toNatClampNeg) rfl dX12_move_34 rfl rfl hb9 rfl ?_
        refine z_if_ne (pc2 := 38) (tgt := 44) rfl dX12_move_35 (by decide) (fun hc10 => ?_) (fun hc10 => ?_)
        · replace h := ab_neg hc10 h
          refine z_aload_n (pc2 := 45) rfl dX12_move_44 rfl ?_
          refine z_getR 85 12 16 94 (pc2 := 48) rfl dX12_move_45 rfl rfl ff_12_16 wd_993 rfl ?_
          refine z_iload_n (pc2 := 49) rfl dX12_move_48 rfl ?_
          obtain ⟨hb11, h⟩ := ab_ck_e h
          refine z_iald 94 (pc2 := 50) (j := (a1).toNatClampNeg) rfl dX12_move_49 rfl rfl hb11 rfl ?_
          refine z_aload_n (pc2 := 51) rfl dX12_move_50 rfl ?_
          refine z_getR 85 12 16 94 (pc2 := 54) rfl dX12_move_51 rfl rfl ff_12_16 wd_993 rfl ?_
          refine z_iload_n (pc2 := 55) rfl dX12_move_54 rfl ?_
          obtain ⟨hb12, h⟩ := ab_ck_e h
          refine z_iald 94 (pc2 := 56) (j := (a3).toNatClampNeg) rfl dX12_move_55 rfl rfl hb12 rfl ?_
          refine z_icmp_eq (pc2 := 59) (tgt := 65) rfl dX12_move_56 (by decide) (fun hc13 => ?_) (fun hc13 => ?_)
          · replace h := ab_pos hc13 h
            refine z_iload (pc2 := 67) rfl dX12_move_65 rfl ?_
            refine z_if_lt (pc2 := 70) (tgt := 106) rfl dX12_move_67 (by decide) (fun hc14 => ?_) (fun hc14 => ?_)
            · replace h := ab_pos hc14 h
              refine z_aload_n (pc2 := 107) rfl dX12_move_106 rfl ?_
              refine z_iconst (pc2 := 108) rfl dX12_move_107 lt_i_1 ?_
              obtain ⟨q15, hq15, h⟩ := ab_bnd h
              refine z_callVi 85 [.int (1 : Int32)] [some (.ref 85), some (.int (1 : Int32))] (pc2 := 111) rfl rfl dX12_move_108 ok_X12_error ⟨fun _ => rfl, fun _ => Nat.le_of_ble_eq_true rfl⟩ rfl rv_85 wd_1045 wd_1047 wd_16 rfl (e_X12_error hq15) ?_
              exact z_iret dX12_move_111 rfl rfl (fi_w h)
            · replace h := ab_neg hc14 h
              refine z_iload_n (pc2 := 71) rfl dX12_move_70 rfl ?_
              refine z_if_lt (pc2 := 74) (tgt := 106) rfl dX12_move_71 (by decide) (fun hc16 => ?_) (fun hc16 => ?_)
              · replace h := ab_pos hc16 h
                refine z_aload_n (pc2 := 107) rfl dX12_move_106 rfl ?_
                refine z_iconst (pc2 := 108) rfl dX12_move_107 lt_i_1 ?_
                obtain ⟨q17, hq17, h⟩ := ab_bnd h
                refine z_callVi 85 [.int (1 : Int32)] [some (.ref 85), some (.int (1 : Int32))] (pc2 := 111) rfl rfl dX12_move_108 ok_X12_error ⟨fun _ => rfl, fun _ => Nat.le_of_ble_eq_true rfl⟩ rfl rv_85 wd_1045 wd_1047 wd_16 rfl (e_X12_error hq17) ?_
                exact z_iret dX12_move_111 rfl rfl (fi_w h)
              · replace h := ab_neg hc16 h
                refine z_iload (pc2 := 76) rfl dX12_move_74 rfl ?_
                refine z_if_lt (pc2 := 79) (tgt := 106) rfl dX12_move_76 (by decide) (fun hc18 => ?_) (fun hc18 => ?_)
                · replace h := ab_pos hc18 h
                  refine z_aload_n (pc2 := 107) rfl dX12_move_106 rfl ?_
                  refine z_iconst (pc2 := 108) rfl dX12_move_107 lt_i_1 ?_
                  obtain ⟨q19, hq19, h⟩ := ab_bnd h
                  refine z_callVi 85 [.int (1 : Int32)] [some (.ref 85), some (.int (1 : Int32))] (pc2 := 111) rfl rfl dX12_move_108 ok_X12_error ⟨fun _ => rfl, fun _ => Nat.le_of_ble_eq_true rfl⟩ rfl rv_85 wd_1045 wd_1047 wd_16 rfl (e_X12_error hq19) ?_
                  exact z_iret dX12_move_111 rfl rfl (fi_w h)
                · replace h := ab_neg hc18 h
                  refine z_iload_n (pc2 := 80) rfl dX12_move_79 rfl ?_
                  refine z_aload_n (pc2 := 81) rfl dX12_move_80 rfl ?_
                  refine z_getR 85 12 17 95 (pc2 := 84) rfl dX12_move_81 rfl rfl ff_12_17 wd_994 rfl ?_
                  refine z_iload_n (pc2 := 85) rfl dX12_move_84 rfl ?_
                  obtain ⟨hb20, h⟩ := ab_ck_e h
                  refine z_iald 95 (pc2 := 86) (j := (a1).toNatClampNeg) rfl dX12_move_85 rfl rfl hb20 rfl ?_
                  refine z_iload (pc2 := 88) rfl dX12_move_86 rfl ?_
                  refine z_isub (pc2 := 89) rfl dX12_move_88 ?_
                  refine z_icmp_gt (pc2 := 92) (tgt := 106) rfl dX12_move_89 (by decide) (fun hc21 => ?_) (fun hc21 => ?_)
                  · replace h := ab_pos hc21 h
                    refine z_aload_n (pc2 := 107) rfl dX12_move_106 rfl ?_
                    refine z_iconst (pc2 := 108) rfl dX12_move_107 lt_i_1 ?_
                    obtain ⟨q22, hq22, h⟩ := ab_bnd h
                    refine z_callVi 85 [.int (1 : Int32)] [some (.ref 85), some (.int (1 : Int32))] (pc2 := 111) rfl rfl dX12_move_108 ok_X12_error ⟨fun _ => rfl, fun _ => Nat.le_of_ble_eq_true rfl⟩ rfl rv_85 wd_1045 wd_1047 wd_16 rfl (e_X12_error hq22) ?_
                    exact z_iret dX12_move_111 rfl rfl (fi_w h)
                  · replace h := ab_neg hc21 h
                    refine z_iload (pc2 := 94) rfl dX12_move_92 rfl ?_
                    refine z_aload_n (pc2 := 95) rfl dX12_move_94 rfl ?_
                    refine z_getR 85 12 17 95 (pc2 := 98) rfl dX12_move_95 rfl rfl ff_12_17 wd_994 rfl ?_
                    refine z_iload_n (pc2 := 99) rfl dX12_move_98 rfl ?_
                    obtain ⟨hb23, h⟩ := ab_ck_e h
                    refine z_iald 95 (pc2 := 100) (j := (a3).toNatClampNeg) rfl dX12_move_99 rfl rfl hb23 rfl ?_
                    refine z_iload (pc2 := 102) rfl dX12_move_100 rfl ?_
                    refine z_isub (pc2 := 103) rfl dX12_move_102 ?_
                    refine z_icmp_le (pc2 := 106) (tgt := 112) rfl dX12_move_103 (by decide) (fun hc24 => ?_) (fun hc24 => ?_)
                    · replace h := ab_pos hc24 h
                      refine z_iconst (pc2 := 113) rfl dX12_move_112 lt_i_0 ?_
                      refine z_istore (pc2 := 115) (L2 := [some (.ref 85), some (.int a1), some (.int a2), some (.int a3), some (.int a4), some (.int a5), some (.int (0 : Int32))]) rfl dX12_move_113 (by decide) rfl rfl ?_
                      refine z_fgt [true, true, true, true, true, true, true] (L2 := [some (.ref 85), some (.int a1), some (.int a2), some (.int a3), some (.int a4), some (.int a5), some (.int (0 : Int32))]) rfl ?_
                      refine e_X12_move_L115 (fun s30 h => ?_) _ _ _ h
                      refine z_iconst (pc2 := 150) rfl dX12_move_149 lt_i_0 ?_
                      refine z_istore (pc2 := 152) (L2 := [some (.ref 85), none, none, some (.int a3), some (.int a4), some (.int a5), some (.int (0 : Int32))]) rfl dX12_move_150 (by decide) rfl rfl ?_
                      refine z_fgt [true, false, false, true, true, true, true] (L2 := [some (.ref 85), none, none, some (.int a3), some (.int a4), some (.int a5), some (.int (0 : Int32))]) rfl ?_
                      refine e_X12_move_L152 (fun s36 h => ?_) _ _ _ h
                      refine z_iload (pc2 := 189) rfl dX12_move_187 rfl ?_
                      exact z_iret dX12_move_189 rfl rfl (fi_w h)
                    · replace h := ab_neg hc24 h
                      refine z_aload_n (pc2 := 107) rfl dX12_move_106 rfl ?_
                      refine z_iconst (pc2 := 108) rfl dX12_move_107 lt_i_1 ?_
                      obtain ⟨q37, hq37, h⟩ := ab_bnd h
                      refine z_callVi 85 [.int (1 : Int32)] [some (.ref 85), some (.int (1 : Int32))] (pc2 := 111) rfl rfl dX12_move_108 ok_X12_error ⟨fun _ => rfl, fun _ => Nat.le_of_ble_eq_true rfl⟩ rfl rv_85 wd_1045 wd_1047 wd_16 rfl (e_X12_error hq37) ?_
                      exact z_iret dX12_move_111 rfl rfl (fi_w h)
          · replace h := ab_neg hc13 h
            refine z_aload_n (pc2 := 60) rfl dX12_move_59 rfl ?_
            refine z_iconst (pc2 := 61) rfl dX12_move_60 lt_i_5 ?_
            obtain ⟨q38, hq38, h⟩ := ab_bnd h
            refine z_callVi 85 [.int (5 : Int32)] [some (.ref 85), some (.int (5 : Int32))] (pc2 := 64) rfl rfl dX12_move_61 ok_X12_error ⟨fun _ => rfl, fun _ => Nat.le_of_ble_eq_true rfl⟩ rfl rv_85 wd_1045 wd_1047 wd_16 rfl (e_X12_error hq38) ?_
            exact z_iret dX12_move_64 rfl rfl (fi_w h)
        · replace h := ab_pos hc10 h
          refine z_aload_n (pc2 := 39) rfl dX12_move_38 rfl ?_
          refine z_iconst (pc2 := 40) rfl dX12_move_39 lt_i_2 ?_
          obtain ⟨q39, hq39, h⟩ := ab_bnd h
          refine z_callVi 85 [.int (2 : Int32)] [some (.ref 85), some (.int (2 : Int32))] (pc2 := 43) rfl rfl dX12_move_40 ok_X12_error ⟨fun _ => rfl, fun _ => Nat.le_of_ble_eq_true rfl⟩ rfl rv_85 wd_1045 wd_1047 wd_16 rfl (e_X12_error hq39) ?_
          exact z_iret dX12_move_43 rfl rfl (fi_w h)
    · replace h := ab_pos hc5 h
      refine z_aload_n (pc2 := 15) rfl dX12_move_14 rfl ?_
      refine z_iconst (pc2 := 16) rfl dX12_move_15 lt_i_1 ?_
      obtain ⟨q40, hq40, h⟩ := ab_bnd h
      refine z_callVi 85 [.int (1 : Int32)] [some (.ref 85), some (.int (1 : Int32))] (pc2 := 19) rfl rfl dX12_move_16 ok_X12_error ⟨fun _ => rfl, fun _ => Nat.le_of_ble_eq_true rfl⟩ rfl rv_85 wd_1045 wd_1047 wd_16 rfl (e_X12_error hq40) ?_
      exact z_iret dX12_move_19 rfl rfl (fi_w h)
def f_X12_lacks (a1 : Int32) (σ : ab_F) : Option Int32 := (f_X12_isSheet a1 σ).bind (fun q1 => (if (ab_b q1) = 0 then (some (1 : Int32)) else ab_ck (ab_ib a1 4) ((if (σ 94 (a1).toNatClampNeg) = 0 then (some (2 : Int32)) else (some (0 : Int32))))))
set_option maxRecDepth 100000 in
set_option maxHeartbeats 4000000 in
theorem e_X12_lacks {sc : Nat × (Nat → Int32)} {r : Option Nat × Option Nat} {a1 : Int32} {σ : ab_F} {res : Int32} (h : f_X12_lacks a1 σ = some res) : ab_E mX12_lacks 2 sc 0 [some (.ref 85), some (.int a1)] [] (σ, r) (fun v S => v = some (.int res) ∧ S = (σ, r)) := by
  unfold f_X12_lacks at h
  refine z_iload_n (pc2 := 1) rfl dX12_lacks_0 rfl ?_
  obtain ⟨q1, hq1, h⟩ := ab_bnd h
  refine z_callSi [.int a1] [some (.int a1)] (pc2 := 4) rfl rfl dX12_lacks_1 ok_X12_isSheet ⟨fun _ => rfl, fun _ => Nat.le_of_ble_eq_true rfl⟩ rfl wd_1323 wd_1324 rfl (e_X12_isSheet hq1) ?_
  refine z_if_ne (pc2 := 7) (tgt := 11) rfl dX12_lacks_4 (by decide) (fun hc2 => ?_) (fun hc2 => ?_)
  · replace h := ab_neg hc2 h
    refine z_aload_n (pc2 := 12) rfl dX12_lacks_11 rfl ?_
    refine z_getR 85 12 16 94 (pc2 := 15) rfl dX12_lacks_12 rfl rfl ff_12_16 wd_993 rfl ?_
    refine z_iload_n (pc2 := 16) rfl dX12_lacks_15 rfl ?_
    obtain ⟨hb3, h⟩ := ab_ck_e h
    refine z_iald 94 (pc2 := 17) (j := (a1).toNatClampNeg) rfl dX12_lacks_16 rfl rfl hb3 rfl ?_
    refine z_if_ne (pc2 := 20) (tgt := 24) rfl dX12_lacks_17 (by decide) (fun hc4 => ?_) (fun hc4 => ?_)
    · replace h := ab_neg hc4 h
      refine z_iconst (pc2 := 25) rfl dX12_lacks_24 lt_i_0 ?_
      exact z_iret dX12_lacks_25 rfl rfl (fi_p h)
    · replace h := ab_pos hc4 h
      refine z_iconst (pc2 := 21) rfl dX12_lacks_20 lt_i_2 ?_
      refine ab_goto (tgt := 25) dX12_lacks_21 (by decide) ?_
      exact z_iret dX12_lacks_25 rfl rfl (fi_p h)
  · replace h := ab_pos hc2 h
    refine z_iconst (pc2 := 8) rfl dX12_lacks_7 lt_i_1 ?_
    refine ab_goto (tgt := 25) dX12_lacks_8 (by decide) ?_
    exact z_iret dX12_lacks_25 rfl rfl (fi_p h)
def f_X12_grounds_L18 (p1 : Int32) (K : Int32 → ab_F → Option (Int32 × ab_F)) : Nat → Int32 → ab_F → Option (Int32 × ab_F)
  | 0, _, _ => none
  | n + 1, u3, σ => ab_ck (ab_ib p1 4) ((if (σ 95 (p1).toNatClampNeg) ≤ u3 then (K u3 σ) else (if (16 : Int32) ≤ u3 then (K u3 σ) else ab_ck (ab_ib (((24 : Int32) * p1) + u3) 96) ((f_X12_in (σ 96 ((((24 : Int32) * p1) + u3)).toNatClampNeg) (0 : Int32) (9 : Int32) σ).bind (fun q7 => (if (ab_b q7) = 0 then (K u3 σ) else ab_ck (ab_ib (((24 : Int32) * p1) + u3) 96) (ab_ck (ab_ib ((12 : Int32) + u3) 450) (ab_lt (ab_u σ 86 (((12 : Int32) + u3)).toNatClampNeg (σ 96 ((((24 : Int32) * p1) + u3)).toNatClampNeg)) (fun (s11 : ab_F) => ab_lt (u3 + (1 : Int32)) (fun x12 => (f_X12_grounds_L18 p1 K n x12 s11)))))))))))
set_option maxRecDepth 100000 in
set_option maxHeartbeats 4000000 in
theorem e_X12_grounds_L18 {sc : Nat × (Nat → Int32)} {r : Option Nat × Option Nat} {p1 : Int32} {K : Int32 → ab_F → Option (Int32 × ab_F)} {res : (Int32 × ab_F)} (hK : ∀ (u3 : Int32) (σ : ab_F), K u3 σ = some res → ab_E mX12_grounds 3 sc 80 [none, none, none, some (.int u3)] [] (σ, r) (fun v S => v = some (.int res.1) ∧ S = (res.2, r))) : ∀ (n : Nat) (u3 : Int32) (σ : ab_F), f_X12_grounds_L18 p1 K n u3 σ = some res → ab_E mX12_grounds 3 sc 18 [some (.ref 85), some (.int p1), none, some (.int u3)] [] (σ, r) (fun v S => v = some (.int res.1) ∧ S = (res.2, r)) := by
  intro n
  induction n with
  | zero =>
    intro u3 σ h
    rw [f_X12_grounds_L18] at h
    cases h
  | succ n ih =>
    intro u3 σ h
    rw [f_X12_grounds_L18] at h
    refine z_iload_n (pc2 := 19) rfl dX12_grounds_18 rfl ?_
    refine z_aload_n (pc2 := 20) rfl dX12_grounds_19 rfl ?_
    refine z_getR 85 12 17 95 (pc2 := 23) rfl dX12_grounds_20 rfl rfl ff_12_17 wd_994 rfl ?_
    refine z_iload_n (pc2 := 24) rfl dX12_grounds_23 rfl ?_
    obtain ⟨hb3, h⟩ := ab_ck_e h
    refine z_iald 95 (pc2 := 25) (j := (p1).toNatClampNeg) rfl dX12_grounds_24 rfl rfl hb3 rfl ?_
    refine z_icmp_ge (pc2 := 28) (tgt := 80) rfl dX12_grounds_25 (by decide) (fun hc4 => ?_) (fun hc4 => ?_)
    · replace h := ab_pos hc4 h
      refine z_fgt [false, false, false, true] (L2 := [none, none, none, some (.int u3)]) rfl ?_
      exact hK _ _ h
    · replace h := ab_neg hc4 h
      refine z_iload_n (pc2 := 29) rfl dX12_grounds_28 rfl ?_
      refine z_bipush (pc2 := 31) rfl dX12_grounds_29 lt_b_16 ?_
      refine z_icmp_ge (pc2 := 34) (tgt := 80) rfl dX12_grounds_31 (by decide) (fun hc5 => ?_) (fun hc5 => ?_)
      · replace h := ab_pos hc5 h
        refine z_fgt [false, false, false, true] (L2 := [none, none, none, some (.int u3)]) rfl ?_
        exact hK _ _ h
      · replace h := ab_neg hc5 h
        refine z_aload_n (pc2 := 35) rfl dX12_grounds_34 rfl ?_
        refine z_getR 85 12 18 96 (pc2 := 38) rfl dX12_grounds_35 rfl rfl ff_12_18 wd_995 rfl ?_
        refine z_bipush (pc2 := 40) rfl dX12_grounds_38 lt_b_24 ?_
        refine z_iload_n (pc2 := 41) rfl dX12_grounds_40 rfl ?_
        refine z_imul (pc2 := 42) rfl dX12_grounds_41 ?_
        refine z_iload_n (pc2 := 43) rfl dX12_grounds_42 rfl ?_
        refine z_iadd (pc2 := 44) rfl dX12_grounds_43 ?_
        obtain ⟨hb6, h⟩ := ab_ck_e h
        refine z_iald 96 (pc2 := 45) (j := ((((24 : Int32) * p1) + u3)).toNatClampNeg) rfl dX12_grounds_44 rfl rfl hb6 rfl ?_
        refine z_iconst (pc2 := 46) rfl dX12_grounds_45 lt_i_0 ?_
        refine z_bipush (pc2 := 48) rfl dX12_grounds_46 lt_b_9 ?_
        obtain ⟨q7, hq7, h⟩ := ab_bnd h
        refine z_callSi [.int (σ 96 ((((24 : Int32) * p1) + u3)).toNatClampNeg), .int (0 : Int32), .int (9 : Int32)] [some (.int (σ 96 ((((24 : Int32) * p1) + u3)).toNatClampNeg)), some (.int (0 : Int32)), some (.int (9 : Int32))] (pc2 := 51) rfl rfl dX12_grounds_48 ok_X12_in ⟨fun _ => rfl, fun _ => Nat.le_of_ble_eq_true rfl⟩ rfl wd_1042 wd_1043 rfl (e_X12_in hq7) ?_
        refine z_if_eq (pc2 := 54) (tgt := 80) rfl dX12_grounds_51 (by decide) (fun hc8 => ?_) (fun hc8 => ?_)
        · replace h := ab_pos hc8 h
          refine z_fgt [false, false, false, true] (L2 := [none, none, none, some (.int u3)]) rfl ?_
          exact hK _ _ h
        · replace h := ab_neg hc8 h
          refine z_aload_n (pc2 := 55) rfl dX12_grounds_54 rfl ?_
          refine z_getR 85 12 0 86 (pc2 := 58) rfl dX12_grounds_55 rfl rfl ff_12_0 wd_977 rfl ?_
          refine z_bipush (pc2 := 60) rfl dX12_grounds_58 lt_b_12 ?_
          refine z_iload_n (pc2 := 61) rfl dX12_grounds_60 rfl ?_
          refine z_iadd (pc2 := 62) rfl dX12_grounds_61 ?_
          refine z_aload_n (pc2 := 63) rfl dX12_grounds_62 rfl ?_
          refine z_getR 85 12 18 96 (pc2 := 66) rfl dX12_grounds_63 rfl rfl ff_12_18 wd_995 rfl ?_
          refine z_bipush (pc2 := 68) rfl dX12_grounds_66 lt_b_24 ?_
          refine z_iload_n (pc2 := 69) rfl dX12_grounds_68 rfl ?_
          refine z_imul (pc2 := 70) rfl dX12_grounds_69 ?_
          refine z_iload_n (pc2 := 71) rfl dX12_grounds_70 rfl ?_
          refine z_iadd (pc2 := 72) rfl dX12_grounds_71 ?_
          obtain ⟨hb9, h⟩ := ab_ck_e h
          refine z_iald 96 (pc2 := 73) (j := ((((24 : Int32) * p1) + u3)).toNatClampNeg) rfl dX12_grounds_72 rfl rfl hb9 rfl ?_
          obtain ⟨hb10, h⟩ := ab_ck_e h
          refine z_iast 86 (pc2 := 74) (j := (((12 : Int32) + u3)).toNatClampNeg) rfl dX12_grounds_73 rfl rfl hb10 rfl ?_
          obtain ⟨s11, hs11, h⟩ := ab_lt_e h
          refine z_tops hs11 ?_
          obtain ⟨x12, hxx12, h⟩ := ab_lt_e h
          refine z_iinc (pc2 := 77) (v := x12) (L2 := [some (.ref 85), some (.int p1), none, some (.int x12)]) rfl dX12_grounds_74 rfl (by rw [hxx12]; rfl) (by decide) rfl rfl ?_
          refine ab_goto (tgt := 18) dX12_grounds_77 (by decide) ?_
          refine z_fgt [true, true, false, true] (L2 := [some (.ref 85), some (.int p1), none, some (.int x12)]) rfl ?_
          exact ih _ _ h
def f_X12_grounds (a1 : Int32) (σ : ab_F) : Option (Int32 × ab_F) := (f_X12_lacks a1 σ).bind (fun q1 => (if q1 = 0 then (f_X12_grounds_L18 a1 (fun (k13 : Int32) (s14 : ab_F) => (some (k13, s14))) ab_fu (0 : Int32) σ) else (f_X12_error q1 σ).bind (fun q15 => (some (q15.1, q15.2)))))
set_option maxRecDepth 100000 in
set_option maxHeartbeats 4000000 in
theorem e_X12_grounds {sc : Nat × (Nat → Int32)} {r : Option Nat × Option Nat} {a1 : Int32} {σ : ab_F} {res : (Int32 × ab_F)} (h : f_X12_grounds a1 σ = some res) : ab_E mX12_grounds 3 sc 0 [some (.ref 85), some (.int a1), none, none] [] (σ, r) (fun v S => v = some (.int res.1) ∧ S = (res.2, r)) := by
  unfold f_X12_grounds at h
  refine z_aload_n (pc2 := 1) rfl dX12_grounds_0 rfl ?_
  refine z_iload_n (pc2 := 2) rfl dX12_grounds_1 rfl ?_
  obtain ⟨q1, hq1, h⟩ := ab_bnd h
  refine z_callVi 85 [.int a1] [some (.ref 85), some (.int a1)] (pc2 := 5) rfl rfl dX12_grounds_2 ok_X12_lacks ⟨fun _ => rfl, fun _ => Nat.le_of_ble_eq_true rfl⟩ rfl rv_85 wd_1378 wd_1380 wd_58 rfl (e_X12_lacks hq1) ?_
  refine z_istore_n (pc2 := 6) (L2 := [some (.ref 85), some (.int a1), some (.int q1), none]) rfl dX12_grounds_5 (by decide) rfl rfl ?_
  refine z_iload_n (pc2 := 7) rfl dX12_grounds_6 rfl ?_
  refine z_if_eq (pc2 := 10) (tgt := 16) rfl dX12_grounds_7 (by decide) (fun hc2 => ?_) (fun hc2 => ?_)
  · replace h := ab_pos hc2 h
    refine z_iconst (pc2 := 17) rfl dX12_grounds_16 lt_i_0 ?_
    refine z_istore_n (pc2 := 18) (L2 := [some (.ref 85), some (.int a1), some (.int q1), some (.int (0 : Int32))]) rfl dX12_grounds_17 (by decide) rfl rfl ?_
    refine z_fgt [true, true, false, true] (L2 := [some (.ref 85), some (.int a1), none, some (.int (0 : Int32))]) rfl ?_
    refine e_X12_grounds_L18 (fun k13 s14 h => ?_) _ _ _ h
    refine z_iload_n (pc2 := 81) rfl dX12_grounds_80 rfl ?_
    exact z_iret dX12_grounds_81 rfl rfl (fi_w h)
  · replace h := ab_neg hc2 h
    refine z_aload_n (pc2 := 11) rfl dX12_grounds_10 rfl ?_
    refine z_iload_n (pc2 := 12) rfl dX12_grounds_11 rfl ?_
    obtain ⟨q15, hq15, h⟩ := ab_bnd h
    refine z_callVi 85 [.int q1] [some (.ref 85), some (.int q1)] (pc2 := 15) rfl rfl dX12_grounds_12 ok_X12_error ⟨fun _ => rfl, fun _ => Nat.le_of_ble_eq_true rfl⟩ rfl rv_85 wd_1045 wd_1047 wd_16 rfl (e_X12_error hq15) ?_
    exact z_iret dX12_grounds_15 rfl rfl (fi_w h)
def f_X12_judge_L18 (p1 : Int32) (σ : ab_F) (K : Int32 → Option (Int32 × ab_F)) : Nat → Int32 → Option (Int32 × ab_F)
  | 0, _ => none
  | n + 1, u3 => ab_ck (ab_ib p1 4) ((if (σ 95 (p1).toNatClampNeg) ≤ u3 then (K u3) else (if (16 : Int32) ≤ u3 then (K u3) else ab_ck (ab_ib (((24 : Int32) * p1) + u3) 96) (ab_ck (ab_ib ((28 : Int32) + u3) 450) ((if (σ 96 ((((24 : Int32) * p1) + u3)).toNatClampNeg) = (σ 86 (((28 : Int32) + u3)).toNatClampNeg) then ab_lt (u3 + (1 : Int32)) (fun x9 => (f_X12_judge_L18 p1 σ K n x9)) else (K u3)))))))
set_option maxRecDepth 100000 in
set_option maxHeartbeats 4000000 in
theorem e_X12_judge_L18 {sc : Nat × (Nat → Int32)} {r : Option Nat × Option Nat} {p1 : Int32} {σ : ab_F} {K : Int32 → Option (Int32 × ab_F)} {res : (Int32 × ab_F)} (hK : ∀ (u3 : Int32), K u3 = some res → ab_E mX12_judge 3 sc 63 [none, none, none, some (.int u3)] [] (σ, r) (fun v S => v = some (.int res.1) ∧ S = (res.2, r))) : ∀ (n : Nat) (u3 : Int32), f_X12_judge_L18 p1 σ K n u3 = some res → ab_E mX12_judge 3 sc 18 [some (.ref 85), some (.int p1), none, some (.int u3)] [] (σ, r) (fun v S => v = some (.int res.1) ∧ S = (res.2, r)) := by
  intro n
  induction n with
  | zero =>
    intro u3 h
    rw [f_X12_judge_L18] at h
    cases h
  | succ n ih =>
    intro u3 h
    rw [f_X12_judge_L18] at h
    refine z_iload_n (pc2 := 19) rfl dX12_judge_18 rfl ?_
    refine z_aload_n (pc2 := 20) rfl dX12_judge_19 rfl ?_
    refine z_getR 85 12 17 95 (pc2 := 23) rfl dX12_judge_20 rfl rfl ff_12_17 wd_994 rfl ?_
    refine z_iload_n (pc2 := 24) rfl dX12_judge_23 rfl ?_
    obtain ⟨hb3, h⟩ := ab_ck_e h
    refine z_iald 95 (pc2 := 25) (j := (p1).toNatClampNeg) rfl dX12_judge_24 rfl rfl hb3 rfl ?_
    refine z_icmp_ge (pc2 := 28) (tgt := 63) rfl dX12_judge_25 (by decide) (fun hc4 => ?_) (fun hc4 => ?_)
    · replace h := ab_pos hc4 h
      refine z_fgt [false, false, false, true] (L2 := [none, none, none, some (.int u3)]) rfl ?_
      exact hK _ h
    · replace h := ab_neg hc4 h
      refine z_iload_n (pc2 := 29) rfl dX12_judge_28 rfl ?_
      refine z_bipush (pc2 := 31) rfl dX12_judge_29 lt_b_16 ?_
      refine z_icmp_ge (pc2 := 34) (tgt := 63) rfl dX12_judge_31 (by decide) (fun hc5 => ?_) (fun hc5 => ?_)
      · replace h := ab_pos hc5 h
        refine z_fgt [false, false, false, true] (L2 := [none, none, none, some (.int u3)]) rfl ?_
        exact hK _ h
      · replace h := ab_neg hc5 h
        refine z_aload_n (pc2 := 35) rfl dX12_judge_34 rfl ?_
        refine z_getR 85 12 18 96 (pc2 := 38) rfl dX12_judge_35 rfl rfl ff_12_18 wd_995 rfl ?_
        refine z_bipush (pc2 := 40) rfl dX12_judge_38 lt_b_24 ?_
        refine z_iload_n (pc2 := 41) rfl dX12_judge_40 rfl ?_
        refine z_imul (pc2 := 42) rfl dX12_judge_41 ?_
        refine z_iload_n (pc2 := 43) rfl dX12_judge_42 rfl ?_
        refine z_iadd (pc2 := 44) rfl dX12_judge_43 ?_
        obtain ⟨hb6, h⟩ := ab_ck_e h
        refine z_iald 96 (pc2 := 45) (j := ((((24 : Int32) * p1) + u3)).toNatClampNeg) rfl dX12_judge_44 rfl rfl hb6 rfl ?_
        refine z_aload_n (pc2 := 46) rfl dX12_judge_45 rfl ?_
        refine z_getR 85 12 0 86 (pc2 := 49) rfl dX12_judge_46 rfl rfl ff_12_0 wd_977 rfl ?_
        refine z_bipush (pc2 := 51) rfl dX12_judge_49 lt_b_28 ?_
        refine z_iload_n (pc2 := 52) rfl dX12_judge_51 rfl ?_
        refine z_iadd (pc2 := 53) rfl dX12_judge_52 ?_
        obtain ⟨hb7, h⟩ := ab_ck_e h
        refine z_iald 86 (pc2 := 54) (j := (((28 : Int32) + u3)).toNatClampNeg) rfl dX12_judge_53 rfl rfl hb7 rfl ?_
        refine z_icmp_ne (pc2 := 57) (tgt := 63) rfl dX12_judge_54 (by decide) (fun hc8 => ?_) (fun hc8 => ?_)
        · replace h := ab_neg hc8 h
          refine z_fgt [false, false, false, true] (L2 := [none, none, none, some (.int u3)]) rfl ?_
          exact hK _ h
        · replace h := ab_pos hc8 h
          obtain ⟨x9, hxx9, h⟩ := ab_lt_e h
          refine z_iinc (pc2 := 60) (v := x9) (L2 := [some (.ref 85), some (.int p1), none, some (.int x9)]) rfl dX12_judge_57 rfl (by rw [hxx9]; rfl) (by decide) rfl rfl ?_
          refine ab_goto (tgt := 18) dX12_judge_60 (by decide) ?_
          refine z_fgt [true, true, false, true] (L2 := [some (.ref 85), some (.int p1), none, some (.int x9)]) rfl ?_
          exact ih _ h
def f_X12_judge (a1 : Int32) (σ : ab_F) : Option (Int32 × ab_F) := (f_X12_lacks a1 σ).bind (fun q1 => (if q1 = 0 then (f_X12_judge_L18 a1 σ (fun (k10 : Int32) => (some (k10, σ))) ab_fu (0 : Int32)) else (f_X12_error q1 σ).bind (fun q11 => (some (q11.1, q11.2)))))
set_option maxRecDepth 100000 in
set_option maxHeartbeats 4000000 in
theorem e_X12_judge {sc : Nat × (Nat → Int32)} {r : Option Nat × Option Nat} {a1 : Int32} {σ : ab_F} {res : (Int32 × ab_F)} (h : f_X12_judge a1 σ = some res) : ab_E mX12_judge 3 sc 0 [some (.ref 85), some (.int a1), none, none] [] (σ, r) (fun v S => v = some (.int res.1) ∧ S = (res.2, r)) := by
  unfold f_X12_judge at h
  refine z_aload_n (pc2 := 1) rfl dX12_judge_0 rfl ?_
  refine z_iload_n (pc2 := 2) rfl dX12_judge_1 rfl ?_
  obtain ⟨q1, hq1, h⟩ := ab_bnd h
  refine z_callVi 85 [.int a1] [some (.ref 85), some (.int a1)] (pc2 := 5) rfl rfl dX12_judge_2 ok_X12_lacks ⟨fun _ => rfl, fun _ => Nat.le_of_ble_eq_true rfl⟩ rfl rv_85 wd_1378 wd_1380 wd_58 rfl (e_X12_lacks hq1) ?_
  refine z_istore_n (pc2 := 6) (L2 := [some (.ref 85), some (.int a1), some (.int q1), none]) rfl dX12_judge_5 (by decide) rfl rfl ?_
  refine z_iload_n (pc2 := 7) rfl dX12_judge_6 rfl ?_
  refine z_if_eq (pc2 := 10) (tgt := 16) rfl dX12_judge_7 (by decide) (fun hc2 => ?_) (fun hc2 => ?_)
  · replace h := ab_pos hc2 h
    refine z_iconst (pc2 := 17) rfl dX12_judge_16 lt_i_0 ?_
    refine z_istore_n (pc2 := 18) (L2 := [some (.ref 85), some (.int a1), some (.int q1), some (.int (0 : Int32))]) rfl dX12_judge_17 (by decide) rfl rfl ?_
    refine z_fgt [true, true, false, true] (L2 := [some (.ref 85), some (.int a1), none, some (.int (0 : Int32))]) rfl ?_
    refine e_X12_judge_L18 (fun k10 h => ?_) _ _ h
    refine z_iload_n (pc2 := 64) rfl dX12_judge_63 rfl ?_
    exact z_iret dX12_judge_64 rfl rfl (fi_w h)
  · replace h := ab_neg hc2 h
    refine z_aload_n (pc2 := 11) rfl dX12_judge_10 rfl ?_
    refine z_iload_n (pc2 := 12) rfl dX12_judge_11 rfl ?_
    obtain ⟨q11, hq11, h⟩ := ab_bnd h
    refine z_callVi 85 [.int q1] [some (.ref 85), some (.int q1)] (pc2 := 15) rfl rfl dX12_judge_12 ok_X12_error ⟨fun _ => rfl, fun _ => Nat.le_of_ble_eq_true rfl⟩ rfl rv_85 wd_1045 wd_1047 wd_16 rfl (e_X12_error hq11) ?_
    exact z_iret dX12_judge_15 rfl rfl (fi_w h)
def f_X12_copyAll_86_87_L2 (K : ab_F → Option ab_F) : Nat → Int32 → ab_F → Option ab_F
  | 0, _, _ => none
  | n + 1, u2, σ => (if (450 : Int32) ≤ u2 then (K σ) else ab_ck (ab_ib u2 450) (ab_ck (ab_ib u2 450) (ab_lt (ab_u σ 87 (u2).toNatClampNeg (σ 86 (u2).toNatClampNeg)) (fun (s4 : ab_F) => ab_lt (u2 + (1 : Int32)) (fun x5 => (f_X12_copyAll_86_87_L2 K n x5 s4))))))
set_option maxRecDepth 100000 in
set_option maxHeartbeats 4000000 in
theorem e_X12_copyAll_86_87_L2 {sc : Nat × (Nat → Int32)} {r : Option Nat × Option Nat} {K : ab_F → Option ab_F} {res : ab_F} (hK : ∀ (σ : ab_F), K σ = some res → ab_E mX12_copyAll 0 sc 21 [none, none, none] [] (σ, r) (fun v S => v = none ∧ S = (res, r))) : ∀ (n : Nat) (u2 : Int32) (σ : ab_F), f_X12_copyAll_86_87_L2 K n u2 σ = some res → ab_E mX12_copyAll 0 sc 2 [some (.ref 86), some (.ref 87), some (.int u2)] [] (σ, r) (fun v S => v = none ∧ S = (res, r)) := by
  intro n
  induction n with
  | zero =>
    intro u2 σ h
    rw [f_X12_copyAll_86_87_L2] at h
    cases h
  | succ n ih =>
    intro u2 σ h
    rw [f_X12_copyAll_86_87_L2] at h
    refine z_iload_n (pc2 := 3) rfl dX12_copyAll_2 rfl ?_
    refine z_sipush (pc2 := 6) rfl dX12_copyAll_3 lt_s_450 ?_
    refine z_icmp_ge (pc2 := 9) (tgt := 21) rfl dX12_copyAll_6 (by decide) (fun hc1 => ?_) (fun hc1 => ?_)
    · replace h := ab_pos hc1 h
      refine z_fgt [false, false, false] (L2 := [none, none, none]) rfl ?_
      exact hK  _ h
    · replace h := ab_neg hc1 h
      refine z_aload_n (pc2 := 10) rfl dX12_copyAll_9 rfl ?_
      refine z_iload_n (pc2 := 11) rfl dX12_copyAll_10 rfl ?_
      refine z_aload_n (pc2 := 12) rfl dX12_copyAll_11 rfl ?_
      refine z_iload_n (pc2 := 13) rfl dX12_copyAll_12 rfl ?_
      obtain ⟨hb2, h⟩ := ab_ck_e h
      refine z_iald 86 (pc2 := 14) (j := (u2).toNatClampNeg) rfl dX12_copyAll_13 rfl rfl hb2 rfl ?_
      obtain ⟨hb3, h⟩ := ab_ck_e h
      refine z_iast 87 (pc2 := 15) (j := (u2).toNatClampNeg) rfl dX12_copyAll_14 rfl rfl hb3 rfl ?_
      obtain ⟨s4, hs4, h⟩ := ab_lt_e h
      refine z_tops hs4 ?_
      obtain ⟨x5, hxx5, h⟩ := ab_lt_e h
      refine z_iinc (pc2 := 18) (v := x5) (L2 := [some (.ref 86), some (.ref 87), some (.int x5)]) rfl dX12_copyAll_15 rfl (by rw [hxx5]; rfl) (by decide) rfl rfl ?_
      refine ab_goto (tgt := 2) dX12_copyAll_18 (by decide) ?_
      refine z_fgt [true, true, true] (L2 := [some (.ref 86), some (.ref 87), some (.int x5)]) rfl ?_
      exact ih _ _ h
def f_X12_copyAll_86_87 (σ : ab_F) : Option ab_F := (f_X12_copyAll_86_87_L2 (fun (s6 : ab_F) => (some s6)) ab_fu (0 : Int32) σ)
set_option maxRecDepth 100000 in
set_option maxHeartbeats 4000000 in
theorem e_X12_copyAll_86_87 {sc : Nat × (Nat → Int32)} {r : Option Nat × Option Nat} {σ : ab_F} {res : ab_F} (h : f_X12_copyAll_86_87 σ = some res) : ab_E mX12_copyAll 0 sc 0 [some (.ref 86), some (.ref 87), none] [] (σ, r) (fun v S => v = none ∧ S = (res, r)) := by
  unfold f_X12_copyAll_86_87 at h
  refine z_iconst (pc2 := 1) rfl dX12_copyAll_0 lt_i_0 ?_
  refine z_istore_n (pc2 := 2) (L2 := [some (.ref 86), some (.ref 87), some (.int (0 : Int32))]) rfl dX12_copyAll_1 (by decide) rfl rfl ?_
  refine z_fgt [true, true, true] (L2 := [some (.ref 86), some (.ref 87), some (.int (0 : Int32))]) rfl ?_
  refine e_X12_copyAll_86_87_L2 (fun s6 h => ?_) _ _ _ h
  exact z_vret dX12_copyAll_21 rfl (fv_w h)
def f_X12_image (σ : ab_F) : Option (Int32 × ab_F) := (f_X12_copyAll_86_87 σ).bind (fun q1 => ab_lt (ab_u q1 85 3 ((q1 85 3) + (1 : Int32))) (fun (s2 : ab_F) => (some ((s2 85 3), s2))))
set_option maxRecDepth 100000 in
set_option maxHeartbeats 4000000 in
theorem e_X12_image {sc : Nat × (Nat → Int32)} {r : Option Nat × Option Nat} {σ : ab_F} {res : (Int32 × ab_F)} (h : f_X12_image σ = some res) : ab_E mX12_image 1 sc 0 [some (.ref 85)] [] (σ, r) (fun v S => v = some (.int res.1) ∧ S = (res.2, r)) := by
  unfold f_X12_image at h
  refine z_aload_n (pc2 := 1) rfl dX12_image_0 rfl ?_
  refine z_getR 85 12 0 86 (pc2 := 4) rfl dX12_image_1 rfl rfl ff_12_0 wd_977 rfl ?_
  refine z_aload_n (pc2 := 5) rfl dX12_image_4 rfl ?_
  refine z_getR 85 12 1 87 (pc2 := 8) rfl dX12_image_5 rfl rfl ff_12_1 wd_978 rfl ?_
  obtain ⟨q1, hq1, h⟩ := ab_bnd h
  refine z_callSv [.ref 86, .ref 87] [some (.ref 86), some (.ref 87), none] (pc2 := 11) rfl rfl dX12_image_8 ok_X12_copyAll ⟨fun _ => rfl, fun _ => Nat.le_of_ble_eq_true rfl⟩ rfl wd_1390 wd_1391 rfl (e_X12_copyAll_86_87 hq1) ?_
  refine z_aload_n (pc2 := 12) rfl dX12_image_11 rfl ?_
  refine z_dup (pc2 := 13) rfl dX12_image_12 rfl ?_
  refine z_getI 85 12 3 (pc2 := 16) rfl dX12_image_13 rfl rfl ff_12_3 wd_980 ?_
  refine z_iconst (pc2 := 17) rfl dX12_image_16 lt_i_1 ?_
  refine z_iadd (pc2 := 18) rfl dX12_image_17 ?_
  refine z_putI 85 12 3 (pc2 := 21) (ft := .int) rfl dX12_image_18 rfl rfl ff_12_3 wd_980 rfl (by decide +kernel) rfl rfl ?_
  obtain ⟨s2, hs2, h⟩ := ab_lt_e h
  refine z_tops hs2 ?_
  refine z_aload_n (pc2 := 22) rfl dX12_image_21 rfl ?_
  refine z_getI 85 12 3 (pc2 := 25) rfl dX12_image_22 rfl rfl ff_12_3 wd_980 ?_
  exact z_iret dX12_image_25 rfl rfl (fi_w h)
def f_X12_copyAll_87_86_L2 (K : ab_F → Option ab_F) : Nat → Int32 → ab_F → Option ab_F
  | 0, _, _ => none
  | n + 1, u2, σ => (if (450 : Int32) ≤ u2 then (K σ) else ab_ck (ab_ib u2 450) (ab_ck (ab_ib u2 450) (ab_lt (ab_u σ 86 (u2).toNatClampNeg (σ 87 (u2).toNatClampNeg)) (fun (s4 : ab_F) => ab_lt (u2 + (1 : Int32)) (fun x5 => (f_X12_copyAll_87_86_L2 K n x5 s4))))))
set_option maxRecDepth 100000 in
set_option maxHeartbeats 4000000 in
theorem e_X12_copyAll_87_86_L2 {sc : Nat × (Nat → Int32)} {r : Option Nat × Option Nat} {K : ab_F → Option ab_F} {res : ab_F} (hK : ∀ (σ : ab_F), K σ = some res → ab_E mX12_copyAll 0 sc 21 [none, none, none] [] (σ, r) (fun v S => v = none ∧ S = (res, r))) : ∀ (n : Nat) (u2 : Int32) (σ : ab_F), f_X12_copyAll_87_86_L2 K n u2 σ = some res → ab_E mX12_copyAll 0 sc 2 [some (.ref 87), some (.ref 86), some (.int u2)] [] (σ, r) (fun v S => v = none ∧ S = (res, r)) := by
  intro n
  induction n with
  | zero =>
    intro u2 σ h
    rw [f_X12_copyAll_87_86_L2] at h
    cases h
  | succ n ih =>
    intro u2 σ h
    rw [f_X12_copyAll_87_86_L2] at h
    refine z_iload_n (pc2 := 3) rfl dX12_copyAll_2 rfl ?_
    refine z_sipush (pc2 := 6) rfl dX12_copyAll_3 lt_s_450 ?_
    refine z_icmp_ge (pc2 := 9) (tgt := 21) rfl dX12_copyAll_6 (by decide) (fun hc1 => ?_) (fun hc1 => ?_)
    · replace h := ab_pos hc1 h
      refine z_fgt [false, false, false] (L2 := [none, none, none]) rfl ?_
      exact hK  _ h
    · replace h := ab_neg hc1 h
      refine z_aload_n (pc2 := 10) rfl dX12_copyAll_9 rfl ?_
      refine z_iload_n (pc2 := 11) rfl dX12_copyAll_10 rfl ?_
      refine z_aload_n (pc2 := 12) rfl dX12_copyAll_11 rfl ?_
      refine z_iload_n (pc2 := 13) rfl dX12_copyAll_12 rfl ?_
      obtain ⟨hb2, h⟩ := ab_ck_e h
      refine z_iald 87 (pc2 := 14) (j := (u2).toNatClampNeg) rfl dX12_copyAll_13 rfl rfl hb2 rfl ?_
      obtain ⟨hb3, h⟩ := ab_ck_e h
      refine z_iast 86 (pc2 := 15) (j := (u2).toNatClampNeg) rfl dX12_copyAll_14 rfl rfl hb3 rfl ?_
      obtain ⟨s4, hs4, h⟩ := ab_lt_e h
      refine z_tops hs4 ?_
      obtain ⟨x5, hxx5, h⟩ := ab_lt_e h
      refine z_iinc (pc2 := 18) (v := x5) (L2 := [some (.ref 87), some (.ref 86), some (.int x5)]) rfl dX12_copyAll_15 rfl (by rw [hxx5]; rfl) (by decide) rfl rfl ?_
      refine ab_goto (tgt := 2) dX12_copyAll_18 (by decide) ?_
      refine z_fgt [true, true, true] (L2 := [some (.ref 87), some (.ref 86), some (.int x5)]) rfl ?_
      exact ih _ _ h
def f_X12_copyAll_87_86 (σ : ab_F) : Option ab_F := (f_X12_copyAll_87_86_L2 (fun (s6 : ab_F) => (some s6)) ab_fu (0 : Int32) σ)
set_option maxRecDepth 100000 in
set_option maxHeartbeats 4000000 in
theorem e_X12_copyAll_87_86 {sc : Nat × (Nat → Int32)} {r : Option Nat × Option Nat} {σ : ab_F} {res : ab_F} (h : f_X12_copyAll_87_86 σ = some res) : ab_E mX12_copyAll 0 sc 0 [some (.ref 87), some (.ref 86), none] [] (σ, r) (fun v S => v = none ∧ S = (res, r)) := by
  unfold f_X12_copyAll_87_86 at h
  refine z_iconst (pc2 := 1) rfl dX12_copyAll_0 lt_i_0 ?_
  refine z_istore_n (pc2 := 2) (L2 := [some (.ref 87), some (.ref 86), some (.int (0 : Int32))]) rfl dX12_copyAll_1 (by decide) rfl rfl ?_
  refine z_fgt [true, true, true] (L2 := [some (.ref 87), some (.ref 86), some (.int (0 : Int32))]) rfl ?_
  refine e_X12_copyAll_87_86_L2 (fun s6 h => ?_) _ _ _ h
  exact z_vret dX12_copyAll_21 rfl (fv_w h)
def f_X12_restore (σ : ab_F) : Option (Int32 × ab_F) := (if (σ 85 3) = 0 then (f_X12_error (2 : Int32) σ).bind (fun q3 => (some (q3.1, q3.2))) else (f_X12_copyAll_87_86 σ).bind (fun q2 => (some ((q2 86 0), q2))))
set_option maxRecDepth 100000 in
set_option maxHeartbeats 4000000 in
theorem e_X12_restore {sc : Nat × (Nat → Int32)} {r : Option Nat × Option Nat} {σ : ab_F} {res : (Int32 × ab_F)} (h : f_X12_restore σ = some res) : ab_E mX12_restore 1 sc 0 [some (.ref 85)] [] (σ, r) (fun v S => v = some (.int res.1) ∧ S = (res.2, r)) := by
  unfold f_X12_restore at h
  refine z_aload_n (pc2 := 1) rfl dX12_restore_0 rfl ?_
  refine z_getI 85 12 3 (pc2 := 4) rfl dX12_restore_1 rfl rfl ff_12_3 wd_980 ?_
  refine z_if_ne (pc2 := 7) (tgt := 13) rfl dX12_restore_4 (by decide) (fun hc1 => ?_) (fun hc1 => ?_)
  · replace h := ab_neg hc1 h
    refine z_aload_n (pc2 := 14) rfl dX12_restore_13 rfl ?_
    refine z_getR 85 12 1 87 (pc2 := 17) rfl dX12_restore_14 rfl rfl ff_12_1 wd_978 rfl ?_
    refine z_aload_n (pc2 := 18) rfl dX12_restore_17 rfl ?_
    refine z_getR 85 12 0 86 (pc2 := 21) rfl dX12_restore_18 rfl rfl ff_12_0 wd_977 rfl ?_
    obtain ⟨q2, hq2, h⟩ := ab_bnd h
    refine z_callSv [.ref 87, .ref 86] [some (.ref 87), some (.ref 86), none] (pc2 := 24) rfl rfl dX12_restore_21 ok_X12_copyAll ⟨fun _ => rfl, fun _ => Nat.le_of_ble_eq_true rfl⟩ rfl wd_1390 wd_1391 rfl (e_X12_copyAll_87_86 hq2) ?_
    refine z_aload_n (pc2 := 25) rfl dX12_restore_24 rfl ?_
    refine z_getR 85 12 0 86 (pc2 := 28) rfl dX12_restore_25 rfl rfl ff_12_0 wd_977 rfl ?_
    refine z_iconst (pc2 := 29) rfl dX12_restore_28 lt_i_0 ?_
    refine z_iald 86 (pc2 := 30) (j := 0) rfl dX12_restore_29 rfl rfl (by decide) (by decide) ?_
    exact z_iret dX12_restore_30 rfl rfl (fi_w h)
  · replace h := ab_pos hc1 h
    refine z_aload_n (pc2 := 8) rfl dX12_restore_7 rfl ?_
    refine z_iconst (pc2 := 9) rfl dX12_restore_8 lt_i_2 ?_
    obtain ⟨q3, hq3, h⟩ := ab_bnd h
    refine z_callVi 85 [.int (2 : Int32)] [some (.ref 85), some (.int (2 : Int32))] (pc2 := 12) rfl rfl dX12_restore_9 ok_X12_error ⟨fun _ => rfl, fun _ => Nat.le_of_ble_eq_true rfl⟩ rfl rv_85 wd_1045 wd_1047 wd_16 rfl (e_X12_error hq3) ?_
    exact z_iret dX12_restore_12 rfl rfl (fi_w h)
def f_X12_tell (a1 : Int32) (σ : ab_F) : Option (Int32 × ab_F) := (if (σ 86 4) = (24 : Int32) then (f_X12_error (4 : Int32) σ).bind (fun q5 => (some (q5.1, q5.2))) else ab_ck (ab_ib ((426 : Int32) + (σ 86 4)) 450) (ab_lt (ab_u σ 86 (((426 : Int32) + (σ 86 4))).toNatClampNeg a1) (fun (s3 : ab_F) => ab_lt (ab_u s3 86 4 ((s3 86 4) + (1 : Int32))) (fun (s4 : ab_F) => (some ((s4 86 4), s4))))))
set_option maxRecDepth 100000 in
set_option maxHeartbeats 4000000 in
theorem e_X12_tell {sc : Nat × (Nat → Int32)} {r : Option Nat × Option Nat} {a1 : Int32} {σ : ab_F} {res : (Int32 × ab_F)} (h : f_X12_tell a1 σ = some res) : ab_E mX12_tell 1 sc 0 [some (.ref 85), some (.int a1)] [] (σ, r) (fun v S => v = some (.int res.1) ∧ S = (res.2, r)) := by
  unfold f_X12_tell at h
  refine z_aload_n (pc2 := 1) rfl dX12_tell_0 rfl ?_
  refine z_getR 85 12 0 86 (pc2 := 4) rfl dX12_tell_1 rfl rfl ff_12_0 wd_977 rfl ?_
  refine z_iconst (pc2 := 5) rfl dX12_tell_4 lt_i_4 ?_
  refine z_iald 86 (pc2 := 6) (j := 4) rfl dX12_tell_5 rfl rfl (by decide) (by decide) ?_
  refine z_bipush (pc2 := 8) rfl dX12_tell_6 lt_b_24 ?_
  refine z_icmp_ne (pc2 := 11) (tgt := 17) rfl dX12_tell_8 (by decide) (fun hc1 => ?_) (fun hc1 => ?_)
  · replace h := ab_neg hc1 h
    refine z_aload_n (pc2 := 18) rfl dX12_tell_17 rfl ?_
    refine z_getR 85 12 0 86 (pc2 := 21) rfl dX12_tell_18 rfl rfl ff_12_0 wd_977 rfl ?_
    refine z_sipush (pc2 := 24) rfl dX12_tell_21 lt_s_426 ?_
    refine z_aload_n (pc2 := 25) rfl dX12_tell_24 rfl ?_
    refine z_getR 85 12 0 86 (pc2 := 28) rfl dX12_tell_25 rfl rfl ff_12_0 wd_977 rfl ?_
    refine z_iconst (pc2 := 29) rfl dX12_tell_28 lt_i_4 ?_
    refine z_iald 86 (pc2 := 30) (j := 4) rfl dX12_tell_29 rfl rfl (by decide) (by decide) ?_
    refine z_iadd (pc2 := 31) rfl dX12_tell_30 ?_
    refine z_iload_n (pc2 := 32) rfl dX12_tell_31 rfl ?_
    obtain ⟨hb2, h⟩ := ab_ck_e h
    refine z_iast 86 (pc2 := 33) (j := (((426 : Int32) + (σ 86 4))).toNatClampNeg) rfl dX12_tell_32 rfl rfl hb2 rfl ?_
    obtain ⟨s3, hs3, h⟩ := ab_lt_e h
    refine z_tops hs3 ?_
    refine z_aload_n (pc2 := 34) rfl dX12_tell_33 rfl ?_
    refine z_getR 85 12 0 86 (pc2 := 37) rfl dX12_tell_34 rfl rfl ff_12_0 wd_977 rfl ?_
    refine z_iconst (pc2 := 38) rfl dX12_tell_37 lt_i_4 ?_
    refine z_dup2 (pc2 := 39) rfl dX12_tell_38 rfl rfl ?_
    refine z_iald 86 (pc2 := 40) (j := 4) rfl dX12_tell_39 rfl rfl (by decide) (by decide) ?_
    refine z_iconst (pc2 := 41) rfl dX12_tell_40 lt_i_1 ?_
    refine z_iadd (pc2 := 42) rfl dX12_tell_41 ?_
    refine z_iast 86 (pc2 := 43) (j := 4) rfl dX12_tell_42 rfl rfl (by decide) (by decide) ?_
    obtain ⟨s4, hs4, h⟩ := ab_lt_e h
    refine z_tops hs4 ?_
    refine z_aload_n (pc2 := 44) rfl dX12_tell_43 rfl ?_
    refine z_getR 85 12 0 86 (pc2 := 47) rfl dX12_tell_44 rfl rfl ff_12_0 wd_977 rfl ?_
    refine z_iconst (pc2 := 48) rfl dX12_tell_47 lt_i_4 ?_
    refine z_iald 86 (pc2 := 49) (j := 4) rfl dX12_tell_48 rfl rfl (by decide) (by decide) ?_
    exact z_iret dX12_tell_49 rfl rfl (fi_w h)
  · replace h := ab_pos hc1 h
    refine z_aload_n (pc2 := 12) rfl dX12_tell_11 rfl ?_
    refine z_iconst (pc2 := 13) rfl dX12_tell_12 lt_i_4 ?_
    obtain ⟨q5, hq5, h⟩ := ab_bnd h
    refine z_callVi 85 [.int (4 : Int32)] [some (.ref 85), some (.int (4 : Int32))] (pc2 := 16) rfl rfl dX12_tell_13 ok_X12_error ⟨fun _ => rfl, fun _ => Nat.le_of_ble_eq_true rfl⟩ rfl rv_85 wd_1045 wd_1047 wd_16 rfl (e_X12_error hq5) ?_
    exact z_iret dX12_tell_16 rfl rfl (fi_w h)
def f_X12_check_L16 (p1 : Int32) (K : ab_F → Option (Int32 × ab_F)) : Nat → Int32 → ab_F → Option (Int32 × ab_F)
  | 0, _, _ => none
  | n + 1, u2, σ => (if p1 ≤ u2 then (K σ) else (f_X12_isOne u2 σ).bind (fun q4 => (if (ab_b q4) = 0 then (some (((1 : Int32) + u2), σ)) else ab_ck (ab_ib ((426 : Int32) + u2) 450) ((f_X12_madeNow u2 σ).bind (fun q7 => (if (σ 86 (((426 : Int32) + u2)).toNatClampNeg) = q7.1 then ab_lt (u2 + (1 : Int32)) (fun x9 => (f_X12_check_L16 p1 K n x9 q7.2)) else (some (((1 : Int32) + u2), q7.2))))))))
set_option maxRecDepth 100000 in
set_option maxHeartbeats 4000000 in
theorem e_X12_check_L16 {sc : Nat × (Nat → Int32)} {r : Option Nat × Option Nat} {p1 : Int32} {K : ab_F → Option (Int32 × ab_F)} {res : (Int32 × ab_F)} (hK : ∀ (σ : ab_F), K σ = some res → ab_E mX12_check 4 sc 57 [none, none, none] [] (σ, r) (fun v S => v = some (.int res.1) ∧ S = (res.2, r))) : ∀ (n : Nat) (u2 : Int32) (σ : ab_F), f_X12_check_L16 p1 K n u2 σ = some res → ab_E mX12_check 4 sc 16 [some (.ref 85), some (.int p1), some (.int u2)] [] (σ, r) (fun v S => v = some (.int res.1) ∧ S = (res.2, r)) := by
  intro n
  induction n with
  | zero =>
    intro u2 σ h
    rw [f_X12_check_L16] at h
    cases h
  | succ n ih =>
    intro u2 σ h
    rw [f_X12_check_L16] at h
    refine z_iload_n (pc2 := 17) rfl dX12_check_16 rfl ?_
    refine z_iload_n (pc2 := 18) rfl dX12_check_17 rfl ?_
    refine z_icmp_ge (pc2 := 21) (tgt := 57) rfl dX12_check_18 (by decide) (fun hc3 => ?_) (fun hc3 => ?_)
    · replace h := ab_pos hc3 h
      refine z_fgt [false, false, false] (L2 := [none, none, none]) rfl ?_
      exact hK  _ h
    · replace h := ab_neg hc3 h
      refine z_aload_n (pc2 := 22) rfl dX12_check_21 rfl ?_
      refine z_iload_n (pc2 := 23) rfl dX12_check_22 rfl ?_
      obtain ⟨q4, hq4, h⟩ := ab_bnd h
      refine z_callVi 85 [.int u2] [some (.ref 85), some (.int u2)] (pc2 := 26) rfl rfl dX12_check_23 ok_X12_isOne ⟨fun _ => rfl, fun _ => Nat.le_of_ble_eq_true rfl⟩ rfl rv_85 wd_1121 wd_1123 wd_29 rfl (e_X12_isOne hq4) ?_
      refine z_if_eq (pc2 := 29) (tgt := 47) rfl dX12_check_26 (by decide) (fun hc5 => ?_) (fun hc5 => ?_)
      · replace h := ab_pos hc5 h
        refine z_iconst (pc2 := 48) rfl dX12_check_47 lt_i_1 ?_
        refine z_iload_n (pc2 := 49) rfl dX12_check_48 rfl ?_
        refine z_iadd (pc2 := 50) rfl dX12_check_49 ?_
        exact z_iret dX12_check_50 rfl rfl (fi_w h)
      · replace h := ab_neg hc5 h
        refine z_aload_n (pc2 := 30) rfl dX12_check_29 rfl ?_
        refine z_getR 85 12 0 86 (pc2 := 33) rfl dX12_check_30 rfl rfl ff_12_0 wd_977 rfl ?_
        refine z_sipush (pc2 := 36) rfl dX12_check_33 lt_s_426 ?_
        refine z_iload_n (pc2 := 37) rfl dX12_check_36 rfl ?_
        refine z_iadd (pc2 := 38) rfl dX12_check_37 ?_
        obtain ⟨hb6, h⟩ := ab_ck_e h
        refine z_iald 86 (pc2 := 39) (j := (((426 : Int32) + u2)).toNatClampNeg) rfl dX12_check_38 rfl rfl hb6 rfl ?_
        refine z_aload_n (pc2 := 40) rfl dX12_check_39 rfl ?_
        refine z_iload_n (pc2 := 41) rfl dX12_check_40 rfl ?_
        obtain ⟨q7, hq7, h⟩ := ab_bnd h
        refine z_callVi 85 [.int u2] [some (.ref 85), some (.int u2)] (pc2 := 44) rfl rfl dX12_check_41 ok_X12_madeNow ⟨fun _ => rfl, fun _ => Nat.le_of_ble_eq_true rfl⟩ rfl rv_85 wd_1165 wd_1167 wd_37 rfl (e_X12_madeNow hq7) ?_
        refine z_icmp_eq (pc2 := 47) (tgt := 51) rfl dX12_check_44 (by decide) (fun hc8 => ?_) (fun hc8 => ?_)
        · replace h := ab_pos hc8 h
          obtain ⟨x9, hxx9, h⟩ := ab_lt_e h
          refine z_iinc (pc2 := 54) (v := x9) (L2 := [some (.ref 85), some (.int p1), some (.int x9)]) rfl dX12_check_51 rfl (by rw [hxx9]; rfl) (by decide) rfl rfl ?_
          refine ab_goto (tgt := 16) dX12_check_54 (by decide) ?_
          refine z_fgt [true, true, true] (L2 := [some (.ref 85), some (.int p1), some (.int x9)]) rfl ?_
          exact ih _ _ h
        · replace h := ab_neg hc8 h
          refine z_iconst (pc2 := 48) rfl dX12_check_47 lt_i_1 ?_
          refine z_iload_n (pc2 := 49) rfl dX12_check_48 rfl ?_
          refine z_iadd (pc2 := 50) rfl dX12_check_49 ?_
          exact z_iret dX12_check_50 rfl rfl (fi_w h)
