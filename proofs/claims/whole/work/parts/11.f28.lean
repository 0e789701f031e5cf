def f_X12_fits_L55 (p1 : Int32) (p2 : Int32) (p3 : Int32) (K : Int32 → ab_F → Option (Int32 × ab_F)) : Nat → Int32 → Int32 → ab_F → Option (Int32 × ab_F)
  | 0, _, _, _ => none
  | n + 1, u4, u5, σ => (if (6 : Int32) < u5 then (K u4 σ) else (f_X12_lays1 p2 (0 : Int32) u5 σ).bind (fun q13 => (f_X12_fits_L76 p1 p2 p3 u4 u5 (fun (k24 : Int32) (s25 : ab_F) => (f_X12_putsBack s25).bind (fun q26 => (if k24 = 0 then ab_lt ((u4 ||| (0 : Int32))) (fun x28 => ab_lt (u5 + (1 : Int32)) (fun x29 => (f_X12_fits_L55 p1 p2 p3 K n x28 x29 q26))) else ab_lt ((u4 ||| ((1 : Int32) <<< (u5 &&& 31)))) (fun x30 => ab_lt (u5 + (1 : Int32)) (fun x31 => (f_X12_fits_L55 p1 p2 p3 K n x30 x31 q26)))))) ab_fu (1 : Int32) (0 : Int32) q13)))
set_option maxRecDepth 100000 in
set_option maxHeartbeats 4000000 in
theorem e_X12_fits_L55 {sc : Nat × (Nat → Int32)} {r : Option Nat × Option Nat} {p1 : Int32} {p2 : Int32} {p3 : Int32} {K : Int32 → ab_F → Option (Int32 × ab_F)} {res : (Int32 × ab_F)} (hK : ∀ (u4 : Int32) (σ : ab_F), K u4 σ = some res → ab_E mX12_fits 6 sc 158 [none, none, none, some (.int p3), some (.int u4), none, none, none] [] (σ, r) (fun v S => v = some (.int res.1) ∧ S = (res.2, r))) : ∀ (n : Nat) (u4 : Int32) (u5 : Int32) (σ : ab_F), f_X12_fits_L55 p1 p2 p3 K n u4 u5 σ = some res → ab_E mX12_fits 6 sc 55 [some (.ref 85), some (.int p1), some (.int p2), some (.int p3), some (.int u4), some (.int u5), none, none] [] (σ, r) (fun v S => v = some (.int res.1) ∧ S = (res.2, r)) := by
  intro n
  induction n with
  | zero =>
    intro u4 u5 σ h
    rw [f_X12_fits_L55] at h
    cases h
  | succ n ih =>
    intro u4 u5 σ h
    rw [f_X12_fits_L55] at h
    refine z_iload (pc2 := 57) rfl dX12_fits_55 rfl ?_
    refine z_bipush (pc2 := 59) rfl dX12_fits_57 lt_b_6 ?_
    refine z_icmp_gt (pc2 := 62) (tgt := 158) rfl dX12_fits_59 (by decide) (fun hc12 => ?_) (fun hc12 => ?_)
    · replace h := ab_pos hc12 h
      refine z_fgt [false, false, false, true, true, false, false, false] (L2 := [none, none, none, some (.int p3), some (.int u4), none, none, none]) rfl ?_
      exact hK _ _ h
    · replace h := ab_neg hc12 h
      refine z_aload_n (pc2 := 63) rfl dX12_fits_62 rfl ?_
      refine z_iload_n (pc2 := 64) rfl dX12_fits_63 rfl ?_
      refine z_iconst (pc2 := 65) rfl dX12_fits_64 lt_i_0 ?_
      refine z_iload (pc2 := 67) rfl dX12_fits_65 rfl ?_
      obtain ⟨q13, hq13, h⟩ := ab_bnd h
      refine z_callVv 85 [.int p2, .int (0 : Int32), .int u5] [some (.ref 85), some (.int p2), some (.int (0 : Int32)), some (.int u5)] (pc2 := 70) rfl rfl dX12_fits_67 ok_X12_lays1 ⟨fun _ => rfl, fun _ => Nat.le_of_ble_eq_true rfl⟩ rfl rv_85 wd_1113 wd_1115 wd_28 rfl (e_X12_lays1 hq13) ?_
      refine z_iconst (pc2 := 71) rfl dX12_fits_70 lt_i_1 ?_
      refine z_istore (pc2 := 73) (L2 := [some (.ref 85), some (.int p1), some (.int p2), some (.int p3), some (.int u4), some (.int u5), some (.int (1 : Int32)), none]) rfl dX12_fits_71 (by decide) rfl rfl ?_
      refine z_iconst (pc2 := 74) rfl dX12_fits_73 lt_i_0 ?_
      refine z_istore (pc2 := 76) (L2 := [some (.ref 85), some (.int p1), some (.int p2), some (.int p3), some (.int u4), some (.int u5), some (.int (1 : Int32)), some (.int (0 : Int32))]) rfl dX12_fits_74 (by decide) rfl rfl ?_
      refine z_fgt [true, true, true, true, true, true, true, true] (L2 := [some (.ref 85), some (.int p1), some (.int p2), some (.int p3), some (.int u4), some (.int u5), some (.int (1 : Int32)), some (.int (0 : Int32))]) rfl ?_
      refine e_X12_fits_L76 (fun k24 s25 h => ?_) _ _ _ _ h
      refine z_aload_n (pc2 := 131) rfl dX12_fits_130 rfl ?_
      obtain ⟨q26, hq26, h⟩ := ab_bnd h
      refine z_callVv 85 [] [some (.ref 85), none] (pc2 := 134) rfl rfl dX12_fits_131 ok_X12_putsBack ⟨fun _ => rfl, fun _ => Nat.le_of_ble_eq_true rfl⟩ rfl rv_85 wd_1280 wd_1282 wd_50 rfl (e_X12_putsBack hq26) ?_
      refine z_iload (pc2 := 136) rfl dX12_fits_134 rfl ?_
      refine z_iload (pc2 := 138) rfl dX12_fits_136 rfl ?_
      refine z_if_eq (pc2 := 141) (tgt := 148) rfl dX12_fits_138 (by decide) (fun hc27 => ?_) (fun hc27 => ?_)
      · replace h := ab_pos hc27 h
        refine z_iconst (pc2 := 149) rfl dX12_fits_148 lt_i_0 ?_
        refine z_ior (pc2 := 150) rfl dX12_fits_149 ?_
        obtain ⟨x28, hxx28, h⟩ := ab_lt_e h
        refine z_top hxx28 ?_
        refine z_istore (pc2 := 152) (L2 := [some (.ref 85), some (.int p1), some (.int p2), some (.int p3), some (.int x28), some (.int u5), some (.int k24), none]) rfl dX12_fits_150 (by decide) rfl rfl ?_
        obtain ⟨x29, hxx29, h⟩ := ab_lt_e h
        refine z_iinc (pc2 := 155) (v := x29) (L2 := [some (.ref 85), some (.int p1), some (.int p2), some (.int p3), some (.int x28), some (.int x29), some (.int k24), none]) rfl dX12_fits_152 rfl (by rw [hxx29]; rfl) (by decide) rfl rfl ?_
        refine ab_goto (tgt := 55) dX12_fits_155 (by decide) ?_
        refine z_fgt [true, true, true, true, true, true, false, false] (L2 := [some (.ref 85), some (.int p1), some (.int p2), some (.int p3), some (.int x28), some (.int x29), none, none]) rfl ?_
        exact ih _ _ _ h
      · replace h := ab_neg hc27 h
        refine z_iconst (pc2 := 142) rfl dX12_fits_141 lt_i_1 ?_
        refine z_iload (pc2 := 144) rfl dX12_fits_142 rfl ?_
        refine z_ishl (pc2 := 145) rfl dX12_fits_144 ?_
        refine ab_goto (tgt := 149) dX12_fits_145 (by decide) ?_
        refine z_ior (pc2 := 150) rfl dX12_fits_149 ?_
        obtain ⟨x30, hxx30, h⟩ := ab_lt_e h
        refine z_top hxx30 ?_
        refine z_istore (pc2 := 152) (L2 := [some (.ref 85), some (.int p1), some (.int p2), some (.int p3), some (.int x30), some (.int u5), some (.int k24), none]) rfl dX12_fits_150 (by decide) rfl rfl ?_
        obtain ⟨x31, hxx31, h⟩ := ab_lt_e h
        refine z_iinc (pc2 := 155) (v := x31) (L2 := [some (.ref 85), some (.int p1), some (.int p2), some (.int p3), some (.int x30), some (.int x31), some (.int k24), none]) rfl dX12_fits_152 rfl (by rw [hxx31]; rfl) (by decide) rfl rfl ?_
        refine ab_goto (tgt := 55) dX12_fits_155 (by decide) ?_
        refine z_fgt [true, true, true, true, true, true, false, false] (L2 := [some (.ref 85), some (.int p1), some (.int p2), some (.int p3), some (.int x30), some (.int x31), none, none]) rfl ?_
        exact ih _ _ _ h
def f_X12_fits (a1 : Int32) (a2 : Int32) (a3 : Int32) (σ : ab_F) : Option (Int32 × ab_F) := (f_X12_isSheet a1 σ).bind (fun q1 => (if (ab_b q1) = 0 then (f_X12_error (1 : Int32) σ).bind (fun q3 => (some (q3.1, q3.2))) else (f_X12_isOne a2 σ).bind (fun q4 => (if (ab_b q4) = 0 then (f_X12_error (1 : Int32) σ).bind (fun q6 => (some (q6.1, q6.2))) else (f_X12_in a3 (0 : Int32) (1 : Int32) σ).bind (fun q7 => (if (ab_b q7) = 0 then (f_X12_error (1 : Int32) σ).bind (fun q37 => (some (q37.1, q37.2))) else ab_ck (ab_ib a1 4) ((if (σ 94 (a1).toNatClampNeg) = 0 then (f_X12_error (2 : Int32) σ).bind (fun q36 => (some (q36.1, q36.2))) else (f_X12_saves σ).bind (fun q11 => (f_X12_fits_L55 a1 a2 a3 (fun (k32 : Int32) (s33 : ab_F) => (if a3 = 0 then (some (k32, s33)) else (f_X12_ones k32 s33).bind (fun q35 => (some (q35, s33))))) ab_fu (0 : Int32) (0 : Int32) q11))))))))))
set_option maxRecDepth 100000 in
set_option maxHeartbeats 4000000 in
theorem e_X12_fits {sc : Nat × (Nat → Int32)} {r : Option Nat × Option Nat} {a1 : Int32} {a2 : Int32} {a3 : Int32} {σ : ab_F} {res : (Int32 × ab_F)} (h : f_X12_fits a1 a2 a3 σ = some res) : ab_E mX12_fits 6 sc 0 [some (.ref 85), some (.int a1), some (.int a2), some (.int a3), none, none, none, none] [] (σ, r) (fun v S => v = some (.int res.1) ∧ S = (res.2, r)) := by
  unfold f_X12_fits at h
  refine z_iload_n (pc2 := 1) rfl dX12_fits_0 rfl ?_
  obtain ⟨q1, hq1, h⟩ := ab_bnd h
  refine z_callSi [.int a1] [some (.int a1)] (pc2 := 4) rfl rfl dX12_fits_1 ok_X12_isSheet ⟨fun _ => rfl, fun _ => Nat.le_of_ble_eq_true rfl⟩ rfl wd_1323 wd_1324 rfl (e_X12_isSheet hq1) ?_
  refine z_if_eq (pc2 := 7) (tgt := 24) rfl dX12_fits_4 (by decide) (fun hc2 => ?_) (fun hc2 => ?_)
  · replace h := ab_pos hc2 h
    refine z_aload_n (pc2 := 25) rfl dX12_fits_24 rfl ?_
    refine z_iconst (pc2 := 26) rfl dX12_fits_25 lt_i_1 ?_
    obtain ⟨q3, hq3, h⟩ := ab_bnd h
    refine z_callVi 85 [.int (1 : Int32)] [some (.ref 85), some (.int (1 : Int32))] (pc2 := 29) rfl rfl dX12_fits_26 ok_X12_error ⟨fun _ => rfl, fun _ => Nat.le_of_ble_eq_true rfl⟩ rfl rv_85 wd_1045 wd_1047 wd_16 rfl (e_X12_error hq3) ?_
    exact z_iret dX12_fits_29 rfl rfl (fi_w h)
  · replace h := ab_neg hc2 h
    refine z_aload_n (pc2 := 8) rfl dX12_fits_7 rfl ?_
    refine z_iload_n (pc2 := 9) rfl dX12_fits_8 rfl ?_
    obtain ⟨q4, hq4, h⟩ := ab_bnd h
    refine z_callVi 85 [.int a2] [some (.ref 85), some (.int a2)] (pc2 := 12) rfl rfl dX12_fits_9 ok_X12_isOne ⟨fun _ => rfl, fun _ => Nat.le_of_ble_eq_true rfl⟩ rfl rv_85 wd_1121 wd_1123 wd_29 rfl (e_X12_isOne hq4) ?_
    refine z_if_eq (pc2 := 15) (tgt := 24) rfl dX12_fits_12 (by decide) (fun hc5 => ?_) (fun hc5 => ?_)
    · replace h := ab_pos hc5 h
      refine z_aload_n (pc2 := 25) rfl dX12_fits_24 rfl ?_
      refine z_iconst (pc2 := 26) rfl dX12_fits_25 lt_i_1 ?_
      obtain ⟨q6, hq6, h⟩ := ab_bnd h
      refine z_callVi 85 [.int (1 : Int32)] [some (.ref 85), some (.int (1 : Int32))] (pc2 := 29) rfl rfl dX12_fits_26 ok_X12_error ⟨fun _ => rfl, fun _ => Nat.le_of_ble_eq_true rfl⟩ rfl rv_85 wd_1045 wd_1047 wd_16 rfl (e_X12_error hq6) ?_
      exact z_iret dX12_fits_29 rfl rfl (fi_w h)
    · replace h := ab_neg hc5 h
      refine z_iload_n (pc2 := 16) rfl dX12_fits_15 rfl ?_
      refine z_iconst (pc2 := 17) rfl dX12_fits_16 lt_i_0 ?_
      refine z_iconst (pc2 := 18) rfl dX12_fits_17 lt_i_1 ?_
      obtain ⟨q7, hq7, h⟩ := ab_bnd h
      refine z_callSi [.int a3, .int (0 : Int32), .int (1 : Int32)] [some (.int a3), some (.int (0 : Int32)), some (.int (1 : Int32))] (pc2 := 21) rfl rfl dX12_fits_18 ok_X12_in ⟨fun _ => rfl, fun _ => Nat.le_of_ble_eq_true rfl⟩ rfl wd_1042 wd_1043 rfl (e_X12_in hq7) ?_
      refine z_if_ne (pc2 := 24) (tgt := 30) rfl dX12_fits_21 (by decide) (fun hc8 => ?_) (fun hc8 => ?_)
      · replace h := ab_neg hc8 h
        refine z_aload_n (pc2 := 31) rfl dX12_fits_30 rfl ?_
        refine z_getR 85 12 16 94 (pc2 := 34) rfl dX12_fits_31 rfl rfl ff_12_16 wd_993 rfl ?_
        refine z_iload_n (pc2 := 35) rfl dX12_fits_34 rfl ?_
        obtain ⟨hb9, h⟩ := ab_ck_e h
        refine z_iald 94 (pc2 := 36) (j := (a1).toNatClampNeg) rfl dX12_fits_35 rfl rfl hb9 rfl ?_
        refine z_if_ne (pc2 := 39) (tgt := 45) rfl dX12_fits_36 (by decide) (fun hc10 => ?_) (fun hc10 => ?_)
        · replace h := ab_neg hc10 h
          refine z_iconst (pc2 := 46) rfl dX12_fits_45 lt_i_0 ?_
          refine z_istore (pc2 := 48) (L2 := [some (.ref 85), some (.int a1), some (.int a2), some (.int a3), some (.int (0 : Int32)), none, none, none]) rfl dX12_fits_46 (by decide) rfl rfl ?_
          refine z_aload_n (pc2 := 49) rfl dX12_fits_48 rfl ?_
          obtain ⟨q11, hq11, h⟩ := ab_bnd h
          refine z_callVv 85 [] [some (.ref 85), none] (pc2 := 52) rfl rfl dX12_fits_49 ok_X12_saves ⟨fun _ => rfl, fun _ => Nat.le_of_ble_eq_true rfl⟩ rfl rv_85 wd_1276 wd_1278 wd_49 rfl (e_X12_saves hq11) ?_
          refine z_iconst (pc2 := 53) rfl dX12_fits_52 lt_i_0 ?_
          refine z_istore (pc2 := 55) (L2 := [some (.ref 85), some (.int a1), some (.int a2), some (.int a3), some (.int (0 : Int32)), some (.int (0 : Int32)), none, none]) rfl dX12_fits_53 (by decide) rfl rfl ?_
          refine z_fgt [true, true, true, true, true, true, false, false] (L2 := [some (.ref 85), some (.int a1), some (.int a2), some (.int a3), some (.int (0 : Int32)), some (.int (0 : Int32)), none, none]) rfl ?_
          refine e_X12_fits_L55 (fun k32 s33 h => ?_) _ _ _ _ h
          refine z_iload_n (pc2 := 159) rfl dX12_fits_158 rfl ?_
          refine z_if_ne (pc2 := 162) (tgt := 167) rfl dX12_fits_159 (by decide) (fun hc34 => ?_) (fun hc34 => ?_)
          · replace h := ab_neg hc34 h
            refine z_iload (pc2 := 169) rfl dX12_fits_167 rfl ?_
            obtain ⟨q35, hq35, h⟩ := ab_bnd h
            refine z_callSi [.int k32] [some (.int k32), none, none] (pc2 := 172) rfl rfl dX12_fits_169 ok_X12_ones ⟨fun _ => rfl, fun _ => Nat.le_of_ble_eq_true rfl⟩ rfl wd_1141 wd_1142 rfl (e_X12_ones hq35) ?_
            exact z_iret dX12_fits_172 rfl rfl (fi_w h)
          · replace h := ab_pos hc34 h
            refine z_iload (pc2 := 164) rfl dX12_fits_162 rfl ?_
            refine ab_goto (tgt := 172) dX12_fits_164 (by decide) ?_
            exact z_iret dX12_fits_172 rfl rfl (fi_w h)
        · replace h := ab_pos hc10 h
          refine z_aload_n (pc2 := 40) rfl dX12_fits_39 rfl ?_
          refine z_iconst (pc2 := 41) rfl dX12_fits_40 lt_i_2 ?_
          obtain ⟨q36, hq36, h⟩ := ab_bnd h
          refine z_callVi 85 [.int (2 : Int32)] [some (.ref 85), some (.int (2 : Int32))] (pc2 := 44) rfl rfl dX12_fits_41 ok_X12_error ⟨fun _ => rfl, fun _ => Nat.le_of_ble_eq_true rfl⟩ rfl rv_85 wd_1045 wd_1047 wd_16 rfl (e_X12_error hq36) ?_
          exact z_iret dX12_fits_44 rfl rfl (fi_w h)
      · replace h := ab_pos hc8 h
        refine z_aload_n (pc2 := 25) rfl dX12_fits_24 rfl ?_
        refine z_iconst (pc2 := 26) rfl dX12_fits_25 lt_i_1 ?_
        obtain ⟨q37, hq37, h⟩ := ab_bnd h
        refine z_callVi 85 [.int (1 : Int32)] [some (.ref 85), some (.int (1 : Int32))] (pc2 := 29) rfl rfl dX12_fits_26 ok_X12_error ⟨fun _ => rfl, fun _ => Nat.le_of_ble_eq_true rfl⟩ rfl rv_85 wd_1045 wd_1047 wd_16 rfl (e_X12_error hq37) ?_
        exact z_iret dX12_fits_29 rfl rfl (fi_w h)
def f_X12_begins (a1 : Int32) (σ : ab_F) : Option ab_F := (if (30 : Int32) ≤ (σ 85 12) then (some σ) else ab_ck (ab_ib (σ 85 12) 30) (ab_lt (ab_u σ 93 ((σ 85 12)).toNatClampNeg a1) (fun (s3 : ab_F) => ab_lt (ab_u s3 85 12 ((s3 85 12) + (1 : Int32))) (fun (s4 : ab_F) => (some s4)))))
set_option maxRecDepth 100000 in
set_option maxHeartbeats 4000000 in
theorem e_X12_begins {sc : Nat × (Nat → Int32)} {r : Option Nat × Option Nat} {a1 : Int32} {σ : ab_F} {res : ab_F} (h : f_X12_begins a1 σ = some res) : ab_E mX12_begins 0 sc 0 [some (.ref 85), some (.int a1)] [] (σ, r) (fun v S => v = none ∧ S = (res, r)) := by
  unfold f_X12_begins at h
  refine z_aload_n (pc2 := 1) rfl dX12_begins_0 rfl ?_
  refine z_getI 85 12 12 (pc2 := 4) rfl dX12_begins_1 rfl rfl ff_12_12 wd_989 ?_
  refine z_bipush (pc2 := 6) rfl dX12_begins_4 lt_b_30 ?_
  refine z_icmp_ge (pc2 := 9) (tgt := 29) rfl dX12_begins_6 (by decide) (fun hc1 => ?_) (fun hc1 => ?_)
  · replace h := ab_pos hc1 h
    exact z_vret dX12_begins_29 rfl (fv_w h)
  · replace h := ab_neg hc1 h
    refine z_aload_n (pc2 := 10) rfl dX12_begins_9 rfl ?_
    refine z_getR 85 12 13 93 (pc2 := 13) rfl dX12_begins_10 rfl rfl ff_12_13 wd_990 rfl ?_
    refine z_aload_n (pc2 := 14) rfl dX12_begins_13 rfl ?_
    refine z_getI 85 12 12 (pc2 := 17) rfl dX12_begins_14 rfl rfl ff_12_12 wd_989 ?_
    refine z_iload_n (pc2 := 18) rfl dX12_begins_17 rfl ?_
    obtain ⟨hb2, h⟩ := ab_ck_e h
    refine z_iast 93 (pc2 := 19) (j := ((σ 85 12)).toNatClampNeg) rfl dX12_begins_18 rfl rfl hb2 rfl ?_
    obtain ⟨s3, hs3, h⟩ := ab_lt_e h
    refine z_tops hs3 ?_
    refine z_aload_n (pc2 := 20) rfl dX12_begins_19 rfl ?_
    refine z_dup (pc2 := 21) rfl dX12_begins_20 rfl ?_
    refine z_getI 85 12 12 (pc2 := 24) rfl dX12_begins_21 rfl rfl ff_12_12 wd_989 ?_
    refine z_iconst (pc2 := 25) rfl dX12_begins_24 lt_i_1 ?_
    refine z_iadd (pc2 := 26) rfl dX12_begins_25 ?_
    refine z_putI 85 12 12 (pc2 := 29) (ft := .int) rfl dX12_begins_26 rfl rfl ff_12_12 wd_989 rfl (by decide +kernel) rfl rfl ?_
    obtain ⟨s4, hs4, h⟩ := ab_lt_e h
    refine z_tops hs4 ?_
    exact z_vret dX12_begins_29 rfl (fv_w h)
def f_X12_kindNow (σ : ab_F) : Option Int32 := (f_X12_its (σ 85 14) (0 : Int32) σ).bind (fun q1 => (some q1))
set_option maxRecDepth 100000 in
set_option maxHeartbeats 4000000 in
theorem e_X12_kindNow {sc : Nat × (Nat → Int32)} {r : Option Nat × Option Nat} {σ : ab_F} {res : Int32} (h : f_X12_kindNow σ = some res) : ab_E mX12_kindNow 1 sc 0 [some (.ref 85)] [] (σ, r) (fun v S => v = some (.int res) ∧ S = (σ, r)) := by
  unfold f_X12_kindNow at h
  refine z_aload_n (pc2 := 1) rfl dX12_kindNow_0 rfl ?_
  refine z_aload_n (pc2 := 2) rfl dX12_kindNow_1 rfl ?_
  refine z_getI 85 12 14 (pc2 := 5) rfl dX12_kindNow_2 rfl rfl ff_12_14 wd_991 ?_
  refine z_iconst (pc2 := 6) rfl dX12_kindNow_5 lt_i_0 ?_
  obtain ⟨q1, hq1, h⟩ := ab_bnd h
  refine z_callVi 85 [.int (σ 85 14), .int (0 : Int32)] [some (.ref 85), some (.int (σ 85 14)), some (.int (0 : Int32))] (pc2 := 9) rfl rfl dX12_kindNow_6 ok_X12_its ⟨fun _ => rfl, fun _ => Nat.le_of_ble_eq_true rfl⟩ rfl rv_85 wd_1129 wd_1131 wd_31 rfl (e_X12_its hq1) ?_
  exact z_iret dX12_kindNow_9 rfl rfl (fi_p h)
def f_X12_mNow (σ : ab_F) : Option Int32 := (f_X12_its (σ 85 14) (1 : Int32) σ).bind (fun q1 => (some q1))
set_option maxRecDepth 100000 in
set_option maxHeartbeats 4000000 in
theorem e_X12_mNow {sc : Nat × (Nat → Int32)} {r : Option Nat × Option Nat} {σ : ab_F} {res : Int32} (h : f_X12_mNow σ = some res) : ab_E mX12_mNow 1 sc 0 [some (.ref 85)] [] (σ, r) (fun v S => v = some (.int res) ∧ S = (σ, r)) := by
  unfold f_X12_mNow at h
  refine z_aload_n (pc2 := 1) rfl dX12_mNow_0 rfl ?_
  refine z_aload_n (pc2 := 2) rfl dX12_mNow_1 rfl ?_
  refine z_getI 85 12 14 (pc2 := 5) rfl dX12_mNow_2 rfl rfl ff_12_14 wd_991 ?_
  refine z_iconst (pc2 := 6) rfl dX12_mNow_5 lt_i_1 ?_
  obtain ⟨q1, hq1, h⟩ := ab_bnd h
  refine z_callVi 85 [.int (σ 85 14), .int (1 : Int32)] [some (.ref 85), some (.int (σ 85 14)), some (.int (1 : Int32))] (pc2 := 9) rfl rfl dX12_mNow_6 ok_X12_its ⟨fun _ => rfl, fun _ => Nat.le_of_ble_eq_true rfl⟩ rfl rv_85 wd_1129 wd_1131 wd_31 rfl (e_X12_its hq1) ?_
  exact z_iret dX12_mNow_9 rfl rfl (fi_p h)
def g_X12_wadesAs (rc : Nat → Int32 → Int32 → ab_F → Option (Int32 × ab_F)) (a1 : Int32) (a2 : Int32) (σ : ab_F) : Option (Int32 × ab_F) := (if a1 = (0 : Int32) then (f_X12_begins (10 : Int32) σ).bind (fun q2 => (some ((a2 + (q2 85 14)), q2))) else if a1 = (1 : Int32) then (f_X12_begins (20 : Int32) σ).bind (fun q4 => (f_X12_above (1 : Int32) q4).bind (fun q5 => (rc 0 q5 a2 q4).bind (fun q6 => (some ((q6.1 - (4 : Int32)), q6.2))))) else if a1 = (2 : Int32) then (f_X12_above a1 σ).bind (fun q8 => (rc 0 q8 a2 σ).bind (fun q9 => (some (q9.1, q9.2)))) else if a1 = (3 : Int32) then (f_X12_above a1 σ).bind (fun q11 => (rc 0 q11 a2 σ).bind (fun q12 => (some (q12.1, q12.2)))) else if a1 = (4 : Int32) then (f_X12_begins (50 : Int32) σ).bind (fun q14 => (f_X12_above (4 : Int32) q14).bind (fun q15 => (rc 0 q15 a2 q14).bind (fun q16 => (some ((q16.1 * (3 : Int32)), q16.2))))) else if a1 = (5 : Int32) then (f_X12_above a1 σ).bind (fun q18 => (rc 0 q18 a2 σ).bind (fun q19 => (some (q19.1, q19.2)))) else if a1 = (6 : Int32) then (f_X12_begins (70 : Int32) σ).bind (fun q21 => (some ((9 : Int32), q21))) else (f_X12_above a1 σ).bind (fun q22 => (rc 0 q22 a2 σ).bind (fun q23 => (some (q23.1, q23.2)))))
set_option maxRecDepth 100000 in
set_option maxHeartbeats 4000000 in
theorem eg_X12_wadesAs {sc : Nat × (Nat → Int32)} {r : Option Nat × Option Nat} {n0 : Nat} {rc : Nat → Int32 → Int32 → ab_F → Option (Int32 × ab_F)} (ih_X12_wadesAs : ∀ (a1 : Int32) (a2 : Int32) (σ : ab_F) (res : (Int32 × ab_F)), rc 0 a1 a2 σ = some res → ab_E mX12_wadesAs (n0 + 8) sc 0 [some (.ref 85), some (.int a1), some (.int a2)] [] (σ, r) (fun v S => v = some (.int res.1) ∧ S = (res.2, r))) {a1 : Int32} {a2 : Int32} {σ : ab_F} {res : (Int32 × ab_F)} (h : g_X12_wadesAs rc a1 a2 σ = some res) : ab_E mX12_wadesAs (n0 + 9) sc 0 [some (.ref 85), some (.int a1), some (.int a2)] [] (σ, r) (fun v S => v = some (.int res.1) ∧ S = (res.2, r)) := by
  unfold g_X12_wadesAs at h
  refine z_iload_n (pc2 := 1) rfl dX12_wadesAs_0 rfl ?_
  by_cases hc1 : a1 = (0 : Int32)
  · replace h := ab_pos hc1 h
    refine ab_tsIn (tgt := 44) dX12_wadesAs_1 (by rw [hc1]; decide) (by rw [hc1]; decide) (by rw [hc1]; rfl) (by decide) ?_
    refine z_aload_n (pc2 := 45) rfl dX12_wadesAs_44 rfl ?_
    refine z_bipush (pc2 := 47) rfl dX12_wadesAs_45 lt_b_10 ?_
    obtain ⟨q2, hq2, h⟩ := ab_bnd h
    refine z_callVv 85 [.int (10 : Int32)] [some (.ref 85), some (.int (10 : Int32))] (pc2 := 50) rfl rfl dX12_wadesAs_47 ok_X12_begins ⟨fun _ => rfl, fun _ => Nat.le_of_ble_eq_true rfl⟩ (Nat.ble_eq_true_of_le (by omega)) rv_85 wd_1338 wd_1340 wd_53 rfl (e_X12_begins hq2) ?_
    refine z_iload_n (pc2 := 51) rfl dX12_wadesAs_50 rfl ?_
    refine z_aload_n (pc2 := 52) rfl dX12_wadesAs_51 rfl ?_
    refine z_getI 85 12 14 (pc2 := 55) rfl dX12_wadesAs_52 rfl rfl ff_12_14 wd_991 ?_
    refine z_iadd (pc2 := 56) rfl dX12_wadesAs_55 ?_
    exact z_iret dX12_wadesAs_56 rfl rfl (fi_w h)
  · replace h := ab_neg hc1 h
    by_cases hc3 : a1 = (1 : Int32)
    · replace h := ab_pos hc3 h
      refine ab_tsIn (tgt := 57) dX12_wadesAs_1 (by rw [hc3]; decide) (by rw [hc3]; decide) (by rw [hc3]; rfl) (by decide) ?_
      refine z_aload_n (pc2 := 58) rfl dX12_wadesAs_57 rfl ?_
      refine z_bipush (pc2 := 60) rfl dX12_wadesAs_58 lt_b_20 ?_
      obtain ⟨q4, hq4, h⟩ := ab_bnd h
      refine z_callVv 85 [.int (20 : Int32)] [some (.ref 85), some (.int (20 : Int32))] (pc2 := 63) rfl rfl dX12_wadesAs_60 ok_X12_begins ⟨fun _ => rfl, fun _ => Nat.le_of_ble_eq_true rfl⟩ (Nat.ble_eq_true_of_le (by omega)) rv_85 wd_1338 wd_1340 wd_53 rfl (e_X12_begins hq4) ?_
      refine z_aload_n (pc2 := 64) rfl dX12_wadesAs_63 rfl ?_
      refine z_iconst (pc2 := 65) rfl dX12_wadesAs_64 lt_i_1 ?_
      obtain ⟨q5, hq5, h⟩ := ab_bnd h
      refine z_callSi [.int (1 : Int32)] [some (.int (1 : Int32))] (pc2 := 68) rfl rfl dX12_wadesAs_65 ok_X12_above ⟨fun _ => rfl, fun _ => Nat.le_of_ble_eq_true rfl⟩ (Nat.ble_eq_true_of_le (by omega)) wd_1181 wd_1182 rfl (e_X12_above hq5) ?_
      refine z_iload_n (pc2 := 69) rfl dX12_wadesAs_68 rfl ?_
      obtain ⟨q6, hq6, h⟩ := ab_bnd h
      refine z_callVi 85 [.int q5, .int a2] [some (.ref 85), some (.int q5), some (.int a2)] (pc2 := 72) rfl rfl dX12_wadesAs_69 ok_X12_wadesAs ⟨fun _ => rfl, fun _ => Nat.le_of_ble_eq_true rfl⟩ (Nat.ble_eq_true_of_le (by omega)) rv_85 wd_1334 wd_1336 wd_52 rfl (ih_X12_wadesAs _ _ _ _ hq6) ?_
      refine z_iconst (pc2 := 73) rfl dX12_wadesAs_72 lt_i_4 ?_
      refine z_isub (pc2 := 74) rfl dX12_wadesAs_73 ?_
      exact z_iret dX12_wadesAs_74 rfl rfl (fi_w h)
    · replace h := ab_neg hc3 h
      by_cases hc7 : a1 = (2 : Int32)
      · replace h := ab_pos hc7 h
        refine ab_tsIn (tgt := 102) dX12_wadesAs_1 (by rw [hc7]; decide) (by rw [hc7]; decide) (by rw [hc7]; rfl) (by decide) ?_
        refine z_aload_n (pc2 := 103) rfl dX12_wadesAs_102 rfl ?_
        refine z_iload_n (pc2 := 104) rfl dX12_wadesAs_103 rfl ?_
        obtain ⟨q8, hq8, h⟩ := ab_bnd h
        refine z_callSi [.int a1] [some (.int a1)] (pc2 := 107) rfl rfl dX12_wadesAs_104 ok_X12_above ⟨fun _ => rfl, fun _ => Nat.le_of_ble_eq_true rfl⟩ (Nat.ble_eq_true_of_le (by omega)) wd_1181 wd_1182 rfl (e_X12_above hq8) ?_
        refine z_iload_n (pc2 := 108) rfl dX12_wadesAs_107 rfl ?_
        obtain ⟨q9, hq9, h⟩ := ab_bnd h
        refine z_callVi 85 [.int q8, .int a2] [some (.ref 85), some (.int q8), some (.int a2)] (pc2 := 111) rfl rfl dX12_wadesAs_108 ok_X12_wadesAs ⟨fun _ => rfl, fun _ => Nat.le_of_ble_eq_true rfl⟩ (Nat.ble_eq_true_of_le (by omega)) rv_85 wd_1334 wd_1336 wd_52 rfl (ih_X12_wadesAs _ _ _ _ hq9) ?_
        exact z_iret dX12_wadesAs_111 rfl rfl (fi_w h)
      · replace h := ab_neg hc7 h
        by_cases hc10 : a1 = (3 : Int32)
        · replace h := ab_pos hc10 h
          refine ab_tsIn (tgt := 102) dX12_wadesAs_1 (by rw [hc10]; decide) (by rw [hc10]; decide) (by rw [hc10]; rfl) (by decide) ?_
          refine z_aload_n (pc2 := 103) rfl dX12_wadesAs_102 rfl ?_
          refine z_iload_n (pc2 := 104) rfl dX12_wadesAs_103 rfl ?_
          obtain ⟨q11, hq11, h⟩ := ab_bnd h
          refine z_callSi [.int a1] [some (.int a1)] (pc2 := 107) rfl rfl dX12_wadesAs_104 ok_X12_above ⟨fun _ => rfl, fun _ => Nat.le_of_ble_eq_true rfl⟩ (Nat.ble_eq_true_of_le (by omega)) wd_1181 wd_1182 rfl (e_X12_above hq11) ?_
          refine z_iload_n (pc2 := 108) rfl dX12_wadesAs_107 rfl ?_
          obtain ⟨q12, hq12, h⟩ := ab_bnd h
          refine z_callVi 85 [.int q11, .int a2] [some (.ref 85), some (.int q11), some (.int a2)] (pc2 := 111) rfl rfl dX12_wadesAs_108 ok_X12_wadesAs ⟨fun _ => rfl, fun _ => Nat.le_of_ble_eq_true rfl⟩ (Nat.ble_eq_true_of_le (by omega)) rv_85 wd_1334 wd_1336 wd_52 rfl (ih_X12_wadesAs _ _ _ _ hq12) ?_
          exact z_iret dX12_wadesAs_111 rfl rfl (fi_w h)
        · replace h := ab_neg hc10 h
          by_cases hc13 : a1 = (4 : Int32)
          · replace h := ab_pos hc13 h
            refine ab_tsIn (tgt := 75) dX12_wadesAs_1 (by rw [hc13]; decide) (by rw [hc13]; decide) (by rw [hc13]; rfl) (by decide) ?_
            refine z_aload_n (pc2 := 76) rfl dX12_wadesAs_75 rfl ?_
            refine z_bipush (pc2 := 78) rfl dX12_wadesAs_76 lt_b_50 ?_
            obtain ⟨q14, hq14, h⟩ := ab_bnd h
            refine z_callVv 85 [.int (50 : Int32)] [some (.ref 85), some (.int (50 : Int32))] (pc2 := 81) rfl rfl dX12_wadesAs_78 ok_X12_begins ⟨fun _ => rfl, fun _ => Nat.le_of_ble_eq_true rfl⟩ (Nat.ble_eq_true_of_le (by omega)) rv_85 wd_1338 wd_1340 wd_53 rfl (e_X12_begins hq14) ?_
            refine z_aload_n (pc2 := 82) rfl dX12_wadesAs_81 rfl ?_
            refine z_iconst (pc2 := 83) rfl dX12_wadesAs_82 lt_i_4 ?_
            obtain ⟨q15, hq15, h⟩ := ab_bnd h
            refine z_callSi [.int (4 : Int32)] [some (.int (4 : Int32))] (pc2 := 86) rfl rfl dX12_wadesAs_83 ok_X12_above ⟨fun _ => rfl, fun _ => Nat.le_of_ble_eq_true rfl⟩ (Nat.ble_eq_true_of_le (by omega)) wd_1181 wd_1182 rfl (e_X12_above hq15) ?_
            refine z_iload_n (pc2 := 87) rfl dX12_wadesAs_86 rfl ?_
            obtain ⟨q16, hq16, h⟩ := ab_bnd h
            refine z_callVi 85 [.int q15, .int a2] [some (.ref 85), some (.int q15), some (.int a2)] (pc2 := 90) rfl rfl dX12_wadesAs_87 ok_X12_wadesAs ⟨fun _ => rfl, fun _ => Nat.le_of_ble_eq_true rfl⟩ (Nat.ble_eq_true_of_le (by omega)) rv_85 wd_1334 wd_1336 wd_52 rfl (ih_X12_wadesAs _ _ _ _ hq16) ?_
            refine z_iconst (pc2 := 91) rfl dX12_wadesAs_90 lt_i_3 ?_
            refine z_imul (pc2 := 92) rfl dX12_wadesAs_91 ?_
            exact z_iret dX12_wadesAs_92 rfl rfl (fi_w h)
          · replace h := ab_neg hc13 h
            by_cases hc17 : a1 = (5 : Int32)
            · replace h := ab_pos hc17 h
              refine ab_tsIn (tgt := 102) dX12_wadesAs_1 (by rw [hc17]; decide) (by rw [hc17]; decide) (by rw [hc17]; rfl) (by decide) ?_
              refine z_aload_n (pc2 := 103) rfl dX12_wadesAs_102 rfl ?_
              refine z_iload_n (pc2 := 104) rfl dX12_wadesAs_103 rfl ?_
              obtain ⟨q18, hq18, h⟩ := ab_bnd h
              refine z_callSi [.int a1] [some (.int a1)] (pc2 := 107) rfl rfl dX12_wadesAs_104 ok_X12_above ⟨fun _ => rfl, fun _ => Nat.le_of_ble_eq_true rfl⟩ (Nat.ble_eq_true_of_le (by omega)) wd_1181 wd_1182 rfl (e_X12_above hq18) ?_
              refine z_iload_n (pc2 := 108) rfl dX12_wadesAs_107 rfl ?_
              obtain ⟨q19, hq19, h⟩ := ab_bnd h
              refine z_callVi 85 [.int q18, .int a2] [some (.ref 85), some (.int q18), some (.int a2)] (pc2 := 111) rfl rfl dX12_wadesAs_108 ok_X12_wadesAs ⟨fun _ => rfl, fun _ => Nat.le_of_ble_eq_true rfl⟩ (Nat.ble_eq_true_of_le (by omega)) rv_85 wd_1334 wd_1336 wd_52 rfl (ih_X12_wadesAs _ _ _ _ hq19) ?_
              exact z_iret dX12_wadesAs_111 rfl rfl (fi_w h)
            · replace h := ab_neg hc17 h
              by_cases hc20 : a1 = (6 : Int32)
              · replace h := ab_pos hc20 h
                refine ab_tsIn (tgt := 93) dX12_wadesAs_1 (by rw [hc20]; decide) (by rw [hc20]; decide) (by rw [hc20]; rfl) (by decide) ?_
                refine z_aload_n (pc2 := 94) rfl dX12_wadesAs_93 rfl ?_
                refine z_bipush (pc2 := 96) rfl dX12_wadesAs_94 lt_b_70 ?_
                obtain ⟨q21, hq21, h⟩ := ab_bnd h
                refine z_callVv 85 [.int (70 : Int32)] [some (.ref 85), some (.int (70 : Int32))] (pc2 := 99) rfl rfl dX12_wadesAs_96 ok_X12_begins ⟨fun _ => rfl, fun _ => Nat.le_of_ble_eq_true rfl⟩ (Nat.ble_eq_true_of_le (by omega)) rv_85 wd_1338 wd_1340 wd_53 rfl (e_X12_begins hq21) ?_
                refine z_bipush (pc2 := 101) rfl dX12_wadesAs_99 lt_b_9 ?_
                exact z_iret dX12_wadesAs_101 rfl rfl (fi_w h)
              · replace h := ab_neg hc20 h
                have thc1 := ab_ne_toInt (k := 0) hc1 (by decide)
                have thc3 := ab_ne_toInt (k := 1) hc3 (by decide)
                have thc7 := ab_ne_toInt (k := 2) hc7 (by decide)
                have thc10 := ab_ne_toInt (k := 3) hc10 (by decide)
                have thc13 := ab_ne_toInt (k := 4) hc13 (by decide)
                have thc17 := ab_ne_toInt (k := 5) hc17 (by decide)
                have thc20 := ab_ne_toInt (k := 6) hc20 (by decide)
                refine ab_tsOut (tgt := 102) dX12_wadesAs_1 (by omega) (by decide) ?_
                refine z_aload_n (pc2 := 103) rfl dX12_wadesAs_102 rfl ?_
                refine z_iload_n (pc2 := 104) rfl dX12_wadesAs_103 rfl ?_
                obtain ⟨q22, hq22, h⟩ := ab_bnd h
                refine z_callSi [.int a1] [some (.int a1)] (pc2 := 107) rfl rfl dX12_wadesAs_104 ok_X12_above ⟨fun _ => rfl, fun _ => Nat.le_of_ble_eq_true rfl⟩ (Nat.ble_eq_true_of_le (by omega)) wd_1181 wd_1182 rfl (e_X12_above hq22) ?_
                refine z_iload_n (pc2 := 108) rfl dX12_wadesAs_107 rfl ?_
                obtain ⟨q23, hq23, h⟩ := ab_bnd h
                refine z_callVi 85 [.int q22, .int a2] [some (.ref 85), some (.int q22), some (.int a2)] (pc2 := 111) rfl rfl dX12_wadesAs_108 ok_X12_wadesAs ⟨fun _ => rfl, fun _ => Nat.le_of_ble_eq_true rfl⟩ (Nat.ble_eq_true_of_le (by omega)) rv_85 wd_1334 wd_1336 wd_52 rfl (ih_X12_wadesAs _ _ _ _ hq23) ?_
                exact z_iret dX12_wadesAs_111 rfl rfl (fi_w h)
def f_GC : Nat → Nat → Int32 → Int32 → ab_F → Option (Int32 × ab_F)
  | 0, _, _, _, _ => none
  | n + 1, _, a1, a2, σ => g_X12_wadesAs (f_GC n) a1 a2 σ
set_option maxRecDepth 100000 in
set_option maxHeartbeats 4000000 in
theorem e_GC {sc : Nat × (Nat → Int32)} {r : Option Nat × Option Nat} : ∀ n : Nat, (∀ (a1 : Int32) (a2 : Int32) (σ : ab_F) (res : (Int32 × ab_F)), f_GC n 0 a1 a2 σ = some res → ab_E mX12_wadesAs (n + 8) sc 0 [some (.ref 85), some (.int a1), some (.int a2)] [] (σ, r) (fun v S => v = some (.int res.1) ∧ S = (res.2, r))) := by
  intro n
  induction n with
  | zero => intros <;> rename_i h <;> simp only [f_GC] at h <;> cases h
  | succ n ih =>
    have i0 := ih
    · intro a1 a2 σ res h
      exact eg_X12_wadesAs (n0 := n) i0 (by simpa only [f_GC] using h)
theorem e_GC_X12_wadesAs {sc : Nat × (Nat → Int32)} {r : Option Nat × Option Nat} : ∀ (a1 : Int32) (a2 : Int32) (σ : ab_F) (res : (Int32 × ab_F)), f_GC 10 0 a1 a2 σ = some res → ab_E mX12_wadesAs 18 sc 0 [some (.ref 85), some (.int a1), some (.int a2)] [] (σ, r) (fun v S => v = some (.int res.1) ∧ S = (res.2, r)) := (e_GC 10)
def g_X12_knowsAs (rc : Nat → Int32 → Int32 → ab_F → Option (Int32 × ab_F)) (a1 : Int32) (a2 : Int32) (σ : ab_F) : Option (Int32 × ab_F) := (if a1 = (0 : Int32) then (f_X12_begins (11 : Int32) σ).bind (fun q2 => (f_X12_kindNow q2).bind (fun q3 => (f_GC 10 0 q3 a2 q2).bind (fun q4 => (some ((q4.1 * (2 : Int32)), q4.2))))) else if a1 = (1 : Int32) then (f_X12_above a1 σ).bind (fun q6 => (rc 0 q6 a2 σ).bind (fun q7 => (some (q7.1, q7.2)))) else if a1 = (2 : Int32) then (f_X12_begins (30 : Int32) σ).bind (fun q9 => (f_X12_above (2 : Int32) q9).bind (fun q10 => (rc 0 q10 a2 q9).bind (fun q11 => (some (((0 : Int32) - q11.1), q11.2))))) else if a1 = (3 : Int32) then (f_X12_above a1 σ).bind (fun q13 => (rc 0 q13 a2 σ).bind (fun q14 => (some (q14.1, q14.2)))) else if a1 = (4 : Int32) then (f_X12_above a1 σ).bind (fun q16 => (rc 0 q16 a2 σ).bind (fun q17 => (some (q17.1, q17.2)))) else if a1 = (5 : Int32) then (f_X12_begins (60 : Int32) σ).bind (fun q19 => (f_X12_above (5 : Int32) q19).bind (fun q20 => (rc 0 q20 (a2 + (1 : Int32)) q19).bind (fun q21 => (some (q21.1, q21.2))))) else if a1 = (6 : Int32) then (f_X12_begins (71 : Int32) σ).bind (fun q23 => (f_X12_above (6 : Int32) q23).bind (fun q24 => (rc 0 q24 a2 q23).bind (fun q25 => (f_X12_mNow q25.2).bind (fun q26 => (some ((q25.1 + q26), q25.2)))))) else (f_X12_above a1 σ).bind (fun q27 => (rc 0 q27 a2 σ).bind (fun q28 => (some (q28.1, q28.2)))))
set_option maxRecDepth 100000 in
set_option maxHeartbeats 4000000 in
theorem eg_X12_knowsAs {sc : Nat × (Nat → Int32)} {r : Option Nat × Option Nat} {n0 : Nat} {rc : Nat → Int32 → Int32 → ab_F → Option (Int32 × ab_F)} (ih_X12_knowsAs : ∀ (a1 : Int32) (a2 : Int32) (σ : ab_F) (res : (Int32 × ab_F)), rc 0 a1 a2 σ = some res → ab_E mX12_knowsAs (n0 + 19) sc 0 [some (.ref 85), some (.int a1), some (.int a2)] [] (σ, r) (fun v S => v = some (.int res.1) ∧ S = (res.2, r))) {a1 : Int32} {a2 : Int32} {σ : ab_F} {res : (Int32 × ab_F)} (h : g_X12_knowsAs rc a1 a2 σ = some res) : ab_E mX12_knowsAs (n0 + 20) sc 0 [some (.ref 85), some (.int a1), some (.int a2)] [] (σ, r) (fun v S => v = some (.int res.1) ∧ S = (res.2, r)) := by
  unfold g_X12_knowsAs at h
  refine z_iload_n (pc2 := 1) rfl dX12_knowsAs_0 rfl ?_
  by_cases hc1 : a1 = (0 : Int32)
  · replace h := ab_pos hc1 h
    refine ab_tsIn (tgt := 44) dX12_knowsAs_1 (by rw [hc1]; decide) (by rw [hc1]; decide) (by rw [hc1]; rfl) (by decide) ?_
    refine z_aload_n (pc2 := 45) rfl dX12_knowsAs_44 rfl ?_
    refine z_bipush (pc2 := 47) rfl dX12_knowsAs_45 lt_b_11 ?_
    obtain ⟨q2, hq2, h⟩ := ab_bnd h
    refine z_callVv 85 [.int (11 : Int32)] [some (.ref 85), some (.int (11 : Int32))] (pc2 := 50) rfl rfl dX12_knowsAs_47 ok_X12_begins ⟨fun _ => rfl, fun _ => Nat.le_of_ble_eq_true rfl⟩ (Nat.ble_eq_true_of_le (by omega)) rv_85 wd_1338 wd_1340 wd_53 rfl (e_X12_begins hq2) ?_
    refine z_aload_n (pc2 := 51) rfl dX12_knowsAs_50 rfl ?_
    refine z_aload_n (pc2 := 52) rfl dX12_knowsAs_51 rfl ?_
    obtain ⟨q3, hq3, h⟩ := ab_bnd h
    refine z_callVi 85 [] [some (.ref 85)] (pc2 := 55) rfl rfl dX12_knowsAs_52 ok_X12_kindNow ⟨fun _ => rfl, fun _ => Nat.le_of_ble_eq_true rfl⟩ (Nat.ble_eq_true_of_le (by omega)) rv_85 wd_1330 wd_1332 wd_51 rfl (e_X12_kindNow hq3) ?_
    refine z_iload_n (pc2 := 56) rfl dX12_knowsAs_55 rfl ?_
    obtain ⟨q4, hq4, h⟩ := ab_bnd h
    refine z_callVi 85 [.int q3, .int a2] [some (.ref 85), some (.int q3), some (.int a2)] (pc2 := 59) rfl rfl dX12_knowsAs_56 ok_X12_wadesAs ⟨fun _ => rfl, fun _ => Nat.le_of_ble_eq_true rfl⟩ (Nat.ble_eq_true_of_le (by omega)) rv_85 wd_1334 wd_1336 wd_52 rfl (e_GC_X12_wadesAs _ _ _ _ hq4) ?_
    refine z_iconst (pc2 := 60) rfl dX12_knowsAs_59 lt_i_2 ?_
    refine z_imul (pc2 := 61) rfl dX12_knowsAs_60 ?_
    exact z_iret dX12_knowsAs_61 rfl rfl (fi_w h)
  · replace h := ab_neg hc1 h
    by_cases hc5 : a1 = (1 : Int32)
    · replace h := ab_pos hc5 h
      refine ab_tsIn (tgt := 120) dX12_knowsAs_1 (by rw [hc5]; decide) (by rw [hc5]; decide) (by rw [hc5]; rfl) (by decide) ?_
      refine z_aload_n (pc2 := 121) rfl dX12_knowsAs_120 rfl ?_
      refine z_iload_n (pc2 := 122) rfl dX12_knowsAs_121 rfl ?_
      obtain ⟨q6, hq6, h⟩ := ab_bnd h
      refine z_callSi [.int a1] [some (.int a1)] (pc2 := 125) rfl rfl dX12_knowsAs_122 ok_X12_above ⟨fun _ => rfl, fun _ => Nat.le_of_ble_eq_true rfl⟩ (Nat.ble_eq_true_of_le (by omega)) wd_1181 wd_1182 rfl (e_X12_above hq6) ?_
      refine z_iload_n (pc2 := 126) rfl dX12_knowsAs_125 rfl ?_
      obtain ⟨q7, hq7, h⟩ := ab_bnd h
      refine z_callVi 85 [.int q6, .int a2] [some (.ref 85), some (.int q6), some (.int a2)] (pc2 := 129) rfl rfl dX12_knowsAs_126 ok_X12_knowsAs ⟨fun _ => rfl, fun _ => Nat.le_of_ble_eq_true rfl⟩ (Nat.ble_eq_true_of_le (by omega)) rv_85 wd_1342 wd_1344 wd_54 rfl (ih_X12_knowsAs _ _ _ _ hq7) ?_
      exact z_iret dX12_knowsAs_129 rfl rfl (fi_w h)
    · replace h := ab_neg hc5 h
      by_cases hc8 : a1 = (2 : Int32)
      · replace h := ab_pos hc8 h
        refine ab_tsIn (tgt := 62) dX12_knowsAs_1 (by rw [hc8]; decide) (by rw [hc8]; decide) (by rw [hc8]; rfl) (by decide) ?_
        refine z_aload_n (pc2 := 63) rfl dX12_knowsAs_62 rfl ?_
        refine z_bipush (pc2 := 65) rfl dX12_knowsAs_63 lt_b_30 ?_
        obtain ⟨q9, hq9, h⟩ := ab_bnd h
        refine z_callVv 85 [.int (30 : Int32)] [some (.ref 85), some (.int (30 : Int32))] (pc2 := 68) rfl rfl dX12_knowsAs_65 ok_X12_begins ⟨fun _ => rfl, fun _ => Nat.le_of_ble_eq_true rfl⟩ (Nat.ble_eq_true_of_le (by omega)) rv_85 wd_1338 wd_1340 wd_53 rfl (e_X12_begins hq9) ?_
        refine z_iconst (pc2 := 69) rfl dX12_knowsAs_68 lt_i_0 ?_
        refine z_aload_n (pc2 := 70) rfl dX12_knowsAs_69 rfl ?_
        refine z_iconst (pc2 := 71) rfl dX12_knowsAs_70 lt_i_2 ?_
        obtain ⟨q10, hq10, h⟩ := ab_bnd h
        refine z_callSi [.int (2 : Int32)] [some (.int (2 : Int32))] (pc2 := 74) rfl rfl dX12_knowsAs_71 ok_X12_above ⟨fun _ => rfl, fun _ => Nat.le_of_ble_eq_true rfl⟩ (Nat.ble_eq_true_of_le (by omega)) wd_1181 wd_1182 rfl (e_X12_above hq10) ?_
        refine z_iload_n (pc2 := 75) rfl dX12_knowsAs_74 rfl ?_
        obtain ⟨q11, hq11, h⟩ := ab_bnd h
        refine z_callVi 85 [.int q10, .int a2] [some (.ref 85), some (.int q10), some (.int a2)] (pc2 := 78) rfl rfl dX12_knowsAs_75 ok_X12_knowsAs ⟨fun _ => rfl, fun _ => Nat.le_of_ble_eq_true rfl⟩ (Nat.ble_eq_true_of_le (by omega)) rv_85 wd_1342 wd_1344 wd_54 rfl (ih_X12_knowsAs _ _ _ _ hq11) ?_
        refine z_isub (pc2 := 79) rfl dX12_knowsAs_78 ?_
        exact z_iret dX12_knowsAs_79 rfl rfl (fi_w h)
      · replace h := ab_neg hc8 h
        by_cases hc12 : a1 = (3 : Int32)
        · replace h := ab_pos hc12 h
          refine ab_tsIn (tgt := 120) dX12_knowsAs_1 (by rw [hc12]; decide) (by rw [hc12]; decide) (by rw [hc12]; rfl) (by decide) ?_
          refine z_aload_n (pc2 := 121) rfl dX12_knowsAs_120 rfl ?_
          refine z_iload_n (pc2 := 122) rfl dX12_knowsAs_121 rfl ?_
          obtain ⟨q13, hq13, h⟩ := ab_bnd h
          refine z_callSi [.int a1] [some (.int a1)] (pc2 := 125) rfl rfl dX12_knowsAs_122 ok_X12_above ⟨fun _ => rfl, fun _ => Nat.le_of_ble_eq_true rfl⟩ (Nat.ble_eq_true_of_le (by omega)) wd_1181 wd_1182 rfl (e_X12_above hq13) ?_
          refine z_iload_n (pc2 := 126) rfl dX12_knowsAs_125 rfl ?_
          obtain ⟨q14, hq14, h⟩ := ab_bnd h
          refine z_callVi 85 [.int q13, .int a2] [some (.ref 85), some (.int q13), some (.int a2)] (pc2 := 129) rfl rfl dX12_knowsAs_126 ok_X12_knowsAs ⟨fun _ => rfl, fun _ => Nat.le_of_ble_eq_true rfl⟩ (Nat.ble_eq_true_of_le (by omega)) rv_85 wd_1342 wd_1344 wd_54 rfl (ih_X12_knowsAs _ _ _ _ hq14) ?_
          exact z_iret dX12_knowsAs_129 rfl rfl (fi_w h)
        · replace h := ab_neg hc12 h
          by_cases hc15 : a1 = (4 : Int32)
          · replace h := ab_pos hc15 h
            refine ab_tsIn (tgt := 120) dX12_knowsAs_1 (by rw [hc15]; decide) (by rw [hc15]; decide) (by rw [hc15]; rfl) (by decide) ?_
            refine z_aload_n (pc2 := 121) rfl dX12_knowsAs_120 rfl ?_
            refine z_iload_n (pc2 := 122) rfl dX12_knowsAs_121 rfl ?_
            obtain ⟨q16, hq16, h⟩ := ab_bnd h
            refine z_callSi [.int a1] [some (.int a1)] (pc2 := 125) rfl rfl dX12_knowsAs_122 ok_X12_above ⟨fun _ => rfl, fun _ => Nat.le_of_ble_eq_true rfl⟩ (Nat.ble_eq_true_of_le (by omega)) wd_1181 wd_1182 rfl (e_X12_above hq16) ?_
            refine z_iload_n (pc2 := 126) rfl dX12_knowsAs_125 rfl ?_
            obtain ⟨q17, hq17, h⟩ := ab_bnd h
            refine z_callVi 85 [.int q16, .int a2] [some (.ref 85), some (.int q16), some (.int a2)] (pc2 := 129) rfl rfl dX12_knowsAs_126 ok_X12_knowsAs ⟨fun _ => rfl, fun _ => Nat.le_of_ble_eq_true rfl⟩ (Nat.ble_eq_true_of_le (by omega)) rv_85 wd_1342 wd_1344 wd_54 rfl (ih_X12_knowsAs _ _ _ _ hq17) ?_
            exact z_iret dX12_knowsAs_129 rfl rfl (fi_w h)
          · replace h := ab_neg hc15 h
            by_cases hc18 : a1 = (5 : Int32)
            · replace h := ab_pos hc18 h
              refine ab_tsIn (tgt := 80) dX12_knowsAs_1 (by rw [hc18]; decide) (by rw [hc18]; decide) (by rw [hc18]; rfl) (by decide) ?_
              refine z_aload_n (pc2 := 81) rfl dX12_knowsAs_80 rfl ?_
              refine z_bipush (pc2 := 83) rfl dX12_knowsAs_81 lt_b_60 ?_
              obtain ⟨q19, hq19, h⟩ := ab_bnd h
              refine z_callVv 85 [.int (60 : Int32)] [some (.ref 85), some (.int (60 : Int32))] (pc2 := 86) rfl rfl dX12_knowsAs_83 ok_X12_begins ⟨fun _ => rfl, fun _ => Nat.le_of_ble_eq_true rfl⟩ (Nat.ble_eq_true_of_le (by omega)) rv_85 wd_1338 wd_1340 wd_53 rfl (e_X12_begins hq19) ?_
              refine z_aload_n (pc2 := 87) rfl dX12_knowsAs_86 rfl ?_
              refine z_iconst (pc2 := 88) rfl dX12_knowsAs_87 lt_i_5 ?_
              obtain ⟨q20, hq20, h⟩ := ab_bnd h
              refine z_callSi [.int (5 : Int32)] [some (.int (5 : Int32))] (pc2 := 91) rfl rfl dX12_knowsAs_88 ok_X12_above ⟨fun _ => rfl, fun _ => Nat.le_of_ble_eq_true rfl⟩ (Nat.ble_eq_true_of_le (by omega)) wd_1181 wd_1182 rfl (e_X12_above hq20) ?_
              refine z_iload_n (pc2 := 92) rfl dX12_knowsAs_91 rfl ?_
              refine z_iconst (pc2 := 93) rfl dX12_knowsAs_92 lt_i_1 ?_
              refine z_iadd (pc2 := 94) rfl dX12_knowsAs_93 ?_
              obtain ⟨q21, hq21, h⟩ := ab_bnd h
              refine z_callVi 85 [.int q20, .int (a2 + (1 : Int32))] [some (.ref 85), some (.int q20), some (.int (a2 + (1 : Int32)))] (pc2 := 97) rfl rfl dX12_knowsAs_94 ok_X12_knowsAs ⟨fun _ => rfl, fun _ => Nat.le_of_ble_eq_true rfl⟩ (Nat.ble_eq_true_of_le (by omega)) rv_85 wd_1342 wd_1344 wd_54 rfl (ih_X12_knowsAs _ _ _ _ hq21) ?_
              exact z_iret dX12_knowsAs_97 rfl rfl (fi_w h)
            · replace h := ab_neg hc18 h
              by_cases hc22 : a1 = (6 : Int32)
              · replace h := ab_pos hc22 h
                refine ab_tsIn (tgt := 98) dX12_knowsAs_1 (by rw [hc22]; decide) (by rw [hc22]; decide) (by rw [hc22]; rfl) (by decide) ?_
                refine z_aload_n (pc2 := 99) rfl dX12_knowsAs_98 rfl ?_
                refine z_bipush (pc2 := 101) rfl dX12_knowsAs_99 lt_b_71 ?_
                obtain ⟨q23, hq23, h⟩ := ab_bnd h
                refine z_callVv 85 [.int (71 : Int32)] [some (.ref 85), some (.int (71 : Int32))] (pc2 := 104) rfl rfl dX12_knowsAs_101 ok_X12_begins ⟨fun _ => rfl, fun _ => Nat.le_of_ble_eq_true rfl⟩ (Nat.ble_eq_true_of_le (by omega)) rv_85 wd_1338 wd_1340 wd_53 rfl (e_X12_begins hq23) ?_
                refine z_aload_n (pc2 := 105) rfl dX12_knowsAs_104 rfl ?_
                refine z_bipush (pc2 := 107) rfl dX12_knowsAs_105 lt_b_6 ?_
                obtain ⟨q24, hq24, h⟩ := ab_bnd h
                refine z_callSi [.int (6 : Int32)] [some (.int (6 : Int32))] (pc2 := 110) rfl rfl dX12_knowsAs_107 ok_X12_above ⟨fun _ => rfl, fun _ => Nat.le_of_ble_eq_true rfl⟩ (Nat.ble_eq_true_of_le (by omega)) wd_1181 wd_1182 rfl (e_X12_above hq24) ?_
                refine z_iload_n (pc2 := 111) rfl dX12_knowsAs_110 rfl ?_
                obtain ⟨q25, hq25, h⟩ := ab_bnd h
                refine z_callVi 85 [.int q24, .int a2] [some (.ref 85), some (.int q24), some (.int a2)] (pc2 := 114) rfl rfl dX12_knowsAs_111 ok_X12_knowsAs ⟨fun _ => rfl, fun _ => Nat.le_of_ble_eq_true rfl⟩ (Nat.ble_eq_true_of_le (by omega)) rv_85 wd_1342 wd_1344 wd_54 rfl (ih_X12_knowsAs _ _ _ _ hq25) ?_
                refine z_aload_n (pc2 := 115) rfl dX12_knowsAs_114 rfl ?_
                obtain ⟨q26, hq26, h⟩ := ab_bnd h
                refine z_callVi 85 [] [some (.ref 85)] (pc2 := 118) rfl rfl dX12_knowsAs_115 ok_X12_mNow ⟨fun _ => rfl, fun _ => Nat.le_of_ble_eq_true rfl⟩ (Nat.ble_eq_true_of_le (by omega)) rv_85 wd_1346 wd_1348 wd_55 rfl (e_X12_mNow hq26) ?_
                refine z_iadd (pc2 := 119) rfl dX12_knowsAs_118 ?_
                exact z_iret dX12_knowsAs_119 rfl rfl (fi_w h)
              · replace h := ab_neg hc22 h
                have thc1 := ab_ne_toInt (k := 0) hc1 (by decide)
                have thc5 := ab_ne_toInt (k := 1) hc5 (by decide)
                have thc8 := ab_ne_toInt (k := 2) hc8 (by decide)
                have thc12 := ab_ne_toInt (k := 3) hc12 (by decide)
                have thc15 := ab_ne_toInt (k := 4) hc15 (by decide)
                have thc18 := ab_ne_toInt (k := 5) hc18 (by decide)
                have thc22 := ab_ne_toInt (k := 6) hc22 (by decide)
                refine ab_tsOut (tgt := 120) dX12_knowsAs_1 (by omega) (by decide) ?_
                refine z_aload_n (pc2 := 121) rfl dX12_knowsAs_120 rfl ?_
                refine z_iload_n (pc2 := 122) rfl dX12_knowsAs_121 rfl ?_
                obtain ⟨q27, hq27, h⟩ := ab_bnd h
                refine z_callSi [.int a1] [some (.int a1)] (pc2 := 125) rfl rfl dX12_knowsAs_122 ok_X12_above ⟨fun _ => rfl, fun _ => Nat.le_of_ble_eq_true rfl⟩ (Nat.ble_eq_true_of_le (by omega)) wd_1181 wd_1182 rfl (e_X12_above hq27) ?_
                refine z_iload_n (pc2 := 126) rfl dX12_knowsAs_125 rfl ?_
                obtain ⟨q28, hq28, h⟩ := ab_bnd h
                refine z_callVi 85 [.int q27, .int a2] [some (.ref 85), some (.int q27), some (.int a2)] (pc2 := 129) rfl rfl dX12_knowsAs_126 ok_X12_knowsAs ⟨fun _ => rfl, fun _ => Nat.le_of_ble_eq_true rfl⟩ (Nat.ble_eq_true_of_le (by omega)) rv_85 wd_1342 wd_1344 wd_54 rfl (ih_X12_knowsAs _ _ _ _ hq28) ?_
                exact z_iret dX12_knowsAs_129 rfl rfl (fi_w h)
def f_GD : Nat → Nat → Int32 → Int32 → ab_F → Option (Int32 × ab_F)
  | 0, _, _, _, _ => none
  | n + 1, _, a1, a2, σ => g_X12_knowsAs (f_GD n) a1 a2 σ
set_option maxRecDepth 100000 in
set_option maxHeartbeats 4000000 in
theorem e_GD {sc : Nat × (Nat → Int32)} {r : Option Nat × Option Nat} : ∀ n : Nat, (∀ (a1 : Int32) (a2 : Int32) (σ : ab_F) (res : (Int32 × ab_F)), f_GD n 0 a1 a2 σ = some res → ab_E mX12_knowsAs (n + 19) sc 0 [some (.ref 85), some (.int a1), some (.int a2)] [] (σ, r) (fun v S => v = some (.int res.1) ∧ S = (res.2, r))) := by
  intro n
  induction n with
  | zero => intros <;> rename_i h <;> simp only [f_GD] at h <;> cases h
  | succ n ih =>
    have i0 := ih
    · intro a1 a2 σ res h
      exact eg_X12_knowsAs (n0 := n) i0 (by simpa only [f_GD] using h)
theorem e_GD_X12_knowsAs {sc : Nat × (Nat → Int32)} {r : Option Nat × Option Nat} : ∀ (a1 : Int32) (a2 : Int32) (σ : ab_F) (res : (Int32 × ab_F)), f_GD 10 0 a1 a2 σ = some res → ab_E mX12_knowsAs 29 sc 0 [some (.ref 85), some (.int a1), some (.int a2)] [] (σ, r) (fun v S => v = some (.int res.1) ∧ S = (res.2, r)) := (e_GD 10)
def g_X12_sitsAs (rc : Nat → Int32 → Int32 → ab_F → Option (Int32 × ab_F)) (a1 : Int32) (a2 : Int32) (σ : ab_F) : Option (Int32 × ab_F) := (if a1 = (0 : Int32) then (f_X12_begins (12 : Int32) σ).bind (fun q2 => (f_X12_kindNow q2).bind (fun q3 => (f_GD 10 0 q3 a2 q2).bind (fun q4 => (f_X12_mNow q4.2).bind (fun q5 => (some ((q4.1 - q5), q4.2)))))) else if a1 = (1 : Int32) then (f_X12_above a1 σ).bind (fun q7 => (rc 0 q7 a2 σ).bind (fun q8 => (some (q8.1, q8.2)))) else if a1 = (2 : Int32) then (f_X12_above a1 σ).bind (fun q10 => (rc 0 q10 a2 σ).bind (fun q11 => (some (q11.1, q11.2)))) else if a1 = (3 : Int32) then (f_X12_begins (40 : Int32) σ).bind (fun q13 => (f_X12_above (3 : Int32) q13).bind (fun q14 => (rc 0 q14 (a2 / (2 : Int32)) q13).bind (fun q15 => (some (q15.1, q15.2))))) else if a1 = (4 : Int32) then (f_X12_begins (51 : Int32) σ).bind (fun q17 => (f_X12_above (4 : Int32) q17).bind (fun q18 => (rc 0 q18 a2 q17).bind (fun q19 => (some ((q19.1 ^^^ (q19.2 85 14)), q19.2))))) else (f_X12_above a1 σ).bind (fun q20 => (rc 0 q20 a2 σ).bind (fun q21 => (some (q21.1, q21.2)))))
set_option maxRecDepth 100000 in
set_option maxHeartbeats 4000000 in
theorem eg_X12_sitsAs {sc : Nat × (Nat → Int32)} {r : Option Nat × Option Nat} {n0 : Nat} {rc : Nat → Int32 → Int32 → ab_F → Option (Int32 × ab_F)} (ih_X12_sitsAs : ∀ (a1 : Int32) (a2 : Int32) (σ : ab_F) (res : (Int32 × ab_F)), rc 0 a1 a2 σ = some res → ab_E mX12_sitsAs (n0 + 30) sc 0 [some (.ref 85), some (.int a1), some (.int a2)] [] (σ, r) (fun v S => v = some (.int res.1) ∧ S = (res.2, r))) {a1 : Int32} {a2 : Int32} {σ : ab_F} {res : (Int32 × ab_F)} (h : g_X12_sitsAs rc a1 a2 σ = some res) : ab_E mX12_sitsAs (n0 + 31) sc 0 [some (.ref 85), some (.int a1), some (.int a2)] [] (σ, r) (fun v S => v = some (.int res.1) ∧ S = (res.2, r)) := by
  unfold g_X12_sitsAs at h
  refine z_iload_n (pc2 := 1) rfl dX12_sitsAs_0 rfl ?_
  by_cases hc1 : a1 = (0 : Int32)
  · replace h := ab_pos hc1 h
    refine ab_tsIn (tgt := 36) dX12_sitsAs_1 (by rw [hc1]; decide) (by rw [hc1]; decide) (by rw [hc1]; rfl) (by decide) ?_
    refine z_aload_n (pc2 := 37) rfl dX12_sitsAs_36 rfl ?_
    refine z_bipush (pc2 := 39) rfl dX12_sitsAs_37 lt_b_12 ?_
    obtain ⟨q2, hq2, h⟩ := ab_bnd h
    refine z_callVv 85 [.int (12 : Int32)] [some (.ref 85), some (.int (12 : Int32))] (pc2 := 42) rfl rfl dX12_sitsAs_39 ok_X12_begins ⟨fun _ => rfl, fun _ => Nat.le_of_ble_eq_true rfl⟩ (Nat.ble_eq_true_of_le (by omega)) rv_85 wd_1338 wd_1340 wd_53 rfl (e_X12_begins hq2) ?_
    refine z_aload_n (pc2 := 43) rfl dX12_sitsAs_42 rfl ?_
    refine z_aload_n (pc2 := 44) rfl dX12_sitsAs_43 rfl ?_
    obtain ⟨q3, hq3, h⟩ := ab_bnd h
    refine z_callVi 85 [] [some (.ref 85)] (pc2 := 47) rfl rfl dX12_sitsAs_44 ok_X12_kindNow ⟨fun _ => rfl, fun _ => Nat.le_of_ble_eq_true rfl⟩ (Nat.ble_eq_true_of_le (by omega)) rv_85 wd_1330 wd_1332 wd_51 rfl (e_X12_kindNow hq3) ?_
    refine z_iload_n (pc2 := 48) rfl dX12_sitsAs_47 rfl ?_
    obtain ⟨q4, hq4, h⟩ := ab_bnd h
    refine z_callVi 85 [.int q3, .int a2] [some (.ref 85), some (.int q3), some (.int a2)] (pc2 := 51) rfl rfl dX12_sitsAs_48 ok_X12_knowsAs ⟨fun _ => rfl, fun _ => Nat.le_of_ble_eq_true rfl⟩ (Nat.ble_eq_true_of_le (by omega)) rv_85 wd_1342 wd_1344 wd_54 rfl (e_GD_X12_knowsAs _ _ _ _ hq4) ?_
    refine z_aload_n (pc2 := 52) rfl dX12_sitsAs_51 rfl ?_
    obtain ⟨q5, hq5, h⟩ := ab_bnd h
    refine z_callVi 85 [] [some (.ref 85)] (pc2 := 55) rfl rfl dX12_sitsAs_52 ok_X12_mNow ⟨fun _ => rfl, fun _ => Nat.le_of_ble_eq_true rfl⟩ (Nat.ble_eq_true_of_le (by omega)) rv_85 wd_1346 wd_1348 wd_55 rfl (e_X12_mNow hq5) ?_
    refine z_isub (pc2 := 56) rfl dX12_sitsAs_55 ?_
    exact z_iret dX12_sitsAs_56 rfl rfl (fi_w h)
  · replace h := ab_neg hc1 h
    by_cases hc6 : a1 = (1 : Int32)
    · replace h := ab_pos hc6 h
      refine ab_tsIn (tgt := 96) dX12_sitsAs_1 (by rw [hc6]; decide) (by rw [hc6]; decide) (by rw [hc6]; rfl) (by decide) ?_
      refine z_aload_n (pc2 := 97) rfl dX12_sitsAs_96 rfl ?_
      refine z_iload_n (pc2 := 98) rfl dX12_sitsAs_97 rfl ?_
      obtain ⟨q7, hq7, h⟩ := ab_bnd h
      refine z_callSi [.int a1] [some (.int a1)] (pc2 := 101) rfl rfl dX12_sitsAs_98 ok_X12_above ⟨fun _ => rfl, fun _ => Nat.le_of_ble_eq_true rfl⟩ (Nat.ble_eq_true_of_le (by omega)) wd_1181 wd_1182 rfl (e_X12_above hq7) ?_
      refine z_iload_n (pc2 := 102) rfl dX12_sitsAs_101 rfl ?_
      obtain ⟨q8, hq8, h⟩ := ab_bnd h
      refine z_callVi 85 [.int q7, .int a2] [some (.ref 85), some (.int q7), some (.int a2)] (pc2 := 105) rfl rfl dX12_sitsAs_102 ok_X12_sitsAs ⟨fun _ => rfl, fun _ => Nat.le_of_ble_eq_true rfl⟩ (Nat.ble_eq_true_of_le (by omega)) rv_85 wd_1350 wd_1352 wd_56 rfl (ih_X12_sitsAs _ _ _ _ hq8) ?_
      exact z_iret dX12_sitsAs_105 rfl rfl (fi_w h)
    · replace h := ab_neg hc6 h
      by_cases hc9 : a1 = (2 : Int32)
      · replace h := ab_pos hc9 h
        refine ab_tsIn (tgt := 96) dX12_sitsAs_1 (by rw [hc9]; decide) (by rw [hc9]; decide) (by rw [hc9]; rfl) (by decide) ?_
        refine z_aload_n (pc2 := 97) rfl dX12_sitsAs_96 rfl ?_
        refine z_iload_n (pc2 := 98) rfl dX12_sitsAs_97 rfl ?_
        obtain ⟨q10, hq10, h⟩ := ab_bnd h
        refine z_callSi [.int a1] [some (.int a1)] (pc2 := 101) rfl rfl dX12_sitsAs_98 ok_X12_above ⟨fun _ => rfl, fun _ => Nat.le_of_ble_eq_true rfl⟩ (Nat.ble_eq_true_of_le (by omega)) wd_1181 wd_1182 rfl (e_X12_above hq10) ?_
        refine z_iload_n (pc2 := 102) rfl dX12_sitsAs_101 rfl ?_
        obtain ⟨q11, hq11, h⟩ := ab_bnd h
        refine z_callVi 85 [.int q10, .int a2] [some (.ref 85), some (.int q10), some (.int a2)] (pc2 := 105) rfl rfl dX12_sitsAs_102 ok_X12_sitsAs ⟨fun _ => rfl, fun _ => Nat.le_of_ble_eq_true rfl⟩ (Nat.ble_eq_true_of_le (by omega)) rv_85 wd_1350 wd_1352 wd_56 rfl (ih_X12_sitsAs _ _ _ _ hq11) ?_
        exact z_iret dX12_sitsAs_105 rfl rfl (fi_w h)
      · replace h := ab_neg hc9 h
        by_cases hc12 : a1 = (3 : Int32)
        · replace h := ab_pos hc12 h
          refine ab_tsIn (tgt := 57) dX12_sitsAs_1 (by rw [hc12]; decide) (by rw [hc12]; decide) (by rw [hc12]; rfl) (by decide) ?_
          refine z_aload_n (pc2 := 58) rfl dX12_sitsAs_57 rfl ?_
          refine z_bipush (pc2 := 60) rfl dX12_sitsAs_58 lt_b_40 ?_
          obtain ⟨q13, hq13, h⟩ := ab_bnd h
          refine z_callVv 85 [.int (40 : Int32)] [some (.ref 85), some (.int (40 : Int32))] (pc2 := 63) rfl rfl dX12_sitsAs_60 ok_X12_begins ⟨fun _ => rfl, fun _ => Nat.le_of_ble_eq_true rfl⟩ (Nat.ble_eq_true_of_le (by omega)) rv_85 wd_1338 wd_1340 wd_53 rfl (e_X12_begins hq13) ?_
          refine z_aload_n (pc2 := 64) rfl dX12_sitsAs_63 rfl ?_
          refine z_iconst (pc2 := 65) rfl dX12_sitsAs_64 lt_i_3 ?_
          obtain ⟨q14, hq14, h⟩ := ab_bnd h
          refine z_callSi [.int (3 : Int32)] [some (.int (3 : Int32))] (pc2 := 68) rfl rfl dX12_sitsAs_65 ok_X12_above ⟨fun _ => rfl, fun _ => Nat.le_of_ble_eq_true rfl⟩ (Nat.ble_eq_true_of_le (by omega)) wd_1181 wd_1182 rfl (e_X12_above hq14) ?_
          refine z_iload_n (pc2 := 69) rfl dX12_sitsAs_68 rfl ?_
          refine z_iconst (pc2 := 70) rfl dX12_sitsAs_69 lt_i_2 ?_
          refine z_idiv (pc2 := 71) rfl dX12_sitsAs_70 (by decide) ?_
          obtain ⟨q15, hq15, h⟩ := ab_bnd h
          refine z_callVi 85 [.int q14, .int (a2 / (2 : Int32))] [some (.ref 85), some (.int q14), some (.int (a2 / (2 : Int32)))] (pc2 := 74) rfl rfl dX12_sitsAs_71 ok_X12_sitsAs ⟨fun _ => rfl, fun _ => Nat.le_of_ble_eq_true rfl⟩ (Nat.ble_eq_true_of_le (by omega)) rv_85 wd_1350 wd_1352 wd_56 rfl (ih_X12_sitsAs _ _ _ _ hq15) ?_
          exact z_iret dX12_sitsAs_74 rfl rfl (fi_w h)
        · replace h := ab_neg hc12 h
          by_cases hc16 : a1 = (4 : Int32)
          · replace h := ab_pos hc16 h
            refine ab_tsIn (tgt := 75) dX12_sitsAs_1 (by rw [hc16]; decide) (by rw [hc16]; decide) (by rw [hc16]; rfl) (by decide) ?_
            refine z_aload_n (pc2 := 76) rfl dX12_sitsAs_75 rfl ?_
            refine z_bipush (pc2 := 78) rfl dX12_sitsAs_76 lt_b_51 ?_
            obtain ⟨q17, hq17, h⟩ := ab_bnd h
            refine z_callVv 85 [.int (51 : Int32)] [some (.ref 85), some (.int (51 : Int32))] (pc2 := 81) rfl rfl dX12_sitsAs_78 ok_X12_begins ⟨fun _ => rfl, fun _ => Nat.le_of_ble_eq_true rfl⟩ (Nat.ble_eq_true_of_le (by omega)) rv_85 wd_1338 wd_1340 wd_53 rfl (e_X12_begins hq17) ?_
            refine z_aload_n (pc2 := 82) rfl dX12_sitsAs_81 rfl ?_
            refine z_iconst (pc2 := 83) rfl dX12_sitsAs_82 lt_i_4 ?_
            obtain ⟨q18, hq18, h⟩ := ab_bnd h
            refine z_callSi [.int (4 : Int32)] [some (.int (4 : Int32))] (pc2 := 86) rfl rfl dX12_sitsAs_83 ok_X12_above ⟨fun _ => rfl, fun _ => Nat.le_of_ble_eq_true rfl⟩ (Nat.ble_eq_true_of_le (by omega)) wd_1181 wd_1182 rfl (e_X12_above hq18) ?_
            refine z_iload_n (pc2 := 87) rfl dX12_sitsAs_86 rfl ?_
            obtain ⟨q19, hq19, h⟩ := ab_bnd h
            refine z_callVi 85 [.int q18, .int a2] [some (.ref 85), some (.int q18), some (.int a2)] (pc2 := 90) rfl rfl dX12_sitsAs_87 ok_X12_sitsAs ⟨fun _ => rfl, fun _ => Nat.le_of_ble_eq_true rfl⟩ (Nat.ble_eq_true_of_le (by omega)) rv_85 wd_1350 wd_1352 wd_56 rfl (ih_X12_sitsAs _ _ _ _ hq19) ?_
            refine z_aload_n (pc2 := 91) rfl dX12_sitsAs_90 rfl ?_
            refine z_getI 85 12 14 (pc2 := 94) rfl dX12_sitsAs_91 rfl rfl ff_12_14 wd_991 ?_
            refine z_ixor (pc2 := 95) rfl dX12_sitsAs_94 ?_
            exact z_iret dX12_sitsAs_95 rfl rfl (fi_w h)
          · replace h := ab_neg hc16 h
            have thc1 := ab_ne_toInt (k := 0) hc1 (by decide)
            have thc6 := ab_ne_toInt (k := 1) hc6 (by decide)
            have thc9 := ab_ne_toInt (k := 2) hc9 (by decide)
            have thc12 := ab_ne_toInt (k := 3) hc12 (by decide)
            have thc16 := ab_ne_toInt (k := 4) hc16 (by decide)
            refine ab_tsOut (tgt := 96) dX12_sitsAs_1 (by omega) (by decide) ?_
            refine z_aload_n (pc2 := 97) rfl dX12_sitsAs_96 rfl ?_
            refine z_iload_n (pc2 := 98) rfl dX12_sitsAs_97 rfl ?_
            obtain ⟨q20, hq20, h⟩ := ab_bnd h
            refine z_callSi [.int a1] [some (.int a1)] (pc2 := 101) rfl rfl dX12_sitsAs_98 ok_X12_above ⟨fun _ => rfl, fun _ => Nat.le_of_ble_eq_true rfl⟩ (Nat.ble_eq_true_of_le (by omega)) wd_1181 wd_1182 rfl (e_X12_above hq20) ?_
            refine z_iload_n (pc2 := 102) rfl dX12_sitsAs_101 rfl ?_
            obtain ⟨q21, hq21, h⟩ := ab_bnd h
            refine z_callVi 85 [.int q20, .int a2] [some (.ref 85), some (.int q20), some (.int a2)] (pc2 := 105) rfl rfl dX12_sitsAs_102 ok_X12_sitsAs ⟨fun _ => rfl, fun _ => Nat.le_of_ble_eq_true rfl⟩ (Nat.ble_eq_true_of_le (by omega)) rv_85 wd_1350 wd_1352 wd_56 rfl (ih_X12_sitsAs _ _ _ _ hq21) ?_
            exact z_iret dX12_sitsAs_105 rfl rfl (fi_w h)
def f_GE : Nat → Nat → Int32 → Int32 → ab_F → Option (Int32 × ab_F)
  | 0, _, _, _, _ => none
  | n + 1, _, a1, a2, σ => g_X12_sitsAs (f_GE n) a1 a2 σ
set_option maxRecDepth 100000 in
set_option maxHeartbeats 4000000 in
theorem e_GE {sc : Nat × (Nat → Int32)} {r : Option Nat × Option Nat} : ∀ n : Nat, (∀ (a1 : Int32) (a2 : Int32) (σ : ab_F) (res : (Int32 × ab_F)), f_GE n 0 a1 a2 σ = some res → ab_E mX12_sitsAs (n + 30) sc 0 [some (.ref 85), some (.int a1), some (.int a2)] [] (σ, r) (fun v S => v = some (.int res.1) ∧ S = (res.2, r))) := by
  intro n
  induction n with
  | zero => intros <;> rename_i h <;> simp only [f_GE] at h <;> cases h
  | succ n ih =>
    have i0 := ih
    · intro a1 a2 σ res h
      exact eg_X12_sitsAs (n0 := n) i0 (by simpa only [f_GE] using h)
theorem e_GE_X12_sitsAs {sc : Nat × (Nat → Int32)} {r : Option Nat × Option Nat} : ∀ (a1 : Int32) (a2 : Int32) (σ : ab_F) (res : (Int32 × ab_F)), f_GE 10 0 a1 a2 σ = some res → ab_E mX12_sitsAs 40 sc 0 [some (.ref 85), some (.int a1), some (.int a2)] [] (σ, r) (fun v S => v = some (.int res.1) ∧ S = (res.2, r)) := (e_GE 10)
def g_X12_partsAs (rc : Nat → Int32 → Int32 → ab_F → Option (Int32 × ab_F)) (a1 : Int32) (a2 : Int32) (σ : ab_F) : Option (Int32 × ab_F) := (if a1 = (0 : Int32) then (f_X12_begins (13 : Int32) σ).bind (fun q2 => (f_X12_mNow q2).bind (fun q3 => ab_lt ((q3 - (q2 85 14))) (fun x4 => (if x4 = 0 then ab_lt (ab_u q2 85 15 (1 : Int32)) (fun (s10 : ab_F) => (if x4 = 0 then (some ((0 : Int32), s10)) else (if x4 = (-1 : Int32) then (some ((-a2), s10)) else ab_ck (ab_nz x4) ((some ((a2 / x4), s10)))))) else ab_lt (ab_u q2 85 15 (0 : Int32)) (fun (s6 : ab_F) => (if x4 = 0 then (some ((0 : Int32), s6)) else (if x4 = (-1 : Int32) then (some ((-a2), s6)) else ab_ck (ab_nz x4) ((some ((a2 / x4), s6)))))))))) else if a1 = (1 : Int32) then (f_X12_begins (21 : Int32) σ).bind (fun q15 => (f_X12_above (1 : Int32) q15).bind (fun q16 => (rc 0 q16 a2 q15).bind (fun q17 => ab_lt (q17.1) (fun x18 => (if (q17.2 85 15) = 0 then (f_X12_kindNow q17.2).bind (fun q20 => (f_GD 10 0 q20 (1 : Int32) q17.2).bind (fun q21 => (some ((x18 + q21.1), q21.2)))) else (some ((0 : Int32), q17.2))))))) else (f_X12_above a1 σ).bind (fun q22 => (rc 0 q22 a2 σ).bind (fun q23 => (some (q23.1, q23.2)))))
set_option maxRecDepth 100000 in
set_option maxHeartbeats 4000000 in
theorem eg_X12_partsAs {sc : Nat × (Nat → Int32)} {r : Option Nat × Option Nat} {n0 : Nat} {rc : Nat → Int32 → Int32 → ab_F → Option (Int32 × ab_F)} (ih_X12_partsAs : ∀ (a1 : Int32) (a2 : Int32) (σ : ab_F) (res : (Int32 × ab_F)), rc 0 a1 a2 σ = some res → ab_E mX12_partsAs (n0 + 30) sc 0 [some (.ref 85), some (.int a1), some (.int a2), none, none] [] (σ, r) (fun v S => v = some (.int res.1) ∧ S = (res.2, r))) {a1 : Int32} {a2 : Int32} {σ : ab_F} {res : (Int32 × ab_F)} (h : g_X12_partsAs rc a1 a2 σ = some res) : ab_E mX12_partsAs (n0 + 31) sc 0 [some (.ref 85), some (.int a1), some (.int a2), none, none] [] (σ, r) (fun v S => v = some (.int res.1) ∧ S = (res.2, r)) := by
  unfold g_X12_partsAs at h
  refine z_iload_n (pc2 := 1) rfl dX12_partsAs_0 rfl ?_
  by_cases hc1 : a1 = (0 : Int32)
  · replace h := ab_pos hc1 h
    refine ab_ls (off := 27) (tgt := 28) dX12_partsAs_1 (by decide) (by rw [hc1]; decide) (by decide) ?_
    refine z_aload_n (pc2 := 29) rfl dX12_partsAs_28 rfl ?_
    refine z_bipush (pc2 := 31) rfl dX12_partsAs_29 lt_b_13 ?_
    obtain ⟨q2, hq2, h⟩ := ab_bnd h
    refine z_callVv 85 [.int (13 : Int32)] [some (.ref 85), some (.int (13 : Int32))] (pc2 := 34) rfl rfl dX12_partsAs_31 ok_X12_begins ⟨fun _ => rfl, fun _ => Nat.le_of_ble_eq_true rfl⟩ (Nat.ble_eq_true_of_le (by omega)) rv_85 wd_1338 wd_1340 wd_53 rfl (e_X12_begins hq2) ?_
    refine z_aload_n (pc2 := 35) rfl dX12_partsAs_34 rfl ?_
    obtain ⟨q3, hq3, h⟩ := ab_bnd h
    refine z_callVi 85 [] [some (.ref 85)] (pc2 := 38) rfl rfl dX12_partsAs_35 ok_X12_mNow ⟨fun _ => rfl, fun _ => Nat.le_of_ble_eq_true rfl⟩ (Nat.ble_eq_true_of_le (by omega)) rv_85 wd_1346 wd_1348 wd_55 rfl (e_X12_mNow hq3) ?_
    refine z_aload_n (pc2 := 39) rfl dX12_partsAs_38 rfl ?_
    refine z_getI 85 12 14 (pc2 := 42) rfl dX12_partsAs_39 rfl rfl ff_12_14 wd_991 ?_
    refine z_isub (pc2 := 43) rfl dX12_partsAs_42 ?_
    obtain ⟨x4, hxx4, h⟩ := ab_lt_e h
    refine z_top hxx4 ?_
    refine z_istore_n (pc2 := 44) (L2 := [some (.ref 85), some (.int a1), some (.int a2), some (.int x4), none]) rfl dX12_partsAs_43 (by decide) rfl rfl ?_
    refine z_aload_n (pc2 := 45) rfl dX12_partsAs_44 rfl ?_
    refine z_iload_n (pc2 := 46) rfl dX12_partsAs_45 rfl ?_
    refine z_if_ne (pc2 := 49) (tgt := 53) rfl dX12_partsAs_46 (by decide) (fun hc5 => ?_) (fun hc5 => ?_)
    · replace h := ab_neg hc5 h
      refine z_iconst (pc2 := 54) rfl dX12_partsAs_53 lt_i_0 ?_
      refine z_putI 85 12 15 (pc2 := 57) (ft := .boolean) rfl dX12_partsAs_54 rfl rfl ff_12_15 wd_992 rfl (by decide +kernel) rfl rfl ?_
      obtain ⟨s6, hs6, h⟩ := ab_lt_e h
      refine z_tops hs6 ?_
      refine z_iload_n (pc2 := 58) rfl dX12_partsAs_57 rfl ?_
      refine z_if_ne (pc2 := 61) (tgt := 65) rfl dX12_partsAs_58 (by decide) (fun hc7 => ?_) (fun hc7 => ?_)
      · replace h := ab_neg hc7 h
        refine z_iload_n (pc2 := 66) rfl dX12_partsAs_65 rfl ?_
        refine z_iconst (pc2 := 67) rfl dX12_partsAs_66 lt_i_m1 ?_
        refine z_icmp_ne (pc2 := 70) (tgt := 75) rfl dX12_partsAs_67 (by decide) (fun hc8 => ?_) (fun hc8 => ?_)
        · replace h := ab_neg hc8 h
          refine z_iload_n (pc2 := 76) rfl dX12_partsAs_75 rfl ?_
          refine z_iload_n (pc2 := 77) rfl dX12_partsAs_76 rfl ?_
          obtain ⟨hb9, h⟩ := ab_ck_e h
          refine z_idiv (pc2 := 78) rfl dX12_partsAs_77 (ab_nz_e hb9) ?_
          exact z_iret dX12_partsAs_78 rfl rfl (fi_w h)
        · replace h := ab_pos hc8 h
          refine z_iload_n (pc2 := 71) rfl dX12_partsAs_70 rfl ?_
          refine z_ineg (pc2 := 72) rfl dX12_partsAs_71 ?_
          refine ab_goto (tgt := 78) dX12_partsAs_72 (by decide) ?_
          exact z_iret dX12_partsAs_78 rfl rfl (fi_w h)
      · replace h := ab_pos hc7 h
        refine z_iconst (pc2 := 62) rfl dX12_partsAs_61 lt_i_0 ?_
        refine ab_goto (tgt := 78) dX12_partsAs_62 (by decide) ?_
        exact z_iret dX12_partsAs_78 rfl rfl (fi_w h)
    · replace h := ab_pos hc5 h
      refine z_iconst (pc2 := 50) rfl dX12_partsAs_49 lt_i_1 ?_
      refine ab_goto (tgt := 54) dX12_partsAs_50 (by decide) ?_
      refine z_putI 85 12 15 (pc2 := 57) (ft := .boolean) rfl dX12_partsAs_54 rfl rfl ff_12_15 wd_992 rfl (by decide +kernel) rfl rfl ?_
      obtain ⟨s10, hs10, h⟩ := ab_lt_e h
      refine z_tops hs10 ?_
      refine z_iload_n (pc2 := 58) rfl dX12_partsAs_57 rfl ?_
      refine z_if_ne (pc2 := 61) (tgt := 65) rfl dX12_partsAs_58 (by decide) (fun hc11 => ?_) (fun hc11 => ?_)
      · replace h := ab_neg hc11 h
        refine z_iload_n (pc2 := 66) rfl dX12_partsAs_65 rfl ?_
        refine z_iconst (pc2 := 67) rfl dX12_partsAs_66 lt_i_m1 ?_
        refine z_icmp_ne (pc2 := 70) (tgt := 75) rfl dX12_partsAs_67 (by decide) (fun hc12 => ?_) (fun hc12 => ?_)
        · replace h := ab_neg hc12 h
          refine z_iload_n (pc2 := 76) rfl dX12_partsAs_75 rfl ?_
          refine z_iload_n (pc2 := 77) rfl dX12_partsAs_76 rfl ?_
          obtain ⟨hb13, h⟩ := ab_ck_e h
          refine z_idiv (pc2 := 78) rfl dX12_partsAs_77 (ab_nz_e hb13) ?_
          exact z_iret dX12_partsAs_78 rfl rfl (fi_w h)
        · replace h := ab_pos hc12 h
          refine z_iload_n (pc2 := 71) rfl dX12_partsAs_70 rfl ?_
          refine z_ineg (pc2 := 72) rfl dX12_partsAs_71 ?_
          refine ab_goto (tgt := 78) dX12_partsAs_72 (by decide) ?_
          exact z_iret dX12_partsAs_78 rfl rfl (fi_w h)
      · replace h := ab_pos hc11 h
        refine z_iconst (pc2 := 62) rfl dX12_partsAs_61 lt_i_0 ?_
        refine ab_goto (tgt := 78) dX12_partsAs_62 (by decide) ?_
        exact z_iret dX12_partsAs_78 rfl rfl (fi_w h)
  · replace h := ab_neg hc1 h
    by_cases hc14 : a1 = (1 : Int32)
    · replace h := ab_pos hc14 h
      refine ab_ls (off := 78) (tgt := 79) dX12_partsAs_1 (by decide) (by rw [hc14]; decide) (by decide) ?_
      refine z_aload_n (pc2 := 80) rfl dX12_partsAs_79 rfl ?_
      refine z_bipush (pc2 := 82) rfl dX12_partsAs_80 lt_b_21 ?_
      obtain ⟨q15, hq15, h⟩ := ab_bnd h
      refine z_callVv 85 [.int (21 : Int32)] [some (.ref 85), some (.int (21 : Int32))] (pc2 := 85) rfl rfl dX12_partsAs_82 ok_X12_begins ⟨fun _ => rfl, fun _ => Nat.le_of_ble_eq_true rfl⟩ (Nat.ble_eq_true_of_le (by omega)) rv_85 wd_1338 wd_1340 wd_53 rfl (e_X12_begins hq15) ?_
      refine z_aload_n (pc2 := 86) rfl dX12_partsAs_85 rfl ?_
      refine z_iconst (pc2 := 87) rfl dX12_partsAs_86 lt_i_1 ?_
      obtain ⟨q16, hq16, h⟩ := ab_bnd h
      refine z_callSi [.int (1 : Int32)] [some (.int (1 : Int32))] (pc2 := 90) rfl rfl dX12_partsAs_87 ok_X12_above ⟨fun _ => rfl, fun _ => Nat.le_of_ble_eq_true rfl⟩ (Nat.ble_eq_true_of_le (by omega)) wd_1181 wd_1182 rfl (e_X12_above hq16) ?_
      refine z_iload_n (pc2 := 91) rfl dX12_partsAs_90 rfl ?_
      obtain ⟨q17, hq17, h⟩ := ab_bnd h
      refine z_callVi 85 [.int q16, .int a2] [some (.ref 85), some (.int q16), some (.int a2), none, none] (pc2 := 94) rfl rfl dX12_partsAs_91 ok_X12_partsAs ⟨fun _ => rfl, fun _ => Nat.le_of_ble_eq_true rfl⟩ (Nat.ble_eq_true_of_le (by omega)) rv_85 wd_1354 wd_1356 wd_57 rfl (ih_X12_partsAs _ _ _ _ hq17) ?_
      obtain ⟨x18, hxx18, h⟩ := ab_lt_e h
      refine z_top hxx18 ?_
      refine z_istore (pc2 := 96) (L2 := [some (.ref 85), some (.int a1), some (.int a2), none, some (.int x18)]) rfl dX12_partsAs_94 (by decide) rfl rfl ?_
      refine z_aload_n (pc2 := 97) rfl dX12_partsAs_96 rfl ?_
      refine z_getI 85 12 15 (pc2 := 100) rfl dX12_partsAs_97 rfl rfl ff_12_15 wd_992 ?_
      refine z_if_eq (pc2 := 103) (tgt := 107) rfl dX12_partsAs_100 (by decide) (fun hc19 => ?_) (fun hc19 => ?_)
      · replace h := ab_pos hc19 h
        refine z_iload (pc2 := 109) rfl dX12_partsAs_107 rfl ?_
        refine z_aload_n (pc2 := 110) rfl dX12_partsAs_109 rfl ?_
        refine z_aload_n (pc2 := 111) rfl dX12_partsAs_110 rfl ?_
        obtain ⟨q20, hq20, h⟩ := ab_bnd h
        refine z_callVi 85 [] [some (.ref 85)] (pc2 := 114) rfl rfl dX12_partsAs_111 ok_X12_kindNow ⟨fun _ => rfl, fun _ => Nat.le_of_ble_eq_true rfl⟩ (Nat.ble_eq_true_of_le (by omega)) rv_85 wd_1330 wd_1332 wd_51 rfl (e_X12_kindNow hq20) ?_
        refine z_iconst (pc2 := 115) rfl dX12_partsAs_114 lt_i_1 ?_
        obtain ⟨q21, hq21, h⟩ := ab_bnd h
        refine z_callVi 85 [.int q20, .int (1 : Int32)] [some (.ref 85), some (.int q20), some (.int (1 : Int32))] (pc2 := 118) rfl rfl dX12_partsAs_115 ok_X12_knowsAs ⟨fun _ => rfl, fun _ => Nat.le_of_ble_eq_true rfl⟩ (Nat.ble_eq_true_of_le (by omega)) rv_85 wd_1342 wd_1344 wd_54 rfl (e_GD_X12_knowsAs _ _ _ _ hq21) ?_
        refine z_iadd (pc2 := 119) rfl dX12_partsAs_118 ?_
        exact z_iret dX12_partsAs_119 rfl rfl (fi_w h)
      · replace h := ab_neg hc19 h
        refine z_iconst (pc2 := 104) rfl dX12_partsAs_103 lt_i_0 ?_
        refine ab_goto (tgt := 119) dX12_partsAs_104 (by decide) ?_
        exact z_iret dX12_partsAs_119 rfl rfl (fi_w h)
    · replace h := ab_neg hc14 h
      refine ab_ls (off := 119) (tgt := 120) dX12_partsAs_1 (by decide) (by show Op.lookupswitch.offset [(0, 27), (1, 78)] 119 _ = _; rw [lv_osw hc1 (by decide)]; rw [lv_osw hc14 (by decide)]; rfl) (by decide) ?_
      refine z_aload_n (pc2 := 121) rfl dX12_partsAs_120 rfl ?_
      refine z_iload_n (pc2 := 122) rfl dX12_partsAs_121 rfl ?_
      obtain ⟨q22, hq22, h⟩ := ab_bnd h
      refine z_callSi [.int a1] [some (.int a1)] (pc2 := 125) rfl rfl dX12_partsAs_122 ok_X12_above ⟨fun _ => rfl, fun _ => Nat.le_of_ble_eq_true rfl⟩ (Nat.ble_eq_true_of_le (by omega)) wd_1181 wd_1182 rfl (e_X12_above hq22) ?_
      refine z_iload_n (pc2 := 126) rfl dX12_partsAs_125 rfl ?_
      obtain ⟨q23, hq23, h⟩ := ab_bnd h
      refine z_callVi 85 [.int q22, .int a2] [some (.ref 85), some (.int q22), some (.int a2), none, none] (pc2 := 129) rfl rfl dX12_partsAs_126 ok_X12_partsAs ⟨fun _ => rfl, fun _ => Nat.le_of_ble_eq_true rfl⟩ (Nat.ble_eq_true_of_le (by omega)) rv_85 wd_1354 wd_1356 wd_57 rfl (ih_X12_partsAs _ _ _ _ hq23) ?_
      exact z_iret dX12_partsAs_129 rfl rfl (fi_w h)
