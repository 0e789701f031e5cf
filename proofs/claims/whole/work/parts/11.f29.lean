def f_GF : Nat → Nat → Int32 → Int32 → ab_F → Option (Int32 × ab_F)
  | 0, _, _, _, _ => none
  | n + 1, _, a1, a2, σ => g_X12_partsAs (f_GF n) a1 a2 σ
set_option maxRecDepth 100000 in
set_option maxHeartbeats 4000000 in
theorem e_GF {sc : Nat × (Nat → Int32)} {r : Option Nat × Option Nat} : ∀ n : Nat, (∀ (a1 : Int32) (a2 : Int32) (σ : ab_F) (res : (Int32 × ab_F)), f_GF n 0 a1 a2 σ = some res → ab_E mX12_partsAs (n + 30) sc 0 [some (.ref 85), some (.int a1), some (.int a2), none, none] [] (σ, r) (fun v S => v = some (.int res.1) ∧ S = (res.2, r))) := by
  intro n
  induction n with
  | zero => intros <;> rename_i h <;> simp only [f_GF] at h <;> cases h
  | succ n ih =>
    have i0 := ih
    · intro a1 a2 σ res h
      exact eg_X12_partsAs (n0 := n) i0 (by simpa only [f_GF] using h)
theorem e_GF_X12_partsAs {sc : Nat × (Nat → Int32)} {r : Option Nat × Option Nat} : ∀ (a1 : Int32) (a2 : Int32) (σ : ab_F) (res : (Int32 × ab_F)), f_GF 10 0 a1 a2 σ = some res → ab_E mX12_partsAs 40 sc 0 [some (.ref 85), some (.int a1), some (.int a2), none, none] [] (σ, r) (fun v S => v = some (.int res.1) ∧ S = (res.2, r)) := (e_GF 10)
def f_X12_voice (a1 : Int32) (a2 : Int32) (a3 : Int32) (σ : ab_F) : Option (Int32 × ab_F) := (f_X12_isOne a1 σ).bind (fun q1 => (if (ab_b q1) = 0 then (f_X12_error (1 : Int32) σ).bind (fun q3 => (some (q3.1, q3.2))) else (f_X12_in a2 (0 : Int32) (3 : Int32) σ).bind (fun q4 => (if (ab_b q4) = 0 then (f_X12_error (1 : Int32) σ).bind (fun q29 => (some (q29.1, q29.2))) else ab_lt (ab_u σ 85 12 (0 : Int32)) (fun (s6 : ab_F) => ab_lt (ab_u s6 85 14 a1) (fun (s7 : ab_F) => ab_lt (ab_u s7 85 15 (0 : Int32)) (fun (s8 : ab_F) => (f_X12_kindNow s8).bind (fun q9 => (if a2 = 0 then (f_GC 10 0 q9 a3 s8).bind (fun q25 => ab_lt (q25.1) (fun x26 => (if (q25.2 85 15) = 0 then (some (x26, q25.2)) else (f_X12_error (6 : Int32) q25.2).bind (fun q28 => (some (q28.1, q28.2)))))) else (if a2 = (1 : Int32) then (f_GD 10 0 q9 a3 s8).bind (fun q21 => ab_lt (q21.1) (fun x22 => (if (q21.2 85 15) = 0 then (some (x22, q21.2)) else (f_X12_error (6 : Int32) q21.2).bind (fun q24 => (some (q24.1, q24.2)))))) else (if a2 = (2 : Int32) then (f_GE 10 0 q9 a3 s8).bind (fun q17 => ab_lt (q17.1) (fun x18 => (if (q17.2 85 15) = 0 then (some (x18, q17.2)) else (f_X12_error (6 : Int32) q17.2).bind (fun q20 => (some (q20.1, q20.2)))))) else (f_GF 10 0 q9 a3 s8).bind (fun q13 => ab_lt (q13.1) (fun x14 => (if (q13.2 85 15) = 0 then (some (x14, q13.2)) else (f_X12_error (6 : Int32) q13.2).bind (fun q16 => (some (q16.1, q16.2)))))))))))))))))
set_option maxRecDepth 100000 in
set_option maxHeartbeats 4000000 in
theorem e_X12_voice {sc : Nat × (Nat → Int32)} {r : Option Nat × Option Nat} {a1 : Int32} {a2 : Int32} {a3 : Int32} {σ : ab_F} {res : (Int32 × ab_F)} (h : f_X12_voice a1 a2 a3 σ = some res) : ab_E mX12_voice 41 sc 0 [some (.ref 85), some (.int a1), some (.int a2), some (.int a3), none, none] [] (σ, r) (fun v S => v = some (.int res.1) ∧ S = (res.2, r)) := by
  unfold f_X12_voice at h
  refine z_aload_n (pc2 := 1) rfl dX12_voice_0 rfl ?_
  refine z_iload_n (pc2 := 2) rfl dX12_voice_1 rfl ?_
  obtain ⟨q1, hq1, h⟩ := ab_bnd h
  refine z_callVi 85 [.int a1] [some (.ref 85), some (.int a1)] (pc2 := 5) rfl rfl dX12_voice_2 ok_X12_isOne ⟨fun _ => rfl, fun _ => Nat.le_of_ble_eq_true rfl⟩ rfl rv_85 wd_1121 wd_1123 wd_29 rfl (e_X12_isOne hq1) ?_
  refine z_if_eq (pc2 := 8) (tgt := 17) rfl dX12_voice_5 (by decide) (fun hc2 => ?_) (fun hc2 => ?_)
  · replace h := ab_pos hc2 h
    refine z_aload_n (pc2 := 18) rfl dX12_voice_17 rfl ?_
    refine z_iconst (pc2 := 19) rfl dX12_voice_18 lt_i_1 ?_
    obtain ⟨q3, hq3, h⟩ := ab_bnd h
    refine z_callVi 85 [.int (1 : Int32)] [some (.ref 85), some (.int (1 : Int32))] (pc2 := 22) rfl rfl dX12_voice_19 ok_X12_error ⟨fun _ => rfl, fun _ => Nat.le_of_ble_eq_true rfl⟩ rfl rv_85 wd_1045 wd_1047 wd_16 rfl (e_X12_error hq3) ?_
    exact z_iret dX12_voice_22 rfl rfl (fi_w h)
  · replace h := ab_neg hc2 h
    refine z_iload_n (pc2 := 9) rfl dX12_voice_8 rfl ?_
    refine z_iconst (pc2 := 10) rfl dX12_voice_9 lt_i_0 ?_
    refine z_iconst (pc2 := 11) rfl dX12_voice_10 lt_i_3 ?_
    obtain ⟨q4, hq4, h⟩ := ab_bnd h
    refine z_callSi [.int a2, .int (0 : Int32), .int (3 : Int32)] [some (.int a2), some (.int (0 : Int32)), some (.int (3 : Int32))] (pc2 := 14) rfl rfl dX12_voice_11 ok_X12_in ⟨fun _ => rfl, fun _ => Nat.le_of_ble_eq_true rfl⟩ rfl wd_1042 wd_1043 rfl (e_X12_in hq4) ?_
    refine z_if_ne (pc2 := 17) (tgt := 23) rfl dX12_voice_14 (by decide) (fun hc5 => ?_) (fun hc5 => ?_)
    · replace h := ab_neg hc5 h
      refine z_aload_n (pc2 := 24) rfl dX12_voice_23 rfl ?_
      refine z_iconst (pc2 := 25) rfl dX12_voice_24 lt_i_0 ?_
      refine z_putI 85 12 12 (pc2 := 28) (ft := .int) rfl dX12_voice_25 rfl rfl ff_12_12 wd_989 rfl (by decide +kernel) rfl rfl ?_
      obtain ⟨s6, hs6, h⟩ := ab_lt_e h
      refine z_tops hs6 ?_
      refine z_aload_n (pc2 := 29) rfl dX12_voice_28 rfl ?_
      refine z_iload_n (pc2 := 30) rfl dX12_voice_29 rfl ?_
      refine z_putI 85 12 14 (pc2 := 33) (ft := .int) rfl dX12_voice_30 rfl rfl ff_12_14 wd_991 rfl (by decide +kernel) rfl rfl ?_
      obtain ⟨s7, hs7, h⟩ := ab_lt_e h
      refine z_tops hs7 ?_
      refine z_aload_n (pc2 := 34) rfl dX12_voice_33 rfl ?_
      refine z_iconst (pc2 := 35) rfl dX12_voice_34 lt_i_0 ?_
      refine z_putI 85 12 15 (pc2 := 38) (ft := .boolean) rfl dX12_voice_35 rfl rfl ff_12_15 wd_992 rfl (by decide +kernel) rfl rfl ?_
      obtain ⟨s8, hs8, h⟩ := ab_lt_e h
      refine z_tops hs8 ?_
      refine z_aload_n (pc2 := 39) rfl dX12_voice_38 rfl ?_
      obtain ⟨q9, hq9, h⟩ := ab_bnd h
      refine z_callVi 85 [] [some (.ref 85)] (pc2 := 42) rfl rfl dX12_voice_39 ok_X12_kindNow ⟨fun _ => rfl, fun _ => Nat.le_of_ble_eq_true rfl⟩ rfl rv_85 wd_1330 wd_1332 wd_51 rfl (e_X12_kindNow hq9) ?_
      refine z_istore (pc2 := 44) (L2 := [some (.ref 85), some (.int a1), some (.int a2), some (.int a3), some (.int q9), none]) rfl dX12_voice_42 (by decide) rfl rfl ?_
      refine z_iload_n (pc2 := 45) rfl dX12_voice_44 rfl ?_
      refine z_if_ne (pc2 := 48) (tgt := 58) rfl dX12_voice_45 (by decide) (fun hc10 => ?_) (fun hc10 => ?_)
      · replace h := ab_neg hc10 h
        refine z_iload_n (pc2 := 59) rfl dX12_voice_58 rfl ?_
        refine z_iconst (pc2 := 60) rfl dX12_voice_59 lt_i_1 ?_
        refine z_icmp_ne (pc2 := 63) (tgt := 73) rfl dX12_voice_60 (by decide) (fun hc11 => ?_) (fun hc11 => ?_)
        · replace h := ab_neg hc11 h
          refine z_iload_n (pc2 := 74) rfl dX12_voice_73 rfl ?_
          refine z_iconst (pc2 := 75) rfl dX12_voice_74 lt_i_2 ?_
          refine z_icmp_ne (pc2 := 78) (tgt := 88) rfl dX12_voice_75 (by decide) (fun hc12 => ?_) (fun hc12 => ?_)
          · replace h := ab_neg hc12 h
            refine z_aload_n (pc2 := 89) rfl dX12_voice_88 rfl ?_
            refine z_iload (pc2 := 91) rfl dX12_voice_89 rfl ?_
            refine z_iload_n (pc2 := 92) rfl dX12_voice_91 rfl ?_
            obtain ⟨q13, hq13, h⟩ := ab_bnd h
            refine z_callVi 85 [.int q9, .int a3] [some (.ref 85), some (.int q9), some (.int a3), none, none] (pc2 := 95) rfl rfl dX12_voice_92 ok_X12_partsAs ⟨fun _ => rfl, fun _ => Nat.le_of_ble_eq_true rfl⟩ rfl rv_85 wd_1354 wd_1356 wd_57 rfl (e_GF_X12_partsAs _ _ _ _ hq13) ?_
            obtain ⟨x14, hxx14, h⟩ := ab_lt_e h
            refine z_top hxx14 ?_
            refine z_istore (pc2 := 97) (L2 := [some (.ref 85), some (.int a1), some (.int a2), some (.int a3), some (.int q9), some (.int x14)]) rfl dX12_voice_95 (by decide) rfl rfl ?_
            refine z_aload_n (pc2 := 98) rfl dX12_voice_97 rfl ?_
            refine z_getI 85 12 15 (pc2 := 101) rfl dX12_voice_98 rfl rfl ff_12_15 wd_992 ?_
            refine z_if_eq (pc2 := 104) (tgt := 113) rfl dX12_voice_101 (by decide) (fun hc15 => ?_) (fun hc15 => ?_)
            · replace h := ab_pos hc15 h
              refine z_iload (pc2 := 115) rfl dX12_voice_113 rfl ?_
              exact z_iret dX12_voice_115 rfl rfl (fi_w h)
            · replace h := ab_neg hc15 h
              refine z_aload_n (pc2 := 105) rfl dX12_voice_104 rfl ?_
              refine z_bipush (pc2 := 107) rfl dX12_voice_105 lt_b_6 ?_
              obtain ⟨q16, hq16, h⟩ := ab_bnd h
              refine z_callVi 85 [.int (6 : Int32)] [some (.ref 85), some (.int (6 : Int32))] (pc2 := 110) rfl rfl dX12_voice_107 ok_X12_error ⟨fun _ => rfl, fun _ => Nat.le_of_ble_eq_true rfl⟩ rfl rv_85 wd_1045 wd_1047 wd_16 rfl (e_X12_error hq16) ?_
              refine ab_goto (tgt := 115) dX12_voice_110 (by decide) ?_
              exact z_iret dX12_voice_115 rfl rfl (fi_w h)
          · replace h := ab_pos hc12 h
            refine z_aload_n (pc2 := 79) rfl dX12_voice_78 rfl ?_
            refine z_iload (pc2 := 81) rfl dX12_voice_79 rfl ?_
            refine z_iload_n (pc2 := 82) rfl dX12_voice_81 rfl ?_
            obtain ⟨q17, hq17, h⟩ := ab_bnd h
            refine z_callVi 85 [.int q9, .int a3] [some (.ref 85), some (.int q9), some (.int a3)] (pc2 := 85) rfl rfl dX12_voice_82 ok_X12_sitsAs ⟨fun _ => rfl, fun _ => Nat.le_of_ble_eq_true rfl⟩ rfl rv_85 wd_1350 wd_1352 wd_56 rfl (e_GE_X12_sitsAs _ _ _ _ hq17) ?_
            refine ab_goto (tgt := 95) dX12_voice_85 (by decide) ?_
            obtain ⟨x18, hxx18, h⟩ := ab_lt_e h
            refine z_top hxx18 ?_
            refine z_istore (pc2 := 97) (L2 := [some (.ref 85), some (.int a1), some (.int a2), some (.int a3), some (.int q9), some (.int x18)]) rfl dX12_voice_95 (by decide) rfl rfl ?_
            refine z_aload_n (pc2 := 98) rfl dX12_voice_97 rfl ?_
            refine z_getI 85 12 15 (pc2 := 101) rfl dX12_voice_98 rfl rfl ff_12_15 wd_992 ?_
            refine z_if_eq (pc2 := 104) (tgt := 113) rfl dX12_voice_101 (by decide) (fun hc19 => ?_) (fun hc19 => ?_)
            · replace h := ab_pos hc19 h
              refine z_iload (pc2 := 115) rfl dX12_voice_113 rfl ?_
              exact z_iret dX12_voice_115 rfl rfl (fi_w h)
            · replace h := ab_neg hc19 h
              refine z_aload_n (pc2 := 105) rfl dX12_voice_104 rfl ?_
              refine z_bipush (pc2 := 107) rfl dX12_voice_105 lt_b_6 ?_
              obtain ⟨q20, hq20, h⟩ := ab_bnd h
              refine z_callVi 85 [.int (6 : Int32)] [some (.ref 85), some (.int (6 : Int32))] (pc2 := 110) rfl rfl dX12_voice_107 ok_X12_error ⟨fun _ => rfl, fun _ => Nat.le_of_ble_eq_true rfl⟩ rfl rv_85 wd_1045 wd_1047 wd_16 rfl (e_X12_error hq20) ?_
              refine ab_goto (tgt := 115) dX12_voice_110 (by decide) ?_
              exact z_iret dX12_voice_115 rfl rfl (fi_w h)
        · replace h := ab_pos hc11 h
          refine z_aload_n (pc2 := 64) rfl dX12_voice_63 rfl ?_
          refine z_iload (pc2 := 66) rfl dX12_voice_64 rfl ?_
          refine z_iload_n (pc2 := 67) rfl dX12_voice_66 rfl ?_
          obtain ⟨q21, hq21, h⟩ := ab_bnd h
          refine z_callVi 85 [.int q9, .int a3] [some (.ref 85), some (.int q9), some (.int a3)] (pc2 := 70) rfl rfl dX12_voice_67 ok_X12_knowsAs ⟨fun _ => rfl, fun _ => Nat.le_of_ble_eq_true rfl⟩ rfl rv_85 wd_1342 wd_1344 wd_54 rfl (e_GD_X12_knowsAs _ _ _ _ hq21) ?_
          refine ab_goto (tgt := 95) dX12_voice_70 (by decide) ?_
          obtain ⟨x22, hxx22, h⟩ := ab_lt_e h
          refine z_top hxx22 ?_
          refine z_istore (pc2 := 97) (L2 := [some (.ref 85), some (.int a1), some (.int a2), some (.int a3), some (.int q9), some (.int x22)]) rfl dX12_voice_95 (by decide) rfl rfl ?_
          refine z_aload_n (pc2 := 98) rfl dX12_voice_97 rfl ?_
          refine z_getI 85 12 15 (pc2 := 101) rfl dX12_voice_98 rfl rfl ff_12_15 wd_992 ?_
          refine z_if_eq (pc2 := 104) (tgt := 113) rfl dX12_voice_101 (by decide) (fun hc23 => ?_) (fun hc23 => ?_)
          · replace h := ab_pos hc23 h
            refine z_iload (pc2 := 115) rfl dX12_voice_113 rfl ?_
            exact z_iret dX12_voice_115 rfl rfl (fi_w h)
          · replace h := ab_neg hc23 h
            refine z_aload_n (pc2 := 105) rfl dX12_voice_104 rfl ?_
            refine z_bipush (pc2 := 107) rfl dX12_voice_105 lt_b_6 ?_
            obtain ⟨q24, hq24, h⟩ := ab_bnd h
            refine z_callVi 85 [.int (6 : Int32)] [some (.ref 85), some (.int (6 : Int32))] (pc2 := 110) rfl rfl dX12_voice_107 ok_X12_error ⟨fun _ => rfl, fun _ => Nat.le_of_ble_eq_true rfl⟩ rfl rv_85 wd_1045 wd_1047 wd_16 rfl (e_X12_error hq24) ?_
            refine ab_goto (tgt := 115) dX12_voice_110 (by decide) ?_
            exact z_iret dX12_voice_115 rfl rfl (fi_w h)
      · replace h := ab_pos hc10 h
        refine z_aload_n (pc2 := 49) rfl dX12_voice_48 rfl ?_
        refine z_iload (pc2 := 51) rfl dX12_voice_49 rfl ?_
        refine z_iload_n (pc2 := 52) rfl dX12_voice_51 rfl ?_
        obtain ⟨q25, hq25, h⟩ := ab_bnd h
        refine z_callVi 85 [.int q9, .int a3] [some (.ref 85), some (.int q9), some (.int a3)] (pc2 := 55) rfl rfl dX12_voice_52 ok_X12_wadesAs ⟨fun _ => rfl, fun _ => Nat.le_of_ble_eq_true rfl⟩ rfl rv_85 wd_1334 wd_1336 wd_52 rfl (e_GC_X12_wadesAs _ _ _ _ hq25) ?_
        refine ab_goto (tgt := 95) dX12_voice_55 (by decide) ?_
        obtain ⟨x26, hxx26, h⟩ := ab_lt_e h
        refine z_top hxx26 ?_
        refine z_istore (pc2 := 97) (L2 := [some (.ref 85), some (.int a1), some (.int a2), some (.int a3), some (.int q9), some (.int x26)]) rfl dX12_voice_95 (by decide) rfl rfl ?_
        refine z_aload_n (pc2 := 98) rfl dX12_voice_97 rfl ?_
        refine z_getI 85 12 15 (pc2 := 101) rfl dX12_voice_98 rfl rfl ff_12_15 wd_992 ?_
        refine z_if_eq (pc2 := 104) (tgt := 113) rfl dX12_voice_101 (by decide) (fun hc27 => ?_) (fun hc27 => ?_)
        · replace h := ab_pos hc27 h
          refine z_iload (pc2 := 115) rfl dX12_voice_113 rfl ?_
          exact z_iret dX12_voice_115 rfl rfl (fi_w h)
        · replace h := ab_neg hc27 h
          refine z_aload_n (pc2 := 105) rfl dX12_voice_104 rfl ?_
          refine z_bipush (pc2 := 107) rfl dX12_voice_105 lt_b_6 ?_
          obtain ⟨q28, hq28, h⟩ := ab_bnd h
          refine z_callVi 85 [.int (6 : Int32)] [some (.ref 85), some (.int (6 : Int32))] (pc2 := 110) rfl rfl dX12_voice_107 ok_X12_error ⟨fun _ => rfl, fun _ => Nat.le_of_ble_eq_true rfl⟩ rfl rv_85 wd_1045 wd_1047 wd_16 rfl (e_X12_error hq28) ?_
          refine ab_goto (tgt := 115) dX12_voice_110 (by decide) ?_
          exact z_iret dX12_voice_115 rfl rfl (fi_w h)
    · replace h := ab_pos hc5 h
      refine z_aload_n (pc2 := 18) rfl dX12_voice_17 rfl ?_
      refine z_iconst (pc2 := 19) rfl dX12_voice_18 lt_i_1 ?_
      obtain ⟨q29, hq29, h⟩ := ab_bnd h
      refine z_callVi 85 [.int (1 : Int32)] [some (.ref 85), some (.int (1 : Int32))] (pc2 := 22) rfl rfl dX12_voice_19 ok_X12_error ⟨fun _ => rfl, fun _ => Nat.le_of_ble_eq_true rfl⟩ rfl rv_85 wd_1045 wd_1047 wd_16 rfl (e_X12_error hq29) ?_
      exact z_iret dX12_voice_22 rfl rfl (fi_w h)
def f_X12_body (a1 : Int32) (σ : ab_F) : Option (Int32 × ab_F) := (f_X12_in a1 (0 : Int32) ((σ 85 12) - (1 : Int32)) σ).bind (fun q1 => (if (ab_b q1) = 0 then (f_X12_error (2 : Int32) σ).bind (fun q3 => (some (q3.1, q3.2))) else ab_ck (ab_ib a1 30) ((some ((σ 93 (a1).toNatClampNeg), σ)))))
set_option maxRecDepth 100000 in
set_option maxHeartbeats 4000000 in
theorem e_X12_body {sc : Nat × (Nat → Int32)} {r : Option Nat × Option Nat} {a1 : Int32} {σ : ab_F} {res : (Int32 × ab_F)} (h : f_X12_body a1 σ = some res) : ab_E mX12_body 1 sc 0 [some (.ref 85), some (.int a1)] [] (σ, r) (fun v S => v = some (.int res.1) ∧ S = (res.2, r)) := by
  unfold f_X12_body at h
  refine z_iload_n (pc2 := 1) rfl dX12_body_0 rfl ?_
  refine z_iconst (pc2 := 2) rfl dX12_body_1 lt_i_0 ?_
  refine z_aload_n (pc2 := 3) rfl dX12_body_2 rfl ?_
  refine z_getI 85 12 12 (pc2 := 6) rfl dX12_body_3 rfl rfl ff_12_12 wd_989 ?_
  refine z_iconst (pc2 := 7) rfl dX12_body_6 lt_i_1 ?_
  refine z_isub (pc2 := 8) rfl dX12_body_7 ?_
  obtain ⟨q1, hq1, h⟩ := ab_bnd h
  refine z_callSi [.int a1, .int (0 : Int32), .int ((σ 85 12) - (1 : Int32))] [some (.int a1), some (.int (0 : Int32)), some (.int ((σ 85 12) - (1 : Int32)))] (pc2 := 11) rfl rfl dX12_body_8 ok_X12_in ⟨fun _ => rfl, fun _ => Nat.le_of_ble_eq_true rfl⟩ rfl wd_1042 wd_1043 rfl (e_X12_in hq1) ?_
  refine z_if_eq (pc2 := 14) (tgt := 23) rfl dX12_body_11 (by decide) (fun hc2 => ?_) (fun hc2 => ?_)
  · replace h := ab_pos hc2 h
    refine z_aload_n (pc2 := 24) rfl dX12_body_23 rfl ?_
    refine z_iconst (pc2 := 25) rfl dX12_body_24 lt_i_2 ?_
    obtain ⟨q3, hq3, h⟩ := ab_bnd h
    refine z_callVi 85 [.int (2 : Int32)] [some (.ref 85), some (.int (2 : Int32))] (pc2 := 28) rfl rfl dX12_body_25 ok_X12_error ⟨fun _ => rfl, fun _ => Nat.le_of_ble_eq_true rfl⟩ rfl rv_85 wd_1045 wd_1047 wd_16 rfl (e_X12_error hq3) ?_
    exact z_iret dX12_body_28 rfl rfl (fi_w h)
  · replace h := ab_neg hc2 h
    refine z_aload_n (pc2 := 15) rfl dX12_body_14 rfl ?_
    refine z_getR 85 12 13 93 (pc2 := 18) rfl dX12_body_15 rfl rfl ff_12_13 wd_990 rfl ?_
    refine z_iload_n (pc2 := 19) rfl dX12_body_18 rfl ?_
    obtain ⟨hb4, h⟩ := ab_ck_e h
    refine z_iald 93 (pc2 := 20) (j := (a1).toNatClampNeg) rfl dX12_body_19 rfl rfl hb4 rfl ?_
    refine ab_goto (tgt := 28) dX12_body_20 (by decide) ?_
    exact z_iret dX12_body_28 rfl rfl (fi_w h)
def f_X12_sheet_L90 (p1 : Int32) (K : ab_F → Option (Int32 × ab_F)) : Nat → Int32 → ab_F → Option (Int32 × ab_F)
  | 0, _, _ => none
  | n + 1, u4, σ => (if (24 : Int32) ≤ u4 then (K σ) else ab_ck (ab_ib (((24 : Int32) * p1) + u4) 96) (ab_lt (ab_u σ 96 ((((24 : Int32) * p1) + u4)).toNatClampNeg (0 : Int32)) (fun (s14 : ab_F) => ab_lt (u4 + (1 : Int32)) (fun x15 => (f_X12_sheet_L90 p1 K n x15 s14)))))
set_option maxRecDepth 100000 in
set_option maxHeartbeats 4000000 in
theorem e_X12_sheet_L90 {sc : Nat × (Nat → Int32)} {r : Option Nat × Option Nat} {p1 : Int32} {K : ab_F → Option (Int32 × ab_F)} {res : (Int32 × ab_F)} (hK : ∀ (σ : ab_F), K σ = some res → ab_E mX12_sheet 2 sc 116 [none, none, none, none, none] [] (σ, r) (fun v S => v = some (.int res.1) ∧ S = (res.2, r))) : ∀ (n : Nat) (u4 : Int32) (σ : ab_F), f_X12_sheet_L90 p1 K n u4 σ = some res → ab_E mX12_sheet 2 sc 90 [some (.ref 85), some (.int p1), none, none, some (.int u4)] [] (σ, r) (fun v S => v = some (.int res.1) ∧ S = (res.2, r)) := by
  intro n
  induction n with
  | zero =>
    intro u4 σ h
    rw [f_X12_sheet_L90] at h
    cases h
  | succ n ih =>
    intro u4 σ h
    rw [f_X12_sheet_L90] at h
    refine z_iload (pc2 := 92) rfl dX12_sheet_90 rfl ?_
    refine z_bipush (pc2 := 94) rfl dX12_sheet_92 lt_b_24 ?_
    refine z_icmp_ge (pc2 := 97) (tgt := 116) rfl dX12_sheet_94 (by decide) (fun hc12 => ?_) (fun hc12 => ?_)
    · replace h := ab_pos hc12 h
      refine z_fgt [false, false, false, false, false] (L2 := [none, none, none, none, none]) rfl ?_
      exact hK  _ h
    · replace h := ab_neg hc12 h
      refine z_aload_n (pc2 := 98) rfl dX12_sheet_97 rfl ?_
      refine z_getR 85 12 18 96 (pc2 := 101) rfl dX12_sheet_98 rfl rfl ff_12_18 wd_995 rfl ?_
      refine z_bipush (pc2 := 103) rfl dX12_sheet_101 lt_b_24 ?_
      refine z_iload_n (pc2 := 104) rfl dX12_sheet_103 rfl ?_
      refine z_imul (pc2 := 105) rfl dX12_sheet_104 ?_
      refine z_iload (pc2 := 107) rfl dX12_sheet_105 rfl ?_
      refine z_iadd (pc2 := 108) rfl dX12_sheet_107 ?_
      refine z_iconst (pc2 := 109) rfl dX12_sheet_108 lt_i_0 ?_
      obtain ⟨hb13, h⟩ := ab_ck_e h
      refine z_iast 96 (pc2 := 110) (j := ((((24 : Int32) * p1) + u4)).toNatClampNeg) rfl dX12_sheet_109 rfl rfl hb13 rfl ?_
      obtain ⟨s14, hs14, h⟩ := ab_lt_e h
      refine z_tops hs14 ?_
      obtain ⟨x15, hxx15, h⟩ := ab_lt_e h
      refine z_iinc (pc2 := 113) (v := x15) (L2 := [some (.ref 85), some (.int p1), none, none, some (.int x15)]) rfl dX12_sheet_110 rfl (by rw [hxx15]; rfl) (by decide) rfl rfl ?_
      refine ab_goto (tgt := 90) dX12_sheet_113 (by decide) ?_
      refine z_fgt [true, true, false, false, true] (L2 := [some (.ref 85), some (.int p1), none, none, some (.int x15)]) rfl ?_
      exact ih _ _ h
def f_X12_sheet (a1 : Int32) (a2 : Int32) (a3 : Int32) (σ : ab_F) : Option (Int32 × ab_F) := (f_X12_isSheet a1 σ).bind (fun q1 => (if (ab_b q1) = 0 then (f_X12_error (1 : Int32) σ).bind (fun q3 => (some (q3.1, q3.2))) else (if a2 = 0 then (if a2 = 0 then (if a2 = 0 then ab_ck (ab_ib a1 4) (ab_lt (ab_u σ 94 (a1).toNatClampNeg a2) (fun (s8 : ab_F) => (if a2 = 0 then ab_ck (ab_ib a1 4) (ab_lt (ab_u s8 95 (a1).toNatClampNeg (0 : Int32)) (fun (s18 : ab_F) => (f_X12_sheet_L90 a1 (fun (s19 : ab_F) => (some ((1 : Int32), s19))) ab_fu (0 : Int32) s18))) else ab_ck (ab_ib a1 4) (ab_lt (ab_u s8 95 (a1).toNatClampNeg a3) (fun (s11 : ab_F) => (f_X12_sheet_L90 a1 (fun (s16 : ab_F) => (some ((1 : Int32), s16))) ab_fu (0 : Int32) s11)))))) else (if a3 ≤ (24 : Int32) then ab_ck (ab_ib a1 4) (ab_lt (ab_u σ 94 (a1).toNatClampNeg a2) (fun (s22 : ab_F) => (if a2 = 0 then ab_ck (ab_ib a1 4) (ab_lt (ab_u s22 95 (a1).toNatClampNeg (0 : Int32)) (fun (s28 : ab_F) => (f_X12_sheet_L90 a1 (fun (s29 : ab_F) => (some ((1 : Int32), s29))) ab_fu (0 : Int32) s28))) else ab_ck (ab_ib a1 4) (ab_lt (ab_u s22 95 (a1).toNatClampNeg a3) (fun (s25 : ab_F) => (f_X12_sheet_L90 a1 (fun (s26 : ab_F) => (some ((1 : Int32), s26))) ab_fu (0 : Int32) s25)))))) else (f_X12_error (1 : Int32) σ).bind (fun q30 => (some (q30.1, q30.2))))) else (if 0 ≤ a3 then (if a2 = 0 then ab_ck (ab_ib a1 4) (ab_lt (ab_u σ 94 (a1).toNatClampNeg a2) (fun (s34 : ab_F) => (if a2 = 0 then ab_ck (ab_ib a1 4) (ab_lt (ab_u s34 95 (a1).toNatClampNeg (0 : Int32)) (fun (s40 : ab_F) => (f_X12_sheet_L90 a1 (fun (s41 : ab_F) => (some ((1 : Int32), s41))) ab_fu (0 : Int32) s40))) else ab_ck (ab_ib a1 4) (ab_lt (ab_u s34 95 (a1).toNatClampNeg a3) (fun (s37 : ab_F) => (f_X12_sheet_L90 a1 (fun (s38 : ab_F) => (some ((1 : Int32), s38))) ab_fu (0 : Int32) s37)))))) else (if a3 ≤ (24 : Int32) then ab_ck (ab_ib a1 4) (ab_lt (ab_u σ 94 (a1).toNatClampNeg a2) (fun (s44 : ab_F) => (if a2 = 0 then ab_ck (ab_ib a1 4) (ab_lt (ab_u s44 95 (a1).toNatClampNeg (0 : Int32)) (fun (s50 : ab_F) => (f_X12_sheet_L90 a1 (fun (s51 : ab_F) => (some ((1 : Int32), s51))) ab_fu (0 : Int32) s50))) else ab_ck (ab_ib a1 4) (ab_lt (ab_u s44 95 (a1).toNatClampNeg a3) (fun (s47 : ab_F) => (f_X12_sheet_L90 a1 (fun (s48 : ab_F) => (some ((1 : Int32), s48))) ab_fu (0 : Int32) s47)))))) else (f_X12_error (1 : Int32) σ).bind (fun q52 => (some (q52.1, q52.2))))) else (f_X12_error (3 : Int32) σ).bind (fun q53 => (some (q53.1, q53.2))))) else (if a2 = (8 : Int32) then (if a2 = 0 then (if a2 = 0 then ab_ck (ab_ib a1 4) (ab_lt (ab_u σ 94 (a1).toNatClampNeg a2) (fun (s58 : ab_F) => (if a2 = 0 then ab_ck (ab_ib a1 4) (ab_lt (ab_u s58 95 (a1).toNatClampNeg (0 : Int32)) (fun (s64 : ab_F) => (f_X12_sheet_L90 a1 (fun (s65 : ab_F) => (some ((1 : Int32), s65))) ab_fu (0 : Int32) s64))) else ab_ck (ab_ib a1 4) (ab_lt (ab_u s58 95 (a1).toNatClampNeg a3) (fun (s61 : ab_F) => (f_X12_sheet_L90 a1 (fun (s62 : ab_F) => (some ((1 : Int32), s62))) ab_fu (0 : Int32) s61)))))) else (if a3 ≤ (24 : Int32) then ab_ck (ab_ib a1 4) (ab_lt (ab_u σ 94 (a1).toNatClampNeg a2) (fun (s68 : ab_F) => (if a2 = 0 then ab_ck (ab_ib a1 4) (ab_lt (ab_u s68 95 (a1).toNatClampNeg (0 : Int32)) (fun (s74 : ab_F) => (f_X12_sheet_L90 a1 (fun (s75 : ab_F) => (some ((1 : Int32), s75))) ab_fu (0 : Int32) s74))) else ab_ck (ab_ib a1 4) (ab_lt (ab_u s68 95 (a1).toNatClampNeg a3) (fun (s71 : ab_F) => (f_X12_sheet_L90 a1 (fun (s72 : ab_F) => (some ((1 : Int32), s72))) ab_fu (0 : Int32) s71)))))) else (f_X12_error (1 : Int32) σ).bind (fun q76 => (some (q76.1, q76.2))))) else (if 0 ≤ a3 then (if a2 = 0 then ab_ck (ab_ib a1 4) (ab_lt (ab_u σ 94 (a1).toNatClampNeg a2) (fun (s80 : ab_F) => (if a2 = 0 then ab_ck (ab_ib a1 4) (ab_lt (ab_u s80 95 (a1).toNatClampNeg (0 : Int32)) (fun (s86 : ab_F) => (f_X12_sheet_L90 a1 (fun (s87 : ab_F) => (some ((1 : Int32), s87))) ab_fu (0 : Int32) s86))) else ab_ck (ab_ib a1 4) (ab_lt (ab_u s80 95 (a1).toNatClampNeg a3) (fun (s83 : ab_F) => (f_X12_sheet_L90 a1 (fun (s84 : ab_F) => (some ((1 : Int32), s84))) ab_fu (0 : Int32) s83)))))) else (if a3 ≤ (24 : Int32) then ab_ck (ab_ib a1 4) (ab_lt (ab_u σ 94 (a1).toNatClampNeg a2) (fun (s90 : ab_F) => (if a2 = 0 then ab_ck (ab_ib a1 4) (ab_lt (ab_u s90 95 (a1).toNatClampNeg (0 : Int32)) (fun (s96 : ab_F) => (f_X12_sheet_L90 a1 (fun (s97 : ab_F) => (some ((1 : Int32), s97))) ab_fu (0 : Int32) s96))) else ab_ck (ab_ib a1 4) (ab_lt (ab_u s90 95 (a1).toNatClampNeg a3) (fun (s93 : ab_F) => (f_X12_sheet_L90 a1 (fun (s94 : ab_F) => (some ((1 : Int32), s94))) ab_fu (0 : Int32) s93)))))) else (f_X12_error (1 : Int32) σ).bind (fun q98 => (some (q98.1, q98.2))))) else (f_X12_error (3 : Int32) σ).bind (fun q99 => (some (q99.1, q99.2))))) else (if a2 = (16 : Int32) then (if a2 = 0 then (if a2 = 0 then ab_ck (ab_ib a1 4) (ab_lt (ab_u σ 94 (a1).toNatClampNeg a2) (fun (s104 : ab_F) => (if a2 = 0 then ab_ck (ab_ib a1 4) (ab_lt (ab_u s104 95 (a1).toNatClampNeg (0 : Int32)) (fun (s110 : ab_F) => (f_X12_sheet_L90 a1 (fun (s111 : ab_F) => (some ((1 : Int32), s111))) ab_fu (0 : Int32) s110))) else ab_ck (ab_ib a1 4) (ab_lt (ab_u s104 95 (a1).toNatClampNeg a3) (fun (s107 : ab_F) => (f_X12_sheet_L90 a1 (fun (s108 : ab_F) => (some ((1 : Int32), s108))) ab_fu (0 : Int32) s107)))))) else (if a3 ≤ (24 : Int32) then ab_ck (ab_ib a1 4) (ab_lt (ab_u σ 94 (a1).toNatClampNeg a2) (fun (s114 : ab_F) => (if a2 = 0 then ab_ck (ab_ib a1 4) (ab_lt (ab_u s114 95 (a1).toNatClampNeg (0 : Int32)) (fun (s120 : ab_F) => (f_X12_sheet_L90 a1 (fun (s121 : ab_F) => (some ((1 : Int32), s121))) ab_fu (0 : Int32) s120))) else ab_ck (ab_ib a1 4) (ab_lt (ab_u s114 95 (a1).toNatClampNeg a3) (fun (s117 : ab_F) => (f_X12_sheet_L90 a1 (fun (s118 : ab_F) => (some ((1 : Int32), s118))) ab_fu (0 : Int32) s117)))))) else (f_X12_error (1 : Int32) σ).bind (fun q122 => (some (q122.1, q122.2))))) else (if 0 ≤ a3 then (if a2 = 0 then ab_ck (ab_ib a1 4) (ab_lt (ab_u σ 94 (a1).toNatClampNeg a2) (fun (s126 : ab_F) => (if a2 = 0 then ab_ck (ab_ib a1 4) (ab_lt (ab_u s126 95 (a1).toNatClampNeg (0 : Int32)) (fun (s132 : ab_F) => (f_X12_sheet_L90 a1 (fun (s133 : ab_F) => (some ((1 : Int32), s133))) ab_fu (0 : Int32) s132))) else ab_ck (ab_ib a1 4) (ab_lt (ab_u s126 95 (a1).toNatClampNeg a3) (fun (s129 : ab_F) => (f_X12_sheet_L90 a1 (fun (s130 : ab_F) => (some ((1 : Int32), s130))) ab_fu (0 : Int32) s129)))))) else (if a3 ≤ (24 : Int32) then ab_ck (ab_ib a1 4) (ab_lt (ab_u σ 94 (a1).toNatClampNeg a2) (fun (s136 : ab_F) => (if a2 = 0 then ab_ck (ab_ib a1 4) (ab_lt (ab_u s136 95 (a1).toNatClampNeg (0 : Int32)) (fun (s142 : ab_F) => (f_X12_sheet_L90 a1 (fun (s143 : ab_F) => (some ((1 : Int32), s143))) ab_fu (0 : Int32) s142))) else ab_ck (ab_ib a1 4) (ab_lt (ab_u s136 95 (a1).toNatClampNeg a3) (fun (s139 : ab_F) => (f_X12_sheet_L90 a1 (fun (s140 : ab_F) => (some ((1 : Int32), s140))) ab_fu (0 : Int32) s139)))))) else (f_X12_error (1 : Int32) σ).bind (fun q144 => (some (q144.1, q144.2))))) else (f_X12_error (3 : Int32) σ).bind (fun q145 => (some (q145.1, q145.2))))) else (if a2 = (32 : Int32) then (if a2 = 0 then (if a2 = 0 then ab_ck (ab_ib a1 4) (ab_lt (ab_u σ 94 (a1).toNatClampNeg a2) (fun (s150 : ab_F) => (if a2 = 0 then ab_ck (ab_ib a1 4) (ab_lt (ab_u s150 95 (a1).toNatClampNeg (0 : Int32)) (fun (s156 : ab_F) => (f_X12_sheet_L90 a1 (fun (s157 : ab_F) => (some ((1 : Int32), s157))) ab_fu (0 : Int32) s156))) else ab_ck (ab_ib a1 4) (ab_lt (ab_u s150 95 (a1).toNatClampNeg a3) (fun (s153 : ab_F) => (f_X12_sheet_L90 a1 (fun (s154 : ab_F) => (some ((1 : Int32), s154))) ab_fu (0 : Int32) s153)))))) else (if a3 ≤ (24 : Int32) then ab_ck (ab_ib a1 4) (ab_lt (ab_u σ 94 (a1).toNatClampNeg a2) (fun (s160 : ab_F) => (if a2 = 0 then ab_ck (ab_ib a1 4) (ab_lt (ab_u s160 95 (a1).toNatClampNeg (0 : Int32)) (fun (s166 : ab_F) => (f_X12_sheet_L90 a1 (fun (s167 : ab_F) => (some ((1 : Int32), s167))) ab_fu (0 : Int32) s166))) else ab_ck (ab_ib a1 4) (ab_lt (ab_u s160 95 (a1).toNatClampNeg a3) (fun (s163 : ab_F) => (f_X12_sheet_L90 a1 (fun (s164 : ab_F) => (some ((1 : Int32), s164))) ab_fu (0 : Int32) s163)))))) else (f_X12_error (1 : Int32) σ).bind (fun q168 => (some (q168.1, q168.2))))) else (if 0 ≤ a3 then (if a2 = 0 then ab_ck (ab_ib a1 4) (ab_lt (ab_u σ 94 (a1).toNatClampNeg a2) (fun (s172 : ab_F) => (if a2 = 0 then ab_ck (ab_ib a1 4) (ab_lt (ab_u s172 95 (a1).toNatClampNeg (0 : Int32)) (fun (s178 : ab_F) => (f_X12_sheet_L90 a1 (fun (s179 : ab_F) => (some ((1 : Int32), s179))) ab_fu (0 : Int32) s178))) else ab_ck (ab_ib a1 4) (ab_lt (ab_u s172 95 (a1).toNatClampNeg a3) (fun (s175 : ab_F) => (f_X12_sheet_L90 a1 (fun (s176 : ab_F) => (some ((1 : Int32), s176))) ab_fu (0 : Int32) s175)))))) else (if a3 ≤ (24 : Int32) then ab_ck (ab_ib a1 4) (ab_lt (ab_u σ 94 (a1).toNatClampNeg a2) (fun (s182 : ab_F) => (if a2 = 0 then ab_ck (ab_ib a1 4) (ab_lt (ab_u s182 95 (a1).toNatClampNeg (0 : Int32)) (fun (s188 : ab_F) => (f_X12_sheet_L90 a1 (fun (s189 : ab_F) => (some ((1 : Int32), s189))) ab_fu (0 : Int32) s188))) else ab_ck (ab_ib a1 4) (ab_lt (ab_u s182 95 (a1).toNatClampNeg a3) (fun (s185 : ab_F) => (f_X12_sheet_L90 a1 (fun (s186 : ab_F) => (some ((1 : Int32), s186))) ab_fu (0 : Int32) s185)))))) else (f_X12_error (1 : Int32) σ).bind (fun q190 => (some (q190.1, q190.2))))) else (f_X12_error (3 : Int32) σ).bind (fun q191 => (some (q191.1, q191.2))))) else (f_X12_error (1 : Int32) σ).bind (fun q192 => (some (q192.1, q192.2)))))))))
set_option maxRecDepth 100000 in
set_option maxHeartbeats 4000000 in
theorem e_X12_sheet {sc : Nat × (Nat → Int32)} {r : Option Nat × Option Nat} {a1 : Int32} {a2 : Int32} {a3 : Int32} {σ : ab_F} {res : (Int32 × ab_F)} (h : f_X12_sheet a1 a2 a3 σ = some res) : ab_E mX12_sheet 2 sc 0 [some (.ref 85), some (.int a1), some (.int a2), some (.int a3), none] [] (σ, r) (fun v S => v = some (.int res.1) ∧ S = (res.2, r)) := by
  unfold f_X12_sheet at h
  refine z_iload_n (pc2 := 1) rfl dX12_sheet_0 rfl ?_
  obtain ⟨q1, hq1, h⟩ := ab_bnd h
  refine z_callSi [.int a1] [some (.int a1)] (pc2 := 4) rfl rfl dX12_sheet_1 ok_X12_isSheet ⟨fun _ => rfl, fun _ => Nat.le_of_ble_eq_true rfl⟩ rfl wd_1323 wd_1324 rfl (e_X12_isSheet hq1) ?_
  refine z_if_eq (pc2 := 7) (tgt := 29) rfl dX12_sheet_4 (by decide) (fun hc2 => ?_) (fun hc2 => ?_)
  · replace h := ab_pos hc2 h
    refine z_aload_n (pc2 := 30) rfl dX12_sheet_29 rfl ?_
    refine z_iconst (pc2 := 31) rfl dX12_sheet_30 lt_i_1 ?_
    obtain ⟨q3, hq3, h⟩ := ab_bnd h
    refine z_callVi 85 [.int (1 : Int32)] [some (.ref 85), some (.int (1 : Int32))] (pc2 := 34) rfl rfl dX12_sheet_31 ok_X12_error ⟨fun _ => rfl, fun _ => Nat.le_of_ble_eq_true rfl⟩ rfl rv_85 wd_1045 wd_1047 wd_16 rfl (e_X12_error hq3) ?_
    exact z_iret dX12_sheet_34 rfl rfl (fi_w h)
  · replace h := ab_neg hc2 h
    refine z_iload_n (pc2 := 8) rfl dX12_sheet_7 rfl ?_
    refine z_if_eq (pc2 := 11) (tgt := 35) rfl dX12_sheet_8 (by decide) (fun hc4 => ?_) (fun hc4 => ?_)
    · replace h := ab_pos hc4 h
      refine z_iload_n (pc2 := 36) rfl dX12_sheet_35 rfl ?_
      refine z_if_eq (pc2 := 39) (tgt := 49) rfl dX12_sheet_36 (by decide) (fun hc5 => ?_) (fun hc5 => ?_)
      · replace h := ab_pos hc5 h
        refine z_iload_n (pc2 := 50) rfl dX12_sheet_49 rfl ?_
        refine z_if_eq (pc2 := 53) (tgt := 65) rfl dX12_sheet_50 (by decide) (fun hc6 => ?_) (fun hc6 => ?_)
        · replace h := ab_pos hc6 h
          refine z_aload_n (pc2 := 66) rfl dX12_sheet_65 rfl ?_
          refine z_getR 85 12 16 94 (pc2 := 69) rfl dX12_sheet_66 rfl rfl ff_12_16 wd_993 rfl ?_
          refine z_iload_n (pc2 := 70) rfl dX12_sheet_69 rfl ?_
          refine z_iload_n (pc2 := 71) rfl dX12_sheet_70 rfl ?_
          obtain ⟨hb7, h⟩ := ab_ck_e h
          refine z_iast 94 (pc2 := 72) (j := (a1).toNatClampNeg) rfl dX12_sheet_71 rfl rfl hb7 rfl ?_
          obtain ⟨s8, hs8, h⟩ := ab_lt_e h
          refine z_tops hs8 ?_
          refine z_aload_n (pc2 := 73) rfl dX12_sheet_72 rfl ?_
          refine z_getR 85 12 17 95 (pc2 := 76) rfl dX12_sheet_73 rfl rfl ff_12_17 wd_994 rfl ?_
          refine z_iload_n (pc2 := 77) rfl dX12_sheet_76 rfl ?_
          refine z_iload_n (pc2 := 78) rfl dX12_sheet_77 rfl ?_
          refine z_if_ne (pc2 := 81) (tgt := 85) rfl dX12_sheet_78 (by decide) (fun hc9 => ?_) (fun hc9 => ?_)
          · replace h := ab_neg hc9 h
            refine z_iload_n (pc2 := 86) rfl dX12_sheet_85 rfl ?_
            obtain ⟨hb10, h⟩ := ab_ck_e h
            refine z_iast 95 (pc2 := 87) (j := (a1).toNatClampNeg) rfl dX12_sheet_86 rfl rfl hb10 rfl ?_
            obtain ⟨s11, hs11, h⟩ := ab_lt_e h
            refine z_tops hs11 ?_
            refine z_iconst (pc2 := 88) rfl dX12_sheet_87 lt_i_0 ?_
            refine z_istore (pc2 := 90) (L2 := [some (.ref 85), some (.int a1), some (.int a2), some (.int a3), some (.int (0 : Int32))]) rfl dX12_sheet_88 (by decide) rfl rfl ?_
            refine z_fgt [true, true, false, false, true] (L2 := [some (.ref 85), some (.int a1), none, none, some (.int (0 : Int32))]) rfl ?_
            refine e_X12_sheet_L90 (fun s16 h => ?_) _ _ _ h
            refine z_iconst (pc2 := 117) rfl dX12_sheet_116 lt_i_1 ?_
            exact z_iret dX12_sheet_117 rfl rfl (fi_w h)
          · replace h := ab_pos hc9 h
            refine z_iconst (pc2 := 82) rfl dX12_sheet_81 lt_i_0 ?_
            refine ab_goto (tgt := 86) dX12_sheet_82 (by decide) ?_
            obtain ⟨hb17, h⟩ := ab_ck_e h
            refine z_iast 95 (pc2 := 87) (j := (a1).toNatClampNeg) rfl dX12_sheet_86 rfl rfl hb17 rfl ?_
            obtain ⟨s18, hs18, h⟩ := ab_lt_e h
            refine z_tops hs18 ?_
            refine z_iconst (pc2 := 88) rfl dX12_sheet_87 lt_i_0 ?_
            refine z_istore (pc2 := 90) (L2 := [some (.ref 85), some (.int a1), some (.int a2), some (.int a3), some (.int (0 : Int32))]) rfl dX12_sheet_88 (by decide) rfl rfl ?_
            refine z_fgt [true, true, false, false, true] (L2 := [some (.ref 85), some (.int a1), none, none, some (.int (0 : Int32))]) rfl ?_
            refine e_X12_sheet_L90 (fun s19 h => ?_) _ _ _ h
            refine z_iconst (pc2 := 117) rfl dX12_sheet_116 lt_i_1 ?_
            exact z_iret dX12_sheet_117 rfl rfl (fi_w h)
        · replace h := ab_neg hc6 h
          refine z_iload_n (pc2 := 54) rfl dX12_sheet_53 rfl ?_
          refine z_bipush (pc2 := 56) rfl dX12_sheet_54 lt_b_24 ?_
          refine z_icmp_le (pc2 := 59) (tgt := 65) rfl dX12_sheet_56 (by decide) (fun hc20 => ?_) (fun hc20 => ?_)
          · replace h := ab_pos hc20 h
            refine z_aload_n (pc2 := 66) rfl dX12_sheet_65 rfl ?_
            refine z_getR 85 12 16 94 (pc2 := 69) rfl dX12_sheet_66 rfl rfl ff_12_16 wd_993 rfl ?_
            refine z_iload_n (pc2 := 70) rfl dX12_sheet_69 rfl ?_
            refine z_iload_n (pc2 := 71) rfl dX12_sheet_70 rfl ?_
            obtain ⟨hb21, h⟩ := ab_ck_e h
            refine z_iast 94 (pc2 := 72) (j := (a1).toNatClampNeg) rfl dX12_sheet_71 rfl rfl hb21 rfl ?_
            obtain ⟨s22, hs22, h⟩ := ab_lt_e h
            refine z_tops hs22 ?_
            refine z_aload_n (pc2 := 73) rfl dX12_sheet_72 rfl ?_
            refine z_getR 85 12 17 95 (pc2 := 76) rfl dX12_sheet_73 rfl rfl ff_12_17 wd_994 rfl ?_
            refine z_iload_n (pc2 := 77) rfl dX12_sheet_76 rfl ?_
            refine z_iload_n (pc2 := 78) rfl dX12_sheet_77 rfl ?_
            refine z_if_ne (pc2 := 81) (tgt := 85) rfl dX12_sheet_78 (by decide) (fun hc23 => ?_) (fun hc23 => ?_)
            · replace h := ab_neg hc23 h
              refine z_iload_n (pc2 := 86) rfl dX12_sheet_85 rfl ?_
              obtain ⟨hb24, h⟩ := ab_ck_e h
              refine z_iast 95 (pc2 := 87) (j := (a1).toNatClampNeg) rfl dX12_sheet_86 rfl rfl hb24 rfl ?_
              obtain ⟨s25, hs25, h⟩ := ab_lt_e h
              refine z_tops hs25 ?_
              refine z_iconst (pc2 := 88) rfl dX12_sheet_87 lt_i_0 ?_
              refine z_istore (pc2 := 90) (L2 := [some (.ref 85), some (.int a1), some (.int a2), some (.int a3), some (.int (0 : Int32))]) rfl dX12_sheet_88 (by decide) rfl rfl ?_
              refine z_fgt [true, true, false, false, true] (L2 := [some (.ref 85), some (.int a1), none, none, some (.int (0 : Int32))]) rfl ?_
              refine e_X12_sheet_L90 (fun s26 h => ?_) _ _ _ h
              refine z_iconst (pc2 := 117) rfl dX12_sheet_116 lt_i_1 ?_
              exact z_iret dX12_sheet_117 rfl rfl (fi_w h)
            · replace h := ab_pos hc23 h
              refine z_iconst (pc2 := 82) rfl dX12_sheet_81 lt_i_0 ?_
              refine ab_goto (tgt := 86) dX12_sheet_82 (by decide) ?_
              obtain ⟨hb27, h⟩ := ab_ck_e h
              refine z_iast 95 (pc2 := 87) (j := (a1).toNatClampNeg) rfl dX12_sheet_86 rfl rfl hb27 rfl ?_
              obtain ⟨s28, hs28, h⟩ := ab_lt_e h
              refine z_tops hs28 ?_
              refine z_iconst (pc2 := 88) rfl dX12_sheet_87 lt_i_0 ?_
              refine z_istore (pc2 := 90) (L2 := [some (.ref 85), some (.int a1), some (.int a2), some (.int a3), some (.int (0 : Int32))]) rfl dX12_sheet_88 (by decide) rfl rfl ?_
              refine z_fgt [true, true, false, false, true] (L2 := [some (.ref 85), some (.int a1), none, none, some (.int (0 : Int32))]) rfl ?_
              refine e_X12_sheet_L90 (fun s29 h => ?_) _ _ _ h
              refine z_iconst (pc2 := 117) rfl dX12_sheet_116 lt_i_1 ?_
              exact z_iret dX12_sheet_117 rfl rfl (fi_w h)
          · replace h := ab_neg hc20 h
            refine z_aload_n (pc2 := 60) rfl dX12_sheet_59 rfl ?_
            refine z_iconst (pc2 := 61) rfl dX12_sheet_60 lt_i_1 ?_
            obtain ⟨q30, hq30, h⟩ := ab_bnd h
            refine z_callVi 85 [.int (1 : Int32)] [some (.ref 85), some (.int (1 : Int32))] (pc2 := 64) rfl rfl dX12_sheet_61 ok_X12_error ⟨fun _ => rfl, fun _ => Nat.le_of_ble_eq_true rfl⟩ rfl rv_85 wd_1045 wd_1047 wd_16 rfl (e_X12_error hq30) ?_
            exact z_iret dX12_sheet_64 rfl rfl (fi_w h)
      · replace h := ab_neg hc5 h
        refine z_iload_n (pc2 := 40) rfl dX12_sheet_39 rfl ?_
        refine z_if_ge (pc2 := 43) (tgt := 49) rfl dX12_sheet_40 (by decide) (fun hc31 => ?_) (fun hc31 => ?_)
        · replace h := ab_pos hc31 h
          refine z_iload_n (pc2 := 50) rfl dX12_sheet_49 rfl ?_
          refine z_if_eq (pc2 := 53) (tgt := 65) rfl dX12_sheet_50 (by decide) (fun hc32 => ?_) (fun hc32 => ?_)
          · replace h := ab_pos hc32 h
            refine z_aload_n (pc2 := 66) rfl dX12_sheet_65 rfl ?_
            refine z_getR 85 12 16 94 (pc2 := 69) rfl dX12_sheet_66 rfl rfl ff_12_16 wd_993 rfl ?_
            refine z_iload_n (pc2 := 70) rfl dX12_sheet_69 rfl ?_
            refine z_iload_n (pc2 := 71) rfl dX12_sheet_70 rfl ?_
            obtain ⟨hb33, h⟩ := ab_ck_e h
            refine z_iast 94 (pc2 := 72) (j := (a1).toNatClampNeg) rfl dX12_sheet_71 rfl rfl hb33 rfl ?_
            obtain ⟨s34, hs34, h⟩ := ab_lt_e h
            refine z_tops hs34 ?_
            refine z_aload_n (pc2 := 73) rfl dX12_sheet_72 rfl ?_
            refine z_getR 85 12 17 95 (pc2 := 76) rfl dX12_sheet_73 rfl rfl ff_12_17 wd_994 rfl ?_
            refine z_iload_n (pc2 := 77) rfl dX12_sheet_76 rfl ?_
            refine z_iload_n (pc2 := 78) rfl dX12_sheet_77 rfl ?_
            refine z_if_ne (pc2 := 81) (tgt := 85) rfl dX12_sheet_78 (by decide) (fun hc35 => ?_) (fun hc35 => ?_)
            · replace h := ab_neg hc35 h
              refine z_iload_n (pc2 := 86) rfl dX12_sheet_85 rfl ?_
              obtain ⟨hb36, h⟩ := ab_ck_e h
              refine z_iast 95 (pc2 := 87) (j := (a1).toNatClampNeg) rfl dX12_sheet_86 rfl rfl hb36 rfl ?_
              obtain ⟨s37, hs37, h⟩ := ab_lt_e h
              refine z_tops hs37 ?_
              refine z_iconst (pc2 := 88) rfl dX12_sheet_87 lt_i_0 ?_
              refine z_istore (pc2 := 90) (L2 := [some (.ref 85), some (.int a1), some (.int a2), some (.int a3), some (.int (0 : Int32))]) rfl dX12_sheet_88 (by decide) rfl rfl ?_
              refine z_fgt [true, true, false, false, true] (L2 := [some (.ref 85), some (.int a1), none, none, some (.int (0 : Int32))]) rfl ?_
              refine e_X12_sheet_L90 (fun s38 h => ?_) _ _ _ h
              refine z_iconst (pc2 := 117) rfl dX12_sheet_116 lt_i_1 ?_
              exact z_iret dX12_sheet_117 rfl rfl (fi_w h)
            · replace h := ab_pos hc35 h
              refine z_iconst (pc2 := 82) rfl dX12_sheet_81 lt_i_0 ?_
              refine ab_goto (tgt := 86) dX12_sheet_82 (by decide) ?_
              obtain ⟨hb39, h⟩ := ab_ck_e h
              refine z_iast 95 (pc2 := 87) (j := (a1).toNatClampNeg) rfl dX12_sheet_86 rfl rfl hb39 rfl ?_
              obtain ⟨s40, hs40, h⟩ := ab_lt_e h
              refine z_tops hs40 ?_
              refine z_iconst (pc2 := 88) rfl dX12_sheet_87 lt_i_0 ?_
              refine z_istore (pc2 := 90) (L2 := [some (.ref 85), some (.int a1), some (.int a2), some (.int a3), some (.int (0 : Int32))]) rfl dX12_sheet_88 (by decide) rfl rfl ?_
              refine z_fgt [true, true, false, false, true] (L2 := [some (.ref 85), some (.int a1), none, none, some (.int (0 : Int32))]) rfl ?_
              refine e_X12_sheet_L90 (fun s41 h => ?_) _ _ _ h
              refine z_iconst (pc2 := 117) rfl dX12_sheet_116 lt_i_1 ?_
              exact z_iret dX12_sheet_117 rfl rfl (fi_w h)
          · replace h := ab_neg hc32 h
            refine z_iload_n (pc2 := 54) rfl dX12_sheet_53 rfl ?_
            refine z_bipush (pc2 := 56) rfl dX12_sheet_54 lt_b_24 ?_
            refine z_icmp_le (pc2 := 59) (tgt := 65) rfl dX12_sheet_56 (by decide) (fun hc42 => ?_) (fun hc42 => ?_)
            · replace h := ab_pos hc42 h
              refine z_aload_n (pc2 := 66) rfl dX12_sheet_65 rfl ?_
              refine z_getR 85 12 16 94 (pc2 := 69) rfl dX12_sheet_66 rfl rfl ff_12_16 wd_993 rfl ?_
              refine z_iload_n (pc2 := 70) rfl dX12_sheet_69 rfl ?_
              refine z_iload_n (pc2 := 71) rfl dX12_sheet_70 rfl ?_
              obtain ⟨hb43, h⟩ := ab_ck_e h
              refine z_iast 94 (pc2 := 72) (j := (a1).toNatClampNeg) rfl dX12_sheet_71 rfl rfl hb43 rfl ?_
              obtain ⟨s44, hs44, h⟩ := ab_lt_e h
              refine z_tops hs44 ?_
              refine z_aload_n (pc2 := 73) rfl dX12_sheet_72 rfl ?_
              refine z_getR 85 12 17 95 (pc2 := 76) rfl dX12_sheet_73 rfl rfl ff_12_17 wd_994 rfl ?_
              refine z_iload_n (pc2 := 77) rfl dX12_sheet_76 rfl ?_
              refine z_iload_n (pc2 := 78) rfl dX12_sheet_77 rfl ?_
              refine z_if_ne (pc2 := 81) (tgt := 85) rfl dX12_sheet_78 (by decide) (fun hc45 => ?_) (fun hc45 => ?_)
              · replace h := ab_neg hc45 h
                refine z_iload_n (pc2 := 86) rfl dX12_sheet_85 rfl ?_
                obtain ⟨hb46, h⟩ := ab_ck_e h
                refine z_iast 95 (pc2 := 87) (j := (a1).toNatClampNeg) rfl dX12_sheet_86 rfl rfl hb46 rfl ?_
                obtain ⟨s47, hs47, h⟩ := ab_lt_e h
                refine z_tops hs47 ?_
                refine z_iconst (pc2 := 88) rfl dX12_sheet_87 lt_i_0 ?_
                refine z_istore (pc2 := 90) (L2 := [some (.ref 85), some (.int a1), some (.int a2), some (.int a3), some (.int (0 : Int32))]) rfl dX12_sheet_88 (by decide) rfl rfl ?_
                refine z_fgt [true, true, false, false, true] (L2 := [some (.ref 85), some (.int a1), none, none, some (.int (0 : Int32))]) rfl ?_
                refine e_X12_sheet_L90 (fun s48 h => ?_) _ _ _ h
                refine z_iconst (pc2 := 117) rfl dX12_sheet_116 lt_i_1 ?_
                exact z_iret dX12_sheet_117 rfl rfl (fi_w h)
              · replace h := ab_pos hc45 h
                refine z_iconst (pc2 := 82) rfl dX12_sheet_81 lt_i_0 ?_
                refine ab_goto (tgt := 86) dX12_sheet_82 (by decide) ?_
                obtain ⟨hb49, h⟩ := ab_ck_e h
                refine z_iast 95 (pc2 := 87) (j := (a1).toNatClampNeg) rfl dX12_sheet_86 rfl rfl hb49 rfl ?_
                obtain ⟨s50, hs50, h⟩ := ab_lt_e h
                refine z_tops hs50 ?_
                refine z_iconst (pc2 := 88) rfl dX12_sheet_87 lt_i_0 ?_
                refine z_istore (pc2 := 90) (L2 := [some (.ref 85), some (.int a1), some (.int a2), some (.int a3), some (.int (0 : Int32))]) rfl dX12_sheet_88 (by decide) rfl rfl ?_
                refine z_fgt [true, true, false, false, true] (L2 := [some (.ref 85), some (.int a1), none, none, some (.int (0 : Int32))]) rfl ?_
                refine e_X12_sheet_L90 (fun s51 h => ?_) _ _ _ h
                refine z_iconst (pc2 := 117) rfl dX12_sheet_116 lt_i_1 ?_
                exact z_iret dX12_sheet_117 rfl rfl (fi_w h)
            · replace h := ab_neg hc42 h
              refine z_aload_n (pc2 := 60) rfl dX12_sheet_59 rfl ?_
              refine z_iconst (pc2 := 61) rfl dX12_sheet_60 lt_i_1 ?_
              obtain ⟨q52, hq52, h⟩ := ab_bnd h
              refine z_callVi 85 [.int (1 : Int32)] [some (.ref 85), some (.int (1 : Int32))] (pc2 := 64) rfl rfl dX12_sheet_61 ok_X12_error ⟨fun _ => rfl, fun _ => Nat.le_of_ble_eq_true rfl⟩ rfl rv_85 wd_1045 wd_1047 wd_16 rfl (e_X12_error hq52) ?_
              exact z_iret dX12_sheet_64 rfl rfl (fi_w h)
        · replace h := ab_neg hc31 h
          refine z_aload_n (pc2 := 44) rfl dX12_sheet_43 rfl ?_
          refine z_iconst (pc2 := 45) rfl dX12_sheet_44 lt_i_3 ?_
          obtain ⟨q53, hq53, h⟩ := ab_bnd h
          refine z_callVi 85 [.int (3 : Int32)] [some (.ref 85), some (.int (3 : Int32))] (pc2 := 48) rfl rfl dX12_sheet_45 ok_X12_error ⟨fun _ => rfl, fun _ => Nat.le_of_ble_eq_true rfl⟩ rfl rv_85 wd_1045 wd_1047 wd_16 rfl (e_X12_error hq53) ?_
          exact z_iret dX12_sheet_48 rfl rfl (fi_w h)
    · replace h := ab_neg hc4 h
      refine z_iload_n (pc2 := 12) rfl dX12_sheet_11 rfl ?_
      refine z_bipush (pc2 := 14) rfl dX12_sheet_12 lt_b_8 ?_
      refine z_icmp_eq (pc2 := 17) (tgt := 35) rfl dX12_sheet_14 (by decide) (fun hc54 => ?_) (fun hc54 => ?_)
      · replace h := ab_pos hc54 h
        refine z_iload_n (pc2 := 36) rfl dX12_sheet_35 rfl ?_
        refine z_if_eq (pc2 := 39) (tgt := 49) rfl dX12_sheet_36 (by decide) (fun hc55 => ?_) (fun hc55 => ?_)
        · replace h := ab_pos hc55 h
          refine z_iload_n (pc2 := 50) rfl dX12_sheet_49 rfl ?_
          refine z_if_eq (pc2 := 53) (tgt := 65) rfl dX12_sheet_50 (by decide) (fun hc56 => ?_) (fun hc56 => ?_)
          · replace h := ab_pos hc56 h
            refine z_aload_n (pc2 := 66) rfl dX12_sheet_65 rfl ?_
            refine z_getR 85 12 16 94 (pc2 := 69) rfl dX12_sheet_66 rfl rfl ff_12_16 wd_993 rfl ?_
            refine z_iload_n (pc2 := 70) rfl dX12_sheet_69 rfl ?_
            refine z_iload_n (pc2 := 71) rfl dX12_sheet_70 rfl ?_
            obtain ⟨hb57, h⟩ := ab_ck_e h
            refine z_iast 94 (pc2 := 72) (j := (a1).toNatClampNeg) rfl dX12_sheet_71 rfl rfl hb57 rfl ?_
            obtain ⟨s58, hs58, h⟩ := ab_lt_e h
            refine z_tops hs58 ?_
            refine z_aload_n (pc2 := 73) rfl dX12_sheet_72 rfl ?_
            refine z_getR 85 12 17 95 (pc2 := 76) rfl dX12_sheet_73 rfl rfl ff_12_17 wd_994 rfl ?_
            refine z_iload_n (pc2 := 77) rfl dX12_sheet_76 rfl ?_
            refine z_iload_n (pc2 := 78) rfl dX12_sheet_77 rfl ?_
            refine z_if_ne (pc2 := 81) (tgt := 85) rfl dX12_sheet_78 (by decide) (fun hc59 => ?_) (fun hc59 => ?_)
            · replace h := ab_neg hc59 h
              refine z_iload_n (pc2 := 86) rfl dX12_sheet_85 rfl ?_
              obtain ⟨hb60, h⟩ := ab_ck_e h
              refine z_iast 95 (pc2 := 87) (j := (a1).toNatClampNeg) rfl dX12_sheet_86 rfl rfl hb60 rfl ?_
              obtain ⟨s61, hs61, h⟩ := ab_lt_e h
              refine z_tops hs61 ?_
              refine z_iconst (pc2 := 88) rfl dX12_sheet_87 lt_i_0 ?_
              refine z_istore (pc2 := 90) (L2 := [some (.ref 85), some (.int a1), some (.int a2), some (.int a3), some (.int (0 : Int32))]) rfl dX12_sheet_88 (by decide) rfl rfl ?_
              refine z_fgt [true, true, false, false, true] (L2 := [some (.ref 85), some (.int a1), none, none, some (.int (0 : Int32))]) rfl ?_
              refine e_X12_sheet_L90 (fun s62 h => ?_) _ _ _ h
              refine z_iconst (pc2 := 117) rfl dX12_sheet_116 lt_i_1 ?_
              exact z_iret dX12_sheet_117 rfl rfl (fi_w h)
            · replace h := ab_pos hc59 h
              refine z_iconst (pc2 := 82) rfl dX12_sheet_81 lt_i_0 ?_
              refine ab_goto (tgt := 86) dX12_sheet_82 (by decide) ?_
              obtain ⟨hb63, h⟩ := ab_ck_e h
              refine z_iast 95 (pc2 := 87) (j := (a1).toNatClampNeg) rfl dX12_sheet_86 rfl rfl hb63 rfl ?_
              obtain ⟨s64, hs64, h⟩ := ab_lt_e h
              refine z_tops hs64 ?_
              refine z_iconst (pc2 := 88) rfl dX12_sheet_87 lt_i_0 ?_
              refine z_istore (pc2 := 90) (L2 := [some (.ref 85), some (.int a1), some (.int a2), some (.int a3), some (.int (0 : Int32))]) rfl dX12_sheet_88 (by decide) rfl rfl ?_
              refine z_fgt [true, true, false, false, true] (L2 := [some (.ref 85), some (.int a1), none, none, some (.int (0 : Int32))]) rfl ?_
              refine e_X12_sheet_L90 (fun s65 h => ?_) _ _ _ h
              refine z_iconst (pc2 := 117) rfl dX12_sheet_116 lt_i_1 ?_
              exact z_iret dX12_sheet_117 rfl rfl (fi_w h)
          · replace h := ab_neg hc56 h
            refine z_iload_n (pc2 := 54) rfl dX12_sheet_53 rfl ?_
            refine z_bipush (pc2 := 56) rfl dX12_sheet_54 lt_b_24 ?_
            refine z_icmp_le (pc2 := 59) (tgt := 65) rfl dX12_sheet_56 (by decide) (fun hc66 => ?_) (fun hc66 => ?_)
            · replace h := ab_pos hc66 h
              refine z_aload_n (pc2 := 66) rfl dX12_sheet_65 rfl ?_
              refine z_getR 85 12 16 94 (pc2 := 69) rfl dX12_sheet_66 rfl rfl ff_12_16 wd_993 rfl ?_
              refine z_iload_n (pc2 := 70) rfl dX12_sheet_69 rfl ?_
              refine z_iload_n (pc2 := 71) rfl dX12_sheet_70 rfl ?_
              obtain ⟨hb67, h⟩ := ab_ck_e h
              refine z_iast 94 (pc2 := 72) (j := (a1).toNatClampNeg) rfl dX12_sheet_71 rfl rfl hb67 rfl ?_
              obtain ⟨s68, hs68, h⟩ := ab_lt_e h
              refine z_tops hs68 ?_
              refine z_aload_n (pc2 := 73) rfl dX12_sheet_72 rfl ?_
              refine z_getR 85 12 17 95 (pc2 := 76) rfl dX12_sheet_73 rfl rfl ff_12_17 wd_994 rfl ?_
              refine z_iload_n (pc2 := 77) rfl dX12_sheet_76 rfl ?_
              refine z_iload_n (pc2 := 78) rfl dX12_sheet_77 rfl ?_
              refine z_if_ne (pc2 := 81) (tgt := 85) rfl dX12_sheet_78 (by decide) (fun hc69 => ?_) (fun hc69 => ?_)
              · replace h := ab_neg hc69 h
                refine z_iload_n (pc2 := 86) rfl dX12_sheet_85 rfl ?_
                obtain ⟨hb70, h⟩ := ab_ck_e h
                refine z_iast 95 (pc2 := 87) (j := (a1).toNatClampNeg) rfl dX12_sheet_86 rfl rfl hb70 rfl ?_
                obtain ⟨s71, hs71, h⟩ := ab_lt_e h
                refine z_tops hs71 ?_
                refine z_iconst (pc2 := 88) rfl dX12_sheet_87 lt_i_0 ?_
                refine z_istore (pc2 := 90) (L2 := [some (.ref 85), some (.int a1), some (.int a2), some (.int a3), some (.int (0 : Int32))]) rfl dX12_sheet_88 (by decide) rfl rfl ?_
                refine z_fgt [true, true, false, false, true] (L2 := [some (.ref 85), some (.int a1), none, none, some (.int (0 : Int32))]) rfl ?_
                refine e_X12_sheet_L90 (fun s72 h => ?_) _ _ _ h
                refine z_iconst (pc2 := 117) rfl dX12_sheet_116 lt_i_1 ?_
                exact z_iret dX12_sheet_117 rfl rfl (fi_w h)
              · replace h := ab_pos hc69 h
                refine z_iconst (pc2 := 82) rfl dX12_sheet_81 lt_i_0 ?_
                refine ab_goto (tgt := 86) dX12_sheet_82 (by decide) ?_
                obtain ⟨hb73, h⟩ := ab_ck_e h
                refine z_iast 95 (pc2 := 87) (j := (a1).toNatClampNeg) rfl dX12_sheet_86 rfl rfl hb73 rfl ?_
                obtain ⟨s74, hs74, h⟩ := ab_lt_e h
                refine z_tops hs74 ?_
                refine z_iconst (pc2 := 88) rfl dX12_sheet_87 lt_i_0 ?_
                refine z_istore (pc2 := 90) (L2 := [some (.ref 85), some (.int a1), some (.int a2), some (.int a3), some (.int (0 : Int32))]) rfl dX12_sheet_88 (by decide) rfl rfl ?_
                refine z_fgt [true, true, false, false, true] (L2 := [some (.ref 85), some (.int a1), none, none, some (.int (0 : Int32))]) rfl ?_
                refine e_X12_sheet_L90 (fun s75 h => ?_) _ _ _ h
                refine z_iconst (pc2 := 117) rfl dX12_sheet_116 lt_i_1 ?_
                exact z_iret dX12_sheet_117 rfl rfl (fi_w h)
            · replace h := ab_neg hc66 h
              refine z_aload_n (pc2 := 60) rfl dX12_sheet_59 rfl ?_
              refine z_iconst (pc2 := 61) rfl dX12_sheet_60 lt_i_1 ?_
              obtain ⟨q76, hq76, h⟩ := ab_bnd h
              refine z_callVi 85 [.int (1 : Int32)] [some (.ref 85), some (.int (1 : Int32))] (pc2 := 64) rfl rfl dX12_sheet_61 ok_X12_error ⟨fun _ => rfl, fun _ => Nat.le_of_ble_eq_true rfl⟩ rfl rv_85 wd_1045 wd_1047 wd_16 rfl (e_X12_error hq76) ?_
              exact z_iret dX12_sheet_64 rfl rfl (fi_w h)
        · replace h := ab_neg hc55 h
          refine z_iload_n (pc2 := 40) rfl dX12_sheet_39 rfl ?_
          refine z_if_ge (pc2 := 43) (tgt := 49) rfl dX12_sheet_40 (by decide) (fun hc77 => ?_) (fun hc77 => ?_)
          · replace h := ab_pos hc77 h
            refine z_iload_n (pc2 := 50) rfl dX12_sheet_49 rfl ?_
            refine z_if_eq (pc2 := 53) (tgt := 65) rfl dX12_sheet_50 (by decide) (fun hc78 => ?_) (fun hc78 => ?_)
            · replace h := ab_pos hc78 h
              refine z_aload_n (pc2 := 66) rfl dX12_sheet_65 rfl ?_
              refine z_getR 85 12 16 94 (pc2 := 69) rfl dX12_sheet_66 rfl rfl ff_12_16 wd_993 rfl ?_
              refine z_iload_n (pc2 := 70) rfl dX12_sheet_69 rfl ?_
              refine z_iload_n (pc2 := 71) rfl dX12_sheet_70 rfl ?_
              obtain ⟨hb79, h⟩ := ab_ck_e h
              refine z_iast 94 (pc2 := 72) (j := (a1).toNatClampNeg) rfl dX12_sheet_71 rfl rfl hb79 rfl ?_
              obtain ⟨s80, hs80, h⟩ := ab_lt_e h
              refine z_tops hs80 ?_
              refine z_aload_n (pc2 := 73) rfl dX12_sheet_72 rfl ?_
              refine z_getR 85 12 17 95 (pc2 := 76) rfl dX12_sheet_73 rfl rfl ff_12_17 wd_994 rfl ?_
              refine z_iload_n (pc2 := 77) rfl dX12_sheet_76 rfl ?_
              refine z_iload_n (pc2 := 78) rfl dX12_sheet_77 rfl ?_
              refine z_if_ne (pc2 := 81) (tgt := 85) rfl dX12_sheet_78 (by decide) (fun hc81 => ?_) (fun hc81 => ?_)
              · replace h := ab_neg hc81 h
                refine z_iload_n (pc2 := 86) rfl dX12_sheet_85 rfl ?_
                obtain ⟨hb82, h⟩ := ab_ck_e h
                refine z_iast 95 (pc2 := 87) (j := (a1).toNatClampNeg) rfl dX12_sheet_86 rfl rfl hb82 rfl ?_
                obtain ⟨s83, hs83, h⟩ := ab_lt_e h
                refine z_tops hs83 ?_
                refine z_iconst (pc2 := 88) rfl dX12_sheet_87 lt_i_0 ?_
                refine z_istore (pc2 := 90) (L2 := [some (.ref 85), some (.int a1), some (.int a2), some (.int a3), some (.int (0 : Int32))]) rfl dX12_sheet_88 (by decide) rfl rfl ?_
                refine z_fgt [true, true, false, false, true] (L2 := [some (.ref 85), some (.int a1), none, none, some (.int (0 : Int32))]) rfl ?_
                refine e_X12_sheet_L90 (fun s84 h => ?_) _ _ _ h
                refine z_iconst (pc2 := 117) rfl dX12_sheet_116 lt_i_1 ?_
                exact z_iret dX12_sheet_117 rfl rfl (fi_w h)
              · replace h := ab_pos hc81 h
                refine z_iconst (pc2 := 82) rfl dX12_sheet_81 lt_i_0 ?_
                refine ab_goto (tgt := 86) dX12_sheet_82 (by decide) ?_
                obtain ⟨hb85, h⟩ := ab_ck_e h
                refine z_iast 95 (pc2 := 87) (j := (a1).toNatClampNeg) rfl dX12_sheet_86 rfl rfl hb85 rfl ?_
                obtain ⟨s86, hs86, h⟩ := ab_lt_e h
                refine z_tops hs86 ?_
                refine z_iconst (pc2 := 88) rfl dX12_sheet_87 lt_i_0 ?_
                refine z_istore (pc2 := 90) (L2 := [some (.ref 85), some (.int a1), some (.int a2), some (.int a3), some (.int (0 : Int32))]) rfl dX12_sheet_88 (by decide) rfl rfl ?_
                refine z_fgt [true, true, false, false, true] (L2 := [some (.ref 85), some (.int a1), none, none, some (.int (0 : Int32))]) rfl ?_
                refine e_X12_sheet_L90 (fun s87 h => ?_) _ _ _ h
                refine z_iconst (pc2 := 117) rfl dX12_sheet_116 lt_i_1 ?_
                exact z_iret dX12_sheet_117 rfl rfl (fi_w h)
            · replace h := ab_neg hc78 h
              refine z_iload_n (pc2 := 54) rfl dX12_sheet_53 rfl ?_
              refine z_bipush (pc2 := 56) rfl dX12_sheet_54 lt_b_24 ?_
              refine z_icmp_le (pc2 := 59) (tgt := 65) rfl dX12_sheet_56 (by decide) (fun hc88 => ?_) (fun hc88 => ?_)
              · replace h := ab_pos hc88 h
                refine z_aload_n (pc2 := 66) rfl dX12_sheet_65 rfl ?_
                refine z_getR 85 12 16 94 (pc2 := 69) rfl dX12_sheet_66 rfl rfl ff_12_16 wd_993 rfl ?_
                refine z_iload_n (pc2 := 70) rfl dX12_sheet_69 rfl ?_
                refine z_iload_n (pc2 := 71) rfl dX12_sheet_70 rfl ?_
                obtain ⟨hb89, h⟩ := ab_ck_e h
                refine z_iast 94 (pc2 := 72) (j := (a1).toNatClampNeg) rfl dX12_sheet_71 rfl rfl hb89 rfl ?_
                obtain ⟨s90, hs90, h⟩ := ab_lt_e h
                refine z_tops hs90 ?_
                refine z_aload_n (pc2 := 73) rfl dX12_sheet_72 rfl ?_
                refine z_getR 85 12 17 95 (pc2 := 76) rfl dX12_sheet_73 rfl rfl ff_12_17 wd_994 rfl ?_
                refine z_iload_n (pc2 := 77) rfl dX12_sheet_76 rfl ?_
                refine z_iload_n (pc2 := 78) rfl dX12_sheet_77 rfl ?_
                refine z_if_ne (pc2 := 81) (tgt := 85) rfl dX12_sheet_78 (by decide) (fun hc91 => ?_) (fun hc91 => ?_)
                · replace h := ab_neg hc91 h
                  refine z_iload_n (pc2 := 86) rfl dX12_sheet_85 rfl ?_
                  obtain ⟨hb92, h⟩ := ab_ck_e h
                  refine z_iast 95 (pc2 := 87) (j := (a1).toNatClampNeg) rfl dX12_sheet_86 rfl rfl hb92 rfl ?_
                  obtain ⟨s93, hs93, h⟩ := ab_lt_e h
                  refine z_tops hs93 ?_
                  refine z_iconst (pc2 := 88) rfl dX12_sheet_87 lt_i_0 ?_
                  refine z_istore (pc2 := 90) (L2 := [some (.ref 85), some (.int a1), some (.int a2), some (.int a3), some (.int (0 : Int32))]) rfl dX12_sheet_88 (by decide) rfl rfl ?_
                  refine z_fgt [true, true, false, false, true] (L2 := [some (.ref 85), some (.int a1), none, none, some (.int (0 : Int32))]) rfl ?_
                  refine e_X12_sheet_L90 (fun s94 h => ?_) _ _ _ h
                  refine z_iconst (pc2 := 117) rfl dX12_sheet_116 lt_i_1 ?_
                  exact z_iret dX12_sheet_117 rfl rfl (fi_w h)
                · replace h := ab_pos hc91 h
                  refine z_iconst (pc2 := 82) rfl dX12_sheet_81 lt_i_0 ?_
                  refine ab_goto (tgt := 86) dX12_sheet_82 (by decide) ?_
                  obtain ⟨hb95, h⟩ := ab_ck_e h
                  refine z_iast 95 (pc2 := 87) (j := (a1).toNatClampNeg) rfl dX12_sheet_86 rfl rfl hb95 rfl ?_
                  obtain ⟨s96, hs96, h⟩ := ab_lt_e h
                  refine z_tops hs96 ?_
                  refine z_iconst (pc2 := 88) rfl dX12_sheet_87 lt_i_0 ?_
                  refine z_istore (pc2 := 90) (L2 := [some (.ref 85), some (.int a1), some (.int a2), some (.int a3), some (.int (0 : Int32))]) rfl dX12_sheet_88 (by decide) rfl rfl ?_
                  refine z_fgt [true, true, false, false, true] (L2 := [some (.ref 85), some (.int a1), none, none, some (.int (0 : Int32))]) rfl ?_
                  refine e_X12_sheet_L90 (fun s97 h => ?_) _ _ _ h
                  refine z_iconst (pc2 := 117) rfl dX12_sheet_116 lt_i_1 ?_
                  exact z_iret dX12_sheet_117 rfl rfl (fi_w h)
              · replace h := ab_neg hc88 h
                refine z_aload_n (pc2 := 60) rfl dX12_sheet_59 rfl ?_
                refine z_iconst (pc2 := 61) rfl dX12_sheet_60 lt_i_1 ?_
                obtain ⟨q98, hq98, h⟩ := ab_bnd h
                refine z_callVi 85 [.int (1 : Int32)] [some (.ref 85), some (.int (1 : Int32))] (pc2 := 64) rfl rfl dX12_sheet_61 ok_X12_error ⟨fun _ => rfl, fun _ => Nat.le_of_ble_eq_true rfl⟩ rfl rv_85 wd_1045 wd_1047 wd_16 rfl (e_X12_error hq98) ?_
                exact z_iret dX12_sheet_64 rfl rfl (fi_w h)
          · replace h := ab_neg hc77 h
            refine z_aload_n (pc2 := 44) rfl dX12_sheet_43 rfl ?_
            refine z_iconst (pc2 := 45) rfl dX12_sheet_44 lt_i_3 ?_
            obtain ⟨q99, hq99, h⟩ := ab_bnd h
            refine z_callVi 85 [.int (3 : Int32)] [some (.ref 85), some (.int (3 : Int32))] (pc2 := 48) rfl rfl dX12_sheet_45 ok_X12_error ⟨fun _ => rfl, fun _ => Nat.le_of_ble_eq_true rfl⟩ rfl rv_85 wd_1045 wd_1047 wd_16 rfl (e_X12_error hq99) ?_
            exact z_iret dX12_sheet_48 rfl rfl (fi_w h)
      · replace h := ab_neg hc54 h
        refine z_iload_n (pc2 := 18) rfl dX12_sheet_17 rfl ?_
        refine z_bipush (pc2 := 20) rfl dX12_sheet_18 lt_b_16 ?_
        refine z_icmp_eq (pc2 := 23) (tgt := 35) rfl dX12_sheet_20 (by decide) (fun hc100 => ?_) (fun hc100 => ?_)
        · replace h := ab_pos hc100 h
          refine z_iload_n (pc2 := 36) rfl dX12_sheet_35 rfl ?_
          refine z_if_eq (pc2 := 39) (tgt := 49) rfl dX12_sheet_36 (by decide) (fun hc101 => ?_) (fun hc101 => ?_)
          · replace h := ab_pos hc101 h
            refine z_iload_n (pc2 := 50) rfl dX12_sheet_49 rfl ?_
            refine z_if_eq (pc2 := 53) (tgt := 65) rfl dX12_sheet_50 (by decide) (fun hc102 => ?_) (fun hc102 => ?_)
            · replace h := ab_pos hc102 h
              refine z_aload_n (pc2 := 66) rfl dX12_sheet_65 rfl ?_
              refine z_getR 85 12 16 94 (pc2 := 69) rfl dX12_sheet_66 rfl rfl ff_12_16 wd_993 rfl ?_
              refine z_iload_n (pc2 := 70) rfl dX12_sheet_69 rfl ?_
              refine z_iload_n (pc2 := 71) rfl dX12_sheet_70 rfl ?_
              obtain ⟨hb103, h⟩ := ab_ck_e h
              refine z_iast 94 (pc2 := 72) (j := (a1).toNatClampNeg) rfl dX12_sheet_71 rfl rfl hb103 rfl ?_
              obtain ⟨s104, hs104, h⟩ := ab_lt_e h
              refine z_tops hs104 ?_
              refine z_aload_n (pc2 := 73) rfl dX12_sheet_72 rfl ?_
              refine z_getR 85 12 17 95 (pc2 := 76) rfl dX12_sheet_73 rfl rfl ff_12_17 wd_994 rfl ?_
              refine z_iload_n (pc2 := 77) rfl dX12_sheet_76 rfl ?_
              refine z_iload_n (pc2 := 78) rfl dX12_sheet_77 rfl ?_
              refine z_if_ne (pc2 := 81) (tgt := 85) rfl dX12_sheet_78 (by decide) (fun hc105 => ?_) (fun hc105 => ?_)
              · replace h := ab_neg hc105 h
                refine z_iload_n (pc2 := 86) rfl dX12_sheet_85 rfl ?_
                obtain ⟨hb106, h⟩ := ab_ck_e h
                refine z_iast 95 (pc2 := 87) (j := (a1).toNatClampNeg) rfl dX12_sheet_86 rfl rfl hb106 rfl ?_
                obtain ⟨s107, hs107, h⟩ := ab_lt_e h
                refine z_tops hs107 ?_
                refine z_iconst (pc2 := 88) rfl dX12_sheet_87 lt_i_0 ?_
                refine z_istore (pc2 := 90) (L2 := [some (.ref 85), some (.int a1), some (.int a2), some (.int a3), some (.int (0 : Int32))]) rfl dX12_sheet_88 (by decide) rfl rfl ?_
                refine z_fgt [true, true, false, false, true] (L2 := [some (.ref 85), some (.int a1), none, none, some (.int (0 : Int32))]) rfl ?_
                refine e_X12_sheet_L90 (fun s108 h => ?_) _ _ _ h
                refine z_iconst (pc2 := 117) rfl dX12_sheet_116 lt_i_1 ?_
                exact z_iret dX12_sheet_117 rfl rfl (fi_w h)
              · replace h := ab_pos hc105 h
                refine z_iconst (pc2 := 82) rfl dX12_sheet_81 lt_i_0 ?_
                refine ab_goto (tgt := 86) dX12_sheet_82 (by decide) ?_
                obtain ⟨hb109, h⟩ := ab_ck_e h
                refine z_iast 95 (pc2 := 87) (j := (a1).toNatClampNeg) rfl dX12_sheet_86 rfl rfl hb109 rfl ?_
                obtain ⟨s110, hs110, h⟩ := ab_lt_e h
                refine z_tops hs110 ?_
                refine z_iconst (pc2 := 88) rfl dX12_sheet_87 lt_i_0 ?_
                refine z_istore (pc2 := 90) (L2 := [some (.ref 85), some (.int a1), some (.int a2), some (.int a3), some (.int (0 : Int32))]) rfl dX12_sheet_88 (by decide) rfl rfl ?_
                refine z_fgt [true, true, false, false, true] (L2 := [some (.ref 85), some (.int a1), none, none, some (.int (0 : Int32))]) rfl ?_
                refine e_X12_sheet_L90 (fun s111 h => ?_) _ _ _ h
                refine z_iconst (pc2 := 117) rfl dX12_sheet_116 lt_i_1 ?_
                exact z_iret dX12_sheet_117 rfl rfl (fi_w h)
            · replace h := ab_neg hc102 h
              refine z_iload_n (pc2 := 54) rfl dX12_sheet_53 rfl ?_
              refine z_bipush (pc2 := 56) rfl dX12_sheet_54 lt_b_24 ?_
              refine z_icmp_le (pc2 := 59) (tgt := 65) rfl dX12_sheet_56 (by decide) (fun hc112 => ?_) (fun hc112 => ?_)
              · replace h := ab_pos hc112 h
                refine z_aload_n (pc2 := 66) rfl dX12_sheet_65 rfl ?_
                refine z_getR 85 12 16 94 (pc2 := 69) rfl dX12_sheet_66 rfl rfl ff_12_16 wd_993 rfl ?_
                refine z_iload_n (pc2 := 70) rfl dX12_sheet_69 rfl ?_
                refine z_iload_n (pc2 := 71) rfl dX12_sheet_70 rfl ?_
                obtain ⟨hb113, h⟩ := ab_ck_e h
                refine z_iast 94 (pc2 := 72) (j := (a1).toNatClampNeg) rfl dX12_sheet_71 rfl rfl hb113 rfl ?_
                obtain ⟨s114, hs114, h⟩ := ab_lt_e h
                refine z_tops hs114 ?_
                refine z_aload_n (pc2 := 73) rfl dX12_sheet_72 rfl ?_
                refine z_getR 85 12 17 95 (pc2 := 76) rfl dX12_sheet_73 rfl rfl ff_12_17 wd_994 rfl ?_
                refine z_iload_n (pc2 := 77) rfl dX12_sheet_76 rfl ?_
                refine z_iload_n (pc2 := 78) rfl dX12_sheet_77 rfl ?_
                refine z_if_ne (pc2 := 81) (tgt := 85) rfl dX12_sheet_78 (by decide) (fun hc115 => ?_) (fun hc115 => ?_)
                · replace h := ab_neg hc115 h
                  refine z_iload_n (pc2 := 86) rfl dX12_sheet_85 rfl ?_
                  obtain ⟨hb116, h⟩ := ab_ck_e h
                  refine z_iast 95 (pc2 := 87) (j := (a1).toNatClampNeg) rfl dX12_sheet_86 rfl rfl hb116 rfl ?_
                  obtain ⟨s117, hs117, h⟩ := ab_lt_e h
                  refine z_tops hs117 ?_
                  refine z_iconst (pc2 := 88) rfl dX12_sheet_87 lt_i_0 ?_
                  refine z_istore (pc2 := 90) (L2 := [some (.ref 85), some (.int a1), some (.int a2), some (.int a3), some (.int (0 : Int32))]) rfl dX12_sheet_88 (by decide) rfl rfl ?_
                  refine z_fgt [true, true, false, false, true] (L2 := [some (.ref 85), some (.int a1), none, none, some (.int (0 : Int32))]) rfl ?_
                  refine e_X12_sheet_L90 (fun s118 h => ?_) _ _ _ h
                  refine z_iconst (pc2 := 117) rfl dX12_sheet_116 lt_i_1 ?_
                  exact z_iret dX12_sheet_117 rfl rfl (fi_w h)
                · replace h := ab_pos hc115 h
                  refine z_iconst (pc2 := 82) rfl dX12_sheet_81 lt_i_0 ?_
                  refine ab_goto (tgt := 86) dX12_sheet_82 (by decide) ?_
                  obtain ⟨hb119, h⟩ := ab_ck_e h
                  refine z_iast 95 (pc2 := 87) (j := (a1).toNatClampNeg) rfl dX12_sheet_86 rfl rfl hb119 rfl ?_
                  obtain ⟨s120, hs120, h⟩ := ab_lt_e h
                  refine z_tops hs120 ?_
                  refine z_iconst (pc2 := 88) rfl dX12_sheet_87 lt_i_0 ?_
                  refine z_istore (pc2 := 90) (L2 := [some (.ref 85), some (.int a1), some (.int a2), some (.int a3), some (.int (0 : Int32))]) rfl dX12_sheet_88 (by decide) rfl rfl ?_
                  refine z_fgt [true, true, false, false, true] (L2 := [some (.ref 85), some (.int a1), none, none, some (.int (0 : Int32))]) rfl ?_
                  refine e_X12_sheet_L90 (fun s121 h => ?_) _ _ _ h
                  refine z_iconst (pc2 := 117) rfl dX12_sheet_116 lt_i_1 ?_
                  exact z_iret dX12_sheet_117 rfl rfl (fi_w h)
              · replace h := ab_neg hc112 h
                refine z_aload_n (pc2 := 60) rfl dX12_sheet_59 rfl ?_
                refine z_iconst (pc2 := 61) rfl dX12_sheet_60 lt_i_1 ?_
                obtain ⟨q122, hq122, h⟩ := ab_bnd h
                refine z_callVi 85 [.int (1 : Int32)] [some (.ref 85), some (.int (1 : Int32))] (pc2 := 64) rfl rfl dX12_sheet_61 ok_X12_error ⟨fun _ => rfl, fun _ => Nat.le_of_ble_eq_true rfl⟩ rfl rv_85 wd_1045 wd_1047 wd_16 rfl (e_X12_error hq122) ?_
                exact z_iret dX12_sheet_64 rfl rfl (fi_w h)
          · replace h := ab_neg hc101 h
            refine z_iload_n (pc2 := 40) rfl dX12_sheet_39 rfl ?_
            refine z_if_ge (pc2 := 43) (tgt := 49) rfl dX12_sheet_40 (by decide) (fun hc123 => ?_) (fun hc123 => ?_)
            · replace h := ab_pos hc123 h
              refine z_iload_n (pc2 := 50) rfl dX12_sheet_49 rfl ?_
              refine z_if_eq (pc2 := 53) (tgt := 65) rfl dX12_sheet_50 (by decide) (fun hc124 => ?_) (fun hc124 => ?_)
              · replace h := ab_pos hc124 h
                refine z_aload_n (pc2 := 66) rfl dX12_sheet_65 rfl ?_
                refine z_getR 85 12 16 94 (pc2 := 69) rfl dX12_sheet_66 rfl rfl ff_12_16 wd_993 rfl ?_
                refine z_iload_n (pc2 := 70) rfl dX12_sheet_69 rfl ?_
                refine z_iload_n (pc2 := 71) rfl dX12_sheet_70 rfl ?_
                obtain ⟨hb125, h⟩ := ab_ck_e h
                refine z_iast 94 (pc2 := 72) (j := (a1).toNatClampNeg) rfl dX12_sheet_71 rfl rfl hb125 rfl ?_
                obtain ⟨s126, hs126, h⟩ := ab_lt_e h
                refine z_tops hs126 ?_
                refine z_aload_n (pc2 := 73) rfl dX12_sheet_72 rfl ?_
                refine z_getR 85 12 17 95 (pc2 := 76) rfl dX12_sheet_73 rfl rfl ff_12_17 wd_994 rfl ?_
                refine z_iload_n (pc2 := 77) rfl dX12_sheet_76 rfl ?_
                refine z_iload_n (pc2 := 78) rfl dX12_sheet_77 rfl ?_
                refine z_if_ne (pc2 := 81) (tgt := 85) rfl dX12_sheet_78 (by decide) (fun hc127 => ?_) (fun hc127 => ?_)
                · replace h := ab_neg hc127 h
                  refine z_iload_n (pc2 := 86) rfl dX12_sheet_85 rfl ?_
                  obtain ⟨hb128, h⟩ := ab_ck_e h
                  refine z_iast 95 (pc2 := 87) (j := (a1).toNatClampNeg) rfl dX12_sheet_86 rfl rfl hb128 rfl ?_
                  obtain ⟨s129, hs129, h⟩ := ab_lt_e h
                  refine z_tops hs129 ?_
                  refine z_iconst (pc2 := 88) rfl dX12_sheet_87 lt_i_0 ?_
                  refine z_istore (pc2 := 90) (L2 := [some (.ref 85), some (.int a1), some (.int a2), some (.int a3), some (.int (0 : Int32))]) rfl dX12_sheet_88 (by decide) rfl rfl ?_
                  refine z_fgt [true, true, false, false, true] (L2 := [some (.ref 85), some (.int a1), none, none, some (.int (0 : Int32))]) rfl ?_
                  refine e_X12_sheet_L90 (fun s130 h => ?_) _ _ _ h
                  refine z_iconst (pc2 := 117) rfl dX12_sheet_116 lt_i_1 ?_
                  exact z_iret dX12_sheet_117 rfl rfl (fi_w h)
                · replace h := ab_pos hc127 h
                  refine z_iconst (pc2 := 82) rfl dX12_sheet_81 lt_i_0 ?_
                  refine ab_goto (tgt := 86) dX12_sheet_82 (by decide) ?_
                  obtain ⟨hb131, h⟩ := ab_ck_e h
                  refine z_iast 95 (pc2 := 87) (j := (a1).toNatClampNeg) rfl dX12_sheet_86 rfl rfl hb131 rfl ?_
                  obtain ⟨s132, hs132, h⟩ := ab_lt_e h
                  refine z_tops hs132 ?_
                  refine z_iconst (pc2 := 88) rfl dX12_sheet_87 lt_i_0 ?_
                  refine z_istore (pc2 := 90) (L2 := [some (.ref 85), some (.int a1), some (.int a2), some (.int a3), some (.int (0 : Int32))]) rfl dX12_sheet_88 (by decide) rfl rfl ?_
                  refine z_fgt [true, true, false, false, true] (L2 := [some (.ref 85), some (.int a1), none, none, some (.int (0 : Int32))]) rfl ?_
                  refine e_X12_sheet_L90 (fun s133 h => ?_) _ _ _ h
                  refine z_iconst (pc2 := 117) rfl dX12_sheet_116 lt_i_1 ?_
                  exact z_iret dX12_sheet_117 rfl rfl (fi_w h)
              · replace h := ab_neg hc124 h
                refine z_iload_n (pc2 := 54) rfl dX12_sheet_53 rfl ?_
                refine z_bipush (pc2 := 56) rfl dX12_sheet_54 lt_b_24 ?_
                refine z_icmp_le (pc2 := 59) (tgt := 65) rfl dX12_sheet_56 (by decide) (fun hc134 => ?_) (fun hc134 => ?_)
                · replace h := ab_pos hc134 h
                  refine z_aload_n (pc2 := 66) rfl dX12_sheet_65 rfl ?_
                  refine z_getR 85 12 16 94 (pc2 := 69) rfl dX12_sheet_66 rfl rfl ff_12_16 wd_993 rfl ?_
                  refine z_iload_n (pc2 := 70) rfl dX12_sheet_69 rfl ?_
                  refine z_iload_n (pc2 := 71) rfl dX12_sheet_70 rfl ?_
                  obtain ⟨hb135, h⟩ := ab_ck_e h
                  refine z_iast 94 (pc2 := 72) (j := (a1).toNatClampNeg) rfl dX12_sheet_71 rfl rfl hb135 rfl ?_
                  obtain ⟨s136, hs136, h⟩ := ab_lt_e h
                  refine z_tops hs136 ?_
                  refine z_aload_n (pc2 := 73) rfl dX12_sheet_72 rfl ?_
                  refine z_getR 85 12 17 95 (pc2 := 76) rfl dX12_sheet_73 rfl rfl ff_12_17 wd_994 rfl ?_
                  refine z_iload_n (pc2 := 77) rfl dX12_sheet_76 rfl ?_
                  refine z_iload_n (pc2 := 78) rfl dX12_sheet_77 rfl ?_
                  refine z_if_ne (pc2 := 81) (tgt := 85) rfl dX12_sheet_78 (by decide) (fun hc137 => ?_) (fun hc137 => ?_)
                  · replace h := ab_neg hc137 h
                    refine z_iload_n (pc2 := 86) rfl dX12_sheet_85 rfl ?_
                    obtain ⟨hb138, h⟩ := ab_ck_e h
                    refine z_iast 95 (pc2 := 87) (j := (a1).toNatClampNeg) rfl dX12_sheet_86 rfl rfl hb138 rfl ?_
                    obtain ⟨s139, hs139, h⟩ := ab_lt_e h
                    refine z_tops hs139 ?_
                    refine z_iconst (pc2 := 88) rfl dX12_sheet_87 lt_i_0 ?_
                    refine z_istore (pc2 := 90) (L2 := [some (.ref 85), some (.int a1), some (.int a2), some (.int a3), some (.int (0 : Int32))]) rfl dX12_sheet_88 (by decide) rfl rfl ?_
                    refine z_fgt [true, true, false, false, true] (L2 := [some (.ref 85), some (.int a1), none, none, some (.int (0 : Int32))]) rfl ?_
                    refine e_X12_sheet_L90 (fun s140 h => ?_) _ _ _ h
                    refine z_iconst (pc2 := 117) rfl dX12_sheet_116 lt_i_1 ?_
                    exact z_iret dX12_sheet_117 rfl rfl (fi_w h)
                  · replace h := ab_pos hc137 h
                    refine z_iconst (pc2 := 82) rfl dX12_sheet_81 lt_i_0 ?_
                    refine ab_goto (tgt := 86) dX12_sheet_82 (by decide) ?_
                    obtain ⟨hb141, h⟩ := ab_ck_e h
                    refine z_iast 95 (pc2 := 87) (j := (a1).toNatClampNeg) rfl dX12_sheet_86 rfl rfl hb141 rfl ?_
                    obtain ⟨s142, hs142, h⟩ := ab_lt_e h
                    refine z_tops hs142 ?_
                    refine z_iconst (pc2 := 88) rfl dX12_sheet_87 lt_i_0 ?_
                    refine z_istore (pc2 := 90) (L2 := [some (.ref 85), some (.int a1), some (.int a2), some (.int a3), some (.int (0 : Int32))]) rfl dX12_sheet_88 (by decide) rfl rfl ?_
                    refine z_fgt [true, true, false, false, true] (L2 := [some (.ref 85), some (.int a1), none, none, some (.int (0 : Int32))]) rfl ?_
                    refine e_X12_sheet_L90 (fun s143 h => ?_) _ _ _ h
                    refine z_iconst (pc2 := 117) rfl dX12_sheet_116 lt_i_1 ?_
                    exact z_iret dX12_sheet_117 rfl rfl (fi_w h)
                · replace h := ab_neg hc134 h
                  refine z_aload_n (pc2 := 60) rfl dX12_sheet_59 rfl ?_
                  refine z_iconst (pc2 := 61) rfl dX12_sheet_60 lt_i_1 ?_
                  obtain ⟨q144, hq144, h⟩ := ab_bnd h
                  refine z_callVi 85 [.int (1 : Int32)] [some (.ref 85), some (.int (1 : Int32))] (pc2 := 64) rfl rfl dX12_sheet_61 ok_X12_error ⟨fun _ => rfl, fun _ => Nat.le_of_ble_eq_true rfl⟩ rfl rv_85 wd_1045 wd_1047 wd_16 rfl (e_X12_error hq144) ?_
                  exact z_iret dX12_sheet_64 rfl rfl (fi_w h)
            · replace h := ab_neg hc123 h
              refine z_aload_n (pc2 := 44) rfl dX12_sheet_43 rfl ?_
              refine z_iconst (pc2 := 45) rfl dX12_sheet_44 lt_i_3 ?_
              obtain ⟨q145, hq145, h⟩ := ab_bnd h
              refine z_callVi 85 [.int (3 : Int32)] [some (.ref 85), some (.int (3 : Int32))] (pc2 := 48) rfl rfl dX12_sheet_45 ok_X12_error ⟨fun _ => rfl, fun _ => Nat.le_of_ble_eq_true rfl⟩ rfl rv_85 wd_1045 wd_1047 wd_16 rfl (e_X12_error hq145) ?_
              exact z_iret dX12_sheet_48 rfl rfl (fi_w h)
        · replace h := ab_neg hc100 h
          refine z_iload_n (pc2 := 24) rfl dX12_sheet_23 rfl ?_
          refine z_bipush (pc2 := 26) rfl dX12_sheet_24 lt_b_32 ?_
          refine z_icmp_eq (pc2 := 29) (tgt := 35) rfl dX12_sheet_26 (by decide) (fun hc146 => ?_) (fun hc146 => ?_)
          · replace h := ab_pos hc146 h
            refine z_iload_n (pc2 := 36) rfl dX12_sheet_35 rfl ?_
            refine z_if_eq (pc2 := 39) (tgt := 49) rfl dX12_sheet_36 (by decide) (fun hc147 => ?_) (fun hc147 => ?_)
            · replace h := ab_pos hc147 h
              refine z_iload_n (pc2 := 50) rfl dX12_sheet_49 rfl ?_
              refine z_if_eq (pc2 := 53) (tgt := 65) rfl dX12_sheet_50 (by decide) (fun hc148 => ?_) (fun hc148 => ?_)
              · replace h := ab_pos hc148 h
                refine z_aload_n (pc2 := 66) rfl dX12_sheet_65 rfl ?_
                refine z_getR 85 12 16 94 (pc2 := 69) rfl dX12_sheet_66 rfl rfl ff_12_16 wd_993 rfl ?_
                refine z_iload_n (pc2 := 70) rfl dX12_sheet_69 rfl ?_
                refine z_iload_n (pc2 := 71) rfl dX12_sheet_70 rfl ?_
                obtain ⟨hb149, h⟩ := ab_ck_e h
                refine z_iast 94 (pc2 := 72) (j := (a1).toNatClampNeg) rfl dX12_sheet_71 rfl rfl hb149 rfl ?_
                obtain ⟨s150, hs150, h⟩ := ab_lt_e h
                refine z_tops hs150 ?_
                refine z_aload_n (pc2 := 73) rfl dX12_sheet_72 rfl ?_
                refine z_getR 85 12 17 95 (pc2 := 76) rfl dX12_sheet_73 rfl rfl ff_12_17 wd_994 rfl ?_
                refine z_iload_n (pc2 := 77) rfl dX12_sheet_76 rfl ?_
                refine z_iload_n (pc2 := 78) rfl dX12_sheet_77 rfl ?_
                refine z_if_ne (pc2 := 81) (tgt := 85) rfl dX12_sheet_78 (by decide) (fun hc151 => ?_) (fun hc151 => ?_)
                · replace h := ab_neg hc151 h
                  refine z_iload_n (pc2 := 86) rfl dX12_sheet_85 rfl ?_
                  obtain ⟨hb152, h⟩ := ab_ck_e h
                  refine z_iast 95 (pc2 := 87) (j := (a1).toNatClampNeg) rfl dX12_sheet_86 rfl rfl hb152 rfl ?_
                  obtain ⟨s153, hs153, h⟩ := ab_lt_e h
                  refine z_tops hs153 ?_
                  refine z_iconst (pc2 := 88) rfl dX12_sheet_87 lt_i_0 ?_
                  refine z_istore (pc2 := 90) (L2 := [some (.ref 85), some (.int a1), some (.int a2), some (.int a3), some (.int (0 : Int32))]) rfl dX12_sheet_88 (by decide) rfl rfl ?_
                  refine z_fgt [true, true, false, false, true] (L2 := [some (.ref 85), some (.int a1), none, none, some (.int (0 : Int32))]) rfl ?_
                  refine e_X12_sheet_L90 (fun s154 h => ?_) _ _ _ h
                  refine z_iconst (pc2 := 117) rfl dX12_sheet_116 lt_i_1 ?_
                  exact z_iret dX12_sheet_117 rfl rfl (fi_w h)
                · replace h := ab_pos hc151 h
                  refine z_iconst (pc2 := 82) rfl dX12_sheet_81 lt_i_0 ?_
                  refine ab_goto (tgt := 86) dX12_sheet_82 (by decide) ?_
                  obtain ⟨hb155, h⟩ := ab_ck_e h
                  refine z_iast 95 (pc2 := 87) (j := (a1).toNatClampNeg) rfl dX12_sheet_86 rfl rfl hb155 rfl ?_
                  obtain ⟨s156, hs156, h⟩ := ab_lt_e h
                  refine z_tops hs156 ?_
                  refine z_iconst (pc2 := 88) rfl dX12_sheet_87 lt_i_0 ?_
                  refine z_istore (pc2 := 90) (L2 := [some (.ref 85), some (.int a1), some (.int a2), some (.int a3), some (.int (0 : Int32))]) rfl dX12_sheet_88 (by decide) rfl rfl ?_
                  refine z_fgt [true, true, false, false, true] (L2 := [some (.ref 85), some (.int a1), none, none, some (.int (0 : Int32))]) rfl ?_
                  refine e_X12_sheet_L90 (fun s157 h => ?_) _ _ _ h
                  refine z_iconst (pc2 := 117) rfl dX12_sheet_116 lt_i_1 ?_
                  exact z_iret dX12_sheet_117 rfl rfl (fi_w h)
              · replace h := ab_neg hc148 h
                refine z_iload_n (pc2 := 54) rfl dX12_sheet_53 rfl ?_
                refine z_bipush (pc2 := 56) rfl dX12_sheet_54 lt_b_24 ?_
                refine z_icmp_le (pc2 := 59) (tgt := 65) rfl dX12_sheet_56 (by decide) (fun hc158 => ?_) (fun hc158 => ?_)
                · replace h := ab_pos hc158 h
                  refine z_aload_n (pc2 := 66) rfl dX12_sheet_65 rfl ?_
                  refine z_getR 85 12 16 94 (pc2 := 69) rfl dX12_sheet_66 rfl rfl ff_12_16 wd_993 rfl ?_
                  refine z_iload_n (pc2 := 70) rfl dX12_sheet_69 rfl ?_
                  refine z_iload_n (pc2 := 71) rfl dX12_sheet_70 rfl ?_
                  obtain ⟨hb159, h⟩ := ab_ck_e h
                  refine z_iast 94 (pc2 := 72) (j := (a1).toNatClampNeg) rfl dX12_sheet_71 rfl rfl hb159 rfl ?_
                  obtain ⟨s160, hs160, h⟩ := ab_lt_e h
                  refine z_tops hs160 ?_
                  refine z_aload_n (pc2 := 73) rfl dX12_sheet_72 rfl ?_
                  refine z_getR 85 12 17 95 (pc2 := 76) rfl dX12_sheet_73 rfl rfl ff_12_17 wd_994 rfl ?_
                  refine z_iload_n (pc2 := 77) rfl dX12_sheet_76 rfl ?_
                  refine z_iload_n (pc2 := 78) rfl dX12_sheet_77 rfl ?_
                  refine z_if_ne (pc2 := 81) (tgt := 85) rfl dX12_sheet_78 (by decide) (fun hc161 => ?_) (fun hc161 => ?_)
                  · replace h := ab_neg hc161 h
                    refine z_iload_n (pc2 := 86) rfl dX12_sheet_85 rfl ?_
                    obtain ⟨hb162, h⟩ := ab_ck_e h
                    refine z_iast 95 (pc2 := 87) (j := (a1).toNatClampNeg) rfl dX12_sheet_86 rfl rfl hb162 rfl ?_
                    obtain ⟨s163, hs163, h⟩ := ab_lt_e h
                    refine z_tops hs163 ?_
                    refine z_iconst (pc2 := 88) rfl dX12_sheet_87 lt_i_0 ?_
                    refine z_istore (pc2 := 90) (L2 := [some (.ref 85), some (.int a1), some (.int a2), some (.int a3), some (.int (0 : Int32))]) rfl dX12_sheet_88 (by decide) rfl rfl ?_
                    refine z_fgt [true, true, false, false, true] (L2 := [some (.ref 85), some (.int a1), none, none, some (.int (0 : Int32))]) rfl ?_
                    refine e_X12_sheet_L90 (fun s164 h => ?_) _ _ _ h
                    refine z_iconst (pc2 := 117) rfl dX12_sheet_116 lt_i_1 ?_
                    exact z_iret dX12_sheet_117 rfl rfl (fi_w h)
                  · replace h := ab_pos hc161 h
                    refine z_iconst (pc2 := 82) rfl dX12_sheet_81 lt_i_0 ?_
                    refine ab_goto (tgt := 86) dX12_sheet_82 (by decide) ?_
                    obtain ⟨hb165, h⟩ := ab_ck_e h
                    refine z_iast 95 (pc2 := 87) (j := (a1).toNatClampNeg) rfl dX12_sheet_86 rfl rfl hb165 rfl ?_
                    obtain ⟨s166, hs166, h⟩ := ab_lt_e h
                    refine z_tops hs166 ?_
                    refine z_iconst (pc2 := 88) rfl dX12_sheet_87 lt_i_0 ?_
                    refine z_istore (pc2 := 90) (L2 := [some (.ref 85), some (.int a1), some (.int a2), some (.int a3), some (.int (0 : Int32))]) rfl dX12_sheet_88 (by decide) rfl rfl ?_
                    refine z_fgt [true, true, false, false, true] (L2 := [some (.ref 85), some (.int a1), none, none, some (.int (0 : Int32))]) rfl ?_
                    refine e_X12_sheet_L90 (fun s167 h => ?_) _ _ _ h
                    refine z_iconst (pc2 := 117) rfl dX12_sheet_116 lt_i_1 ?_
                    exact z_iret dX12_sheet_117 rfl rfl (fi_w h)
                · replace h := ab_neg hc158 h
                  refine z_aload_n (pc2 := 60) rfl dX12_sheet_59 rfl ?_
                  refine z_iconst (pc2 := 61) rfl dX12_sheet_60 lt_i_1 ?_
                  obtain ⟨q168, hq168, h⟩ := ab_bnd h
                  refine z_callVi 85 [.int (1 : Int32)] [some (.ref 85), some (.int (1 : Int32))] (pc2 := 64) rfl rfl dX12_sheet_61 ok_X12_error ⟨fun _ => rfl, fun _ => Nat.le_of_ble_eq_true rfl⟩ rfl rv_85 wd_1045 wd_1047 wd_16 rfl (e_X12_error hq168) ?_
                  exact z_iret dX12_sheet_64 rfl rfl (fi_w h)
            · replace h := ab_neg hc147 h
              refine z_iload_n (pc2 := 40) rfl dX12_sheet_39 rfl ?_
              refine z_if_ge (pc2 := 43) (tgt := 49) rfl dX12_sheet_40 (by decide) (fun hc169 => ?_) (fun hc169 => ?_)
              · replace h := ab_pos hc169 h
                refine z_iload_n (pc2 := 50) rfl dX12_sheet_49 rfl ?_
                refine z_if_eq (pc2 := 53) (tgt := 65) rfl dX12_sheet_50 (by decide) (fun hc170 => ?_) (fun hc170 => ?_)
                · replace h := ab_pos hc170 h
                  refine z_aload_n (pc2 := 66) rfl dX12_sheet_65 rfl ?_
                  refine z_getR 85 12 16 94 (pc2 := 69) rfl dX12_sheet_66 rfl rfl ff_12_16 wd_993 rfl ?_
                  refine z_iload_n (pc2 := 70) rfl dX12_sheet_69 rfl ?_
                  refine z_iload_n (pc2 := 71) rfl dX12_sheet_70 rfl ?_
                  obtain ⟨hb171, h⟩ := ab_ck_e h
                  refine z_iast 94 (pc2 := 72) (j := (a1).toNatClampNeg) rfl dX12_sheet_71 rfl rfl hb171 rfl ?_
                  obtain ⟨s172, hs172, h⟩ := ab_lt_e h
                  refine z_tops hs172 ?_
                  refine z_aload_n (pc2 := 73) rfl dX12_sheet_72 rfl ?_
                  refine z_getR 85 12 17 95 (pc2 := 76) rfl dX12_sheet_73 rfl rfl ff_12_17 wd_994 rfl ?_
                  refine z_iload_n (pc2 := 77) rfl dX12_sheet_76 rfl ?_
                  refine z_iload_n (pc2 := 78) rfl dX12_sheet_77 rfl ?_
                  refine z_if_ne (pc2 := 81) (tgt := 85) rfl dX12_sheet_78 (by decide) (fun hc173 => ?_) (fun hc173 => ?_)
                  · replace h := ab_neg hc173 h
                    refine z_iload_n (pc2 := 86) rfl dX12_sheet_85 rfl ?_
                    obtain ⟨hb174, h⟩ := ab_ck_e h
                    refine z_iast 95 (pc2 := 87) (j := (a1).toNatClampNeg) rfl dX12_sheet_86 rfl rfl hb174 rfl ?_
                    obtain ⟨s175, hs175, h⟩ := ab_lt_e h
                    refine z_tops hs175 ?_
                    refine z_iconst (pc2 := 88) rfl dX12_sheet_87 lt_i_0 ?_
                    refine z_istore (pc2 := 90) (L2 := [some (.ref 85), some (.int a1), some (.int a2), some (.int a3), some (.int (0 : Int32))]) rfl dX12_sheet_88 (by decide) rfl rfl ?_
                    refine z_fgt [true, true, false, false, true] (L2 := [some (.ref 85), some (.int a1), none, none, some (.int (0 : Int32))]) rfl ?_
                    refine e_X12_sheet_L90 (fun s176 h => ?_) _ _ _ h
                    refine z_iconst (pc2 := 117) rfl dX12_sheet_116 lt_i_1 ?_
                    exact z_iret dX12_sheet_117 rfl rfl (fi_w h)
                  · replace h := ab_pos hc173 h
                    refine z_iconst (pc2 := 82) rfl dX12_sheet_81 lt_i_0 ?_
                    refine ab_goto (tgt := 86) dX12_sheet_82 (by decide) ?_
                    obtain ⟨hb177, h⟩ := ab_ck_e h
                    refine z_iast 95 (pc2 := 87) (j := (a1).toNatClampNeg) rfl dX12_sheet_86 rfl rfl hb177 rfl ?_
                    obtain ⟨s178, hs178, h⟩ := ab_lt_e h
                    refine z_tops hs178 ?_
                    refine z_iconst (pc2 := 88) rfl dX12_sheet_87 lt_i_0 ?_
                    refine z_istore (pc2 := 90) (L2 := [some (.ref 85), some (.int a1), some (.int a2), some (.int a3), some (.int (0 : Int32))]) rfl dX12_sheet_88 (by decide) rfl rfl ?_
                    refine z_fgt [true, true, false, false, true] (L2 := [some (.ref 85), some (.int a1), none, none, some (.int (0 : Int32))]) rfl ?_
                    refine e_X12_sheet_L90 (fun s179 h => ?_) _ _ _ h
                    refine z_iconst (pc2 := 117) rfl dX12_sheet_116 lt_i_1 ?_
                    exact z_iret dX12_sheet_117 rfl rfl (fi_w h)
                · replace h := ab_neg hc170 h
                  refine z_iload_n (pc2 := 54) rfl dX12_sheet_53 rfl ?_
                  refine z_bipush (pc2 := 56) rfl dX12_sheet_54 lt_b_24 ?_
                  refine z_icmp_le (pc2 := 59) (tgt := 65) rfl dX12_sheet_56 (by decide) (fun hc180 => ?_) (fun hc180 => ?_)
                  · replace h := ab_pos hc180 h
                    refine z_aload_n (pc2 := 66) rfl dX12_sheet_65 rfl ?_
                    refine z_getR 85 12 16 94 (pc2 := 69) rfl dX12_sheet_66 rfl rfl ff_12_16 wd_993 rfl ?_
                    refine z_iload_n (pc2 := 70) rfl dX12_sheet_69 rfl ?_
                    refine z_iload_n (pc2 := 71) rfl dX12_sheet_70 rfl ?_
                    obtain ⟨hb181, h⟩ := ab_ck_e h
                    refine z_iast 94 (pc2 := 72) (j := (a1).toNatClampNeg) rfl dX12_sheet_71 rfl rfl hb181 rfl ?_
                    obtain ⟨s182, hs182, h⟩ := ab_lt_e h
                    refine z_tops hs182 ?_
                    refine z_aload_n (pc2 := 73) rfl dX12_sheet_72 rfl ?_
                    refine z_getR 85 12 17 95 (pc2 := 76) rfl dX12_sheet_73 rfl rfl ff_12_17 wd_994 rfl ?_
                    refine z_iload_n (pc2 := 77) rfl dX12_sheet_76 rfl ?_
                    refine z_iload_n (pc2 := 78) rfl dX12_sheet_77 rfl ?_
                    refine z_if_ne (pc2 := 81) (tgt := 85) rfl dX12_sheet_78 (by decide) (fun hc183 => ?_) (fun hc183 => ?_)
                    · replace h := ab_neg hc183 h
                      refine z_iload_n (pc2 := 86) rfl dX12_sheet_85 rfl ?_
                      obtain ⟨hb184, h⟩ := ab_ck_e h
                      refine z_iast 95 (pc2 := 87) (j := (a1).toNatClampNeg) rfl dX12_sheet_86 rfl rfl hb184 rfl ?_
                      obtain ⟨s185, hs185, h⟩ := ab_lt_e h
                      refine z_tops hs185 ?_
                      refine z_iconst (pc2 := 88) rfl dX12_sheet_87 lt_i_0 ?_
                      refine z_istore (pc2 := 90) (L2 := [some (.ref 85), some (.int a1), some (.int a2), some (.int a3), some (.int (0 : Int32))]) rfl dX12_sheet_88 (by decide) rfl rfl ?_
                      refine z_fgt [true, true, false, false, true] (L2 := [some (.ref 85), some (.int a1), none, none, some (.int (0 : Int32))]) rfl ?_
                      refine e_X12_sheet_L90 (fun s186 h => ?_) _ _ _ h
                      refine z_iconst (pc2 := 117) rfl dX12_sheet_116 lt_i_1 ?_
                      exact z_iret dX12_sheet_117 rfl rfl (fi_w h)
                    · replace h := ab_pos hc183 h
                      refine z_iconst (pc2 := 82) rfl dX12_sheet_81 lt_i_0 ?_
                      refine ab_goto (tgt := 86) dX12_sheet_82 (by decide) ?_
                      obtain ⟨hb187, h⟩ := ab_ck_e h
                      refine z_iast 95 (pc2 := 87) (j := (a1).toNatClampNeg) rfl dX12_sheet_86 rfl rfl hb187 rfl ?_
                      obtain ⟨s188, hs188, h⟩ := ab_lt_e h
                      refine z_tops hs188 ?_
                      refine z_iconst (pc2 := 88) rfl dX12_sheet_87 lt_i_0 ?_
                      refine z_istore (pc2 := 90) (L2 := [some (.ref 85), some (.int a1), some (.int a2), some (.int a3), some (.int (0 : Int32))]) rfl dX12_sheet_88 (by decide) rfl rfl ?_
                      refine z_fgt [true, true, false, false, true] (L2 := [some (.ref 85), some (.int a1), none, none, some (.int (0 : Int32))]) rfl ?_
                      refine e_X12_sheet_L90 (fun s189 h => ?_) _ _ _ h
                      refine z_iconst (pc2 := 117) rfl dX12_sheet_116 lt_i_1 ?_
                      exact z_iret dX12_sheet_117 rfl rfl (fi_w h)
                  · replace h := ab_neg hc180 h
                    refine z_aload_n (pc2 := 60) rfl dX12_sheet_59 rfl ?_
                    refine z_iconst (pc2 := 61) rfl dX12_sheet_60 lt_i_1 ?_
                    obtain ⟨q190, hq190, h⟩ := ab_bnd h
                    refine z_callVi 85 [.int (1 : Int32)] [some (.ref 85), some (.int (1 : Int32))] (pc2 := 64) rfl rfl dX12_sheet_61 ok_X12_error ⟨fun _ => rfl, fun _ => Nat.le_of_ble_eq_true rfl⟩ rfl rv_85 wd_1045 wd_1047 wd_16 rfl (e_X12_error hq190) ?_
                    exact z_iret dX12_sheet_64 rfl rfl (fi_w h)
              · replace h := ab_neg hc169 h
                refine z_aload_n (pc2 := 44) rfl dX12_sheet_43 rfl ?_
                refine z_iconst (pc2 := 45) rfl dX12_sheet_44 lt_i_3 ?_
                obtain ⟨q191, hq191, h⟩ := ab_bnd h
                refine z_callVi 85 [.int (3 : Int32)] [some (.ref 85), some (.int (3 : Int32))] (pc2 := 48) rfl rfl dX12_sheet_45 ok_X12_error ⟨fun _ => rfl, fun _ => Nat.le_of_ble_eq_true rfl⟩ rfl rv_85 wd_1045 wd_1047 wd_16 rfl (e_X12_error hq191) ?_
                exact z_iret dX12_sheet_48 rfl rfl (fi_w h)
          · replace h := ab_neg hc146 h
            refine z_aload_n (pc2 := 30) rfl dX12_sheet_29 rfl ?_
            refine z_iconst (pc2 := 31) rfl dX12_sheet_30 lt_i_1 ?_
            obtain ⟨q192, hq192, h⟩ := ab_bnd h
            refine z_callVi 85 [.int (1 : Int32)] [some (.ref 85), some (.int (1 : Int32))] (pc2 := 34) rfl rfl dX12_sheet_31 ok_X12_error ⟨fun _ => rfl, fun _ => Nat.le_of_ble_eq_true rfl⟩ rfl rv_85 wd_1045 wd_1047 wd_16 rfl (e_X12_error hq192) ?_
            exact z_iret dX12_sheet_34 rfl rfl (fi_w h)
