set_option maxRecDepth 100000 in
set_option maxHeartbeats 4000000 in
theorem e_X9_flowFrom_49 {sc : Nat × (Nat → Int32)} {r : Option Nat × Option Nat} {a1 : Int32} {σ : ab_F} {res : ab_F} (h : f_X9_flowFrom 49 a1 σ = some res) : ab_E mX9_flowFrom 1 sc 0 [some (.ref 49), some (.int a1), none, none, none, none, none] [] (σ, r) (fun v S => v = none ∧ S = (res, r)) := by
  unfold f_X9_flowFrom at h
  refine z_iconst (pc2 := 1) rfl dX9_flowFrom_0 lt_i_m1 ?_
  refine z_istore_n (pc2 := 2) (L2 := [some (.ref 49), some (.int a1), some (.int (-1 : Int32)), none, none, none, none]) rfl dX9_flowFrom_1 (by decide) rfl rfl ?_
  refine z_iconst (pc2 := 3) rfl dX9_flowFrom_2 lt_i_0 ?_
  refine z_istore_n (pc2 := 4) (L2 := [some (.ref 49), some (.int a1), some (.int (-1 : Int32)), some (.int (0 : Int32)), none, none, none]) rfl dX9_flowFrom_3 (by decide) rfl rfl ?_
  refine z_iconst (pc2 := 5) rfl dX9_flowFrom_4 lt_i_4 ?_
  refine z_iload_n (pc2 := 6) rfl dX9_flowFrom_5 rfl ?_
  refine z_imul (pc2 := 7) rfl dX9_flowFrom_6 ?_
  obtain ⟨x1, hxx1, h⟩ := ab_lt_e h
  refine z_top hxx1 ?_
  refine z_istore (pc2 := 9) (L2 := [some (.ref 49), some (.int a1), some (.int (-1 : Int32)), some (.int (0 : Int32)), some (.int x1), none, none]) rfl dX9_flowFrom_7 (by decide) rfl rfl ?_
  refine z_fgt [true, true, true, true, true, false, false] (L2 := [some (.ref 49), some (.int a1), some (.int (-1 : Int32)), some (.int (0 : Int32)), some (.int x1), none, none]) rfl ?_
  refine e_X9_flowFrom_49_L9 (fun k18 k19 h => ?_) _ _ _ _ h
  refine z_iload_n (pc2 := 82) rfl dX9_flowFrom_81 rfl ?_
  refine z_if_lt (pc2 := 85) (tgt := 127) rfl dX9_flowFrom_82 (by decide) (fun hc20 => ?_) (fun hc20 => ?_)
  · replace h := ab_pos hc20 h
    exact z_vret dX9_flowFrom_127 rfl (fv_w h)
  · replace h := ab_neg hc20 h
    refine z_aload_n (pc2 := 86) rfl dX9_flowFrom_85 rfl ?_
    refine z_iload_n (pc2 := 87) rfl dX9_flowFrom_86 rfl ?_
    obtain ⟨q21, hq21, h⟩ := ab_bnd h
    refine z_callVi 49 [.int a1] [some (.ref 49), some (.int a1)] (pc2 := 90) rfl rfl dX9_flowFrom_87 ok_X9_level ⟨fun _ => rfl, fun _ => Nat.le_of_ble_eq_true rfl⟩ rfl rv_49 wd_689 wd_507 wd_508 rfl (e_X9_level_49 hq21) ?_
    refine z_iload_n (pc2 := 91) rfl dX9_flowFrom_90 rfl ?_
    refine z_isub (pc2 := 92) rfl dX9_flowFrom_91 ?_
    refine z_iconst (pc2 := 93) rfl dX9_flowFrom_92 lt_i_2 ?_
    refine z_icmp_lt (pc2 := 96) (tgt := 127) rfl dX9_flowFrom_93 (by decide) (fun hc22 => ?_) (fun hc22 => ?_)
    · replace h := ab_pos hc22 h
      exact z_vret dX9_flowFrom_127 rfl (fv_w h)
    · replace h := ab_neg hc22 h
      refine z_aload_n (pc2 := 97) rfl dX9_flowFrom_96 rfl ?_
      refine z_getR 49 9 7 51 (pc2 := 100) rfl dX9_flowFrom_97 rfl rfl ff_9_7 wd_243 rfl ?_
      refine z_iload_n (pc2 := 101) rfl dX9_flowFrom_100 rfl ?_
      obtain ⟨hb23, h⟩ := ab_ck_e h
      refine z_iald 51 (pc2 := 102) (j := (k18).toNatClampNeg) rfl dX9_flowFrom_101 rfl rfl hb23 rfl ?_
      refine z_bipush (pc2 := 104) rfl dX9_flowFrom_102 lt_b_99 ?_
      refine z_icmp_ge (pc2 := 107) (tgt := 127) rfl dX9_flowFrom_104 (by decide) (fun hc24 => ?_) (fun hc24 => ?_)
      · replace h := ab_pos hc24 h
        exact z_vret dX9_flowFrom_127 rfl (fv_w h)
      · replace h := ab_neg hc24 h
        refine z_aload_n (pc2 := 108) rfl dX9_flowFrom_107 rfl ?_
        refine z_getR 49 9 7 51 (pc2 := 111) rfl dX9_flowFrom_108 rfl rfl ff_9_7 wd_243 rfl ?_
        refine z_iload_n (pc2 := 112) rfl dX9_flowFrom_111 rfl ?_
        refine z_dup2 (pc2 := 113) rfl dX9_flowFrom_112 rfl rfl ?_
        obtain ⟨hb25, h⟩ := ab_ck_e h
        refine z_iald 51 (pc2 := 114) (j := (a1).toNatClampNeg) rfl dX9_flowFrom_113 rfl rfl hb25 rfl ?_
        refine z_iconst (pc2 := 115) rfl dX9_flowFrom_114 lt_i_1 ?_
        refine z_isub (pc2 := 116) rfl dX9_flowFrom_115 ?_
        obtain ⟨hb26, h⟩ := ab_ck_e h
        refine z_iast 51 (pc2 := 117) (j := (a1).toNatClampNeg) rfl dX9_flowFrom_116 rfl rfl hb26 rfl ?_
        obtain ⟨s27, hs27, h⟩ := ab_lt_e h
        refine z_tops hs27 ?_
        refine z_aload_n (pc2 := 118) rfl dX9_flowFrom_117 rfl ?_
        refine z_getR 49 9 7 51 (pc2 := 121) rfl dX9_flowFrom_118 rfl rfl ff_9_7 wd_243 rfl ?_
        refine z_iload_n (pc2 := 122) rfl dX9_flowFrom_121 rfl ?_
        refine z_dup2 (pc2 := 123) rfl dX9_flowFrom_122 rfl rfl ?_
        obtain ⟨hb28, h⟩ := ab_ck_e h
        refine z_iald 51 (pc2 := 124) (j := (k18).toNatClampNeg) rfl dX9_flowFrom_123 rfl rfl hb28 rfl ?_
        refine z_iconst (pc2 := 125) rfl dX9_flowFrom_124 lt_i_1 ?_
        refine z_iadd (pc2 := 126) rfl dX9_flowFrom_125 ?_
        obtain ⟨hb29, h⟩ := ab_ck_e h
        refine z_iast 51 (pc2 := 127) (j := (k18).toNatClampNeg) rfl dX9_flowFrom_126 rfl rfl hb29 rfl ?_
        obtain ⟨s30, hs30, h⟩ := ab_lt_e h
        refine z_tops hs30 ?_
        exact z_vret dX9_flowFrom_127 rfl (fv_w h)
set_option maxRecDepth 100000 in
set_option maxHeartbeats 4000000 in
theorem e_X9_waterRises_49_L45 {sc : Nat × (Nat → Int32)} {r : Option Nat × Option Nat} {p1 : Int32} {K : ab_F → Option ab_F} {res : ab_F} (hK : ∀ (σ : ab_F), K σ = some res → ab_E mX9_waterRises 2 sc 80 [some (.ref 49), some (.int p1), none] [] (σ, r) (fun v S => v = none ∧ S = (res, r))) : ∀ (n : Nat) (u2 : Int32) (σ : ab_F), f_X9_waterRises_L45 49 p1 K n u2 σ = some res → ab_E mX9_waterRises 2 sc 45 [some (.ref 49), some (.int p1), some (.int u2)] [] (σ, r) (fun v S => v = none ∧ S = (res, r)) := by
  intro n
  induction n with
  | zero =>
    intro u2 σ h
    rw [f_X9_waterRises_L45] at h
    cases h
  | succ n ih =>
    intro u2 σ h
    rw [f_X9_waterRises_L45] at h
    refine z_iload_n (pc2 := 46) rfl dX9_waterRises_45 rfl ?_
    refine z_bipush (pc2 := 48) rfl dX9_waterRises_46 lt_b_16 ?_
    refine z_icmp_ge (pc2 := 51) (tgt := 80) rfl dX9_waterRises_48 (by decide) (fun hc7 => ?_) (fun hc7 => ?_)
    · replace h := ab_pos hc7 h
      refine z_fgt [true, true, false] (L2 := [some (.ref 49), some (.int p1), none]) rfl ?_
      exact hK  _ h
    · replace h := ab_neg hc7 h
      refine z_aload_n (pc2 := 52) rfl dX9_waterRises_51 rfl ?_
      refine z_getR 49 9 7 51 (pc2 := 55) rfl dX9_waterRises_52 rfl rfl ff_9_7 wd_243 rfl ?_
      refine z_iload_n (pc2 := 56) rfl dX9_waterRises_55 rfl ?_
      obtain ⟨hb8, h⟩ := ab_ck_e h
      refine z_iald 51 (pc2 := 57) (j := (u2).toNatClampNeg) rfl dX9_waterRises_56 rfl rfl hb8 rfl ?_
      refine z_if_le (pc2 := 60) (tgt := 74) rfl dX9_waterRises_57 (by decide) (fun hc9 => ?_) (fun hc9 => ?_)
      · replace h := ab_pos hc9 h
        obtain ⟨x10, hxx10, h⟩ := ab_lt_e h
        refine z_iinc (pc2 := 77) (v := x10) (L2 := [some (.ref 49), some (.int p1), some (.int x10)]) rfl dX9_waterRises_74 rfl (by rw [hxx10]; rfl) (by decide) rfl rfl ?_
        refine ab_goto (tgt := 45) dX9_waterRises_77 (by decide) ?_
        refine z_fgt [true, true, true] (L2 := [some (.ref 49), some (.int p1), some (.int x10)]) rfl ?_
        exact ih _ _ h
      · replace h := ab_neg hc9 h
        refine z_aload_n (pc2 := 61) rfl dX9_waterRises_60 rfl ?_
        refine z_getR 49 9 8 52 (pc2 := 64) rfl dX9_waterRises_61 rfl rfl ff_9_8 wd_245 rfl ?_
        refine z_iload_n (pc2 := 65) rfl dX9_waterRises_64 rfl ?_
        obtain ⟨hb11, h⟩ := ab_ck_e h
        refine z_iald 52 (pc2 := 66) (j := (u2).toNatClampNeg) rfl dX9_waterRises_65 rfl rfl hb11 rfl ?_
        refine z_if_ne (pc2 := 69) (tgt := 74) rfl dX9_waterRises_66 (by decide) (fun hc12 => ?_) (fun hc12 => ?_)
        · replace h := ab_neg hc12 h
          obtain ⟨x13, hxx13, h⟩ := ab_lt_e h
          refine z_iinc (pc2 := 77) (v := x13) (L2 := [some (.ref 49), some (.int p1), some (.int x13)]) rfl dX9_waterRises_74 rfl (by rw [hxx13]; rfl) (by decide) rfl rfl ?_
          refine ab_goto (tgt := 45) dX9_waterRises_77 (by decide) ?_
          refine z_fgt [true, true, true] (L2 := [some (.ref 49), some (.int p1), some (.int x13)]) rfl ?_
          exact ih _ _ h
        · replace h := ab_pos hc12 h
          refine z_aload_n (pc2 := 70) rfl dX9_waterRises_69 rfl ?_
          refine z_iload_n (pc2 := 71) rfl dX9_waterRises_70 rfl ?_
          obtain ⟨q14, hq14, h⟩ := ab_bnd h
          refine z_callVv 49 [.int u2] [some (.ref 49), some (.int u2), none, none, none, none, none] (pc2 := 74) rfl rfl dX9_waterRises_71 ok_X9_flowFrom ⟨fun _ => rfl, fun _ => Nat.le_of_ble_eq_true rfl⟩ rfl rv_49 wd_683 wd_685 wd_10 rfl (e_X9_flowFrom_49 hq14) ?_
          obtain ⟨x15, hxx15, h⟩ := ab_lt_e h
          refine z_iinc (pc2 := 77) (v := x15) (L2 := [some (.ref 49), some (.int p1), some (.int x15)]) rfl dX9_waterRises_74 rfl (by rw [hxx15]; rfl) (by decide) rfl rfl ?_
          refine ab_goto (tgt := 45) dX9_waterRises_77 (by decide) ?_
          refine z_fgt [true, true, true] (L2 := [some (.ref 49), some (.int p1), some (.int x15)]) rfl ?_
          exact ih _ _ h
set_option maxRecDepth 100000 in
set_option maxHeartbeats 4000000 in
theorem e_X9_waterRises_49_L38 {sc : Nat × (Nat → Int32)} {r : Option Nat × Option Nat} {K : ab_F → Option ab_F} {res : ab_F} (hK : ∀ (σ : ab_F), K σ = some res → ab_E mX9_waterRises 2 sc 86 [none, none, none] [] (σ, r) (fun v S => v = none ∧ S = (res, r))) : ∀ (n : Nat) (u1 : Int32) (σ : ab_F), f_X9_waterRises_L38 49 K n u1 σ = some res → ab_E mX9_waterRises 2 sc 38 [some (.ref 49), some (.int u1), none] [] (σ, r) (fun v S => v = none ∧ S = (res, r)) := by
  intro n
  induction n with
  | zero =>
    intro u1 σ h
    rw [f_X9_waterRises_L38] at h
    cases h
  | succ n ih =>
    intro u1 σ h
    rw [f_X9_waterRises_L38] at h
    refine z_iload_n (pc2 := 39) rfl dX9_waterRises_38 rfl ?_
    refine z_iconst (pc2 := 40) rfl dX9_waterRises_39 lt_i_4 ?_
    refine z_icmp_ge (pc2 := 43) (tgt := 86) rfl dX9_waterRises_40 (by decide) (fun hc6 => ?_) (fun hc6 => ?_)
    · replace h := ab_pos hc6 h
      refine z_fgt [false, false, false] (L2 := [none, none, none]) rfl ?_
      exact hK  _ h
    · replace h := ab_neg hc6 h
      refine z_iconst (pc2 := 44) rfl dX9_waterRises_43 lt_i_0 ?_
      refine z_istore_n (pc2 := 45) (L2 := [some (.ref 49), some (.int u1), some (.int (0 : Int32))]) rfl dX9_waterRises_44 (by decide) rfl rfl ?_
      refine z_fgt [true, true, true] (L2 := [some (.ref 49), some (.int u1), some (.int (0 : Int32))]) rfl ?_
      refine e_X9_waterRises_49_L45 (fun s16 h => ?_) _ _ _ h
      obtain ⟨x17, hxx17, h⟩ := ab_lt_e h
      refine z_iinc (pc2 := 83) (v := x17) (L2 := [some (.ref 49), some (.int x17), none]) rfl dX9_waterRises_80 rfl (by rw [hxx17]; rfl) (by decide) rfl rfl ?_
      refine ab_goto (tgt := 38) dX9_waterRises_83 (by decide) ?_
      refine z_fgt [true, true, false] (L2 := [some (.ref 49), some (.int x17), none]) rfl ?_
      exact ih _ _ h
set_option maxRecDepth 100000 in
set_option maxHeartbeats 4000000 in
theorem e_X9_waterRises_49 {sc : Nat × (Nat → Int32)} {r : Option Nat × Option Nat} {σ : ab_F} {res : ab_F} (h : f_X9_waterRises 49 σ = some res) : ab_E mX9_waterRises 2 sc 0 [some (.ref 49), none, none] [] (σ, r) (fun v S => v = none ∧ S = (res, r)) := by
  unfold f_X9_waterRises at h
  refine z_aload_n (pc2 := 1) rfl dX9_waterRises_0 rfl ?_
  refine z_getR 49 9 7 51 (pc2 := 4) rfl dX9_waterRises_1 rfl rfl ff_9_7 wd_243 rfl ?_
  refine z_aload_n (pc2 := 5) rfl dX9_waterRises_4 rfl ?_
  refine z_getI 49 9 4 (pc2 := 8) rfl dX9_waterRises_5 rfl rfl ff_9_4 wd_237 ?_
  refine z_bipush (pc2 := 10) rfl dX9_waterRises_8 lt_b_99 ?_
  refine z_aload_n (pc2 := 11) rfl dX9_waterRises_10 rfl ?_
  refine z_getR 49 9 7 51 (pc2 := 14) rfl dX9_waterRises_11 rfl rfl ff_9_7 wd_243 rfl ?_
  refine z_aload_n (pc2 := 15) rfl dX9_waterRises_14 rfl ?_
  refine z_getI 49 9 4 (pc2 := 18) rfl dX9_waterRises_15 rfl rfl ff_9_4 wd_237 ?_
  obtain ⟨hb1, h⟩ := ab_ck_e h
  refine z_iald 51 (pc2 := 19) (j := ((σ 49 4)).toNatClampNeg) rfl dX9_waterRises_18 rfl rfl hb1 rfl ?_
  refine z_aload_n (pc2 := 20) rfl dX9_waterRises_19 rfl ?_
  refine z_getR 49 9 10 54 (pc2 := 23) rfl dX9_waterRises_20 rfl rfl ff_9_10 wd_248 rfl ?_
  refine z_aload_n (pc2 := 24) rfl dX9_waterRises_23 rfl ?_
  refine z_getI 49 9 3 (pc2 := 27) rfl dX9_waterRises_24 rfl rfl ff_9_3 wd_235 ?_
  refine z_bipush (pc2 := 29) rfl dX9_waterRises_27 lt_b_6 ?_
  refine z_irem (pc2 := 30) rfl dX9_waterRises_29 (by decide) ?_
  obtain ⟨hb2, h⟩ := ab_ck_e h
  refine z_iald 54 (pc2 := 31) (j := (((σ 49 3) - (σ 49 3) / (6 : Int32) * (6 : Int32))).toNatClampNeg) rfl dX9_waterRises_30 rfl rfl hb2 rfl ?_
  refine z_iadd (pc2 := 32) rfl dX9_waterRises_31 ?_
  obtain ⟨q3, hq3, h⟩ := ab_bnd h
  refine z_callSi [.int (99 : Int32), .int ((σ (49 + 2) ((σ 49 4)).toNatClampNeg) + (σ (49 + 5) (((σ 49 3) - (σ 49 3) / (6 : Int32) * (6 : Int32))).toNatClampNeg))] [some (.int (99 : Int32)), some (.int ((σ (49 + 2) ((σ 49 4)).toNatClampNeg) + (σ (49 + 5) (((σ 49 3) - (σ 49 3) / (6 : Int32) * (6 : Int32))).toNatClampNeg)))] (pc2 := 35) rfl rfl dX9_waterRises_32 ok_J9_min_7cf53 ⟨fun _ => rfl, fun _ => Nat.le_of_ble_eq_true rfl⟩ rfl wd_458 wd_459 rfl (e_J9_min_7cf53 hq3) ?_
  obtain ⟨hb4, h⟩ := ab_ck_e h
  refine z_iast 51 (pc2 := 36) (j := ((σ 49 4)).toNatClampNeg) rfl dX9_waterRises_35 rfl rfl hb4 rfl ?_
  obtain ⟨s5, hs5, h⟩ := ab_lt_e h
  refine z_tops hs5 ?_
  refine z_iconst (pc2 := 37) rfl dX9_waterRises_36 lt_i_0 ?_
  refine z_istore_n (pc2 := 38) (L2 := [some (.ref 49), some (.int (0 : Int32)), none]) rfl dX9_waterRises_37 (by decide) rfl rfl ?_
  refine z_fgt [true, true, false] (L2 := [some (.ref 49), some (.int (0 : Int32)), none]) rfl ?_
  refine e_X9_waterRises_49_L38 (fun s18 h => ?_) _ _ _ h
  exact z_vret dX9_waterRises_86 rfl (fv_w h)
def f_X9_waterGoes_L2 (w : Nat) (p1 : Int32) (K : ab_F → Option ab_F) : Nat → Int32 → ab_F → Option ab_F
  | 0, _, _ => none
  | n + 1, u2, σ => (if p1 ≤ u2 then (K σ) else (f_X9_waterRises w σ).bind (fun q2 => ab_lt (ab_u q2 w 3 ((q2 w 3) + (1 : Int32))) (fun (s3 : ab_F) => ab_lt (u2 + (1 : Int32)) (fun x4 => (f_X9_waterGoes_L2 w p1 K n x4 s3)))))
set_option maxRecDepth 100000 in
set_option maxHeartbeats 4000000 in
theorem e_X9_waterGoes_49_L2 {sc : Nat × (Nat → Int32)} {r : Option Nat × Option Nat} {p1 : Int32} {K : ab_F → Option ab_F} {res : ab_F} (hK : ∀ (σ : ab_F), K σ = some res → ab_E mX9_waterGoes 3 sc 27 [none, none, none] [] (σ, r) (fun v S => v = none ∧ S = (res, r))) : ∀ (n : Nat) (u2 : Int32) (σ : ab_F), f_X9_waterGoes_L2 49 p1 K n u2 σ = some res → ab_E mX9_waterGoes 3 sc 2 [some (.ref 49), some (.int p1), some (.int u2)] [] (σ, r) (fun v S => v = none ∧ S = (res, r)) := by
  intro n
  induction n with
  | zero =>
    intro u2 σ h
    rw [f_X9_waterGoes_L2] at h
    cases h
  | succ n ih =>
    intro u2 σ h
    rw [f_X9_waterGoes_L2] at h
    refine z_iload_n (pc2 := 3) rfl dX9_waterGoes_2 rfl ?_
    refine z_iload_n (pc2 := 4) rfl dX9_waterGoes_3 rfl ?_
    refine z_icmp_ge (pc2 := 7) (tgt := 27) rfl dX9_waterGoes_4 (by decide) (fun hc1 => ?_) (fun hc1 => ?_)
    · replace h := ab_pos hc1 h
      refine z_fgt [false, false, false] (L2 := [none, none, none]) rfl ?_
      exact hK  _ h
    · replace h := ab_neg hc1 h
      refine z_aload_n (pc2 := 8) rfl dX9_waterGoes_7 rfl ?_
      obtain ⟨q2, hq2, h⟩ := ab_bnd h
      refine z_callVv 49 [] [some (.ref 49), none, none] (pc2 := 11) rfl rfl dX9_waterGoes_8 ok_X9_waterRises ⟨fun _ => rfl, fun _ => Nat.le_of_ble_eq_true rfl⟩ rfl rv_49 wd_679 wd_681 wd_9 rfl (e_X9_waterRises_49 hq2) ?_
      refine z_aload_n (pc2 := 12) rfl dX9_waterGoes_11 rfl ?_
      refine z_dup (pc2 := 13) rfl dX9_waterGoes_12 rfl ?_
      refine z_getI 49 9 3 (pc2 := 16) rfl dX9_waterGoes_13 rfl rfl ff_9_3 wd_235 ?_
      refine z_iconst (pc2 := 17) rfl dX9_waterGoes_16 lt_i_1 ?_
      refine z_iadd (pc2 := 18) rfl dX9_waterGoes_17 ?_
      refine z_putI 49 9 3 (pc2 := 21) (ft := .int) rfl dX9_waterGoes_18 rfl rfl ff_9_3 wd_235 rfl (by decide +kernel) rfl rfl ?_
      obtain ⟨s3, hs3, h⟩ := ab_lt_e h
      refine z_tops hs3 ?_
      obtain ⟨x4, hxx4, h⟩ := ab_lt_e h
      refine z_iinc (pc2 := 24) (v := x4) (L2 := [some (.ref 49), some (.int p1), some (.int x4)]) rfl dX9_waterGoes_21 rfl (by rw [hxx4]; rfl) (by decide) rfl rfl ?_
      refine ab_goto (tgt := 2) dX9_waterGoes_24 (by decide) ?_
      refine z_fgt [true, true, true] (L2 := [some (.ref 49), some (.int p1), some (.int x4)]) rfl ?_
      exact ih _ _ h
def f_X9_waterGoes (w : Nat) (a1 : Int32) (σ : ab_F) : Option ab_F := (f_X9_waterGoes_L2 w a1 (fun (s5 : ab_F) => (some s5)) ab_fu (0 : Int32) σ)
set_option maxRecDepth 100000 in
set_option maxHeartbeats 4000000 in
theorem e_X9_waterGoes_49 {sc : Nat × (Nat → Int32)} {r : Option Nat × Option Nat} {a1 : Int32} {σ : ab_F} {res : ab_F} (h : f_X9_waterGoes 49 a1 σ = some res) : ab_E mX9_waterGoes 3 sc 0 [some (.ref 49), some (.int a1), none] [] (σ, r) (fun v S => v = none ∧ S = (res, r)) := by
  unfold f_X9_waterGoes at h
  refine z_iconst (pc2 := 1) rfl dX9_waterGoes_0 lt_i_0 ?_
  refine z_istore_n (pc2 := 2) (L2 := [some (.ref 49), some (.int a1), some (.int (0 : Int32))]) rfl dX9_waterGoes_1 (by decide) rfl rfl ?_
  refine z_fgt [true, true, true] (L2 := [some (.ref 49), some (.int a1), some (.int (0 : Int32))]) rfl ?_
  refine e_X9_waterGoes_49_L2 (fun s5 h => ?_) _ _ _ h
  exact z_vret dX9_waterGoes_27 rfl (fv_w h)
def f_X11_then (a1 : Int32) (a2 : Int32) (σ : ab_F) : Option (Int32 × ab_F) := (f_X11_outside a1 (15 : Int32) σ).bind (fun q1 => (if (ab_b q1) = 0 then (f_X11_outside a2 (60 : Int32) σ).bind (fun q4 => (if (ab_b q4) = 0 then (f_X9_copyFrom_49_38 σ).bind (fun q6 => (f_X9_waterGoes 49 a2 q6).bind (fun q7 => ab_ck (ab_ib a1 16) ((some ((q7 51 (a1).toNatClampNeg), q7))))) else (f_X11_refuse (1 : Int32) σ).bind (fun q9 => (some (q9.1, q9.2))))) else (f_X11_refuse (1 : Int32) σ).bind (fun q3 => (some (q3.1, q3.2)))))
set_option maxRecDepth 100000 in
set_option maxHeartbeats 4000000 in
theorem e_X11_then {sc : Nat × (Nat → Int32)} {r : Option Nat × Option Nat} {a1 : Int32} {a2 : Int32} {σ : ab_F} {res : (Int32 × ab_F)} (h : f_X11_then a1 a2 σ = some res) : ab_E mX11_then 4 sc 0 [some (.ref 8), some (.int a1), some (.int a2)] [] (σ, r) (fun v S => v = some (.int res.1) ∧ S = (res.2, r)) := by
  unfold f_X11_then at h
  refine z_iload_n (pc2 := 1) rfl dX11_then_0 rfl ?_
  refine z_bipush (pc2 := 3) rfl dX11_then_1 lt_b_15 ?_
  obtain ⟨q1, hq1, h⟩ := ab_bnd h
  refine z_callSi [.int a1, .int (15 : Int32)] [some (.int a1), some (.int (15 : Int32))] (pc2 := 6) rfl rfl dX11_then_3 ok_X11_outside ⟨fun _ => rfl, fun _ => Nat.le_of_ble_eq_true rfl⟩ rfl wd_343 wd_344 rfl (e_X11_outside hq1) ?_
  refine z_if_ne (pc2 := 9) (tgt := 18) rfl dX11_then_6 (by decide) (fun hc2 => ?_) (fun hc2 => ?_)
  · replace h := ab_neg hc2 h
    refine z_aload_n (pc2 := 19) rfl dX11_then_18 rfl ?_
    refine z_iconst (pc2 := 20) rfl dX11_then_19 lt_i_1 ?_
    obtain ⟨q3, hq3, h⟩ := ab_bnd h
    refine z_callVi 8 [.int (1 : Int32)] [some (.ref 8), some (.int (1 : Int32))] (pc2 := 23) rfl rfl dX11_then_20 ok_X11_refuse ⟨fun _ => rfl, fun _ => Nat.le_of_ble_eq_true rfl⟩ rfl rv_8 wd_346 wd_348 wd_0 rfl (e_X11_refuse hq3) ?_
    exact z_iret dX11_then_23 rfl rfl (fi_w h)
  · replace h := ab_pos hc2 h
    refine z_iload_n (pc2 := 10) rfl dX11_then_9 rfl ?_
    refine z_bipush (pc2 := 12) rfl dX11_then_10 lt_b_60 ?_
    obtain ⟨q4, hq4, h⟩ := ab_bnd h
    refine z_callSi [.int a2, .int (60 : Int32)] [some (.int a2), some (.int (60 : Int32))] (pc2 := 15) rfl rfl dX11_then_12 ok_X11_outside ⟨fun _ => rfl, fun _ => Nat.le_of_ble_eq_true rfl⟩ rfl wd_343 wd_344 rfl (e_X11_outside hq4) ?_
    refine z_if_eq (pc2 := 18) (tgt := 24) rfl dX11_then_15 (by decide) (fun hc5 => ?_) (fun hc5 => ?_)
    · replace h := ab_pos hc5 h
      refine z_aload_n (pc2 := 25) rfl dX11_then_24 rfl ?_
      refine z_getR 8 11 1 49 (pc2 := 28) rfl dX11_then_25 rfl rfl ff_11_1 wd_303 rfl ?_
      refine z_aload_n (pc2 := 29) rfl dX11_then_28 rfl ?_
      refine z_getR 8 11 0 38 (pc2 := 32) rfl dX11_then_29 rfl rfl ff_11_0 wd_302 rfl ?_
      obtain ⟨q6, hq6, h⟩ := ab_bnd h
      refine z_callVv 49 [.ref 38] [some (.ref 49), some (.ref 38)] (pc2 := 35) rfl rfl dX11_then_32 ok_X9_copyFrom ⟨fun _ => rfl, fun _ => Nat.le_of_ble_eq_true rfl⟩ rfl rv_49 wd_734 wd_735 wd_736 rfl (e_X9_copyFrom_49_38 hq6) ?_
      refine z_aload_n (pc2 := 36) rfl dX11_then_35 rfl ?_
      refine z_getR 8 11 1 49 (pc2 := 39) rfl dX11_then_36 rfl rfl ff_11_1 wd_303 rfl ?_
      refine z_iload_n (pc2 := 40) rfl dX11_then_39 rfl ?_
      obtain ⟨q7, hq7, h⟩ := ab_bnd h
      refine z_callVv 49 [.int a2] [some (.ref 49), some (.int a2), none] (pc2 := 43) rfl rfl dX11_then_40 ok_X9_waterGoes ⟨fun _ => rfl, fun _ => Nat.le_of_ble_eq_true rfl⟩ rfl rv_49 wd_739 wd_740 wd_741 rfl (e_X9_waterGoes_49 hq7) ?_
      refine z_aload_n (pc2 := 44) rfl dX11_then_43 rfl ?_
      refine z_getR 8 11 1 49 (pc2 := 47) rfl dX11_then_44 rfl rfl ff_11_1 wd_303 rfl ?_
      refine z_getR 49 9 7 51 (pc2 := 50) rfl dX11_then_47 rfl rfl ff_9_7 wd_244 rfl ?_
      refine z_iload_n (pc2 := 51) rfl dX11_then_50 rfl ?_
      obtain ⟨hb8, h⟩ := ab_ck_e h
      refine z_iald 51 (pc2 := 52) (j := (a1).toNatClampNeg) rfl dX11_then_51 rfl rfl hb8 rfl ?_
      exact z_iret dX11_then_52 rfl rfl (fi_w h)
    · replace h := ab_neg hc5 h
      refine z_aload_n (pc2 := 19) rfl dX11_then_18 rfl ?_
      refine z_iconst (pc2 := 20) rfl dX11_then_19 lt_i_1 ?_
      obtain ⟨q9, hq9, h⟩ := ab_bnd h
      refine z_callVi 8 [.int (1 : Int32)] [some (.ref 8), some (.int (1 : Int32))] (pc2 := 23) rfl rfl dX11_then_20 ok_X11_refuse ⟨fun _ => rfl, fun _ => Nat.le_of_ble_eq_true rfl⟩ rfl rv_8 wd_346 wd_348 wd_0 rfl (e_X11_refuse hq9) ?_
      exact z_iret dX11_then_23 rfl rfl (fi_w h)
set_option maxRecDepth 100000 in
set_option maxHeartbeats 4000000 in
theorem e_X9_isWet_49 {sc : Nat × (Nat → Int32)} {r : Option Nat × Option Nat} {a1 : Int32} {σ : ab_F} {res : Bool} (h : f_X9_isWet 49 a1 σ = some res) : ab_E mX9_isWet 0 sc 0 [some (.ref 49), some (.int a1)] [] (σ, r) (fun v S => v = some (.int (ab_b res)) ∧ S = (σ, r)) := by
  unfold f_X9_isWet at h
  refine z_aload_n (pc2 := 1) rfl dX9_isWet_0 rfl ?_
  refine z_getR 49 9 7 51 (pc2 := 4) rfl dX9_isWet_1 rfl rfl ff_9_7 wd_243 rfl ?_
  refine z_aload_n (pc2 := 5) rfl dX9_isWet_4 rfl ?_
  refine z_getR 49 9 14 57 (pc2 := 8) rfl dX9_isWet_5 rfl rfl ff_9_14 wd_259 rfl ?_
  refine z_iload_n (pc2 := 9) rfl dX9_isWet_8 rfl ?_
  obtain ⟨hb1, h⟩ := ab_ck_e h
  refine z_iald 57 (pc2 := 10) (j := (a1).toNatClampNeg) rfl dX9_isWet_9 rfl rfl hb1 rfl ?_
  obtain ⟨hb2, h⟩ := ab_ck_e h
  refine z_iald 51 (pc2 := 11) (j := ((σ (49 + 8) (a1).toNatClampNeg)).toNatClampNeg) rfl dX9_isWet_10 rfl rfl hb2 rfl ?_
  refine z_aload_n (pc2 := 12) rfl dX9_isWet_11 rfl ?_
  refine z_getR 49 9 15 58 (pc2 := 15) rfl dX9_isWet_12 rfl rfl ff_9_15 wd_261 rfl ?_
  refine z_iload_n (pc2 := 16) rfl dX9_isWet_15 rfl ?_
  obtain ⟨hb3, h⟩ := ab_ck_e h
  refine z_iald 58 (pc2 := 17) (j := (a1).toNatClampNeg) rfl dX9_isWet_16 rfl rfl hb3 rfl ?_
  refine z_icmp_le (pc2 := 20) (tgt := 24) rfl dX9_isWet_17 (by decide) (fun hc4 => ?_) (fun hc4 => ?_)
  · replace h := ab_pos hc4 h
    refine z_iconst (pc2 := 25) rfl dX9_isWet_24 lt_i_0 ?_
    exact z_iret dX9_isWet_25 rfl rfl (fz_p rfl h)
  · replace h := ab_neg hc4 h
    refine z_iconst (pc2 := 21) rfl dX9_isWet_20 lt_i_1 ?_
    refine ab_goto (tgt := 25) dX9_isWet_21 (by decide) ?_
    exact z_iret dX9_isWet_25 rfl rfl (fz_p rfl h)
set_option maxRecDepth 100000 in
set_option maxHeartbeats 4000000 in
theorem e_X2_acts_25_49 {sc : Nat × (Nat → Int32)} {r : Option Nat × Option Nat} {a2 : Int32} {σ : ab_F} {res : Int32} (h : f_X2_acts_25 49 a2 σ = some res) : ab_E mX2_acts 0 sc 0 [some (.ref 25), some (.ref 49), some (.int a2)] [] (σ, r) (fun v S => v = some (.int res) ∧ S = (σ, r)) := by
  unfold f_X2_acts_25 at h
  refine z_iconst (pc2 := 1) rfl dX2_acts_0 lt_i_1 ?_
  exact z_iret dX2_acts_1 rfl rfl (fi_p h)
set_option maxRecDepth 100000 in
set_option maxHeartbeats 4000000 in
theorem e_X9_doesBy_49 {sc : Nat × (Nat → Int32)} {r : Option Nat × Option Nat} {a1 : Int32} {a2 : Int32} {a3 : Int32} {σ : ab_F} {res : (Int32 × ab_F)} (h : f_X9_doesBy 49 a1 a2 a3 σ = some res) : ab_E mX9_doesBy 2 sc 0 [some (.ref 49), some (.int a1), some (.int a2), some (.int a3)] [] (σ, r) (fun v S => v = some (.int res.1) ∧ S = (res.2, r)) := by
  unfold f_X9_doesBy at h
  refine z_aload_n (pc2 := 1) rfl dX9_doesBy_0 rfl ?_
  refine z_getR 49 9 1 32 (pc2 := 4) rfl dX9_doesBy_1 rfl rfl ff_9_1 wd_230 rfl ?_
  refine z_getI 32 7 0 (pc2 := 7) rfl dX9_doesBy_4 rfl rfl ff_7_0 wd_121 ?_
  refine z_if_le (pc2 := 10) (tgt := 23) rfl dX9_doesBy_7 (by decide) (fun hc1 => ?_) (fun hc1 => ?_)
  · replace h := ab_pos hc1 h
    refine z_iload_n (pc2 := 24) rfl dX9_doesBy_23 rfl ?_
    refine z_iconst (pc2 := 25) rfl dX9_doesBy_24 lt_i_4 ?_
    obtain ⟨q2, hq2, h⟩ := ab_bnd h
    refine z_callSi [.int a1, .int (4 : Int32)] [some (.int a1), some (.int (4 : Int32)), none] (pc2 := 28) rfl rfl dX9_doesBy_25 ok_J9_floorMod_7cf53 ⟨fun _ => rfl, fun _ => Nat.le_of_ble_eq_true rfl⟩ rfl wd_419 wd_420 rfl (e_J9_floorMod_7cf53 hq2) ?_
    exact z_iret dX9_doesBy_28 rfl rfl (fi_w h)
  · replace h := ab_neg hc1 h
    refine z_aload_n (pc2 := 11) rfl dX9_doesBy_10 rfl ?_
    refine z_getR 49 9 1 32 (pc2 := 14) rfl dX9_doesBy_11 rfl rfl ff_9_1 wd_230 rfl ?_
    refine z_iload_n (pc2 := 15) rfl dX9_doesBy_14 rfl ?_
    refine z_iload_n (pc2 := 16) rfl dX9_doesBy_15 rfl ?_
    refine z_iload_n (pc2 := 17) rfl dX9_doesBy_16 rfl ?_
    obtain ⟨q3, hq3, h⟩ := ab_bnd h
    refine z_callVi 32 [.int a1, .int a2, .int a3] [some (.ref 32), some (.int a1), some (.int a2), some (.int a3), none, none, none] (pc2 := 20) rfl rfl dX9_doesBy_17 ok_X7_gives ⟨fun _ => rfl, fun _ => Nat.le_of_ble_eq_true rfl⟩ rfl rv_32 wd_412 wd_413 wd_414 rfl (e_X7_gives_32 hq3) ?_
    refine ab_goto (tgt := 24) dX9_doesBy_20 (by decide) ?_
    refine z_iconst (pc2 := 25) rfl dX9_doesBy_24 lt_i_4 ?_
    obtain ⟨q4, hq4, h⟩ := ab_bnd h
    refine z_callSi [.int q3.1, .int (4 : Int32)] [some (.int q3.1), some (.int (4 : Int32)), none] (pc2 := 28) rfl rfl dX9_doesBy_25 ok_J9_floorMod_7cf53 ⟨fun _ => rfl, fun _ => Nat.le_of_ble_eq_true rfl⟩ rfl wd_419 wd_420 rfl (e_J9_floorMod_7cf53 hq4) ?_
    exact z_iret dX9_doesBy_28 rfl rfl (fi_w h)
set_option maxRecDepth 100000 in
set_option maxHeartbeats 4000000 in
theorem e_X5_acts_26_49 {sc : Nat × (Nat → Int32)} {r : Option Nat × Option Nat} {a2 : Int32} {σ : ab_F} {res : Int32} (h : f_X5_acts_26 49 a2 σ = some res) : ab_E mX5_acts 0 sc 0 [some (.ref 26), some (.ref 49), some (.int a2)] [] (σ, r) (fun v S => v = some (.int res) ∧ S = (σ, r)) := by
  unfold f_X5_acts_26 at h
  refine z_iconst (pc2 := 1) rfl dX5_acts_0 lt_i_3 ?_
  exact z_iret dX5_acts_1 rfl rfl (fi_p h)
set_option maxRecDepth 100000 in
set_option maxHeartbeats 4000000 in
theorem e_X2_acts_27_49 {sc : Nat × (Nat → Int32)} {r : Option Nat × Option Nat} {a2 : Int32} {σ : ab_F} {res : Int32} (h : f_X2_acts_27 49 a2 σ = some res) : ab_E mX2_acts 0 sc 0 [some (.ref 27), some (.ref 49), some (.int a2)] [] (σ, r) (fun v S => v = some (.int res) ∧ S = (σ, r)) := by
  unfold f_X2_acts_27 at h
  refine z_iconst (pc2 := 1) rfl dX2_acts_0 lt_i_1 ?_
  exact z_iret dX2_acts_1 rfl rfl (fi_p h)
set_option maxRecDepth 100000 in
set_option maxHeartbeats 4000000 in
theorem e_X10_acts_27_49 {sc : Nat × (Nat → Int32)} {r : Option Nat × Option Nat} {a2 : Int32} {σ : ab_F} {res : Int32} (h : f_X10_acts_27 49 a2 σ = some res) : ab_E mX10_acts 1 sc 0 [some (.ref 27), some (.ref 49), some (.int a2)] [] (σ, r) (fun v S => v = some (.int res) ∧ S = (σ, r)) := by
  unfold f_X10_acts_27 at h
  refine z_aload_n (pc2 := 1) rfl dX10_acts_0 rfl ?_
  refine z_getR 49 9 16 59 (pc2 := 4) rfl dX10_acts_1 rfl rfl ff_9_16 wd_264 rfl ?_
  refine z_iload_n (pc2 := 5) rfl dX10_acts_4 rfl ?_
  obtain ⟨hb1, h⟩ := ab_ck_e h
  refine z_iald 59 (pc2 := 6) (j := (a2).toNatClampNeg) rfl dX10_acts_5 rfl rfl hb1 rfl ?_
  obtain ⟨q2, hq2, h⟩ := ab_bnd h
  refine z_callSi [.int (σ (49 + 10) (a2).toNatClampNeg)] [some (.int (σ (49 + 10) (a2).toNatClampNeg))] (pc2 := 9) rfl rfl dX10_acts_6 ok_J6_bitCount_0f7a4 ⟨fun _ => rfl, fun _ => Nat.le_of_ble_eq_true rfl⟩ rfl wd_385 wd_386 rfl (e_J6_bitCount_0f7a4 hq2) ?_
  refine z_iconst (pc2 := 10) rfl dX10_acts_9 lt_i_3 ?_
  refine z_icmp_le (pc2 := 13) (tgt := 17) rfl dX10_acts_10 (by decide) (fun hc3 => ?_) (fun hc3 => ?_)
  · replace h := ab_pos hc3 h
    refine z_aload_n (pc2 := 18) rfl dX10_acts_17 rfl ?_
    refine z_aload_n (pc2 := 19) rfl dX10_acts_18 rfl ?_
    refine z_iload_n (pc2 := 20) rfl dX10_acts_19 rfl ?_
    obtain ⟨q4, hq4, h⟩ := ab_bnd h
    refine z_callUi RX10 RX2 yX2_acts 27 [.ref 49, .int a2] [some (.ref 27), some (.ref 49), some (.int a2)] (pc2 := 23) rfl rfl dX10_acts_20 ok_X2_acts ⟨fun _ => rfl, fun _ => Nat.le_of_ble_eq_true rfl⟩ rfl rv_27 wd_391 wd_374 wd_193 (Or.inl rfl) wd_372 (by decide) rfl (e_X2_acts_27_49 hq4) ?_
    exact z_iret dX10_acts_23 rfl rfl (fi_p h)
  · replace h := ab_neg hc3 h
    refine z_iconst (pc2 := 14) rfl dX10_acts_13 lt_i_2 ?_
    refine ab_goto (tgt := 23) dX10_acts_14 (by decide) ?_
    exact z_iret dX10_acts_23 rfl rfl (fi_p h)
set_option maxRecDepth 100000 in
set_option maxHeartbeats 4000000 in
theorem e_X3_acts_28_49 {sc : Nat × (Nat → Int32)} {r : Option Nat × Option Nat} {a2 : Int32} {σ : ab_F} {res : Int32} (h : f_X3_acts_28 49 a2 σ = some res) : ab_E mX3_acts 0 sc 0 [some (.ref 28), some (.ref 49), some (.int a2)] [] (σ, r) (fun v S => v = some (.int res) ∧ S = (σ, r)) := by
  unfold f_X3_acts_28 at h
  refine z_iconst (pc2 := 1) rfl dX3_acts_0 lt_i_0 ?_
  exact z_iret dX3_acts_1 rfl rfl (fi_p h)
set_option maxRecDepth 100000 in
set_option maxHeartbeats 4000000 in
theorem e_X5_acts_29_49 {sc : Nat × (Nat → Int32)} {r : Option Nat × Option Nat} {a2 : Int32} {σ : ab_F} {res : Int32} (h : f_X5_acts_29 49 a2 σ = some res) : ab_E mX5_acts 0 sc 0 [some (.ref 29), some (.ref 49), some (.int a2)] [] (σ, r) (fun v S => v = some (.int res) ∧ S = (σ, r)) := by
  unfold f_X5_acts_29 at h
  refine z_iconst (pc2 := 1) rfl dX5_acts_0 lt_i_3 ?_
  exact z_iret dX5_acts_1 rfl rfl (fi_p h)
set_option maxRecDepth 100000 in
set_option maxHeartbeats 4000000 in
theorem e_X1_acts_29_49 {sc : Nat × (Nat → Int32)} {r : Option Nat × Option Nat} {a2 : Int32} {σ : ab_F} {res : Int32} (h : f_X1_acts_29 49 a2 σ = some res) : ab_E mX1_acts 1 sc 0 [some (.ref 29), some (.ref 49), some (.int a2)] [] (σ, r) (fun v S => v = some (.int res) ∧ S = (σ, r)) := by
  unfold f_X1_acts_29 at h
  refine z_aload_n (pc2 := 1) rfl dX1_acts_0 rfl ?_
  refine z_getI 49 9 3 (pc2 := 4) rfl dX1_acts_1 rfl rfl ff_9_3 wd_234 ?_
  refine z_iconst (pc2 := 5) rfl dX1_acts_4 lt_i_2 ?_
  refine z_irem (pc2 := 6) rfl dX1_acts_5 (by decide) ?_
  refine z_if_ne (pc2 := 9) (tgt := 18) rfl dX1_acts_6 (by decide) (fun hc1 => ?_) (fun hc1 => ?_)
  · replace h := ab_neg hc1 h
    refine z_iconst (pc2 := 19) rfl dX1_acts_18 lt_i_1 ?_
    exact z_iret dX1_acts_19 rfl rfl (fi_p h)
  · replace h := ab_pos hc1 h
    refine z_aload_n (pc2 := 10) rfl dX1_acts_9 rfl ?_
    refine z_aload_n (pc2 := 11) rfl dX1_acts_10 rfl ?_
    refine z_iload_n (pc2 := 12) rfl dX1_acts_11 rfl ?_
    obtain ⟨q2, hq2, h⟩ := ab_bnd h
    refine z_callUi RX1 RX5 yX5_acts 29 [.ref 49, .int a2] [some (.ref 29), some (.ref 49), some (.int a2)] (pc2 := 15) rfl rfl dX1_acts_12 ok_X5_acts ⟨fun _ => rfl, fun _ => Nat.le_of_ble_eq_true rfl⟩ rfl rv_29 wd_395 wd_1423 wd_207 (Or.inl rfl) wd_396 (by decide) rfl (e_X5_acts_29_49 hq2) ?_
    refine ab_goto (tgt := 19) dX1_acts_15 (by decide) ?_
    exact z_iret dX1_acts_19 rfl rfl (fi_p h)
set_option maxRecDepth 100000 in
set_option maxHeartbeats 4000000 in
theorem e_X9_downOnes_49_L4 {sc : Nat × (Nat → Int32)} {r : Option Nat × Option Nat} {σ : ab_F} {K : Int32 → Option Int32} {res : Int32} (hK : ∀ (u1 : Int32), K u1 = some res → ab_E mX9_downOnes 0 sc 30 [none, some (.int u1), none] [] (σ, r) (fun v S => v = some (.int res) ∧ S = (σ, r))) : ∀ (n : Nat) (u1 : Int32) (u2 : Int32), f_X9_downOnes_L4 49 σ K n u1 u2 = some res → ab_E mX9_downOnes 0 sc 4 [some (.ref 49), some (.int u1), some (.int u2)] [] (σ, r) (fun v S => v = some (.int res) ∧ S = (σ, r)) := by
  intro n
  induction n with
  | zero =>
    intro u1 u2 h
    rw [f_X9_downOnes_L4] at h
    cases h
  | succ n ih =>
    intro u1 u2 h
    rw [f_X9_downOnes_L4] at h
    refine z_iload_n (pc2 := 5) rfl dX9_downOnes_4 rfl ?_
    refine z_aload_n (pc2 := 6) rfl dX9_downOnes_5 rfl ?_
    refine z_getI 49 9 11 (pc2 := 9) rfl dX9_downOnes_6 rfl rfl ff_9_11 wd_250 ?_
    refine z_icmp_ge (pc2 := 12) (tgt := 30) rfl dX9_downOnes_9 (by decide) (fun hc1 => ?_) (fun hc1 => ?_)
    · replace h := ab_pos hc1 h
      refine z_fgt [false, true, false] (L2 := [none, some (.int u1), none]) rfl ?_
      exact hK _ h
    · replace h := ab_neg hc1 h
      refine z_aload_n (pc2 := 13) rfl dX9_downOnes_12 rfl ?_
      refine z_getR 49 9 15 58 (pc2 := 16) rfl dX9_downOnes_13 rfl rfl ff_9_15 wd_261 rfl ?_
      refine z_iload_n (pc2 := 17) rfl dX9_downOnes_16 rfl ?_
      obtain ⟨hb2, h⟩ := ab_ck_e h
      refine z_iald 58 (pc2 := 18) (j := (u2).toNatClampNeg) rfl dX9_downOnes_17 rfl rfl hb2 rfl ?_
      refine z_if_ne (pc2 := 21) (tgt := 24) rfl dX9_downOnes_18 (by decide) (fun hc3 => ?_) (fun hc3 => ?_)
      · replace h := ab_neg hc3 h
        obtain ⟨x4, hxx4, h⟩ := ab_lt_e h
        refine z_iinc (pc2 := 27) (v := x4) (L2 := [some (.ref 49), some (.int u1), some (.int x4)]) rfl dX9_downOnes_24 rfl (by rw [hxx4]; rfl) (by decide) rfl rfl ?_
        refine ab_goto (tgt := 4) dX9_downOnes_27 (by decide) ?_
        refine z_fgt [true, true, true] (L2 := [some (.ref 49), some (.int u1), some (.int x4)]) rfl ?_
        exact ih _ _ h
      · replace h := ab_pos hc3 h
        obtain ⟨x5, hxx5, h⟩ := ab_lt_e h
        refine z_iinc (pc2 := 24) (v := x5) (L2 := [some (.ref 49), some (.int x5), some (.int u2)]) rfl dX9_downOnes_21 rfl (by rw [hxx5]; rfl) (by decide) rfl rfl ?_
        obtain ⟨x6, hxx6, h⟩ := ab_lt_e h
        refine z_iinc (pc2 := 27) (v := x6) (L2 := [some (.ref 49), some (.int x5), some (.int x6)]) rfl dX9_downOnes_24 rfl (by rw [hxx6]; rfl) (by decide) rfl rfl ?_
        refine ab_goto (tgt := 4) dX9_downOnes_27 (by decide) ?_
        refine z_fgt [true, true, true] (L2 := [some (.ref 49), some (.int x5), some (.int x6)]) rfl ?_
        exact ih _ _ h
set_option maxRecDepth 100000 in
set_option maxHeartbeats 4000000 in
theorem e_X9_downOnes_49 {sc : Nat × (Nat → Int32)} {r : Option Nat × Option Nat} {σ : ab_F} {res : Int32} (h : f_X9_downOnes 49 σ = some res) : ab_E mX9_downOnes 0 sc 0 [some (.ref 49), none, none] [] (σ, r) (fun v S => v = some (.int res) ∧ S = (σ, r)) := by
  unfold f_X9_downOnes at h
  refine z_iconst (pc2 := 1) rfl dX9_downOnes_0 lt_i_0 ?_
  refine z_istore_n (pc2 := 2) (L2 := [some (.ref 49), some (.int (0 : Int32)), none]) rfl dX9_downOnes_1 (by decide) rfl rfl ?_
  refine z_iconst (pc2 := 3) rfl dX9_downOnes_2 lt_i_0 ?_
  refine z_istore_n (pc2 := 4) (L2 := [some (.ref 49), some (.int (0 : Int32)), some (.int (0 : Int32))]) rfl dX9_downOnes_3 (by decide) rfl rfl ?_
  refine z_fgt [true, true, true] (L2 := [some (.ref 49), some (.int (0 : Int32)), some (.int (0 : Int32))]) rfl ?_
  refine e_X9_downOnes_49_L4 (fun k7 h => ?_) _ _ _ h
  refine z_iload_n (pc2 := 31) rfl dX9_downOnes_30 rfl ?_
  exact z_iret dX9_downOnes_31 rfl rfl (fi_p h)
set_option maxRecDepth 100000 in
set_option maxHeartbeats 4000000 in
theorem e_X2_acts_30_49 {sc : Nat × (Nat → Int32)} {r : Option Nat × Option Nat} {a2 : Int32} {σ : ab_F} {res : Int32} (h : f_X2_acts_30 49 a2 σ = some res) : ab_E mX2_acts 0 sc 0 [some (.ref 30), some (.ref 49), some (.int a2)] [] (σ, r) (fun v S => v = some (.int res) ∧ S = (σ, r)) := by
  unfold f_X2_acts_30 at h
  refine z_iconst (pc2 := 1) rfl dX2_acts_0 lt_i_1 ?_
  exact z_iret dX2_acts_1 rfl rfl (fi_p h)
set_option maxRecDepth 100000 in
set_option maxHeartbeats 4000000 in
theorem e_X10_acts_30_49 {sc : Nat × (Nat → Int32)} {r : Option Nat × Option Nat} {a2 : Int32} {σ : ab_F} {res : Int32} (h : f_X10_acts_30 49 a2 σ = some res) : ab_E mX10_acts 1 sc 0 [some (.ref 30), some (.ref 49), some (.int a2)] [] (σ, r) (fun v S => v = some (.int res) ∧ S = (σ, r)) := by
  unfold f_X10_acts_30 at h
  refine z_aload_n (pc2 := 1) rfl dX10_acts_0 rfl ?_
  refine z_getR 49 9 16 59 (pc2 := 4) rfl dX10_acts_1 rfl rfl ff_9_16 wd_264 rfl ?_
  refine z_iload_n (pc2 := 5) rfl dX10_acts_4 rfl ?_
  obtain ⟨hb1, h⟩ := ab_ck_e h
  refine z_iald 59 (pc2 := 6) (j := (a2).toNatClampNeg) rfl dX10_acts_5 rfl rfl hb1 rfl ?_
  obtain ⟨q2, hq2, h⟩ := ab_bnd h
  refine z_callSi [.int (σ (49 + 10) (a2).toNatClampNeg)] [some (.int (σ (49 + 10) (a2).toNatClampNeg))] (pc2 := 9) rfl rfl dX10_acts_6 ok_J6_bitCount_0f7a4 ⟨fun _ => rfl, fun _ => Nat.le_of_ble_eq_true rfl⟩ rfl wd_385 wd_386 rfl (e_J6_bitCount_0f7a4 hq2) ?_
  refine z_iconst (pc2 := 10) rfl dX10_acts_9 lt_i_3 ?_
  refine z_icmp_le (pc2 := 13) (tgt := 17) rfl dX10_acts_10 (by decide) (fun hc3 => ?_) (fun hc3 => ?_)
  · replace h := ab_pos hc3 h
    refine z_aload_n (pc2 := 18) rfl dX10_acts_17 rfl ?_
    refine z_aload_n (pc2 := 19) rfl dX10_acts_18 rfl ?_
    refine z_iload_n (pc2 := 20) rfl dX10_acts_19 rfl ?_
    obtain ⟨q4, hq4, h⟩ := ab_bnd h
    refine z_callUi RX0 RX2 yX2_acts 30 [.ref 49, .int a2] [some (.ref 30), some (.ref 49), some (.int a2)] (pc2 := 23) rfl rfl dX10_acts_20 ok_X2_acts ⟨fun _ => rfl, fun _ => Nat.le_of_ble_eq_true rfl⟩ rfl rv_30 wd_391 wd_374 wd_193 (Or.inl rfl) wd_372 (by decide) rfl (e_X2_acts_30_49 hq4) ?_
    exact z_iret dX10_acts_23 rfl rfl (fi_p h)
  · replace h := ab_neg hc3 h
    refine z_iconst (pc2 := 14) rfl dX10_acts_13 lt_i_2 ?_
    refine ab_goto (tgt := 23) dX10_acts_14 (by decide) ?_
    exact z_iret dX10_acts_23 rfl rfl (fi_p h)
set_option maxRecDepth 100000 in
set_option maxHeartbeats 4000000 in
theorem e_X0_acts_30_49 {sc : Nat × (Nat → Int32)} {r : Option Nat × Option Nat} {a2 : Int32} {σ : ab_F} {res : Int32} (h : f_X0_acts_30 49 a2 σ = some res) : ab_E mX0_acts 2 sc 0 [some (.ref 30), some (.ref 49), some (.int a2)] [] (σ, r) (fun v S => v = some (.int res) ∧ S = (σ, r)) := by
  unfold f_X0_acts_30 at h
  refine z_aload_n (pc2 := 1) rfl dX0_acts_0 rfl ?_
  obtain ⟨q1, hq1, h⟩ := ab_bnd h
  refine z_callVi 49 [] [some (.ref 49), none, none] (pc2 := 4) rfl rfl dX0_acts_1 ok_X9_downOnes ⟨fun _ => rfl, fun _ => Nat.le_of_ble_eq_true rfl⟩ rfl rv_49 wd_378 wd_379 wd_380 rfl (e_X9_downOnes_49 hq1) ?_
  refine z_iconst (pc2 := 5) rfl dX0_acts_4 lt_i_1 ?_
  refine z_icmp_le (pc2 := 8) (tgt := 12) rfl dX0_acts_5 (by decide) (fun hc2 => ?_) (fun hc2 => ?_)
  · replace h := ab_pos hc2 h
    refine z_aload_n (pc2 := 13) rfl dX0_acts_12 rfl ?_
    refine z_aload_n (pc2 := 14) rfl dX0_acts_13 rfl ?_
    refine z_iload_n (pc2 := 15) rfl dX0_acts_14 rfl ?_
    obtain ⟨q3, hq3, h⟩ := ab_bnd h
    refine z_callUi RX0 RX10 yX10_acts 30 [.ref 49, .int a2] [some (.ref 30), some (.ref 49), some (.int a2)] (pc2 := 18) rfl rfl dX0_acts_15 ok_X10_acts ⟨fun _ => rfl, fun _ => Nat.le_of_ble_eq_true rfl⟩ rfl rv_30 wd_382 wd_1422 wd_214 (Or.inl rfl) wd_383 (by decide) rfl (e_X10_acts_30_49 hq3) ?_
    exact z_iret dX0_acts_18 rfl rfl (fi_p h)
  · replace h := ab_neg hc2 h
    refine z_iconst (pc2 := 9) rfl dX0_acts_8 lt_i_2 ?_
    refine ab_goto (tgt := 18) dX0_acts_9 (by decide) ?_
    exact z_iret dX0_acts_18 rfl rfl (fi_p h)
set_option maxRecDepth 100000 in
set_option maxHeartbeats 4000000 in
theorem e_X4_acts_31_49 {sc : Nat × (Nat → Int32)} {r : Option Nat × Option Nat} {a2 : Int32} {σ : ab_F} {res : Int32} (h : f_X4_acts_31 49 a2 σ = some res) : ab_E mX4_acts 0 sc 0 [some (.ref 31), some (.ref 49), some (.int a2)] [] (σ, r) (fun v S => v = some (.int res) ∧ S = (σ, r)) := by
  unfold f_X4_acts_31 at h
  refine z_aload_n (pc2 := 1) rfl dX4_acts_0 rfl ?_
  refine z_getR 49 9 13 56 (pc2 := 4) rfl dX4_acts_1 rfl rfl ff_9_13 wd_255 rfl ?_
  refine z_iload_n (pc2 := 5) rfl dX4_acts_4 rfl ?_
  obtain ⟨hb1, h⟩ := ab_ck_e h
  refine z_iald 56 (pc2 := 6) (j := (a2).toNatClampNeg) rfl dX4_acts_5 rfl rfl hb1 rfl ?_
  refine z_iconst (pc2 := 7) rfl dX4_acts_6 lt_i_4 ?_
  refine z_icmp_le (pc2 := 10) (tgt := 14) rfl dX4_acts_7 (by decide) (fun hc2 => ?_) (fun hc2 => ?_)
  · replace h := ab_pos hc2 h
    refine z_iconst (pc2 := 15) rfl dX4_acts_14 lt_i_0 ?_
    exact z_iret dX4_acts_15 rfl rfl (fi_p h)
  · replace h := ab_neg hc2 h
    refine z_iconst (pc2 := 11) rfl dX4_acts_10 lt_i_2 ?_
    refine ab_goto (tgt := 15) dX4_acts_11 (by decide) ?_
    exact z_iret dX4_acts_15 rfl rfl (fi_p h)
set_option maxRecDepth 100000 in
set_option maxHeartbeats 4000000 in
theorem e_X9_does_49 {sc : Nat × (Nat → Int32)} {r : Option Nat × Option Nat} {a1 : Int32} {σ : ab_F} {res : (Int32 × ab_F)} (h : f_X9_does 49 a1 σ = some res) : ab_E mX9_does 3 sc 0 [some (.ref 49), some (.int a1)] [] (σ, r) (fun v S => v = some (.int res.1) ∧ S = (res.2, r)) := by
  unfold f_X9_does at h
  refine z_aload_n (pc2 := 1) rfl dX9_does_0 rfl ?_
  refine z_aload_n (pc2 := 2) rfl dX9_does_1 rfl ?_
  refine z_getR 49 9 0 24 (pc2 := 5) rfl dX9_does_2 rfl rfl ff_9_0 wd_228 rfl ?_
  refine z_aload_n (pc2 := 6) rfl dX9_does_5 rfl ?_
  refine z_getR 49 9 12 55 (pc2 := 9) rfl dX9_does_6 rfl rfl ff_9_12 wd_252 rfl ?_
  refine z_iload_n (pc2 := 10) rfl dX9_does_9 rfl ?_
  obtain ⟨hb1, h⟩ := ab_ck_e h
  refine z_iald 55 (pc2 := 11) (j := (a1).toNatClampNeg) rfl dX9_does_10 rfl rfl hb1 rfl ?_
  by_cases hi6 : (σ (49 + 6) (a1).toNatClampNeg) = (0 : Int32)
  · replace h := ab_pos hi6 h
    refine z_aaldG 24 25 (pc2 := 12) rfl dX9_does_11 rfl rfl (by rw [hi6]; rfl) (by rw [hi6]; rfl) ?_
    refine z_aload_n (pc2 := 13) rfl dX9_does_12 rfl ?_
    refine z_iload_n (pc2 := 14) rfl dX9_does_13 rfl ?_
    obtain ⟨q2, hq2, h⟩ := ab_bnd h
    refine z_callVi 25 [.ref 49, .int a1] [some (.ref 25), some (.ref 49), some (.int a1)] (pc2 := 17) rfl rfl dX9_does_14 ok_X2_acts ⟨fun _ => rfl, fun _ => Nat.le_of_ble_eq_true rfl⟩ rfl rv_25 wd_371 wd_372 wd_373 rfl (e_X2_acts_25_49 hq2) ?_
    refine z_aload_n (pc2 := 18) rfl dX9_does_17 rfl ?_
    refine z_getR 49 9 16 59 (pc2 := 21) rfl dX9_does_18 rfl rfl ff_9_16 wd_263 rfl ?_
    refine z_iload_n (pc2 := 22) rfl dX9_does_21 rfl ?_
    obtain ⟨hb3, h⟩ := ab_ck_e h
    refine z_iald 59 (pc2 := 23) (j := (a1).toNatClampNeg) rfl dX9_does_22 rfl rfl hb3 rfl ?_
    obtain ⟨q4, hq4, h⟩ := ab_bnd h
    refine z_callSi [.int (σ (49 + 10) (a1).toNatClampNeg)] [some (.int (σ (49 + 10) (a1).toNatClampNeg))] (pc2 := 26) rfl rfl dX9_does_23 ok_J6_bitCount_0f7a4 ⟨fun _ => rfl, fun _ => Nat.le_of_ble_eq_true rfl⟩ rfl wd_407 wd_386 rfl (e_J6_bitCount_0f7a4 hq4) ?_
    refine z_aload_n (pc2 := 27) rfl dX9_does_26 rfl ?_
    refine z_getI 49 9 3 (pc2 := 30) rfl dX9_does_27 rfl rfl ff_9_3 wd_235 ?_
    refine z_bipush (pc2 := 32) rfl dX9_does_30 lt_b_8 ?_
    refine z_irem (pc2 := 33) rfl dX9_does_32 (by decide) ?_
    obtain ⟨q5, hq5, h⟩ := ab_bnd h
    refine z_callVi 49 [.int q2, .int q4, .int ((σ 49 3) - (σ 49 3) / (8 : Int32) * (8 : Int32))] [some (.ref 49), some (.int q2), some (.int q4), some (.int ((σ 49 3) - (σ 49 3) / (8 : Int32) * (8 : Int32)))] (pc2 := 36) rfl rfl dX9_does_33 ok_X9_doesBy ⟨fun _ => rfl, fun _ => Nat.le_of_ble_eq_true rfl⟩ rfl rv_49 wd_408 wd_409 wd_410 rfl (e_X9_doesBy_49 hq5) ?_
    exact z_iret dX9_does_36 rfl rfl (fi_w h)
  · replace h := ab_neg hi6 h
    by_cases hi11 : (σ (49 + 6) (a1).toNatClampNeg) = (1 : Int32)
    · replace h := ab_pos hi11 h
      refine z_aaldG 24 26 (pc2 := 12) rfl dX9_does_11 rfl rfl (by rw [hi11]; rfl) (by rw [hi11]; rfl) ?_
      refine z_aload_n (pc2 := 13) rfl dX9_does_12 rfl ?_
      refine z_iload_n (pc2 := 14) rfl dX9_does_13 rfl ?_
      obtain ⟨q7, hq7, h⟩ := ab_bnd h
      refine z_callOi RX5 RX2 yX2_acts cX2_acts 3 (some .int) 26 [.ref 49, .int a1] [some (.ref 26), some (.ref 49), some (.int a1)] (pc2 := 17) rfl rfl dX9_does_14 ok_X5_acts ⟨fun _ => rfl, fun _ => Nat.le_of_ble_eq_true rfl⟩ rfl rv_26 wd_371 wd_374 wd_372 wd_404 wd_396 wd_406 ⟨by decide, by decide, rfl⟩ rfl (e_X5_acts_26_49 hq7) ?_
      refine z_aload_n (pc2 := 18) rfl dX9_does_17 rfl ?_
      refine z_getR 49 9 16 59 (pc2 := 21) rfl dX9_does_18 rfl rfl ff_9_16 wd_263 rfl ?_
      refine z_iload_n (pc2 := 22) rfl dX9_does_21 rfl ?_
      obtain ⟨hb8, h⟩ := ab_ck_e h
      refine z_iald 59 (pc2 := 23) (j := (a1).toNatClampNeg) rfl dX9_does_22 rfl rfl hb8 rfl ?_
      obtain ⟨q9, hq9, h⟩ := ab_bnd h
      refine z_callSi [.int (σ (49 + 10) (a1).toNatClampNeg)] [some (.int (σ (49 + 10) (a1).toNatClampNeg))] (pc2 := 26) rfl rfl dX9_does_23 ok_J6_bitCount_0f7a4 ⟨fun _ => rfl, fun _ => Nat.le_of_ble_eq_true rfl⟩ rfl wd_407 wd_386 rfl (e_J6_bitCount_0f7a4 hq9) ?_
      refine z_aload_n (pc2 := 27) rfl dX9_does_26 rfl ?_
      refine z_getI 49 9 3 (pc2 := 30) rfl dX9_does_27 rfl rfl ff_9_3 wd_235 ?_
      refine z_bipush (pc2 := 32) rfl dX9_does_30 lt_b_8 ?_
      refine z_irem (pc2 := 33) rfl dX9_does_32 (by decide) ?_
      obtain ⟨q10, hq10, h⟩ := ab_bnd h
      refine z_callVi 49 [.int q7, .int q9, .int ((σ 49 3) - (σ 49 3) / (8 : Int32) * (8 : Int32))] [some (.ref 49), some (.int q7), some (.int q9), some (.int ((σ 49 3) - (σ 49 3) / (8 : Int32) * (8 : Int32)))] (pc2 := 36) rfl rfl dX9_does_33 ok_X9_doesBy ⟨fun _ => rfl, fun _ => Nat.le_of_ble_eq_true rfl⟩ rfl rv_49 wd_408 wd_409 wd_410 rfl (e_X9_doesBy_49 hq10) ?_
      exact z_iret dX9_does_36 rfl rfl (fi_w h)
    · replace h := ab_neg hi11 h
      by_cases hi16 : (σ (49 + 6) (a1).toNatClampNeg) = (2 : Int32)
      · replace h := ab_pos hi16 h
        refine z_aaldG 24 27 (pc2 := 12) rfl dX9_does_11 rfl rfl (by rw [hi16]; rfl) (by rw [hi16]; rfl) ?_
        refine z_aload_n (pc2 := 13) rfl dX9_does_12 rfl ?_
        refine z_iload_n (pc2 := 14) rfl dX9_does_13 rfl ?_
        obtain ⟨q12, hq12, h⟩ := ab_bnd h
        refine z_callOi RX10 RX2 yX2_acts cX2_acts 3 (some .int) 27 [.ref 49, .int a1] [some (.ref 27), some (.ref 49), some (.int a1)] (pc2 := 17) rfl rfl dX9_does_14 ok_X10_acts ⟨fun _ => rfl, fun _ => Nat.le_of_ble_eq_true rfl⟩ rfl rv_27 wd_371 wd_374 wd_372 wd_405 wd_383 wd_406 ⟨by decide, by decide, rfl⟩ rfl (e_X10_acts_27_49 hq12) ?_
        refine z_aload_n (pc2 := 18) rfl dX9_does_17 rfl ?_
        refine z_getR 49 9 16 59 (pc2 := 21) rfl dX9_does_18 rfl rfl ff_9_16 wd_263 rfl ?_
        refine z_iload_n (pc2 := 22) rfl dX9_does_21 rfl ?_
        obtain ⟨hb13, h⟩ := ab_ck_e h
        refine z_iald 59 (pc2 := 23) (j := (a1).toNatClampNeg) rfl dX9_does_22 rfl rfl hb13 rfl ?_
        obtain ⟨q14, hq14, h⟩ := ab_bnd h
        refine z_callSi [.int (σ (49 + 10) (a1).toNatClampNeg)] [some (.int (σ (49 + 10) (a1).toNatClampNeg))] (pc2 := 26) rfl rfl dX9_does_23 ok_J6_bitCount_0f7a4 ⟨fun _ => rfl, fun _ => Nat.le_of_ble_eq_true rfl⟩ rfl wd_407 wd_386 rfl (e_J6_bitCount_0f7a4 hq14) ?_
        refine z_aload_n (pc2 := 27) rfl dX9_does_26 rfl ?_
        refine z_getI 49 9 3 (pc2 := 30) rfl dX9_does_27 rfl rfl ff_9_3 wd_235 ?_
        refine z_bipush (pc2 := 32) rfl dX9_does_30 lt_b_8 ?_
        refine z_irem (pc2 := 33) rfl dX9_does_32 (by decide) ?_
        obtain ⟨q15, hq15, h⟩ := ab_bnd h
        refine z_callVi 49 [.int q12, .int q14, .int ((σ 49 3) - (σ 49 3) / (8 : Int32) * (8 : Int32))] [some (.ref 49), some (.int q12), some (.int q14), some (.int ((σ 49 3) - (σ 49 3) / (8 : Int32) * (8 : Int32)))] (pc2 := 36) rfl rfl dX9_does_33 ok_X9_doesBy ⟨fun _ => rfl, fun _ => Nat.le_of_ble_eq_true rfl⟩ rfl rv_49 wd_408 wd_409 wd_410 rfl (e_X9_doesBy_49 hq15) ?_
        exact z_iret dX9_does_36 rfl rfl (fi_w h)
      · replace h := ab_neg hi16 h
        by_cases hi21 : (σ (49 + 6) (a1).toNatClampNeg) = (3 : Int32)
        · replace h := ab_pos hi21 h
          refine z_aaldG 24 28 (pc2 := 12) rfl dX9_does_11 rfl rfl (by rw [hi21]; rfl) (by rw [hi21]; rfl) ?_
          refine z_aload_n (pc2 := 13) rfl dX9_does_12 rfl ?_
          refine z_iload_n (pc2 := 14) rfl dX9_does_13 rfl ?_
          obtain ⟨q17, hq17, h⟩ := ab_bnd h
          refine z_callOi RX3 RX2 yX2_acts cX2_acts 3 (some .int) 28 [.ref 49, .int a1] [some (.ref 28), some (.ref 49), some (.int a1)] (pc2 := 17) rfl rfl dX9_does_14 ok_X3_acts ⟨fun _ => rfl, fun _ => Nat.le_of_ble_eq_true rfl⟩ rfl rv_28 wd_371 wd_374 wd_372 wd_398 wd_399 wd_406 ⟨by decide, by decide, rfl⟩ rfl (e_X3_acts_28_49 hq17) ?_
          refine z_aload_n (pc2 := 18) rfl dX9_does_17 rfl ?_
          refine z_getR 49 9 16 59 (pc2 := 21) rfl dX9_does_18 rfl rfl ff_9_16 wd_263 rfl ?_
          refine z_iload_n (pc2 := 22) rfl dX9_does_21 rfl ?_
          obtain ⟨hb18, h⟩ := ab_ck_e h
          refine z_iald 59 (pc2 := 23) (j := (a1).toNatClampNeg) rfl dX9_does_22 rfl rfl hb18 rfl ?_
          obtain ⟨q19, hq19, h⟩ := ab_bnd h
          refine z_callSi [.int (σ (49 + 10) (a1).toNatClampNeg)] [some (.int (σ (49 + 10) (a1).toNatClampNeg))] (pc2 := 26) rfl rfl dX9_does_23 ok_J6_bitCount_0f7a4 ⟨fun _ => rfl, fun _ => Nat.le_of_ble_eq_true rfl⟩ rfl wd_407 wd_386 rfl (e_J6_bitCount_0f7a4 hq19) ?_
          refine z_aload_n (pc2 := 27) rfl dX9_does_26 rfl ?_
          refine z_getI 49 9 3 (pc2 := 30) rfl dX9_does_27 rfl rfl ff_9_3 wd_235 ?_
          refine z_bipush (pc2 := 32) rfl dX9_does_30 lt_b_8 ?_
          refine z_irem (pc2 := 33) rfl dX9_does_32 (by decide) ?_
          obtain ⟨q20, hq20, h⟩ := ab_bnd h
          refine z_callVi 49 [.int q17, .int q19, .int ((σ 49 3) - (σ 49 3) / (8 : Int32) * (8 : Int32))] [some (.ref 49), some (.int q17), some (.int q19), some (.int ((σ 49 3) - (σ 49 3) / (8 : Int32) * (8 : Int32)))] (pc2 := 36) rfl rfl dX9_does_33 ok_X9_doesBy ⟨fun _ => rfl, fun _ => Nat.le_of_ble_eq_true rfl⟩ rfl rv_49 wd_408 wd_409 wd_410 rfl (e_X9_doesBy_49 hq20) ?_
          exact z_iret dX9_does_36 rfl rfl (fi_w h)
        · replace h := ab_neg hi21 h
          by_cases hi26 : (σ (49 + 6) (a1).toNatClampNeg) = (4 : Int32)
          · replace h := ab_pos hi26 h
            refine z_aaldG 24 29 (pc2 := 12) rfl dX9_does_11 rfl rfl (by rw [hi26]; rfl) (by rw [hi26]; rfl) ?_
            refine z_aload_n (pc2 := 13) rfl dX9_does_12 rfl ?_
            refine z_iload_n (pc2 := 14) rfl dX9_does_13 rfl ?_
            obtain ⟨q22, hq22, h⟩ := ab_bnd h
            refine z_callOi RX1 RX2 yX2_acts cX2_acts 3 (some .int) 29 [.ref 49, .int a1] [some (.ref 29), some (.ref 49), some (.int a1)] (pc2 := 17) rfl rfl dX9_does_14 ok_X1_acts ⟨fun _ => rfl, fun _ => Nat.le_of_ble_eq_true rfl⟩ rfl rv_29 wd_371 wd_374 wd_372 wd_392 wd_393 wd_406 ⟨by decide, by decide, rfl⟩ rfl (e_X1_acts_29_49 hq22) ?_
            refine z_aload_n (pc2 := 18) rfl dX9_does_17 rfl ?_
            refine z_getR 49 9 16 59 (pc2 := 21) rfl dX9_does_18 rfl rfl ff_9_16 wd_263 rfl ?_
            refine z_iload_n (pc2 := 22) rfl dX9_does_21 rfl ?_
            obtain ⟨hb23, h⟩ := ab_ck_e h
            refine z_iald 59 (pc2 := 23) (j := (a1).toNatClampNeg) rfl dX9_does_22 rfl rfl hb23 rfl ?_
            obtain ⟨q24, hq24, h⟩ := ab_bnd h
            refine z_callSi [.int (σ (49 + 10) (a1).toNatClampNeg)] [some (.int (σ (49 + 10) (a1).toNatClampNeg))] (pc2 := 26) rfl rfl dX9_does_23 ok_J6_bitCount_0f7a4 ⟨fun _ => rfl, fun _ => Nat.le_of_ble_eq_true rfl⟩ rfl wd_407 wd_386 rfl (e_J6_bitCount_0f7a4 hq24) ?_
            refine z_aload_n (pc2 := 27) rfl dX9_does_26 rfl ?_
            refine z_getI 49 9 3 (pc2 := 30) rfl dX9_does_27 rfl rfl ff_9_3 wd_235 ?_
            refine z_bipush (pc2 := 32) rfl dX9_does_30 lt_b_8 ?_
            refine z_irem (pc2 := 33) rfl dX9_does_32 (by decide) ?_
            obtain ⟨q25, hq25, h⟩ := ab_bnd h
            refine z_callVi 49 [.int q22, .int q24, .int ((σ 49 3) - (σ 49 3) / (8 : Int32) * (8 : Int32))] [some (.ref 49), some (.int q22), some (.int q24), some (.int ((σ 49 3) - (σ 49 3) / (8 : Int32) * (8 : Int32)))] (pc2 := 36) rfl rfl dX9_does_33 ok_X9_doesBy ⟨fun _ => rfl, fun _ => Nat.le_of_ble_eq_true rfl⟩ rfl rv_49 wd_408 wd_409 wd_410 rfl (e_X9_doesBy_49 hq25) ?_
            exact z_iret dX9_does_36 rfl rfl (fi_w h)
          · replace h := ab_neg hi26 h
            by_cases hi31 : (σ (49 + 6) (a1).toNatClampNeg) = (5 : Int32)
            · replace h := ab_pos hi31 h
              refine z_aaldG 24 30 (pc2 := 12) rfl dX9_does_11 rfl rfl (by rw [hi31]; rfl) (by rw [hi31]; rfl) ?_
              refine z_aload_n (pc2 := 13) rfl dX9_does_12 rfl ?_
              refine z_iload_n (pc2 := 14) rfl dX9_does_13 rfl ?_
              obtain ⟨q27, hq27, h⟩ := ab_bnd h
              refine z_callOi RX0 RX2 yX2_acts cX2_acts 3 (some .int) 30 [.ref 49, .int a1] [some (.ref 30), some (.ref 49), some (.int a1)] (pc2 := 17) rfl rfl dX9_does_14 ok_X0_acts ⟨fun _ => rfl, fun _ => Nat.le_of_ble_eq_true rfl⟩ rfl rv_30 wd_371 wd_374 wd_372 wd_375 wd_376 wd_406 ⟨by decide, by decide, rfl⟩ rfl (e_X0_acts_30_49 hq27) ?_
              refine z_aload_n (pc2 := 18) rfl dX9_does_17 rfl ?_
              refine z_getR 49 9 16 59 (pc2 := 21) rfl dX9_does_18 rfl rfl ff_9_16 wd_263 rfl ?_
              refine z_iload_n (pc2 := 22) rfl dX9_does_21 rfl ?_
              obtain ⟨hb28, h⟩ := ab_ck_e h
              refine z_iald 59 (pc2 := 23) (j := (a1).toNatClampNeg) rfl dX9_does_22 rfl rfl hb28 rfl ?_
              obtain ⟨q29, hq29, h⟩ := ab_bnd h
              refine z_callSi [.int (σ (49 + 10) (a1).toNatClampNeg)] [some (.int (σ (49 + 10) (a1).toNatClampNeg))] (pc2 := 26) rfl rfl dX9_does_23 ok_J6_bitCount_0f7a4 ⟨fun _ => rfl, fun _ => Nat.le_of_ble_eq_true rfl⟩ rfl wd_407 wd_386 rfl (e_J6_bitCount_0f7a4 hq29) ?_
              refine z_aload_n (pc2 := 27) rfl dX9_does_26 rfl ?_
              refine z_getI 49 9 3 (pc2 := 30) rfl dX9_does_27 rfl rfl ff_9_3 wd_235 ?_
              refine z_bipush (pc2 := 32) rfl dX9_does_30 lt_b_8 ?_
              refine z_irem (pc2 := 33) rfl dX9_does_32 (by decide) ?_
              obtain ⟨q30, hq30, h⟩ := ab_bnd h
              refine z_callVi 49 [.int q27, .int q29, .int ((σ 49 3) - (σ 49 3) / (8 : Int32) * (8 : Int32))] [some (.ref 49), some (.int q27), some (.int q29), some (.int ((σ 49 3) - (σ 49 3) / (8 : Int32) * (8 : Int32)))] (pc2 := 36) rfl rfl dX9_does_33 ok_X9_doesBy ⟨fun _ => rfl, fun _ => Nat.le_of_ble_eq_true rfl⟩ rfl rv_49 wd_408 wd_409 wd_410 rfl (e_X9_doesBy_49 hq30) ?_
              exact z_iret dX9_does_36 rfl rfl (fi_w h)
            · replace h := ab_neg hi31 h
              by_cases hi36 : (σ (49 + 6) (a1).toNatClampNeg) = (6 : Int32)
              · replace h := ab_pos hi36 h
                refine z_aaldG 24 31 (pc2 := 12) rfl dX9_does_11 rfl rfl (by rw [hi36]; rfl) (by rw [hi36]; rfl) ?_
                refine z_aload_n (pc2 := 13) rfl dX9_does_12 rfl ?_
                refine z_iload_n (pc2 := 14) rfl dX9_does_13 rfl ?_
                obtain ⟨q32, hq32, h⟩ := ab_bnd h
                refine z_callOi RX4 RX2 yX2_acts cX2_acts 3 (some .int) 31 [.ref 49, .int a1] [some (.ref 31), some (.ref 49), some (.int a1)] (pc2 := 17) rfl rfl dX9_does_14 ok_X4_acts ⟨fun _ => rfl, fun _ => Nat.le_of_ble_eq_true rfl⟩ rfl rv_31 wd_371 wd_374 wd_372 wd_401 wd_402 wd_406 ⟨by decide, by decide, rfl⟩ rfl (e_X4_acts_31_49 hq32) ?_
                refine z_aload_n (pc2 := 18) rfl dX9_does_17 rfl ?_
                refine z_getR 49 9 16 59 (pc2 := 21) rfl dX9_does_18 rfl rfl ff_9_16 wd_263 rfl ?_
                refine z_iload_n (pc2 := 22) rfl dX9_does_21 rfl ?_
                obtain ⟨hb33, h⟩ := ab_ck_e h
                refine z_iald 59 (pc2 := 23) (j := (a1).toNatClampNeg) rfl dX9_does_22 rfl rfl hb33 rfl ?_
                obtain ⟨q34, hq34, h⟩ := ab_bnd h
                refine z_callSi [.int (σ (49 + 10) (a1).toNatClampNeg)] [some (.int (σ (49 + 10) (a1).toNatClampNeg))] (pc2 := 26) rfl rfl dX9_does_23 ok_J6_bitCount_0f7a4 ⟨fun _ => rfl, fun _ => Nat.le_of_ble_eq_true rfl⟩ rfl wd_407 wd_386 rfl (e_J6_bitCount_0f7a4 hq34) ?_
                refine z_aload_n (pc2 := 27) rfl dX9_does_26 rfl ?_
                refine z_getI 49 9 3 (pc2 := 30) rfl dX9_does_27 rfl rfl ff_9_3 wd_235 ?_
                refine z_bipush (pc2 := 32) rfl dX9_does_30 lt_b_8 ?_
                refine z_irem (pc2 := 33) rfl dX9_does_32 (by decide) ?_
                obtain ⟨q35, hq35, h⟩ := ab_bnd h
                refine z_callVi 49 [.int q32, .int q34, .int ((σ 49 3) - (σ 49 3) / (8 : Int32) * (8 : Int32))] [some (.ref 49), some (.int q32), some (.int q34), some (.int ((σ 49 3) - (σ 49 3) / (8 : Int32) * (8 : Int32)))] (pc2 := 36) rfl rfl dX9_does_33 ok_X9_doesBy ⟨fun _ => rfl, fun _ => Nat.le_of_ble_eq_true rfl⟩ rfl rv_49 wd_408 wd_409 wd_410 rfl (e_X9_doesBy_49 hq35) ?_
                exact z_iret dX9_does_36 rfl rfl (fi_w h)
              · replace h := ab_neg hi36 h
                cases h
set_option maxRecDepth 100000 in
set_option maxHeartbeats 4000000 in
theorem e_X9_highestBeside_49_L9 {sc : Nat × (Nat → Int32)} {r : Option Nat × Option Nat} {p1 : Int32} {σ : ab_F} {K : Int32 → Option Int32} {res : Int32} (hK : ∀ (u2 : Int32), K u2 = some res → ab_E mX9_highestBeside 0 sc 60 [none, none, some (.int u2), none, none, none] [] (σ, r) (fun v S => v = some (.int res) ∧ S = (σ, r))) : ∀ (n : Nat) (u2 : Int32) (u3 : Int32) (u4 : Int32), f_X9_highestBeside_L9 49 p1 σ K n u2 u3 u4 = some res → ab_E mX9_highestBeside 0 sc 9 [some (.ref 49), some (.int p1), some (.int u2), some (.int u3), some (.int u4), none] [] (σ, r) (fun v S => v = some (.int res) ∧ S = (σ, r)) := by
  intro n
  induction n with
  | zero =>
    intro u2 u3 u4 h
    rw [f_X9_highestBeside_L9] at h
    cases h
  | succ n ih =>
    intro u2 u3 u4 h
    rw [f_X9_highestBeside_L9] at h
    refine z_iload (pc2 := 11) rfl dX9_highestBeside_9 rfl ?_
    refine z_iconst (pc2 := 12) rfl dX9_highestBeside_11 lt_i_4 ?_
    refine z_iload_n (pc2 := 13) rfl dX9_highestBeside_12 rfl ?_
    refine z_imul (pc2 := 14) rfl dX9_highestBeside_13 ?_
    refine z_iconst (pc2 := 15) rfl dX9_highestBeside_14 lt_i_4 ?_
    refine z_iadd (pc2 := 16) rfl dX9_highestBeside_15 ?_
    refine z_icmp_ge (pc2 := 19) (tgt := 60) rfl dX9_highestBeside_16 (by decide) (fun hc2 => ?_) (fun hc2 => ?_)
    · replace h := ab_pos hc2 h
      refine z_fgt [false, false, true, false, false, false] (L2 := [none, none, some (.int u2), none, none, none]) rfl ?_
      exact hK _ h
    · replace h := ab_neg hc2 h
      refine z_getsB (pc2 := 22) rfl rfl dX9_highestBeside_19 ?_
      refine z_iload (pc2 := 24) rfl dX9_highestBeside_22 rfl ?_
      obtain ⟨hb3, h⟩ := ab_ck_e h
      refine z_tald (1, 64) (pc2 := 25) rfl dX9_highestBeside_24 (by decide) hb3 ?_
      obtain ⟨x4, hxx4, h⟩ := ab_lt_e h
      refine z_top hxx4 ?_
      refine z_istore (pc2 := 27) (L2 := [some (.ref 49), some (.int p1), some (.int u2), some (.int u3), some (.int u4), some (.int x4)]) rfl dX9_highestBeside_25 (by decide) rfl rfl ?_
      refine z_iload (pc2 := 29) rfl dX9_highestBeside_27 rfl ?_
      refine z_if_lt (pc2 := 32) (tgt := 54) rfl dX9_highestBeside_29 (by decide) (fun hc5 => ?_) (fun hc5 => ?_)
      · replace h := ab_pos hc5 h
        obtain ⟨x6, hxx6, h⟩ := ab_lt_e h
        refine z_iinc (pc2 := 57) (v := x6) (L2 := [some (.ref 49), some (.int p1), some (.int u2), some (.int u3), some (.int x6), some (.int x4)]) rfl dX9_highestBeside_54 rfl (by rw [hxx6]; rfl) (by decide) rfl rfl ?_
        refine ab_goto (tgt := 9) dX9_highestBeside_57 (by decide) ?_
        refine z_fgt [true, true, true, true, true, false] (L2 := [some (.ref 49), some (.int p1), some (.int u2), some (.int u3), some (.int x6), none]) rfl ?_
        exact ih _ _ _ h
      · replace h := ab_neg hc5 h
        refine z_aload_n (pc2 := 33) rfl dX9_highestBeside_32 rfl ?_
        refine z_getR 49 9 6 50 (pc2 := 36) rfl dX9_highestBeside_33 rfl rfl ff_9_6 wd_241 rfl ?_
        refine z_iload (pc2 := 38) rfl dX9_highestBeside_36 rfl ?_
        obtain ⟨hb7, h⟩ := ab_ck_e h
        refine z_iald 50 (pc2 := 39) (j := (x4).toNatClampNeg) rfl dX9_highestBeside_38 rfl rfl hb7 rfl ?_
        refine z_iload_n (pc2 := 40) rfl dX9_highestBeside_39 rfl ?_
        refine z_icmp_le (pc2 := 43) (tgt := 54) rfl dX9_highestBeside_40 (by decide) (fun hc8 => ?_) (fun hc8 => ?_)
        · replace h := ab_pos hc8 h
          obtain ⟨x9, hxx9, h⟩ := ab_lt_e h
          refine z_iinc (pc2 := 57) (v := x9) (L2 := [some (.ref 49), some (.int p1), some (.int u2), some (.int u3), some (.int x9), some (.int x4)]) rfl dX9_highestBeside_54 rfl (by rw [hxx9]; rfl) (by decide) rfl rfl ?_
          refine ab_goto (tgt := 9) dX9_highestBeside_57 (by decide) ?_
          refine z_fgt [true, true, true, true, true, false] (L2 := [some (.ref 49), some (.int p1), some (.int u2), some (.int u3), some (.int x9), none]) rfl ?_
          exact ih _ _ _ h
        · replace h := ab_neg hc8 h
          refine z_iload (pc2 := 45) rfl dX9_highestBeside_43 rfl ?_
          refine z_istore_n (pc2 := 46) (L2 := [some (.ref 49), some (.int p1), some (.int x4), some (.int u3), some (.int u4), some (.int x4)]) rfl dX9_highestBeside_45 (by decide) rfl rfl ?_
          refine z_aload_n (pc2 := 47) rfl dX9_highestBeside_46 rfl ?_
          refine z_getR 49 9 6 50 (pc2 := 50) rfl dX9_highestBeside_47 rfl rfl ff_9_6 wd_241 rfl ?_
          refine z_iload (pc2 := 52) rfl dX9_highestBeside_50 rfl ?_
          obtain ⟨hb10, h⟩ := ab_ck_e h
          refine z_iald 50 (pc2 := 53) (j := (x4).toNatClampNeg) rfl dX9_highestBeside_52 rfl rfl hb10 rfl ?_
          obtain ⟨x11, hxx11, h⟩ := ab_lt_e h
          refine z_top hxx11 ?_
          refine z_istore_n (pc2 := 54) (L2 := [some (.ref 49), some (.int p1), some (.int x4), some (.int x11), some (.int u4), some (.int x4)]) rfl dX9_highestBeside_53 (by decide) rfl rfl ?_
          obtain ⟨x12, hxx12, h⟩ := ab_lt_e h
          refine z_iinc (pc2 := 57) (v := x12) (L2 := [some (.ref 49), some (.int p1), some (.int x4), some (.int x11), some (.int x12), some (.int x4)]) rfl dX9_highestBeside_54 rfl (by rw [hxx12]; rfl) (by decide) rfl rfl ?_
          refine ab_goto (tgt := 9) dX9_highestBeside_57 (by decide) ?_
          refine z_fgt [true, true, true, true, true, false] (L2 := [some (.ref 49), some (.int p1), some (.int x4), some (.int x11), some (.int x12), none]) rfl ?_
          exact ih _ _ _ h
