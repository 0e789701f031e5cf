def f_X11_textOf (a1 : Int32) (σ : ab_F) : Option Nat := (if a1 = 0 then (some 32) else (some 35))
set_option maxRecDepth 100000 in
set_option maxHeartbeats 4000000 in
theorem e_X11_textOf {sc : Nat × (Nat → Int32)} {r : Option Nat × Option Nat} {a1 : Int32} {σ : ab_F} {res : Nat} (h : f_X11_textOf a1 σ = some res) : ab_E mX11_textOf 0 sc 0 [some (.ref 8), some (.int a1)] [] (σ, r) (fun v S => v = some (.ref res) ∧ S = (σ, r)) := by
  unfold f_X11_textOf at h
  refine z_iload_n (pc2 := 1) rfl dX11_textOf_0 rfl ?_
  refine z_if_ne (pc2 := 4) (tgt := 14) rfl dX11_textOf_1 (by decide) (fun hc1 => ?_) (fun hc1 => ?_)
  · replace h := ab_neg hc1 h
    refine z_aload_n (pc2 := 15) rfl dX11_textOf_14 rfl ?_
    refine z_getR 8 11 0 38 (pc2 := 18) rfl dX11_textOf_15 rfl rfl ff_11_0 wd_302 rfl ?_
    refine z_getR 38 9 2 35 (pc2 := 21) rfl dX11_textOf_18 rfl rfl ff_9_2 wd_233 rfl ?_
    exact z_aret dX11_textOf_21 rfl (by first | exact Or.inl ⟨_, rfl⟩ | exact Or.inr ⟨_, rfl⟩) (fr_p h)
  · replace h := ab_pos hc1 h
    refine z_aload_n (pc2 := 5) rfl dX11_textOf_4 rfl ?_
    refine z_getR 8 11 0 38 (pc2 := 8) rfl dX11_textOf_5 rfl rfl ff_11_0 wd_302 rfl ?_
    refine z_getR 38 9 1 32 (pc2 := 11) rfl dX11_textOf_8 rfl rfl ff_9_1 wd_231 rfl ?_
    refine ab_goto (tgt := 21) dX11_textOf_11 (by decide) ?_
    exact z_aret dX11_textOf_21 rfl (by first | exact Or.inl ⟨_, rfl⟩ | exact Or.inr ⟨_, rfl⟩) (fr_p h)
def f_X7_copyFrom_32 (σ : ab_F) : Option ab_F := ab_lt (ab_u σ 32 0 (σ 17 0)) (fun (s1 : ab_F) => ab_ck (ab_cp (0 : Int32) (0 : Int32) (s1 32 0) 60 60) (ab_lt (ab_r s1 33 (va_cpy (s1 18) (s1 33) ((0 : Int32)).toNatClampNeg ((0 : Int32)).toNatClampNeg ((s1 32 0)).toNatClampNeg)) (fun (s3 : ab_F) => (some s3))))
set_option maxRecDepth 100000 in
set_option maxHeartbeats 4000000 in
theorem e_X7_copyFrom_32 {sc : Nat × (Nat → Int32)} {r : Option Nat × Option Nat} {σ : ab_F} {res : ab_F} (h : f_X7_copyFrom_32 σ = some res) : ab_E mX7_copyFrom 1 sc 0 [some (.ref 32), some (.ref 17)] [] (σ, r) (fun v S => v = none ∧ S = (res, r)) := by
  unfold f_X7_copyFrom_32 at h
  refine z_aload_n (pc2 := 1) rfl dX7_copyFrom_0 rfl ?_
  refine z_aload_n (pc2 := 2) rfl dX7_copyFrom_1 rfl ?_
  refine z_getI 17 7 0 (pc2 := 5) rfl dX7_copyFrom_2 rfl rfl ff_7_0 wd_119 ?_
  refine z_putI 32 7 0 (pc2 := 8) (ft := .int) rfl dX7_copyFrom_5 rfl rfl ff_7_0 wd_119 rfl (by decide +kernel) rfl rfl ?_
  obtain ⟨s1, hs1, h⟩ := ab_lt_e h
  refine z_tops hs1 ?_
  refine z_aload_n (pc2 := 9) rfl dX7_copyFrom_8 rfl ?_
  refine z_getR 17 7 1 18 (pc2 := 12) rfl dX7_copyFrom_9 rfl rfl ff_7_1 wd_122 rfl ?_
  refine z_iconst (pc2 := 13) rfl dX7_copyFrom_12 lt_i_0 ?_
  refine z_aload_n (pc2 := 14) rfl dX7_copyFrom_13 rfl ?_
  refine z_getR 32 7 1 33 (pc2 := 17) rfl dX7_copyFrom_14 rfl rfl ff_7_1 wd_122 rfl ?_
  refine z_iconst (pc2 := 18) rfl dX7_copyFrom_17 lt_i_0 ?_
  refine z_aload_n (pc2 := 19) rfl dX7_copyFrom_18 rfl ?_
  refine z_getI 32 7 0 (pc2 := 22) rfl dX7_copyFrom_19 rfl rfl ff_7_0 wd_119 ?_
  obtain ⟨hb2, h⟩ := ab_ck_e h
  refine z_acopy 18 33 (pc2 := 25) rfl dX7_copyFrom_22 rfl rfl rfl rfl wd_653 wd_655 wd_654 wd_82 hb2 rfl rfl ?_
  obtain ⟨s3, hs3, h⟩ := ab_lt_e h
  refine z_tops hs3 ?_
  exact z_vret dX7_copyFrom_25 rfl (fv_w h)
def f_X7_copyFrom_35 (σ : ab_F) : Option ab_F := ab_lt (ab_u σ 35 0 (σ 17 0)) (fun (s1 : ab_F) => ab_ck (ab_cp (0 : Int32) (0 : Int32) (s1 35 0) 60 60) (ab_lt (ab_r s1 36 (va_cpy (s1 18) (s1 36) ((0 : Int32)).toNatClampNeg ((0 : Int32)).toNatClampNeg ((s1 35 0)).toNatClampNeg)) (fun (s3 : ab_F) => (some s3))))
set_option maxRecDepth 100000 in
set_option maxHeartbeats 4000000 in
theorem e_X7_copyFrom_35 {sc : Nat × (Nat → Int32)} {r : Option Nat × Option Nat} {σ : ab_F} {res : ab_F} (h : f_X7_copyFrom_35 σ = some res) : ab_E mX7_copyFrom 1 sc 0 [some (.ref 35), some (.ref 17)] [] (σ, r) (fun v S => v = none ∧ S = (res, r)) := by
  unfold f_X7_copyFrom_35 at h
  refine z_aload_n (pc2 := 1) rfl dX7_copyFrom_0 rfl ?_
  refine z_aload_n (pc2 := 2) rfl dX7_copyFrom_1 rfl ?_
  refine z_getI 17 7 0 (pc2 := 5) rfl dX7_copyFrom_2 rfl rfl ff_7_0 wd_119 ?_
  refine z_putI 35 7 0 (pc2 := 8) (ft := .int) rfl dX7_copyFrom_5 rfl rfl ff_7_0 wd_119 rfl (by decide +kernel) rfl rfl ?_
  obtain ⟨s1, hs1, h⟩ := ab_lt_e h
  refine z_tops hs1 ?_
  refine z_aload_n (pc2 := 9) rfl dX7_copyFrom_8 rfl ?_
  refine z_getR 17 7 1 18 (pc2 := 12) rfl dX7_copyFrom_9 rfl rfl ff_7_1 wd_122 rfl ?_
  refine z_iconst (pc2 := 13) rfl dX7_copyFrom_12 lt_i_0 ?_
  refine z_aload_n (pc2 := 14) rfl dX7_copyFrom_13 rfl ?_
  refine z_getR 35 7 1 36 (pc2 := 17) rfl dX7_copyFrom_14 rfl rfl ff_7_1 wd_122 rfl ?_
  refine z_iconst (pc2 := 18) rfl dX7_copyFrom_17 lt_i_0 ?_
  refine z_aload_n (pc2 := 19) rfl dX7_copyFrom_18 rfl ?_
  refine z_getI 35 7 0 (pc2 := 22) rfl dX7_copyFrom_19 rfl rfl ff_7_0 wd_119 ?_
  obtain ⟨hb2, h⟩ := ab_ck_e h
  refine z_acopy 18 36 (pc2 := 25) rfl dX7_copyFrom_22 rfl rfl rfl rfl wd_653 wd_655 wd_654 wd_82 hb2 rfl rfl ?_
  obtain ⟨s3, hs3, h⟩ := ab_lt_e h
  refine z_tops hs3 ?_
  exact z_vret dX7_copyFrom_25 rfl (fv_w h)
set_option maxRecDepth 100000 in
set_option maxHeartbeats 4000000 in
theorem e_X7_next_4 {sc : Nat × (Nat → Int32)} {σ : ab_F} {res : Int32} (h : f_X7_next 4 σ = some res) : ab_E mX7_next 0 sc 0 [some (.ref 17)] [] (σ, (some 9, some 4)) (fun v S => v = some (.int res) ∧ S = (σ, (some 9, some 4))) := by
  unfold f_X7_next at h
  refine z_aload_n (pc2 := 1) rfl dX7_next_0 rfl ?_
  refine z_getI 17 7 5 (pc2 := 4) rfl dX7_next_1 rfl rfl ff_7_5 wd_126 ?_
  refine z_aload_n (pc2 := 5) rfl dX7_next_4 rfl ?_
  refine z_getR 17 7 3 9 (pc2 := 8) rfl dX7_next_5 rfl rfl ff_7_3 wd_124 rfl ?_
  refine z_getI 9 6 1 (pc2 := 11) rfl dX7_next_8 rfl rfl ff_6_1 wd_101 ?_
  refine z_icmp_ge (pc2 := 14) (tgt := 29) rfl dX7_next_11 (by decide) (fun hc1 => ?_) (fun hc1 => ?_)
  · replace h := ab_pos hc1 h
    refine z_iconst (pc2 := 30) rfl dX7_next_29 lt_i_m1 ?_
    exact z_iret dX7_next_30 rfl rfl (fi_p h)
  · replace h := ab_neg hc1 h
    refine z_aload_n (pc2 := 15) rfl dX7_next_14 rfl ?_
    refine z_getR 17 7 3 9 (pc2 := 18) rfl dX7_next_15 rfl rfl ff_7_3 wd_124 rfl ?_
    refine z_getR 9 6 0 10 (pc2 := 21) rfl dX7_next_18 rfl rfl ff_6_0 wd_98 rfl ?_
    refine z_aload_n (pc2 := 22) rfl dX7_next_21 rfl ?_
    refine z_getI 17 7 5 (pc2 := 25) rfl dX7_next_22 rfl rfl ff_7_5 wd_126 ?_
    obtain ⟨hb2, h⟩ := ab_ck_e h
    refine z_iald 10 (pc2 := 26) (j := ((σ 17 5)).toNatClampNeg) rfl dX7_next_25 rfl rfl hb2 rfl ?_
    refine ab_goto (tgt := 30) dX7_next_26 (by decide) ?_
    exact z_iret dX7_next_30 rfl rfl (fi_p h)
set_option maxRecDepth 100000 in
set_option maxHeartbeats 4000000 in
theorem e_X7_step_4 {sc : Nat × (Nat → Int32)} {a1 : Int32} {σ : ab_F} {res : ab_F} (h : f_X7_step 4 a1 σ = some res) : ab_E mX7_step 0 sc 0 [some (.ref 17), some (.int a1)] [] (σ, (some 9, some 4)) (fun v S => v = none ∧ S = (res, (some 9, some 4))) := by
  unfold f_X7_step at h
  refine z_aload_n (pc2 := 1) rfl dX7_step_0 rfl ?_
  refine z_getI 17 7 0 (pc2 := 4) rfl dX7_step_1 rfl rfl ff_7_0 wd_119 ?_
  refine z_bipush (pc2 := 6) rfl dX7_step_4 lt_b_60 ?_
  refine z_icmp_ge (pc2 := 9) (tgt := 29) rfl dX7_step_6 (by decide) (fun hc1 => ?_) (fun hc1 => ?_)
  · replace h := ab_pos hc1 h
    exact z_vret dX7_step_29 rfl (fv_w h)
  · replace h := ab_neg hc1 h
    refine z_aload_n (pc2 := 10) rfl dX7_step_9 rfl ?_
    refine z_getR 17 7 1 18 (pc2 := 13) rfl dX7_step_10 rfl rfl ff_7_1 wd_122 rfl ?_
    refine z_aload_n (pc2 := 14) rfl dX7_step_13 rfl ?_
    refine z_getI 17 7 0 (pc2 := 17) rfl dX7_step_14 rfl rfl ff_7_0 wd_119 ?_
    refine z_iload_n (pc2 := 18) rfl dX7_step_17 rfl ?_
    obtain ⟨hb2, h⟩ := ab_ck_e h
    refine z_iast 18 (pc2 := 19) (j := ((σ 17 0)).toNatClampNeg) rfl dX7_step_18 rfl rfl hb2 rfl ?_
    obtain ⟨s3, hs3, h⟩ := ab_lt_e h
    refine z_tops hs3 ?_
    refine z_aload_n (pc2 := 20) rfl dX7_step_19 rfl ?_
    refine z_dup (pc2 := 21) rfl dX7_step_20 rfl ?_
    refine z_getI 17 7 0 (pc2 := 24) rfl dX7_step_21 rfl rfl ff_7_0 wd_119 ?_
    refine z_iconst (pc2 := 25) rfl dX7_step_24 lt_i_1 ?_
    refine z_iadd (pc2 := 26) rfl dX7_step_25 ?_
    refine z_putI 17 7 0 (pc2 := 29) (ft := .int) rfl dX7_step_26 rfl rfl ff_7_0 wd_119 rfl (by decide +kernel) rfl rfl ?_
    obtain ⟨s4, hs4, h⟩ := ab_lt_e h
    refine z_tops hs4 ?_
    exact z_vret dX7_step_29 rfl (fv_w h)
set_option maxRecDepth 100000 in
set_option maxHeartbeats 4000000 in
theorem e_J0_isLatin1_aae02_4 {sc : Nat × (Nat → Int32)} {r : Option Nat × Option Nat} {σ : ab_F} {res : Bool} (h : f_J0_isLatin1_aae02 4 σ = some res) : ab_E mJ0_isLatin1_aae02 0 sc 0 [some (.ref 4)] [] (σ, r) (fun v S => v = some (.int (ab_b res)) ∧ S = (σ, r)) := by
  unfold f_J0_isLatin1_aae02 at h
  refine z_getsC (pc2 := 3) rfl dJ0_isLatin1_aae02_0 wd_568 ?_
  refine z_if_eq (pc2 := 6) (tgt := 17) rfl dJ0_isLatin1_aae02_3 (by decide) (fun hc => ?_) (fun hc => ?_)
  · exact absurd hc (by decide)
  · refine z_aload_n (pc2 := 7) rfl dJ0_isLatin1_aae02_6 rfl ?_
    refine z_strC (169, "ykd", 4, 6, 3) (pc2 := 10) rfl dJ0_isLatin1_aae02_7 (by decide) wd_1436 ?_
    refine z_if_ne (pc2 := 13) (tgt := 17) rfl dJ0_isLatin1_aae02_10 (by decide) (fun hc => ?_) (fun hc => ?_)
    · exact absurd hc (by decide)
    · refine z_iconst (pc2 := 14) rfl dJ0_isLatin1_aae02_13 lt_i_1 ?_
      refine ab_goto (tgt := 18) dJ0_isLatin1_aae02_14 (by decide) ?_
      exact z_iret dJ0_isLatin1_aae02_18 rfl rfl (fz_p rfl h)
set_option maxRecDepth 100000 in
set_option maxHeartbeats 4000000 in
theorem e_J0_coder_7d493_4 {sc : Nat × (Nat → Int32)} {r : Option Nat × Option Nat} {σ : ab_F} {res : Int32} (h : f_J0_coder_7d493 4 σ = some res) : ab_E mJ0_coder_7d493 0 sc 0 [some (.ref 4)] [] (σ, r) (fun v S => v = some (.int res) ∧ S = (σ, r)) := by
  unfold f_J0_coder_7d493 at h
  refine z_getsC (pc2 := 3) rfl dJ0_coder_7d493_0 wd_568 ?_
  refine z_if_eq (pc2 := 6) (tgt := 13) rfl dJ0_coder_7d493_3 (by decide) (fun hc => ?_) (fun hc => ?_)
  · exact absurd hc (by decide)
  · refine z_aload_n (pc2 := 7) rfl dJ0_coder_7d493_6 rfl ?_
    refine z_strC (169, "ykd", 4, 6, 3) (pc2 := 10) rfl dJ0_coder_7d493_7 (by decide) wd_1436 ?_
    refine ab_goto (tgt := 14) dJ0_coder_7d493_10 (by decide) ?_
    exact z_iret dJ0_coder_7d493_14 rfl rfl (fi_p h)
set_option maxRecDepth 100000 in
set_option maxHeartbeats 4000000 in
theorem e_J0_length_8abf5_4 {sc : Nat × (Nat → Int32)} {r : Option Nat × Option Nat} {σ : ab_F} {res : Int32} (h : f_J0_length_8abf5 4 σ = some res) : ab_E mJ0_length_8abf5 1 sc 0 [some (.ref 4)] [] (σ, r) (fun v S => v = some (.int res) ∧ S = (σ, r)) := by
  unfold f_J0_length_8abf5 at h
  refine z_aload_n (pc2 := 1) rfl dJ0_length_8abf5_0 rfl ?_
  refine z_strV (169, "ykd", 4, 6, 3) (pc2 := 4) rfl dJ0_length_8abf5_1 (by decide) wd_1437 ?_
  refine z_balen (169, "ykd", 4, 6, 3) (pc2 := 5) (v := 3) rfl dJ0_length_8abf5_4 (by decide) (by decide) ?_
  refine z_aload_n (pc2 := 6) rfl dJ0_length_8abf5_5 rfl ?_
  obtain ⟨q1, hq1, h⟩ := ab_bnd h
  refine z_callVi 4 [] [some (.ref 4)] (pc2 := 9) rfl rfl dJ0_length_8abf5_6 ok_J0_coder_7d493 ⟨fun _ => rfl, fun _ => Nat.le_of_ble_eq_true rfl⟩ rfl rv_4 wd_574 wd_575 wd_576 rfl (e_J0_coder_7d493_4 hq1) ?_
  refine z_ishr (pc2 := 10) rfl dJ0_length_8abf5_9 ?_
  exact z_iret dJ0_length_8abf5_10 rfl rfl (fi_p h)
set_option maxRecDepth 100000 in
set_option maxHeartbeats 4000000 in
theorem e_J1_indexOfChar_4cfef_6_L7 {sc : Nat × (Nat → Int32)} {r : Option Nat × Option Nat} {p3 : Int32} {p4 : Int32} {σ : ab_F} {K : Option Int32} {res : Int32} (hK : K = some res → ab_E mJ1_indexOfChar_4cfef 0 sc 31 [none, none, none, none, none, none] [] (σ, r) (fun v S => v = some (.int res) ∧ S = (σ, r))) : ∀ (n : Nat) (u5 : Int32), f_J1_indexOfChar_4cfef_L7 6 p3 p4 σ K n u5 = some res → ab_E mJ1_indexOfChar_4cfef 0 sc 7 [some (.ref 6), none, none, some (.int p3), some (.int p4), some (.int u5)] [] (σ, r) (fun v S => v = some (.int res) ∧ S = (σ, r)) := by
  intro n
  induction n with
  | zero =>
    intro u5 h
    rw [f_J1_indexOfChar_4cfef_L7] at h
    cases h
  | succ n ih =>
    intro u5 h
    rw [f_J1_indexOfChar_4cfef_L7] at h
    refine z_iload (pc2 := 9) rfl dJ1_indexOfChar_4cfef_7 rfl ?_
    refine z_iload_n (pc2 := 10) rfl dJ1_indexOfChar_4cfef_9 rfl ?_
    refine z_icmp_ge (pc2 := 13) (tgt := 31) rfl dJ1_indexOfChar_4cfef_10 (by decide) (fun hc2 => ?_) (fun hc2 => ?_)
    · replace h := ab_pos hc2 h
      refine z_fgt [false, false, false, false, false, false] (L2 := [none, none, none, none, none, none]) rfl ?_
      exact hK  h
    · replace h := ab_neg hc2 h
      refine z_aload_n (pc2 := 14) rfl dJ1_indexOfChar_4cfef_13 rfl ?_
      refine z_iload (pc2 := 16) rfl dJ1_indexOfChar_4cfef_14 rfl ?_
      obtain ⟨hb3, h⟩ := ab_ck_e h
      refine z_bald (169, "ykd", 4, 6, 3) (pc2 := 17) rfl dJ1_indexOfChar_4cfef_16 (by decide) hb3 ?_
      refine z_iload (pc2 := 19) rfl dJ1_indexOfChar_4cfef_17 rfl ?_
      refine z_icmp_ne (pc2 := 22) (tgt := 25) rfl dJ1_indexOfChar_4cfef_19 (by decide) (fun hc4 => ?_) (fun hc4 => ?_)
      · replace h := ab_neg hc4 h
        obtain ⟨x5, hxx5, h⟩ := ab_lt_e h
        refine z_iinc (pc2 := 28) (v := x5) (L2 := [some (.ref 6), none, none, some (.int p3), some (.int p4), some (.int x5)]) rfl dJ1_indexOfChar_4cfef_25 rfl (by rw [hxx5]; rfl) (by decide) rfl rfl ?_
        refine ab_goto (tgt := 7) dJ1_indexOfChar_4cfef_28 (by decide) ?_
        refine z_fgt [true, false, false, true, true, true] (L2 := [some (.ref 6), none, none, some (.int p3), some (.int p4), some (.int x5)]) rfl ?_
        exact ih _ h
      · replace h := ab_pos hc4 h
        refine z_iload (pc2 := 24) rfl dJ1_indexOfChar_4cfef_22 rfl ?_
        exact z_iret dJ1_indexOfChar_4cfef_24 rfl rfl (fi_p h)
set_option maxRecDepth 100000 in
set_option maxHeartbeats 4000000 in
theorem e_J1_indexOfChar_4cfef_6 {sc : Nat × (Nat → Int32)} {r : Option Nat × Option Nat} {a1 : Int32} {a2 : Int32} {a3 : Int32} {σ : ab_F} {res : Int32} (h : f_J1_indexOfChar_4cfef 6 a1 a2 a3 σ = some res) : ab_E mJ1_indexOfChar_4cfef 0 sc 0 [some (.ref 6), some (.int a1), some (.int a2), some (.int a3), none, none] [] (σ, r) (fun v S => v = some (.int res) ∧ S = (σ, r)) := by
  unfold f_J1_indexOfChar_4cfef at h
  refine z_iload_n (pc2 := 1) rfl dJ1_indexOfChar_4cfef_0 rfl ?_
  refine z_i2b (pc2 := 2) rfl dJ1_indexOfChar_4cfef_1 ?_
  obtain ⟨x1, hxx1, h⟩ := ab_lt_e h
  refine z_top hxx1 ?_
  refine z_istore (pc2 := 4) (L2 := [some (.ref 6), some (.int a1), some (.int a2), some (.int a3), some (.int x1), none]) rfl dJ1_indexOfChar_4cfef_2 (by decide) rfl rfl ?_
  refine z_iload_n (pc2 := 5) rfl dJ1_indexOfChar_4cfef_4 rfl ?_
  refine z_istore (pc2 := 7) (L2 := [some (.ref 6), some (.int a1), some (.int a2), some (.int a3), some (.int x1), some (.int a2)]) rfl dJ1_indexOfChar_4cfef_5 (by decide) rfl rfl ?_
  refine z_fgt [true, false, false, true, true, true] (L2 := [some (.ref 6), none, none, some (.int a3), some (.int x1), some (.int a2)]) rfl ?_
  refine e_J1_indexOfChar_4cfef_6_L7 (fun  h => ?_) _ _ h
  refine z_iconst (pc2 := 32) rfl dJ1_indexOfChar_4cfef_31 lt_i_m1 ?_
  exact z_iret dJ1_indexOfChar_4cfef_32 rfl rfl (fi_p h)
set_option maxRecDepth 100000 in
set_option maxHeartbeats 4000000 in
theorem e_J1_indexOf_4cfef_6 {sc : Nat × (Nat → Int32)} {r : Option Nat × Option Nat} {a1 : Int32} {a2 : Int32} {a3 : Int32} {σ : ab_F} {res : Int32} (h : f_J1_indexOf_4cfef 6 a1 a2 a3 σ = some res) : ab_E mJ1_indexOf_4cfef 1 sc 0 [some (.ref 6), some (.int a1), some (.int a2), some (.int a3)] [] (σ, r) (fun v S => v = some (.int res) ∧ S = (σ, r)) := by
  unfold f_J1_indexOf_4cfef at h
  refine z_iload_n (pc2 := 1) rfl dJ1_indexOf_4cfef_0 rfl ?_
  obtain ⟨q1, hq1, h⟩ := ab_bnd h
  refine z_callSi [.int a1] [some (.int a1)] (pc2 := 4) rfl rfl dJ1_indexOf_4cfef_1 ok_J1_canEncode_9a6ad ⟨fun _ => rfl, fun _ => Nat.le_of_ble_eq_true rfl⟩ rfl wd_581 wd_582 rfl (e_J1_canEncode_9a6ad hq1) ?_
  refine z_if_ne (pc2 := 7) (tgt := 9) rfl dJ1_indexOf_4cfef_4 (by decide) (fun hc2 => ?_) (fun hc2 => ?_)
  · replace h := ab_neg hc2 h
    refine z_iload_n (pc2 := 10) rfl dJ1_indexOf_4cfef_9 rfl ?_
    refine z_iconst (pc2 := 11) rfl dJ1_indexOf_4cfef_10 lt_i_0 ?_
    obtain ⟨q3, hq3, h⟩ := ab_bnd h
    refine z_callSi [.int a2, .int (0 : Int32)] [some (.int a2), some (.int (0 : Int32))] (pc2 := 14) rfl rfl dJ1_indexOf_4cfef_11 ok_J9_max_7cf53 ⟨fun _ => rfl, fun _ => Nat.le_of_ble_eq_true rfl⟩ rfl wd_584 wd_462 rfl (e_J9_max_7cf53 hq3) ?_
    refine z_istore_n (pc2 := 15) (L2 := [some (.ref 6), some (.int a1), some (.int q3), some (.int a3)]) rfl dJ1_indexOf_4cfef_14 (by decide) rfl rfl ?_
    refine z_iload_n (pc2 := 16) rfl dJ1_indexOf_4cfef_15 rfl ?_
    refine z_aload_n (pc2 := 17) rfl dJ1_indexOf_4cfef_16 rfl ?_
    refine z_balen (169, "ykd", 4, 6, 3) (pc2 := 18) (v := 3) rfl dJ1_indexOf_4cfef_17 (by decide) (by decide) ?_
    obtain ⟨q4, hq4, h⟩ := ab_bnd h
    refine z_callSi [.int a3, .int (3 : Int32)] [some (.int a3), some (.int (3 : Int32))] (pc2 := 21) rfl rfl dJ1_indexOf_4cfef_18 ok_J9_min_7cf53 ⟨fun _ => rfl, fun _ => Nat.le_of_ble_eq_true rfl⟩ rfl wd_585 wd_459 rfl (e_J9_min_7cf53 hq4) ?_
    refine z_istore_n (pc2 := 22) (L2 := [some (.ref 6), some (.int a1), some (.int q3), some (.int q4)]) rfl dJ1_indexOf_4cfef_21 (by decide) rfl rfl ?_
    refine z_iload_n (pc2 := 23) rfl dJ1_indexOf_4cfef_22 rfl ?_
    refine z_iload_n (pc2 := 24) rfl dJ1_indexOf_4cfef_23 rfl ?_
    refine z_icmp_lt (pc2 := 27) (tgt := 29) rfl dJ1_indexOf_4cfef_24 (by decide) (fun hc5 => ?_) (fun hc5 => ?_)
    · replace h := ab_pos hc5 h
      refine z_aload_n (pc2 := 30) rfl dJ1_indexOf_4cfef_29 rfl ?_
      refine z_iload_n (pc2 := 31) rfl dJ1_indexOf_4cfef_30 rfl ?_
      refine z_iload_n (pc2 := 32) rfl dJ1_indexOf_4cfef_31 rfl ?_
      refine z_iload_n (pc2 := 33) rfl dJ1_indexOf_4cfef_32 rfl ?_
      obtain ⟨q6, hq6, h⟩ := ab_bnd h
      refine z_callSi [.ref 6, .int a1, .int q3, .int q4] [some (.ref 6), some (.int a1), some (.int q3), some (.int q4), none, none] (pc2 := 36) rfl rfl dJ1_indexOf_4cfef_33 ok_J1_indexOfChar_4cfef ⟨fun _ => rfl, fun _ => Nat.le_of_ble_eq_true rfl⟩ rfl wd_586 wd_587 rfl (e_J1_indexOfChar_4cfef_6 hq6) ?_
      exact z_iret dJ1_indexOf_4cfef_36 rfl rfl (fi_p h)
    · replace h := ab_neg hc5 h
      refine z_iconst (pc2 := 28) rfl dJ1_indexOf_4cfef_27 lt_i_m1 ?_
      exact z_iret dJ1_indexOf_4cfef_28 rfl rfl (fi_p h)
  · replace h := ab_pos hc2 h
    refine z_iconst (pc2 := 8) rfl dJ1_indexOf_4cfef_7 lt_i_m1 ?_
    exact z_iret dJ1_indexOf_4cfef_8 rfl rfl (fi_p h)
set_option maxRecDepth 100000 in
set_option maxHeartbeats 4000000 in
theorem e_J0_indexOf_7cf53_4 {sc : Nat × (Nat → Int32)} {r : Option Nat × Option Nat} {a1 : Int32} {a2 : Int32} {σ : ab_F} {res : Int32} (h : f_J0_indexOf_7cf53 4 a1 a2 σ = some res) : ab_E mJ0_indexOf_7cf53 2 sc 0 [some (.ref 4), some (.int a1), some (.int a2)] [] (σ, r) (fun v S => v = some (.int res) ∧ S = (σ, r)) := by
  unfold f_J0_indexOf_7cf53 at h
  refine z_aload_n (pc2 := 1) rfl dJ0_indexOf_7cf53_0 rfl ?_
  obtain ⟨q1, hq1, h⟩ := ab_bnd h
  refine z_callVi 4 [] [some (.ref 4)] (pc2 := 4) rfl rfl dJ0_indexOf_7cf53_1 ok_J0_isLatin1_aae02 ⟨fun _ => rfl, fun _ => Nat.le_of_ble_eq_true rfl⟩ rfl rv_4 wd_564 wd_565 wd_566 rfl (e_J0_isLatin1_aae02_4 hq1) ?_
  refine z_if_eq (pc2 := 7) (tgt := 23) rfl dJ0_indexOf_7cf53_4 (by decide) (fun hc2 => ?_) (fun hc2 => ?_)
  · replace h := ab_pos hc2 h
    cases h
  · replace h := ab_neg hc2 h
    refine z_aload_n (pc2 := 8) rfl dJ0_indexOf_7cf53_7 rfl ?_
    refine z_strV (169, "ykd", 4, 6, 3) (pc2 := 11) rfl dJ0_indexOf_7cf53_8 (by decide) wd_1437 ?_
    refine z_iload_n (pc2 := 12) rfl dJ0_indexOf_7cf53_11 rfl ?_
    refine z_iload_n (pc2 := 13) rfl dJ0_indexOf_7cf53_12 rfl ?_
    refine z_aload_n (pc2 := 14) rfl dJ0_indexOf_7cf53_13 rfl ?_
    obtain ⟨q4, hq4, h⟩ := ab_bnd h
    refine z_callVi 4 [] [some (.ref 4)] (pc2 := 17) rfl rfl dJ0_indexOf_7cf53_14 ok_J0_length_8abf5 ⟨fun _ => rfl, fun _ => Nat.le_of_ble_eq_true rfl⟩ rfl rv_4 wd_570 wd_571 wd_572 rfl (e_J0_length_8abf5_4 hq4) ?_
    obtain ⟨q5, hq5, h⟩ := ab_bnd h
    refine z_callSi [.ref 6, .int a1, .int a2, .int q4] [some (.ref 6), some (.int a1), some (.int a2), some (.int q4)] (pc2 := 20) rfl rfl dJ0_indexOf_7cf53_17 ok_J1_indexOf_4cfef ⟨fun _ => rfl, fun _ => Nat.le_of_ble_eq_true rfl⟩ rfl wd_578 wd_579 rfl (e_J1_indexOf_4cfef_6 hq5) ?_
    refine ab_goto (tgt := 36) dJ0_indexOf_7cf53_20 (by decide) ?_
    exact z_iret dJ0_indexOf_7cf53_36 rfl rfl (fi_p h)
set_option maxRecDepth 100000 in
set_option maxHeartbeats 4000000 in
theorem e_J0_indexOf_0f7a4_4 {sc : Nat × (Nat → Int32)} {r : Option Nat × Option Nat} {a1 : Int32} {σ : ab_F} {res : Int32} (h : f_J0_indexOf_0f7a4 4 a1 σ = some res) : ab_E mJ0_indexOf_0f7a4 3 sc 0 [some (.ref 4), some (.int a1)] [] (σ, r) (fun v S => v = some (.int res) ∧ S = (σ, r)) := by
  unfold f_J0_indexOf_0f7a4 at h
  refine z_aload_n (pc2 := 1) rfl dJ0_indexOf_0f7a4_0 rfl ?_
  refine z_iload_n (pc2 := 2) rfl dJ0_indexOf_0f7a4_1 rfl ?_
  refine z_iconst (pc2 := 3) rfl dJ0_indexOf_0f7a4_2 lt_i_0 ?_
  obtain ⟨q1, hq1, h⟩ := ab_bnd h
  refine z_callVi 4 [.int a1, .int (0 : Int32)] [some (.ref 4), some (.int a1), some (.int (0 : Int32))] (pc2 := 6) rfl rfl dJ0_indexOf_0f7a4_3 ok_J0_indexOf_7cf53 ⟨fun _ => rfl, fun _ => Nat.le_of_ble_eq_true rfl⟩ rfl rv_4 wd_560 wd_561 wd_562 rfl (e_J0_indexOf_7cf53_4 hq1) ?_
  exact z_iret dJ0_indexOf_0f7a4_6 rfl rfl (fi_p h)
set_option maxRecDepth 100000 in
set_option maxHeartbeats 4000000 in
theorem e_X7_readNumber_4_L4 {sc : Nat × (Nat → Int32)} {K : Int32 → ab_F → Option ab_F} {res : ab_F} (hK : ∀ (u1 : Int32) (σ : ab_F), K u1 σ = some res → ab_E mX7_readNumber 1 sc 56 [some (.ref 17), some (.int u1), none] [] (σ, (some 9, some 4)) (fun v S => v = none ∧ S = (res, (some 9, some 4)))) : ∀ (n : Nat) (u1 : Int32) (u2 : Int32) (σ : ab_F), f_X7_readNumber_L4 4 K n u1 u2 σ = some res → ab_E mX7_readNumber 1 sc 4 [some (.ref 17), some (.int u1), some (.int u2)] [] (σ, (some 9, some 4)) (fun v S => v = none ∧ S = (res, (some 9, some 4))) := by
  intro n
  induction n with
  | zero =>
    intro u1 u2 σ h
    rw [f_X7_readNumber_L4] at h
    cases h
  | succ n ih =>
    intro u1 u2 σ h
    rw [f_X7_readNumber_L4] at h
    refine z_iload_n (pc2 := 5) rfl dX7_readNumber_4 rfl ?_
    refine z_iconst (pc2 := 6) rfl dX7_readNumber_5 lt_i_4 ?_
    refine z_icmp_ge (pc2 := 9) (tgt := 56) rfl dX7_readNumber_6 (by decide) (fun hc1 => ?_) (fun hc1 => ?_)
    · replace h := ab_pos hc1 h
      refine z_fgt [true, true, false] (L2 := [some (.ref 17), some (.int u1), none]) rfl ?_
      exact hK _ _ h
    · replace h := ab_neg hc1 h
      refine z_aload_n (pc2 := 10) rfl dX7_readNumber_9 rfl ?_
      obtain ⟨q2, hq2, h⟩ := ab_bnd h
      refine z_callVi 17 [] [some (.ref 17)] (pc2 := 13) rfl rfl dX7_readNumber_10 ok_X7_next ⟨fun _ => rfl, fun _ => Nat.le_of_ble_eq_true rfl⟩ rfl rv_17 wd_544 wd_546 wd_4 rfl (e_X7_next_4 hq2) ?_
      refine z_bipush (pc2 := 15) rfl dX7_readNumber_13 lt_b_48 ?_
      refine z_icmp_lt (pc2 := 18) (tgt := 56) rfl dX7_readNumber_15 (by decide) (fun hc3 => ?_) (fun hc3 => ?_)
      · replace h := ab_pos hc3 h
        refine z_fgt [true, true, false] (L2 := [some (.ref 17), some (.int u1), none]) rfl ?_
        exact hK _ _ h
      · replace h := ab_neg hc3 h
        refine z_aload_n (pc2 := 19) rfl dX7_readNumber_18 rfl ?_
        obtain ⟨q4, hq4, h⟩ := ab_bnd h
        refine z_callVi 17 [] [some (.ref 17)] (pc2 := 22) rfl rfl dX7_readNumber_19 ok_X7_next ⟨fun _ => rfl, fun _ => Nat.le_of_ble_eq_true rfl⟩ rfl rv_17 wd_544 wd_546 wd_4 rfl (e_X7_next_4 hq4) ?_
        refine z_bipush (pc2 := 24) rfl dX7_readNumber_22 lt_b_57 ?_
        refine z_icmp_gt (pc2 := 27) (tgt := 56) rfl dX7_readNumber_24 (by decide) (fun hc5 => ?_) (fun hc5 => ?_)
        · replace h := ab_pos hc5 h
          refine z_fgt [true, true, false] (L2 := [some (.ref 17), some (.int u1), none]) rfl ?_
          exact hK _ _ h
        · replace h := ab_neg hc5 h
          refine z_bipush (pc2 := 29) rfl dX7_readNumber_27 lt_b_10 ?_
          refine z_iload_n (pc2 := 30) rfl dX7_readNumber_29 rfl ?_
          refine z_imul (pc2 := 31) rfl dX7_readNumber_30 ?_
          refine z_aload_n (pc2 := 32) rfl dX7_readNumber_31 rfl ?_
          obtain ⟨q6, hq6, h⟩ := ab_bnd h
          refine z_callVi 17 [] [some (.ref 17)] (pc2 := 35) rfl rfl dX7_readNumber_32 ok_X7_next ⟨fun _ => rfl, fun _ => Nat.le_of_ble_eq_true rfl⟩ rfl rv_17 wd_544 wd_546 wd_4 rfl (e_X7_next_4 hq6) ?_
          refine z_iadd (pc2 := 36) rfl dX7_readNumber_35 ?_
          refine z_bipush (pc2 := 38) rfl dX7_readNumber_36 lt_b_48 ?_
          refine z_isub (pc2 := 39) rfl dX7_readNumber_38 ?_
          obtain ⟨x7, hxx7, h⟩ := ab_lt_e h
          refine z_top hxx7 ?_
          refine z_istore_n (pc2 := 40) (L2 := [some (.ref 17), some (.int x7), some (.int u2)]) rfl dX7_readNumber_39 (by decide) rfl rfl ?_
          refine z_aload_n (pc2 := 41) rfl dX7_readNumber_40 rfl ?_
          refine z_dup (pc2 := 42) rfl dX7_readNumber_41 rfl ?_
          refine z_getI 17 7 5 (pc2 := 45) rfl dX7_readNumber_42 rfl rfl ff_7_5 wd_126 ?_
          refine z_iconst (pc2 := 46) rfl dX7_readNumber_45 lt_i_1 ?_
          refine z_iadd (pc2 := 47) rfl dX7_readNumber_46 ?_
          refine z_putI 17 7 5 (pc2 := 50) (ft := .int) rfl dX7_readNumber_47 rfl rfl ff_7_5 wd_126 rfl (by decide +kernel) rfl rfl ?_
          obtain ⟨s8, hs8, h⟩ := ab_lt_e h
          refine z_tops hs8 ?_
          obtain ⟨x9, hxx9, h⟩ := ab_lt_e h
          refine z_iinc (pc2 := 53) (v := x9) (L2 := [some (.ref 17), some (.int x7), some (.int x9)]) rfl dX7_readNumber_50 rfl (by rw [hxx9]; rfl) (by decide) rfl rfl ?_
          refine ab_goto (tgt := 4) dX7_readNumber_53 (by decide) ?_
          refine z_fgt [true, true, true] (L2 := [some (.ref 17), some (.int x7), some (.int x9)]) rfl ?_
          exact ih _ _ _ h
set_option maxRecDepth 100000 in
set_option maxHeartbeats 4000000 in
theorem e_X7_readNumber_4 {sc : Nat × (Nat → Int32)} {σ : ab_F} {res : ab_F} (h : f_X7_readNumber 4 σ = some res) : ab_E mX7_readNumber 1 sc 0 [some (.ref 17), none, none] [] (σ, (some 9, some 4)) (fun v S => v = none ∧ S = (res, (some 9, some 4))) := by
  unfold f_X7_readNumber at h
  refine z_iconst (pc2 := 1) rfl dX7_readNumber_0 lt_i_0 ?_
  refine z_istore_n (pc2 := 2) (L2 := [some (.ref 17), some (.int (0 : Int32)), none]) rfl dX7_readNumber_1 (by decide) rfl rfl ?_
  refine z_iconst (pc2 := 3) rfl dX7_readNumber_2 lt_i_0 ?_
  refine z_istore_n (pc2 := 4) (L2 := [some (.ref 17), some (.int (0 : Int32)), some (.int (0 : Int32))]) rfl dX7_readNumber_3 (by decide) rfl rfl ?_
  refine z_fgt [true, true, true] (L2 := [some (.ref 17), some (.int (0 : Int32)), some (.int (0 : Int32))]) rfl ?_
  refine e_X7_readNumber_4_L4 (fun k10 s11 h => ?_) _ _ _ _ h
  refine z_aload_n (pc2 := 57) rfl dX7_readNumber_56 rfl ?_
  refine z_iload_n (pc2 := 58) rfl dX7_readNumber_57 rfl ?_
  obtain ⟨q12, hq12, h⟩ := ab_bnd h
  refine z_callVv 17 [.int k10] [some (.ref 17), some (.int k10)] (pc2 := 61) rfl rfl dX7_readNumber_58 ok_X7_step ⟨fun _ => rfl, fun _ => Nat.le_of_ble_eq_true rfl⟩ rfl rv_17 wd_552 wd_554 wd_6 rfl (e_X7_step_4 hq12) ?_
  exact z_vret dX7_readNumber_61 rfl (fv_w h)
set_option maxRecDepth 100000 in
set_option maxHeartbeats 4000000 in
theorem eg_X7_readLevel_4_L39 {sc : Nat × (Nat → Int32)} {n0 : Nat} {rc : Nat → Int32 → Int32 → ab_F → Option (Bool × ab_F)} (ih_X7_readLevel : ∀ (a1 : Int32) (a2 : Int32) (σ : ab_F) (res : (Bool × ab_F)), rc 0 a1 a2 σ = some res → ab_E mX7_readLevel (n0 + 8) sc 0 [some (.ref 17), some (.int a1), some (.int a2), none, none, none] [] (σ, (some 9, some 4)) (fun v S => v = some (.int (ab_b res.1)) ∧ S = (res.2, (some 9, some 4)))) (ih_X7_readUnit : ∀ (a1 : Int32) (z0 : Int32) (σ : ab_F) (res : (Bool × ab_F)), rc 1 a1 z0 σ = some res → ab_E mX7_readUnit (n0 + 8) sc 0 [some (.ref 17), some (.int a1), none, none, none] [] (σ, (some 9, some 4)) (fun v S => v = some (.int (ab_b res.1)) ∧ S = (res.2, (some 9, some 4)))) (ih_X7_readBracket : ∀ (a1 : Int32) (z0 : Int32) (σ : ab_F) (res : (Bool × ab_F)), rc 2 a1 z0 σ = some res → ab_E mX7_readBracket (n0 + 8) sc 0 [some (.ref 17), some (.int a1)] [] (σ, (some 9, some 4)) (fun v S => v = some (.int (ab_b res.1)) ∧ S = (res.2, (some 9, some 4)))) {p1 : Int32} {p2 : Int32} {p3 : Int32} {K : ab_F → Option (Bool × ab_F)} {res : (Bool × ab_F)} (hK : ∀ (σ : ab_F), K σ = some res → ab_E mX7_readLevel (n0 + 9) sc 98 [none, none, none, none, none, none] [] (σ, (some 9, some 4)) (fun v S => v = some (.int (ab_b res.1)) ∧ S = (res.2, (some 9, some 4)))) : ∀ (n : Nat) (u4 : Int32) (σ : ab_F), g_X7_readLevel_L39 4 rc p1 p2 p3 K n u4 σ = some res → ab_E mX7_readLevel (n0 + 9) sc 39 [some (.ref 17), some (.int p1), some (.int p2), some (.int p3), some (.int u4), none] [] (σ, (some 9, some 4)) (fun v S => v = some (.int (ab_b res.1)) ∧ S = (res.2, (some 9, some 4))) := by
  intro n
  induction n with
  | zero =>
    intro u4 σ h
    rw [g_X7_readLevel_L39] at h
    cases h
  | succ n ih =>
    intro u4 σ h
    rw [g_X7_readLevel_L39] at h
    refine z_iload (pc2 := 41) rfl dX7_readLevel_39 rfl ?_
    refine z_iload_n (pc2 := 42) rfl dX7_readLevel_41 rfl ?_
    refine z_icmp_ge (pc2 := 45) (tgt := 98) rfl dX7_readLevel_42 (by decide) (fun hc5 => ?_) (fun hc5 => ?_)
    · replace h := ab_pos hc5 h
      refine z_fgt [false, false, false, false, false, false] (L2 := [none, none, none, none, none, none]) rfl ?_
      exact hK  _ h
    · replace h := ab_neg hc5 h
      refine z_aload_n (pc2 := 46) rfl dX7_readLevel_45 rfl ?_
      obtain ⟨q6, hq6, h⟩ := ab_bnd h
      refine z_callVi 17 [] [some (.ref 17)] (pc2 := 49) rfl rfl dX7_readLevel_46 ok_X7_next ⟨fun _ => rfl, fun _ => Nat.le_of_ble_eq_true rfl⟩ (Nat.ble_eq_true_of_le (by omega)) rv_17 wd_544 wd_546 wd_4 rfl (e_X7_next_4 hq6) ?_
      obtain ⟨q7, hq7, h⟩ := ab_bnd h
      refine z_callSi [.int q6] [some (.int q6)] (pc2 := 52) rfl rfl dX7_readLevel_49 ok_X7_levelOf ⟨fun _ => rfl, fun _ => Nat.le_of_ble_eq_true rfl⟩ (Nat.ble_eq_true_of_le (by omega)) wd_642 wd_643 rfl (e_X7_levelOf hq7) ?_
      refine z_iload_n (pc2 := 53) rfl dX7_readLevel_52 rfl ?_
      refine z_icmp_ne (pc2 := 56) (tgt := 98) rfl dX7_readLevel_53 (by decide) (fun hc8 => ?_) (fun hc8 => ?_)
      · replace h := ab_neg hc8 h
        refine z_fgt [false, false, false, false, false, false] (L2 := [none, none, none, none, none, none]) rfl ?_
        exact hK  _ h
      · replace h := ab_pos hc8 h
        refine z_aload_n (pc2 := 57) rfl dX7_readLevel_56 rfl ?_
        obtain ⟨q9, hq9, h⟩ := ab_bnd h
        refine z_callVi 17 [] [some (.ref 17)] (pc2 := 60) rfl rfl dX7_readLevel_57 ok_X7_next ⟨fun _ => rfl, fun _ => Nat.le_of_ble_eq_true rfl⟩ (Nat.ble_eq_true_of_le (by omega)) rv_17 wd_544 wd_546 wd_4 rfl (e_X7_next_4 hq9) ?_
        refine z_istore (pc2 := 62) (L2 := [some (.ref 17), some (.int p1), some (.int p2), some (.int p3), some (.int u4), some (.int q9)]) rfl dX7_readLevel_60 (by decide) rfl rfl ?_
        refine z_aload_n (pc2 := 63) rfl dX7_readLevel_62 rfl ?_
        refine z_dup (pc2 := 64) rfl dX7_readLevel_63 rfl ?_
        refine z_getI 17 7 5 (pc2 := 67) rfl dX7_readLevel_64 rfl rfl ff_7_5 wd_126 ?_
        refine z_iconst (pc2 := 68) rfl dX7_readLevel_67 lt_i_1 ?_
        refine z_iadd (pc2 := 69) rfl dX7_readLevel_68 ?_
        refine z_putI 17 7 5 (pc2 := 72) (ft := .int) rfl dX7_readLevel_69 rfl rfl ff_7_5 wd_126 rfl (by decide +kernel) rfl rfl ?_
        obtain ⟨s10, hs10, h⟩ := ab_lt_e h
        refine z_tops hs10 ?_
        refine z_aload_n (pc2 := 73) rfl dX7_readLevel_72 rfl ?_
        refine z_iload_n (pc2 := 74) rfl dX7_readLevel_73 rfl ?_
        refine z_iconst (pc2 := 75) rfl dX7_readLevel_74 lt_i_1 ?_
        refine z_iadd (pc2 := 76) rfl dX7_readLevel_75 ?_
        refine z_iload_n (pc2 := 77) rfl dX7_readLevel_76 rfl ?_
        obtain ⟨q11, hq11, h⟩ := ab_bnd h
        refine z_callVi 17 [.int (p1 + (1 : Int32)), .int p2] [some (.ref 17), some (.int (p1 + (1 : Int32))), some (.int p2), none, none, none] (pc2 := 80) rfl rfl dX7_readLevel_77 ok_X7_readLevel ⟨fun _ => rfl, fun _ => Nat.le_of_ble_eq_true rfl⟩ (Nat.ble_eq_true_of_le (by omega)) rv_17 wd_536 wd_538 wd_2 rfl (ih_X7_readLevel _ _ _ _ hq11) ?_
        refine z_if_ne (pc2 := 83) (tgt := 85) rfl dX7_readLevel_80 (by decide) (fun hc12 => ?_) (fun hc12 => ?_)
        · replace h := ab_neg hc12 h
          refine z_aload_n (pc2 := 86) rfl dX7_readLevel_85 rfl ?_
          refine z_iload (pc2 := 88) rfl dX7_readLevel_86 rfl ?_
          refine z_ineg (pc2 := 89) rfl dX7_readLevel_88 ?_
          obtain ⟨q13, hq13, h⟩ := ab_bnd h
          refine z_callVv 17 [.int (-q9)] [some (.ref 17), some (.int (-q9))] (pc2 := 92) rfl rfl dX7_readLevel_89 ok_X7_step ⟨fun _ => rfl, fun _ => Nat.le_of_ble_eq_true rfl⟩ (Nat.ble_eq_true_of_le (by omega)) rv_17 wd_552 wd_554 wd_6 rfl (e_X7_step_4 hq13) ?_
          obtain ⟨x14, hxx14, h⟩ := ab_lt_e h
          refine z_iinc (pc2 := 95) (v := x14) (L2 := [some (.ref 17), some (.int p1), some (.int p2), some (.int p3), some (.int x14), some (.int q9)]) rfl dX7_readLevel_92 rfl (by rw [hxx14]; rfl) (by decide) rfl rfl ?_
          refine ab_goto (tgt := 39) dX7_readLevel_95 (by decide) ?_
          refine z_fgt [true, true, true, true, true, false] (L2 := [some (.ref 17), some (.int p1), some (.int p2), some (.int p3), some (.int x14), none]) rfl ?_
          exact ih _ _ h
        · replace h := ab_pos hc12 h
          refine z_iconst (pc2 := 84) rfl dX7_readLevel_83 lt_i_0 ?_
          exact z_iret dX7_readLevel_84 rfl rfl (fz_w rfl h)
set_option maxRecDepth 100000 in
set_option maxHeartbeats 4000000 in
theorem eg_X7_readLevel_4 {sc : Nat × (Nat → Int32)} {n0 : Nat} {rc : Nat → Int32 → Int32 → ab_F → Option (Bool × ab_F)} (ih_X7_readLevel : ∀ (a1 : Int32) (a2 : Int32) (σ : ab_F) (res : (Bool × ab_F)), rc 0 a1 a2 σ = some res → ab_E mX7_readLevel (n0 + 8) sc 0 [some (.ref 17), some (.int a1), some (.int a2), none, none, none] [] (σ, (some 9, some 4)) (fun v S => v = some (.int (ab_b res.1)) ∧ S = (res.2, (some 9, some 4)))) (ih_X7_readUnit : ∀ (a1 : Int32) (z0 : Int32) (σ : ab_F) (res : (Bool × ab_F)), rc 1 a1 z0 σ = some res → ab_E mX7_readUnit (n0 + 8) sc 0 [some (.ref 17), some (.int a1), none, none, none] [] (σ, (some 9, some 4)) (fun v S => v = some (.int (ab_b res.1)) ∧ S = (res.2, (some 9, some 4)))) (ih_X7_readBracket : ∀ (a1 : Int32) (z0 : Int32) (σ : ab_F) (res : (Bool × ab_F)), rc 2 a1 z0 σ = some res → ab_E mX7_readBracket (n0 + 8) sc 0 [some (.ref 17), some (.int a1)] [] (σ, (some 9, some 4)) (fun v S => v = some (.int (ab_b res.1)) ∧ S = (res.2, (some 9, some 4)))) {a1 : Int32} {a2 : Int32} {σ : ab_F} {res : (Bool × ab_F)} (h : g_X7_readLevel 4 rc a1 a2 σ = some res) : ab_E mX7_readLevel (n0 + 9) sc 0 [some (.ref 17), some (.int a1), some (.int a2), none, none, none] [] (σ, (some 9, some 4)) (fun v S => v = some (.int (ab_b res.1)) ∧ S = (res.2, (some 9, some 4))) := by
  unfold g_X7_readLevel at h
  refine z_iload_n (pc2 := 1) rfl dX7_readLevel_0 rfl ?_
  refine z_iconst (pc2 := 2) rfl dX7_readLevel_1 lt_i_5 ?_
  refine z_icmp_lt (pc2 := 5) (tgt := 11) rfl dX7_readLevel_2 (by decide) (fun hc1 => ?_) (fun hc1 => ?_)
  · replace h := ab_pos hc1 h
    refine z_aload_n (pc2 := 12) rfl dX7_readLevel_11 rfl ?_
    refine z_iload_n (pc2 := 13) rfl dX7_readLevel_12 rfl ?_
    refine z_iconst (pc2 := 14) rfl dX7_readLevel_13 lt_i_1 ?_
    refine z_iadd (pc2 := 15) rfl dX7_readLevel_14 ?_
    refine z_iload_n (pc2 := 16) rfl dX7_readLevel_15 rfl ?_
    obtain ⟨q2, hq2, h⟩ := ab_bnd h
    refine z_callVi 17 [.int (a1 + (1 : Int32)), .int a2] [some (.ref 17), some (.int (a1 + (1 : Int32))), some (.int a2), none, none, none] (pc2 := 19) rfl rfl dX7_readLevel_16 ok_X7_readLevel ⟨fun _ => rfl, fun _ => Nat.le_of_ble_eq_true rfl⟩ (Nat.ble_eq_true_of_le (by omega)) rv_17 wd_536 wd_538 wd_2 rfl (ih_X7_readLevel _ _ _ _ hq2) ?_
    refine z_if_ne (pc2 := 22) (tgt := 24) rfl dX7_readLevel_19 (by decide) (fun hc3 => ?_) (fun hc3 => ?_)
    · replace h := ab_neg hc3 h
      refine z_iload_n (pc2 := 25) rfl dX7_readLevel_24 rfl ?_
      refine z_iconst (pc2 := 26) rfl dX7_readLevel_25 lt_i_2 ?_
      refine z_icmp_ne (pc2 := 29) (tgt := 33) rfl dX7_readLevel_26 (by decide) (fun hc4 => ?_) (fun hc4 => ?_)
      · replace h := ab_neg hc4 h
        refine z_bipush (pc2 := 35) rfl dX7_readLevel_33 lt_b_60 ?_
        refine z_istore_n (pc2 := 36) (L2 := [some (.ref 17), some (.int a1), some (.int a2), some (.int (60 : Int32)), none, none]) rfl dX7_readLevel_35 (by decide) rfl rfl ?_
        refine z_iconst (pc2 := 37) rfl dX7_readLevel_36 lt_i_0 ?_
        refine z_istore (pc2 := 39) (L2 := [some (.ref 17), some (.int a1), some (.int a2), some (.int (60 : Int32)), some (.int (0 : Int32)), none]) rfl dX7_readLevel_37 (by decide) rfl rfl ?_
        refine z_fgt [true, true, true, true, true, false] (L2 := [some (.ref 17), some (.int a1), some (.int a2), some (.int (60 : Int32)), some (.int (0 : Int32)), none]) rfl ?_
        refine eg_X7_readLevel_4_L39 ih_X7_readLevel ih_X7_readUnit ih_X7_readBracket (fun s15 h => ?_) _ _ _ h
        refine z_iconst (pc2 := 99) rfl dX7_readLevel_98 lt_i_1 ?_
        exact z_iret dX7_readLevel_99 rfl rfl (fz_w rfl h)
      · replace h := ab_pos hc4 h
        refine z_iconst (pc2 := 30) rfl dX7_readLevel_29 lt_i_1 ?_
        refine ab_goto (tgt := 35) dX7_readLevel_30 (by decide) ?_
        refine z_istore_n (pc2 := 36) (L2 := [some (.ref 17), some (.int a1), some (.int a2), some (.int (1 : Int32)), none, none]) rfl dX7_readLevel_35 (by decide) rfl rfl ?_
        refine z_iconst (pc2 := 37) rfl dX7_readLevel_36 lt_i_0 ?_
        refine z_istore (pc2 := 39) (L2 := [some (.ref 17), some (.int a1), some (.int a2), some (.int (1 : Int32)), some (.int (0 : Int32)), none]) rfl dX7_readLevel_37 (by decide) rfl rfl ?_
        refine z_fgt [true, true, true, true, true, false] (L2 := [some (.ref 17), some (.int a1), some (.int a2), some (.int (1 : Int32)), some (.int (0 : Int32)), none]) rfl ?_
        refine eg_X7_readLevel_4_L39 ih_X7_readLevel ih_X7_readUnit ih_X7_readBracket (fun s16 h => ?_) _ _ _ h
        refine z_iconst (pc2 := 99) rfl dX7_readLevel_98 lt_i_1 ?_
        exact z_iret dX7_readLevel_99 rfl rfl (fz_w rfl h)
    · replace h := ab_pos hc3 h
      refine z_iconst (pc2 := 23) rfl dX7_readLevel_22 lt_i_0 ?_
      exact z_iret dX7_readLevel_23 rfl rfl (fz_w rfl h)
  · replace h := ab_neg hc1 h
    refine z_aload_n (pc2 := 6) rfl dX7_readLevel_5 rfl ?_
    refine z_iload_n (pc2 := 7) rfl dX7_readLevel_6 rfl ?_
    obtain ⟨q17, hq17, h⟩ := ab_bnd h
    refine z_callVi 17 [.int a2] [some (.ref 17), some (.int a2), none, none, none] (pc2 := 10) rfl rfl dX7_readLevel_7 ok_X7_readUnit ⟨fun _ => rfl, fun _ => Nat.le_of_ble_eq_true rfl⟩ (Nat.ble_eq_true_of_le (by omega)) rv_17 wd_540 wd_542 wd_3 rfl (ih_X7_readUnit _ _ _ _ hq17) ?_
    exact z_iret dX7_readLevel_10 rfl (ab_b_n _) (fz_w rfl h)
set_option maxRecDepth 100000 in
set_option maxHeartbeats 4000000 in
theorem eg_X7_readUnit_4 {sc : Nat × (Nat → Int32)} {n0 : Nat} {rc : Nat → Int32 → Int32 → ab_F → Option (Bool × ab_F)} (ih_X7_readLevel : ∀ (a1 : Int32) (a2 : Int32) (σ : ab_F) (res : (Bool × ab_F)), rc 0 a1 a2 σ = some res → ab_E mX7_readLevel (n0 + 8) sc 0 [some (.ref 17), some (.int a1), some (.int a2), none, none, none] [] (σ, (some 9, some 4)) (fun v S => v = some (.int (ab_b res.1)) ∧ S = (res.2, (some 9, some 4)))) (ih_X7_readUnit : ∀ (a1 : Int32) (z0 : Int32) (σ : ab_F) (res : (Bool × ab_F)), rc 1 a1 z0 σ = some res → ab_E mX7_readUnit (n0 + 8) sc 0 [some (.ref 17), some (.int a1), none, none, none] [] (σ, (some 9, some 4)) (fun v S => v = some (.int (ab_b res.1)) ∧ S = (res.2, (some 9, some 4)))) (ih_X7_readBracket : ∀ (a1 : Int32) (z0 : Int32) (σ : ab_F) (res : (Bool × ab_F)), rc 2 a1 z0 σ = some res → ab_E mX7_readBracket (n0 + 8) sc 0 [some (.ref 17), some (.int a1)] [] (σ, (some 9, some 4)) (fun v S => v = some (.int (ab_b res.1)) ∧ S = (res.2, (some 9, some 4)))) {a1 : Int32} {σ : ab_F} {res : (Bool × ab_F)} (h : g_X7_readUnit 4 rc a1 σ = some res) : ab_E mX7_readUnit (n0 + 9) sc 0 [some (.ref 17), some (.int a1), none, none, none] [] (σ, (some 9, some 4)) (fun v S => v = some (.int (ab_b res.1)) ∧ S = (res.2, (some 9, some 4))) := by
  unfold g_X7_readUnit at h
  refine z_aload_n (pc2 := 1) rfl dX7_readUnit_0 rfl ?_
  obtain ⟨q1, hq1, h⟩ := ab_bnd h
  refine z_callVi 17 [] [some (.ref 17)] (pc2 := 4) rfl rfl dX7_readUnit_1 ok_X7_next ⟨fun _ => rfl, fun _ => Nat.le_of_ble_eq_true rfl⟩ (Nat.ble_eq_true_of_le (by omega)) rv_17 wd_544 wd_546 wd_4 rfl (e_X7_next_4 hq1) ?_
  refine z_istore_n (pc2 := 5) (L2 := [some (.ref 17), some (.int a1), some (.int q1), none, none]) rfl dX7_readUnit_4 (by decide) rfl rfl ?_
  refine z_iload_n (pc2 := 6) rfl dX7_readUnit_5 rfl ?_
  refine z_bipush (pc2 := 8) rfl dX7_readUnit_6 lt_b_48 ?_
  refine z_icmp_lt (pc2 := 11) (tgt := 23) rfl dX7_readUnit_8 (by decide) (fun hc2 => ?_) (fun hc2 => ?_)
  · replace h := ab_pos hc2 h
    refine z_iload_n (pc2 := 24) rfl dX7_readUnit_23 rfl ?_
    refine z_if_ge (pc2 := 27) (tgt := 31) rfl dX7_readUnit_24 (by decide) (fun hc3 => ?_) (fun hc3 => ?_)
    · replace h := ab_pos hc3 h
      refine z_aload_n (pc2 := 32) rfl dX7_readUnit_31 rfl ?_
      refine z_getR 17 7 4 4 (pc2 := 35) rfl dX7_readUnit_32 rfl rfl ff_7_4 wd_125 rfl ?_
      refine z_iload_n (pc2 := 36) rfl dX7_readUnit_35 rfl ?_
      refine z_i2c (pc2 := 37) rfl dX7_readUnit_36 ?_
      obtain ⟨q4, hq4, h⟩ := ab_bnd h
      refine z_callVi 4 [.int ((q1).toUInt32 % 65536).toInt32] [some (.ref 4), some (.int ((q1).toUInt32 % 65536).toInt32)] (pc2 := 40) rfl rfl dX7_readUnit_37 ok_J0_indexOf_0f7a4 ⟨fun _ => rfl, fun _ => Nat.le_of_ble_eq_true rfl⟩ (Nat.ble_eq_true_of_le (by omega)) rv_4 wd_556 wd_557 wd_558 rfl (e_J0_indexOf_0f7a4_4 hq4) ?_
      refine z_istore_n (pc2 := 41) (L2 := [some (.ref 17), some (.int a1), some (.int q1), some (.int q4), none]) rfl dX7_readUnit_40 (by decide) rfl rfl ?_
      refine z_iload_n (pc2 := 42) rfl dX7_readUnit_41 rfl ?_
      refine z_if_lt (pc2 := 45) (tgt := 64) rfl dX7_readUnit_42 (by decide) (fun hc5 => ?_) (fun hc5 => ?_)
      · replace h := ab_pos hc5 h
        refine z_iload_n (pc2 := 65) rfl dX7_readUnit_64 rfl ?_
        refine z_iconst (pc2 := 66) rfl dX7_readUnit_65 lt_i_5 ?_
        refine z_icmp_lt (pc2 := 69) (tgt := 71) rfl dX7_readUnit_66 (by decide) (fun hc6 => ?_) (fun hc6 => ?_)
        · replace h := ab_pos hc6 h
          refine z_iload_n (pc2 := 72) rfl dX7_readUnit_71 rfl ?_
          refine z_bipush (pc2 := 74) rfl dX7_readUnit_72 lt_b_33 ?_
          refine z_icmp_ne (pc2 := 77) (tgt := 105) rfl dX7_readUnit_74 (by decide) (fun hc7 => ?_) (fun hc7 => ?_)
          · replace h := ab_neg hc7 h
            refine z_iload_n (pc2 := 106) rfl dX7_readUnit_105 rfl ?_
            refine z_bipush (pc2 := 108) rfl dX7_readUnit_106 lt_b_40 ?_
            refine z_icmp_ne (pc2 := 111) (tgt := 125) rfl dX7_readUnit_108 (by decide) (fun hc8 => ?_) (fun hc8 => ?_)
            · replace h := ab_neg hc8 h
              refine z_iconst (pc2 := 126) rfl dX7_readUnit_125 lt_i_0 ?_
              exact z_iret dX7_readUnit_126 rfl rfl (fz_w rfl h)
            · replace h := ab_pos hc8 h
              refine z_aload_n (pc2 := 112) rfl dX7_readUnit_111 rfl ?_
              refine z_iload_n (pc2 := 113) rfl dX7_readUnit_112 rfl ?_
              refine z_iconst (pc2 := 114) rfl dX7_readUnit_113 lt_i_1 ?_
              refine z_iadd (pc2 := 115) rfl dX7_readUnit_114 ?_
              obtain ⟨q9, hq9, h⟩ := ab_bnd h
              refine z_callVi 17 [.int (a1 + (1 : Int32))] [some (.ref 17), some (.int (a1 + (1 : Int32)))] (pc2 := 118) rfl rfl dX7_readUnit_115 ok_X7_readBracket ⟨fun _ => rfl, fun _ => Nat.le_of_ble_eq_true rfl⟩ (Nat.ble_eq_true_of_le (by omega)) rv_17 wd_638 wd_640 wd_7 rfl (ih_X7_readBracket _ _ _ _ hq9) ?_
              refine z_if_eq (pc2 := 121) (tgt := 125) rfl dX7_readUnit_118 (by decide) (fun hc10 => ?_) (fun hc10 => ?_)
              · replace h := ab_pos hc10 h
                refine z_iconst (pc2 := 126) rfl dX7_readUnit_125 lt_i_0 ?_
                exact z_iret dX7_readUnit_126 rfl rfl (fz_w rfl h)
              · replace h := ab_neg hc10 h
                refine z_iconst (pc2 := 122) rfl dX7_readUnit_121 lt_i_1 ?_
                refine ab_goto (tgt := 126) dX7_readUnit_122 (by decide) ?_
                exact z_iret dX7_readUnit_126 rfl rfl (fz_w rfl h)
          · replace h := ab_pos hc7 h
            refine z_aload_n (pc2 := 78) rfl dX7_readUnit_77 rfl ?_
            refine z_dup (pc2 := 79) rfl dX7_readUnit_78 rfl ?_
            refine z_getI 17 7 5 (pc2 := 82) rfl dX7_readUnit_79 rfl rfl ff_7_5 wd_126 ?_
            refine z_iconst (pc2 := 83) rfl dX7_readUnit_82 lt_i_1 ?_
            refine z_iadd (pc2 := 84) rfl dX7_readUnit_83 ?_
            refine z_putI 17 7 5 (pc2 := 87) (ft := .int) rfl dX7_readUnit_84 rfl rfl ff_7_5 wd_126 rfl (by decide +kernel) rfl rfl ?_
            obtain ⟨s11, hs11, h⟩ := ab_lt_e h
            refine z_tops hs11 ?_
            refine z_aload_n (pc2 := 88) rfl dX7_readUnit_87 rfl ?_
            refine z_iload_n (pc2 := 89) rfl dX7_readUnit_88 rfl ?_
            refine z_iconst (pc2 := 90) rfl dX7_readUnit_89 lt_i_1 ?_
            refine z_iadd (pc2 := 91) rfl dX7_readUnit_90 ?_
            obtain ⟨q12, hq12, h⟩ := ab_bnd h
            refine z_callVi 17 [.int (a1 + (1 : Int32))] [some (.ref 17), some (.int (a1 + (1 : Int32))), none, none, none] (pc2 := 94) rfl rfl dX7_readUnit_91 ok_X7_readUnit ⟨fun _ => rfl, fun _ => Nat.le_of_ble_eq_true rfl⟩ (Nat.ble_eq_true_of_le (by omega)) rv_17 wd_540 wd_542 wd_3 rfl (ih_X7_readUnit _ _ _ _ hq12) ?_
            refine z_istore (pc2 := 96) (L2 := [some (.ref 17), some (.int a1), some (.int q1), some (.int q4), some (.int (ab_b q12.1))]) rfl dX7_readUnit_94 (by decide) rfl rfl ?_
            refine z_aload_n (pc2 := 97) rfl dX7_readUnit_96 rfl ?_
            refine z_bipush (pc2 := 99) rfl dX7_readUnit_97 lt_b_m33 ?_
            obtain ⟨q13, hq13, h⟩ := ab_bnd h
            refine z_callVv 17 [.int (-33 : Int32)] [some (.ref 17), some (.int (-33 : Int32))] (pc2 := 102) rfl rfl dX7_readUnit_99 ok_X7_step ⟨fun _ => rfl, fun _ => Nat.le_of_ble_eq_true rfl⟩ (Nat.ble_eq_true_of_le (by omega)) rv_17 wd_552 wd_554 wd_6 rfl (e_X7_step_4 hq13) ?_
            refine z_iload (pc2 := 104) rfl dX7_readUnit_102 rfl ?_
            exact z_iret dX7_readUnit_104 rfl (ab_b_n _) (fz_w rfl h)
        · replace h := ab_neg hc6 h
          refine z_iconst (pc2 := 70) rfl dX7_readUnit_69 lt_i_0 ?_
          exact z_iret dX7_readUnit_70 rfl rfl (fz_w rfl h)
      · replace h := ab_neg hc5 h
        refine z_aload_n (pc2 := 46) rfl dX7_readUnit_45 rfl ?_
        refine z_dup (pc2 := 47) rfl dX7_readUnit_46 rfl ?_
        refine z_getI 17 7 5 (pc2 := 50) rfl dX7_readUnit_47 rfl rfl ff_7_5 wd_126 ?_
        refine z_iconst (pc2 := 51) rfl dX7_readUnit_50 lt_i_1 ?_
        refine z_iadd (pc2 := 52) rfl dX7_readUnit_51 ?_
        refine z_putI 17 7 5 (pc2 := 55) (ft := .int) rfl dX7_readUnit_52 rfl rfl ff_7_5 wd_126 rfl (by decide +kernel) rfl rfl ?_
        obtain ⟨s14, hs14, h⟩ := ab_lt_e h
        refine z_tops hs14 ?_
        refine z_aload_n (pc2 := 56) rfl dX7_readUnit_55 rfl ?_
        refine z_iconst (pc2 := 57) rfl dX7_readUnit_56 lt_i_m1 ?_
        refine z_iload_n (pc2 := 58) rfl dX7_readUnit_57 rfl ?_
        refine z_isub (pc2 := 59) rfl dX7_readUnit_58 ?_
        obtain ⟨q15, hq15, h⟩ := ab_bnd h
        refine z_callVv 17 [.int ((-1 : Int32) - q4)] [some (.ref 17), some (.int ((-1 : Int32) - q4))] (pc2 := 62) rfl rfl dX7_readUnit_59 ok_X7_step ⟨fun _ => rfl, fun _ => Nat.le_of_ble_eq_true rfl⟩ (Nat.ble_eq_true_of_le (by omega)) rv_17 wd_552 wd_554 wd_6 rfl (e_X7_step_4 hq15) ?_
        refine z_iconst (pc2 := 63) rfl dX7_readUnit_62 lt_i_1 ?_
        exact z_iret dX7_readUnit_63 rfl rfl (fz_w rfl h)
    · replace h := ab_neg hc3 h
      refine z_iconst (pc2 := 28) rfl dX7_readUnit_27 lt_i_m1 ?_
      refine ab_goto (tgt := 40) dX7_readUnit_28 (by decide) ?_
      refine z_istore_n (pc2 := 41) (L2 := [some (.ref 17), some (.int a1), some (.int q1), some (.int (-1 : Int32)), none]) rfl dX7_readUnit_40 (by decide) rfl rfl ?_
      refine z_iload_n (pc2 := 42) rfl dX7_readUnit_41 rfl ?_
      refine z_if_lt (pc2 := 45) (tgt := 64) rfl dX7_readUnit_42 (by decide) (fun hc => ?_) (fun hc => ?_)
      · refine z_iload_n (pc2 := 65) rfl dX7_readUnit_64 rfl ?_
        refine z_iconst (pc2 := 66) rfl dX7_readUnit_65 lt_i_5 ?_
        refine z_icmp_lt (pc2 := 69) (tgt := 71) rfl dX7_readUnit_66 (by decide) (fun hc16 => ?_) (fun hc16 => ?_)
        · replace h := ab_pos hc16 h
          refine z_iload_n (pc2 := 72) rfl dX7_readUnit_71 rfl ?_
          refine z_bipush (pc2 := 74) rfl dX7_readUnit_72 lt_b_33 ?_
          refine z_icmp_ne (pc2 := 77) (tgt := 105) rfl dX7_readUnit_74 (by decide) (fun hc17 => ?_) (fun hc17 => ?_)
          · replace h := ab_neg hc17 h
            refine z_iload_n (pc2 := 106) rfl dX7_readUnit_105 rfl ?_
            refine z_bipush (pc2 := 108) rfl dX7_readUnit_106 lt_b_40 ?_
            refine z_icmp_ne (pc2 := 111) (tgt := 125) rfl dX7_readUnit_108 (by decide) (fun hc18 => ?_) (fun hc18 => ?_)
            · replace h := ab_neg hc18 h
              refine z_iconst (pc2 := 126) rfl dX7_readUnit_125 lt_i_0 ?_
              exact z_iret dX7_readUnit_126 rfl rfl (fz_w rfl h)
            · replace h := ab_pos hc18 h
              refine z_aload_n (pc2 := 112) rfl dX7_readUnit_111 rfl ?_
              refine z_iload_n (pc2 := 113) rfl dX7_readUnit_112 rfl ?_
              refine z_iconst (pc2 := 114) rfl dX7_readUnit_113 lt_i_1 ?_
              refine z_iadd (pc2 := 115) rfl dX7_readUnit_114 ?_
              obtain ⟨q19, hq19, h⟩ := ab_bnd h
              refine z_callVi 17 [.int (a1 + (1 : Int32))] [some (.ref 17), some (.int (a1 + (1 : Int32)))] (pc2 := 118) rfl rfl dX7_readUnit_115 ok_X7_readBracket ⟨fun _ => rfl, fun _ => Nat.le_of_ble_eq_true rfl⟩ (Nat.ble_eq_true_of_le (by omega)) rv_17 wd_638 wd_640 wd_7 rfl (ih_X7_readBracket _ _ _ _ hq19) ?_
              refine z_if_eq (pc2 := 121) (tgt := 125) rfl dX7_readUnit_118 (by decide) (fun hc20 => ?_) (fun hc20 => ?_)
              · replace h := ab_pos hc20 h
                refine z_iconst (pc2 := 126) rfl dX7_readUnit_125 lt_i_0 ?_
                exact z_iret dX7_readUnit_126 rfl rfl (fz_w rfl h)
              · replace h := ab_neg hc20 h
                refine z_iconst (pc2 := 122) rfl dX7_readUnit_121 lt_i_1 ?_
                refine ab_goto (tgt := 126) dX7_readUnit_122 (by decide) ?_
                exact z_iret dX7_readUnit_126 rfl rfl (fz_w rfl h)
          · replace h := ab_pos hc17 h
            refine z_aload_n (pc2 := 78) rfl dX7_readUnit_77 rfl ?_
            refine z_dup (pc2 := 79) rfl dX7_readUnit_78 rfl ?_
            refine z_getI 17 7 5 (pc2 := 82) rfl dX7_readUnit_79 rfl rfl ff_7_5 wd_126 ?_
            refine z_iconst (pc2 := 83) rfl dX7_readUnit_82 lt_i_1 ?_
            refine z_iadd (pc2 := 84) rfl dX7_readUnit_83 ?_
            refine z_putI 17 7 5 (pc2 := 87) (ft := .int) rfl dX7_readUnit_84 rfl rfl ff_7_5 wd_126 rfl (by decide +kernel) rfl rfl ?_
            obtain ⟨s21, hs21, h⟩ := ab_lt_e h
            refine z_tops hs21 ?_
            refine z_aload_n (pc2 := 88) rfl dX7_readUnit_87 rfl ?_
            refine z_iload_n (pc2 := 89) rfl dX7_readUnit_88 rfl ?_
            refine z_iconst (pc2 := 90) rfl dX7_readUnit_89 lt_i_1 ?_
            refine z_iadd (pc2 := 91) rfl dX7_readUnit_90 ?_
            obtain ⟨q22, hq22, h⟩ := ab_bnd h
            refine z_callVi 17 [.int (a1 + (1 : Int32))] [some (.ref 17), some (.int (a1 + (1 : Int32))), none, none, none] (pc2 := 94) rfl rfl dX7_readUnit_91 ok_X7_readUnit ⟨fun _ => rfl, fun _ => Nat.le_of_ble_eq_true rfl⟩ (Nat.ble_eq_true_of_le (by omega)) rv_17 wd_540 wd_542 wd_3 rfl (ih_X7_readUnit _ _ _ _ hq22) ?_
            refine z_istore (pc2 := 96) (L2 := [some (.ref 17), some (.int a1), some (.int q1), some (.int (-1 : Int32)), some (.int (ab_b q22.1))]) rfl dX7_readUnit_94 (by decide) rfl rfl ?_
            refine z_aload_n (pc2 := 97) rfl dX7_readUnit_96 rfl ?_
            refine z_bipush (pc2 := 99) rfl dX7_readUnit_97 lt_b_m33 ?_
            obtain ⟨q23, hq23, h⟩ := ab_bnd h
            refine z_callVv 17 [.int (-33 : Int32)] [some (.ref 17), some (.int (-33 : Int32))] (pc2 := 102) rfl rfl dX7_readUnit_99 ok_X7_step ⟨fun _ => rfl, fun _ => Nat.le_of_ble_eq_true rfl⟩ (Nat.ble_eq_true_of_le (by omega)) rv_17 wd_552 wd_554 wd_6 rfl (e_X7_step_4 hq23) ?_
            refine z_iload (pc2 := 104) rfl dX7_readUnit_102 rfl ?_
            exact z_iret dX7_readUnit_104 rfl (ab_b_n _) (fz_w rfl h)
        · replace h := ab_neg hc16 h
          refine z_iconst (pc2 := 70) rfl dX7_readUnit_69 lt_i_0 ?_
          exact z_iret dX7_readUnit_70 rfl rfl (fz_w rfl h)
      · exact absurd hc (by decide)
  · replace h := ab_neg hc2 h
    refine z_iload_n (pc2 := 12) rfl dX7_readUnit_11 rfl ?_
    refine z_bipush (pc2 := 14) rfl dX7_readUnit_12 lt_b_57 ?_
    refine z_icmp_gt (pc2 := 17) (tgt := 23) rfl dX7_readUnit_14 (by decide) (fun hc24 => ?_) (fun hc24 => ?_)
    · replace h := ab_pos hc24 h
      refine z_iload_n (pc2 := 24) rfl dX7_readUnit_23 rfl ?_
      refine z_if_ge (pc2 := 27) (tgt := 31) rfl dX7_readUnit_24 (by decide) (fun hc25 => ?_) (fun hc25 => ?_)
      · replace h := ab_pos hc25 h
        refine z_aload_n (pc2 := 32) rfl dX7_readUnit_31 rfl ?_
        refine z_getR 17 7 4 4 (pc2 := 35) rfl dX7_readUnit_32 rfl rfl ff_7_4 wd_125 rfl ?_
        refine z_iload_n (pc2 := 36) rfl dX7_readUnit_35 rfl ?_
        refine z_i2c (pc2 := 37) rfl dX7_readUnit_36 ?_
        obtain ⟨q26, hq26, h⟩ := ab_bnd h
        refine z_callVi 4 [.int ((q1).toUInt32 % 65536).toInt32] [some (.ref 4), some (.int ((q1).toUInt32 % 65536).toInt32)] (pc2 := 40) rfl rfl dX7_readUnit_37 ok_J0_indexOf_0f7a4 ⟨fun _ => rfl, fun _ => Nat.le_of_ble_eq_true rfl⟩ (Nat.ble_eq_true_of_le (by omega)) rv_4 wd_556 wd_557 wd_558 rfl (e_J0_indexOf_0f7a4_4 hq26) ?_
        refine z_istore_n (pc2 := 41) (L2 := [some (.ref 17), some (.int a1), some (.int q1), some (.int q26), none]) rfl dX7_readUnit_40 (by decide) rfl rfl ?_
        refine z_iload_n (pc2 := 42) rfl dX7_readUnit_41 rfl ?_
        refine z_if_lt (pc2 := 45) (tgt := 64) rfl dX7_readUnit_42 (by decide) (fun hc27 => ?_) (fun hc27 => ?_)
        · replace h := ab_pos hc27 h
          refine z_iload_n (pc2 := 65) rfl dX7_readUnit_64 rfl ?_
          refine z_iconst (pc2 := 66) rfl dX7_readUnit_65 lt_i_5 ?_
          refine z_icmp_lt (pc2 := 69) (tgt := 71) rfl dX7_readUnit_66 (by decide) (fun hc28 => ?_) (fun hc28 => ?_)
          · replace h := ab_pos hc28 h
            refine z_iload_n (pc2 := 72) rfl dX7_readUnit_71 rfl ?_
            refine z_bipush (pc2 := 74) rfl dX7_readUnit_72 lt_b_33 ?_
            refine z_icmp_ne (pc2 := 77) (tgt := 105) rfl dX7_readUnit_74 (by decide) (fun hc29 => ?_) (fun hc29 => ?_)
            · replace h := ab_neg hc29 h
              refine z_iload_n (pc2 := 106) rfl dX7_readUnit_105 rfl ?_
              refine z_bipush (pc2 := 108) rfl dX7_readUnit_106 lt_b_40 ?_
              refine z_icmp_ne (pc2 := 111) (tgt := 125) rfl dX7_readUnit_108 (by decide) (fun hc30 => ?_) (fun hc30 => ?_)
              · replace h := ab_neg hc30 h
                refine z_iconst (pc2 := 126) rfl dX7_readUnit_125 lt_i_0 ?_
                exact z_iret dX7_readUnit_126 rfl rfl (fz_w rfl h)
              · replace h := ab_pos hc30 h
                refine z_aload_n (pc2 := 112) rfl dX7_readUnit_111 rfl ?_
                refine z_iload_n (pc2 := 113) rfl dX7_readUnit_112 rfl ?_
                refine z_iconst (pc2 := 114) rfl dX7_readUnit_113 lt_i_1 ?_
                refine z_iadd (pc2 := 115) rfl dX7_readUnit_114 ?_
                obtain ⟨q31, hq31, h⟩ := ab_bnd h
                refine z_callVi 17 [.int (a1 + (1 : Int32))] [some (.ref 17), some (.int (a1 + (1 : Int32)))] (pc2 := 118) rfl rfl dX7_readUnit_115 ok_X7_readBracket ⟨fun _ => rfl, fun _ => Nat.le_of_ble_eq_true rfl⟩ (Nat.ble_eq_true_of_le (by omega)) rv_17 wd_638 wd_640 wd_7 rfl (ih_X7_readBracket _ _ _ _ hq31) ?_
                refine z_if_eq (pc2 := 121) (tgt := 125) rfl dX7_readUnit_118 (by decide) (fun hc32 => ?_) (fun hc32 => ?_)
                · replace h := ab_pos hc32 h
                  refine z_iconst (pc2 := 126) rfl dX7_readUnit_125 lt_i_0 ?_
                  exact z_iret dX7_readUnit_126 rfl rfl (fz_w rfl h)
                · replace h := ab_neg hc32 h
                  refine z_iconst (pc2 := 122) rfl dX7_readUnit_121 lt_i_1 ?_
                  refine ab_goto (tgt := 126) dX7_readUnit_122 (by decide) ?_
                  exact z_iret dX7_readUnit_126 rfl rfl (fz_w rfl h)
            · replace h := ab_pos hc29 h
              refine z_aload_n (pc2 := 78) rfl dX7_readUnit_77 rfl ?_
              refine z_dup (pc2 := 79) rfl dX7_readUnit_78 rfl ?_
              refine z_getI 17 7 5 (pc2 := 82) rfl dX7_readUnit_79 rfl rfl ff_7_5 wd_126 ?_
              refine z_iconst (pc2 := 83) rfl dX7_readUnit_82 lt_i_1 ?_
              refine z_iadd (pc2 := 84) rfl dX7_readUnit_83 ?_
              refine z_putI 17 7 5 (pc2 := 87) (ft := .int) rfl dX7_readUnit_84 rfl rfl ff_7_5 wd_126 rfl (by decide +kernel) rfl rfl ?_
              obtain ⟨s33, hs33, h⟩ := ab_lt_e h
              refine z_tops hs33 ?_
              refine z_aload_n (pc2 := 88) rfl dX7_readUnit_87 rfl ?_
              refine z_iload_n (pc2 := 89) rfl dX7_readUnit_88 rfl ?_
              refine z_iconst (pc2 := 90) rfl dX7_readUnit_89 lt_i_1 ?_
              refine z_iadd (pc2 := 91) rfl dX7_readUnit_90 ?_
              obtain ⟨q34, hq34, h⟩ := ab_bnd h
              refine z_callVi 17 [.int (a1 + (1 : Int32))] [some (.ref 17), some (.int (a1 + (1 : Int32))), none, none, none] (pc2 := 94) rfl rfl dX7_readUnit_91 ok_X7_readUnit ⟨fun _ => rfl, fun _ => Nat.le_of_ble_eq_true rfl⟩ (Nat.ble_eq_true_of_le (by omega)) rv_17 wd_540 wd_542 wd_3 rfl (ih_X7_readUnit _ _ _ _ hq34) ?_
              refine z_istore (pc2 := 96) (L2 := [some (.ref 17), some (.int a1), some (.int q1), some (.int q26), some (.int (ab_b q34.1))]) rfl dX7_readUnit_94 (by decide) rfl rfl ?_
              refine z_aload_n (pc2 := 97) rfl dX7_readUnit_96 rfl ?_
              refine z_bipush (pc2 := 99) rfl dX7_readUnit_97 lt_b_m33 ?_
              obtain ⟨q35, hq35, h⟩ := ab_bnd h
              refine z_callVv 17 [.int (-33 : Int32)] [some (.ref 17), some (.int (-33 : Int32))] (pc2 := 102) rfl rfl dX7_readUnit_99 ok_X7_step ⟨fun _ => rfl, fun _ => Nat.le_of_ble_eq_true rfl⟩ (Nat.ble_eq_true_of_le (by omega)) rv_17 wd_552 wd_554 wd_6 rfl (e_X7_step_4 hq35) ?_
              refine z_iload (pc2 := 104) rfl dX7_readUnit_102 rfl ?_
              exact z_iret dX7_readUnit_104 rfl (ab_b_n _) (fz_w rfl h)
          · replace h := ab_neg hc28 h
            refine z_iconst (pc2 := 70) rfl dX7_readUnit_69 lt_i_0 ?_
            exact z_iret dX7_readUnit_70 rfl rfl (fz_w rfl h)
        · replace h := ab_neg hc27 h
          refine z_aload_n (pc2 := 46) rfl dX7_readUnit_45 rfl ?_
          refine z_dup (pc2 := 47) rfl dX7_readUnit_46 rfl ?_
          refine z_getI 17 7 5 (pc2 := 50) rfl dX7_readUnit_47 rfl rfl ff_7_5 wd_126 ?_
          refine z_iconst (pc2 := 51) rfl dX7_readUnit_50 lt_i_1 ?_
          refine z_iadd (pc2 := 52) rfl dX7_readUnit_51 ?_
          refine z_putI 17 7 5 (pc2 := 55) (ft := .int) rfl dX7_readUnit_52 rfl rfl ff_7_5 wd_126 rfl (by decide +kernel) rfl rfl ?_
          obtain ⟨s36, hs36, h⟩ := ab_lt_e h
          refine z_tops hs36 ?_
          refine z_aload_n (pc2 := 56) rfl dX7_readUnit_55 rfl ?_
          refine z_iconst (pc2 := 57) rfl dX7_readUnit_56 lt_i_m1 ?_
          refine z_iload_n (pc2 := 58) rfl dX7_readUnit_57 rfl ?_
          refine z_isub (pc2 := 59) rfl dX7_readUnit_58 ?_
          obtain ⟨q37, hq37, h⟩ := ab_bnd h
          refine z_callVv 17 [.int ((-1 : Int32) - q26)] [some (.ref 17), some (.int ((-1 : Int32) - q26))] (pc2 := 62) rfl rfl dX7_readUnit_59 ok_X7_step ⟨fun _ => rfl, fun _ => Nat.le_of_ble_eq_true rfl⟩ (Nat.ble_eq_true_of_le (by omega)) rv_17 wd_552 wd_554 wd_6 rfl (e_X7_step_4 hq37) ?_
          refine z_iconst (pc2 := 63) rfl dX7_readUnit_62 lt_i_1 ?_
          exact z_iret dX7_readUnit_63 rfl rfl (fz_w rfl h)
      · replace h := ab_neg hc25 h
        refine z_iconst (pc2 := 28) rfl dX7_readUnit_27 lt_i_m1 ?_
        refine ab_goto (tgt := 40) dX7_readUnit_28 (by decide) ?_
        refine z_istore_n (pc2 := 41) (L2 := [some (.ref 17), some (.int a1), some (.int q1), some (.int (-1 : Int32)), none]) rfl dX7_readUnit_40 (by decide) rfl rfl ?_
        refine z_iload_n (pc2 := 42) rfl dX7_readUnit_41 rfl ?_
        refine z_if_lt (pc2 := 45) (tgt := 64) rfl dX7_readUnit_42 (by decide) (fun hc => ?_) (fun hc => ?_)
        · refine z_iload_n (pc2 := 65) rfl dX7_readUnit_64 rfl ?_
          refine z_iconst (pc2 := 66) rfl dX7_readUnit_65 lt_i_5 ?_
          refine z_icmp_lt (pc2 := 69) (tgt := 71) rfl dX7_readUnit_66 (by decide) (fun hc38 => ?_) (fun hc38 => ?_)
          · replace h := ab_pos hc38 h
            refine z_iload_n (pc2 := 72) rfl dX7_readUnit_71 rfl ?_
            refine z_bipush (pc2 := 74) rfl dX7_readUnit_72 lt_b_33 ?_
            refine z_icmp_ne (pc2 := 77) (tgt := 105) rfl dX7_readUnit_74 (by decide) (fun hc39 => ?_) (fun hc39 => ?_)
            · replace h := ab_neg hc39 h
              refine z_iload_n (pc2 := 106) rfl dX7_readUnit_105 rfl ?_
              refine z_bipush (pc2 := 108) rfl dX7_readUnit_106 lt_b_40 ?_
              refine z_icmp_ne (pc2 := 111) (tgt := 125) rfl dX7_readUnit_108 (by decide) (fun hc40 => ?_) (fun hc40 => ?_)
              · replace h := ab_neg hc40 h
                refine z_iconst (pc2 := 126) rfl dX7_readUnit_125 lt_i_0 ?_
                exact z_iret dX7_readUnit_126 rfl rfl (fz_w rfl h)
              · replace h := ab_pos hc40 h
                refine z_aload_n (pc2 := 112) rfl dX7_readUnit_111 rfl ?_
                refine z_iload_n (pc2 := 113) rfl dX7_readUnit_112 rfl ?_
                refine z_iconst (pc2 := 114) rfl dX7_readUnit_113 lt_i_1 ?_
                refine z_iadd (pc2 := 115) rfl dX7_readUnit_114 ?_
                obtain ⟨q41, hq41, h⟩ := ab_bnd h
                refine z_callVi 17 [.int (a1 + (1 : Int32))] [some (.ref 17), some (.int (a1 + (1 : Int32)))] (pc2 := 118) rfl rfl dX7_readUnit_115 ok_X7_readBracket ⟨fun _ => rfl, fun _ => Nat.le_of_ble_eq_true rfl⟩ (Nat.ble_eq_true_of_le (by omega)) rv_17 wd_638 wd_640 wd_7 rfl (ih_X7_readBracket _ _ _ _ hq41) ?_
                refine z_if_eq (pc2 := 121) (tgt := 125) rfl dX7_readUnit_118 (by decide) (fun hc42 => ?_) (fun hc42 => ?_)
                · replace h := ab_pos hc42 h
                  refine z_iconst (pc2 := 126) rfl dX7_readUnit_125 lt_i_0 ?_
                  exact z_iret dX7_readUnit_126 rfl rfl (fz_w rfl h)
                · replace h := ab_neg hc42 h
                  refine z_iconst (pc2 := 122) rfl dX7_readUnit_121 lt_i_1 ?_
                  refine ab_goto (tgt := 126) dX7_readUnit_122 (by decide) ?_
                  exact z_iret dX7_readUnit_126 rfl rfl (fz_w rfl h)
            · replace h := ab_pos hc39 h
              refine z_aload_n (pc2 := 78) rfl dX7_readUnit_77 rfl ?_
              refine z_dup (pc2 := 79) rfl dX7_readUnit_78 rfl ?_
              refine z_getI 17 7 5 (pc2 := 82) rfl dX7_readUnit_79 rfl rfl ff_7_5 wd_126 ?_
              refine z_iconst (pc2 := 83) rfl dX7_readUnit_82 lt_i_1 ?_
              refine z_iadd (pc2 := 84) rfl dX7_readUnit_83 ?_
              refine z_putI 17 7 5 (pc2 := 87) (ft := .int) rfl dX7_readUnit_84 rfl rfl ff_7_5 wd_126 rfl (by decide +kernel) rfl rfl ?_
              obtain ⟨s43, hs43, h⟩ := ab_lt_e h
              refine z_tops hs43 ?_
              refine z_aload_n (pc2 := 88) rfl dX7_readUnit_87 rfl ?_
              refine z_iload_n (pc2 := 89) rfl dX7_readUnit_88 rfl ?_
              refine z_iconst (pc2 := 90) rfl dX7_readUnit_89 lt_i_1 ?_
              refine z_iadd (pc2 := 91) rfl dX7_readUnit_90 ?_
              obtain ⟨q44, hq44, h⟩ := ab_bnd h
              refine z_callVi 17 [.int (a1 + (1 : Int32))] [some (.ref 17), some (.int (a1 + (1 : Int32))), none, none, none] (pc2 := 94) rfl rfl dX7_readUnit_91 ok_X7_readUnit ⟨fun _ => rfl, fun _ => Nat.le_of_ble_eq_true rfl⟩ (Nat.ble_eq_true_of_le (by omega)) rv_17 wd_540 wd_542 wd_3 rfl (ih_X7_readUnit _ _ _ _ hq44) ?_
              refine z_istore (pc2 := 96) (L2 := [some (.ref 17), some (.int a1), some (.int q1), some (.int (-1 : Int32)), some (.int (ab_b q44.1))]) rfl dX7_readUnit_94 (by decide) rfl rfl ?_
              refine z_aload_n (pc2 := 97) rfl dX7_readUnit_96 rfl ?_
              refine z_bipush (pc2 := 99) rfl dX7_readUnit_97 lt_b_m33 ?_
              obtain ⟨q45, hq45, h⟩ := ab_bnd h
              refine z_callVv 17 [.int (-33 : Int32)] [some (.ref 17), some (.int (-33 : Int32))] (pc2 := 102) rfl rfl dX7_readUnit_99 ok_X7_step ⟨fun _ => rfl, fun _ => Nat.le_of_ble_eq_true rfl⟩ (Nat.ble_eq_true_of_le (by omega)) rv_17 wd_552 wd_554 wd_6 rfl (e_X7_step_4 hq45) ?_
              refine z_iload (pc2 := 104) rfl dX7_readUnit_102 rfl ?_
              exact z_iret dX7_readUnit_104 rfl (ab_b_n _) (fz_w rfl h)
          · replace h := ab_neg hc38 h
            refine z_iconst (pc2 := 70) rfl dX7_readUnit_69 lt_i_0 ?_
            exact z_iret dX7_readUnit_70 rfl rfl (fz_w rfl h)
        · exact absurd hc (by decide)
    · replace h := ab_neg hc24 h
      refine z_aload_n (pc2 := 18) rfl dX7_readUnit_17 rfl ?_
      obtain ⟨q46, hq46, h⟩ := ab_bnd h
      refine z_callVv 17 [] [some (.ref 17), none, none] (pc2 := 21) rfl rfl dX7_readUnit_18 ok_X7_readNumber ⟨fun _ => rfl, fun _ => Nat.le_of_ble_eq_true rfl⟩ (Nat.ble_eq_true_of_le (by omega)) rv_17 wd_548 wd_550 wd_5 rfl (e_X7_readNumber_4 hq46) ?_
      refine z_iconst (pc2 := 22) rfl dX7_readUnit_21 lt_i_1 ?_
      exact z_iret dX7_readUnit_22 rfl rfl (fz_w rfl h)
