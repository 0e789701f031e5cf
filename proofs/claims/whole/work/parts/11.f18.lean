def f_X7_copyFrom_61_32 (σ : ab_F) : Option ab_F := ab_lt (ab_u σ 61 0 (σ 32 0)) (fun (s1 : ab_F) => ab_ck (ab_cp (0 : Int32) (0 : Int32) (s1 61 0) 60 60) (ab_lt (ab_r s1 62 (va_cpy (s1 33) (s1 62) ((0 : Int32)).toNatClampNeg ((0 : Int32)).toNatClampNeg ((s1 61 0)).toNatClampNeg)) (fun (s3 : ab_F) => (some s3))))
set_option maxRecDepth 100000 in
set_option maxHeartbeats 4000000 in
theorem e_X7_copyFrom_61_32 {sc : Nat × (Nat → Int32)} {r : Option Nat × Option Nat} {σ : ab_F} {res : ab_F} (h : f_X7_copyFrom_61_32 σ = some res) : ab_E mX7_copyFrom 1 sc 0 [some (.ref 61), some (.ref 32)] [] (σ, r) (fun v S => v = none ∧ S = (res, r)) := by
  unfold f_X7_copyFrom_61_32 at h
  refine z_aload_n (pc2 := 1) rfl dX7_copyFrom_0 rfl ?_
  refine z_aload_n (pc2 := 2) rfl dX7_copyFrom_1 rfl ?_
  refine z_getI 32 7 0 (pc2 := 5) rfl dX7_copyFrom_2 rfl rfl ff_7_0 wd_119 ?_
  refine z_putI 61 7 0 (pc2 := 8) (ft := .int) rfl dX7_copyFrom_5 rfl rfl ff_7_0 wd_119 rfl (by decide +kernel) rfl rfl ?_
  obtain ⟨s1, hs1, h⟩ := ab_lt_e h
  refine z_tops hs1 ?_
  refine z_aload_n (pc2 := 9) rfl dX7_copyFrom_8 rfl ?_
  refine z_getR 32 7 1 33 (pc2 := 12) rfl dX7_copyFrom_9 rfl rfl ff_7_1 wd_122 rfl ?_
  refine z_iconst (pc2 := 13) rfl dX7_copyFrom_12 lt_i_0 ?_
  refine z_aload_n (pc2 := 14) rfl dX7_copyFrom_13 rfl ?_
  refine z_getR 61 7 1 62 (pc2 := 17) rfl dX7_copyFrom_14 rfl rfl ff_7_1 wd_122 rfl ?_
  refine z_iconst (pc2 := 18) rfl dX7_copyFrom_17 lt_i_0 ?_
  refine z_aload_n (pc2 := 19) rfl dX7_copyFrom_18 rfl ?_
  refine z_getI 61 7 0 (pc2 := 22) rfl dX7_copyFrom_19 rfl rfl ff_7_0 wd_119 ?_
  obtain ⟨hb2, h⟩ := ab_ck_e h
  refine z_acopy 33 62 (pc2 := 25) rfl dX7_copyFrom_22 rfl rfl rfl rfl wd_653 wd_655 wd_654 wd_82 hb2 rfl rfl ?_
  obtain ⟨s3, hs3, h⟩ := ab_lt_e h
  refine z_tops hs3 ?_
  exact z_vret dX7_copyFrom_25 rfl (fv_w h)
def f_X7_copyFrom_64_35 (σ : ab_F) : Option ab_F := ab_lt (ab_u σ 64 0 (σ 35 0)) (fun (s1 : ab_F) => ab_ck (ab_cp (0 : Int32) (0 : Int32) (s1 64 0) 60 60) (ab_lt (ab_r s1 65 (va_cpy (s1 36) (s1 65) ((0 : Int32)).toNatClampNeg ((0 : Int32)).toNatClampNeg ((s1 64 0)).toNatClampNeg)) (fun (s3 : ab_F) => (some s3))))
set_option maxRecDepth 100000 in
set_option maxHeartbeats 4000000 in
theorem e_X7_copyFrom_64_35 {sc : Nat × (Nat → Int32)} {r : Option Nat × Option Nat} {σ : ab_F} {res : ab_F} (h : f_X7_copyFrom_64_35 σ = some res) : ab_E mX7_copyFrom 1 sc 0 [some (.ref 64), some (.ref 35)] [] (σ, r) (fun v S => v = none ∧ S = (res, r)) := by
  unfold f_X7_copyFrom_64_35 at h
  refine z_aload_n (pc2 := 1) rfl dX7_copyFrom_0 rfl ?_
  refine z_aload_n (pc2 := 2) rfl dX7_copyFrom_1 rfl ?_
  refine z_getI 35 7 0 (pc2 := 5) rfl dX7_copyFrom_2 rfl rfl ff_7_0 wd_119 ?_
  refine z_putI 64 7 0 (pc2 := 8) (ft := .int) rfl dX7_copyFrom_5 rfl rfl ff_7_0 wd_119 rfl (by decide +kernel) rfl rfl ?_
  obtain ⟨s1, hs1, h⟩ := ab_lt_e h
  refine z_tops hs1 ?_
  refine z_aload_n (pc2 := 9) rfl dX7_copyFrom_8 rfl ?_
  refine z_getR 35 7 1 36 (pc2 := 12) rfl dX7_copyFrom_9 rfl rfl ff_7_1 wd_122 rfl ?_
  refine z_iconst (pc2 := 13) rfl dX7_copyFrom_12 lt_i_0 ?_
  refine z_aload_n (pc2 := 14) rfl dX7_copyFrom_13 rfl ?_
  refine z_getR 64 7 1 65 (pc2 := 17) rfl dX7_copyFrom_14 rfl rfl ff_7_1 wd_122 rfl ?_
  refine z_iconst (pc2 := 18) rfl dX7_copyFrom_17 lt_i_0 ?_
  refine z_aload_n (pc2 := 19) rfl dX7_copyFrom_18 rfl ?_
  refine z_getI 64 7 0 (pc2 := 22) rfl dX7_copyFrom_19 rfl rfl ff_7_0 wd_119 ?_
  obtain ⟨hb2, h⟩ := ab_ck_e h
  refine z_acopy 36 65 (pc2 := 25) rfl dX7_copyFrom_22 rfl rfl rfl rfl wd_653 wd_655 wd_654 wd_82 hb2 rfl rfl ?_
  obtain ⟨s3, hs3, h⟩ := ab_lt_e h
  refine z_tops hs3 ?_
  exact z_vret dX7_copyFrom_25 rfl (fv_w h)
def f_X9_copyTexts_60_38 (σ : ab_F) : Option ab_F := (f_X7_copyFrom_61_32 σ).bind (fun q1 => (f_X7_copyFrom_64_35 q1).bind (fun q2 => (some q2)))
set_option maxRecDepth 100000 in
set_option maxHeartbeats 4000000 in
theorem e_X9_copyTexts_60_38 {sc : Nat × (Nat → Int32)} {r : Option Nat × Option Nat} {σ : ab_F} {res : ab_F} (h : f_X9_copyTexts_60_38 σ = some res) : ab_E mX9_copyTexts 2 sc 0 [some (.ref 60), some (.ref 38)] [] (σ, r) (fun v S => v = none ∧ S = (res, r)) := by
  unfold f_X9_copyTexts_60_38 at h
  refine z_aload_n (pc2 := 1) rfl dX9_copyTexts_0 rfl ?_
  refine z_getR 60 9 1 61 (pc2 := 4) rfl dX9_copyTexts_1 rfl rfl ff_9_1 wd_230 rfl ?_
  refine z_aload_n (pc2 := 5) rfl dX9_copyTexts_4 rfl ?_
  refine z_getR 38 9 1 32 (pc2 := 8) rfl dX9_copyTexts_5 rfl rfl ff_9_1 wd_230 rfl ?_
  obtain ⟨q1, hq1, h⟩ := ab_bnd h
  refine z_callVv 61 [.ref 32] [some (.ref 61), some (.ref 32)] (pc2 := 11) rfl rfl dX9_copyTexts_8 ok_X7_copyFrom ⟨fun _ => rfl, fun _ => Nat.le_of_ble_eq_true rfl⟩ rfl rv_61 wd_936 wd_650 wd_651 rfl (e_X7_copyFrom_61_32 hq1) ?_
  refine z_aload_n (pc2 := 12) rfl dX9_copyTexts_11 rfl ?_
  refine z_getR 60 9 2 64 (pc2 := 15) rfl dX9_copyTexts_12 rfl rfl ff_9_2 wd_232 rfl ?_
  refine z_aload_n (pc2 := 16) rfl dX9_copyTexts_15 rfl ?_
  refine z_getR 38 9 2 35 (pc2 := 19) rfl dX9_copyTexts_16 rfl rfl ff_9_2 wd_232 rfl ?_
  obtain ⟨q2, hq2, h⟩ := ab_bnd h
  refine z_callVv 64 [.ref 35] [some (.ref 64), some (.ref 35)] (pc2 := 22) rfl rfl dX9_copyTexts_19 ok_X7_copyFrom ⟨fun _ => rfl, fun _ => Nat.le_of_ble_eq_true rfl⟩ rfl rv_64 wd_936 wd_650 wd_651 rfl (e_X7_copyFrom_64_35 hq2) ?_
  exact z_vret dX9_copyTexts_22 rfl (fv_w h)
def f_X6_copyFrom_11_9 (σ : ab_F) : Option ab_F := ab_lt (ab_u σ 11 1 (σ 9 1)) (fun (s1 : ab_F) => ab_ck (ab_cp (0 : Int32) (0 : Int32) (s1 11 1) 60 60) (ab_lt (ab_r s1 12 (va_cpy (s1 10) (s1 12) ((0 : Int32)).toNatClampNeg ((0 : Int32)).toNatClampNeg ((s1 11 1)).toNatClampNeg)) (fun (s3 : ab_F) => (some s3))))
set_option maxRecDepth 100000 in
set_option maxHeartbeats 4000000 in
theorem e_X6_copyFrom_11_9 {sc : Nat × (Nat → Int32)} {r : Option Nat × Option Nat} {σ : ab_F} {res : ab_F} (h : f_X6_copyFrom_11_9 σ = some res) : ab_E mX6_copyFrom 1 sc 0 [some (.ref 11), some (.ref 9)] [] (σ, r) (fun v S => v = none ∧ S = (res, r)) := by
  unfold f_X6_copyFrom_11_9 at h
  refine z_aload_n (pc2 := 1) rfl dX6_copyFrom_0 rfl ?_
  refine z_aload_n (pc2 := 2) rfl dX6_copyFrom_1 rfl ?_
  refine z_getI 9 6 1 (pc2 := 5) rfl dX6_copyFrom_2 rfl rfl ff_6_1 wd_100 ?_
  refine z_putI 11 6 1 (pc2 := 8) (ft := .int) rfl dX6_copyFrom_5 rfl rfl ff_6_1 wd_100 rfl (by decide +kernel) rfl rfl ?_
  obtain ⟨s1, hs1, h⟩ := ab_lt_e h
  refine z_tops hs1 ?_
  refine z_aload_n (pc2 := 9) rfl dX6_copyFrom_8 rfl ?_
  refine z_getR 9 6 0 10 (pc2 := 12) rfl dX6_copyFrom_9 rfl rfl ff_6_0 wd_97 rfl ?_
  refine z_iconst (pc2 := 13) rfl dX6_copyFrom_12 lt_i_0 ?_
  refine z_aload_n (pc2 := 14) rfl dX6_copyFrom_13 rfl ?_
  refine z_getR 11 6 0 12 (pc2 := 17) rfl dX6_copyFrom_14 rfl rfl ff_6_0 wd_97 rfl ?_
  refine z_iconst (pc2 := 18) rfl dX6_copyFrom_17 lt_i_0 ?_
  refine z_aload_n (pc2 := 19) rfl dX6_copyFrom_18 rfl ?_
  refine z_getI 11 6 1 (pc2 := 22) rfl dX6_copyFrom_19 rfl rfl ff_6_1 wd_100 ?_
  obtain ⟨hb2, h⟩ := ab_ck_e h
  refine z_acopy 10 12 (pc2 := 25) rfl dX6_copyFrom_22 rfl rfl rfl rfl wd_941 wd_655 wd_654 wd_82 hb2 rfl rfl ?_
  obtain ⟨s3, hs3, h⟩ := ab_lt_e h
  refine z_tops hs3 ?_
  exact z_vret dX6_copyFrom_25 rfl (fv_w h)
def f_X6_copyFrom_15_13 (σ : ab_F) : Option ab_F := ab_lt (ab_u σ 15 1 (σ 13 1)) (fun (s1 : ab_F) => ab_ck (ab_cp (0 : Int32) (0 : Int32) (s1 15 1) 24 24) (ab_lt (ab_r s1 16 (va_cpy (s1 14) (s1 16) ((0 : Int32)).toNatClampNeg ((0 : Int32)).toNatClampNeg ((s1 15 1)).toNatClampNeg)) (fun (s3 : ab_F) => (some s3))))
set_option maxRecDepth 100000 in
set_option maxHeartbeats 4000000 in
theorem e_X6_copyFrom_15_13 {sc : Nat × (Nat → Int32)} {r : Option Nat × Option Nat} {σ : ab_F} {res : ab_F} (h : f_X6_copyFrom_15_13 σ = some res) : ab_E mX6_copyFrom 1 sc 0 [some (.ref 15), some (.ref 13)] [] (σ, r) (fun v S => v = none ∧ S = (res, r)) := by
  unfold f_X6_copyFrom_15_13 at h
  refine z_aload_n (pc2 := 1) rfl dX6_copyFrom_0 rfl ?_
  refine z_aload_n (pc2 := 2) rfl dX6_copyFrom_1 rfl ?_
  refine z_getI 13 6 1 (pc2 := 5) rfl dX6_copyFrom_2 rfl rfl ff_6_1 wd_100 ?_
  refine z_putI 15 6 1 (pc2 := 8) (ft := .int) rfl dX6_copyFrom_5 rfl rfl ff_6_1 wd_100 rfl (by decide +kernel) rfl rfl ?_
  obtain ⟨s1, hs1, h⟩ := ab_lt_e h
  refine z_tops hs1 ?_
  refine z_aload_n (pc2 := 9) rfl dX6_copyFrom_8 rfl ?_
  refine z_getR 13 6 0 14 (pc2 := 12) rfl dX6_copyFrom_9 rfl rfl ff_6_0 wd_97 rfl ?_
  refine z_iconst (pc2 := 13) rfl dX6_copyFrom_12 lt_i_0 ?_
  refine z_aload_n (pc2 := 14) rfl dX6_copyFrom_13 rfl ?_
  refine z_getR 15 6 0 16 (pc2 := 17) rfl dX6_copyFrom_14 rfl rfl ff_6_0 wd_97 rfl ?_
  refine z_iconst (pc2 := 18) rfl dX6_copyFrom_17 lt_i_0 ?_
  refine z_aload_n (pc2 := 19) rfl dX6_copyFrom_18 rfl ?_
  refine z_getI 15 6 1 (pc2 := 22) rfl dX6_copyFrom_19 rfl rfl ff_6_1 wd_100 ?_
  obtain ⟨hb2, h⟩ := ab_ck_e h
  refine z_acopy 14 16 (pc2 := 25) rfl dX6_copyFrom_22 rfl rfl rfl rfl wd_941 wd_655 wd_654 wd_82 hb2 rfl rfl ?_
  obtain ⟨s3, hs3, h⟩ := ab_lt_e h
  refine z_tops hs3 ?_
  exact z_vret dX6_copyFrom_25 rfl (fv_w h)
def f_X11_image (σ : ab_F) : Option (Int32 × ab_F) := (f_X9_copyFrom_60_38 σ).bind (fun q1 => (f_X9_copyTexts_60_38 q1).bind (fun q2 => (f_X6_copyFrom_11_9 q2).bind (fun q3 => (f_X6_copyFrom_15_13 q3).bind (fun q4 => ab_lt (ab_u q4 8 11 ((q4 8 11) + (1 : Int32))) (fun (s5 : ab_F) => (some ((s5 8 11), s5)))))))
set_option maxRecDepth 100000 in
set_option maxHeartbeats 4000000 in
theorem e_X11_image {sc : Nat × (Nat → Int32)} {r : Option Nat × Option Nat} {σ : ab_F} {res : (Int32 × ab_F)} (h : f_X11_image σ = some res) : ab_E mX11_image 3 sc 0 [some (.ref 8)] [] (σ, r) (fun v S => v = some (.int res.1) ∧ S = (res.2, r)) := by
  unfold f_X11_image at h
  refine z_aload_n (pc2 := 1) rfl dX11_image_0 rfl ?_
  refine z_getR 8 11 2 60 (pc2 := 4) rfl dX11_image_1 rfl rfl ff_11_2 wd_304 rfl ?_
  refine z_aload_n (pc2 := 5) rfl dX11_image_4 rfl ?_
  refine z_getR 8 11 0 38 (pc2 := 8) rfl dX11_image_5 rfl rfl ff_11_0 wd_302 rfl ?_
  obtain ⟨q1, hq1, h⟩ := ab_bnd h
  refine z_callVv 60 [.ref 38] [some (.ref 60), some (.ref 38)] (pc2 := 11) rfl rfl dX11_image_8 ok_X9_copyFrom ⟨fun _ => rfl, fun _ => Nat.le_of_ble_eq_true rfl⟩ rfl rv_60 wd_734 wd_735 wd_736 rfl (e_X9_copyFrom_60_38 hq1) ?_
  refine z_aload_n (pc2 := 12) rfl dX11_image_11 rfl ?_
  refine z_getR 8 11 2 60 (pc2 := 15) rfl dX11_image_12 rfl rfl ff_11_2 wd_304 rfl ?_
  refine z_aload_n (pc2 := 16) rfl dX11_image_15 rfl ?_
  refine z_getR 8 11 0 38 (pc2 := 19) rfl dX11_image_16 rfl rfl ff_11_0 wd_302 rfl ?_
  obtain ⟨q2, hq2, h⟩ := ab_bnd h
  refine z_callVv 60 [.ref 38] [some (.ref 60), some (.ref 38)] (pc2 := 22) rfl rfl dX11_image_19 ok_X9_copyTexts ⟨fun _ => rfl, fun _ => Nat.le_of_ble_eq_true rfl⟩ rfl rv_60 wd_932 wd_933 wd_934 rfl (e_X9_copyTexts_60_38 hq2) ?_
  refine z_aload_n (pc2 := 23) rfl dX11_image_22 rfl ?_
  refine z_getR 8 11 4 11 (pc2 := 26) rfl dX11_image_23 rfl rfl ff_11_4 wd_306 rfl ?_
  refine z_aload_n (pc2 := 27) rfl dX11_image_26 rfl ?_
  refine z_getR 8 11 3 9 (pc2 := 30) rfl dX11_image_27 rfl rfl ff_11_3 wd_305 rfl ?_
  obtain ⟨q3, hq3, h⟩ := ab_bnd h
  refine z_callVv 11 [.ref 9] [some (.ref 11), some (.ref 9)] (pc2 := 33) rfl rfl dX11_image_30 ok_X6_copyFrom ⟨fun _ => rfl, fun _ => Nat.le_of_ble_eq_true rfl⟩ rfl rv_11 wd_937 wd_938 wd_939 rfl (e_X6_copyFrom_11_9 hq3) ?_
  refine z_aload_n (pc2 := 34) rfl dX11_image_33 rfl ?_
  refine z_getR 8 11 6 15 (pc2 := 37) rfl dX11_image_34 rfl rfl ff_11_6 wd_308 rfl ?_
  refine z_aload_n (pc2 := 38) rfl dX11_image_37 rfl ?_
  refine z_getR 8 11 5 13 (pc2 := 41) rfl dX11_image_38 rfl rfl ff_11_5 wd_307 rfl ?_
  obtain ⟨q4, hq4, h⟩ := ab_bnd h
  refine z_callVv 15 [.ref 13] [some (.ref 15), some (.ref 13)] (pc2 := 44) rfl rfl dX11_image_41 ok_X6_copyFrom ⟨fun _ => rfl, fun _ => Nat.le_of_ble_eq_true rfl⟩ rfl rv_15 wd_937 wd_938 wd_939 rfl (e_X6_copyFrom_15_13 hq4) ?_
  refine z_aload_n (pc2 := 45) rfl dX11_image_44 rfl ?_
  refine z_dup (pc2 := 46) rfl dX11_image_45 rfl ?_
  refine z_getI 8 11 11 (pc2 := 49) rfl dX11_image_46 rfl rfl ff_11_11 wd_313 ?_
  refine z_iconst (pc2 := 50) rfl dX11_image_49 lt_i_1 ?_
  refine z_iadd (pc2 := 51) rfl dX11_image_50 ?_
  refine z_putI 8 11 11 (pc2 := 54) (ft := .int) rfl dX11_image_51 rfl rfl ff_11_11 wd_313 rfl (by decide +kernel) rfl rfl ?_
  obtain ⟨s5, hs5, h⟩ := ab_lt_e h
  refine z_tops hs5 ?_
  refine z_aload_n (pc2 := 55) rfl dX11_image_54 rfl ?_
  refine z_getI 8 11 11 (pc2 := 58) rfl dX11_image_55 rfl rfl ff_11_11 wd_313 ?_
  exact z_iret dX11_image_58 rfl rfl (fi_w h)
def f_X9_copyFrom_38_60 (σ : ab_F) : Option ab_F := ab_lt (ab_u σ 38 3 (σ 60 3)) (fun (s1 : ab_F) => ab_lt (ab_u s1 38 4 (s1 60 4)) (fun (s2 : ab_F) => ab_lt (ab_u s2 38 5 (s2 60 5)) (fun (s3 : ab_F) => ab_lt (ab_u s3 38 11 (s3 60 11)) (fun (s4 : ab_F) => ab_ck (ab_cp (0 : Int32) (0 : Int32) (16 : Int32) 16 16) (ab_lt (ab_r s4 39 (va_cpy (s4 67) (s4 39) ((0 : Int32)).toNatClampNeg ((0 : Int32)).toNatClampNeg ((16 : Int32)).toNatClampNeg)) (fun (s6 : ab_F) => ab_ck (ab_cp (0 : Int32) (0 : Int32) (16 : Int32) 16 16) (ab_lt (ab_r s6 40 (va_cpy (s6 68) (s6 40) ((0 : Int32)).toNatClampNeg ((0 : Int32)).toNatClampNeg ((16 : Int32)).toNatClampNeg)) (fun (s8 : ab_F) => ab_ck (ab_cp (0 : Int32) (0 : Int32) (16 : Int32) 16 16) (ab_lt (ab_r s8 41 (va_cpy (s8 69) (s8 41) ((0 : Int32)).toNatClampNeg ((0 : Int32)).toNatClampNeg ((16 : Int32)).toNatClampNeg)) (fun (s10 : ab_F) => ab_ck (ab_cp (0 : Int32) (0 : Int32) (16 : Int32) 16 16) (ab_lt (ab_r s10 42 (va_cpy (s10 70) (s10 42) ((0 : Int32)).toNatClampNeg ((0 : Int32)).toNatClampNeg ((16 : Int32)).toNatClampNeg)) (fun (s12 : ab_F) => ab_ck (ab_cp (0 : Int32) (0 : Int32) (6 : Int32) 6 6) (ab_lt (ab_r s12 43 (va_cpy (s12 71) (s12 43) ((0 : Int32)).toNatClampNeg ((0 : Int32)).toNatClampNeg ((6 : Int32)).toNatClampNeg)) (fun (s14 : ab_F) => ab_ck (ab_cp (0 : Int32) (0 : Int32) (8 : Int32) 8 8) (ab_lt (ab_r s14 44 (va_cpy (s14 72) (s14 44) ((0 : Int32)).toNatClampNeg ((0 : Int32)).toNatClampNeg ((8 : Int32)).toNatClampNeg)) (fun (s16 : ab_F) => ab_ck (ab_cp (0 : Int32) (0 : Int32) (8 : Int32) 8 8) (ab_lt (ab_r s16 45 (va_cpy (s16 73) (s16 45) ((0 : Int32)).toNatClampNeg ((0 : Int32)).toNatClampNeg ((8 : Int32)).toNatClampNeg)) (fun (s18 : ab_F) => ab_ck (ab_cp (0 : Int32) (0 : Int32) (8 : Int32) 8 8) (ab_lt (ab_r s18 46 (va_cpy (s18 74) (s18 46) ((0 : Int32)).toNatClampNeg ((0 : Int32)).toNatClampNeg ((8 : Int32)).toNatClampNeg)) (fun (s20 : ab_F) => ab_ck (ab_cp (0 : Int32) (0 : Int32) (8 : Int32) 8 8) (ab_lt (ab_r s20 47 (va_cpy (s20 75) (s20 47) ((0 : Int32)).toNatClampNeg ((0 : Int32)).toNatClampNeg ((8 : Int32)).toNatClampNeg)) (fun (s22 : ab_F) => ab_ck (ab_cp (0 : Int32) (0 : Int32) (8 : Int32) 8 8) (ab_lt (ab_r s22 48 (va_cpy (s22 76) (s22 48) ((0 : Int32)).toNatClampNeg ((0 : Int32)).toNatClampNeg ((8 : Int32)).toNatClampNeg)) (fun (s24 : ab_F) => (some s24)))))))))))))))))))))))))
set_option maxRecDepth 100000 in
set_option maxHeartbeats 4000000 in
theorem e_X9_copyFrom_38_60 {sc : Nat × (Nat → Int32)} {r : Option Nat × Option Nat} {σ : ab_F} {res : ab_F} (h : f_X9_copyFrom_38_60 σ = some res) : ab_E mX9_copyFrom 1 sc 0 [some (.ref 38), some (.ref 60)] [] (σ, r) (fun v S => v = none ∧ S = (res, r)) := by
  unfold f_X9_copyFrom_38_60 at h
  refine z_aload_n (pc2 := 1) rfl dX9_copyFrom_0 rfl ?_
  refine z_aload_n (pc2 := 2) rfl dX9_copyFrom_1 rfl ?_
  refine z_getI 60 9 3 (pc2 := 5) rfl dX9_copyFrom_2 rfl rfl ff_9_3 wd_235 ?_
  refine z_putI 38 9 3 (pc2 := 8) (ft := .int) rfl dX9_copyFrom_5 rfl rfl ff_9_3 wd_235 rfl (by decide +kernel) rfl rfl ?_
  obtain ⟨s1, hs1, h⟩ := ab_lt_e h
  refine z_tops hs1 ?_
  refine z_aload_n (pc2 := 9) rfl dX9_copyFrom_8 rfl ?_
  refine z_aload_n (pc2 := 10) rfl dX9_copyFrom_9 rfl ?_
  refine z_getI 60 9 4 (pc2 := 13) rfl dX9_copyFrom_10 rfl rfl ff_9_4 wd_237 ?_
  refine z_putI 38 9 4 (pc2 := 16) (ft := .int) rfl dX9_copyFrom_13 rfl rfl ff_9_4 wd_237 rfl (by decide +kernel) rfl rfl ?_
  obtain ⟨s2, hs2, h⟩ := ab_lt_e h
  refine z_tops hs2 ?_
  refine z_aload_n (pc2 := 17) rfl dX9_copyFrom_16 rfl ?_
  refine z_aload_n (pc2 := 18) rfl dX9_copyFrom_17 rfl ?_
  refine z_getI 60 9 5 (pc2 := 21) rfl dX9_copyFrom_18 rfl rfl ff_9_5 wd_239 ?_
  refine z_putI 38 9 5 (pc2 := 24) (ft := .int) rfl dX9_copyFrom_21 rfl rfl ff_9_5 wd_239 rfl (by decide +kernel) rfl rfl ?_
  obtain ⟨s3, hs3, h⟩ := ab_lt_e h
  refine z_tops hs3 ?_
  refine z_aload_n (pc2 := 25) rfl dX9_copyFrom_24 rfl ?_
  refine z_aload_n (pc2 := 26) rfl dX9_copyFrom_25 rfl ?_
  refine z_getI 60 9 11 (pc2 := 29) rfl dX9_copyFrom_26 rfl rfl ff_9_11 wd_250 ?_
  refine z_putI 38 9 11 (pc2 := 32) (ft := .int) rfl dX9_copyFrom_29 rfl rfl ff_9_11 wd_250 rfl (by decide +kernel) rfl rfl ?_
  obtain ⟨s4, hs4, h⟩ := ab_lt_e h
  refine z_tops hs4 ?_
  refine z_aload_n (pc2 := 33) rfl dX9_copyFrom_32 rfl ?_
  refine z_getR 60 9 6 67 (pc2 := 36) rfl dX9_copyFrom_33 rfl rfl ff_9_6 wd_241 rfl ?_
  refine z_iconst (pc2 := 37) rfl dX9_copyFrom_36 lt_i_0 ?_
  refine z_aload_n (pc2 := 38) rfl dX9_copyFrom_37 rfl ?_
  refine z_getR 38 9 6 39 (pc2 := 41) rfl dX9_copyFrom_38 rfl rfl ff_9_6 wd_241 rfl ?_
  refine z_iconst (pc2 := 42) rfl dX9_copyFrom_41 lt_i_0 ?_
  refine z_bipush (pc2 := 44) rfl dX9_copyFrom_42 lt_b_16 ?_
  obtain ⟨hb5, h⟩ := ab_ck_e h
  refine z_acopy 67 39 (pc2 := 47) rfl dX9_copyFrom_44 rfl rfl rfl rfl wd_738 wd_655 wd_654 wd_82 hb5 rfl rfl ?_
  obtain ⟨s6, hs6, h⟩ := ab_lt_e h
  refine z_tops hs6 ?_
  refine z_aload_n (pc2 := 48) rfl dX9_copyFrom_47 rfl ?_
  refine z_getR 60 9 7 68 (pc2 := 51) rfl dX9_copyFrom_48 rfl rfl ff_9_7 wd_243 rfl ?_
  refine z_iconst (pc2 := 52) rfl dX9_copyFrom_51 lt_i_0 ?_
  refine z_aload_n (pc2 := 53) rfl dX9_copyFrom_52 rfl ?_
  refine z_getR 38 9 7 40 (pc2 := 56) rfl dX9_copyFrom_53 rfl rfl ff_9_7 wd_243 rfl ?_
  refine z_iconst (pc2 := 57) rfl dX9_copyFrom_56 lt_i_0 ?_
  refine z_bipush (pc2 := 59) rfl dX9_copyFrom_57 lt_b_16 ?_
  obtain ⟨hb7, h⟩ := ab_ck_e h
  refine z_acopy 68 40 (pc2 := 62) rfl dX9_copyFrom_59 rfl rfl rfl rfl wd_738 wd_655 wd_654 wd_82 hb7 rfl rfl ?_
  obtain ⟨s8, hs8, h⟩ := ab_lt_e h
  refine z_tops hs8 ?_
  refine z_aload_n (pc2 := 63) rfl dX9_copyFrom_62 rfl ?_
  refine z_getR 60 9 8 69 (pc2 := 66) rfl dX9_copyFrom_63 rfl rfl ff_9_8 wd_245 rfl ?_
  refine z_iconst (pc2 := 67) rfl dX9_copyFrom_66 lt_i_0 ?_
  refine z_aload_n (pc2 := 68) rfl dX9_copyFrom_67 rfl ?_
  refine z_getR 38 9 8 41 (pc2 := 71) rfl dX9_copyFrom_68 rfl rfl ff_9_8 wd_245 rfl ?_
  refine z_iconst (pc2 := 72) rfl dX9_copyFrom_71 lt_i_0 ?_
  refine z_bipush (pc2 := 74) rfl dX9_copyFrom_72 lt_b_16 ?_
  obtain ⟨hb9, h⟩ := ab_ck_e h
  refine z_acopy 69 41 (pc2 := 77) rfl dX9_copyFrom_74 rfl rfl rfl rfl wd_738 wd_655 wd_654 wd_82 hb9 rfl rfl ?_
  obtain ⟨s10, hs10, h⟩ := ab_lt_e h
  refine z_tops hs10 ?_
  refine z_aload_n (pc2 := 78) rfl dX9_copyFrom_77 rfl ?_
  refine z_getR 60 9 9 70 (pc2 := 81) rfl dX9_copyFrom_78 rfl rfl ff_9_9 wd_247 rfl ?_
  refine z_iconst (pc2 := 82) rfl dX9_copyFrom_81 lt_i_0 ?_
  refine z_aload_n (pc2 := 83) rfl dX9_copyFrom_82 rfl ?_
  refine z_getR 38 9 9 42 (pc2 := 86) rfl dX9_copyFrom_83 rfl rfl ff_9_9 wd_247 rfl ?_
  refine z_iconst (pc2 := 87) rfl dX9_copyFrom_86 lt_i_0 ?_
  refine z_bipush (pc2 := 89) rfl dX9_copyFrom_87 lt_b_16 ?_
  obtain ⟨hb11, h⟩ := ab_ck_e h
  refine z_acopy 70 42 (pc2 := 92) rfl dX9_copyFrom_89 rfl rfl rfl rfl wd_738 wd_655 wd_654 wd_82 hb11 rfl rfl ?_
  obtain ⟨s12, hs12, h⟩ := ab_lt_e h
  refine z_tops hs12 ?_
  refine z_aload_n (pc2 := 93) rfl dX9_copyFrom_92 rfl ?_
  refine z_getR 60 9 10 71 (pc2 := 96) rfl dX9_copyFrom_93 rfl rfl ff_9_10 wd_248 rfl ?_
  refine z_iconst (pc2 := 97) rfl dX9_copyFrom_96 lt_i_0 ?_
  refine z_aload_n (pc2 := 98) rfl dX9_copyFrom_97 rfl ?_
  refine z_getR 38 9 10 43 (pc2 := 101) rfl dX9_copyFrom_98 rfl rfl ff_9_10 wd_248 rfl ?_
  refine z_iconst (pc2 := 102) rfl dX9_copyFrom_101 lt_i_0 ?_
  refine z_bipush (pc2 := 104) rfl dX9_copyFrom_102 lt_b_6 ?_
  obtain ⟨hb13, h⟩ := ab_ck_e h
  refine z_acopy 71 43 (pc2 := 107) rfl dX9_copyFrom_104 rfl rfl rfl rfl wd_738 wd_655 wd_654 wd_82 hb13 rfl rfl ?_
  obtain ⟨s14, hs14, h⟩ := ab_lt_e h
  refine z_tops hs14 ?_
  refine z_aload_n (pc2 := 108) rfl dX9_copyFrom_107 rfl ?_
  refine z_getR 60 9 12 72 (pc2 := 111) rfl dX9_copyFrom_108 rfl rfl ff_9_12 wd_252 rfl ?_
  refine z_iconst (pc2 := 112) rfl dX9_copyFrom_111 lt_i_0 ?_
  refine z_aload_n (pc2 := 113) rfl dX9_copyFrom_112 rfl ?_
  refine z_getR 38 9 12 44 (pc2 := 116) rfl dX9_copyFrom_113 rfl rfl ff_9_12 wd_252 rfl ?_
  refine z_iconst (pc2 := 117) rfl dX9_copyFrom_116 lt_i_0 ?_
  refine z_bipush (pc2 := 119) rfl dX9_copyFrom_117 lt_b_8 ?_
  obtain ⟨hb15, h⟩ := ab_ck_e h
  refine z_acopy 72 44 (pc2 := 122) rfl dX9_copyFrom_119 rfl rfl rfl rfl wd_738 wd_655 wd_654 wd_82 hb15 rfl rfl ?_
  obtain ⟨s16, hs16, h⟩ := ab_lt_e h
  refine z_tops hs16 ?_
  refine z_aload_n (pc2 := 123) rfl dX9_copyFrom_122 rfl ?_
  refine z_getR 60 9 13 73 (pc2 := 126) rfl dX9_copyFrom_123 rfl rfl ff_9_13 wd_254 rfl ?_
  refine z_iconst (pc2 := 127) rfl dX9_copyFrom_126 lt_i_0 ?_
  refine z_aload_n (pc2 := 128) rfl dX9_copyFrom_127 rfl ?_
  refine z_getR 38 9 13 45 (pc2 := 131) rfl dX9_copyFrom_128 rfl rfl ff_9_13 wd_254 rfl ?_
  refine z_iconst (pc2 := 132) rfl dX9_copyFrom_131 lt_i_0 ?_
  refine z_bipush (pc2 := 134) rfl dX9_copyFrom_132 lt_b_8 ?_
  obtain ⟨hb17, h⟩ := ab_ck_e h
  refine z_acopy 73 45 (pc2 := 137) rfl dX9_copyFrom_134 rfl rfl rfl rfl wd_738 wd_655 wd_654 wd_82 hb17 rfl rfl ?_
  obtain ⟨s18, hs18, h⟩ := ab_lt_e h
  refine z_tops hs18 ?_
  refine z_aload_n (pc2 := 138) rfl dX9_copyFrom_137 rfl ?_
  refine z_getR 60 9 14 74 (pc2 := 141) rfl dX9_copyFrom_138 rfl rfl ff_9_14 wd_259 rfl ?_
  refine z_iconst (pc2 := 142) rfl dX9_copyFrom_141 lt_i_0 ?_
  refine z_aload_n (pc2 := 143) rfl dX9_copyFrom_142 rfl ?_
  refine z_getR 38 9 14 46 (pc2 := 146) rfl dX9_copyFrom_143 rfl rfl ff_9_14 wd_259 rfl ?_
  refine z_iconst (pc2 := 147) rfl dX9_copyFrom_146 lt_i_0 ?_
  refine z_bipush (pc2 := 149) rfl dX9_copyFrom_147 lt_b_8 ?_
  obtain ⟨hb19, h⟩ := ab_ck_e h
  refine z_acopy 74 46 (pc2 := 152) rfl dX9_copyFrom_149 rfl rfl rfl rfl wd_738 wd_655 wd_654 wd_82 hb19 rfl rfl ?_
  obtain ⟨s20, hs20, h⟩ := ab_lt_e h
  refine z_tops hs20 ?_
  refine z_aload_n (pc2 := 153) rfl dX9_copyFrom_152 rfl ?_
  refine z_getR 60 9 15 75 (pc2 := 156) rfl dX9_copyFrom_153 rfl rfl ff_9_15 wd_261 rfl ?_
  refine z_iconst (pc2 := 157) rfl dX9_copyFrom_156 lt_i_0 ?_
  refine z_aload_n (pc2 := 158) rfl dX9_copyFrom_157 rfl ?_
  refine z_getR 38 9 15 47 (pc2 := 161) rfl dX9_copyFrom_158 rfl rfl ff_9_15 wd_261 rfl ?_
  refine z_iconst (pc2 := 162) rfl dX9_copyFrom_161 lt_i_0 ?_
  refine z_bipush (pc2 := 164) rfl dX9_copyFrom_162 lt_b_8 ?_
  obtain ⟨hb21, h⟩ := ab_ck_e h
  refine z_acopy 75 47 (pc2 := 167) rfl dX9_copyFrom_164 rfl rfl rfl rfl wd_738 wd_655 wd_654 wd_82 hb21 rfl rfl ?_
  obtain ⟨s22, hs22, h⟩ := ab_lt_e h
  refine z_tops hs22 ?_
  refine z_aload_n (pc2 := 168) rfl dX9_copyFrom_167 rfl ?_
  refine z_getR 60 9 16 76 (pc2 := 171) rfl dX9_copyFrom_168 rfl rfl ff_9_16 wd_263 rfl ?_
  refine z_iconst (pc2 := 172) rfl dX9_copyFrom_171 lt_i_0 ?_
  refine z_aload_n (pc2 := 173) rfl dX9_copyFrom_172 rfl ?_
  refine z_getR 38 9 16 48 (pc2 := 176) rfl dX9_copyFrom_173 rfl rfl ff_9_16 wd_263 rfl ?_
  refine z_iconst (pc2 := 177) rfl dX9_copyFrom_176 lt_i_0 ?_
  refine z_bipush (pc2 := 179) rfl dX9_copyFrom_177 lt_b_8 ?_
  obtain ⟨hb23, h⟩ := ab_ck_e h
  refine z_acopy 76 48 (pc2 := 182) rfl dX9_copyFrom_179 rfl rfl rfl rfl wd_738 wd_655 wd_654 wd_82 hb23 rfl rfl ?_
  obtain ⟨s24, hs24, h⟩ := ab_lt_e h
  refine z_tops hs24 ?_
  exact z_vret dX9_copyFrom_182 rfl (fv_w h)
def f_X7_copyFrom_32_61 (σ : ab_F) : Option ab_F := ab_lt (ab_u σ 32 0 (σ 61 0)) (fun (s1 : ab_F) => ab_ck (ab_cp (0 : Int32) (0 : Int32) (s1 32 0) 60 60) (ab_lt (ab_r s1 33 (va_cpy (s1 62) (s1 33) ((0 : Int32)).toNatClampNeg ((0 : Int32)).toNatClampNeg ((s1 32 0)).toNatClampNeg)) (fun (s3 : ab_F) => (some s3))))
set_option maxRecDepth 100000 in
set_option maxHeartbeats 4000000 in
theorem e_X7_copyFrom_32_61 {sc : Nat × (Nat → Int32)} {r : Option Nat × Option Nat} {σ : ab_F} {res : ab_F} (h : f_X7_copyFrom_32_61 σ = some res) : ab_E mX7_copyFrom 1 sc 0 [some (.ref 32), some (.ref 61)] [] (σ, r) (fun v S => v = none ∧ S = (res, r)) := by
  unfold f_X7_copyFrom_32_61 at h
  refine z_aload_n (pc2 := 1) rfl dX7_copyFrom_0 rfl ?_
  refine z_aload_n (pc2 := 2) rfl dX7_copyFrom_1 rfl ?_
  refine z_getI 61 7 0 (pc2 := 5) rfl dX7_copyFrom_2 rfl rfl ff_7_0 wd_119 ?_
  refine z_putI 32 7 0 (pc2 := 8) (ft := .int) rfl dX7_copyFrom_5 rfl rfl ff_7_0 wd_119 rfl (by decide +kernel) rfl rfl ?_
  obtain ⟨s1, hs1, h⟩ := ab_lt_e h
  refine z_tops hs1 ?_
  refine z_aload_n (pc2 := 9) rfl dX7_copyFrom_8 rfl ?_
  refine z_getR 61 7 1 62 (pc2 := 12) rfl dX7_copyFrom_9 rfl rfl ff_7_1 wd_122 rfl ?_
  refine z_iconst (pc2 := 13) rfl dX7_copyFrom_12 lt_i_0 ?_
  refine z_aload_n (pc2 := 14) rfl dX7_copyFrom_13 rfl ?_
  refine z_getR 32 7 1 33 (pc2 := 17) rfl dX7_copyFrom_14 rfl rfl ff_7_1 wd_122 rfl ?_
  refine z_iconst (pc2 := 18) rfl dX7_copyFrom_17 lt_i_0 ?_
  refine z_aload_n (pc2 := 19) rfl dX7_copyFrom_18 rfl ?_
  refine z_getI 32 7 0 (pc2 := 22) rfl dX7_copyFrom_19 rfl rfl ff_7_0 wd_119 ?_
  obtain ⟨hb2, h⟩ := ab_ck_e h
  refine z_acopy 62 33 (pc2 := 25) rfl dX7_copyFrom_22 rfl rfl rfl rfl wd_653 wd_655 wd_654 wd_82 hb2 rfl rfl ?_
  obtain ⟨s3, hs3, h⟩ := ab_lt_e h
  refine z_tops hs3 ?_
  exact z_vret dX7_copyFrom_25 rfl (fv_w h)
def f_X7_copyFrom_35_64 (σ : ab_F) : Option ab_F := ab_lt (ab_u σ 35 0 (σ 64 0)) (fun (s1 : ab_F) => ab_ck (ab_cp (0 : Int32) (0 : Int32) (s1 35 0) 60 60) (ab_lt (ab_r s1 36 (va_cpy (s1 65) (s1 36) ((0 : Int32)).toNatClampNeg ((0 : Int32)).toNatClampNeg ((s1 35 0)).toNatClampNeg)) (fun (s3 : ab_F) => (some s3))))
set_option maxRecDepth 100000 in
set_option maxHeartbeats 4000000 in
theorem e_X7_copyFrom_35_64 {sc : Nat × (Nat → Int32)} {r : Option Nat × Option Nat} {σ : ab_F} {res : ab_F} (h : f_X7_copyFrom_35_64 σ = some res) : ab_E mX7_copyFrom 1 sc 0 [some (.ref 35), some (.ref 64)] [] (σ, r) (fun v S => v = none ∧ S = (res, r)) := by
  unfold f_X7_copyFrom_35_64 at h
  refine z_aload_n (pc2 := 1) rfl dX7_copyFrom_0 rfl ?_
  refine z_aload_n (pc2 := 2) rfl dX7_copyFrom_1 rfl ?_
  refine z_getI 64 7 0 (pc2 := 5) rfl dX7_copyFrom_2 rfl rfl ff_7_0 wd_119 ?_
  refine z_putI 35 7 0 (pc2 := 8) (ft := .int) rfl dX7_copyFrom_5 rfl rfl ff_7_0 wd_119 rfl (by decide +kernel) rfl rfl ?_
  obtain ⟨s1, hs1, h⟩ := ab_lt_e h
  refine z_tops hs1 ?_
  refine z_aload_n (pc2 := 9) rfl dX7_copyFrom_8 rfl ?_
  refine z_getR 64 7 1 65 (pc2 := 12) rfl dX7_copyFrom_9 rfl rfl ff_7_1 wd_122 rfl ?_
  refine z_iconst (pc2 := 13) rfl dX7_copyFrom_12 lt_i_0 ?_
  refine z_aload_n (pc2 := 14) rfl dX7_copyFrom_13 rfl ?_
  refine z_getR 35 7 1 36 (pc2 := 17) rfl dX7_copyFrom_14 rfl rfl ff_7_1 wd_122 rfl ?_
  refine z_iconst (pc2 := 18) rfl dX7_copyFrom_17 lt_i_0 ?_
  refine z_aload_n (pc2 := 19) rfl dX7_copyFrom_18 rfl ?_
  refine z_getI 35 7 0 (pc2 := 22) rfl dX7_copyFrom_19 rfl rfl ff_7_0 wd_119 ?_
  obtain ⟨hb2, h⟩ := ab_ck_e h
  refine z_acopy 65 36 (pc2 := 25) rfl dX7_copyFrom_22 rfl rfl rfl rfl wd_653 wd_655 wd_654 wd_82 hb2 rfl rfl ?_
  obtain ⟨s3, hs3, h⟩ := ab_lt_e h
  refine z_tops hs3 ?_
  exact z_vret dX7_copyFrom_25 rfl (fv_w h)
def f_X9_copyTexts_38_60 (σ : ab_F) : Option ab_F := (f_X7_copyFrom_32_61 σ).bind (fun q1 => (f_X7_copyFrom_35_64 q1).bind (fun q2 => (some q2)))
set_option maxRecDepth 100000 in
set_option maxHeartbeats 4000000 in
theorem e_X9_copyTexts_38_60 {sc : Nat × (Nat → Int32)} {r : Option Nat × Option Nat} {σ : ab_F} {res : ab_F} (h : f_X9_copyTexts_38_60 σ = some res) : ab_E mX9_copyTexts 2 sc 0 [some (.ref 38), some (.ref 60)] [] (σ, r) (fun v S => v = none ∧ S = (res, r)) := by
  unfold f_X9_copyTexts_38_60 at h
  refine z_aload_n (pc2 := 1) rfl dX9_copyTexts_0 rfl ?_
  refine z_getR 38 9 1 32 (pc2 := 4) rfl dX9_copyTexts_1 rfl rfl ff_9_1 wd_230 rfl ?_
  refine z_aload_n (pc2 := 5) rfl dX9_copyTexts_4 rfl ?_
  refine z_getR 60 9 1 61 (pc2 := 8) rfl dX9_copyTexts_5 rfl rfl ff_9_1 wd_230 rfl ?_
  obtain ⟨q1, hq1, h⟩ := ab_bnd h
  refine z_callVv 32 [.ref 61] [some (.ref 32), some (.ref 61)] (pc2 := 11) rfl rfl dX9_copyTexts_8 ok_X7_copyFrom ⟨fun _ => rfl, fun _ => Nat.le_of_ble_eq_true rfl⟩ rfl rv_32 wd_936 wd_650 wd_651 rfl (e_X7_copyFrom_32_61 hq1) ?_
  refine z_aload_n (pc2 := 12) rfl dX9_copyTexts_11 rfl ?_
  refine z_getR 38 9 2 35 (pc2 := 15) rfl dX9_copyTexts_12 rfl rfl ff_9_2 wd_232 rfl ?_
  refine z_aload_n (pc2 := 16) rfl dX9_copyTexts_15 rfl ?_
  refine z_getR 60 9 2 64 (pc2 := 19) rfl dX9_copyTexts_16 rfl rfl ff_9_2 wd_232 rfl ?_
  obtain ⟨q2, hq2, h⟩ := ab_bnd h
  refine z_callVv 35 [.ref 64] [some (.ref 35), some (.ref 64)] (pc2 := 22) rfl rfl dX9_copyTexts_19 ok_X7_copyFrom ⟨fun _ => rfl, fun _ => Nat.le_of_ble_eq_true rfl⟩ rfl rv_35 wd_936 wd_650 wd_651 rfl (e_X7_copyFrom_35_64 hq2) ?_
  exact z_vret dX9_copyTexts_22 rfl (fv_w h)
def f_X6_copyFrom_9_11 (σ : ab_F) : Option ab_F := ab_lt (ab_u σ 9 1 (σ 11 1)) (fun (s1 : ab_F) => ab_ck (ab_cp (0 : Int32) (0 : Int32) (s1 9 1) 60 60) (ab_lt (ab_r s1 10 (va_cpy (s1 12) (s1 10) ((0 : Int32)).toNatClampNeg ((0 : Int32)).toNatClampNeg ((s1 9 1)).toNatClampNeg)) (fun (s3 : ab_F) => (some s3))))
set_option maxRecDepth 100000 in
set_option maxHeartbeats 4000000 in
theorem e_X6_copyFrom_9_11 {sc : Nat × (Nat → Int32)} {r : Option Nat × Option Nat} {σ : ab_F} {res : ab_F} (h : f_X6_copyFrom_9_11 σ = some res) : ab_E mX6_copyFrom 1 sc 0 [some (.ref 9), some (.ref 11)] [] (σ, r) (fun v S => v = none ∧ S = (res, r)) := by
  unfold f_X6_copyFrom_9_11 at h
  refine z_aload_n (pc2 := 1) rfl dX6_copyFrom_0 rfl ?_
  refine z_aload_n (pc2 := 2) rfl dX6_copyFrom_1 rfl ?_
  refine z_getI 11 6 1 (pc2 := 5) rfl dX6_copyFrom_2 rfl rfl ff_6_1 wd_100 ?_
  refine z_putI 9 6 1 (pc2 := 8) (ft := .int) rfl dX6_copyFrom_5 rfl rfl ff_6_1 wd_100 rfl (by decide +kernel) rfl rfl ?_
  obtain ⟨s1, hs1, h⟩ := ab_lt_e h
  refine z_tops hs1 ?_
  refine z_aload_n (pc2 := 9) rfl dX6_copyFrom_8 rfl ?_
  refine z_getR 11 6 0 12 (pc2 := 12) rfl dX6_copyFrom_9 rfl rfl ff_6_0 wd_97 rfl ?_
  refine z_iconst (pc2 := 13) rfl dX6_copyFrom_12 lt_i_0 ?_
  refine z_aload_n (pc2 := 14) rfl dX6_copyFrom_13 rfl ?_
  refine z_getR 9 6 0 10 (pc2 := 17) rfl dX6_copyFrom_14 rfl rfl ff_6_0 wd_97 rfl ?_
  refine z_iconst (pc2 := 18) rfl dX6_copyFrom_17 lt_i_0 ?_
  refine z_aload_n (pc2 := 19) rfl dX6_copyFrom_18 rfl ?_
  refine z_getI 9 6 1 (pc2 := 22) rfl dX6_copyFrom_19 rfl rfl ff_6_1 wd_100 ?_
  obtain ⟨hb2, h⟩ := ab_ck_e h
  refine z_acopy 12 10 (pc2 := 25) rfl dX6_copyFrom_22 rfl rfl rfl rfl wd_941 wd_655 wd_654 wd_82 hb2 rfl rfl ?_
  obtain ⟨s3, hs3, h⟩ := ab_lt_e h
  refine z_tops hs3 ?_
  exact z_vret dX6_copyFrom_25 rfl (fv_w h)
def f_X6_copyFrom_13_15 (σ : ab_F) : Option ab_F := ab_lt (ab_u σ 13 1 (σ 15 1)) (fun (s1 : ab_F) => ab_ck (ab_cp (0 : Int32) (0 : Int32) (s1 13 1) 24 24) (ab_lt (ab_r s1 14 (va_cpy (s1 16) (s1 14) ((0 : Int32)).toNatClampNeg ((0 : Int32)).toNatClampNeg ((s1 13 1)).toNatClampNeg)) (fun (s3 : ab_F) => (some s3))))
set_option maxRecDepth 100000 in
set_option maxHeartbeats 4000000 in
theorem e_X6_copyFrom_13_15 {sc : Nat × (Nat → Int32)} {r : Option Nat × Option Nat} {σ : ab_F} {res : ab_F} (h : f_X6_copyFrom_13_15 σ = some res) : ab_E mX6_copyFrom 1 sc 0 [some (.ref 13), some (.ref 15)] [] (σ, r) (fun v S => v = none ∧ S = (res, r)) := by
  unfold f_X6_copyFrom_13_15 at h
  refine z_aload_n (pc2 := 1) rfl dX6_copyFrom_0 rfl ?_
  refine z_aload_n (pc2 := 2) rfl dX6_copyFrom_1 rfl ?_
  refine z_getI 15 6 1 (pc2 := 5) rfl dX6_copyFrom_2 rfl rfl ff_6_1 wd_100 ?_
  refine z_putI 13 6 1 (pc2 := 8) (ft := .int) rfl dX6_copyFrom_5 rfl rfl ff_6_1 wd_100 rfl (by decide +kernel) rfl rfl ?_
  obtain ⟨s1, hs1, h⟩ := ab_lt_e h
  refine z_tops hs1 ?_
  refine z_aload_n (pc2 := 9) rfl dX6_copyFrom_8 rfl ?_
  refine z_getR 15 6 0 16 (pc2 := 12) rfl dX6_copyFrom_9 rfl rfl ff_6_0 wd_97 rfl ?_
  refine z_iconst (pc2 := 13) rfl dX6_copyFrom_12 lt_i_0 ?_
  refine z_aload_n (pc2 := 14) rfl dX6_copyFrom_13 rfl ?_
  refine z_getR 13 6 0 14 (pc2 := 17) rfl dX6_copyFrom_14 rfl rfl ff_6_0 wd_97 rfl ?_
  refine z_iconst (pc2 := 18) rfl dX6_copyFrom_17 lt_i_0 ?_
  refine z_aload_n (pc2 := 19) rfl dX6_copyFrom_18 rfl ?_
  refine z_getI 13 6 1 (pc2 := 22) rfl dX6_copyFrom_19 rfl rfl ff_6_1 wd_100 ?_
  obtain ⟨hb2, h⟩ := ab_ck_e h
  refine z_acopy 16 14 (pc2 := 25) rfl dX6_copyFrom_22 rfl rfl rfl rfl wd_941 wd_655 wd_654 wd_82 hb2 rfl rfl ?_
  obtain ⟨s3, hs3, h⟩ := ab_lt_e h
  refine z_tops hs3 ?_
  exact z_vret dX6_copyFrom_25 rfl (fv_w h)
def f_X11_restore (σ : ab_F) : Option (Int32 × ab_F) := (if (σ 8 11) = 0 then (f_X11_refuse (2 : Int32) σ).bind (fun q6 => (some (q6.1, q6.2))) else (f_X9_copyFrom_38_60 σ).bind (fun q2 => (f_X9_copyTexts_38_60 q2).bind (fun q3 => (f_X6_copyFrom_9_11 q3).bind (fun q4 => (f_X6_copyFrom_13_15 q4).bind (fun q5 => (some ((q5 38 3), q5)))))))
set_option maxRecDepth 100000 in
set_option maxHeartbeats 4000000 in
theorem e_X11_restore {sc : Nat × (Nat → Int32)} {r : Option Nat × Option Nat} {σ : ab_F} {res : (Int32 × ab_F)} (h : f_X11_restore σ = some res) : ab_E mX11_restore 3 sc 0 [some (.ref 8)] [] (σ, r) (fun v S => v = some (.int res.1) ∧ S = (res.2, r)) := by
  unfold f_X11_restore at h
  refine z_aload_n (pc2 := 1) rfl dX11_restore_0 rfl ?_
  refine z_getI 8 11 11 (pc2 := 4) rfl dX11_restore_1 rfl rfl ff_11_11 wd_313 ?_
  refine z_if_ne (pc2 := 7) (tgt := 13) rfl dX11_restore_4 (by decide) (fun hc1 => ?_) (fun hc1 => ?_)
  · replace h := ab_neg hc1 h
    refine z_aload_n (pc2 := 14) rfl dX11_restore_13 rfl ?_
    refine z_getR 8 11 0 38 (pc2 := 17) rfl dX11_restore_14 rfl rfl ff_11_0 wd_302 rfl ?_
    refine z_aload_n (pc2 := 18) rfl dX11_restore_17 rfl ?_
    refine z_getR 8 11 2 60 (pc2 := 21) rfl dX11_restore_18 rfl rfl ff_11_2 wd_304 rfl ?_
    obtain ⟨q2, hq2, h⟩ := ab_bnd h
    refine z_callVv 38 [.ref 60] [some (.ref 38), some (.ref 60)] (pc2 := 24) rfl rfl dX11_restore_21 ok_X9_copyFrom ⟨fun _ => rfl, fun _ => Nat.le_of_ble_eq_true rfl⟩ rfl rv_38 wd_734 wd_735 wd_736 rfl (e_X9_copyFrom_38_60 hq2) ?_
    refine z_aload_n (pc2 := 25) rfl dX11_restore_24 rfl ?_
    refine z_getR 8 11 0 38 (pc2 := 28) rfl dX11_restore_25 rfl rfl ff_11_0 wd_302 rfl ?_
    refine z_aload_n (pc2 := 29) rfl dX11_restore_28 rfl ?_
    refine z_getR 8 11 2 60 (pc2 := 32) rfl dX11_restore_29 rfl rfl ff_11_2 wd_304 rfl ?_
    obtain ⟨q3, hq3, h⟩ := ab_bnd h
    refine z_callVv 38 [.ref 60] [some (.ref 38), some (.ref 60)] (pc2 := 35) rfl rfl dX11_restore_32 ok_X9_copyTexts ⟨fun _ => rfl, fun _ => Nat.le_of_ble_eq_true rfl⟩ rfl rv_38 wd_932 wd_933 wd_934 rfl (e_X9_copyTexts_38_60 hq3) ?_
    refine z_aload_n (pc2 := 36) rfl dX11_restore_35 rfl ?_
    refine z_getR 8 11 3 9 (pc2 := 39) rfl dX11_restore_36 rfl rfl ff_11_3 wd_305 rfl ?_
    refine z_aload_n (pc2 := 40) rfl dX11_restore_39 rfl ?_
    refine z_getR 8 11 4 11 (pc2 := 43) rfl dX11_restore_40 rfl rfl ff_11_4 wd_306 rfl ?_
    obtain ⟨q4, hq4, h⟩ := ab_bnd h
    refine z_callVv 9 [.ref 11] [some (.ref 9), some (.ref 11)] (pc2 := 46) rfl rfl dX11_restore_43 ok_X6_copyFrom ⟨fun _ => rfl, fun _ => Nat.le_of_ble_eq_true rfl⟩ rfl rv_9 wd_937 wd_938 wd_939 rfl (e_X6_copyFrom_9_11 hq4) ?_
    refine z_aload_n (pc2 := 47) rfl dX11_restore_46 rfl ?_
    refine z_getR 8 11 5 13 (pc2 := 50) rfl dX11_restore_47 rfl rfl ff_11_5 wd_307 rfl ?_
    refine z_aload_n (pc2 := 51) rfl dX11_restore_50 rfl ?_
    refine z_getR 8 11 6 15 (pc2 := 54) rfl dX11_restore_51 rfl rfl ff_11_6 wd_308 rfl ?_
    obtain ⟨q5, hq5, h⟩ := ab_bnd h
    refine z_callVv 13 [.ref 15] [some (.ref 13), some (.ref 15)] (pc2 := 57) rfl rfl dX11_restore_54 ok_X6_copyFrom ⟨fun _ => rfl, fun _ => Nat.le_of_ble_eq_true rfl⟩ rfl rv_13 wd_937 wd_938 wd_939 rfl (e_X6_copyFrom_13_15 hq5) ?_
    refine z_aload_n (pc2 := 58) rfl dX11_restore_57 rfl ?_
    refine z_getR 8 11 0 38 (pc2 := 61) rfl dX11_restore_58 rfl rfl ff_11_0 wd_302 rfl ?_
    refine z_getI 38 9 3 (pc2 := 64) rfl dX11_restore_61 rfl rfl ff_9_3 wd_236 ?_
    exact z_iret dX11_restore_64 rfl rfl (fi_w h)
  · replace h := ab_pos hc1 h
    refine z_aload_n (pc2 := 8) rfl dX11_restore_7 rfl ?_
    refine z_iconst (pc2 := 9) rfl dX11_restore_8 lt_i_2 ?_
    obtain ⟨q6, hq6, h⟩ := ab_bnd h
    refine z_callVi 8 [.int (2 : Int32)] [some (.ref 8), some (.int (2 : Int32))] (pc2 := 12) rfl rfl dX11_restore_9 ok_X11_refuse ⟨fun _ => rfl, fun _ => Nat.le_of_ble_eq_true rfl⟩ rfl rv_8 wd_346 wd_348 wd_0 rfl (e_X11_refuse hq6) ?_
    exact z_iret dX11_restore_12 rfl rfl (fi_w h)
def f_X6_add_13 (a1 : Int32) (σ : ab_F) : Option ab_F := (if (24 : Int32) ≤ (σ 13 1) then (some σ) else ab_ck (ab_ib (σ 13 1) 24) (ab_lt (ab_u σ 14 ((σ 13 1)).toNatClampNeg a1) (fun (s3 : ab_F) => ab_lt (ab_u s3 13 1 ((s3 13 1) + (1 : Int32))) (fun (s4 : ab_F) => (some s4)))))
set_option maxRecDepth 100000 in
set_option maxHeartbeats 4000000 in
theorem e_X6_add_13 {sc : Nat × (Nat → Int32)} {r : Option Nat × Option Nat} {a1 : Int32} {σ : ab_F} {res : ab_F} (h : f_X6_add_13 a1 σ = some res) : ab_E mX6_add 0 sc 0 [some (.ref 13), some (.int a1)] [] (σ, r) (fun v S => v = none ∧ S = (res, r)) := by
  unfold f_X6_add_13 at h
  refine z_aload_n (pc2 := 1) rfl dX6_add_0 rfl ?_
  refine z_getI 13 6 1 (pc2 := 4) rfl dX6_add_1 rfl rfl ff_6_1 wd_100 ?_
  refine z_aload_n (pc2 := 5) rfl dX6_add_4 rfl ?_
  refine z_getR 13 6 0 14 (pc2 := 8) rfl dX6_add_5 rfl rfl ff_6_0 wd_97 rfl ?_
  refine z_alen 14 (pc2 := 9) (v := 24) rfl dX6_add_8 rfl rfl (by decide) ?_
  refine z_icmp_ge (pc2 := 12) (tgt := 32) rfl dX6_add_9 (by decide) (fun hc1 => ?_) (fun hc1 => ?_)
  · replace h := ab_pos hc1 h
    exact z_vret dX6_add_32 rfl (fv_w h)
  · replace h := ab_neg hc1 h
    refine z_aload_n (pc2 := 13) rfl dX6_add_12 rfl ?_
    refine z_getR 13 6 0 14 (pc2 := 16) rfl dX6_add_13 rfl rfl ff_6_0 wd_97 rfl ?_
    refine z_aload_n (pc2 := 17) rfl dX6_add_16 rfl ?_
    refine z_getI 13 6 1 (pc2 := 20) rfl dX6_add_17 rfl rfl ff_6_1 wd_100 ?_
    refine z_iload_n (pc2 := 21) rfl dX6_add_20 rfl ?_
    obtain ⟨hb2, h⟩ := ab_ck_e h
    refine z_iast 14 (pc2 := 22) (j := ((σ 13 1)).toNatClampNeg) rfl dX6_add_21 rfl rfl hb2 rfl ?_
    obtain ⟨s3, hs3, h⟩ := ab_lt_e h
    refine z_tops hs3 ?_
    refine z_aload_n (pc2 := 23) rfl dX6_add_22 rfl ?_
    refine z_dup (pc2 := 24) rfl dX6_add_23 rfl ?_
    refine z_getI 13 6 1 (pc2 := 27) rfl dX6_add_24 rfl rfl ff_6_1 wd_100 ?_
    refine z_iconst (pc2 := 28) rfl dX6_add_27 lt_i_1 ?_
    refine z_iadd (pc2 := 29) rfl dX6_add_28 ?_
    refine z_putI 13 6 1 (pc2 := 32) (ft := .int) rfl dX6_add_29 rfl rfl ff_6_1 wd_100 rfl (by decide +kernel) rfl rfl ?_
    obtain ⟨s4, hs4, h⟩ := ab_lt_e h
    refine z_tops hs4 ?_
    exact z_vret dX6_add_32 rfl (fv_w h)
def f_X11_tell (a1 : Int32) (σ : ab_F) : Option (Int32 × ab_F) := (if (σ 13 1) < (24 : Int32) then (f_X6_add_13 a1 σ).bind (fun q2 => (some ((q2 13 1), q2))) else (f_X11_refuse (4 : Int32) σ).bind (fun q3 => (some (q3.1, q3.2))))
set_option maxRecDepth 100000 in
set_option maxHeartbeats 4000000 in
theorem e_X11_tell {sc : Nat × (Nat → Int32)} {r : Option Nat × Option Nat} {a1 : Int32} {σ : ab_F} {res : (Int32 × ab_F)} (h : f_X11_tell a1 σ = some res) : ab_E mX11_tell 1 sc 0 [some (.ref 8), some (.int a1)] [] (σ, r) (fun v S => v = some (.int res.1) ∧ S = (res.2, r)) := by
  unfold f_X11_tell at h
  refine z_aload_n (pc2 := 1) rfl dX11_tell_0 rfl ?_
  refine z_getR 8 11 5 13 (pc2 := 4) rfl dX11_tell_1 rfl rfl ff_11_5 wd_307 rfl ?_
  refine z_getI 13 6 1 (pc2 := 7) rfl dX11_tell_4 rfl rfl ff_6_1 wd_102 ?_
  refine z_bipush (pc2 := 9) rfl dX11_tell_7 lt_b_24 ?_
  refine z_icmp_lt (pc2 := 12) (tgt := 18) rfl dX11_tell_9 (by decide) (fun hc1 => ?_) (fun hc1 => ?_)
  · replace h := ab_pos hc1 h
    refine z_aload_n (pc2 := 19) rfl dX11_tell_18 rfl ?_
    refine z_getR 8 11 5 13 (pc2 := 22) rfl dX11_tell_19 rfl rfl ff_11_5 wd_307 rfl ?_
    refine z_iload_n (pc2 := 23) rfl dX11_tell_22 rfl ?_
    obtain ⟨q2, hq2, h⟩ := ab_bnd h
    refine z_callVv 13 [.int a1] [some (.ref 13), some (.int a1)] (pc2 := 26) rfl rfl dX11_tell_23 ok_X6_add ⟨fun _ => rfl, fun _ => Nat.le_of_ble_eq_true rfl⟩ rfl rv_13 wd_522 wd_523 wd_524 rfl (e_X6_add_13 hq2) ?_
    refine z_aload_n (pc2 := 27) rfl dX11_tell_26 rfl ?_
    refine z_getR 8 11 5 13 (pc2 := 30) rfl dX11_tell_27 rfl rfl ff_11_5 wd_307 rfl ?_
    refine z_getI 13 6 1 (pc2 := 33) rfl dX11_tell_30 rfl rfl ff_6_1 wd_102 ?_
    exact z_iret dX11_tell_33 rfl rfl (fi_w h)
  · replace h := ab_neg hc1 h
    refine z_aload_n (pc2 := 13) rfl dX11_tell_12 rfl ?_
    refine z_iconst (pc2 := 14) rfl dX11_tell_13 lt_i_4 ?_
    obtain ⟨q3, hq3, h⟩ := ab_bnd h
    refine z_callVi 8 [.int (4 : Int32)] [some (.ref 8), some (.int (4 : Int32))] (pc2 := 17) rfl rfl dX11_tell_14 ok_X11_refuse ⟨fun _ => rfl, fun _ => Nat.le_of_ble_eq_true rfl⟩ rfl rv_8 wd_346 wd_348 wd_0 rfl (e_X11_refuse hq3) ?_
    exact z_iret dX11_tell_17 rfl rfl (fi_w h)
def f_X11_check_L18 (p1 : Int32) (K : ab_F → Option (Int32 × ab_F)) : Nat → Int32 → ab_F → Option (Int32 × ab_F)
  | 0, _, _ => none
  | n + 1, u2, σ => (if p1 ≤ u2 then (K σ) else (f_X11_nobody u2 σ).bind (fun q4 => (if (ab_b q4) = 0 then ab_ck (ab_ib u2 24) ((f_X9_made 38 u2 σ).bind (fun q7 => (if (σ 14 (u2).toNatClampNeg) = q7.1 then ab_lt (u2 + (1 : Int32)) (fun x9 => (f_X11_check_L18 p1 K n x9 q7.2)) else (some (((1 : Int32) + u2), q7.2))))) else (some (((1 : Int32) + u2), σ)))))
set_option maxRecDepth 100000 in
set_option maxHeartbeats 4000000 in
theorem e_X11_check_L18 {sc : Nat × (Nat → Int32)} {r : Option Nat × Option Nat} {p1 : Int32} {K : ab_F → Option (Int32 × ab_F)} {res : (Int32 × ab_F)} (hK : ∀ (σ : ab_F), K σ = some res → ab_E mX11_check 4 sc 61 [none, none, none] [] (σ, r) (fun v S => v = some (.int res.1) ∧ S = (res.2, r))) : ∀ (n : Nat) (u2 : Int32) (σ : ab_F), f_X11_check_L18 p1 K n u2 σ = some res → ab_E mX11_check 4 sc 18 [some (.ref 8), some (.int p1), some (.int u2)] [] (σ, r) (fun v S => v = some (.int res.1) ∧ S = (res.2, r)) := by
  intro n
  induction n with
  | zero =>
    intro u2 σ h
    rw [f_X11_check_L18] at h
    cases h
  | succ n ih =>
    intro u2 σ h
    rw [f_X11_check_L18] at h
    refine z_iload_n (pc2 := 19) rfl dX11_check_18 rfl ?_
    refine z_iload_n (pc2 := 20) rfl dX11_check_19 rfl ?_
    refine z_icmp_ge (pc2 := 23) (tgt := 61) rfl dX11_check_20 (by decide) (fun hc3 => ?_) (fun hc3 => ?_)
    · replace h := ab_pos hc3 h
      refine z_fgt [false, false, false] (L2 := [none, none, none]) rfl ?_
      exact hK  _ h
    · replace h := ab_neg hc3 h
      refine z_aload_n (pc2 := 24) rfl dX11_check_23 rfl ?_
      refine z_iload_n (pc2 := 25) rfl dX11_check_24 rfl ?_
      obtain ⟨q4, hq4, h⟩ := ab_bnd h
      refine z_callVi 8 [.int u2] [some (.ref 8), some (.int u2)] (pc2 := 28) rfl rfl dX11_check_25 ok_X11_nobody ⟨fun _ => rfl, fun _ => Nat.le_of_ble_eq_true rfl⟩ rfl rv_8 wd_359 wd_361 wd_1 rfl (e_X11_nobody hq4) ?_
      refine z_if_ne (pc2 := 31) (tgt := 51) rfl dX11_check_28 (by decide) (fun hc5 => ?_) (fun hc5 => ?_)
      · replace h := ab_neg hc5 h
        refine z_iconst (pc2 := 52) rfl dX11_check_51 lt_i_1 ?_
        refine z_iload_n (pc2 := 53) rfl dX11_check_52 rfl ?_
        refine z_iadd (pc2 := 54) rfl dX11_check_53 ?_
        exact z_iret dX11_check_54 rfl rfl (fi_w h)
      · replace h := ab_pos hc5 h
        refine z_aload_n (pc2 := 32) rfl dX11_check_31 rfl ?_
        refine z_getR 8 11 5 13 (pc2 := 35) rfl dX11_check_32 rfl rfl ff_11_5 wd_307 rfl ?_
        refine z_getR 13 6 0 14 (pc2 := 38) rfl dX11_check_35 rfl rfl ff_6_0 wd_99 rfl ?_
        refine z_iload_n (pc2 := 39) rfl dX11_check_38 rfl ?_
        obtain ⟨hb6, h⟩ := ab_ck_e h
        refine z_iald 14 (pc2 := 40) (j := (u2).toNatClampNeg) rfl dX11_check_39 rfl rfl hb6 rfl ?_
        refine z_aload_n (pc2 := 41) rfl dX11_check_40 rfl ?_
        refine z_getR 8 11 0 38 (pc2 := 44) rfl dX11_check_41 rfl rfl ff_11_0 wd_302 rfl ?_
        refine z_iload_n (pc2 := 45) rfl dX11_check_44 rfl ?_
        obtain ⟨q7, hq7, h⟩ := ab_bnd h
        refine z_callVi 38 [.int u2] [some (.ref 38), some (.int u2)] (pc2 := 48) rfl rfl dX11_check_45 ok_X9_made ⟨fun _ => rfl, fun _ => Nat.le_of_ble_eq_true rfl⟩ rfl rv_38 wd_422 wd_423 wd_424 rfl (e_X9_made_38 hq7) ?_
        refine z_icmp_eq (pc2 := 51) (tgt := 55) rfl dX11_check_48 (by decide) (fun hc8 => ?_) (fun hc8 => ?_)
        · replace h := ab_pos hc8 h
          obtain ⟨x9, hxx9, h⟩ := ab_lt_e h
          refine z_iinc (pc2 := 58) (v := x9) (L2 := [some (.ref 8), some (.int p1), some (.int x9)]) rfl dX11_check_55 rfl (by rw [hxx9]; rfl) (by decide) rfl rfl ?_
          refine ab_goto (tgt := 18) dX11_check_58 (by decide) ?_
          refine z_fgt [true, true, true] (L2 := [some (.ref 8), some (.int p1), some (.int x9)]) rfl ?_
          exact ih _ _ h
        · replace h := ab_neg hc8 h
          refine z_iconst (pc2 := 52) rfl dX11_check_51 lt_i_1 ?_
          refine z_iload_n (pc2 := 53) rfl dX11_check_52 rfl ?_
          refine z_iadd (pc2 := 54) rfl dX11_check_53 ?_
          exact z_iret dX11_check_54 rfl rfl (fi_w h)
def f_X11_check (σ : ab_F) : Option (Int32 × ab_F) := ab_lt ((σ 13 1)) (fun x1 => ab_lt (ab_u σ 13 1 (0 : Int32)) (fun (s2 : ab_F) => (f_X11_check_L18 x1 (fun (s10 : ab_F) => (some ((0 : Int32), s10))) ab_fu (0 : Int32) s2)))
set_option maxRecDepth 100000 in
set_option maxHeartbeats 4000000 in
theorem e_X11_check {sc : Nat × (Nat → Int32)} {r : Option Nat × Option Nat} {σ : ab_F} {res : (Int32 × ab_F)} (h : f_X11_check σ = some res) : ab_E mX11_check 4 sc 0 [some (.ref 8), none, none] [] (σ, r) (fun v S => v = some (.int res.1) ∧ S = (res.2, r)) := by
  unfold f_X11_check at h
  refine z_aload_n (pc2 := 1) rfl dX11_check_0 rfl ?_
  refine z_getR 8 11 5 13 (pc2 := 4) rfl dX11_check_1 rfl rfl ff_11_5 wd_307 rfl ?_
  refine z_getI 13 6 1 (pc2 := 7) rfl dX11_check_4 rfl rfl ff_6_1 wd_102 ?_
  obtain ⟨x1, hxx1, h⟩ := ab_lt_e h
  refine z_top hxx1 ?_
  refine z_istore_n (pc2 := 8) (L2 := [some (.ref 8), some (.int x1), none]) rfl dX11_check_7 (by decide) rfl rfl ?_
  refine z_aload_n (pc2 := 9) rfl dX11_check_8 rfl ?_
  refine z_getR 8 11 5 13 (pc2 := 12) rfl dX11_check_9 rfl rfl ff_11_5 wd_307 rfl ?_
  refine z_iconst (pc2 := 13) rfl dX11_check_12 lt_i_0 ?_
  refine z_putI 13 6 1 (pc2 := 16) (ft := .int) rfl dX11_check_13 rfl rfl ff_6_1 wd_102 rfl (by decide +kernel) rfl rfl ?_
  obtain ⟨s2, hs2, h⟩ := ab_lt_e h
  refine z_tops hs2 ?_
  refine z_iconst (pc2 := 17) rfl dX11_check_16 lt_i_0 ?_
  refine z_istore_n (pc2 := 18) (L2 := [some (.ref 8), some (.int x1), some (.int (0 : Int32))]) rfl dX11_check_17 (by decide) rfl rfl ?_
  refine z_fgt [true, true, true] (L2 := [some (.ref 8), some (.int x1), some (.int (0 : Int32))]) rfl ?_
  refine e_X11_check_L18 (fun s10 h => ?_) _ _ _ h
  refine z_iconst (pc2 := 62) rfl dX11_check_61 lt_i_0 ?_
  exact z_iret dX11_check_62 rfl rfl (fi_w h)
def f_X9_allWater_L4 (w : Nat) (σ : ab_F) (K : Int32 → Option Int32) : Nat → Int32 → Int32 → Option Int32
  | 0, _, _ => none
  | n + 1, u1, u2 => (if (16 : Int32) ≤ u2 then (K u1) else ab_ck (ab_ib u2 16) (ab_lt ((u1 + (σ (w + 2) (u2).toNatClampNeg))) (fun x3 => ab_lt (u2 + (1 : Int32)) (fun x4 => (f_X9_allWater_L4 w σ K n x3 x4)))))
set_option maxRecDepth 100000 in
set_option maxHeartbeats 4000000 in
theorem e_X9_allWater_38_L4 {sc : Nat × (Nat → Int32)} {r : Option Nat × Option Nat} {σ : ab_F} {K : Int32 → Option Int32} {res : Int32} (hK : ∀ (u1 : Int32), K u1 = some res → ab_E mX9_allWater 0 sc 25 [none, some (.int u1), none] [] (σ, r) (fun v S => v = some (.int res) ∧ S = (σ, r))) : ∀ (n : Nat) (u1 : Int32) (u2 : Int32), f_X9_allWater_L4 38 σ K n u1 u2 = some res → ab_E mX9_allWater 0 sc 4 [some (.ref 38), some (.int u1), some (.int u2)] [] (σ, r) (fun v S => v = some (.int res) ∧ S = (σ, r)) := by
  intro n
  induction n with
  | zero =>
    intro u1 u2 h
    rw [f_X9_allWater_L4] at h
    cases h
  | succ n ih =>
    intro u1 u2 h
    rw [f_X9_allWater_L4] at h
    refine z_iload_n (pc2 := 5) rfl dX9_allWater_4 rfl ?_
    refine z_bipush (pc2 := 7) rfl dX9_allWater_5 lt_b_16 ?_
    refine z_icmp_ge (pc2 := 10) (tgt := 25) rfl dX9_allWater_7 (by decide) (fun hc1 => ?_) (fun hc1 => ?_)
    · replace h := ab_pos hc1 h
      refine z_fgt [false, true, false] (L2 := [none, some (.int u1), none]) rfl ?_
      exact hK _ h
    · replace h := ab_neg hc1 h
      refine z_iload_n (pc2 := 11) rfl dX9_allWater_10 rfl ?_
      refine z_aload_n (pc2 := 12) rfl dX9_allWater_11 rfl ?_
      refine z_getR 38 9 7 40 (pc2 := 15) rfl dX9_allWater_12 rfl rfl ff_9_7 wd_243 rfl ?_
      refine z_iload_n (pc2 := 16) rfl dX9_allWater_15 rfl ?_
      obtain ⟨hb2, h⟩ := ab_ck_e h
      refine z_iald 40 (pc2 := 17) (j := (u2).toNatClampNeg) rfl dX9_allWater_16 rfl rfl hb2 rfl ?_
      refine z_iadd (pc2 := 18) rfl dX9_allWater_17 ?_
      obtain ⟨x3, hxx3, h⟩ := ab_lt_e h
      refine z_top hxx3 ?_
      refine z_istore_n (pc2 := 19) (L2 := [some (.ref 38), some (.int x3), some (.int u2)]) rfl dX9_allWater_18 (by decide) rfl rfl ?_
      obtain ⟨x4, hxx4, h⟩ := ab_lt_e h
      refine z_iinc (pc2 := 22) (v := x4) (L2 := [some (.ref 38), some (.int x3), some (.int x4)]) rfl dX9_allWater_19 rfl (by rw [hxx4]; rfl) (by decide) rfl rfl ?_
      refine ab_goto (tgt := 4) dX9_allWater_22 (by decide) ?_
      refine z_fgt [true, true, true] (L2 := [some (.ref 38), some (.int x3), some (.int x4)]) rfl ?_
      exact ih _ _ h
def f_X9_allWater (w : Nat) (σ : ab_F) : Option Int32 := (f_X9_allWater_L4 w σ (fun (k5 : Int32) => (some k5)) ab_fu (0 : Int32) (0 : Int32))
set_option maxRecDepth 100000 in
set_option maxHeartbeats 4000000 in
theorem e_X9_allWater_38 {sc : Nat × (Nat → Int32)} {r : Option Nat × Option Nat} {σ : ab_F} {res : Int32} (h : f_X9_allWater 38 σ = some res) : ab_E mX9_allWater 0 sc 0 [some (.ref 38), none, none] [] (σ, r) (fun v S => v = some (.int res) ∧ S = (σ, r)) := by
  unfold f_X9_allWater at h
  refine z_iconst (pc2 := 1) rfl dX9_allWater_0 lt_i_0 ?_
  refine z_istore_n (pc2 := 2) (L2 := [some (.ref 38), some (.int (0 : Int32)), none]) rfl dX9_allWater_1 (by decide) rfl rfl ?_
  refine z_iconst (pc2 := 3) rfl dX9_allWater_2 lt_i_0 ?_
  refine z_istore_n (pc2 := 4) (L2 := [some (.ref 38), some (.int (0 : Int32)), some (.int (0 : Int32))]) rfl dX9_allWater_3 (by decide) rfl rfl ?_
  refine z_fgt [true, true, true] (L2 := [some (.ref 38), some (.int (0 : Int32)), some (.int (0 : Int32))]) rfl ?_
  refine e_X9_allWater_38_L4 (fun k5 h => ?_) _ _ _ h
  refine z_iload_n (pc2 := 26) rfl dX9_allWater_25 rfl ?_
  exact z_iret dX9_allWater_26 rfl rfl (fi_p h)
def f_X9_wetOnes_L4 (w : Nat) (σ : ab_F) (K : Int32 → Option Int32) : Nat → Int32 → Int32 → Option Int32
  | 0, _, _ => none
  | n + 1, u1, u2 => (if (σ w 11) ≤ u2 then (K u1) else (f_X9_isWet w u2 σ).bind (fun q2 => (if (ab_b q2) = 0 then ab_lt (u2 + (1 : Int32)) (fun x4 => (f_X9_wetOnes_L4 w σ K n u1 x4)) else ab_lt ((u1 ||| ((1 : Int32) <<< (u2 &&& 31)))) (fun x5 => ab_lt (u2 + (1 : Int32)) (fun x6 => (f_X9_wetOnes_L4 w σ K n x5 x6))))))
set_option maxRecDepth 100000 in
set_option maxHeartbeats 4000000 in
theorem e_X9_wetOnes_38_L4 {sc : Nat × (Nat → Int32)} {r : Option Nat × Option Nat} {σ : ab_F} {K : Int32 → Option Int32} {res : Int32} (hK : ∀ (u1 : Int32), K u1 = some res → ab_E mX9_wetOnes 1 sc 32 [none, some (.int u1), none] [] (σ, r) (fun v S => v = some (.int res) ∧ S = (σ, r))) : ∀ (n : Nat) (u1 : Int32) (u2 : Int32), f_X9_wetOnes_L4 38 σ K n u1 u2 = some res → ab_E mX9_wetOnes 1 sc 4 [some (.ref 38), some (.int u1), some (.int u2)] [] (σ, r) (fun v S => v = some (.int res) ∧ S = (σ, r)) := by
  intro n
  induction n with
  | zero =>
    intro u1 u2 h
    rw [f_X9_wetOnes_L4] at h
    cases h
  | succ n ih =>
    intro u1 u2 h
    rw [f_X9_wetOnes_L4] at h
    refine z_iload_n (pc2 := 5) rfl dX9_wetOnes_4 rfl ?_
    refine z_aload_n (pc2 := 6) rfl dX9_wetOnes_5 rfl ?_
    refine z_getI 38 9 11 (pc2 := 9) rfl dX9_wetOnes_6 rfl rfl ff_9_11 wd_250 ?_
    refine z_icmp_ge (pc2 := 12) (tgt := 32) rfl dX9_wetOnes_9 (by decide) (fun hc1 => ?_) (fun hc1 => ?_)
    · replace h := ab_pos hc1 h
      refine z_fgt [false, true, false] (L2 := [none, some (.int u1), none]) rfl ?_
      exact hK _ h
    · replace h := ab_neg hc1 h
      refine z_aload_n (pc2 := 13) rfl dX9_wetOnes_12 rfl ?_
      refine z_iload_n (pc2 := 14) rfl dX9_wetOnes_13 rfl ?_
      obtain ⟨q2, hq2, h⟩ := ab_bnd h
      refine z_callVi 38 [.int u2] [some (.ref 38), some (.int u2)] (pc2 := 17) rfl rfl dX9_wetOnes_14 ok_X9_isWet ⟨fun _ => rfl, fun _ => Nat.le_of_ble_eq_true rfl⟩ rfl rv_38 wd_690 wd_364 wd_365 rfl (e_X9_isWet_38 hq2) ?_
      refine z_if_eq (pc2 := 20) (tgt := 26) rfl dX9_wetOnes_17 (by decide) (fun hc3 => ?_) (fun hc3 => ?_)
      · replace h := ab_pos hc3 h
        obtain ⟨x4, hxx4, h⟩ := ab_lt_e h
        refine z_iinc (pc2 := 29) (v := x4) (L2 := [some (.ref 38), some (.int u1), some (.int x4)]) rfl dX9_wetOnes_26 rfl (by rw [hxx4]; rfl) (by decide) rfl rfl ?_
        refine ab_goto (tgt := 4) dX9_wetOnes_29 (by decide) ?_
        refine z_fgt [true, true, true] (L2 := [some (.ref 38), some (.int u1), some (.int x4)]) rfl ?_
        exact ih _ _ h
      · replace h := ab_neg hc3 h
        refine z_iload_n (pc2 := 21) rfl dX9_wetOnes_20 rfl ?_
        refine z_iconst (pc2 := 22) rfl dX9_wetOnes_21 lt_i_1 ?_
        refine z_iload_n (pc2 := 23) rfl dX9_wetOnes_22 rfl ?_
        refine z_ishl (pc2 := 24) rfl dX9_wetOnes_23 ?_
        refine z_ior (pc2 := 25) rfl dX9_wetOnes_24 ?_
        obtain ⟨x5, hxx5, h⟩ := ab_lt_e h
        refine z_top hxx5 ?_
        refine z_istore_n (pc2 := 26) (L2 := [some (.ref 38), some (.int x5), some (.int u2)]) rfl dX9_wetOnes_25 (by decide) rfl rfl ?_
        obtain ⟨x6, hxx6, h⟩ := ab_lt_e h
        refine z_iinc (pc2 := 29) (v := x6) (L2 := [some (.ref 38), some (.int x5), some (.int x6)]) rfl dX9_wetOnes_26 rfl (by rw [hxx6]; rfl) (by decide) rfl rfl ?_
        refine ab_goto (tgt := 4) dX9_wetOnes_29 (by decide) ?_
        refine z_fgt [true, true, true] (L2 := [some (.ref 38), some (.int x5), some (.int x6)]) rfl ?_
        exact ih _ _ h
def f_X9_wetOnes (w : Nat) (σ : ab_F) : Option Int32 := (f_X9_wetOnes_L4 w σ (fun (k7 : Int32) => (some k7)) ab_fu (0 : Int32) (0 : Int32))
set_option maxRecDepth 100000 in
set_option maxHeartbeats 4000000 in
theorem e_X9_wetOnes_38 {sc : Nat × (Nat → Int32)} {r : Option Nat × Option Nat} {σ : ab_F} {res : Int32} (h : f_X9_wetOnes 38 σ = some res) : ab_E mX9_wetOnes 1 sc 0 [some (.ref 38), none, none] [] (σ, r) (fun v S => v = some (.int res) ∧ S = (σ, r)) := by
  unfold f_X9_wetOnes at h
  refine z_iconst (pc2 := 1) rfl dX9_wetOnes_0 lt_i_0 ?_
  refine z_istore_n (pc2 := 2) (L2 := [some (.ref 38), some (.int (0 : Int32)), none]) rfl dX9_wetOnes_1 (by decide) rfl rfl ?_
  refine z_iconst (pc2 := 3) rfl dX9_wetOnes_2 lt_i_0 ?_
  refine z_istore_n (pc2 := 4) (L2 := [some (.ref 38), some (.int (0 : Int32)), some (.int (0 : Int32))]) rfl dX9_wetOnes_3 (by decide) rfl rfl ?_
  refine z_fgt [true, true, true] (L2 := [some (.ref 38), some (.int (0 : Int32)), some (.int (0 : Int32))]) rfl ?_
  refine e_X9_wetOnes_38_L4 (fun k7 h => ?_) _ _ _ h
  refine z_iload_n (pc2 := 33) rfl dX9_wetOnes_32 rfl ?_
  exact z_iret dX9_wetOnes_33 rfl rfl (fi_p h)
def f_X11_count (a1 : Int32) (σ : ab_F) : Option (Int32 × ab_F) := (if a1 = (0 : Int32) then (some ((σ 38 11), σ)) else if a1 = (1 : Int32) then (some ((σ 38 3), σ)) else if a1 = (2 : Int32) then (some ((σ 38 4), σ)) else if a1 = (3 : Int32) then (f_X9_allWater 38 σ).bind (fun q5 => (some (q5, σ))) else if a1 = (4 : Int32) then (f_X9_wetOnes 38 σ).bind (fun q7 => (some (q7, σ))) else if a1 = (5 : Int32) then (f_X9_known 38 σ).bind (fun q9 => (some (q9, σ))) else if a1 = (6 : Int32) then (f_X9_downOnes 38 σ).bind (fun q11 => (some (q11, σ))) else if a1 = (7 : Int32) then (some ((σ 9 1), σ)) else if a1 = (8 : Int32) then (some ((σ 13 1), σ)) else if a1 = (9 : Int32) then (some ((σ 21 4), σ)) else if a1 = (10 : Int32) then (some ((σ 38 5), σ)) else (f_X11_refuse (1 : Int32) σ).bind (fun q16 => (some (q16.1, q16.2))))
set_option maxRecDepth 100000 in
set_option maxHeartbeats 4000000 in
theorem e_X11_count {sc : Nat × (Nat → Int32)} {r : Option Nat × Option Nat} {a1 : Int32} {σ : ab_F} {res : (Int32 × ab_F)} (h : f_X11_count a1 σ = some res) : ab_E mX11_count 2 sc 0 [some (.ref 8), some (.int a1)] [] (σ, r) (fun v S => v = some (.int res.1) ∧ S = (res.2, r)) := by
  unfold f_X11_count at h
  refine z_iload_n (pc2 := 1) rfl dX11_count_0 rfl ?_
  by_cases hc1 : a1 = (0 : Int32)
  · replace h := ab_pos hc1 h
    refine ab_tsIn (tgt := 60) dX11_count_1 (by rw [hc1]; decide) (by rw [hc1]; decide) (by rw [hc1]; rfl) (by decide) ?_
    refine z_aload_n (pc2 := 61) rfl dX11_count_60 rfl ?_
    refine z_getR 8 11 0 38 (pc2 := 64) rfl dX11_count_61 rfl rfl ff_11_0 wd_302 rfl ?_
    refine z_getI 38 9 11 (pc2 := 67) rfl dX11_count_64 rfl rfl ff_9_11 wd_251 ?_
    exact z_iret dX11_count_67 rfl rfl (fi_w h)
  · replace h := ab_neg hc1 h
    by_cases hc2 : a1 = (1 : Int32)
    · replace h := ab_pos hc2 h
      refine ab_tsIn (tgt := 68) dX11_count_1 (by rw [hc2]; decide) (by rw [hc2]; decide) (by rw [hc2]; rfl) (by decide) ?_
      refine z_aload_n (pc2 := 69) rfl dX11_count_68 rfl ?_
      refine z_getR 8 11 0 38 (pc2 := 72) rfl dX11_count_69 rfl rfl ff_11_0 wd_302 rfl ?_
      refine z_getI 38 9 3 (pc2 := 75) rfl dX11_count_72 rfl rfl ff_9_3 wd_236 ?_
      exact z_iret dX11_count_75 rfl rfl (fi_w h)
    · replace h := ab_neg hc2 h
      by_cases hc3 : a1 = (2 : Int32)
      · replace h := ab_pos hc3 h
        refine ab_tsIn (tgt := 76) dX11_count_1 (by rw [hc3]; decide) (by rw [hc3]; decide) (by rw [hc3]; rfl) (by decide) ?_
        refine z_aload_n (pc2 := 77) rfl dX11_count_76 rfl ?_
        refine z_getR 8 11 0 38 (pc2 := 80) rfl dX11_count_77 rfl rfl ff_11_0 wd_302 rfl ?_
        refine z_getI 38 9 4 (pc2 := 83) rfl dX11_count_80 rfl rfl ff_9_4 wd_238 ?_
        exact z_iret dX11_count_83 rfl rfl (fi_w h)
      · replace h := ab_neg hc3 h
        by_cases hc4 : a1 = (3 : Int32)
        · replace h := ab_pos hc4 h
          refine ab_tsIn (tgt := 84) dX11_count_1 (by rw [hc4]; decide) (by rw [hc4]; decide) (by rw [hc4]; rfl) (by decide) ?_
          refine z_aload_n (pc2 := 85) rfl dX11_count_84 rfl ?_
          refine z_getR 8 11 0 38 (pc2 := 88) rfl dX11_count_85 rfl rfl ff_11_0 wd_302 rfl ?_
          obtain ⟨q5, hq5, h⟩ := ab_bnd h
          refine z_callVi 38 [] [some (.ref 38), none, none] (pc2 := 91) rfl rfl dX11_count_88 ok_X9_allWater ⟨fun _ => rfl, fun _ => Nat.le_of_ble_eq_true rfl⟩ rfl rv_38 wd_958 wd_959 wd_960 rfl (e_X9_allWater_38 hq5) ?_
          exact z_iret dX11_count_91 rfl rfl (fi_w h)
        · replace h := ab_neg hc4 h
          by_cases hc6 : a1 = (4 : Int32)
          · replace h := ab_pos hc6 h
            refine ab_tsIn (tgt := 92) dX11_count_1 (by rw [hc6]; decide) (by rw [hc6]; decide) (by rw [hc6]; rfl) (by decide) ?_
            refine z_aload_n (pc2 := 93) rfl dX11_count_92 rfl ?_
            refine z_getR 8 11 0 38 (pc2 := 96) rfl dX11_count_93 rfl rfl ff_11_0 wd_302 rfl ?_
            obtain ⟨q7, hq7, h⟩ := ab_bnd h
            refine z_callVi 38 [] [some (.ref 38), none, none] (pc2 := 99) rfl rfl dX11_count_96 ok_X9_wetOnes ⟨fun _ => rfl, fun _ => Nat.le_of_ble_eq_true rfl⟩ rfl rv_38 wd_962 wd_963 wd_964 rfl (e_X9_wetOnes_38 hq7) ?_
            exact z_iret dX11_count_99 rfl rfl (fi_w h)
          · replace h := ab_neg hc6 h
            by_cases hc8 : a1 = (5 : Int32)
            · replace h := ab_pos hc8 h
              refine ab_tsIn (tgt := 100) dX11_count_1 (by rw [hc8]; decide) (by rw [hc8]; decide) (by rw [hc8]; rfl) (by decide) ?_
              refine z_aload_n (pc2 := 101) rfl dX11_count_100 rfl ?_
              refine z_getR 8 11 0 38 (pc2 := 104) rfl dX11_count_101 rfl rfl ff_11_0 wd_302 rfl ?_
              obtain ⟨q9, hq9, h⟩ := ab_bnd h
              refine z_callVi 38 [] [some (.ref 38)] (pc2 := 107) rfl rfl dX11_count_104 ok_X9_known ⟨fun _ => rfl, fun _ => Nat.le_of_ble_eq_true rfl⟩ rfl rv_38 wd_700 wd_701 wd_702 rfl (e_X9_known_38 hq9) ?_
              exact z_iret dX11_count_107 rfl rfl (fi_w h)
            · replace h := ab_neg hc8 h
              by_cases hc10 : a1 = (6 : Int32)
              · replace h := ab_pos hc10 h
                refine ab_tsIn (tgt := 108) dX11_count_1 (by rw [hc10]; decide) (by rw [hc10]; decide) (by rw [hc10]; rfl) (by decide) ?_
                refine z_aload_n (pc2 := 109) rfl dX11_count_108 rfl ?_
                refine z_getR 8 11 0 38 (pc2 := 112) rfl dX11_count_109 rfl rfl ff_11_0 wd_302 rfl ?_
                obtain ⟨q11, hq11, h⟩ := ab_bnd h
                refine z_callVi 38 [] [some (.ref 38), none, none] (pc2 := 115) rfl rfl dX11_count_112 ok_X9_downOnes ⟨fun _ => rfl, fun _ => Nat.le_of_ble_eq_true rfl⟩ rfl rv_38 wd_966 wd_379 wd_380 rfl (e_X9_downOnes_38 hq11) ?_
                exact z_iret dX11_count_115 rfl rfl (fi_w h)
              · replace h := ab_neg hc10 h
                by_cases hc12 : a1 = (7 : Int32)
                · replace h := ab_pos hc12 h
                  refine ab_tsIn (tgt := 116) dX11_count_1 (by rw [hc12]; decide) (by rw [hc12]; decide) (by rw [hc12]; rfl) (by decide) ?_
                  refine z_aload_n (pc2 := 117) rfl dX11_count_116 rfl ?_
                  refine z_getR 8 11 3 9 (pc2 := 120) rfl dX11_count_117 rfl rfl ff_11_3 wd_305 rfl ?_
                  refine z_getI 9 6 1 (pc2 := 123) rfl dX11_count_120 rfl rfl ff_6_1 wd_102 ?_
                  exact z_iret dX11_count_123 rfl rfl (fi_w h)
                · replace h := ab_neg hc12 h
                  by_cases hc13 : a1 = (8 : Int32)
                  · replace h := ab_pos hc13 h
                    refine ab_tsIn (tgt := 124) dX11_count_1 (by rw [hc13]; decide) (by rw [hc13]; decide) (by rw [hc13]; rfl) (by decide) ?_
                    refine z_aload_n (pc2 := 125) rfl dX11_count_124 rfl ?_
                    refine z_getR 8 11 5 13 (pc2 := 128) rfl dX11_count_125 rfl rfl ff_11_5 wd_307 rfl ?_
                    refine z_getI 13 6 1 (pc2 := 131) rfl dX11_count_128 rfl rfl ff_6_1 wd_102 ?_
                    exact z_iret dX11_count_131 rfl rfl (fi_w h)
                  · replace h := ab_neg hc13 h
                    by_cases hc14 : a1 = (9 : Int32)
                    · replace h := ab_pos hc14 h
                      refine ab_tsIn (tgt := 132) dX11_count_1 (by rw [hc14]; decide) (by rw [hc14]; decide) (by rw [hc14]; rfl) (by decide) ?_
                      refine z_aload_n (pc2 := 133) rfl dX11_count_132 rfl ?_
                      refine z_getR 8 11 9 21 (pc2 := 136) rfl dX11_count_133 rfl rfl ff_11_9 wd_311 rfl ?_
                      refine z_getI 21 8 4 (pc2 := 139) rfl dX11_count_136 rfl rfl ff_8_4 wd_160 ?_
                      exact z_iret dX11_count_139 rfl rfl (fi_w h)
                    · replace h := ab_neg hc14 h
                      by_cases hc15 : a1 = (10 : Int32)
                      · replace h := ab_pos hc15 h
                        refine ab_tsIn (tgt := 140) dX11_count_1 (by rw [hc15]; decide) (by rw [hc15]; decide) (by rw [hc15]; rfl) (by decide) ?_
                        refine z_aload_n (pc2 := 141) rfl dX11_count_140 rfl ?_
                        refine z_getR 8 11 0 38 (pc2 := 144) rfl dX11_count_141 rfl rfl ff_11_0 wd_302 rfl ?_
                        refine z_getI 38 9 5 (pc2 := 147) rfl dX11_count_144 rfl rfl ff_9_5 wd_240 ?_
                        exact z_iret dX11_count_147 rfl rfl (fi_w h)
                      · replace h := ab_neg hc15 h
                        have thc1 := ab_ne_toInt (k := 0) hc1 (by decide)
                        have thc2 := ab_ne_toInt (k := 1) hc2 (by decide)
                        have thc3 := ab_ne_toInt (k := 2) hc3 (by decide)
                        have thc4 := ab_ne_toInt (k := 3) hc4 (by decide)
                        have thc6 := ab_ne_toInt (k := 4) hc6 (by decide)
                        have thc8 := ab_ne_toInt (k := 5) hc8 (by decide)
                        have thc10 := ab_ne_toInt (k := 6) hc10 (by decide)
                        have thc12 := ab_ne_toInt (k := 7) hc12 (by decide)
                        have thc13 := ab_ne_toInt (k := 8) hc13 (by decide)
                        have thc14 := ab_ne_toInt (k := 9) hc14 (by decide)
                        have thc15 := ab_ne_toInt (k := 10) hc15 (by decide)
                        refine ab_tsOut (tgt := 148) dX11_count_1 (by omega) (by decide) ?_
                        refine z_aload_n (pc2 := 149) rfl dX11_count_148 rfl ?_
                        refine z_iconst (pc2 := 150) rfl dX11_count_149 lt_i_1 ?_
                        obtain ⟨q16, hq16, h⟩ := ab_bnd h
                        refine z_callVi 8 [.int (1 : Int32)] [some (.ref 8), some (.int (1 : Int32))] (pc2 := 153) rfl rfl dX11_count_150 ok_X11_refuse ⟨fun _ => rfl, fun _ => Nat.le_of_ble_eq_true rfl⟩ rfl rv_8 wd_346 wd_348 wd_0 rfl (e_X11_refuse hq16) ?_
                        exact z_iret dX11_count_153 rfl rfl (fi_w h)
