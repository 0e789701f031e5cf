def f_X6_lowest (q : Nat) (a1 : Int32) (σ : ab_F) : Option Int32 := (if (σ q 2) = (8 : Int32) then (some (a1).toInt8.toInt32) else (if (σ q 2) = (16 : Int32) then (some (a1).toInt16.toInt32) else (some a1)))
set_option maxRecDepth 100000 in
set_option maxHeartbeats 4000000 in
theorem e_X6_lowest_77 {sc : Nat × (Nat → Int32)} {r : Option Nat × Option Nat} {a1 : Int32} {σ : ab_F} {res : Int32} (h : f_X6_lowest 77 a1 σ = some res) : ab_E mX6_lowest 0 sc 0 [some (.ref 77), some (.int a1)] [] (σ, r) (fun v S => v = some (.int res) ∧ S = (σ, r)) := by
  unfold f_X6_lowest at h
  refine z_aload_n (pc2 := 1) rfl dX6_lowest_0 rfl ?_
  refine z_getI 77 6 2 (pc2 := 4) rfl dX6_lowest_1 rfl rfl ff_6_2 wd_103 ?_
  refine z_bipush (pc2 := 6) rfl dX6_lowest_4 lt_b_8 ?_
  refine z_icmp_ne (pc2 := 9) (tgt := 14) rfl dX6_lowest_6 (by decide) (fun hc1 => ?_) (fun hc1 => ?_)
  · replace h := ab_neg hc1 h
    refine z_aload_n (pc2 := 15) rfl dX6_lowest_14 rfl ?_
    refine z_getI 77 6 2 (pc2 := 18) rfl dX6_lowest_15 rfl rfl ff_6_2 wd_103 ?_
    refine z_bipush (pc2 := 20) rfl dX6_lowest_18 lt_b_16 ?_
    refine z_icmp_ne (pc2 := 23) (tgt := 28) rfl dX6_lowest_20 (by decide) (fun hc2 => ?_) (fun hc2 => ?_)
    · replace h := ab_neg hc2 h
      refine z_iload_n (pc2 := 29) rfl dX6_lowest_28 rfl ?_
      exact z_iret dX6_lowest_29 rfl rfl (fi_p h)
    · replace h := ab_pos hc2 h
      refine z_iload_n (pc2 := 24) rfl dX6_lowest_23 rfl ?_
      refine z_i2s (pc2 := 25) rfl dX6_lowest_24 ?_
      refine ab_goto (tgt := 29) dX6_lowest_25 (by decide) ?_
      exact z_iret dX6_lowest_29 rfl rfl (fi_p h)
  · replace h := ab_pos hc1 h
    refine z_iload_n (pc2 := 10) rfl dX6_lowest_9 rfl ?_
    refine z_i2b (pc2 := 11) rfl dX6_lowest_10 ?_
    refine ab_goto (tgt := 29) dX6_lowest_11 (by decide) ?_
    exact z_iret dX6_lowest_29 rfl rfl (fi_p h)
set_option maxRecDepth 100000 in
set_option maxHeartbeats 4000000 in
theorem e_X6_lowest_79 {sc : Nat × (Nat → Int32)} {r : Option Nat × Option Nat} {a1 : Int32} {σ : ab_F} {res : Int32} (h : f_X6_lowest 79 a1 σ = some res) : ab_E mX6_lowest 0 sc 0 [some (.ref 79), some (.int a1)] [] (σ, r) (fun v S => v = some (.int res) ∧ S = (σ, r)) := by
  unfold f_X6_lowest at h
  refine z_aload_n (pc2 := 1) rfl dX6_lowest_0 rfl ?_
  refine z_getI 79 6 2 (pc2 := 4) rfl dX6_lowest_1 rfl rfl ff_6_2 wd_103 ?_
  refine z_bipush (pc2 := 6) rfl dX6_lowest_4 lt_b_8 ?_
  refine z_icmp_ne (pc2 := 9) (tgt := 14) rfl dX6_lowest_6 (by decide) (fun hc1 => ?_) (fun hc1 => ?_)
  · replace h := ab_neg hc1 h
    refine z_aload_n (pc2 := 15) rfl dX6_lowest_14 rfl ?_
    refine z_getI 79 6 2 (pc2 := 18) rfl dX6_lowest_15 rfl rfl ff_6_2 wd_103 ?_
    refine z_bipush (pc2 := 20) rfl dX6_lowest_18 lt_b_16 ?_
    refine z_icmp_ne (pc2 := 23) (tgt := 28) rfl dX6_lowest_20 (by decide) (fun hc2 => ?_) (fun hc2 => ?_)
    · replace h := ab_neg hc2 h
      refine z_iload_n (pc2 := 29) rfl dX6_lowest_28 rfl ?_
      exact z_iret dX6_lowest_29 rfl rfl (fi_p h)
    · replace h := ab_pos hc2 h
      refine z_iload_n (pc2 := 24) rfl dX6_lowest_23 rfl ?_
      refine z_i2s (pc2 := 25) rfl dX6_lowest_24 ?_
      refine ab_goto (tgt := 29) dX6_lowest_25 (by decide) ?_
      exact z_iret dX6_lowest_29 rfl rfl (fi_p h)
  · replace h := ab_pos hc1 h
    refine z_iload_n (pc2 := 10) rfl dX6_lowest_9 rfl ?_
    refine z_i2b (pc2 := 11) rfl dX6_lowest_10 ?_
    refine ab_goto (tgt := 29) dX6_lowest_11 (by decide) ?_
    exact z_iret dX6_lowest_29 rfl rfl (fi_p h)
set_option maxRecDepth 100000 in
set_option maxHeartbeats 4000000 in
theorem e_X6_lowest_81 {sc : Nat × (Nat → Int32)} {r : Option Nat × Option Nat} {a1 : Int32} {σ : ab_F} {res : Int32} (h : f_X6_lowest 81 a1 σ = some res) : ab_E mX6_lowest 0 sc 0 [some (.ref 81), some (.int a1)] [] (σ, r) (fun v S => v = some (.int res) ∧ S = (σ, r)) := by
  unfold f_X6_lowest at h
  refine z_aload_n (pc2 := 1) rfl dX6_lowest_0 rfl ?_
  refine z_getI 81 6 2 (pc2 := 4) rfl dX6_lowest_1 rfl rfl ff_6_2 wd_103 ?_
  refine z_bipush (pc2 := 6) rfl dX6_lowest_4 lt_b_8 ?_
  refine z_icmp_ne (pc2 := 9) (tgt := 14) rfl dX6_lowest_6 (by decide) (fun hc1 => ?_) (fun hc1 => ?_)
  · replace h := ab_neg hc1 h
    refine z_aload_n (pc2 := 15) rfl dX6_lowest_14 rfl ?_
    refine z_getI 81 6 2 (pc2 := 18) rfl dX6_lowest_15 rfl rfl ff_6_2 wd_103 ?_
    refine z_bipush (pc2 := 20) rfl dX6_lowest_18 lt_b_16 ?_
    refine z_icmp_ne (pc2 := 23) (tgt := 28) rfl dX6_lowest_20 (by decide) (fun hc2 => ?_) (fun hc2 => ?_)
    · replace h := ab_neg hc2 h
      refine z_iload_n (pc2 := 29) rfl dX6_lowest_28 rfl ?_
      exact z_iret dX6_lowest_29 rfl rfl (fi_p h)
    · replace h := ab_pos hc2 h
      refine z_iload_n (pc2 := 24) rfl dX6_lowest_23 rfl ?_
      refine z_i2s (pc2 := 25) rfl dX6_lowest_24 ?_
      refine ab_goto (tgt := 29) dX6_lowest_25 (by decide) ?_
      exact z_iret dX6_lowest_29 rfl rfl (fi_p h)
  · replace h := ab_pos hc1 h
    refine z_iload_n (pc2 := 10) rfl dX6_lowest_9 rfl ?_
    refine z_i2b (pc2 := 11) rfl dX6_lowest_10 ?_
    refine ab_goto (tgt := 29) dX6_lowest_11 (by decide) ?_
    exact z_iret dX6_lowest_29 rfl rfl (fi_p h)
set_option maxRecDepth 100000 in
set_option maxHeartbeats 4000000 in
theorem e_X6_lowest_83 {sc : Nat × (Nat → Int32)} {r : Option Nat × Option Nat} {a1 : Int32} {σ : ab_F} {res : Int32} (h : f_X6_lowest 83 a1 σ = some res) : ab_E mX6_lowest 0 sc 0 [some (.ref 83), some (.int a1)] [] (σ, r) (fun v S => v = some (.int res) ∧ S = (σ, r)) := by
  unfold f_X6_lowest at h
  refine z_aload_n (pc2 := 1) rfl dX6_lowest_0 rfl ?_
  refine z_getI 83 6 2 (pc2 := 4) rfl dX6_lowest_1 rfl rfl ff_6_2 wd_103 ?_
  refine z_bipush (pc2 := 6) rfl dX6_lowest_4 lt_b_8 ?_
  refine z_icmp_ne (pc2 := 9) (tgt := 14) rfl dX6_lowest_6 (by decide) (fun hc1 => ?_) (fun hc1 => ?_)
  · replace h := ab_neg hc1 h
    refine z_aload_n (pc2 := 15) rfl dX6_lowest_14 rfl ?_
    refine z_getI 83 6 2 (pc2 := 18) rfl dX6_lowest_15 rfl rfl ff_6_2 wd_103 ?_
    refine z_bipush (pc2 := 20) rfl dX6_lowest_18 lt_b_16 ?_
    refine z_icmp_ne (pc2 := 23) (tgt := 28) rfl dX6_lowest_20 (by decide) (fun hc2 => ?_) (fun hc2 => ?_)
    · replace h := ab_neg hc2 h
      refine z_iload_n (pc2 := 29) rfl dX6_lowest_28 rfl ?_
      exact z_iret dX6_lowest_29 rfl rfl (fi_p h)
    · replace h := ab_pos hc2 h
      refine z_iload_n (pc2 := 24) rfl dX6_lowest_23 rfl ?_
      refine z_i2s (pc2 := 25) rfl dX6_lowest_24 ?_
      refine ab_goto (tgt := 29) dX6_lowest_25 (by decide) ?_
      exact z_iret dX6_lowest_29 rfl rfl (fi_p h)
  · replace h := ab_pos hc1 h
    refine z_iload_n (pc2 := 10) rfl dX6_lowest_9 rfl ?_
    refine z_i2b (pc2 := 11) rfl dX6_lowest_10 ?_
    refine ab_goto (tgt := 29) dX6_lowest_11 (by decide) ?_
    exact z_iret dX6_lowest_29 rfl rfl (fi_p h)
def f_X11_put (a1 : Int32) (a2 : Int32) (a3 : Int32) (σ : ab_F) : Option (Int32 × ab_F) := (f_X11_outside a1 (3 : Int32) σ).bind (fun q1 => (if (ab_b q1) = 0 then (if a1 = (0 : Int32) then (if (σ 77 2) = 0 then (f_X11_refuse (2 : Int32) σ).bind (fun q10 => (some (q10.1, q10.2))) else (f_X11_outside a2 ((σ 77 1) - (1 : Int32)) σ).bind (fun q4 => (if (ab_b q4) = 0 then (f_X6_lowest 77 a3 σ).bind (fun q6 => ab_ck (ab_ib a2 24) (ab_lt (ab_u σ 78 (a2).toNatClampNeg q6) (fun (s8 : ab_F) => (some ((1 : Int32), s8))))) else (f_X11_refuse (1 : Int32) σ).bind (fun q9 => (some (q9.1, q9.2)))))) else if a1 = (1 : Int32) then (if (σ 79 2) = 0 then (f_X11_refuse (2 : Int32) σ).bind (fun q19 => (some (q19.1, q19.2))) else (f_X11_outside a2 ((σ 79 1) - (1 : Int32)) σ).bind (fun q13 => (if (ab_b q13) = 0 then (f_X6_lowest 79 a3 σ).bind (fun q15 => ab_ck (ab_ib a2 24) (ab_lt (ab_u σ 80 (a2).toNatClampNeg q15) (fun (s17 : ab_F) => (some ((1 : Int32), s17))))) else (f_X11_refuse (1 : Int32) σ).bind (fun q18 => (some (q18.1, q18.2)))))) else if a1 = (2 : Int32) then (if (σ 81 2) = 0 then (f_X11_refuse (2 : Int32) σ).bind (fun q28 => (some (q28.1, q28.2))) else (f_X11_outside a2 ((σ 81 1) - (1 : Int32)) σ).bind (fun q22 => (if (ab_b q22) = 0 then (f_X6_lowest 81 a3 σ).bind (fun q24 => ab_ck (ab_ib a2 24) (ab_lt (ab_u σ 82 (a2).toNatClampNeg q24) (fun (s26 : ab_F) => (some ((1 : Int32), s26))))) else (f_X11_refuse (1 : Int32) σ).bind (fun q27 => (some (q27.1, q27.2)))))) else if a1 = (3 : Int32) then (if (σ 83 2) = 0 then (f_X11_refuse (2 : Int32) σ).bind (fun q37 => (some (q37.1, q37.2))) else (f_X11_outside a2 ((σ 83 1) - (1 : Int32)) σ).bind (fun q31 => (if (ab_b q31) = 0 then (f_X6_lowest 83 a3 σ).bind (fun q33 => ab_ck (ab_ib a2 24) (ab_lt (ab_u σ 84 (a2).toNatClampNeg q33) (fun (s35 : ab_F) => (some ((1 : Int32), s35))))) else (f_X11_refuse (1 : Int32) σ).bind (fun q36 => (some (q36.1, q36.2)))))) else none) else (f_X11_refuse (1 : Int32) σ).bind (fun q39 => (some (q39.1, q39.2)))))
set_option maxRecDepth 100000 in
set_option maxHeartbeats 4000000 in
theorem e_X11_put {sc : Nat × (Nat → Int32)} {r : Option Nat × Option Nat} {a1 : Int32} {a2 : Int32} {a3 : Int32} {σ : ab_F} {res : (Int32 × ab_F)} (h : f_X11_put a1 a2 a3 σ = some res) : ab_E mX11_put 1 sc 0 [some (.ref 8), some (.int a1), some (.int a2), some (.int a3), none] [] (σ, r) (fun v S => v = some (.int res.1) ∧ S = (res.2, r)) := by
  unfold f_X11_put at h
  refine z_iload_n (pc2 := 1) rfl dX11_put_0 rfl ?_
  refine z_iconst (pc2 := 2) rfl dX11_put_1 lt_i_3 ?_
  obtain ⟨q1, hq1, h⟩ := ab_bnd h
  refine z_callSi [.int a1, .int (3 : Int32)] [some (.int a1), some (.int (3 : Int32))] (pc2 := 5) rfl rfl dX11_put_2 ok_X11_outside ⟨fun _ => rfl, fun _ => Nat.le_of_ble_eq_true rfl⟩ rfl wd_343 wd_344 rfl (e_X11_outside hq1) ?_
  refine z_if_eq (pc2 := 8) (tgt := 14) rfl dX11_put_5 (by decide) (fun hc2 => ?_) (fun hc2 => ?_)
  · replace h := ab_pos hc2 h
    refine z_aload_n (pc2 := 15) rfl dX11_put_14 rfl ?_
    refine z_getR 8 11 8 20 (pc2 := 18) rfl dX11_put_15 rfl rfl ff_11_8 wd_310 rfl ?_
    refine z_iload_n (pc2 := 19) rfl dX11_put_18 rfl ?_
    by_cases hi11 : a1 = (0 : Int32)
    · replace h := ab_pos hi11 h
      refine z_aaldR 20 77 (pc2 := 20) rfl dX11_put_19 rfl rfl (by rw [hi11]; rfl) (by rw [hi11]; rfl) ?_
      refine z_astore (pc2 := 22) (L2 := [some (.ref 8), some (.int a1), some (.int a2), some (.int a3), some (.ref 77)]) rfl dX11_put_20 (by decide) rfl rfl ?_
      refine z_aload (pc2 := 24) rfl dX11_put_22 rfl ?_
      refine z_getI 77 6 2 (pc2 := 27) rfl dX11_put_24 rfl rfl ff_6_2 wd_104 ?_
      refine z_if_ne (pc2 := 30) (tgt := 36) rfl dX11_put_27 (by decide) (fun hc3 => ?_) (fun hc3 => ?_)
      · replace h := ab_neg hc3 h
        refine z_iload_n (pc2 := 37) rfl dX11_put_36 rfl ?_
        refine z_aload (pc2 := 39) rfl dX11_put_37 rfl ?_
        refine z_getI 77 6 1 (pc2 := 42) rfl dX11_put_39 rfl rfl ff_6_1 wd_102 ?_
        refine z_iconst (pc2 := 43) rfl dX11_put_42 lt_i_1 ?_
        refine z_isub (pc2 := 44) rfl dX11_put_43 ?_
        obtain ⟨q4, hq4, h⟩ := ab_bnd h
        refine z_callSi [.int a2, .int ((σ 77 1) - (1 : Int32))] [some (.int a2), some (.int ((σ 77 1) - (1 : Int32)))] (pc2 := 47) rfl rfl dX11_put_44 ok_X11_outside ⟨fun _ => rfl, fun _ => Nat.le_of_ble_eq_true rfl⟩ rfl wd_343 wd_344 rfl (e_X11_outside hq4) ?_
        refine z_if_eq (pc2 := 50) (tgt := 56) rfl dX11_put_47 (by decide) (fun hc5 => ?_) (fun hc5 => ?_)
        · replace h := ab_pos hc5 h
          refine z_aload (pc2 := 58) rfl dX11_put_56 rfl ?_
          refine z_getR 77 6 0 78 (pc2 := 61) rfl dX11_put_58 rfl rfl ff_6_0 wd_99 rfl ?_
          refine z_iload_n (pc2 := 62) rfl dX11_put_61 rfl ?_
          refine z_aload (pc2 := 64) rfl dX11_put_62 rfl ?_
          refine z_iload_n (pc2 := 65) rfl dX11_put_64 rfl ?_
          obtain ⟨q6, hq6, h⟩ := ab_bnd h
          refine z_callVi 77 [.int a3] [some (.ref 77), some (.int a3)] (pc2 := 68) rfl rfl dX11_put_65 ok_X6_lowest ⟨fun _ => rfl, fun _ => Nat.le_of_ble_eq_true rfl⟩ rfl rv_77 wd_911 wd_912 wd_913 rfl (e_X6_lowest_77 hq6) ?_
          obtain ⟨hb7, h⟩ := ab_ck_e h
          refine z_iast 78 (pc2 := 69) (j := (a2).toNatClampNeg) rfl dX11_put_68 rfl rfl hb7 rfl ?_
          obtain ⟨s8, hs8, h⟩ := ab_lt_e h
          refine z_tops hs8 ?_
          refine z_iconst (pc2 := 70) rfl dX11_put_69 lt_i_1 ?_
          exact z_iret dX11_put_70 rfl rfl (fi_w h)
        · replace h := ab_neg hc5 h
          refine z_aload_n (pc2 := 51) rfl dX11_put_50 rfl ?_
          refine z_iconst (pc2 := 52) rfl dX11_put_51 lt_i_1 ?_
          obtain ⟨q9, hq9, h⟩ := ab_bnd h
          refine z_callVi 8 [.int (1 : Int32)] [some (.ref 8), some (.int (1 : Int32))] (pc2 := 55) rfl rfl dX11_put_52 ok_X11_refuse ⟨fun _ => rfl, fun _ => Nat.le_of_ble_eq_true rfl⟩ rfl rv_8 wd_346 wd_348 wd_0 rfl (e_X11_refuse hq9) ?_
          exact z_iret dX11_put_55 rfl rfl (fi_w h)
      · replace h := ab_pos hc3 h
        refine z_aload_n (pc2 := 31) rfl dX11_put_30 rfl ?_
        refine z_iconst (pc2 := 32) rfl dX11_put_31 lt_i_2 ?_
        obtain ⟨q10, hq10, h⟩ := ab_bnd h
        refine z_callVi 8 [.int (2 : Int32)] [some (.ref 8), some (.int (2 : Int32))] (pc2 := 35) rfl rfl dX11_put_32 ok_X11_refuse ⟨fun _ => rfl, fun _ => Nat.le_of_ble_eq_true rfl⟩ rfl rv_8 wd_346 wd_348 wd_0 rfl (e_X11_refuse hq10) ?_
        exact z_iret dX11_put_35 rfl rfl (fi_w h)
    · replace h := ab_neg hi11 h
      by_cases hi20 : a1 = (1 : Int32)
      · replace h := ab_pos hi20 h
        refine z_aaldR 20 79 (pc2 := 20) rfl dX11_put_19 rfl rfl (by rw [hi20]; rfl) (by rw [hi20]; rfl) ?_
        refine z_astore (pc2 := 22) (L2 := [some (.ref 8), some (.int a1), some (.int a2), some (.int a3), some (.ref 79)]) rfl dX11_put_20 (by decide) rfl rfl ?_
        refine z_aload (pc2 := 24) rfl dX11_put_22 rfl ?_
        refine z_getI 79 6 2 (pc2 := 27) rfl dX11_put_24 rfl rfl ff_6_2 wd_104 ?_
        refine z_if_ne (pc2 := 30) (tgt := 36) rfl dX11_put_27 (by decide) (fun hc12 => ?_) (fun hc12 => ?_)
        · replace h := ab_neg hc12 h
          refine z_iload_n (pc2 := 37) rfl dX11_put_36 rfl ?_
          refine z_aload (pc2 := 39) rfl dX11_put_37 rfl ?_
          refine z_getI 79 6 1 (pc2 := 42) rfl dX11_put_39 rfl rfl ff_6_1 wd_102 ?_
          refine z_iconst (pc2 := 43) rfl dX11_put_42 lt_i_1 ?_
          refine z_isub (pc2 := 44) rfl dX11_put_43 ?_
          obtain ⟨q13, hq13, h⟩ := ab_bnd h
          refine z_callSi [.int a2, .int ((σ 79 1) - (1 : Int32))] [some (.int a2), some (.int ((σ 79 1) - (1 : Int32)))] (pc2 := 47) rfl rfl dX11_put_44 ok_X11_outside ⟨fun _ => rfl, fun _ => Nat.le_of_ble_eq_true rfl⟩ rfl wd_343 wd_344 rfl (e_X11_outside hq13) ?_
          refine z_if_eq (pc2 := 50) (tgt := 56) rfl dX11_put_47 (by decide) (fun hc14 => ?_) (fun hc14 => ?_)
          · replace h := ab_pos hc14 h
            refine z_aload (pc2 := 58) rfl dX11_put_56 rfl ?_
            refine z_getR 79 6 0 80 (pc2 := 61) rfl dX11_put_58 rfl rfl ff_6_0 wd_99 rfl ?_
            refine z_iload_n (pc2 := 62) rfl dX11_put_61 rfl ?_
            refine z_aload (pc2 := 64) rfl dX11_put_62 rfl ?_
            refine z_iload_n (pc2 := 65) rfl dX11_put_64 rfl ?_
            obtain ⟨q15, hq15, h⟩ := ab_bnd h
            refine z_callVi 79 [.int a3] [some (.ref 79), some (.int a3)] (pc2 := 68) rfl rfl dX11_put_65 ok_X6_lowest ⟨fun _ => rfl, fun _ => Nat.le_of_ble_eq_true rfl⟩ rfl rv_79 wd_911 wd_912 wd_913 rfl (e_X6_lowest_79 hq15) ?_
            obtain ⟨hb16, h⟩ := ab_ck_e h
            refine z_iast 80 (pc2 := 69) (j := (a2).toNatClampNeg) rfl dX11_put_68 rfl rfl hb16 rfl ?_
            obtain ⟨s17, hs17, h⟩ := ab_lt_e h
            refine z_tops hs17 ?_
            refine z_iconst (pc2 := 70) rfl dX11_put_69 lt_i_1 ?_
            exact z_iret dX11_put_70 rfl rfl (fi_w h)
          · replace h := ab_neg hc14 h
            refine z_aload_n (pc2 := 51) rfl dX11_put_50 rfl ?_
            refine z_iconst (pc2 := 52) rfl dX11_put_51 lt_i_1 ?_
            obtain ⟨q18, hq18, h⟩ := ab_bnd h
            refine z_callVi 8 [.int (1 : Int32)] [some (.ref 8), some (.int (1 : Int32))] (pc2 := 55) rfl rfl dX11_put_52 ok_X11_refuse ⟨fun _ => rfl, fun _ => Nat.le_of_ble_eq_true rfl⟩ rfl rv_8 wd_346 wd_348 wd_0 rfl (e_X11_refuse hq18) ?_
            exact z_iret dX11_put_55 rfl rfl (fi_w h)
        · replace h := ab_pos hc12 h
          refine z_aload_n (pc2 := 31) rfl dX11_put_30 rfl ?_
          refine z_iconst (pc2 := 32) rfl dX11_put_31 lt_i_2 ?_
          obtain ⟨q19, hq19, h⟩ := ab_bnd h
          refine z_callVi 8 [.int (2 : Int32)] [some (.ref 8), some (.int (2 : Int32))] (pc2 := 35) rfl rfl dX11_put_32 ok_X11_refuse ⟨fun _ => rfl, fun _ => Nat.le_of_ble_eq_true rfl⟩ rfl rv_8 wd_346 wd_348 wd_0 rfl (e_X11_refuse hq19) ?_
          exact z_iret dX11_put_35 rfl rfl (fi_w h)
      · replace h := ab_neg hi20 h
        by_cases hi29 : a1 = (2 : Int32)
        · replace h := ab_pos hi29 h
          refine z_aaldR 20 81 (pc2 := 20) rfl dX11_put_19 rfl rfl (by rw [hi29]; rfl) (by rw [hi29]; rfl) ?_
          refine z_astore (pc2 := 22) (L2 := [some (.ref 8), some (.int a1), some (.int a2), some (.int a3), some (.ref 81)]) rfl dX11_put_20 (by decide) rfl rfl ?_
          refine z_aload (pc2 := 24) rfl dX11_put_22 rfl ?_
          refine z_getI 81 6 2 (pc2 := 27) rfl dX11_put_24 rfl rfl ff_6_2 wd_104 ?_
          refine z_if_ne (pc2 := 30) (tgt := 36) rfl dX11_put_27 (by decide) (fun hc21 => ?_) (fun hc21 => ?_)
          · replace h := ab_neg hc21 h
            refine z_iload_n (pc2 := 37) rfl dX11_put_36 rfl ?_
            refine z_aload (pc2 := 39) rfl dX11_put_37 rfl ?_
            refine z_getI 81 6 1 (pc2 := 42) rfl dX11_put_39 rfl rfl ff_6_1 wd_102 ?_
            refine z_iconst (pc2 := 43) rfl dX11_put_42 lt_i_1 ?_
            refine z_isub (pc2 := 44) rfl dX11_put_43 ?_
            obtain ⟨q22, hq22, h⟩ := ab_bnd h
            refine z_callSi [.int a2, .int ((σ 81 1) - (1 : Int32))] [some (.int a2), some (.int ((σ 81 1) - (1 : Int32)))] (pc2 := 47) rfl rfl dX11_put_44 ok_X11_outside ⟨fun _ => rfl, fun _ => Nat.le_of_ble_eq_true rfl⟩ rfl wd_343 wd_344 rfl (e_X11_outside hq22) ?_
            refine z_if_eq (pc2 := 50) (tgt := 56) rfl dX11_put_47 (by decide) (fun hc23 => ?_) (fun hc23 => ?_)
            · replace h := ab_pos hc23 h
              refine z_aload (pc2 := 58) rfl dX11_put_56 rfl ?_
              refine z_getR 81 6 0 82 (pc2 := 61) rfl dX11_put_58 rfl rfl ff_6_0 wd_99 rfl ?_
              refine z_iload_n (pc2 := 62) rfl dX11_put_61 rfl ?_
              refine z_aload (pc2 := 64) rfl dX11_put_62 rfl ?_
              refine z_iload_n (pc2 := 65) rfl dX11_put_64 rfl ?_
              obtain ⟨q24, hq24, h⟩ := ab_bnd h
              refine z_callVi 81 [.int a3] [some (.ref 81), some (.int a3)] (pc2 := 68) rfl rfl dX11_put_65 ok_X6_lowest ⟨fun _ => rfl, fun _ => Nat.le_of_ble_eq_true rfl⟩ rfl rv_81 wd_911 wd_912 wd_913 rfl (e_X6_lowest_81 hq24) ?_
              obtain ⟨hb25, h⟩ := ab_ck_e h
              refine z_iast 82 (pc2 := 69) (j := (a2).toNatClampNeg) rfl dX11_put_68 rfl rfl hb25 rfl ?_
              obtain ⟨s26, hs26, h⟩ := ab_lt_e h
              refine z_tops hs26 ?_
              refine z_iconst (pc2 := 70) rfl dX11_put_69 lt_i_1 ?_
              exact z_iret dX11_put_70 rfl rfl (fi_w h)
            · replace h := ab_neg hc23 h
              refine z_aload_n (pc2 := 51) rfl dX11_put_50 rfl ?_
              refine z_iconst (pc2 := 52) rfl dX11_put_51 lt_i_1 ?_
              obtain ⟨q27, hq27, h⟩ := ab_bnd h
              refine z_callVi 8 [.int (1 : Int32)] [some (.ref 8), some (.int (1 : Int32))] (pc2 := 55) rfl rfl dX11_put_52 ok_X11_refuse ⟨fun _ => rfl, fun _ => Nat.le_of_ble_eq_true rfl⟩ rfl rv_8 wd_346 wd_348 wd_0 rfl (e_X11_refuse hq27) ?_
              exact z_iret dX11_put_55 rfl rfl (fi_w h)
          · replace h := ab_pos hc21 h
            refine z_aload_n (pc2 := 31) rfl dX11_put_30 rfl ?_
            refine z_iconst (pc2 := 32) rfl dX11_put_31 lt_i_2 ?_
            obtain ⟨q28, hq28, h⟩ := ab_bnd h
            refine z_callVi 8 [.int (2 : Int32)] [some (.ref 8), some (.int (2 : Int32))] (pc2 := 35) rfl rfl dX11_put_32 ok_X11_refuse ⟨fun _ => rfl, fun _ => Nat.le_of_ble_eq_true rfl⟩ rfl rv_8 wd_346 wd_348 wd_0 rfl (e_X11_refuse hq28) ?_
            exact z_iret dX11_put_35 rfl rfl (fi_w h)
        · replace h := ab_neg hi29 h
          by_cases hi38 : a1 = (3 : Int32)
          · replace h := ab_pos hi38 h
            refine z_aaldR 20 83 (pc2 := 20) rfl dX11_put_19 rfl rfl (by rw [hi38]; rfl) (by rw [hi38]; rfl) ?_
            refine z_astore (pc2 := 22) (L2 := [some (.ref 8), some (.int a1), some (.int a2), some (.int a3), some (.ref 83)]) rfl dX11_put_20 (by decide) rfl rfl ?_
            refine z_aload (pc2 := 24) rfl dX11_put_22 rfl ?_
            refine z_getI 83 6 2 (pc2 := 27) rfl dX11_put_24 rfl rfl ff_6_2 wd_104 ?_
            refine z_if_ne (pc2 := 30) (tgt := 36) rfl dX11_put_27 (by decide) (fun hc30 => ?_) (fun hc30 => ?_)
            · replace h := ab_neg hc30 h
              refine z_iload_n (pc2 := 37) rfl dX11_put_36 rfl ?_
              refine z_aload (pc2 := 39) rfl dX11_put_37 rfl ?_
              refine z_getI 83 6 1 (pc2 := 42) rfl dX11_put_39 rfl rfl ff_6_1 wd_102 ?_
              refine z_iconst (pc2 := 43) rfl dX11_put_42 lt_i_1 ?_
              refine z_isub (pc2 := 44) rfl dX11_put_43 ?_
              obtain ⟨q31, hq31, h⟩ := ab_bnd h
              refine z_callSi [.int a2, .int ((σ 83 1) - (1 : Int32))] [some (.int a2), some (.int ((σ 83 1) - (1 : Int32)))] (pc2 := 47) rfl rfl dX11_put_44 ok_X11_outside ⟨fun _ => rfl, fun _ => Nat.le_of_ble_eq_true rfl⟩ rfl wd_343 wd_344 rfl (e_X11_outside hq31) ?_
              refine z_if_eq (pc2 := 50) (tgt := 56) rfl dX11_put_47 (by decide) (fun hc32 => ?_) (fun hc32 => ?_)
              · replace h := ab_pos hc32 h
                refine z_aload (pc2 := 58) rfl dX11_put_56 rfl ?_
                refine z_getR 83 6 0 84 (pc2 := 61) rfl dX11_put_58 rfl rfl ff_6_0 wd_99 rfl ?_
                refine z_iload_n (pc2 := 62) rfl dX11_put_61 rfl ?_
                refine z_aload (pc2 := 64) rfl dX11_put_62 rfl ?_
                refine z_iload_n (pc2 := 65) rfl dX11_put_64 rfl ?_
                obtain ⟨q33, hq33, h⟩ := ab_bnd h
                refine z_callVi 83 [.int a3] [some (.ref 83), some (.int a3)] (pc2 := 68) rfl rfl dX11_put_65 ok_X6_lowest ⟨fun _ => rfl, fun _ => Nat.le_of_ble_eq_true rfl⟩ rfl rv_83 wd_911 wd_912 wd_913 rfl (e_X6_lowest_83 hq33) ?_
                obtain ⟨hb34, h⟩ := ab_ck_e h
                refine z_iast 84 (pc2 := 69) (j := (a2).toNatClampNeg) rfl dX11_put_68 rfl rfl hb34 rfl ?_
                obtain ⟨s35, hs35, h⟩ := ab_lt_e h
                refine z_tops hs35 ?_
                refine z_iconst (pc2 := 70) rfl dX11_put_69 lt_i_1 ?_
                exact z_iret dX11_put_70 rfl rfl (fi_w h)
              · replace h := ab_neg hc32 h
                refine z_aload_n (pc2 := 51) rfl dX11_put_50 rfl ?_
                refine z_iconst (pc2 := 52) rfl dX11_put_51 lt_i_1 ?_
                obtain ⟨q36, hq36, h⟩ := ab_bnd h
                refine z_callVi 8 [.int (1 : Int32)] [some (.ref 8), some (.int (1 : Int32))] (pc2 := 55) rfl rfl dX11_put_52 ok_X11_refuse ⟨fun _ => rfl, fun _ => Nat.le_of_ble_eq_true rfl⟩ rfl rv_8 wd_346 wd_348 wd_0 rfl (e_X11_refuse hq36) ?_
                exact z_iret dX11_put_55 rfl rfl (fi_w h)
            · replace h := ab_pos hc30 h
              refine z_aload_n (pc2 := 31) rfl dX11_put_30 rfl ?_
              refine z_iconst (pc2 := 32) rfl dX11_put_31 lt_i_2 ?_
              obtain ⟨q37, hq37, h⟩ := ab_bnd h
              refine z_callVi 8 [.int (2 : Int32)] [some (.ref 8), some (.int (2 : Int32))] (pc2 := 35) rfl rfl dX11_put_32 ok_X11_refuse ⟨fun _ => rfl, fun _ => Nat.le_of_ble_eq_true rfl⟩ rfl rv_8 wd_346 wd_348 wd_0 rfl (e_X11_refuse hq37) ?_
              exact z_iret dX11_put_35 rfl rfl (fi_w h)
          · replace h := ab_neg hi38 h
            cases h
  · replace h := ab_neg hc2 h
    refine z_aload_n (pc2 := 9) rfl dX11_put_8 rfl ?_
    refine z_iconst (pc2 := 10) rfl dX11_put_9 lt_i_1 ?_
    obtain ⟨q39, hq39, h⟩ := ab_bnd h
    refine z_callVi 8 [.int (1 : Int32)] [some (.ref 8), some (.int (1 : Int32))] (pc2 := 13) rfl rfl dX11_put_10 ok_X11_refuse ⟨fun _ => rfl, fun _ => Nat.le_of_ble_eq_true rfl⟩ rfl rv_8 wd_346 wd_348 wd_0 rfl (e_X11_refuse hq39) ?_
    exact z_iret dX11_put_13 rfl rfl (fi_w h)
def f_X11_move (a1 : Int32) (a2 : Int32) (a3 : Int32) (a4 : Int32) (a5 : Int32) (σ : ab_F) : Option (Int32 × ab_F) := (f_X11_outside a1 (3 : Int32) σ).bind (fun q1 => (if (ab_b q1) = 0 then (f_X11_outside a3 (3 : Int32) σ).bind (fun q4 => (if (ab_b q4) = 0 then (if a1 = (0 : Int32) then (if a3 = (0 : Int32) then (if (σ 77 2) = 0 then (f_X11_refuse (2 : Int32) σ).bind (fun q7 => (some (q7.1, q7.2))) else (if (σ 77 2) = 0 then (f_X11_refuse (2 : Int32) σ).bind (fun q22 => (some (q22.1, q22.2))) else (if (σ 77 2) = (σ 77 2) then (f_X11_outside a5 (24 : Int32) σ).bind (fun q10 => (if (ab_b q10) = 0 then (f_X11_outside a2 ((σ 77 1) - a5) σ).bind (fun q13 => (if (ab_b q13) = 0 then (f_X11_outside a4 ((σ 77 1) - a5) σ).bind (fun q16 => (if (ab_b q16) = 0 then ab_ck (ab_cp a2 a4 a5 24 24) (ab_lt (ab_r σ 78 (va_cpy (σ 78) (σ 78) (a2).toNatClampNeg (a4).toNatClampNeg (a5).toNatClampNeg)) (fun (s19 : ab_F) => (some (a5, s19)))) else (f_X11_refuse (1 : Int32) σ).bind (fun q20 => (some (q20.1, q20.2))))) else (f_X11_refuse (1 : Int32) σ).bind (fun q15 => (some (q15.1, q15.2))))) else (f_X11_refuse (1 : Int32) σ).bind (fun q12 => (some (q12.1, q12.2))))) else (f_X11_refuse (5 : Int32) σ).bind (fun q21 => (some (q21.1, q21.2)))))) else if a3 = (1 : Int32) then (if (σ 77 2) = 0 then (f_X11_refuse (2 : Int32) σ).bind (fun q25 => (some (q25.1, q25.2))) else (if (σ 79 2) = 0 then (f_X11_refuse (2 : Int32) σ).bind (fun q40 => (some (q40.1, q40.2))) else (if (σ 77 2) = (σ 79 2) then (f_X11_outside a5 (24 : Int32) σ).bind (fun q28 => (if (ab_b q28) = 0 then (f_X11_outside a2 ((σ 77 1) - a5) σ).bind (fun q31 => (if (ab_b q31) = 0 then (f_X11_outside a4 ((σ 79 1) - a5) σ).bind (fun q34 => (if (ab_b q34) = 0 then ab_ck (ab_cp a2 a4 a5 24 24) (ab_lt (ab_r σ 80 (va_cpy (σ 78) (σ 80) (a2).toNatClampNeg (a4).toNatClampNeg (a5).toNatClampNeg)) (fun (s37 : ab_F) => (some (a5, s37)))) else (f_X11_refuse (1 : Int32) σ).bind (fun q38 => (some (q38.1, q38.2))))) else (f_X11_refuse (1 : Int32) σ).bind (fun q33 => (some (q33.1, q33.2))))) else (f_X11_refuse (1 : Int32) σ).bind (fun q30 => (some (q30.1, q30.2))))) else (f_X11_refuse (5 : Int32) σ).bind (fun q39 => (some (q39.1, q39.2)))))) else if a3 = (2 : Int32) then (if (σ 77 2) = 0 then (f_X11_refuse (2 : Int32) σ).bind (fun q43 => (some (q43.1, q43.2))) else (if (σ 81 2) = 0 then (f_X11_refuse (2 : Int32) σ).bind (fun q58 => (some (q58.1, q58.2))) else (if (σ 77 2) = (σ 81 2) then (f_X11_outside a5 (24 : Int32) σ).bind (fun q46 => (if (ab_b q46) = 0 then (f_X11_outside a2 ((σ 77 1) - a5) σ).bind (fun q49 => (if (ab_b q49) = 0 then (f_X11_outside a4 ((σ 81 1) - a5) σ).bind (fun q52 => (if (ab_b q52) = 0 then ab_ck (ab_cp a2 a4 a5 24 24) (ab_lt (ab_r σ 82 (va_cpy (σ 78) (σ 82) (a2).toNatClampNeg (a4).toNatClampNeg (a5).toNatClampNeg)) (fun (s55 : ab_F) => (some (a5, s55)))) else (f_X11_refuse (1 : Int32) σ).bind (fun q56 => (some (q56.1, q56.2))))) else (f_X11_refuse (1 : Int32) σ).bind (fun q51 => (some (q51.1, q51.2))))) else (f_X11_refuse (1 : Int32) σ).bind (fun q48 => (some (q48.1, q48.2))))) else (f_X11_refuse (5 : Int32) σ).bind (fun q57 => (some (q57.1, q57.2)))))) else if a3 = (3 : Int32) then (if (σ 77 2) = 0 then (f_X11_refuse (2 : Int32) σ).bind (fun q61 => (some (q61.1, q61.2))) else (if (σ 83 2) = 0 then (f_X11_refuse (2 : Int32) σ).bind (fun q76 => (some (q76.1, q76.2))) else (if (σ 77 2) = (σ 83 2) then (f_X11_outside a5 (24 : Int32) σ).bind (fun q64 => (if (ab_b q64) = 0 then (f_X11_outside a2 ((σ 77 1) - a5) σ).bind (fun q67 => (if (ab_b q67) = 0 then (f_X11_outside a4 ((σ 83 1) - a5) σ).bind (fun q70 => (if (ab_b q70) = 0 then ab_ck (ab_cp a2 a4 a5 24 24) (ab_lt (ab_r σ 84 (va_cpy (σ 78) (σ 84) (a2).toNatClampNeg (a4).toNatClampNeg (a5).toNatClampNeg)) (fun (s73 : ab_F) => (some (a5, s73)))) else (f_X11_refuse (1 : Int32) σ).bind (fun q74 => (some (q74.1, q74.2))))) else (f_X11_refuse (1 : Int32) σ).bind (fun q69 => (some (q69.1, q69.2))))) else (f_X11_refuse (1 : Int32) σ).bind (fun q66 => (some (q66.1, q66.2))))) else (f_X11_refuse (5 : Int32) σ).bind (fun q75 => (some (q75.1, q75.2)))))) else none) else if a1 = (1 : Int32) then (if a3 = (0 : Int32) then (if (σ 79 2) = 0 then (f_X11_refuse (2 : Int32) σ).bind (fun q80 => (some (q80.1, q80.2))) else (if (σ 77 2) = 0 then (f_X11_refuse (2 : Int32) σ).bind (fun q95 => (some (q95.1, q95.2))) else (if (σ 79 2) = (σ 77 2) then (f_X11_outside a5 (24 : Int32) σ).bind (fun q83 => (if (ab_b q83) = 0 then (f_X11_outside a2 ((σ 79 1) - a5) σ).bind (fun q86 => (if (ab_b q86) = 0 then (f_X11_outside a4 ((σ 77 1) - a5) σ).bind (fun q89 => (if (ab_b q89) = 0 then ab_ck (ab_cp a2 a4 a5 24 24) (ab_lt (ab_r σ 78 (va_cpy (σ 80) (σ 78) (a2).toNatClampNeg (a4).toNatClampNeg (a5).toNatClampNeg)) (fun (s92 : ab_F) => (some (a5, s92)))) else (f_X11_refuse (1 : Int32) σ).bind (fun q93 => (some (q93.1, q93.2))))) else (f_X11_refuse (1 : Int32) σ).bind (fun q88 => (some (q88.1, q88.2))))) else (f_X11_refuse (1 : Int32) σ).bind (fun q85 => (some (q85.1, q85.2))))) else (f_X11_refuse (5 : Int32) σ).bind (fun q94 => (some (q94.1, q94.2)))))) else if a3 = (1 : Int32) then (if (σ 79 2) = 0 then (f_X11_refuse (2 : Int32) σ).bind (fun q98 => (some (q98.1, q98.2))) else (if (σ 79 2) = 0 then (f_X11_refuse (2 : Int32) σ).bind (fun q113 => (some (q113.1, q113.2))) else (if (σ 79 2) = (σ 79 2) then (f_X11_outside a5 (24 : Int32) σ).bind (fun q101 => (if (ab_b q101) = 0 then (f_X11_outside a2 ((σ 79 1) - a5) σ).bind (fun q104 => (if (ab_b q104) = 0 then (f_X11_outside a4 ((σ 79 1) - a5) σ).bind (fun q107 => (if (ab_b q107) = 0 then ab_ck (ab_cp a2 a4 a5 24 24) (ab_lt (ab_r σ 80 (va_cpy (σ 80) (σ 80) (a2).toNatClampNeg (a4).toNatClampNeg (a5).toNatClampNeg)) (fun (s110 : ab_F) => (some (a5, s110)))) else (f_X11_refuse (1 : Int32) σ).bind (fun q111 => (some (q111.1, q111.2))))) else (f_X11_refuse (1 : Int32) σ).bind (fun q106 => (some (q106.1, q106.2))))) else (f_X11_refuse (1 : Int32) σ).bind (fun q103 => (some (q103.1, q103.2))))) else (f_X11_refuse (5 : Int32) σ).bind (fun q112 => (some (q112.1, q112.2)))))) else if a3 = (2 : Int32) then (if (σ 79 2) = 0 then (f_X11_refuse (2 : Int32) σ).bind (fun q116 => (some (q116.1, q116.2))) else (if (σ 81 2) = 0 then (f_X11_refuse (2 : Int32) σ).bind (fun q131 => (some (q131.1, q131.2))) else (if (σ 79 2) = (σ 81 2) then (f_X11_outside a5 (24 : Int32) σ).bind (fun q119 => (if (ab_b q119) = 0 then (f_X11_outside a2 ((σ 79 1) - a5) σ).bind (fun q122 => (if (ab_b q122) = 0 then (f_X11_outside a4 ((σ 81 1) - a5) σ).bind (fun q125 => (if (ab_b q125) = 0 then ab_ck (ab_cp a2 a4 a5 24 24) (ab_lt (ab_r σ 82 (va_cpy (σ 80) (σ 82) (a2).toNatClampNeg (a4).toNatClampNeg (a5).toNatClampNeg)) (fun (s128 : ab_F) => (some (a5, s128)))) else (f_X11_refuse (1 : Int32) σ).bind (fun q129 => (some (q129.1, q129.2))))) else (f_X11_refuse (1 : Int32) σ).bind (fun q124 => (some (q124.1, q124.2))))) else (f_X11_refuse (1 : Int32) σ).bind (fun q121 => (some (q121.1, q121.2))))) else (f_X11_refuse (5 : Int32) σ).bind (fun q130 => (some (q130.1, q130.2)))))) else if a3 = (3 : Int32) then (if (σ 79 2) = 0 then (f_X11_refuse (2 : Int32) σ).bind (fun q134 => (some (q134.1, q134.2))) else (if (σ 83 2) = 0 then (f_X11_refuse (2 : Int32) σ).bind (fun q149 => (some (q149.1, q149.2))) else (if (σ 79 2) = (σ 83 2) then (f_X11_outside a5 (24 : Int32) σ).bind (fun q137 => (if (ab_b q137) = 0 then (f_X11_outside a2 ((σ 79 1) - a5) σ).bind (fun q140 => (if (ab_b q140) = 0 then (f_X11_outside a4 ((σ 83 1) - a5) σ).bind (fun q143 => (if (ab_b q143) = 0 then ab_ck (ab_cp a2 a4 a5 24 24) (ab_lt (ab_r σ 84 (va_cpy (σ 80) (σ 84) (a2).toNatClampNeg (a4).toNatClampNeg (a5).toNatClampNeg)) (fun (s146 : ab_F) => (some (a5, s146)))) else (f_X11_refuse (1 : Int32) σ).bind (fun q147 => (some (q147.1, q147.2))))) else (f_X11_refuse (1 : Int32) σ).bind (fun q142 => (some (q142.1, q142.2))))) else (f_X11_refuse (1 : Int32) σ).bind (fun q139 => (some (q139.1, q139.2))))) else (f_X11_refuse (5 : Int32) σ).bind (fun q148 => (some (q148.1, q148.2)))))) else none) else if a1 = (2 : Int32) then (if a3 = (0 : Int32) then (if (σ 81 2) = 0 then (f_X11_refuse (2 : Int32) σ).bind (fun q153 => (some (q153.1, q153.2))) else (if (σ 77 2) = 0 then (f_X11_refuse (2 : Int32) σ).bind (fun q168 => (some (q168.1, q168.2))) else (if (σ 81 2) = (σ 77 2) then (f_X11_outside a5 (24 : Int32) σ).bind (fun q156 => (if (ab_b q156) = 0 then (f_X11_outside a2 ((σ 81 1) - a5) σ).bind (fun q159 => (if (ab_b q159) = 0 then (f_X11_outside a4 ((σ 77 1) - a5) σ).bind (fun q162 => (if (ab_b q162) = 0 then ab_ck (ab_cp a2 a4 a5 24 24) (ab_lt (ab_r σ 78 (va_cpy (σ 82) (σ 78) (a2).toNatClampNeg (a4).toNatClampNeg (a5).toNatClampNeg)) (fun (s165 : ab_F) => (some (a5, s165)))) else (f_X11_refuse (1 : Int32) σ).bind (fun q166 => (some (q166.1, q166.2))))) else (f_X11_refuse (1 : Int32) σ).bind (fun q161 => (some (q161.1, q161.2))))) else (f_X11_refuse (1 : Int32) σ).bind (fun q158 => (some (q158.1, q158.2))))) else (f_X11_refuse (5 : Int32) σ).bind (fun q167 => (some (q167.1, q167.2)))))) else if a3 = (1 : Int32) then (if (σ 81 2) = 0 then (f_X11_refuse (2 : Int32) σ).bind (fun q171 => (some (q171.1, q171.2))) else (if (σ 79 2) = 0 then (f_X11_refuse (2 : Int32) σ).bind (fun q186 => (some (q186.1, q186.2))) else (if (σ 81 2) = (σ 79 2) then (f_X11_outside a5 (24 : Int32) σ).bind (fun q174 => (if (ab_b q174) = 0 then (f_X11_outside a2 ((σ 81 1) - a5) σ).bind (fun q177 => (if (ab_b q177) = 0 then (f_X11_outside a4 ((σ 79 1) - a5) σ).bind (fun q180 => (if (ab_b q180) = 0 then ab_ck (ab_cp a2 a4 a5 24 24) (ab_lt (ab_r σ 80 (va_cpy (σ 82) (σ 80) (a2).toNatClampNeg (a4).toNatClampNeg (a5).toNatClampNeg)) (fun (s183 : ab_F) => (some (a5, s183)))) else (f_X11_refuse (1 : Int32) σ).bind (fun q184 => (some (q184.1, q184.2))))) else (f_X11_refuse (1 : Int32) σ).bind (fun q179 => (some (q179.1, q179.2))))) else (f_X11_refuse (1 : Int32) σ).bind (fun q176 => (some (q176.1, q176.2))))) else (f_X11_refuse (5 : Int32) σ).bind (fun q185 => (some (q185.1, q185.2)))))) else if a3 = (2 : Int32) then (if (σ 81 2) = 0 then (f_X11_refuse (2 : Int32) σ).bind (fun q189 => (some (q189.1, q189.2))) else (if (σ 81 2) = 0 then (f_X11_refuse (2 : Int32) σ).bind (fun q204 => (some (q204.1, q204.2))) else (if (σ 81 2) = (σ 81 2) then (f_X11_outside a5 (24 : Int32) σ).bind (fun q192 => (if (ab_b q192) = 0 then (f_X11_outside a2 ((σ 81 1) - a5) σ).bind (fun q195 => (if (ab_b q195) = 0 then (f_X11_outside a4 ((σ 81 1) - a5) σ).bind (fun q198 => (if (ab_b q198) = 0 then ab_ck (ab_cp a2 a4 a5 24 24) (ab_lt (ab_r σ 82 (va_cpy (σ 82) (σ 82) (a2).toNatClampNeg (a4).toNatClampNeg (a5).toNatClampNeg)) (fun (s201 : ab_F) => (some (a5, s201)))) else (f_X11_refuse (1 : Int32) σ).bind (fun q202 => (some (q202.1, q202.2))))) else (f_X11_refuse (1 : Int32) σ).bind (fun q197 => (some (q197.1, q197.2))))) else (f_X11_refuse (1 : Int32) σ).bind (fun q194 => (some (q194.1, q194.2))))) else (f_X11_refuse (5 : Int32) σ).bind (fun q203 => (some (q203.1, q203.2)))))) else if a3 = (3 : Int32) then (if (σ 81 2) = 0 then (f_X11_refuse (2 : Int32) σ).bind (fun q207 => (some (q207.1, q207.2))) else (if (σ 83 2) = 0 then (f_X11_refuse (2 : Int32) σ).bind (fun q222 => (some (q222.1, q222.2))) else (if (σ 81 2) = (σ 83 2) then (f_X11_outside a5 (24 : Int32) σ).bind (fun q210 => (if (ab_b q210) = 0 then (f_X11_outside a2 ((σ 81 1) - a5) σ).bind (fun q213 => (if (ab_b q213) = 0 then (f_X11_outside a4 ((σ 83 1) - a5) σ).bind (fun q216 => (if (ab_b q216) = 0 then ab_ck (ab_cp a2 a4 a5 24 24) (ab_lt (ab_r σ 84 (va_cpy (σ 82) (σ 84) (a2).toNatClampNeg (a4).toNatClampNeg (a5).toNatClampNeg)) (fun (s219 : ab_F) => (some (a5, s219)))) else (f_X11_refuse (1 : Int32) σ).bind (fun q220 => (some (q220.1, q220.2))))) else (f_X11_refuse (1 : Int32) σ).bind (fun q215 => (some (q215.1, q215.2))))) else (f_X11_refuse (1 : Int32) σ).bind (fun q212 => (some (q212.1, q212.2))))) else (f_X11_refuse (5 : Int32) σ).bind (fun q221 => (some (q221.1, q221.2)))))) else none) else if a1 = (3 : Int32) then (if a3 = (0 : Int32) then (if (σ 83 2) = 0 then (f_X11_refuse (2 : Int32) σ).bind (fun q226 => (some (q226.1, q226.2))) else (if (σ 77 2) = 0 then (f_X11_refuse (2 : Int32) σ).bind (fun q241 => (some (q241.1, q241.2))) else (if (σ 83 2) = (σ 77 2) then (f_X11_outside a5 (24 : Int32) σ).bind (fun q229 => (if (ab_b q229) = 0 then (f_X11_outside a2 ((σ 83 1) - a5) σ).bind (fun q232 => (if (ab_b q232) = 0 then (f_X11_outside a4 ((σ 77 1) - a5) σ).bind (fun q235 => (if (ab_b q235) = 0 then ab_ck (ab_cp a2 a4 a5 24 24) (ab_lt (ab_r σ 78 (va_cpy (σ 84) (σ 78) (a2).toNatClampNeg (a4).toNatClampNeg (a5).toNatClampNeg)) (fun (s238 : ab_F) => (some (a5, s238)))) else (f_X11_refuse (1 : Int32) σ).bind (fun q239 => (some (q239.1, q239.2))))) else (f_X11_refuse (1 : Int32) σ).bind (fun q234 => (some (q234.1, q234.2))))) else (f_X11_refuse (1 : Int32) σ).bind (fun q231 => (some (q231.1, q231.2))))) else (f_X11_refuse (5 : Int32) σ).bind (fun q240 => (some (q240.1, q240.2)))))) else if a3 = (1 : Int32) then (if (σ 83 2) = 0 then (f_X11_refuse (2 : Int32) σ).bind (fun q244 => (some (q244.1, q244.2))) else (if (σ 79 2) = 0 then (f_X11_refuse (2 : Int32) σ).bind (fun q259 => (some (q259.1, q259.2))) else (if (σ 83 2) = (σ 79 2) then (f_X11_outside a5 (24 : Int32) σ).bind (fun q247 => (if (ab_b q247) = 0 then (f_X11_outside a2 ((σ 83 1) - a5) σ).bind (fun q250 => (if (ab_b q250) = 0 then (f_X11_outside a4 ((σ 79 1) - a5) σ).bind (fun q253 => (if (ab_b q253) = 0 then ab_ck (ab_cp a2 a4 a5 24 24) (ab_lt (ab_r σ 80 (va_cpy (σ 84) (σ 80) (a2).toNatClampNeg (a4).toNatClampNeg (a5).toNatClampNeg)) (fun (s256 : ab_F) => (some (a5, s256)))) else (f_X11_refuse (1 : Int32) σ).bind (fun q257 => (some (q257.1, q257.2))))) else (f_X11_refuse (1 : Int32) σ).bind (fun q252 => (some (q252.1, q252.2))))) else (f_X11_refuse (1 : Int32) σ).bind (fun q249 => (some (q249.1, q249.2))))) else (f_X11_refuse (5 : Int32) σ).bind (fun q258 => (some (q258.1, q258.2)))))) else if a3 = (2 : Int32) then (if (σ 83 2) = 0 then (f_X11_refuse (2 : Int32) σ).bind (fun q262 => (some (q262.1, q262.2))) else (if (σ 81 2) = 0 then (f_X11_refuse (2 : Int32) σ).bind (fun q277 => (some (q277.1, q277.2))) else (if (σ 83 2) = (σ 81 2) then (f_X11_outside a5 (24 : Int32) σ).bind (fun q265 => (if (ab_b q265) = 0 then (f_X11_outside a2 ((σ 83 1) - a5) σ).bind (fun q268 => (if (ab_b q268) = 0 then (f_X11_outside a4 ((σ 81 1) - a5) σ).bind (fun q271 => (if (ab_b q271) = 0 then ab_ck (ab_cp a2 a4 a5 24 24) (ab_lt (ab_r σ 82 (va_cpy (σ 84) (σ 82) (a2).toNatClampNeg (a4).toNatClampNeg (a5).toNatClampNeg)) (fun (s274 : ab_F) => (some (a5, s274)))) else (f_X11_refuse (1 : Int32) σ).bind (fun q275 => (some (q275.1, q275.2))))) else (f_X11_refuse (1 : Int32) σ).bind (fun q270 => (some (q270.1, q270.2))))) else (f_X11_refuse (1 : Int32) σ).bind (fun q267 => (some (q267.1, q267.2))))) else (f_X11_refuse (5 : Int32) σ).bind (fun q276 => (some (q276.1, q276.2)))))) else if a3 = (3 : Int32) then (if (σ 83 2) = 0 then (f_X11_refuse (2 : Int32) σ).bind (fun q280 => (some (q280.1, q280.2))) else (if (σ 83 2) = 0 then (f_X11_refuse (2 : Int32) σ).bind (fun q295 => (some (q295.1, q295.2))) else (if (σ 83 2) = (σ 83 2) then (f_X11_outside a5 (24 : Int32) σ).bind (fun q283 => (if (ab_b q283) = 0 then (f_X11_outside a2 ((σ 83 1) - a5) σ).bind (fun q286 => (if (ab_b q286) = 0 then (f_X11_outside a4 ((σ 83 1) - a5) σ).bind (fun q289 => (if (ab_b q289) = 0 then ab_ck (ab_cp a2 a4 a5 24 24) (ab_lt (ab_r σ 84 (va_cpy (σ 84) (σ 84) (a2).toNatClampNeg (a4).toNatClampNeg (a5).toNatClampNeg)) (fun (s292 : ab_F) => (some (a5, s292)))) else (f_X11_refuse (1 : Int32) σ).bind (fun q293 => (some (q293.1, q293.2))))) else (f_X11_refuse (1 : Int32) σ).bind (fun q288 => (some (q288.1, q288.2))))) else (f_X11_refuse (1 : Int32) σ).bind (fun q285 => (some (q285.1, q285.2))))) else (f_X11_refuse (5 : Int32) σ).bind (fun q294 => (some (q294.1, q294.2)))))) else none) else none) else (f_X11_refuse (1 : Int32) σ).bind (fun q298 => (some (q298.1, q298.2))))) else (f_X11_refuse (1 : Int32) σ).bind (fun q3 => (some (q3.1, q3.2)))))
set_option maxRecDepth 100000 in
set_option maxHeartbeats 4000000 in
theorem e_X11_move {sc : Nat × (Nat → Int32)} {r : Option Nat × Option Nat} {a1 : Int32} {a2 : Int32} {a3 : Int32} {a4 : Int32} {a5 : Int32} {σ : ab_F} {res : (Int32 × ab_F)} (h : f_X11_move a1 a2 a3 a4 a5 σ = some res) : ab_E mX11_move 1 sc 0 [some (.ref 8), some (.int a1), some (.int a2), some (.int a3), some (.int a4), some (.int a5), none, none] [] (σ, r) (fun v S => v = some (.int res.1) ∧ S = (res.2, r)) := by
  unfold f_X11_move at h
  refine z_iload_n (pc2 := 1) rfl dX11_move_0 rfl ?_
  refine z_iconst (pc2 := 2) rfl dX11_move_1 lt_i_3 ?_
  obtain ⟨q1, hq1, h⟩ := ab_bnd h
  refine z_callSi [.int a1, .int (3 : Int32)] [some (.int a1), some (.int (3 : Int32))] (pc2 := 5) rfl rfl dX11_move_2 ok_X11_outside ⟨fun _ => rfl, fun _ => Nat.le_of_ble_eq_true rfl⟩ rfl wd_343 wd_344 rfl (e_X11_outside hq1) ?_
  refine z_if_ne (pc2 := 8) (tgt := 16) rfl dX11_move_5 (by decide) (fun hc2 => ?_) (fun hc2 => ?_)
  · replace h := ab_neg hc2 h
    refine z_aload_n (pc2 := 17) rfl dX11_move_16 rfl ?_
    refine z_iconst (pc2 := 18) rfl dX11_move_17 lt_i_1 ?_
    obtain ⟨q3, hq3, h⟩ := ab_bnd h
    refine z_callVi 8 [.int (1 : Int32)] [some (.ref 8), some (.int (1 : Int32))] (pc2 := 21) rfl rfl dX11_move_18 ok_X11_refuse ⟨fun _ => rfl, fun _ => Nat.le_of_ble_eq_true rfl⟩ rfl rv_8 wd_346 wd_348 wd_0 rfl (e_X11_refuse hq3) ?_
    exact z_iret dX11_move_21 rfl rfl (fi_w h)
  · replace h := ab_pos hc2 h
    refine z_iload_n (pc2 := 9) rfl dX11_move_8 rfl ?_
    refine z_iconst (pc2 := 10) rfl dX11_move_9 lt_i_3 ?_
    obtain ⟨q4, hq4, h⟩ := ab_bnd h
    refine z_callSi [.int a3, .int (3 : Int32)] [some (.int a3), some (.int (3 : Int32))] (pc2 := 13) rfl rfl dX11_move_10 ok_X11_outside ⟨fun _ => rfl, fun _ => Nat.le_of_ble_eq_true rfl⟩ rfl wd_343 wd_344 rfl (e_X11_outside hq4) ?_
    refine z_if_eq (pc2 := 16) (tgt := 22) rfl dX11_move_13 (by decide) (fun hc5 => ?_) (fun hc5 => ?_)
    · replace h := ab_pos hc5 h
      refine z_aload_n (pc2 := 23) rfl dX11_move_22 rfl ?_
      refine z_getR 8 11 8 20 (pc2 := 26) rfl dX11_move_23 rfl rfl ff_11_8 wd_310 rfl ?_
      refine z_iload_n (pc2 := 27) rfl dX11_move_26 rfl ?_
      by_cases hi78 : a1 = (0 : Int32)
      · replace h := ab_pos hi78 h
        refine z_aaldR 20 77 (pc2 := 28) rfl dX11_move_27 rfl rfl (by rw [hi78]; rfl) (by rw [hi78]; rfl) ?_
        refine z_astore (pc2 := 30) (L2 := [some (.ref 8), some (.int a1), some (.int a2), some (.int a3), some (.int a4), some (.int a5), some (.ref 77), none]) rfl dX11_move_28 (by decide) rfl rfl ?_
        refine z_aload_n (pc2 := 31) rfl dX11_move_30 rfl ?_
        refine z_getR 8 11 8 20 (pc2 := 34) rfl dX11_move_31 rfl rfl ff_11_8 wd_310 rfl ?_
        refine z_iload_n (pc2 := 35) rfl dX11_move_34 rfl ?_
        by_cases hi23 : a3 = (0 : Int32)
        · replace h := ab_pos hi23 h
          refine z_aaldR 20 77 (pc2 := 36) rfl dX11_move_35 rfl rfl (by rw [hi23]; rfl) (by rw [hi23]; rfl) ?_
          refine z_astore (pc2 := 38) (L2 := [some (.ref 8), some (.int a1), some (.int a2), some (.int a3), some (.int a4), some (.int a5), some (.ref 77), some (.ref 77)]) rfl dX11_move_36 (by decide) rfl rfl ?_
          refine z_aload (pc2 := 40) rfl dX11_move_38 rfl ?_
          refine z_getI 77 6 2 (pc2 := 43) rfl dX11_move_40 rfl rfl ff_6_2 wd_104 ?_
          refine z_if_eq (pc2 := 46) (tgt := 54) rfl dX11_move_43 (by decide) (fun hc6 => ?_) (fun hc6 => ?_)
          · replace h := ab_pos hc6 h
            refine z_aload_n (pc2 := 55) rfl dX11_move_54 rfl ?_
            refine z_iconst (pc2 := 56) rfl dX11_move_55 lt_i_2 ?_
            obtain ⟨q7, hq7, h⟩ := ab_bnd h
            refine z_callVi 8 [.int (2 : Int32)] [some (.ref 8), some (.int (2 : Int32))] (pc2 := 59) rfl rfl dX11_move_56 ok_X11_refuse ⟨fun _ => rfl, fun _ => Nat.le_of_ble_eq_true rfl⟩ rfl rv_8 wd_346 wd_348 wd_0 rfl (e_X11_refuse hq7) ?_
            exact z_iret dX11_move_59 rfl rfl (fi_w h)
          · replace h := ab_neg hc6 h
            refine z_aload (pc2 := 48) rfl dX11_move_46 rfl ?_
            refine z_getI 77 6 2 (pc2 := 51) rfl dX11_move_48 rfl rfl ff_6_2 wd_104 ?_
            refine z_if_ne (pc2 := 54) (tgt := 60) rfl dX11_move_51 (by decide) (fun hc8 => ?_) (fun hc8 => ?_)
            · replace h := ab_neg hc8 h
              refine z_aload (pc2 := 62) rfl dX11_move_60 rfl ?_
              refine z_getI 77 6 2 (pc2 := 65) rfl dX11_move_62 rfl rfl ff_6_2 wd_104 ?_
              refine z_aload (pc2 := 67) rfl dX11_move_65 rfl ?_
              refine z_getI 77 6 2 (pc2 := 70) rfl dX11_move_67 rfl rfl ff_6_2 wd_104 ?_
              refine z_icmp_eq (pc2 := 73) (tgt := 79) rfl dX11_move_70 (by decide) (fun hc9 => ?_) (fun hc9 => ?_)
              · replace h := ab_pos hc9 h
                refine z_iload (pc2 := 81) rfl dX11_move_79 rfl ?_
                refine z_bipush (pc2 := 83) rfl dX11_move_81 lt_b_24 ?_
                obtain ⟨q10, hq10, h⟩ := ab_bnd h
                refine z_callSi [.int a5, .int (24 : Int32)] [some (.int a5), some (.int (24 : Int32))] (pc2 := 86) rfl rfl dX11_move_83 ok_X11_outside ⟨fun _ => rfl, fun _ => Nat.le_of_ble_eq_true rfl⟩ rfl wd_343 wd_344 rfl (e_X11_outside hq10) ?_
                refine z_if_ne (pc2 := 89) (tgt := 120) rfl dX11_move_86 (by decide) (fun hc11 => ?_) (fun hc11 => ?_)
                · replace h := ab_neg hc11 h
                  refine z_aload_n (pc2 := 121) rfl dX11_move_120 rfl ?_
                  refine z_iconst (pc2 := 122) rfl dX11_move_121 lt_i_1 ?_
                  obtain ⟨q12, hq12, h⟩ := ab_bnd h
                  refine z_callVi 8 [.int (1 : Int32)] [some (.ref 8), some (.int (1 : Int32))] (pc2 := 125) rfl rfl dX11_move_122 ok_X11_refuse ⟨fun _ => rfl, fun _ => Nat.le_of_ble_eq_true rfl⟩ rfl rv_8 wd_346 wd_348 wd_0 rfl (e_X11_refuse hq12) ?_
                  exact z_iret dX11_move_125 rfl rfl (fi_w h)
                · replace h := ab_pos hc11 h
                  refine z_iload_n (pc2 := 90) rfl dX11_move_89 rfl ?_
                  refine z_aload (pc2 := 92) rfl dX11_move_90 rfl ?_
                  refine z_getI 77 6 1 (pc2 := 95) rfl dX11_move_92 rfl rfl ff_6_1 wd_102 ?_
                  refine z_iload (pc2 := 97) rfl dX11_move_95 rfl ?_
                  refine z_isub (pc2 := 98) rfl dX11_move_97 ?_
                  obtain ⟨q13, hq13, h⟩ := ab_bnd h
                  refine z_callSi [.int a2, .int ((σ 77 1) - a5)] [some (.int a2), some (.int ((σ 77 1) - a5))] (pc2 := 101) rfl rfl dX11_move_98 ok_X11_outside ⟨fun _ => rfl, fun _ => Nat.le_of_ble_eq_true rfl⟩ rfl wd_343 wd_344 rfl (e_X11_outside hq13) ?_
                  refine z_if_ne (pc2 := 104) (tgt := 120) rfl dX11_move_101 (by decide) (fun hc14 => ?_) (fun hc14 => ?_)
                  · replace h := ab_neg hc14 h
                    refine z_aload_n (pc2 := 121) rfl dX11_move_120 rfl ?_
                    refine z_iconst (pc2 := 122) rfl dX11_move_121 lt_i_1 ?_
                    obtain ⟨q15, hq15, h⟩ := ab_bnd h
                    refine z_callVi 8 [.int (1 : Int32)] [some (.ref 8), some (.int (1 : Int32))] (pc2 := 125) rfl rfl dX11_move_122 ok_X11_refuse ⟨fun _ => rfl, fun _ => Nat.le_of_ble_eq_true rfl⟩ rfl rv_8 wd_346 wd_348 wd_0 rfl (e_X11_refuse hq15) ?_
                    exact z_iret dX11_move_125 rfl rfl (fi_w h)
                  · replace h := ab_pos hc14 h
                    refine z_iload (pc2 := 106) rfl dX11_move_104 rfl ?_
                    refine z_aload (pc2 := 108) rfl dX11_move_106 rfl ?_
                    refine z_getI 77 6 1 (pc2 := 111) rfl dX11_move_108 rfl rfl ff_6_1 wd_102 ?_
                    refine z_iload (pc2 := 113) rfl dX11_move_111 rfl ?_
                    refine z_isub (pc2 := 114) rfl dX11_move_113 ?_
                    obtain ⟨q16, hq16, h⟩ := ab_bnd h
                    refine z_callSi [.int a4, .int ((σ 77 1) - a5)] [some (.int a4), some (.int ((σ 77 1) - a5))] (pc2 := 117) rfl rfl dX11_move_114 ok_X11_outside ⟨fun _ => rfl, fun _ => Nat.le_of_ble_eq_true rfl⟩ rfl wd_343 wd_344 rfl (e_X11_outside hq16) ?_
                    refine z_if_eq (pc2 := 120) (tgt := 126) rfl dX11_move_117 (by decide) (fun hc17 => ?_) (fun hc17 => ?_)
                    · replace h := ab_pos hc17 h
                      refine z_aload (pc2 := 128) rfl dX11_move_126 rfl ?_
                      refine z_getR 77 6 0 78 (pc2 := 131) rfl dX11_move_128 rfl rfl ff_6_0 wd_99 rfl ?_
                      refine z_iload_n (pc2 := 132) rfl dX11_move_131 rfl ?_
                      refine z_aload (pc2 := 134) rfl dX11_move_132 rfl ?_
                      refine z_getR 77 6 0 78 (pc2 := 137) rfl dX11_move_134 rfl rfl ff_6_0 wd_99 rfl ?_
                      refine z_iload (pc2 := 139) rfl dX11_move_137 rfl ?_
                      refine z_iload (pc2 := 141) rfl dX11_move_139 rfl ?_
                      obtain ⟨hb18, h⟩ := ab_ck_e h
                      refine z_acopy 78 78 (pc2 := 144) rfl dX11_move_141 rfl rfl rfl rfl wd_919 wd_655 wd_654 wd_82 hb18 rfl rfl ?_
                      obtain ⟨s19, hs19, h⟩ := ab_lt_e h
                      refine z_tops hs19 ?_
                      refine z_iload (pc2 := 146) rfl dX11_move_144 rfl ?_
                      exact z_iret dX11_move_146 rfl rfl (fi_w h)
                    · replace h := ab_neg hc17 h
                      refine z_aload_n (pc2 := 121) rfl dX11_move_120 rfl ?_
                      refine z_iconst (pc2 := 122) rfl dX11_move_121 lt_i_1 ?_
                      obtain ⟨q20, hq20, h⟩ := ab_bnd h
                      refine z_callVi 8 [.int (1 : Int32)] [some (.ref 8), some (.int (1 : Int32))] (pc2 := 125) rfl rfl dX11_move_122 ok_X11_refuse ⟨fun _ => rfl, fun _ => Nat.le_of_ble_eq_true rfl⟩ rfl rv_8 wd_346 wd_348 wd_0 rfl (e_X11_refuse hq20) ?_
                      exact z_iret dX11_move_125 rfl rfl (fi_w h)
              · replace h := ab_neg hc9 h
                refine z_aload_n (pc2 := 74) rfl dX11_move_73 rfl ?_
                refine z_iconst (pc2 := 75) rfl dX11_move_74 lt_i_5 ?_
                obtain ⟨q21, hq21, h⟩ := ab_bnd h
                refine z_callVi 8 [.int (5 : Int32)] [some (.ref 8), some (.int (5 : Int32))] (pc2 := 78) rfl rfl dX11_move_75 ok_X11_refuse ⟨fun _ => rfl, fun _ => Nat.le_of_ble_eq_true rfl⟩ rfl rv_8 wd_346 wd_348 wd_0 rfl (e_X11_refuse hq21) ?_
                exact z_iret dX11_move_78 rfl rfl (fi_w h)
            · replace h := ab_pos hc8 h
              refine z_aload_n (pc2 := 55) rfl dX11_move_54 rfl ?_
              refine z_iconst (pc2 := 56) rfl dX11_move_55 lt_i_2 ?_
              obtain ⟨q22, hq22, h⟩ := ab_bnd h
              refine z_callVi 8 [.int (2 : Int32)] [some (.ref 8), some (.int (2 : Int32))] (pc2 := 59) rfl rfl dX11_move_56 ok_X11_refuse ⟨fun _ => rfl, fun _ => Nat.le_of_ble_eq_true rfl⟩ rfl rv_8 wd_346 wd_348 wd_0 rfl (e_X11_refuse hq22) ?_
              exact z_iret dX11_move_59 rfl rfl (fi_w h)
        · replace h := ab_neg hi23 h
          by_cases hi41 : a3 = (1 : Int32)
          · replace h := ab_pos hi41 h
            refine z_aaldR 20 79 (pc2 := 36) rfl dX11_move_35 rfl rfl (by rw [hi41]; rfl) (by rw [hi41]; rfl) ?_
            refine z_astore (pc2 := 38) (L2 := [some (.ref 8), some (.int a1), some (.int a2), some (.int a3), some (.int a4), some (.int a5), some (.ref 77), some (.ref 79)]) rfl dX11_move_36 (by decide) rfl rfl ?_
            refine z_aload (pc2 := 40) rfl dX11_move_38 rfl ?_
            refine z_getI 77 6 2 (pc2 := 43) rfl dX11_move_40 rfl rfl ff_6_2 wd_104 ?_
            refine z_if_eq (pc2 := 46) (tgt := 54) rfl dX11_move_43 (by decide) (fun hc24 => ?_) (fun hc24 => ?_)
            · replace h := ab_pos hc24 h
              refine z_aload_n (pc2 := 55) rfl dX11_move_54 rfl ?_
              refine z_iconst (pc2 := 56) rfl dX11_move_55 lt_i_2 ?_
              obtain ⟨q25, hq25, h⟩ := ab_bnd h
              refine z_callVi 8 [.int (2 : Int32)] [some (.ref 8), some (.int (2 : Int32))] (pc2 := 59) rfl rfl dX11_move_56 ok_X11_refuse ⟨fun _ => rfl, fun _ => Nat.le_of_ble_eq_true rfl⟩ rfl rv_8 wd_346 wd_348 wd_0 rfl (e_X11_refuse hq25) ?_
              exact z_iret dX11_move_59 rfl rfl (fi_w h)
            · replace h := ab_neg hc24 h
              refine z_aload (pc2 := 48) rfl dX11_move_46 rfl ?_
              refine z_getI 79 6 2 (pc2 := 51) rfl dX11_move_48 rfl rfl ff_6_2 wd_104 ?_
              refine z_if_ne (pc2 := 54) (tgt := 60) rfl dX11_move_51 (by decide) (fun hc26 => ?_) (fun hc26 => ?_)
              · replace h := ab_neg hc26 h
                refine z_aload (pc2 := 62) rfl dX11_move_60 rfl ?_
                refine z_getI 77 6 2 (pc2 := 65) rfl dX11_move_62 rfl rfl ff_6_2 wd_104 ?_
                refine z_aload (pc2 := 67) rfl dX11_move_65 rfl ?_
                refine z_getI 79 6 2 (pc2 := 70) rfl dX11_move_67 rfl rfl ff_6_2 wd_104 ?_
                refine z_icmp_eq (pc2 := 73) (tgt := 79) rfl dX11_move_70 (by decide) (fun hc27 => ?_) (fun hc27 => ?_)
                · replace h := ab_pos hc27 h
                  refine z_iload (pc2 := 81) rfl dX11_move_79 rfl ?_
                  refine z_bipush (pc2 := 83) rfl dX11_move_81 lt_b_24 ?_
                  obtain ⟨q28, hq28, h⟩ := ab_bnd h
                  refine z_callSi [.int a5, .int (24 : Int32)] [some (.int a5), some (.int (24 : Int32))] (pc2 := 86) rfl rfl dX11_move_83 ok_X11_outside ⟨fun _ => rfl, fun _ => Nat.le_of_ble_eq_true rfl⟩ rfl wd_343 wd_344 rfl (e_X11_outside hq28) ?_
                  refine z_if_ne (pc2 := 89) (tgt := 120) rfl dX11_move_86 (by decide) (fun hc29 => ?_) (fun hc29 => ?_)
                  · replace h := ab_neg hc29 h
                    refine z_aload_n (pc2 := 121) rfl dX11_move_120 rfl ?_
                    refine z_iconst (pc2 := 122) rfl dX11_move_121 lt_i_1 ?_
                    obtain ⟨q30, hq30, h⟩ := ab_bnd h
                    refine z_callVi 8 [.int (1 : Int32)] [some (.ref 8), some (.int (1 : Int32))] (pc2 := 125) rfl rfl dX11_move_122 ok_X11_refuse ⟨fun _ => rfl, fun _ => Nat.le_of_ble_eq_true rfl⟩ rfl rv_8 wd_346 wd_348 wd_0 rfl (e_X11_refuse hq30) ?_
                    exact z_iret dX11_move_125 rfl rfl (fi_w h)
                  · replace h := ab_pos hc29 h
                    refine z_iload_n (pc2 := 90) rfl dX11_move_89 rfl ?_
                    refine z_aload (pc2 := 92) rfl dX11_move_90 rfl ?_
                    refine z_getI 77 6 1 (pc2 := 95) rfl dX11_move_92 rfl rfl ff_6_1 wd_102 ?_
                    refine z_iload (pc2 := 97) rfl dX11_move_95 rfl ?_
                    refine z_isub (pc2 := 98) rfl dX11_move_97 ?_
                    obtain ⟨q31, hq31, h⟩ := ab_bnd h
                    refine z_callSi [.int a2, .int ((σ 77 1) - a5)] [some (.int a2), some (.int ((σ 77 1) - a5))] (pc2 := 101) rfl rfl dX11_move_98 ok_X11_outside ⟨fun _ => rfl, fun _ => Nat.le_of_ble_eq_true rfl⟩ rfl wd_343 wd_344 rfl (e_X11_outside hq31) ?_
                    refine z_if_ne (pc2 := 104) (tgt := 120) rfl dX11_move_101 (by decide) (fun hc32 => ?_) (fun hc32 => ?_)
                    · replace h := ab_neg hc32 h
                      refine z_aload_n (pc2 := 121) rfl dX11_move_120 rfl ?_
                      refine z_iconst (pc2 := 122) rfl dX11_move_121 lt_i_1 ?_
                      obtain ⟨q33, hq33, h⟩ := ab_bnd h
                      refine z_callVi 8 [.int (1 : Int32)] [some (.ref 8), some (.int (1 : Int32))] (pc2 := 125) rfl rfl dX11_move_122 ok_X11_refuse ⟨fun _ => rfl, fun _ => Nat.le_of_ble_eq_true rfl⟩ rfl rv_8 wd_346 wd_348 wd_0 rfl (e_X11_refuse hq33) ?_
                      exact z_iret dX11_move_125 rfl rfl (fi_w h)
                    · replace h := ab_pos hc32 h
                      refine z_iload (pc2 := 106) rfl dX11_move_104 rfl ?_
                      refine z_aload (pc2 := 108) rfl dX11_move_106 rfl ?_
                      refine z_getI 79 6 1 (pc2 := 111) rfl dX11_move_108 rfl rfl ff_6_1 wd_102 ?_
                      refine z_iload (pc2 := 113) rfl dX11_move_111 rfl ?_
                      refine z_isub (pc2 := 114) rfl dX11_move_113 ?_
                      obtain ⟨q34, hq34, h⟩ := ab_bnd h
                      refine z_callSi [.int a4, .int ((σ 79 1) - a5)] [some (.int a4), some (.int ((σ 79 1) - a5))] (pc2 := 117) rfl rfl dX11_move_114 ok_X11_outside ⟨fun _ => rfl, fun _ => Nat.le_of_ble_eq_true rfl⟩ rfl wd_343 wd_344 rfl (e_X11_outside hq34) ?_
                      refine z_if_eq (pc2 := 120) (tgt := 126) rfl dX11_move_117 (by decide) (fun hc35 => ?_) (fun hc35 => ?_)
                      · replace h := ab_pos hc35 h
                        refine z_aload (pc2 := 128) rfl dX11_move_126 rfl ?_
                        refine z_getR 77 6 0 78 (pc2 := 131) rfl dX11_move_128 rfl rfl ff_6_0 wd_99 rfl ?_
                        refine z_iload_n (pc2 := 132) rfl dX11_move_131 rfl ?_
                        refine z_aload (pc2 := 134) rfl dX11_move_132 rfl ?_
                        refine z_getR 79 6 0 80 (pc2 := 137) rfl dX11_move_134 rfl rfl ff_6_0 wd_99 rfl ?_
                        refine z_iload (pc2 := 139) rfl dX11_move_137 rfl ?_
                        refine z_iload (pc2 := 141) rfl dX11_move_139 rfl ?_
                        obtain ⟨hb36, h⟩ := ab_ck_e h
                        refine z_acopy 78 80 (pc2 := 144) rfl dX11_move_141 rfl rfl rfl rfl wd_919 wd_655 wd_654 wd_82 hb36 rfl rfl ?_
                        obtain ⟨s37, hs37, h⟩ := ab_lt_e h
                        refine z_tops hs37 ?_
                        refine z_iload (pc2 := 146) rfl dX11_move_144 rfl ?_
                        exact z_iret dX11_move_146 rfl rfl (fi_w h)
                      · replace h := ab_neg hc35 h
                        refine z_aload_n (pc2 := 121) rfl dX11_move_120 rfl ?_
                        refine z_iconst (pc2 := 122) rfl dX11_move_121 lt_i_1 ?_
                        obtain ⟨q38, hq38, h⟩ := ab_bnd h
                        refine z_callVi 8 [.int (1 : Int32)] [some (.ref 8), some (.int (1 : Int32))] (pc2 := 125) rfl rfl dX11_move_122 ok_X11_refuse ⟨fun _ => rfl, fun _ => Nat.le_of_ble_eq_true rfl⟩ rfl rv_8 wd_346 wd_348 wd_0 rfl (e_X11_refuse hq38) ?_
                        exact z_iret dX11_move_125 rfl rfl (fi_w h)
                · replace h := ab_neg hc27 h
                  refine z_aload_n (pc2 := 74) rfl dX11_move_73 rfl ?_
                  refine z_iconst (pc2 := 75) rfl dX11_move_74 lt_i_5 ?_
                  obtain ⟨q39, hq39, h⟩ := ab_bnd h
                  refine z_callVi 8 [.int (5 : Int32)] [some (.ref 8), some (.int (5 : Int32))] (pc2 := 78) rfl rfl dX11_move_75 ok_X11_refuse ⟨fun _ => rfl, fun _ => Nat.le_of_ble_eq_true rfl⟩ rfl rv_8 wd_346 wd_348 wd_0 rfl (e_X11_refuse hq39) ?_
                  exact z_iret dX11_move_78 rfl rfl (fi_w h)
              · replace h := ab_pos hc26 h
                refine z_aload_n (pc2 := 55) rfl dX11_move_54 rfl ?_
                refine z_iconst (pc2 := 56) rfl dX11_move_55 lt_i_2 ?_
                obtain ⟨q40, hq40, h⟩ := ab_bnd h
                refine z_callVi 8 [.int (2 : Int32)] [some (.ref 8), some (.int (2 : Int32))] (pc2 := 59) rfl rfl dX11_move_56 ok_X11_refuse ⟨fun _ => rfl, fun _ => Nat.le_of_ble_eq_true rfl⟩ rfl rv_8 wd_346 wd_348 wd_0 rfl (e_X11_refuse hq40) ?_
                exact z_iret dX11_move_59 rfl rfl (fi_w h)
          · replace h := ab_neg hi41 h
            by_cases hi59 : a3 = (2 : Int32)
            · replace h := ab_pos hi59 h
              refine z_aaldR 20 81 (pc2 := 36) rfl dX11_move_35 rfl rfl (by rw [hi59]; rfl) (by rw [hi59]; rfl) ?_
              refine z_astore (pc2 := 38) (L2 := [some (.ref 8), some (.int a1), some (.int a2), some (.int a3), some (.int a4), some (.int a5), some (.ref 77), some (.ref 81)]) rfl dX11_move_36 (by decide) rfl rfl ?_
              refine z_aload (pc2 := 40) rfl dX11_move_38 rfl ?_
              refine z_getI 77 6 2 (pc2 := 43) rfl dX11_move_40 rfl rfl ff_6_2 wd_104 ?_
              refine z_if_eq (pc2 := 46) (tgt := 54) rfl dX11_move_43 (by decide) (fun hc42 => ?_) (fun hc42 => ?_)
              · replace h := ab_pos hc42 h
                refine z_aload_n (pc2 := 55) rfl dX11_move_54 rfl ?_
                refine z_iconst (pc2 := 56) rfl dX11_move_55 lt_i_2 ?_
                obtain ⟨q43, hq43, h⟩ := ab_bnd h
                refine z_callVi 8 [.int (2 : Int32)] [some (.ref 8), some (.int (2 : Int32))] (pc2 := 59) rfl rfl dX11_move_56 ok_X11_refuse ⟨fun _ => rfl, fun _ => Nat.le_of_ble_eq_true rfl⟩ rfl rv_8 wd_346 wd_348 wd_0 rfl (e_X11_refuse hq43) ?_
                exact z_iret dX11_move_59 rfl rfl (fi_w h)
              · replace h := ab_neg hc42 h
                refine z_aload (pc2 := 48) rfl dX11_move_46 rfl ?_
                refine z_getI 81 6 2 (pc2 := 51) rfl dX11_move_48 rfl rfl ff_6_2 wd_104 ?_
                refine z_if_ne (pc2 := 54) (tgt := 60) rfl dX11_move_51 (by decide) (fun hc44 => ?_) (fun hc44 => ?_)
                · replace h := ab_neg hc44 h
                  refine z_aload (pc2 := 62) rfl dX11_move_60 rfl ?_
                  refine z_getI 77 6 2 (pc2 := 65) rfl dX11_move_62 rfl rfl ff_6_2 wd_104 ?_
                  refine z_aload (pc2 := 67) rfl dX11_move_65 rfl ?_
                  refine z_getI 81 6 2 (pc2 := 70) rfl dX11_move_67 rfl rfl ff_6_2 wd_104 ?_
                  refine z_icmp_eq (pc2 := 73) (tgt := 79) rfl dX11_move_70 (by decide) (fun hc45 => ?_) (fun hc45 => ?_)
                  · replace h := ab_pos hc45 h
                    refine z_iload (pc2 := 81) rfl dX11_move_79 rfl ?_
                    refine z_bipush (pc2 := 83) rfl dX11_move_81 lt_b_24 ?_
                    obtain ⟨q46, hq46, h⟩ := ab_bnd h
                    refine z_callSi [.int a5, .int (24 : Int32)] [some (.int a5), some (.int (24 : Int32))] (pc2 := 86) rfl rfl dX11_move_83 ok_X11_outside ⟨fun _ => rfl, fun _ => Nat.le_of_ble_eq_true rfl⟩ rfl wd_343 wd_344 rfl (e_X11_outside hq46) ?_
                    refine z_if_ne (pc2 := 89) (tgt := 120) rfl dX11_move_86 (by decide) (fun hc47 => ?_) (fun hc47 => ?_)
                    · replace h := ab_neg hc47 h
                      refine z_aload_n (pc2 := 121) rfl dX11_move_120 rfl ?_
                      refine z_iconst (pc2 := 122) rfl dX11_move_121 lt_i_1 ?_
                      obtain ⟨q48, hq48, h⟩ := ab_bnd h
                      refine z_callVi 8 [.int (1 : Int32)] [some (.ref 8), some (.int (1 : Int32))] (pc2 := 125) rfl rfl dX11_move_122 ok_X11_refuse ⟨fun _ => rfl, fun _ => Nat.le_of_ble_eq_true rfl⟩ rfl rv_8 wd_346 wd_348 wd_0 rfl (e_X11_refuse hq48) ?_
                      exact z_iret dX11_move_125 rfl rfl (fi_w h)
                    · replace h := ab_pos hc47 h
                      refine z_iload_n (pc2 := 90) rfl dX11_move_89 rfl ?_
                      refine z_aload (pc2 := 92) rfl dX11_move_90 rfl ?_
                      refine z_getI 77 6 1 (pc2 := 95) rfl dX11_move_92 rfl rfl ff_6_1 wd_102 ?_
                      refine z_iload (pc2 := 97) rfl dX11_move_95 rfl ?_
                      refine z_isub (pc2 := 98) rfl dX11_move_97 ?_
                      obtain ⟨q49, hq49, h⟩ := ab_bnd h
                      refine z_callSi [.int a2, .int ((σ 77 1) - a5)] [some (.int a2), some (.int ((σ 77 1) - a5))] (pc2 := 101) rfl rfl dX11_move_98 ok_X11_outside ⟨fun _ => rfl, fun _ => Nat.le_of_ble_eq_true rfl⟩ rfl wd_343 wd_344 rfl (e_X11_outside hq49) ?_
                      refine z_if_ne (pc2 := 104) (tgt := 120) rfl dX11_move_101 (by decide) (fun hc50 => ?_) (fun hc50 => ?_)
                      · replace h := ab_neg hc50 h
                        refine z_aload_n (pc2 := 121) rfl dX11_move_120 rfl ?_
                        refine z_iconst (pc2 := 122) rfl dX11_move_121 lt_i_1 ?_
                        obtain ⟨q51, hq51, h⟩ := ab_bnd h
                        refine z_callVi 8 [.int (1 : Int32)] [some (.ref 8), some (.int (1 : Int32))] (pc2 := 125) rfl rfl dX11_move_122 ok_X11_refuse ⟨fun _ => rfl, fun _ => Nat.le_of_ble_eq_true rfl⟩ rfl rv_8 wd_346 wd_348 wd_0 rfl (e_X11_refuse hq51) ?_
                        exact z_iret dX11_move_125 rfl rfl (fi_w h)
                      · replace h := ab_pos hc50 h
                        refine z_iload (pc2 := 106) rfl dX11_move_104 rfl ?_
                        refine z_aload (pc2 := 108) rfl dX11_move_106 rfl ?_
                        refine z_getI 81 6 1 (pc2 := 111) rfl dX11_move_108 rfl rfl ff_6_1 wd_102 ?_
                        refine z_iload (pc2 := 113) rfl dX11_move_111 rfl ?_
                        refine z_isub (pc2 := 114) rfl dX11_move_113 ?_
                        obtain ⟨q52, hq52, h⟩ := ab_bnd h
                        refine z_callSi [.int a4, .int ((σ 81 1) - a5)] [some (.int a4), some (.int ((σ 81 1) - a5))] (pc2 := 117) rfl rfl dX11_move_114 ok_X11_outside ⟨fun _ => rfl, fun _ => Nat.le_of_ble_eq_true rfl⟩ rfl wd_343 wd_344 rfl (e_X11_outside hq52) ?_
                        refine z_if_eq (pc2 := 120) (tgt := 126) rfl dX11_move_117 (by decide) (fun hc53 => ?_) (fun hc53 => ?_)
                        · replace h := ab_pos hc53 h
                          refine z_aload (pc2 := 128) rfl dX11_move_126 rfl ?_
                          refine z_getR 77 6 0 78 (pc2 := 131) rfl dX11_move_128 rfl rfl ff_6_0 wd_99 rfl ?_
                          refine z_iload_n (pc2 := 132) rfl dX11_move_131 rfl ?_
                          refine z_aload (pc2 := 134) rfl dX11_move_132 rfl ?_
                          refine z_getR 81 6 0 82 (pc2 := 137) rfl dX11_move_134 rfl rfl ff_6_0 wd_99 rfl ?_
                          refine z_iload (pc2 := 139) rfl dX11_move_137 rfl ?_
                          refine z_iload (pc2 := 141) rfl dX11_move_139 rfl ?_
                          obtain ⟨hb54, h⟩ := ab_ck_e h
                          refine z_acopy 78 82 (pc2 := 144) rfl dX11_move_141 rfl rfl rfl rfl wd_919 wd_655 wd_654 wd_82 hb54 rfl rfl ?_
                          obtain ⟨s55, hs55, h⟩ := ab_lt_e h
                          refine z_tops hs55 ?_
                          refine z_iload (pc2 := 146) rfl dX11_move_144 rfl ?_
                          exact z_iret dX11_move_146 rfl rfl (fi_w h)
                        · replace h := ab_neg hc53 h
                          refine z_aload_n (pc2 := 121) rfl dX11_move_120 rfl ?_
                          refine z_iconst (pc2 := 122) rfl dX11_move_121 lt_i_1 ?_
                          obtain ⟨q56, hq56, h⟩ := ab_bnd h
                          refine z_callVi 8 [.int (1 : Int32)] [some (.ref 8), some (.int (1 : Int32))] (pc2 := 125) rfl rfl dX11_move_122 ok_X11_refuse ⟨fun _ => rfl, fun _ => Nat.le_of_ble_eq_true rfl⟩ rfl rv_8 wd_346 wd_348 wd_0 rfl (e_X11_refuse hq56) ?_
                          exact z_iret dX11_move_125 rfl rfl (fi_w h)
                  · replace h := ab_neg hc45 h
                    refine z_aload_n (pc2 := 74) rfl dX11_move_73 rfl ?_
                    refine z_iconst (pc2 := 75) rfl dX11_move_74 lt_i_5 ?_
                    obtain ⟨q57, hq57, h⟩ := ab_bnd h
                    refine z_callVi 8 [.int (5 : Int32)] [some (.ref 8), some (.int (5 : Int32))] (pc2 := 78) rfl rfl dX11_move_75 ok_X11_refuse ⟨fun _ => rfl, fun _ => Nat.le_of_ble_eq_true rfl⟩ rfl rv_8 wd_346 wd_348 wd_0 rfl (e_X11_refuse hq57) ?_
                    exact z_iret dX11_move_78 rfl rfl (fi_w h)
                · replace h := ab_pos hc44 h
                  refine z_aload_n (pc2 := 55) rfl dX11_move_54 rfl ?_
                  refine z_iconst (pc2 := 56) rfl dX11_move_55 lt_i_2 ?_
                  obtain ⟨q58, hq58, h⟩ := ab_bnd h
                  refine z_callVi 8 [.int (2 : Int32)] [some (.ref 8), some (.int (2 : Int32))] (pc2 := 59) rfl rfl dX11_move_56 ok_X11_refuse ⟨fun _ => rfl, fun _ => Nat.le_of_ble_eq_true rfl⟩ rfl rv_8 wd_346 wd_348 wd_0 rfl (e_X11_refuse hq58) ?_
                  exact z_iret dX11_move_59 rfl rfl (fi_w h)
            · replace h := ab_neg hi59 h
              by_cases hi77 : a3 = (3 : Int32)
              · replace h := ab_pos hi77 h
                refine z_aaldR 20 83 (pc2 := 36) rfl dX11_move_35 rfl rfl (by rw [hi77]; rfl) (by rw [hi77]; rfl) ?_
                refine z_astore (pc2 := 38) (L2 := [some (.ref 8), some (.int a1), some (.int a2), some (.int a3), some (.int a4), some (.int a5), some (.ref 77), some (.ref 83)]) rfl dX11_move_36 (by decide) rfl rfl ?_
                refine z_aload (pc2 := 40) rfl dX11_move_38 rfl ?_
                refine z_getI 77 6 2 (pc2 := 43) rfl dX11_move_40 rfl rfl ff_6_2 wd_104 ?_
                refine z_if_eq (pc2 := 46) (tgt := 54) rfl dX11_move_43 (by decide) (fun hc60 => ?_) (fun hc60 => ?_)
                · replace h := ab_pos hc60 h
                  refine z_aload_n (pc2 := 55) rfl dX11_move_54 rfl ?_
                  refine z_iconst (pc2 := 56) rfl dX11_move_55 lt_i_2 ?_
                  obtain ⟨q61, hq61, h⟩ := ab_bnd h
                  refine z_callVi 8 [.int (2 : Int32)] [some (.ref 8), some (.int (2 : Int32))] (pc2 := 59) rfl rfl dX11_move_56 ok_X11_refuse ⟨fun _ => rfl, fun _ => Nat.le_of_ble_eq_true rfl⟩ rfl rv_8 wd_346 wd_348 wd_0 rfl (e_X11_refuse hq61) ?_
                  exact z_iret dX11_move_59 rfl rfl (fi_w h)
                · replace h := ab_neg hc60 h
                  refine z_aload (pc2 := 48) rfl dX11_move_46 rfl ?_
                  refine z_getI 83 6 2 (pc2 := 51) rfl dX11_move_48 rfl rfl ff_6_2 wd_104 ?_
                  refine z_if_ne (pc2 := 54) (tgt := 60) rfl dX11_move_51 (by decide) (fun hc62 => ?_) (fun hc62 => ?_)
                  · replace h := ab_neg hc62 h
                    refine z_aload (pc2 := 62) rfl dX11_move_60 rfl ?_
                    refine z_getI 77 6 2 (pc2 := 65) rfl dX11_move_62 rfl rfl ff_6_2 wd_104 ?_
                    refine z_aload (pc2 := 67) rfl dX11_move_65 rfl ?_
                    refine z_getI 83 6 2 (pc2 := 70) rfl dX11_move_67 rfl rfl ff_6_2 wd_104 ?_
                    refine z_icmp_eq (pc2 := 73) (tgt := 79) rfl dX11_move_70 (by decide) (fun hc63 => ?_) (fun hc63 => ?_)
                    · replace h := ab_pos hc63 h
                      refine z_iload (pc2 := 81) rfl dX11_move_79 rfl ?_
                      refine z_bipush (pc2 := 83) rfl dX11_move_81 lt_b_24 ?_
                      obtain ⟨q64, hq64, h⟩ := ab_bnd h
                      refine z_callSi [.int a5, .int (24 : Int32)] [some (.int a5), some (.int (24 : Int32))] (pc2 := 86) rfl rfl dX11_move_83 ok_X11_outside ⟨fun _ => rfl, fun _ => Nat.le_of_ble_eq_true rfl⟩ rfl wd_343 wd_344 rfl (e_X11_outside hq64) ?_
                      refine z_if_ne (pc2 := 89) (tgt := 120) rfl dX11_move_86 (by decide) (fun hc65 => ?_) (fun hc65 => ?_)
                      · replace h := ab_neg hc65 h
                        refine z_aload_n (pc2 := 121) rfl dX11_move_120 rfl ?_
                        refine z_iconst (pc2 := 122) rfl dX11_move_121 lt_i_1 ?_
                        obtain ⟨q66, hq66, h⟩ := ab_bnd h
                        refine z_callVi 8 [.int (1 : Int32)] [some (.ref 8), some (.int (1 : Int32))] (pc2 := 125) rfl rfl dX11_move_122 ok_X11_refuse ⟨fun _ => rfl, fun _ => Nat.le_of_ble_eq_true rfl⟩ rfl rv_8 wd_346 wd_348 wd_0 rfl (e_X11_refuse hq66) ?_
                        exact z_iret dX11_move_125 rfl rfl (fi_w h)
                      · replace h := ab_pos hc65 h
                        refine z_iload_n (pc2 := 90) rfl dX11_move_89 rfl ?_
                        refine z_aload (pc2 := 92) rfl dX11_move_90 rfl ?_
                        refine z_getI 77 6 1 (pc2 := 95) rfl dX11_move_92 rfl rfl ff_6_1 wd_102 ?_
                        refine z_iload (pc2 := 97) rfl dX11_move_95 rfl ?_
                        refine z_isub (pc2 := 98) rfl dX11_move_97 ?_
                        obtain ⟨q67, hq67, h⟩ := ab_bnd h
                        refine z_callSi [.int a2, .int ((σ 77 1) - a5)] [some (.int a2), some (.int ((σ 77 1) - a5))] (pc2 := 101) rfl rfl dX11_move_98 ok_X11_outside ⟨fun _ => rfl, fun _ => Nat.le_of_ble_eq_true rfl⟩ rfl wd_343 wd_344 rfl (e_X11_outside hq67) ?_
                        refine z_if_ne (pc2 := 104) (tgt := 120) rfl dX11_move_101 (by decide) (fun hc68 => ?_) (fun hc68 => ?_)
                        · replace h := ab_neg hc68 h
                          refine z_aload_n (pc2 := 121) rfl dX11_move_120 rfl ?_
                          refine z_iconst (pc2 := 122) rfl dX11_move_121 lt_i_1 ?_
                          obtain ⟨q69, hq69, h⟩ := ab_bnd h
                          refine z_callVi 8 [.int (1 : Int32)] [some (.ref 8), some (.int (1 : Int32))] (pc2 := 125) rfl rfl dX11_move_122 ok_X11_refuse ⟨fun _ => rfl, fun _ => Nat.le_of_ble_eq_true rfl⟩ rfl rv_8 wd_346 wd_348 wd_0 rfl (e_X11_refuse hq69) ?_
                          exact z_iret dX11_move_125 rfl rfl (fi_w h)
                        · replace h := ab_pos hc68 h
                          refine z_iload (pc2 := 106) rfl dX11_move_104 rfl ?_
                          refine z_aload (pc2 := 108) rfl dX11_move_106 rfl ?_
                          refine z_getI 83 6 1 (pc2 := 111) rfl dX11_move_108 rfl rfl ff_6_1 wd_102 ?_
                          refine z_iload (pc2 := 113) rfl dX11_move_111 rfl ?_
                          refine z_isub (pc2 := 114) rfl dX11_move_113 ?_
                          obtain ⟨q70, hq70, h⟩ := ab_bnd h
                          refine z_callSi [.int a4, .int ((σ 83 1) - a5)] [some (.int a4), some (.int ((σ 83 1) - a5))] (pc2 := 117) rfl rfl dX11_move_114 ok_X11_outside ⟨fun _ => rfl, fun _ => Nat.le_of_ble_eq_true rfl⟩ rfl wd_343 wd_344 rfl (e_X11_outside hq70) ?_
                          refine z_if_eq (pc2 := 120) (tgt := 126) rfl dX11_move_117 (by decide) (fun hc71 => ?_) (fun hc71 => ?_)
                          · replace h := ab_pos hc71 h
                            refine z_aload (pc2 := 128) rfl dX11_move_126 rfl ?_
                            refine z_getR 77 6 0 78 (pc2 := 131) rfl dX11_move_128 rfl rfl ff_6_0 wd_99 rfl ?_
                            refine z_iload_n (pc2 := 132) rfl dX11_move_131 rfl ?_
                            refine z_aload (pc2 := 134) rfl dX11_move_132 rfl ?_
                            refine z_getR 83 6 0 84 (pc2 := 137) rfl dX11_move_134 rfl rfl ff_6_0 wd_99 rfl ?_
                            refine z_iload (pc2 := 139) rfl dX11_move_137 rfl ?_
                            refine z_iload (pc2 := 141) rfl dX11_move_139 rfl ?_
                            obtain ⟨hb72, h⟩ := ab_ck_e h
                            refine z_acopy 78 84 (pc2 := 144) rfl dX11_move_141 rfl rfl rfl rfl wd_919 wd_655 wd_654 wd_82 hb72 rfl rfl ?_
                            obtain ⟨s73, hs73, h⟩ := ab_lt_e h
                            refine z_tops hs73 ?_
                            refine z_iload (pc2 := 146) rfl dX11_move_144 rfl ?_
                            exact z_iret dX11_move_146 rfl rfl (fi_w h)
                          · replace h := ab_neg hc71 h
                            refine z_aload_n (pc2 := 121) rfl dX11_move_120 rfl ?_
                            refine z_iconst (pc2 := 122) rfl dX11_move_121 lt_i_1 ?_
                            obtain ⟨q74, hq74, h⟩ := ab_bnd h
                            refine z_callVi 8 [.int (1 : Int32)] [some (.ref 8), some (.int (1 : Int32))] (pc2 := 125) rfl rfl dX11_move_122 ok_X11_refuse ⟨fun _ => rfl, fun _ => Nat.le_of_ble_eq_true rfl⟩ rfl rv_8 wd_346 wd_348 wd_0 rfl (e_X11_refuse hq74) ?_
                            exact z_iret dX11_move_125 rfl rfl (fi_w h)
                    · replace h := ab_neg hc63 h
                      refine z_aload_n (pc2 := 74) rfl dX11_move_73 rfl ?_
                      refine z_iconst (pc2 := 75) rfl dX11_move_74 lt_i_5 ?_
                      obtain ⟨q75, hq75, h⟩ := ab_bnd h
                      refine z_callVi 8 [.int (5 : Int32)] [some (.ref 8), some (.int (5 : Int32))] (pc2 := 78) rfl rfl dX11_move_75 ok_X11_refuse ⟨fun _ => rfl, fun _ => Nat.le_of_ble_eq_true rfl⟩ rfl rv_8 wd_346 wd_348 wd_0 rfl (e_X11_refuse hq75) ?_
                      exact z_iret dX11_move_78 rfl rfl (fi_w h)
                  · replace h := ab_pos hc62 h
                    refine z_aload_n (pc2 := 55) rfl dX11_move_54 rfl ?_
                    refine z_iconst (pc2 := 56) rfl dX11_move_55 lt_i_2 ?_
                    obtain ⟨q76, hq76, h⟩ := ab_bnd h
                    refine z_callVi 8 [.int (2 : Int32)] [some (.ref 8), some (.int (2 : Int32))] (pc2 := 59) rfl rfl dX11_move_56 ok_X11_refuse ⟨fun _ => rfl, fun _ => Nat.le_of_ble_eq_true rfl⟩ rfl rv_8 wd_346 wd_348 wd_0 rfl (e_X11_refuse hq76) ?_
                    exact z_iret dX11_move_59 rfl rfl (fi_w h)
              · replace h := ab_neg hi77 h
                cases h
      · replace h := ab_neg hi78 h
        by_cases hi151 : a1 = (1 : Int32)
        · replace h := ab_pos hi151 h
          refine z_aaldR 20 79 (pc2 := 28) rfl dX11_move_27 rfl rfl (by rw [hi151]; rfl) (by rw [hi151]; rfl) ?_
          refine z_astore (pc2 := 30) (L2 := [some (.ref 8), some (.int a1), some (.int a2), some (.int a3), some (.int a4), some (.int a5), some (.ref 79), none]) rfl dX11_move_28 (by decide) rfl rfl ?_
          refine z_aload_n (pc2 := 31) rfl dX11_move_30 rfl ?_
          refine z_getR 8 11 8 20 (pc2 := 34) rfl dX11_move_31 rfl rfl ff_11_8 wd_310 rfl ?_
          refine z_iload_n (pc2 := 35) rfl dX11_move_34 rfl ?_
          by_cases hi96 : a3 = (0 : Int32)
          · replace h := ab_pos hi96 h
            refine z_aaldR 20 77 (pc2 := 36) rfl dX11_move_35 rfl rfl (by rw [hi96]; rfl) (by rw [hi96]; rfl) ?_
            refine z_astore (pc2 := 38) (L2 := [some (.ref 8), some (.int a1), some (.int a2), some (.int a3), some (.int a4), some (.int a5), some (.ref 79), some (.ref 77)]) rfl dX11_move_36 (by decide) rfl rfl ?_
            refine z_aload (pc2 := 40) rfl dX11_move_38 rfl ?_
            refine z_getI 79 6 2 (pc2 := 43) rfl dX11_move_40 rfl rfl ff_6_2 wd_104 ?_
            refine z_if_eq (pc2 := 46) (tgt := 54) rfl dX11_move_43 (by decide) (fun hc79 => ?_) (fun hc79 => ?_)
            · replace h := ab_pos hc79 h
              refine z_aload_n (pc2 := 55) rfl dX11_move_54 rfl ?_
              refine z_iconst (pc2 := 56) rfl dX11_move_55 lt_i_2 ?_
              obtain ⟨q80, hq80, h⟩ := ab_bnd h
              refine z_callVi 8 [.int (2 : Int32)] [some (.ref 8), some (.int (2 : Int32))] (pc2 := 59) rfl rfl dX11_move_56 ok_X11_refuse ⟨fun _ => rfl, fun _ => Nat.le_of_ble_eq_true rfl⟩ rfl rv_8 wd_346 wd_348 wd_0 rfl (e_X11_refuse hq80) ?_
              exact z_iret dX11_move_59 rfl rfl (fi_w h)
            · replace h := ab_neg hc79 h
              refine z_aload (pc2 := 48) rfl dX11_move_46 rfl ?_
              refine z_getI 77 6 2 (pc2 := 51) rfl dX11_move_48 rfl rfl ff_6_2 wd_104 ?_
              refine z_if_ne (pc2 := 54) (tgt := 60) rfl dX11_move_51 (by decide) (fun hc81 => ?_) (fun hc81 => ?_)
              · replace h := ab_neg hc81 h
                refine z_aload (pc2 := 62) rfl dX11_move_60 rfl ?_
                refine z_getI 79 6 2 (pc2 := 65) rfl dX11_move_62 rfl rfl ff_6_2 wd_104 ?_
                refine z_aload (pc2 := 67) rfl dX11_move_65 rfl ?_
                refine z_getI 77 6 2 (pc2 := 70) rfl dX11_move_67 rfl rfl ff_6_2 wd_104 ?_
                refine z_icmp_eq (pc2 := 73) (tgt := 79) rfl dX11_move_70 (by decide) (fun hc82 => ?_) (fun hc82 => ?_)
                · replace h := ab_pos hc82 h
                  refine z_iload (pc2 := 81) rfl dX11_move_79 rfl ?_
                  refine z_bipush (pc2 := 83) rfl dX11_move_81 lt_b_24 ?_
                  obtain ⟨q83, hq83, h⟩ := ab_bnd h
                  refine z_callSi [.int a5, .int (24 : Int32)] [some (.int a5), some (.int (24 : Int32))] (pc2 := 86) rfl rfl dX11_move_83 ok_X11_outside ⟨fun _ => rfl, fun _ => Nat.le_of_ble_eq_true rfl⟩ rfl wd_343 wd_344 rfl (e_X11_outside hq83) ?_
                  refine z_if_ne (pc2 := 89) (tgt := 120) rfl dX11_move_86 (by decide) (fun hc84 => ?_) (fun hc84 => ?_)
                  · replace h := ab_neg hc84 h
                    refine z_aload_n (pc2 := 121) rfl dX11_move_120 rfl ?_
                    refine z_iconst (pc2 := 122) rfl dX11_move_121 lt_i_1 ?_
                    obtain ⟨q85, hq85, h⟩ := ab_bnd h
                    refine z_callVi 8 [.int (1 : Int32)] [some (.ref 8), some (.int (1 : Int32))] (pc2 := 125) rfl rfl dX11_move_122 ok_X11_refuse ⟨fun _ => rfl, fun _ => Nat.le_of_ble_eq_true rfl⟩ rfl rv_8 wd_346 wd_348 wd_0 rfl (e_X11_refuse hq85) ?_
                    exact z_iret dX11_move_125 rfl rfl (fi_w h)
                  · replace h := ab_pos hc84 h
                    refine z_iload_n (pc2 := 90) rfl dX11_move_89 rfl ?_
                    refine z_aload (pc2 := 92) rfl dX11_move_90 rfl ?_
                    refine z_getI 79 6 1 (pc2 := 95) rfl dX11_move_92 rfl rfl ff_6_1 wd_102 ?_
                    refine z_iload (pc2 := 97) rfl dX11_move_95 rfl ?_
                    refine z_isub (pc2 := 98) rfl dX11_move_97 ?_
                    obtain ⟨q86, hq86, h⟩ := ab_bnd h
                    refine z_callSi [.int a2, .int ((σ 79 1) - a5)] [some (.int a2), some (.int ((σ 79 1) - a5))] (pc2 := 101) rfl rfl dX11_move_98 ok_X11_outside ⟨fun _ => rfl, fun _ => Nat.le_of_ble_eq_true rfl⟩ rfl wd_343 wd_344 rfl (e_X11_outside hq86) ?_
                    refine z_if_ne (pc2 := 104) (tgt := 120) rfl dX11_move_101 (by decide) (fun hc87 => ?_) (fun hc87 => ?_)
                    · replace h := ab_neg hc87 h
                      refine z_aload_n (pc2 := 121) rfl dX11_move_120 rfl ?_
                      refine z_iconst (pc2 := 122) rfl dX11_move_121 lt_i_1 ?_
                      obtain ⟨q88, hq88, h⟩ := ab_bnd h
                      refine z_callVi 8 [.int (1 : Int32)] [some (.ref 8), some (.int (1 : Int32))] (pc2 := 125) rfl rfl dX11_move_122 ok_X11_refuse ⟨fun _ => rfl, fun _ => Nat.le_of_ble_eq_true rfl⟩ rfl rv_8 wd_346 wd_348 wd_0 rfl (e_X11_refuse hq88) ?_
                      exact z_iret dX11_move_125 rfl rfl (fi_w h)
                    · replace h := ab_pos hc87 h
                      refine z_iload (pc2 := 106) rfl dX11_move_104 rfl ?_
                      refine z_aload (pc2 := 108) rfl dX11_move_106 rfl ?_
                      refine z_getI 77 6 1 (pc2 := 111) rfl dX11_move_108 rfl rfl ff_6_1 wd_102 ?_
                      refine z_iload (pc2 := 113) rfl dX11_move_111 rfl ?_
                      refine z_isub (pc2 := 114) rfl dX11_move_113 ?_
                      obtain ⟨q89, hq89, h⟩ := ab_bnd h
                      refine z_callSi [.int a4, .int ((σ 77 1) - a5)] [some (.int a4), some (.int ((σ 77 1) - a5))] (pc2 := 117) rfl rfl dX11_move_114 ok_X11_outside ⟨fun _ => rfl, fun _ => Nat.le_of_ble_eq_true rfl⟩ rfl wd_343 wd_344 rfl (e_X11_outside hq89) ?_
                      refine z_if_eq (pc2 := 120) (tgt := 126) rfl dX11_move_117 (by decide) (fun hc90 => ?_) (fun hc90 => ?_)
                      · replace h := ab_pos hc90 h
                        refine z_aload (pc2 := 128) rfl dX11_move_126 rfl ?_
                        refine z_getR 79 6 0 80 (pc2 := 131) rfl dX11_move_128 rfl rfl ff_6_0 wd_99 rfl ?_
                        refine z_iload_n (pc2 := 132) rfl dX11_move_131 rfl ?_
                        refine z_aload (pc2 := 134) rfl dX11_move_132 rfl ?_
                        refine z_getR 77 6 0 78 (pc2 := 137) rfl dX11_move_134 rfl rfl ff_6_0 wd_99 rfl ?_
                        refine z_iload (pc2 := 139) rfl dX11_move_137 rfl ?_
                        refine z_iload (pc2 := 141) rfl dX11_move_139 rfl ?_
                        obtain ⟨hb91, h⟩ := ab_ck_e h
                        refine z_acopy 80 78 (pc2 := 144) rfl dX11_move_141 rfl rfl rfl rfl wd_919 wd_655 wd_654 wd_82 hb91 rfl rfl ?_
                        obtain ⟨s92, hs92, h⟩ := ab_lt_e h
                        refine z_tops hs92 ?_
                        refine z_iload (pc2 := 146) rfl dX11_move_144 rfl ?_
                        exact z_iret dX11_move_146 rfl rfl (fi_w h)
                      · replace h := ab_neg hc90 h
                        refine z_aload_n (pc2 := 121) rfl dX11_move_120 rfl ?_
                        refine z_iconst (pc2 := 122) rfl dX11_move_121 lt_i_1 ?_
                        obtain ⟨q93, hq93, h⟩ := ab_bnd h
                        refine z_callVi 8 [.int (1 : Int32)] [some (.ref 8), some (.int (1 : Int32))] (pc2 := 125) rfl rfl dX11_move_122 ok_X11_refuse ⟨fun _ => rfl, fun _ => Nat.le_of_ble_eq_true rfl⟩ rfl rv_8 wd_346 wd_348 wd_0 rfl (e_X11_refuse hq93) ?_
                        exact z_iret dX11_move_125 rfl rfl (fi_w h)
                · replace h := ab_neg hc82 h
                  refine z_aload_n (pc2 := 74) rfl dX11_move_73 rfl ?_
                  refine z_iconst (pc2 := 75) rfl dX11_move_74 lt_i_5 ?_
                  obtain ⟨q94, hq94, h⟩ := ab_bnd h
                  refine z_callVi 8 [.int (5 : Int32)] [some (.ref 8), some (.int (5 : Int32))] (pc2 := 78) rfl rfl dX11_move_75 ok_X11_refuse ⟨fun _ => rfl, fun _ => Nat.le_of_ble_eq_true rfl⟩ rfl rv_8 wd_346 wd_348 wd_0 rfl (e_X11_refuse hq94) ?_
                  exact z_iret dX11_move_78 rfl rfl (fi_w h)
              · replace h := ab_pos hc81 h
                refine z_aload_n (pc2 := 55) rfl dX11_move_54 rfl ?_
                refine z_iconst (pc2 := 56) rfl dX11_move_55 lt_i_2 ?_
                obtain ⟨q95, hq95, h⟩ := ab_bnd h
                refine z_callVi 8 [.int (2 : Int32)] [some (.ref 8), some (.int (2 : Int32))] (pc2 := 59) rfl rfl dX11_move_56 ok_X11_refuse ⟨fun _ => rfl, fun _ => Nat.le_of_ble_eq_true rfl⟩ rfl rv_8 wd_346 wd_348 wd_0 rfl (e_X11_refuse hq95) ?_
                exact z_iret dX11_move_59 rfl rfl (fi_w h)
          · replace h := ab_neg hi96 h
            by_cases hi114 : a3 = (1 : Int32)
            · replace h := ab_pos hi114 h
              refine z_aaldR 20 79 (pc2 := 36) rfl dX11_move_35 rfl rfl (by rw [hi114]; rfl) (by rw [hi114]; rfl) ?_
              refine z_astore (pc2 := 38) (L2 := [some (.ref 8), some (.int a1), some (.int a2), some (.int a3), some (.int a4), some (.int a5), some (.ref 79), some (.ref 79)]) rfl dX11_move_36 (by decide) rfl rfl ?_
              refine z_aload (pc2 := 40) rfl dX11_move_38 rfl ?_
              refine z_getI 79 6 2 (pc2 := 43) rfl dX11_move_40 rfl rfl ff_6_2 wd_104 ?_
              refine z_if_eq (pc2 := 46) (tgt := 54) rfl dX11_move_43 (by decide) (fun hc97 => ?_) (fun hc97 => ?_)
              · replace h := ab_pos hc97 h
                refine z_aload_n (pc2 := 55) rfl dX11_move_54 rfl ?_
                refine z_iconst (pc2 := 56) rfl dX11_move_55 lt_i_2 ?_
                obtain ⟨q98, hq98, h⟩ := ab_bnd h
                refine z_callVi 8 [.int (2 : Int32)] [some (.ref 8), some (.int (2 : Int32))] (pc2 := 59) rfl rfl dX11_move_56 ok_X11_refuse ⟨fun _ => rfl, fun _ => Nat.le_of_ble_eq_true rfl⟩ rfl rv_8 wd_346 wd_348 wd_0 rfl (e_X11_refuse hq98) ?_
                exact z_iret dX11_move_59 rfl rfl (fi_w h)
              · replace h := ab_neg hc97 h
                refine z_aload (pc2 := 48) rfl dX11_move_46 rfl ?_
                refine z_getI 79 6 2 (pc2 := 51) rfl dX11_move_48 rfl rfl ff_6_2 wd_104 ?_
                refine z_if_ne (pc2 := 54) (tgt := 60) rfl dX11_move_51 (by decide) (fun hc99 => ?_) (fun hc99 => ?_)
                · replace h := ab_neg hc99 h
                  refine z_aload (pc2 := 62) rfl dX11_move_60 rfl ?_
                  refine z_getI 79 6 2 (pc2 := 65) rfl dX11_move_62 rfl rfl ff_6_2 wd_104 ?_
                  refine z_aload (pc2 := 67) rfl dX11_move_65 rfl ?_
                  refine z_getI 79 6 2 (pc2 := 70) rfl dX11_move_67 rfl rfl ff_6_2 wd_104 ?_
                  refine z_icmp_eq (pc2 := 73) (tgt := 79) rfl dX11_move_70 (by decide) (fun hc100 => ?_) (fun hc100 => ?_)
                  · replace h := ab_pos hc100 h
                    refine z_iload (pc2 := 81) rfl dX11_move_79 rfl ?_
                    refine z_bipush (pc2 := 83) rfl dX11_move_81 lt_b_24 ?_
                    obtain ⟨q101, hq101, h⟩ := ab_bnd h
                    refine z_callSi [.int a5, .int (24 : Int32)] [some (.int a5), some (.int (24 : Int32))] (pc2 := 86) rfl rfl dX11_move_83 ok_X11_outside ⟨fun _ => rfl, fun _ => Nat.le_of_ble_eq_true rfl⟩ rfl wd_343 wd_344 rfl (e_X11_outside hq101) ?_
                    refine z_if_ne (pc2 := 89) (tgt := 120) rfl dX11_move_86 (by decide) (fun hc102 => ?_) (fun hc102 => ?_)
                    · replace h := ab_neg hc102 h
                      refine z_aload_n (pc2 := 121) rfl dX11_move_120 rfl ?_
                      refine z_iconst (pc2 := 122) rfl dX11_move_121 lt_i_1 ?_
                      obtain ⟨q103, hq103, h⟩ := ab_bnd h
                      refine z_callVi 8 [.int (1 : Int32)] [some (.ref 8), some (.int (1 : Int32))] (pc2 := 125) rfl rfl dX11_move_122 ok_X11_refuse ⟨fun _ => rfl, fun _ => Nat.le_of_ble_eq_true rfl⟩ rfl rv_8 wd_346 wd_348 wd_0 rfl (e_X11_refuse hq103) ?_
                      exact z_iret dX11_move_125 rfl rfl (fi_w h)
                    · replace h := ab_pos hc102 h
                      refine z_iload_n (pc2 := 90) rfl dX11_move_89 rfl ?_
                      refine z_aload (pc2 := 92) rfl dX11_move_90 rfl ?_
                      refine z_getI 79 6 1 (pc2 := 95) rfl dX11_move_92 rfl rfl ff_6_1 wd_102 ?_
                      refine z_iload (pc2 := 97) rfl dX11_move_95 rfl ?_
                      refine z_isub (pc2 := 98) rfl dX11_move_97 ?_
                      obtain ⟨q104, hq104, h⟩ := ab_bnd h
                      refine z_callSi [.int a2, .int ((σ 79 1) - a5)] [some (.int a2), some (.int ((σ 79 1) - a5))] (pc2 := 101) rfl rfl dX11_move_98 ok_X11_outside ⟨fun _ => rfl, fun _ => Nat.le_of_ble_eq_true rfl⟩ rfl wd_343 wd_344 rfl (e_X11_outside hq104) ?_
                      refine z_if_ne (pc2 := 104) (tgt := 120) rfl dX11_move_101 (by decide) (fun hc105 => ?_) (fun hc105 => ?_)
                      · replace h := ab_neg hc105 h
                        refine z_aload_n (pc2 := 121) rfl dX11_move_120 rfl ?_
                        refine z_iconst (pc2 := 122) rfl dX11_move_121 lt_i_1 ?_
                        obtain ⟨q106, hq106, h⟩ := ab_bnd h
                        refine z_callVi 8 [.int (1 : Int32)] [some (.ref 8), some (.int (1 : Int32))] (pc2 := 125) rfl rfl dX11_move_122 ok_X11_refuse ⟨fun _ => rfl, fun _ => Nat.le_of_ble_eq_true rfl⟩ rfl rv_8 wd_346 wd_348 wd_0 rfl (e_X11_refuse hq106) ?_
                        exact z_iret dX11_move_125 rfl rfl (fi_w h)
                      · replace h := ab_pos hc105 h
                        refine z_iload (pc2 := 106) rfl dX11_move_104 rfl ?_
                        refine z_aload (pc2 := 108) rfl dX11_move_106 rfl ?_
                        refine z_getI 79 6 1 (pc2 := 111) rfl dX11_move_108 rfl rfl ff_6_1 wd_102 ?_
                        refine z_iload (pc2 := 113) rfl dX11_move_111 rfl ?_
                        refine z_isub (pc2 := 114) rfl dX11_move_113 ?_
                        obtain ⟨q107, hq107, h⟩ := ab_bnd h
                        refine z_callSi [.int a4, .int ((σ 79 1) - a5)] [some (.int a4), some (.int ((σ 79 1) - a5))] (pc2 := 117) rfl rfl dX11_move_114 ok_X11_outside ⟨fun _ => rfl, fun _ => Nat.le_of_ble_eq_true rfl⟩ rfl wd_343 wd_344 rfl (e_X11_outside hq107) ?_
                        refine z_if_eq (pc2 := 120) (tgt := 126) rfl dX11_move_117 (by decide) (fun hc108 => ?_) (fun hc108 => ?_)
                        · replace h := ab_pos hc108 h
                          refine z_aload (pc2 := 128) rfl dX11_move_126 rfl ?_
                          refine z_getR 79 6 0 80 (pc2 := 131) rfl dX11_move_128 rfl rfl ff_6_0 wd_99 rfl ?_
                          refine z_iload_n (pc2 := 132) rfl dX11_move_131 rfl ?_
                          refine z_aload (pc2 := 134) rfl dX11_move_132 rfl ?_
                          refine z_getR 79 6 0 80 (pc2 := 137) rfl dX11_move_134 rfl rfl ff_6_0 wd_99 rfl ?_
                          refine z_iload (pc2 := 139) rfl dX11_move_137 rfl ?_
                          refine z_iload (pc2 := 141) rfl dX11_move_139 rfl ?_
                          obtain ⟨hb109, h⟩ := ab_ck_e h
                          refine z_acopy 80 80 (pc2 := 144) rfl dX11_move_141 rfl rfl rfl rfl wd_919 wd_655 wd_654 wd_82 hb109 rfl rfl ?_
                          obtain ⟨s110, hs110, h⟩ := ab_lt_e h
                          refine z_tops hs110 ?_
                          refine z_iload (pc2 := 146) rfl dX11_move_144 rfl ?_
                          exact z_iret dX11_move_146 rfl rfl (fi_w h)
                        · replace h := ab_neg hc108 h
                          refine z_aload_n (pc2 := 121) rfl dX11_move_120 rfl ?_
                          refine z_iconst (pc2 := 122) rfl dX11_move_121 lt_i_1 ?_
                          obtain ⟨q111, hq111, h⟩ := ab_bnd h
                          refine z_callVi 8 [.int (1 : Int32)] [some (.ref 8), some (.int (1 : Int32))] (pc2 := 125) rfl rfl dX11_move_122 ok_X11_refuse ⟨fun _ => rfl, fun _ => Nat.le_of_ble_eq_true rfl⟩ rfl rv_8 wd_346 wd_348 wd_0 rfl (e_X11_refuse hq111) ?_
                          exact z_iret dX11_move_125 rfl rfl (fi_w h)
                  · replace h := ab_neg hc100 h
                    refine z_aload_n (pc2 := 74) rfl dX11_move_73 rfl ?_
                    refine z_iconst (pc2 := 75) rfl dX11_move_74 lt_i_5 ?_
                    obtain ⟨q112, hq112, h⟩ := ab_bnd h
                    refine z_callVi 8 [.int (5 : Int32)] [some (.ref 8), some (.int (5 : Int32))] (pc2 := 78) rfl rfl dX11_move_75 ok_X11_refuse ⟨fun _ => rfl, fun _ => Nat.le_of_ble_eq_true rfl⟩ rfl rv_8 wd_346 wd_348 wd_0 rfl (e_X11_refuse hq112) ?_
                    exact z_iret dX11_move_78 rfl rfl (fi_w h)
                · replace h := ab_pos hc99 h
                  refine z_aload_n (pc2 := 55) rfl dX11_move_54 rfl ?_
                  refine z_iconst (pc2 := 56) rfl dX11_move_55 lt_i_2 ?_
                  obtain ⟨q113, hq113, h⟩ := ab_bnd h
                  refine z_callVi 8 [.int (2 : Int32)] [some (.ref 8), some (.int (2 : Int32))] (pc2 := 59) rfl rfl dX11_move_56 ok_X11_refuse ⟨fun _ => rfl, fun _ => Nat.le_of_ble_eq_true rfl⟩ rfl rv_8 wd_346 wd_348 wd_0 rfl (e_X11_refuse hq113) ?_
                  exact z_iret dX11_move_59 rfl rfl (fi_w h)
            · replace h := ab_neg hi114 h
              by_cases hi132 : a3 = (2 : Int32)
              · replace h := ab_pos hi132 h
                refine z_aaldR 20 81 (pc2 := 36) rfl dX11_move_35 rfl rfl (by rw [hi132]; rfl) (by rw [hi132]; rfl) ?_
                refine z_astore (pc2 := 38) (L2 := [some (.ref 8), some (.int a1), some (.int a2), some (.int a3), some (.int a4), some (.int a5), some (.ref 79), some (.ref 81)]) rfl dX11_move_36 (by decide) rfl rfl ?_
                refine z_aload (pc2 := 40) rfl dX11_move_38 rfl ?_
                refine z_getI 79 6 2 (pc2 := 43) rfl dX11_move_40 rfl rfl ff_6_2 wd_104 ?_
                refine z_if_eq (pc2 := 46) (tgt := 54) rfl dX11_move_43 (by decide) (fun hc115 => ?_) (fun hc115 => ?_)
                · replace h := ab_pos hc115 h
                  refine z_aload_n (pc2 := 55) rfl dX11_move_54 rfl ?_
                  refine z_iconst (pc2 := 56) rfl dX11_move_55 lt_i_2 ?_
                  obtain ⟨q116, hq116, h⟩ := ab_bnd h
                  refine z_callVi 8 [.int (2 : Int32)] [some (.ref 8), some (.int (2 : Int32))] (pc2 := 59) rfl rfl dX11_move_56 ok_X11_refuse ⟨fun _ => rfl, fun _ => Nat.le_of_ble_eq_true rfl⟩ rfl rv_8 wd_346 wd_348 wd_0 rfl (e_X11_refuse hq116) ?_
                  exact z_iret dX11_move_59 rfl rfl (fi_w h)
                · replace h := ab_neg hc115 h
                  refine z_aload (pc2 := 48) rfl dX11_move_46 rfl ?_
                  refine z_getI 81 6 2 (pc2 := 51) rfl dX11_move_48 rfl rfl ff_6_2 wd_104 ?_
                  refine z_if_ne (pc2 := 54) (tgt := 60) rfl dX11_move_51 (by decide) (fun hc117 => ?_) (fun hc117 => ?_)
                  · replace h := ab_neg hc117 h
                    refine z_aload (pc2 := 62) rfl dX11_move_60 rfl ?_
                    refine z_getI 79 6 2 (pc2 := 65) rfl dX11_move_62 rfl rfl ff_6_2 wd_104 ?_
                    refine z_aload (pc2 := 67) rfl dX11_move_65 rfl ?_
                    refine z_getI 81 6 2 (pc2 := 70) rfl dX11_move_67 rfl rfl ff_6_2 wd_104 ?_
                    refine z_icmp_eq (pc2 := 73) (tgt := 79) rfl dX11_move_70 (by decide) (fun hc118 => ?_) (fun hc118 => ?_)
                    · replace h := ab_pos hc118 h
                      refine z_iload (pc2 := 81) rfl dX11_move_79 rfl ?_
                      refine z_bipush (pc2 := 83) rfl dX11_move_81 lt_b_24 ?_
                      obtain ⟨q119, hq119, h⟩ := ab_bnd h
                      refine z_callSi [.int a5, .int (24 : Int32)] [some (.int a5), some (.int (24 : Int32))] (pc2 := 86) rfl rfl dX11_move_83 ok_X11_outside ⟨fun _ => rfl, fun _ => Nat.le_of_ble_eq_true rfl⟩ rfl wd_343 wd_344 rfl (e_X11_outside hq119) ?_
                      refine z_if_ne (pc2 := 89) (tgt := 120) rfl dX11_move_86 (by decide) (fun hc120 => ?_) (fun hc120 => ?_)
                      · replace h := ab_neg hc120 h
                        refine z_aload_n (pc2 := 121) rfl dX11_move_120 rfl ?_
                        refine z_iconst (pc2 := 122) rfl dX11_move_121 lt_i_1 ?_
                        obtain ⟨q121, hq121, h⟩ := ab_bnd h
                        refine z_callVi 8 [.int (1 : Int32)] [some (.ref 8), some (.int (1 : Int32))] (pc2 := 125) rfl rfl dX11_move_122 ok_X11_refuse ⟨fun _ => rfl, fun _ => Nat.le_of_ble_eq_true rfl⟩ rfl rv_8 wd_346 wd_348 wd_0 rfl (e_X11_refuse hq121) ?_
                        exact z_iret dX11_move_125 rfl rfl (fi_w h)
                      · replace h := ab_pos hc120 h
                        refine z_iload_n (pc2 := 90) rfl dX11_move_89 rfl ?_
                        refine z_aload (pc2 := 92) rfl dX11_move_90 rfl ?_
                        refine z_getI 79 6 1 (pc2 := 95) rfl dX11_move_92 rfl rfl ff_6_1 wd_102 ?_
                        refine z_iload (pc2 := 97) rfl dX11_move_95 rfl ?_
                        refine z_isub (pc2 := 98) rfl dX11_move_97 ?_
                        obtain ⟨q122, hq122, h⟩ := ab_bnd h
                        refine z_callSi [.int a2, .int ((σ 79 1) - a5)] [some (.int a2), some (.int ((σ 79 1) - a5))] (pc2 := 101) rfl rfl dX11_move_98 ok_X11_outside ⟨fun _ => rfl, fun _ => Nat.le_of_ble_eq_true rfl⟩ rfl wd_343 wd_344 rfl (e_X11_outside hq122) ?_
                        refine z_if_ne (pc2 := 104) (tgt := 120) rfl dX11_move_101 (by decide) (fun hc123 => ?_) (fun hc123 => ?_)
                        · replace h := ab_neg hc123 h
                          refine z_aload_n (pc2 := 121) rfl dX11_move_120 rfl ?_
                          refine z_iconst (pc2 := 122) rfl dX11_move_121 lt_i_1 ?_
                          obtain ⟨q124, hq124, h⟩ := ab_bnd h
                          refine z_callVi 8 [.int (1 : Int32)] [some (.ref 8), some (.int (1 : Int32))] (pc2 := 125) rfl rfl dX11_move_122 ok_X11_refuse ⟨fun _ => rfl, fun _ => Nat.le_of_ble_eq_true rfl⟩ rfl rv_8 wd_346 wd_348 wd_0 rfl (e_X11_refuse hq124) ?_
                          exact z_iret dX11_move_125 rfl rfl (fi_w h)
                        · replace h := ab_pos hc123 h
                          refine z_iload (pc2 := 106) rfl dX11_move_104 rfl ?_
                          refine z_aload (pc2 := 108) rfl dX11_move_106 rfl ?_
                          refine z_getI 81 6 1 (pc2 := 111) rfl dX11_move_108 rfl rfl ff_6_1 wd_102 ?_
                          refine z_iload (pc2 := 113) rfl dX11_move_111 rfl ?_
                          refine z_isub (pc2 := 114) rfl dX11_move_113 ?_
                          obtain ⟨q125, hq125, h⟩ := ab_bnd h
                          refine z_callSi [.int a4, .int ((σ 81 1) - a5)] [some (.int a4), some (.int ((σ 81 1) - a5))] (pc2 := 117) rfl rfl dX11_move_114 ok_X11_outside ⟨fun _ => rfl, fun _ => Nat.le_of_ble_eq_true rfl⟩ rfl wd_343 wd_344 rfl (e_X11_outside hq125) ?_
                          refine z_if_eq (pc2 := 120) (tgt := 126) rfl dX11_move_117 (by decide) (fun hc126 => ?_) (fun hc126 => ?_)
                          · replace h := ab_pos hc126 h
                            refine z_aload (pc2 := 128) rfl dX11_move_126 rfl ?_
                            refine z_getR 79 6 0 80 (pc2 := 131) rfl dX11_move_128 rfl rfl ff_6_0 wd_99 rfl ?_
                            refine z_iload_n (pc2 := 132) rfl dX11_move_131 rfl ?_
                            refine z_aload (pc2 := 134) rfl dX11_move_132 rfl ?_
                            refine z_getR 81 6 0 82 (pc2 := 137) rfl dX11_move_134 rfl rfl ff_6_0 wd_99 rfl ?_
                            refine z_iload (pc2 := 139) rfl dX11_move_137 rfl ?_
                            refine z_iload (pc2 := 141) rfl dX11_move_139 rfl ?_
                            obtain ⟨hb127, h⟩ := ab_ck_e h
                            refine z_acopy 80 82 (pc2 := 144) rfl dX11_move_141 rfl rfl rfl rfl wd_919 wd_655 wd_654 wd_82 hb127 rfl rfl ?_
                            obtain ⟨s128, hs128, h⟩ := ab_lt_e h
                            refine z_tops hs128 ?_
                            refine z_iload (pc2 := 146) rfl dX11_move_144 rfl ?_
                            exact z_iret dX11_move_146 rfl rfl (fi_w h)
                          · replace h := ab_neg hc126 h
                            refine z_aload_n (pc2 := 121) rfl dX11_move_120 rfl ?_
                            refine z_iconst (pc2 := 122) rfl dX11_move_121 lt_i_1 ?_
                            obtain ⟨q129, hq129, h⟩ := ab_bnd h
                            refine z_callVi 8 [.int (1 : Int32)] [some (.ref 8), some (.int (1 : Int32))] (pc2 := 125) rfl rfl dX11_move_122 ok_X11_refuse ⟨fun _ => rfl, fun _ => Nat.le_of_ble_eq_true rfl⟩ rfl rv_8 wd_346 wd_348 wd_0 rfl (e_X11_refuse hq129) ?_
                            exact z_iret dX11_move_125 rfl rfl (fi_w h)
                    · replace h := ab_neg hc118 h
                      refine z_aload_n (pc2 := 74) rfl dX11_move_73 rfl ?_
                      refine z_iconst (pc2 := 75) rfl dX11_move_74 lt_i_5 ?_
                      obtain ⟨q130, hq130, h⟩ := ab_bnd h
                      refine z_callVi 8 [.int (5 : Int32)] [some (.ref 8), some (.int (5 : Int32))] (pc2 := 78) rfl rfl dX11_move_75 ok_X11_refuse ⟨fun _ => rfl, fun _ => Nat.le_of_ble_eq_true rfl⟩ rfl rv_8 wd_346 wd_348 wd_0 rfl (e_X11_refuse hq130) ?_
                      exact z_iret dX11_move_78 rfl rfl (fi_w h)
                  · replace h := ab_pos hc117 h
                    refine z_aload_n (pc2 := 55) rfl dX11_move_54 rfl ?_
                    refine z_iconst (pc2 := 56) rfl dX11_move_55 lt_i_2 ?_
                    obtain ⟨q131, hq131, h⟩ := ab_bnd h
                    refine z_callVi 8 [.int (2 : Int32)] [some (.ref 8), some (.int (2 : Int32))] (pc2 := 59) rfl rfl dX11_move_56 ok_X11_refuse ⟨fun _ => rfl, fun _ => Nat.le_of_ble_eq_true rfl⟩ rfl rv_8 wd_346 wd_348 wd_0 rfl (e_X11_refuse hq131) ?_
                    exact z_iret dX11_move_59 rfl rfl (fi_w h)
              · replace h := ab_neg hi132 h
                by_cases hi150 : a3 = (3 : Int32)
                · replace h := ab_pos hi150 h
                  refine z_aaldR 20 83 (pc2 := 36) rfl dX11_move_35 rfl rfl (by rw [hi150]; rfl) (by rw [hi150]; rfl) ?_
                  refine z_astore (pc2 := 38) (L2 := [some (.ref 8), some (.int a1), some (.int a2), some (.int a3), some (.int a4), some (.int a5), some (.ref 79), some (.ref 83)]) rfl dX11_move_36 (by decide) rfl rfl ?_
                  refine z_aload (pc2 := 40) rfl dX11_move_38 rfl ?_
                  refine z_getI 79 6 2 (pc2 := 43) rfl dX11_move_40 rfl rfl ff_6_2 wd_104 ?_
                  refine z_if_eq (pc2 := 46) (tgt := 54) rfl dX11_move_43 (by decide) (fun hc133 => ?_) (fun hc133 => ?_)
                  · replace h := ab_pos hc133 h
                    refine z_aload_n (pc2 := 55) rfl dX11_move_54 rfl ?_
                    refine z_iconst (pc2 := 56) rfl dX11_move_55 lt_i_2 ?_
                    obtain ⟨q134, hq134, h⟩ := ab_bnd h
                    refine z_callVi 8 [.int (2 : Int32)] [some (.ref 8), some (.int (2 : Int32))] (pc2 := 59) rfl rfl dX11_move_56 ok_X11_refuse ⟨fun _ => rfl, fun _ => Nat.le_of_ble_eq_true rfl⟩ rfl rv_8 wd_346 wd_348 wd_0 rfl (e_X11_refuse hq134) ?_
                    exact z_iret dX11_move_59 rfl rfl (fi_w h)
                  · replace h := ab_neg hc133 h
                    refine z_aload (pc2 := 48) rfl dX11_move_46 rfl ?_
                    refine z_getI 83 6 2 (pc2 := 51) rfl dX11_move_48 rfl rfl ff_6_2 wd_104 ?_
                    refine z_if_ne (pc2 := 54) (tgt := 60) rfl dX11_move_51 (by decide) (fun hc135 => ?_) (fun hc135 => ?_)
                    · replace h := ab_neg hc135 h
                      refine z_aload (pc2 := 62) rfl dX11_move_60 rfl ?_
                      refine z_getI 79 6 2 (pc2 := 65) rfl dX11_move_62 rfl rfl ff_6_2 wd_104 ?_
                      refine z_aload (pc2 := 67) rfl dX11_move_65 rfl ?_
                      refine z_getI 83 6 2 (pc2 := 70) rfl dX11_move_67 rfl rfl ff_6_2 wd_104 ?_
                      refine z_icmp_eq (pc2 := 73) (tgt := 79) rfl dX11_move_70 (by decide) (fun hc136 => ?_) (fun hc136 => ?_)
                      · replace h := ab_pos hc136 h
                        refine z_iload (pc2 := 81) rfl dX11_move_79 rfl ?_
                        refine z_bipush (pc2 := 83) rfl dX11_move_81 lt_b_24 ?_
                        obtain ⟨q137, hq137, h⟩ := ab_bnd h
                        refine z_callSi [.int a5, .int (24 : Int32)] [some (.int a5), some (.int (24 : Int32))] (pc2 := 86) rfl rfl dX11_move_83 ok_X11_outside ⟨fun _ => rfl, fun _ => Nat.le_of_ble_eq_true rfl⟩ rfl wd_343 wd_344 rfl (e_X11_outside hq137) ?_
                        refine z_if_ne (pc2 := 89) (tgt := 120) rfl dX11_move_86 (by decide) (fun hc138 => ?_) (fun hc138 => ?_)
                        · replace h := ab_neg hc138 h
                          refine z_aload_n (pc2 := 121) rfl dX11_move_120 rfl ?_
                          refine z_iconst (pc2 := 122) rfl dX11_move_121 lt_i_1 ?_
                          obtain ⟨q139, hq139, h⟩ := ab_bnd h
                          refine z_callVi 8 [.int (1 : Int32)] [some (.ref 8), some (.int (1 : Int32))] (pc2 := 125) rfl rfl dX11_move_122 ok_X11_refuse ⟨fun _ => rfl, fun _ => Nat.le_of_ble_eq_true rfl⟩ rfl rv_8 wd_346 wd_348 wd_0 rfl (e_X11_refuse hq139) ?_
                          exact z_iret dX11_move_125 rfl rfl (fi_w h)
                        · replace h := ab_pos hc138 h
                          refine z_iload_n (pc2 := 90) rfl dX11_move_89 rfl ?_
                          refine z_aload (pc2 := 92) rfl dX11_move_90 rfl ?_
                          refine z_getI 79 6 1 (pc2 := 95) rfl dX11_move_92 rfl rfl ff_6_1 wd_102 ?_
                          refine z_iload (pc2 := 97) rfl dX11_move_95 rfl ?_
                          refine z_isub (pc2 := 98) rfl dX11_move_97 ?_
                          obtain ⟨q140, hq140, h⟩ := ab_bnd h
                          refine z_callSi [.int a2, .int ((σ 79 1) - a5)] [some (.int a2), some (.int ((σ 79 1) - a5))] (pc2 := 101) rfl rfl dX11_move_98 ok_X11_outside ⟨fun _ => rfl, fun _ => Nat.le_of_ble_eq_true rfl⟩ rfl wd_343 wd_344 rfl (e_X11_outside hq140) ?_
                          refine z_if_ne (pc2 := 104) (tgt := 120) rfl dX11_move_101 (by decide) (fun hc141 => ?_) (fun hc141 => ?_)
                          · replace h := ab_neg hc141 h
                            refine z_aload_n (pc2 := 121) rfl dX11_move_120 rfl ?_
                            refine z_iconst (pc2 := 122) rfl dX11_move_121 lt_i_1 ?_
                            obtain ⟨q142, hq142, h⟩ := ab_bnd h
                            refine z_callVi 8 [.int (1 : Int32)] [some (.ref 8), some (.int (1 : Int32))] (pc2 := 125) rfl rfl dX11_move_122 ok_X11_refuse ⟨fun _ => rfl, fun _ => Nat.le_of_ble_eq_true rfl⟩ rfl rv_8 wd_346 wd_348 wd_0 rfl (e_X11_refuse hq142) ?_
                            exact z_iret dX11_move_125 rfl rfl (fi_w h)
                          · replace h := ab_pos hc141 h
                            refine z_iload (pc2 := 106) rfl dX11_move_104 rfl ?_
                            refine z_aload (pc2 := 108) rfl dX11_move_106 rfl ?_
                            refine z_getI 83 6 1 (pc2 := 111) rfl dX11_move_108 rfl rfl ff_6_1 wd_102 ?_
                            refine z_iload (pc2 := 113) rfl dX11_move_111 rfl ?_
                            refine z_isub (pc2 := 114) rfl dX11_move_113 ?_
                            obtain ⟨q143, hq143, h⟩ := ab_bnd h
                            refine z_callSi [.int a4, .int ((σ 83 1) - a5)] [some (.int a4), some (.int ((σ 83 1) - a5))] (pc2 := 117) rfl rfl dX11_move_114 ok_X11_outside ⟨fun _ => rfl, fun _ => Nat.le_of_ble_eq_true rfl⟩ rfl wd_343 wd_344 rfl (e_X11_outside hq143) ?_
                            refine z_if_eq (pc2 := 120) (tgt := 126) rfl dX11_move_117 (by decide) (fun hc144 => ?_) (fun hc144 => ?_)
                            · replace h := ab_pos hc144 h
                              refine z_aload (pc2 := 128) rfl dX11_move_126 rfl ?_
                              refine z_getR 79 6 0 80 (pc2 := 131) rfl dX11_move_128 rfl rfl ff_6_0 wd_99 rfl ?_
                              refine z_iload_n (pc2 := 132) rfl dX11_move_131 rfl ?_
                              refine z_aload (pc2 := 134) rfl dX11_move_132 rfl ?_
                              refine z_getR 83 6 0 84 (pc2 := 137) rfl dX11_move_134 rfl rfl ff_6_0 wd_99 rfl ?_
                              refine z_iload (pc2 := 139) rfl dX11_move_137 rfl ?_
                              refine z_iload (pc2 := 141) rfl dX11_move_139 rfl ?_
                              obtain ⟨hb145, h⟩ := ab_ck_e h
                              refine z_acopy 80 84 (pc2 := 144) rfl dX11_move_141 rfl rfl rfl rfl wd_919 wd_655 wd_654 wd_82 hb145 rfl rfl ?_
                              obtain ⟨s146, hs146, h⟩ := ab_lt_e h
                              refine z_tops hs146 ?_
                              refine z_iload (pc2 := 146) rfl dX11_move_144 rfl ?_
                              exact z_iret dX11_move_146 rfl rfl (fi_w h)
                            · replace h := ab_neg hc144 h
                              refine z_aload_n (pc2 := 121) rfl dX11_move_120 rfl ?_
                              refine z_iconst (pc2 := 122) rfl dX11_move_121 lt_i_1 ?_
                              obtain ⟨q147, hq147, h⟩ := ab_bnd h
                              refine z_callVi 8 [.int (1 : Int32)] [some (.ref 8), some (.int (1 : Int32))] (pc2 := 125) rfl rfl dX11_move_122 ok_X11_refuse ⟨fun _ => rfl, fun _ => Nat.le_of_ble_eq_true rfl⟩ rfl rv_8 wd_346 wd_348 wd_0 rfl (e_X11_refuse hq147) ?_
                              exact z_iret dX11_move_125 rfl rfl (fi_w h)
                      · replace h := ab_neg hc136 h
                        refine z_aload_n (pc2 := 74) rfl dX11_move_73 rfl ?_
                        refine z_iconst (pc2 := 75) rfl dX11_move_74 lt_i_5 ?_
                        obtain ⟨q148, hq148, h⟩ := ab_bnd h
                        refine z_callVi 8 [.int (5 : Int32)] [some (.ref 8), some (.int (5 : Int32))] (pc2 := 78) rfl rfl dX11_move_75 ok_X11_refuse ⟨fun _ => rfl, fun _ => Nat.le_of_ble_eq_true rfl⟩ rfl rv_8 wd_346 wd_348 wd_0 rfl (e_X11_refuse hq148) ?_
                        exact z_iret dX11_move_78 rfl rfl (fi_w h)
                    · replace h := ab_pos hc135 h
                      refine z_aload_n (pc2 := 55) rfl dX11_move_54 rfl ?_
                      refine z_iconst (pc2 := 56) rfl dX11_move_55 lt_i_2 ?_
                      obtain ⟨q149, hq149, h⟩ := ab_bnd h
                      refine z_callVi 8 [.int (2 : Int32)] [some (.ref 8), some (.int (2 : Int32))] (pc2 := 59) rfl rfl dX11_move_56 ok_X11_refuse ⟨fun _ => rfl, fun _ => Nat.le_of_ble_eq_true rfl⟩ rfl rv_8 wd_346 wd_348 wd_0 rfl (e_X11_refuse hq149) ?_
                      exact z_iret dX11_move_59 rfl rfl (fi_w h)
                · replace h := ab_neg hi150 h
                  cases h
        · replace h := ab_neg hi151 h
          by_cases hi224 : a1 = (2 : Int32)
          · replace h := ab_pos hi224 h
            refine z_aaldR 20 81 (pc2 := 28) rfl dX11_move_27 rfl rfl (by rw [hi224]; rfl) (by rw [hi224]; rfl) ?_
            refine z_astore (pc2 := 30) (L2 := [some (.ref 8), some (.int a1), some (.int a2), some (.int a3), some (.int a4), some (.int a5), some (.ref 81), none]) rfl dX11_move_28 (by decide) rfl rfl ?_
            refine z_aload_n (pc2 := 31) rfl dX11_move_30 rfl ?_
            refine z_getR 8 11 8 20 (pc2 := 34) rfl dX11_move_31 rfl rfl ff_11_8 wd_310 rfl ?_
            refine z_iload_n (pc2 := 35) rfl dX11_move_34 rfl ?_
            by_cases hi169 : a3 = (0 : Int32)
            · replace h := ab_pos hi169 h
              refine z_aaldR 20 77 (pc2 := 36) rfl dX11_move_35 rfl rfl (by rw [hi169]; rfl) (by rw [hi169]; rfl) ?_
              refine z_astore (pc2 := 38) (L2 := [some (.ref 8), some (.int a1), some (.int a2), some (.int a3), some (.int a4), some (.int a5), some (.ref 81), some (.ref 77)]) rfl dX11_move_36 (by decide) rfl rfl ?_
              refine z_aload (pc2 := 40) rfl dX11_move_38 rfl ?_
              refine z_getI 81 6 2 (pc2 := 43) rfl dX11_move_40 rfl rfl ff_6_2 wd_104 ?_
              refine z_if_eq (pc2 := 46) (tgt := 54) rfl dX11_move_43 (by decide) (fun hc152 => ?_) (fun hc152 => ?_)
              · replace h := ab_pos hc152 h
                refine z_aload_n (pc2 := 55) rfl dX11_move_54 rfl ?_
                refine z_iconst (pc2 := 56) rfl dX11_move_55 lt_i_2 ?_
                obtain ⟨q153, hq153, h⟩ := ab_bnd h
                refine z_callVi 8 [.int (2 : Int32)] [some (.ref 8), some (.int (2 : Int32))] (pc2 := 59) rfl rfl dX11_move_56 ok_X11_refuse ⟨fun _ => rfl, fun _ => Nat.le_of_ble_eq_true rfl⟩ rfl rv_8 wd_346 wd_348 wd_0 rfl (e_X11_refuse hq153) ?_
                exact z_iret dX11_move_59 rfl rfl (fi_w h)
              · replace h := ab_neg hc152 h
                refine z_aload (pc2 := 48) rfl dX11_move_46 rfl ?_
                refine z_getI 77 6 2 (pc2 := 51) rfl dX11_move_48 rfl rfl ff_6_2 wd_104 ?_
                refine z_if_ne (pc2 := 54) (tgt := 60) rfl dX11_move_51 (by decide) (fun hc154 => ?_) (fun hc154 => ?_)
                · replace h := ab_neg hc154 h
                  refine z_aload (pc2 := 62) rfl dX11_move_60 rfl ?_
                  refine z_getI 81 6 2 (pc2 := 65) rfl dX11_move_62 rfl rfl ff_6_2 wd_104 ?_
                  refine z_aload (pc2 := 67) rfl dX11_move_65 rfl ?_
                  refine z_getI 77 6 2 (pc2 := 70) rfl dX11_move_67 rfl rfl ff_6_2 wd_104 ?_
                  refine z_icmp_eq (pc2 := 73) (tgt := 79) rfl dX11_move_70 (by decide) (fun hc155 => ?_) (fun hc155 => ?_)
                  · replace h := ab_pos hc155 h
                    refine z_iload (pc2 := 81) rfl dX11_move_79 rfl ?_
                    refine z_bipush (pc2 := 83) rfl dX11_move_81 lt_b_24 ?_
                    obtain ⟨q156, hq156, h⟩ := ab_bnd h
                    refine z_callSi [.int a5, .int (24 : Int32)] [some (.int a5), some (.int (24 : Int32))] (pc2 := 86) rfl rfl dX11_move_83 ok_X11_outside ⟨fun _ => rfl, fun _ => Nat.le_of_ble_eq_true rfl⟩ rfl wd_343 wd_344 rfl (e_X11_outside hq156) ?_
                    refine z_if_ne (pc2 := 89) (tgt := 120) rfl dX11_move_86 (by decide) (fun hc157 => ?_) (fun hc157 => ?_)
                    · replace h := ab_neg hc157 h
                      refine z_aload_n (pc2 := 121) rfl dX11_move_120 rfl ?_
                      refine z_iconst (pc2 := 122) rfl dX11_move_121 lt_i_1 ?_
                      obtain ⟨q158, hq158, h⟩ := ab_bnd h
                      refine z_callVi 8 [.int (1 : Int32)] [some (.ref 8), some (.int (1 : Int32))] (pc2 := 125) rfl rfl dX11_move_122 ok_X11_refuse ⟨fun _ => rfl, fun _ => Nat.le_of_ble_eq_true rfl⟩ rfl rv_8 wd_346 wd_348 wd_0 rfl (e_X11_refuse hq158) ?_
                      exact z_iret dX11_move_125 rfl rfl (fi_w h)
                    · replace h := ab_pos hc157 h
                      refine z_iload_n (pc2 := 90) rfl dX11_move_89 rfl ?_
                      refine z_aload (pc2 := 92) rfl dX11_move_90 rfl ?_
                      refine z_getI 81 6 1 (pc2 := 95) rfl dX11_move_92 rfl rfl ff_6_1 wd_102 ?_
                      refine z_iload (pc2 := 97) rfl dX11_move_95 rfl ?_
                      refine z_isub (pc2 := 98) rfl dX11_move_97 ?_
                      obtain ⟨q159, hq159, h⟩ := ab_bnd h
                      refine z_callSi [.int a2, .int ((σ 81 1) - a5)] [some (.int a2), some (.int ((σ 81 1) - a5))] (pc2 := 101) rfl rfl dX11_move_98 ok_X11_outside ⟨fun _ => rfl, fun _ => Nat.le_of_ble_eq_true rfl⟩ rfl wd_343 wd_344 rfl (e_X11_outside hq159) ?_
                      refine z_if_ne (pc2 := 104) (tgt := 120) rfl dX11_move_101 (by decide) (fun hc160 => ?_) (fun hc160 => ?_)
                      · replace h := ab_neg hc160 h
                        refine z_aload_n (pc2 := 121) rfl dX11_move_120 rfl ?_
                        refine z_iconst (pc2 := 122) rfl dX11_move_121 lt_i_1 ?_
                        obtain ⟨q161, hq161, h⟩ := ab_bnd h
                        refine z_callVi 8 [.int (1 : Int32)] [some (.ref 8), some (.int (1 : Int32))] (pc2 := 125) rfl rfl dX11_move_122 ok_X11_refuse ⟨fun _ => rfl, fun _ => Nat.le_of_ble_eq_true rfl⟩ rfl rv_8 wd_346 wd_348 wd_0 rfl (e_X11_refuse hq161) ?_
                        exact z_iret dX11_move_125 rfl rfl (fi_w h)
                      · replace h := ab_pos hc160 h
                        refine z_iload (pc2 := 106) rfl dX11_move_104 rfl ?_
                        refine z_aload (pc2 := 108) rfl dX11_move_106 rfl ?_
                        refine z_getI 77 6 1 (pc2 := 111) rfl dX11_move_108 rfl rfl ff_6_1 wd_102 ?_
                        refine z_iload (pc2 := 113) rfl dX11_move_111 rfl ?_
                        refine z_isub (pc2 := 114) rfl dX11_move_113 ?_
                        obtain ⟨q162, hq162, h⟩ := ab_bnd h
                        refine z_callSi [.int a4, .int ((σ 77 1) - a5)] [some (.int a4), some (.int ((σ 77 1) - a5))] (pc2 := 117) rfl rfl dX11_move_114 ok_X11_outside ⟨fun _ => rfl, fun _ => Nat.le_of_ble_eq_true rfl⟩ rfl wd_343 wd_344 rfl (e_X11_outside hq162) ?_
                        refine z_if_eq (pc2 := 120) (tgt := 126) rfl dX11_move_117 (by decide) (fun hc163 => ?_) (fun hc163 => ?_)
                        · replace h := ab_pos hc163 h
                          refine z_aload (pc2 := 128) rfl dX11_move_126 rfl ?_
                          refine z_getR 81 6 0 82 (pc2 := 131) rfl dX11_move_128 rfl rfl ff_6_0 wd_99 rfl ?_
                          refine z_iload_n (pc2 := 132) rfl dX11_move_131 rfl ?_
                          refine z_aload (pc2 := 134) rfl dX11_move_132 rfl ?_
                          refine z_getR 77 6 0 78 (pc2 := 137) rfl dX11_move_134 rfl rfl ff_6_0 wd_99 rfl ?_
                          refine z_iload (pc2 := 139) rfl dX11_move_137 rfl ?_
                          refine z_iload (pc2 := 141) rfl dX11_move_139 rfl ?_
                          obtain ⟨hb164, h⟩ := ab_ck_e h
                          refine z_acopy 82 78 (pc2 := 144) rfl dX11_move_141 rfl rfl rfl rfl wd_919 wd_655 wd_654 wd_82 hb164 rfl rfl ?_
                          obtain ⟨s165, hs165, h⟩ := ab_lt_e h
                          refine z_tops hs165 ?_
                          refine z_iload (pc2 := 146) rfl dX11_move_144 rfl ?_
                          exact z_iret dX11_move_146 rfl rfl (fi_w h)
                        · replace h := ab_neg hc163 h
                          refine z_aload_n (pc2 := 121) rfl dX11_move_120 rfl ?_
                          refine z_iconst (pc2 := 122) rfl dX11_move_121 lt_i_1 ?_
                          obtain ⟨q166, hq166, h⟩ := ab_bnd h
                          refine z_callVi 8 [.int (1 : Int32)] [some (.ref 8), some (.int (1 : Int32))] (pc2 := 125) rfl rfl dX11_move_122 ok_X11_refuse ⟨fun _ => rfl, fun _ => Nat.le_of_ble_eq_true rfl⟩ rfl rv_8 wd_346 wd_348 wd_0 rfl (e_X11_refuse hq166) ?_
                          exact z_iret dX11_move_125 rfl rfl (fi_w h)
                  · replace h := ab_neg hc155 h
                    refine z_aload_n (pc2 := 74) rfl dX11_move_73 rfl ?_
                    refine z_iconst (pc2 := 75) rfl dX11_move_74 lt_i_5 ?_
                    obtain ⟨q167, hq167, h⟩ := ab_bnd h
                    refine z_callVi 8 [.int (5 : Int32)] [some (.ref 8), some (.int (5 : Int32))] (pc2 := 78) rfl rfl dX11_move_75 ok_X11_refuse ⟨fun _ => rfl, fun _ => Nat.le_of_ble_eq_true rfl⟩ rfl rv_8 wd_346 wd_348 wd_0 rfl (e_X11_refuse hq167) ?_
                    exact z_iret dX11_move_78 rfl rfl (fi_w h)
                · replace h := ab_pos hc154 h
                  refine z_aload_n (pc2 := 55) rfl dX11_move_54 rfl ?_
                  refine z_iconst (pc2 := 56) rfl dX11_move_55 lt_i_2 ?_
                  obtain ⟨q168, hq168, h⟩ := ab_bnd h
                  refine z_callVi 8 [.int (2 : Int32)] [some (.ref 8), some (.int (2 : Int32))] (pc2 := 59) rfl rfl dX11_move_56 ok_X11_refuse ⟨fun _ => rfl, fun _ => Nat.le_of_ble_eq_true rfl⟩ rfl rv_8 wd_346 wd_348 wd_0 rfl (e_X11_refuse hq168) ?_
                  exact z_iret dX11_move_59 rfl rfl (fi_w h)
            · replace h := ab_neg hi169 h
              by_cases hi187 : a3 = (1 : Int32)
              · replace h := ab_pos hi187 h
                refine z_aaldR 20 79 (pc2 := 36) rfl dX11_move_35 rfl rfl (by rw [hi187]; rfl) (by rw [hi187]; rfl) ?_
                refine z_astore (pc2 := 38) (L2 := [some (.ref 8), some (.int a1), some (.int a2), some (.int a3), some (.int a4), some (.int a5), some (.ref 81), some (.ref 79)]) rfl dX11_move_36 (by decide) rfl rfl ?_
                refine z_aload (pc2 := 40) rfl dX11_move_38 rfl ?_
                refine z_getI 81 6 2 (pc2 := 43) rfl dX11_move_40 rfl rfl ff_6_2 wd_104 ?_
                refine z_if_eq (pc2 := 46) (tgt := 54) rfl dX11_move_43 (by decide) (fun hc170 => ?_) (fun hc170 => ?_)
                · replace h := ab_pos hc170 h
                  refine z_aload_n (pc2 := 55) rfl dX11_move_54 rfl ?_
                  refine z_iconst (pc2 := 56) rfl dX11_move_55 lt_i_2 ?_
                  obtain ⟨q171, hq171, h⟩ := ab_bnd h
                  refine z_callVi 8 [.int (2 : Int32)] [some (.ref 8), some (.int (2 : Int32))] (pc2 := 59) rfl rfl dX11_move_56 ok_X11_refuse ⟨fun _ => rfl, fun _ => Nat.le_of_ble_eq_true rfl⟩ rfl rv_8 wd_346 wd_348 wd_0 rfl (e_X11_refuse hq171) ?_
                  exact z_iret dX11_move_59 rfl rfl (fi_w h)
                · replace h := ab_neg hc170 h
                  refine z_aload (pc2 := 48) rfl dX11_move_46 rfl ?_
                  refine z_getI 79 6 2 (pc2 := 51) rfl dX11_move_48 rfl rfl ff_6_2 wd_104 ?_
                  refine z_if_ne (pc2 := 54) (tgt := 60) rfl dX11_move_51 (by decide) (fun hc172 => ?_) (fun hc172 => ?_)
                  · replace h := ab_neg hc172 h
                    refine z_aload (pc2 := 62) rfl dX11_move_60 rfl ?_
                    refine z_getI 81 6 2 (pc2 := 65) rfl dX11_move_62 rfl rfl ff_6_2 wd_104 ?_
                    refine z_aload (pc2 := 67) rfl dX11_move_65 rfl ?_
                    refine z_getI 79 6 2 (pc2 := 70) rfl dX11_move_67 rfl rfl ff_6_2 wd_104 ?_
                    refine z_icmp_eq (pc2 := 73) (tgt := 79) rfl dX11_move_70 (by decide) (fun hc173 => ?_) (fun hc173 => ?_)
                    · replace h := ab_pos hc173 h
                      refine z_iload (pc2 := 81) rfl dX11_move_79 rfl ?_
                      refine z_bipush (pc2 := 83) rfl dX11_move_81 lt_b_24 ?_
                      obtain ⟨q174, hq174, h⟩ := ab_bnd h
                      refine z_callSi [.int a5, .int (24 : Int32)] [some (.int a5), some (.int (24 : Int32))] (pc2 := 86) rfl rfl dX11_move_83 ok_X11_outside ⟨fun _ => rfl, fun _ => Nat.le_of_ble_eq_true rfl⟩ rfl wd_343 wd_344 rfl (e_X11_outside hq174) ?_
                      refine z_if_ne (pc2 := 89) (tgt := 120) rfl dX11_move_86 (by decide) (fun hc175 => ?_) (fun hc175 => ?_)
                      · replace h := ab_neg hc175 h
                        refine z_aload_n (pc2 := 121) rfl dX11_move_120 rfl ?_
                        refine z_iconst (pc2 := 122) rfl dX11_move_121 lt_i_1 ?_
                        obtain ⟨q176, hq176, h⟩ := ab_bnd h
                        refine z_callVi 8 [.int (1 : Int32)] [some (.ref 8), some (.int (1 : Int32))] (pc2 := 125) rfl rfl dX11_move_122 ok_X11_refuse ⟨fun _ => rfl, fun _ => Nat.le_of_ble_eq_true rfl⟩ rfl rv_8 wd_346 wd_348 wd_0 rfl (e_X11_refuse hq176) ?_
                        exact z_iret dX11_move_125 rfl rfl (fi_w h)
                      · replace h := ab_pos hc175 h
                        refine z_iload_n (pc2 := 90) rfl dX11_move_89 rfl ?_
                        refine z_aload (pc2 := 92) rfl dX11_move_90 rfl ?_
                        refine z_getI 81 6 1 (pc2 := 95) rfl dX11_move_92 rfl rfl ff_6_1 wd_102 ?_
                        refine z_iload (pc2 := 97) rfl dX11_move_95 rfl ?_
                        refine z_isub (pc2 := 98) rfl dX11_move_97 ?_
                        obtain ⟨q177, hq177, h⟩ := ab_bnd h
                        refine z_callSi [.int a2, .int ((σ 81 1) - a5)] [some (.int a2), some (.int ((σ 81 1) - a5))] (pc2 := 101) rfl rfl dX11_move_98 ok_X11_outside ⟨fun _ => rfl, fun _ => Nat.le_of_ble_eq_true rfl⟩ rfl wd_343 wd_344 rfl (e_X11_outside hq177) ?_
                        refine z_if_ne (pc2 := 104) (tgt := 120) rfl dX11_move_101 (by decide) (fun hc178 => ?_) (fun hc178 => ?_)
                        · replace h := ab_neg hc178 h
                          refine z_aload_n (pc2 := 121) rfl dX11_move_120 rfl ?_
                          refine z_iconst (pc2 := 122) rfl dX11_move_121 lt_i_1 ?_
                          obtain ⟨q179, hq179, h⟩ := ab_bnd h
                          refine z_callVi 8 [.int (1 : Int32)] [some (.ref 8), some (.int (1 : Int32))] (pc2 := 125) rfl rfl dX11_move_122 ok_X11_refuse ⟨fun _ => rfl, fun _ => Nat.le_of_ble_eq_true rfl⟩ rfl rv_8 wd_346 wd_348 wd_0 rfl (e_X11_refuse hq179) ?_
                          exact z_iret dX11_move_125 rfl rfl (fi_w h)
                        · replace h := ab_pos hc178 h
                          refine z_iload (pc2 := 106) rfl dX11_move_104 rfl ?_
                          refine z_aload (pc2 := 108) rfl dX11_move_106 rfl ?_
                          refine z_getI 79 6 1 (pc2 := 111) rfl dX11_move_108 rfl rfl ff_6_1 wd_102 ?_
                          refine z_iload (pc2 := 113) rfl dX11_move_111 rfl ?_
                          refine z_isub (pc2 := 114) rfl dX11_move_113 ?_
                          obtain ⟨q180, hq180, h⟩ := ab_bnd h
                          refine z_callSi [.int a4, .int ((σ 79 1) - a5)] [some (.int a4), some (.int ((σ 79 1) - a5))] (pc2 := 117) rfl rfl dX11_move_114 ok_X11_outside ⟨fun _ => rfl, fun _ => Nat.le_of_ble_eq_true rfl⟩ rfl wd_343 wd_344 rfl (e_X11_outside hq180) ?_
                          refine z_if_eq (pc2 := 120) (tgt := 126) rfl dX11_move_117 (by decide) (fun hc181 => ?_) (fun hc181 => ?_)
                          · replace h := ab_pos hc181 h
                            refine z_aload (pc2 := 128) rfl dX11_move_126 rfl ?_
                            refine z_getR 81 6 0 82 (pc2 := 131) rfl dX11_move_128 rfl rfl ff_6_0 wd_99 rfl ?_
                            refine z_iload_n (pc2 := 132) rfl dX11_move_131 rfl ?_
                            refine z_aload (pc2 := 134) rfl dX11_move_132 rfl ?_
                            refine z_getR 79 6 0 80 (pc2 := 137) rfl dX11_move_134 rfl rfl ff_6_0 wd_99 rfl ?_
                            refine z_iload (pc2 := 139) rfl dX11_move_137 rfl ?_
                            refine z_iload (pc2 := 141) rfl dX11_move_139 rfl ?_
                            obtain ⟨hb182, h⟩ := ab_ck_e h
                            refine z_acopy 82 80 (pc2 := 144) rfl dX11_move_141 rfl rfl rfl rfl wd_919 wd_655 wd_654 wd_82 hb182 rfl rfl ?_
                            obtain ⟨s183, hs183, h⟩ := ab_lt_e h
                            refine z_tops hs183 ?_
                            refine z_iload (pc2 := 146) rfl dX11_move_144 rfl ?_
                            exact z_iret dX11_move_146 rfl rfl (fi_w h)
                          · replace h := ab_neg hc181 h
                            refine z_aload_n (pc2 := 121) rfl dX11_move_120 rfl ?_
                            refine z_iconst (pc2 := 122) rfl dX11_move_121 lt_i_1 ?_
                            obtain ⟨q184, hq184, h⟩ := ab_bnd h
                            refine z_callVi 8 [.int (1 : Int32)] [some (.ref 8), some (.int (1 : Int32))] (pc2 := 125) rfl rfl dX11_move_122 ok_X11_refuse ⟨fun _ => rfl, fun _ => Nat.le_of_ble_eq_true rfl⟩ rfl rv_8 wd_346 wd_348 wd_0 rfl (e_X11_refuse hq184) ?_
                            exact z_iret dX11_move_125 rfl rfl (fi_w h)
                    · replace h := ab_neg hc173 h
                      refine z_aload_n (pc2 := 74) rfl dX11_move_73 rfl ?_
                      refine z_iconst (pc2 := 75) rfl dX11_move_74 lt_i_5 ?_
                      obtain ⟨q185, hq185, h⟩ := ab_bnd h
                      refine z_callVi 8 [.int (5 : Int32)] [some (.ref 8), some (.int (5 : Int32))] (pc2 := 78) rfl rfl dX11_move_75 ok_X11_refuse ⟨fun _ => rfl, fun _ => Nat.le_of_ble_eq_true rfl⟩ rfl rv_8 wd_346 wd_348 wd_0 rfl (e_X11_refuse hq185) ?_
                      exact z_iret dX11_move_78 rfl rfl (fi_w h)
                  · replace h := ab_pos hc172 h
                    refine z_aload_n (pc2 := 55) rfl dX11_move_54 rfl ?_
                    refine z_iconst (pc2 := 56) rfl dX11_move_55 lt_i_2 ?_
                    obtain ⟨q186, hq186, h⟩ := ab_bnd h
                    refine z_callVi 8 [.int (2 : Int32)] [some (.ref 8), some (.int (2 : Int32))] (pc2 := 59) rfl rfl dX11_move_56 ok_X11_refuse ⟨fun _ => rfl, fun _ => Nat.le_of_ble_eq_true rfl⟩ rfl rv_8 wd_346 wd_348 wd_0 rfl (e_X11_refuse hq186) ?_
                    exact z_iret dX11_move_59 rfl rfl (fi_w h)
              · replace h := ab_neg hi187 h
                by_cases hi205 : a3 = (2 : Int32)
                · replace h := ab_pos hi205 h
                  refine z_aaldR 20 81 (pc2 := 36) rfl dX11_move_35 rfl rfl (by rw [hi205]; rfl) (by rw [hi205]; rfl) ?_
                  refine z_astore (pc2 := 38) (L2 := [some (.ref 8), some (.int a1), some (.int a2), some (.int a3), some (.int a4), some (.int a5), some (.ref 81), some (.ref 81)]) rfl dX11_move_36 (by decide) rfl rfl ?_
                  refine z_aload (pc2 := 40) rfl dX11_move_38 rfl ?_
                  refine z_getI 81 6 2 (pc2 := 43) rfl dX11_move_40 rfl rfl ff_6_2 wd_104 ?_
                  refine z_if_eq (pc2 := 46) (tgt := 54) rfl dX11_move_43 (by decide) (fun hc188 => ?_) (fun hc188 => ?_)
                  · replace h := ab_pos hc188 h
                    refine z_aload_n (pc2 := 55) rfl dX11_move_54 rfl ?_
                    refine z_iconst (pc2 := 56) rfl dX11_move_55 lt_i_2 ?_
                    obtain ⟨q189, hq189, h⟩ := ab_bnd h
                    refine z_callVi 8 [.int (2 : Int32)] [some (.ref 8), some (.int (2 : Int32))] (pc2 := 59) rfl rfl dX11_move_56 ok_X11_refuse ⟨fun _ => rfl, fun _ => Nat.le_of_ble_eq_true rfl⟩ rfl rv_8 wd_346 wd_348 wd_0 rfl (e_X11_refuse hq189) ?_
                    exact z_iret dX11_move_59 rfl rfl (fi_w h)
                  · replace h := ab_neg hc188 h
                    refine z_aload (pc2 := 48) rfl dX11_move_46 rfl ?_
                    refine z_getI 81 6 2 (pc2 := 51) rfl dX11_move_48 rfl rfl ff_6_2 wd_104 ?_
                    refine z_if_ne (pc2 := 54) (tgt := 60) rfl dX11_move_51 (by decide) (fun hc190 => ?_) (fun hc190 => ?_)
                    · replace h := ab_neg hc190 h
                      refine z_aload (pc2 := 62) rfl dX11_move_60 rfl ?_
                      refine z_getI 81 6 2 (pc2 := 65) rfl dX11_move_62 rfl rfl ff_6_2 wd_104 ?_
                      refine z_aload (pc2 := 67) rfl dX11_move_65 rfl ?_
                      refine z_getI 81 6 2 (pc2 := 70) rfl dX11_move_67 rfl rfl ff_6_2 wd_104 ?_
                      refine z_icmp_eq (pc2 := 73) (tgt := 79) rfl dX11_move_70 (by decide) (fun hc191 => ?_) (fun hc191 => ?_)
                      · replace h := ab_pos hc191 h
                        refine z_iload (pc2 := 81) rfl dX11_move_79 rfl ?_
                        refine z_bipush (pc2 := 83) rfl dX11_move_81 lt_b_24 ?_
                        obtain ⟨q192, hq192, h⟩ := ab_bnd h
                        refine z_callSi [.int a5, .int (24 : Int32)] [some (.int a5), some (.int (24 : Int32))] (pc2 := 86) rfl rfl dX11_move_83 ok_X11_outside ⟨fun _ => rfl, fun _ => Nat.le_of_ble_eq_true rfl⟩ rfl wd_343 wd_344 rfl (e_X11_outside hq192) ?_
                        refine z_if_ne (pc2 := 89) (tgt := 120) rfl dX11_move_86 (by decide) (fun hc193 => ?_) (fun hc193 => ?_)
                        · replace h := ab_neg hc193 h
                          refine z_aload_n (pc2 := 121) rfl dX11_move_120 rfl ?_
                          refine z_iconst (pc2 := 122) rfl dX11_move_121 lt_i_1 ?_
                          obtain ⟨q194, hq194, h⟩ := ab_bnd h
                          refine z_callVi 8 [.int (1 : Int32)] [some (.ref 8), some (.int (1 : Int32))] (pc2 := 125) rfl rfl dX11_move_122 ok_X11_refuse ⟨fun _ => rfl, fun _ => Nat.le_of_ble_eq_true rfl⟩ rfl rv_8 wd_346 wd_348 wd_0 rfl (e_X11_refuse hq194) ?_
                          exact z_iret dX11_move_125 rfl rfl (fi_w h)
                        · replace h := ab_pos hc193 h
                          refine z_iload_n (pc2 := 90) rfl dX11_move_89 rfl ?_
                          refine z_aload (pc2 := 92) rfl dX11_move_90 rfl ?_
                          refine z_getI 81 6 1 (pc2 := 95) rfl dX11_move_92 rfl rfl ff_6_1 wd_102 ?_
                          refine z_iload (pc2 := 97) rfl dX11_move_95 rfl ?_
                          refine z_isub (pc2 := 98) rfl dX11_move_97 ?_
                          obtain ⟨q195, hq195, h⟩ := ab_bnd h
                          refine z_callSi [.int a2, .int ((σ 81 1) - a5)] [some (.int a2), some (.int ((σ 81 1) - a5))] (pc2 := 101) rfl rfl dX11_move_98 ok_X11_outside ⟨fun _ => rfl, fun _ => Nat.le_of_ble_eq_true rfl⟩ rfl wd_343 wd_344 rfl (e_X11_outside hq195) ?_
                          refine z_if_ne (pc2 := 104) (tgt := 120) rfl dX11_move_101 (by decide) (fun hc196 => ?_) (fun hc196 => ?_)
                          · replace h := ab_neg hc196 h
                            refine z_aload_n (pc2 := 121) rfl dX11_move_120 rfl ?_
                            refine z_iconst (pc2 := 122) rfl dX11_move_121 lt_i_1 ?_
                            obtain ⟨q197, hq197, h⟩ := ab_bnd h
                            refine z_callVi 8 [.int (1 : Int32)] [some (.ref 8), some (.int (1 : Int32))] (pc2 := 125) rfl rfl dX11_move_122 ok_X11_refuse ⟨fun _ => rfl, fun _ => Nat.le_of_ble_eq_true rfl⟩ rfl rv_8 wd_346 wd_348 wd_0 rfl (e_X11_refuse hq197) ?_
                            exact z_iret dX11_move_125 rfl rfl (fi_w h)
                          · replace h := ab_pos hc196 h
                            refine z_iload (pc2 := 106) rfl dX11_move_104 rfl ?_
                            refine z_aload (pc2 := 108) rfl dX11_move_106 rfl ?_
                            refine z_getI 81 6 1 (pc2 := 111) rfl dX11_move_108 rfl rfl ff_6_1 wd_102 ?_
                            refine z_iload (pc2 := 113) rfl dX11_move_111 rfl ?_
                            refine z_isub (pc2 := 114) rfl dX11_move_113 ?_
                            obtain ⟨q198, hq198, h⟩ := ab_bnd h
                            refine z_callSi [.int a4, .int ((σ 81 1) - a5)] [some (.int a4), some (.int ((σ 81 1) - a5))] (pc2 := 117) rfl rfl dX11_move_114 ok_X11_outside ⟨fun _ => rfl, fun _ => Nat.le_of_ble_eq_true rfl⟩ rfl wd_343 wd_344 rfl (e_X11_outside hq198) ?_
                            refine z_if_eq (pc2 := 120) (tgt := 126) rfl dX11_move_117 (by decide) (fun hc199 => ?_) (fun hc199 => ?_)
                            · replace h := ab_pos hc199 h
                              refine z_aload (pc2 := 128) rfl dX11_move_126 rfl ?_
                              refine z_getR 81 6 0 82 (pc2 := 131) rfl dX11_move_128 rfl rfl ff_6_0 wd_99 rfl ?_
                              refine z_iload_n (pc2 := 132) rfl dX11_move_131 rfl ?_
                              refine z_aload (pc2 := 134) rfl dX11_move_132 rfl ?_
                              refine z_getR 81 6 0 82 (pc2 := 137) rfl dX11_move_134 rfl rfl ff_6_0 wd_99 rfl ?_
                              refine z_iload (pc2 := 139) rfl dX11_move_137 rfl ?_
                              refine z_iload (pc2 := 141) rfl dX11_move_139 rfl ?_
                              obtain ⟨hb200, h⟩ := ab_ck_e h
                              refine z_acopy 82 82 (pc2 := 144) rfl dX11_move_141 rfl rfl rfl rfl wd_919 wd_655 wd_654 wd_82 hb200 rfl rfl ?_
                              obtain ⟨s201, hs201, h⟩ := ab_lt_e h
                              refine z_tops hs201 ?_
                              refine z_iload (pc2 := 146) rfl dX11_move_144 rfl ?_
                              exact z_iret dX11_move_146 rfl rfl (fi_w h)
                            · replace h := ab_neg hc199 h
                              refine z_aload_n (pc2 := 121) rfl dX11_move_120 rfl ?_
                              refine z_iconst (pc2 := 122) rfl dX11_move_121 lt_i_1 ?_
                              obtain ⟨q202, hq202, h⟩ := ab_bnd h
                              refine z_callVi 8 [.int (1 : Int32)] [some (.ref 8), some (.int (1 : Int32))] (pc2 := 125) rfl rfl dX11_move_122 ok_X11_refuse ⟨fun _ => rfl, fun _ => Nat.le_of_ble_eq_true rfl⟩ rfl rv_8 wd_346 wd_348 wd_0 rfl (e_X11_refuse hq202) ?_
                              exact z_iret dX11_move_125 rfl rfl (fi_w h)
                      · replace h := ab_neg hc191 h
                        refine z_aload_n (pc2 := 74) rfl dX11_move_73 rfl ?_
                        refine z_iconst (pc2 := 75) rfl dX11_move_74 lt_i_5 ?_
                        obtain ⟨q203, hq203, h⟩ := ab_bnd h
                        refine z_callVi 8 [.int (5 : Int32)] [some (.ref 8), some (.int (5 : Int32))] (pc2 := 78) rfl rfl dX11_move_75 ok_X11_refuse ⟨fun _ => rfl, fun _ => Nat.le_of_ble_eq_true rfl⟩ rfl rv_8 wd_346 wd_348 wd_0 rfl (e_X11_refuse hq203) ?_
                        exact z_iret dX11_move_78 rfl rfl (fi_w h)
                    · replace h := ab_pos hc190 h
                      refine z_aload_n (pc2 := 55) rfl dX11_move_54 rfl ?_
                      refine z_iconst (pc2 := 56) rfl dX11_move_55 lt_i_2 ?_
                      obtain ⟨q204, hq204, h⟩ := ab_bnd h
                      refine z_callVi 8 [.int (2 : Int32)] [some (.ref 8), some (.int (2 : Int32))] (pc2 := 59) rfl rfl dX11_move_56 ok_X11_refuse ⟨fun _ => rfl, fun _ => Nat.le_of_ble_eq_true rfl⟩ rfl rv_8 wd_346 wd_348 wd_0 rfl (e_X11_refuse hq204) ?_
                      exact z_iret dX11_move_59 rfl rfl (fi_w h)
                · replace h := ab_neg hi205 h
                  by_cases hi223 : a3 = (3 : Int32)
                  · replace h := ab_pos hi223 h
                    refine z_aaldR 20 83 (pc2 := 36) rfl dX11_move_35 rfl rfl (by rw [hi223]; rfl) (by rw [hi223]; rfl) ?_
                    refine z_astore (pc2 := 38) (L2 := [some (.ref 8), some (.int a1), some (.int a2), some (.int a3), some (.int a4), some (.int a5), some (.ref 81), some (.ref 83)]) rfl dX11_move_36 (by decide) rfl rfl ?_
                    refine z_aload (pc2 := 40) rfl dX11_move_38 rfl ?_
                    refine z_getI 81 6 2 (pc2 := 43) rfl dX11_move_40 rfl rfl ff_6_2 wd_104 ?_
                    refine z_if_eq (pc2 := 46) (tgt := 54) rfl dX11_move_43 (by decide) (fun hc206 => ?_) (fun hc206 => ?_)
                    · replace h := ab_pos hc206 h
                      refine z_aload_n (pc2 := 55) rfl dX11_move_54 rfl ?_
                      refine z_iconst (pc2 := 56) rfl dX11_move_55 lt_i_2 ?_
                      obtain ⟨q207, hq207, h⟩ := ab_bnd h
                      refine z_callVi 8 [.int (2 : Int32)] [some (.ref 8), some (.int (2 : Int32))] (pc2 := 59) rfl rfl dX11_move_56 ok_X11_refuse ⟨fun _ => rfl, fun _ => Nat.le_of_ble_eq_true rfl⟩ rfl rv_8 wd_346 wd_348 wd_0 rfl (e_X11_refuse hq207) ?_
                      exact z_iret dX11_move_59 rfl rfl (fi_w h)
                    · replace h := ab_neg hc206 h
                      refine z_aload (pc2 := 48) rfl dX11_move_46 rfl ?_
                      refine z_getI 83 6 2 (pc2 := 51) rfl dX11_move_48 rfl rfl ff_6_2 wd_104 ?_
                      refine z_if_ne (pc2 := 54) (tgt := 60) rfl dX11_move_51 (by decide) (fun hc208 => ?_) (fun hc208 => ?_)
                      · replace h := ab_neg hc208 h
                        refine z_aload (pc2 := 62) rfl dX11_move_60 rfl ?_
                        refine z_getI 81 6 2 (pc2 := 65) rfl dX11_move_62 rfl rfl ff_6_2 wd_104 ?_
                        refine z_aload (pc2 := 67) rfl dX11_move_65 rfl ?_
                        refine z_getI 83 6 2 (pc2 := 70) rfl dX11_move_67 rfl rfl ff_6_2 wd_104 ?_
                        refine z_icmp_eq (pc2 := 73) (tgt := 79) rfl dX11_move_70 (by decide) (fun hc209 => ?_) (fun hc209 => ?_)
                        · replace h := ab_pos hc209 h
                          refine z_iload (pc2 := 81) rfl dX11_move_79 rfl ?_
                          refine z_bipush (pc2 := 83) rfl dX11_move_81 lt_b_24 ?_
                          obtain ⟨q210, hq210, h⟩ := ab_bnd h
                          refine z_callSi [.int a5, .int (24 : Int32)] [some (.int a5), some (.int (24 : Int32))] (pc2 := 86) rfl rfl dX11_move_83 ok_X11_outside ⟨fun _ => rfl, fun _ => Nat.le_of_ble_eq_true rfl⟩ rfl wd_343 wd_344 rfl (e_X11_outside hq210) ?_
                          refine z_if_ne (pc2 := 89) (tgt := 120) rfl dX11_move_86 (by decide) (fun hc211 => ?_) (fun hc211 => ?_)
                          · replace h := ab_neg hc211 h
                            refine z_aload_n (pc2 := 121) rfl dX11_move_120 rfl ?_
                            refine z_iconst (pc2 := 122) rfl dX11_move_121 lt_i_1 ?_
                            obtain ⟨q212, hq212, h⟩ := ab_bnd h
                            refine z_callVi 8 [.int (1 : Int32)] [some (.ref 8), some (.int (1 : Int32))] (pc2 := 125) rfl rfl dX11_move_122 ok_X11_refuse ⟨fun _ => rfl, fun _ => Nat.le_of_ble_eq_true rfl⟩ rfl rv_8 wd_346 wd_348 wd_0 rfl (e_X11_refuse hq212) ?_
                            exact z_iret dX11_move_125 rfl rfl (fi_w h)
                          · replace h := ab_pos hc211 h
                            refine z_iload_n (pc2 := 90) rfl dX11_move_89 rfl ?_
                            refine z_aload (pc2 := 92) rfl dX11_move_90 rfl ?_
                            refine z_getI 81 6 1 (pc2 := 95) rfl dX11_move_92 rfl rfl ff_6_1 wd_102 ?_
                            refine z_iload (pc2 := 97) rfl dX11_move_95 rfl ?_
                            refine z_isub (pc2 := 98) rfl dX11_move_97 ?_
                            obtain ⟨q213, hq213, h⟩ := ab_bnd h
                            refine z_callSi [.int a2, .int ((σ 81 1) - a5)] [some (.int a2), some (.int ((σ 81 1) - a5))] (pc2 := 101) rfl rfl dX11_move_98 ok_X11_outside ⟨fun _ => rfl, fun _ => Nat.le_of_ble_eq_true rfl⟩ rfl wd_343 wd_344 rfl (e_X11_outside hq213) ?_
                            refine z_if_ne (pc2 := 104) (tgt := 120) rfl dX11_move_101 (by decide) (fun hc214 => ?_) (fun hc214 => ?_)
                            · replace h := ab_neg hc214 h
                              refine z_aload_n (pc2 := 121) rfl dX11_move_120 rfl ?_
                              refine z_iconst (pc2 := 122) rfl dX11_move_121 lt_i_1 ?_
                              obtain ⟨q215, hq215, h⟩ := ab_bnd h
                              refine z_callVi 8 [.int (1 : Int32)] [some (.ref 8), some (.int (1 : Int32))] (pc2 := 125) rfl rfl dX11_move_122 ok_X11_refuse ⟨fun _ => rfl, fun _ => Nat.le_of_ble_eq_true rfl⟩ rfl rv_8 wd_346 wd_348 wd_0 rfl (e_X11_refuse hq215) ?_
                              exact z_iret dX11_move_125 rfl rfl (fi_w h)
                            · replace h := ab_pos hc214 h
                              refine z_iload (pc2 := 106) rfl dX11_move_104 rfl ?_
                              refine z_aload (pc2 := 108) rfl dX11_move_106 rfl ?_
                              refine z_getI 83 6 1 (pc2 := 111) rfl dX11_move_108 rfl rfl ff_6_1 wd_102 ?_
                              refine z_iload (pc2 := 113) rfl dX11_move_111 rfl ?_
                              refine z_isub (pc2 := 114) rfl dX11_move_113 ?_
                              obtain ⟨q216, hq216, h⟩ := ab_bnd h
                              refine z_callSi [.int a4, .int ((σ 83 1) - a5)] [some (.int a4), some (.int ((σ 83 1) - a5))] (pc2 := 117) rfl rfl dX11_move_114 ok_X11_outside ⟨fun _ => rfl, fun _ => Nat.le_of_ble_eq_true rfl⟩ rfl wd_343 wd_344 rfl (e_X11_outside hq216) ?_
                              refine z_if_eq (pc2 := 120) (tgt := 126) rfl dX11_move_117 (by decide) (fun hc217 => ?_) (fun hc217 => ?_)
                              · replace h := ab_pos hc217 h
                                refine z_aload (pc2 := 128) rfl dX11_move_126 rfl ?_
                                refine z_getR 81 6 0 82 (pc2 := 131) rfl dX11_move_128 rfl rfl ff_6_0 wd_99 rfl ?_
                                refine z_iload_n (pc2 := 132) rfl dX11_move_131 rfl ?_
                                refine z_aload (pc2 := 134) rfl dX11_move_132 rfl ?_
                                refine z_getR 83 6 0 84 (pc2 := 137) rfl dX11_move_134 rfl rfl ff_6_0 wd_99 rfl ?_
                                refine z_iload (pc2 := 139) rfl dX11_move_137 rfl ?_
                                refine z_iload (pc2 := 141) rfl dX11_move_139 rfl ?_
                                obtain ⟨hb218, h⟩ := ab_ck_e h
                                refine z_acopy 82 84 (pc2 := 144) rfl dX11_move_141 rfl rfl rfl rfl wd_919 wd_655 wd_654 wd_82 hb218 rfl rfl ?_
                                obtain ⟨s219, hs219, h⟩ := ab_lt_e h
                                refine z_tops hs219 ?_
                                refine z_iload (pc2 := 146) rfl dX11_move_144 rfl ?_
                                exact z_iret dX11_move_146 rfl rfl (fi_w h)
                              · replace h := ab_neg hc217 h
                                refine z_aload_n (pc2 := 121) rfl dX11_move_120 rfl ?_
                                refine z_iconst (pc2 := 122) rfl dX11_move_121 lt_i_1 ?_
                                obtain ⟨q220, hq220, h⟩ := ab_bnd h
                                refine z_callVi 8 [.int (1 : Int32)] [some (.ref 8), some (.int (1 : Int32))] (pc2 := 125) rfl rfl dX11_move_122 ok_X11_refuse ⟨fun _ => rfl, fun _ => Nat.le_of_ble_eq_true rfl⟩ rfl rv_8 wd_346 wd_348 wd_0 rfl (e_X11_refuse hq220) ?_
                                exact z_iret dX11_move_125 rfl rfl (fi_w h)
                        · replace h := ab_neg hc209 h
                          refine z_aload_n (pc2 := 74) rfl dX11_move_73 rfl ?_
                          refine z_iconst (pc2 := 75) rfl dX11_move_74 lt_i_5 ?_
                          obtain ⟨q221, hq221, h⟩ := ab_bnd h
                          refine z_callVi 8 [.int (5 : Int32)] [some (.ref 8), some (.int (5 : Int32))] (pc2 := 78) rfl rfl dX11_move_75 ok_X11_refuse ⟨fun _ => rfl, fun _ => Nat.le_of_ble_eq_true rfl⟩ rfl rv_8 wd_346 wd_348 wd_0 rfl (e_X11_refuse hq221) ?_
                          exact z_iret dX11_move_78 rfl rfl (fi_w h)
                      · replace h := ab_pos hc208 h
                        refine z_aload_n (pc2 := 55) rfl dX11_move_54 rfl ?_
                        refine z_iconst (pc2 := 56) rfl dX11_move_55 lt_i_2 ?_
                        obtain ⟨q222, hq222, h⟩ := ab_bnd h
                        refine z_callVi 8 [.int (2 : Int32)] [some (.ref 8), some (.int (2 : Int32))] (pc2 := 59) rfl rfl dX11_move_56 ok_X11_refuse ⟨fun _ => rfl, fun _ => Nat.le_of_ble_eq_true rfl⟩ rfl rv_8 wd_346 wd_348 wd_0 rfl (e_X11_refuse hq222) ?_
                        exact z_iret dX11_move_59 rfl rfl (fi_w h)
                  · replace h := ab_neg hi223 h
                    cases h
          · replace h := ab_neg hi224 h
            by_cases hi297 : a1 = (3 : Int32)
            · replace h := ab_pos hi297 h
              refine z_aaldR 20 83 (pc2 := 28) rfl dX11_move_27 rfl rfl (by rw [hi297]; rfl) (by rw [hi297]; rfl) ?_
              refine z_astore (pc2 := 30) (L2 := [some (.ref 8), some (.int a1), some (.int a2), some (.int a3), some (.int a4), some (.int a5), some (.ref 83), none]) rfl dX11_move_28 (by decide) rfl rfl ?_
              refine z_aload_n (pc2 := 31) rfl dX11_move_30 rfl ?_
              refine z_getR 8 11 8 20 (pc2 := 34) rfl dX11_move_31 rfl rfl ff_11_8 wd_310 rfl ?_
              refine z_iload_n (pc2 := 35) rfl dX11_move_34 rfl ?_
              by_cases hi242 : a3 = (0 : Int32)
              · replace h := ab_pos hi242 h
                refine z_aaldR 20 77 (pc2 := 36) rfl dX11_move_35 rfl rfl (by rw [hi242]; rfl) (by rw [hi242]; rfl) ?_
                refine z_astore (pc2 := 38) (L2 := [some (.ref 8), some (.int a1), some (.int a2), some (.int a3), some (.int a4), some (.int a5), some (.ref 83), some (.ref 77)]) rfl dX11_move_36 (by decide) rfl rfl ?_
                refine z_aload (pc2 := 40) rfl dX11_move_38 rfl ?_
                refine z_getI 83 6 2 (pc2 := 43) rfl dX11_move_40 rfl rfl ff_6_2 wd_104 ?_
                refine z_if_eq (pc2 := 46) (tgt := 54) rfl dX11_move_43 (by decide) (fun hc225 => ?_) (fun hc225 => ?_)
                · replace h := ab_pos hc225 h
                  refine z_aload_n (pc2 := 55) rfl dX11_move_54 rfl ?_
                  refine z_iconst (pc2 := 56) rfl dX11_move_55 lt_i_2 ?_
                  obtain ⟨q226, hq226, h⟩ := ab_bnd h
                  refine z_callVi 8 [.int (2 : Int32)] [some (.ref 8), some (.int (2 : Int32))] (pc2 := 59) rfl rfl dX11_move_56 ok_X11_refuse ⟨fun _ => rfl, fun _ => Nat.le_of_ble_eq_true rfl⟩ rfl rv_8 wd_346 wd_348 wd_0 rfl (e_X11_refuse hq226) ?_
                  exact z_iret dX11_move_59 rfl rfl (fi_w h)
                · replace h := ab_neg hc225 h
                  refine z_aload (pc2 := 48) rfl dX11_move_46 rfl ?_
                  refine z_getI 77 6 2 (pc2 := 51) rfl dX11_move_48 rfl rfl ff_6_2 wd_104 ?_
                  refine z_if_ne (pc2 := 54) (tgt := 60) rfl dX11_move_51 (by decide) (fun hc227 => ?_) (fun hc227 => ?_)
                  · replace h := ab_neg hc227 h
                    refine z_aload (pc2 := 62) rfl dX11_move_60 rfl ?_
                    refine z_getI 83 6 2 (pc2 := 65) rfl dX11_move_62 rfl rfl ff_6_2 wd_104 ?_
                    refine z_aload (pc2 := 67) rfl dX11_move_65 rfl ?_
                    refine z_getI 77 6 2 (pc2 := 70) rfl dX11_move_67 rfl rfl ff_6_2 wd_104 ?_
                    refine z_icmp_eq (pc2 := 73) (tgt := 79) rfl dX11_move_70 (by decide) (fun hc228 => ?_) (fun hc228 => ?_)
                    · replace h := ab_pos hc228 h
                      refine z_iload (pc2 := 81) rfl dX11_move_79 rfl ?_
                      refine z_bipush (pc2 := 83) rfl dX11_move_81 lt_b_24 ?_
                      obtain ⟨q229, hq229, h⟩ := ab_bnd h
                      refine z_callSi [.int a5, .int (24 : Int32)] [some (.int a5), some (.int (24 : Int32))] (pc2 := 86) rfl rfl dX11_move_83 ok_X11_outside ⟨fun _ => rfl, fun _ => Nat.le_of_ble_eq_true rfl⟩ rfl wd_343 wd_344 rfl (e_X11_outside hq229) ?_
                      refine z_if_ne (pc2 := 89) (tgt := 120) rfl dX11_move_86 (by decide) (fun hc230 => ?_) (fun hc230 => ?_)
                      · replace h := ab_neg hc230 h
                        refine z_aload_n (pc2 := 121) rfl dX11_move_120 rfl ?_
                        refine z_iconst (pc2 := 122) rfl dX11_move_121 lt_i_1 ?_
                        obtain ⟨q231, hq231, h⟩ := ab_bnd h
                        refine z_callVi 8 [.int (1 : Int32)] [some (.ref 8), some (.int (1 : Int32))] (pc2 := 125) rfl rfl dX11_move_122 ok_X11_refuse ⟨fun _ => rfl, fun _ => Nat.le_of_ble_eq_true rfl⟩ rfl rv_8 wd_346 wd_348 wd_0 rfl (e_X11_refuse hq231) ?_
                        exact z_iret dX11_move_125 rfl rfl (fi_w h)
                      · replace h := ab_pos hc230 h
                        refine z_iload_n (pc2 := 90) rfl dX11_move_89 rfl ?_
                        refine z_aload (pc2 := 92) rfl dX11_move_90 rfl ?_
                        refine z_getI 83 6 1 (pc2 := 95) rfl dX11_move_92 rfl rfl ff_6_1 wd_102 ?_
                        refine z_iload (pc2 := 97) rfl dX11_move_95 rfl ?_
                        refine z_isub (pc2 := 98) rfl dX11_move_97 ?_
                        obtain ⟨q232, hq232, h⟩ := ab_bnd h
                        refine z_callSi [.int a2, .int ((σ 83 1) - a5)] [some (.int a2), some (.int ((σ 83 1) - a5))] (pc2 := 101) rfl rfl dX11_move_98 ok_X11_outside ⟨fun _ => rfl, fun _ => Nat.le_of_ble_eq_true rfl⟩ rfl wd_343 wd_344 rfl (e_X11_outside hq232) ?_
                        refine z_if_ne (pc2 := 104) (tgt := 120) rfl dX11_move_101 (by decide) (fun hc233 => ?_) (fun hc233 => ?_)
                        · replace h := ab_neg hc233 h
                          refine z_aload_n (pc2 := 121) rfl dX11_move_120 rfl ?_
                          refine z_iconst (pc2 := 122) rfl dX11_move_121 lt_i_1 ?_
                          obtain ⟨q234, hq234, h⟩ := ab_bnd h
                          refine z_callVi 8 [.int (1 : Int32)] [some (.ref 8), some (.int (1 : Int32))] (pc2 := 125) rfl rfl dX11_move_122 ok_X11_refuse ⟨fun _ => rfl, fun _ => Nat.le_of_ble_eq_true rfl⟩ rfl rv_8 wd_346 wd_348 wd_0 rfl (e_X11_refuse hq234) ?_
                          exact z_iret dX11_move_125 rfl rfl (fi_w h)
                        · replace h := ab_pos hc233 h
                          refine z_iload (pc2 := 106) rfl dX11_move_104 rfl ?_
                          refine z_aload (pc2 := 108) rfl dX11_move_106 rfl ?_
                          refine z_getI 77 6 1 (pc2 := 111) rfl dX11_move_108 rfl rfl ff_6_1 wd_102 ?_
                          refine z_iload (pc2 := 113) rfl dX11_move_111 rfl ?_
                          refine z_isub (pc2 := 114) rfl dX11_move_113 ?_
                          obtain ⟨q235, hq235, h⟩ := ab_bnd h
                          refine z_callSi [.int a4, .int ((σ 77 1) - a5)] [some (.int a4), some (.int ((σ 77 1) - a5))] (pc2 := 117) rfl rfl dX11_move_114 ok_X11_outside ⟨fun _ => rfl, fun _ => Nat.le_of_ble_eq_true rfl⟩ rfl wd_343 wd_344 rfl (e_X11_outside hq235) ?_
                          refine z_if_eq (pc2 := 120) (tgt := 126) rfl dX11_move_117 (by decide) (fun hc236 => ?_) (fun hc236 => ?_)
                          · replace h := ab_pos hc236 h
                            refine z_aload (pc2 := 128) rfl dX11_move_126 rfl ?_
                            refine z_getR 83 6 0 84 (pc2 := 131) rfl dX11_move_128 rfl rfl ff_6_0 wd_99 rfl ?_
                            refine z_iload_n (pc2 := 132) rfl dX11_move_131 rfl ?_
                            refine z_aload (pc2 := 134) rfl dX11_move_132 rfl ?_
                            refine z_getR 77 6 0 78 (pc2 := 137) rfl dX11_move_134 rfl rfl ff_6_0 wd_99 rfl ?_
                            refine z_iload (pc2 := 139) rfl dX11_move_137 rfl ?_
                            refine z_iload (pc2 := 141) rfl dX11_move_139 rfl ?_
                            obtain ⟨hb237, h⟩ := ab_ck_e h
                            refine z_acopy 84 78 (pc2 := 144) rfl dX11_move_141 rfl rfl rfl rfl wd_919 wd_655 wd_654 wd_82 hb237 rfl rfl ?_
                            obtain ⟨s238, hs238, h⟩ := ab_lt_e h
                            refine z_tops hs238 ?_
                            refine z_iload (pc2 := 146) rfl dX11_move_144 rfl ?_
                            exact z_iret dX11_move_146 rfl rfl (fi_w h)
                          · replace h := ab_neg hc236 h
                            refine z_aload_n (pc2 := 121) rfl dX11_move_120 rfl ?_
                            refine z_iconst (pc2 := 122) rfl dX11_move_121 lt_i_1 ?_
                            obtain ⟨q239, hq239, h⟩ := ab_bnd h
                            refine z_callVi 8 [.int (1 : Int32)] [some (.ref 8), some (.int (1 : Int32))] (pc2 := 125) rfl rfl dX11_move_122 ok_X11_refuse ⟨fun _ => rfl, fun _ => Nat.le_of_ble_eq_true rfl⟩ rfl rv_8 wd_346 wd_348 wd_0 rfl (e_X11_refuse hq239) ?_
                            exact z_iret dX11_move_125 rfl rfl (fi_w h)
                    · replace h := ab_neg hc228 h
                      refine z_aload_n (pc2 := 74) rfl dX11_move_73 rfl ?_
                      refine z_iconst (pc2 := 75) rfl dX11_move_74 lt_i_5 ?_
                      obtain ⟨q240, hq240, h⟩ := ab_bnd h
                      refine z_callVi 8 [.int (5 : Int32)] [some (.ref 8), some (.int (5 : Int32))] (pc2 := 78) rfl rfl dX11_move_75 ok_X11_refuse ⟨fun _ => rfl, fun _ => Nat.le_of_ble_eq_true rfl⟩ rfl rv_8 wd_346 wd_348 wd_0 rfl (e_X11_refuse hq240) ?_
                      exact z_iret dX11_move_78 rfl rfl (fi_w h)
                  · replace h := ab_pos hc227 h
                    refine z_aload_n (pc2 := 55) rfl dX11_move_54 rfl ?_
                    refine z_iconst (pc2 := 56) rfl dX11_move_55 lt_i_2 ?_
                    obtain ⟨q241, hq241, h⟩ := ab_bnd h
                    refine z_callVi 8 [.int (2 : Int32)] [some (.ref 8), some (.int (2 : Int32))] (pc2 := 59) rfl rfl dX11_move_56 ok_X11_refuse ⟨fun _ => rfl, fun _ => Nat.le_of_ble_eq_true rfl⟩ rfl rv_8 wd_346 wd_348 wd_0 rfl (e_X11_refuse hq241) ?_
                    exact z_iret dX11_move_59 rfl rfl (fi_w h)
              · replace h := ab_neg hi242 h
                by_cases hi260 : a3 = (1 : Int32)
                · replace h := ab_pos hi260 h
                  refine z_aaldR 20 79 (pc2 := 36) rfl dX11_move_35 rfl rfl (by rw [hi260]; rfl) (by rw [hi260]; rfl) ?_
                  refine z_astore (pc2 := 38) (L2 := [some (.ref 8), some (.int a1), some (.int a2), some (.int a3), some (.int a4), some (.int a5), some (.ref 83), some (.ref 79)]) rfl dX11_move_36 (by decide) rfl rfl ?_
                  refine z_aload (pc2 := 40) rfl dX11_move_38 rfl ?_
                  refine z_getI 83 6 2 (pc2 := 43) rfl dX11_move_40 rfl rfl ff_6_2 wd_104 ?_
                  refine z_if_eq (pc2 := 46) (tgt := 54) rfl dX11_move_43 (by decide) (fun hc243 => ?_) (fun hc243 => ?_)
                  · replace h := ab_pos hc243 h
                    refine z_aload_n (pc2 := 55) rfl dX11_move_54 rfl ?_
                    refine z_iconst (pc2 := 56) rfl dX11_move_55 lt_i_2 ?_
                    obtain ⟨q244, hq244, h⟩ := ab_bnd h
                    refine z_callVi 8 [.int (2 : Int32)] [some (.ref 8), some (.int (2 : Int32))] (pc2 := 59) rfl rfl dX11_move_56 ok_X11_refuse ⟨fun _ => rfl, fun _ => Nat.le_of_ble_eq_true rfl⟩ rfl rv_8 wd_346 wd_348 wd_0 rfl (e_X11_refuse hq244) ?_
                    exact z_iret dX11_move_59 rfl rfl (fi_w h)
                  · replace h := ab_neg hc243 h
                    refine z_aload (pc2 := 48) rfl dX11_move_46 rfl ?_
                    refine z_getI 79 6 2 (pc2 := 51) rfl dX11_move_48 rfl rfl ff_6_2 wd_104 ?_
                    refine z_if_ne (pc2 := 54) (tgt := 60) rfl dX11_move_51 (by decide) (fun hc245 => ?_) (fun hc245 => ?_)
                    · replace h := ab_neg hc245 h
                      refine z_aload (pc2 := 62) rfl dX11_move_60 rfl ?_
                      refine z_getI 83 6 2 (pc2 := 65) rfl dX11_move_62 rfl rfl ff_6_2 wd_104 ?_
                      refine z_aload (pc2 := 67) rfl dX11_move_65 rfl ?_
                      refine z_getI 79 6 2 (pc2 := 70) rfl dX11_move_67 rfl rfl ff_6_2 wd_104 ?_
                      refine z_icmp_eq (pc2 := 73) (tgt := 79) rfl dX11_move_70 (by decide) (fun hc246 => ?_) (fun hc246 => ?_)
                      · replace h := ab_pos hc246 h
                        refine z_iload (pc2 := 81) rfl dX11_move_79 rfl ?_
                        refine z_bipush (pc2 := 83) rfl dX11_move_81 lt_b_24 ?_
                        obtain ⟨q247, hq247, h⟩ := ab_bnd h
                        refine z_callSi [.int a5, .int (24 : Int32)] [some (.int a5), some (.int (24 : Int32))] (pc2 := 86) rfl rfl dX11_move_83 ok_X11_outside ⟨fun _ => rfl, fun _ => Nat.le_of_ble_eq_true rfl⟩ rfl wd_343 wd_344 rfl (e_X11_outside hq247) ?_
                        refine z_if_ne (pc2 := 89) (tgt := 120) rfl dX11_move_86 (by decide) (fun hc248 => ?_) (fun hc248 => ?_)
                        · replace h := ab_neg hc248 h
                          refine z_aload_n (pc2 := 121) rfl dX11_move_120 rfl ?_
                          refine z_iconst (pc2 := 122) rfl dX11_move_121 lt_i_1 ?_
                          obtain ⟨q249, hq249, h⟩ := ab_bnd h
                          refine z_callVi 8 [.int (1 : Int32)] [some (.ref 8), some (.int (1 : Int32))] (pc2 := 125) rfl rfl dX11_move_122 ok_X11_refuse ⟨fun _ => rfl, fun _ => Nat.le_of_ble_eq_true rfl⟩ rfl rv_8 wd_346 wd_348 wd_0 rfl (e_X11_refuse hq249) ?_
                          exact z_iret dX11_move_125 rfl rfl (fi_w h)
                        · replace h := ab_pos hc248 h
                          refine z_iload_n (pc2 := 90) rfl dX11_move_89 rfl ?_
                          refine z_aload (pc2 := 92) rfl dX11_move_90 rfl ?_
                          refine z_getI 83 6 1 (pc2 := 95) rfl dX11_move_92 rfl rfl ff_6_1 wd_102 ?_
                          refine z_iload (pc2 := 97) rfl dX11_move_95 rfl ?_
                          refine z_isub (pc2 := 98) rfl dX11_move_97 ?_
                          obtain ⟨q250, hq250, h⟩ := ab_bnd h
                          refine z_callSi [.int a2, .int ((σ 83 1) - a5)] [some (.int a2), some (.int ((σ 83 1) - a5))] (pc2 := 101) rfl rfl dX11_move_98 ok_X11_outside ⟨fun _ => rfl, fun _ => Nat.le_of_ble_eq_true rfl⟩ rfl wd_343 wd_344 rfl (e_X11_outside hq250) ?_
                          refine z_if_ne (pc2 := 104) (tgt := 120) rfl dX11_move_101 (by decide) (fun hc251 => ?_) (fun hc251 => ?_)
                          · replace h := ab_neg hc251 h
                            refine z_aload_n (pc2 := 121) rfl dX11_move_120 rfl ?_
                            refine z_iconst (pc2 := 122) rfl dX11_move_121 lt_i_1 ?_
                            obtain ⟨q252, hq252, h⟩ := ab_bnd h
                            refine z_callVi 8 [.int (1 : Int32)] [some (.ref 8), some (.int (1 : Int32))] (pc2 := 125) rfl rfl dX11_move_122 ok_X11_refuse ⟨fun _ => rfl, fun _ => Nat.le_of_ble_eq_true rfl⟩ rfl rv_8 wd_346 wd_348 wd_0 rfl (e_X11_refuse hq252) ?_
                            exact z_iret dX11_move_125 rfl rfl (fi_w h)
                          · replace h := ab_pos hc251 h
                            refine z_iload (pc2 := 106) rfl dX11_move_104 rfl ?_
                            refine z_aload (pc2 := 108) rfl dX11_move_106 rfl ?_
                            refine z_getI 79 6 1 (pc2 := 111) rfl dX11_move_108 rfl rfl ff_6_1 wd_102 ?_
                            refine z_iload (pc2 := 113) rfl dX11_move_111 rfl ?_
                            refine z_isub (pc2 := 114) rfl dX11_move_113 ?_
                            obtain ⟨q253, hq253, h⟩ := ab_bnd h
                            refine z_callSi [.int a4, .int ((σ 79 1) - a5)] [some (.int a4), some (.int ((σ 79 1) - a5))] (pc2 := 117) rfl rfl dX11_move_114 ok_X11_outside ⟨fun _ => rfl, fun _ => Nat.le_of_ble_eq_true rfl⟩ rfl wd_343 wd_344 rfl (e_X11_outside hq253) ?_
                            refine z_if_eq (pc2 := 120) (tgt := 126) rfl dX11_move_117 (by decide) (fun hc254 => ?_) (fun hc254 => ?_)
                            · replace h := ab_pos hc254 h
                              refine z_aload (pc2 := 128) rfl dX11_move_126 rfl ?_
                              refine z_getR 83 6 0 84 (pc2 := 131) rfl dX11_move_128 rfl rfl ff_6_0 wd_99 rfl ?_
                              refine z_iload_n (pc2 := 132) rfl dX11_move_131 rfl ?_
                              refine z_aload (pc2 := 134) rfl dX11_move_132 rfl ?_
                              refine z_getR 79 6 0 80 (pc2 := 137) rfl dX11_move_134 rfl rfl ff_6_0 wd_99 rfl ?_
                              refine z_iload (pc2 := 139) rfl dX11_move_137 rfl ?_
                              refine z_iload (pc2 := 141) rfl dX11_move_139 rfl ?_
                              obtain ⟨hb255, h⟩ := ab_ck_e h
                              refine z_acopy 84 80 (pc2 := 144) rfl dX11_move_141 rfl rfl rfl rfl wd_919 wd_655 wd_654 wd_82 hb255 rfl rfl ?_
                              obtain ⟨s256, hs256, h⟩ := ab_lt_e h
                              refine z_tops hs256 ?_
                              refine z_iload (pc2 := 146) rfl dX11_move_144 rfl ?_
                              exact z_iret dX11_move_146 rfl rfl (fi_w h)
                            · replace h := ab_neg hc254 h
                              refine z_aload_n (pc2 := 121) rfl dX11_move_120 rfl ?_
                              refine z_iconst (pc2 := 122) rfl dX11_move_121 lt_i_1 ?_
                              obtain ⟨q257, hq257, h⟩ := ab_bnd h
                              refine z_callVi 8 [.int (1 : Int32)] [some (.ref 8), some (.int (1 : Int32))] (pc2 := 125) rfl rfl dX11_move_122 ok_X11_refuse ⟨fun _ => rfl, fun _ => Nat.le_of_ble_eq_true rfl⟩ rfl rv_8 wd_346 wd_348 wd_0 rfl (e_X11_refuse hq257) ?_
                              exact z_iret dX11_move_125 rfl rfl (fi_w h)
                      · replace h := ab_neg hc246 h
                        refine z_aload_n (pc2 := 74) rfl dX11_move_73 rfl ?_
                        refine z_iconst (pc2 := 75) rfl dX11_move_74 lt_i_5 ?_
                        obtain ⟨q258, hq258, h⟩ := ab_bnd h
                        refine z_callVi 8 [.int (5 : Int32)] [some (.ref 8), some (.int (5 : Int32))] (pc2 := 78) rfl rfl dX11_move_75 ok_X11_refuse ⟨fun _ => rfl, fun _ => Nat.le_of_ble_eq_true rfl⟩ rfl rv_8 wd_346 wd_348 wd_0 rfl (e_X11_refuse hq258) ?_
                        exact z_iret dX11_move_78 rfl rfl (fi_w h)
                    · replace h := ab_pos hc245 h
                      refine z_aload_n (pc2 := 55) rfl dX11_move_54 rfl ?_
                      refine z_iconst (pc2 := 56) rfl dX11_move_55 lt_i_2 ?_
                      obtain ⟨q259, hq259, h⟩ := ab_bnd h
                      refine z_callVi 8 [.int (2 : Int32)] [some (.ref 8), some (.int (2 : Int32))] (pc2 := 59) rfl rfl dX11_move_56 ok_X11_refuse ⟨fun _ => rfl, fun _ => Nat.le_of_ble_eq_true rfl⟩ rfl rv_8 wd_346 wd_348 wd_0 rfl (e_X11_refuse hq259) ?_
                      exact z_iret dX11_move_59 rfl rfl (fi_w h)
                · replace h := ab_neg hi260 h
                  by_cases hi278 : a3 = (2 : Int32)
                  · replace h := ab_pos hi278 h
                    refine z_aaldR 20 81 (pc2 := 36) rfl dX11_move_35 rfl rfl (by rw [hi278]; rfl) (by rw [hi278]; rfl) ?_
                    refine z_astore (pc2 := 38) (L2 := [some (.ref 8), some (.int a1), some (.int a2), some (.int a3), some (.int a4), some (.int a5), some (.ref 83), some (.ref 81)]) rfl dX11_move_36 (by decide) rfl rfl ?_
                    refine z_aload (pc2 := 40) rfl dX11_move_38 rfl ?_
                    refine z_getI 83 6 2 (pc2 := 43) rfl dX11_move_40 rfl rfl ff_6_2 wd_104 ?_
                    refine z_if_eq (pc2 := 46) (tgt := 54) rfl dX11_move_43 (by decide) (fun hc261 => ?_) (fun hc261 => ?_)
                    · replace h := ab_pos hc261 h
                      refine z_aload_n (pc2 := 55) rfl dX11_move_54 rfl ?_
                      refine z_iconst (pc2 := 56) rfl dX11_move_55 lt_i_2 ?_
                      obtain ⟨q262, hq262, h⟩ := ab_bnd h
                      refine z_callVi 8 [.int (2 : Int32)] [some (.ref 8), some (.int (2 : Int32))] (pc2 := 59) rfl rfl dX11_move_56 ok_X11_refuse ⟨fun _ => rfl, fun _ => Nat.le_of_ble_eq_true rfl⟩ rfl rv_8 wd_346 wd_348 wd_0 rfl (e_X11_refuse hq262) ?_
                      exact z_iret dX11_move_59 rfl rfl (fi_w h)
                    · replace h := ab_neg hc261 h
                      refine z_aload (pc2 := 48) rfl dX11_move_46 rfl ?_
                      refine z_getI 81 6 2 (pc2 := 51) rfl dX11_move_48 rfl rfl ff_6_2 wd_104 ?_
                      refine z_if_ne (pc2 := 54) (tgt := 60) rfl dX11_move_51 (by decide) (fun hc263 => ?_) (fun hc263 => ?_)
                      · replace h := ab_neg hc263 h
                        refine z_aload (pc2 := 62) rfl dX11_move_60 rfl ?_
                        refine z_getI 83 6 2 (pc2 := 65) rfl dX11_move_62 rfl rfl ff_6_2 wd_104 ?_
                        refine z_aload (pc2 := 67) rfl dX11_move_65 rfl ?_
                        refine z_getI 81 6 2 (pc2 := 70) rfl dX11_move_67 rfl rfl ff_6_2 wd_104 ?_
                        refine z_icmp_eq (pc2 := 73) (tgt := 79) rfl dX11_move_70 (by decide) (fun hc264 => ?_) (fun hc264 => ?_)
                        · replace h := ab_pos hc264 h
                          refine z_iload (pc2 := 81) rfl dX11_move_79 rfl ?_
                          refine z_bipush (pc2 := 83) rfl dX11_move_81 lt_b_24 ?_
                          obtain ⟨q265, hq265, h⟩ := ab_bnd h
                          refine z_callSi [.int a5, .int (24 : Int32)] [some (.int a5), some (.int (24 : Int32))] (pc2 := 86) rfl rfl dX11_move_83 ok_X11_outside ⟨fun _ => rfl, fun _ => Nat.le_of_ble_eq_true rfl⟩ rfl wd_343 wd_344 rfl (e_X11_outside hq265) ?_
                          refine z_if_ne (pc2 := 89) (tgt := 120) rfl dX11_move_86 (by decide) (fun hc266 => ?_) (fun hc266 => ?_)
                          · replace h := ab_neg hc266 h
                            refine z_aload_n (pc2 := 121) rfl dX11_move_120 rfl ?_
                            refine z_iconst (pc2 := 122) rfl dX11_move_121 lt_i_1 ?_
                            obtain ⟨q267, hq267, h⟩ := ab_bnd h
                            refine z_callVi 8 [.int (1 : Int32)] [some (.ref 8), some (.int (1 : Int32))] (pc2 := 125) rfl rfl dX11_move_122 ok_X11_refuse ⟨fun _ => rfl, fun _ => Nat.le_of_ble_eq_true rfl⟩ rfl rv_8 wd_346 wd_348 wd_0 rfl (e_X11_refuse hq267) ?_
                            exact z_iret dX11_move_125 rfl rfl (fi_w h)
                          · replace h := ab_pos hc266 h
                            refine z_iload_n (pc2 := 90) rfl dX11_move_89 rfl ?_
                            refine z_aload (pc2 := 92) rfl dX11_move_90 rfl ?_
                            refine z_getI 83 6 1 (pc2 := 95) rfl dX11_move_92 rfl rfl ff_6_1 wd_102 ?_
                            refine z_iload (pc2 := 97) rfl dX11_move_95 rfl ?_
                            refine z_isub (pc2 := 98) rfl dX11_move_97 ?_
                            obtain ⟨q268, hq268, h⟩ := ab_bnd h
                            refine z_callSi [.int a2, .int ((σ 83 1) - a5)] [some (.int a2), some (.int ((σ 83 1) - a5))] (pc2 := 101) rfl rfl dX11_move_98 ok_X11_outside ⟨fun _ => rfl, fun _ => Nat.le_of_ble_eq_true rfl⟩ rfl wd_343 wd_344 rfl (e_X11_outside hq268) ?_
                            refine z_if_ne (pc2 := 104) (tgt := 120) rfl dX11_move_101 (by decide) (fun hc269 => ?_) (fun hc269 => ?_)
                            · replace h := ab_neg hc269 h
                              refine z_aload_n (pc2 := 121) rfl dX11_move_120 rfl ?_
                              refine z_iconst (pc2 := 122) rfl dX11_move_121 lt_i_1 ?_
                              obtain ⟨q270, hq270, h⟩ := ab_bnd h
                              refine z_callVi 8 [.int (1 : Int32)] [some (.ref 8), some (.int (1 : Int32))] (pc2 := 125) rfl rfl dX11_move_122 ok_X11_refuse ⟨fun _ => rfl, fun _ => Nat.le_of_ble_eq_true rfl⟩ rfl rv_8 wd_346 wd_348 wd_0 rfl (e_X11_refuse hq270) ?_
                              exact z_iret dX11_move_125 rfl rfl (fi_w h)
                            · replace h := ab_pos hc269 h
                              refine z_iload (pc2 := 106) rfl dX11_move_104 rfl ?_
                              refine z_aload (pc2 := 108) rfl dX11_move_106 rfl ?_
                              refine z_getI 81 6 1 (pc2 := 111) rfl dX11_move_108 rfl rfl ff_6_1 wd_102 ?_
                              refine z_iload (pc2 := 113) rfl dX11_move_111 rfl ?_
                              refine z_isub (pc2 := 114) rfl dX11_move_113 ?_
                              obtain ⟨q271, hq271, h⟩ := ab_bnd h
                              refine z_callSi [.int a4, .int ((σ 81 1) - a5)] [some (.int a4), some (.int ((σ 81 1) - a5))] (pc2 := 117) rfl rfl dX11_move_114 ok_X11_outside ⟨fun _ => rfl, fun _ => Nat.le_of_ble_eq_true rfl⟩ rfl wd_343 wd_344 rfl (e_X11_outside hq271) ?_
                              refine z_if_eq (pc2 := 120) (tgt := 126) rfl dX11_move_117 (by decide) (fun hc272 => ?_) (fun hc272 => ?_)
                              · replace h := ab_pos hc272 h
                                refine z_aload (pc2 := 128) rfl dX11_move_126 rfl ?_
                                refine z_getR 83 6 0 84 (pc2 := 131) rfl dX11_move_128 rfl rfl ff_6_0 wd_99 rfl ?_
                                refine z_iload_n (pc2 := 132) rfl dX11_move_131 rfl ?_
                                refine z_aload (pc2 := 134) rfl dX11_move_132 rfl ?_
                                refine z_getR 81 6 0 82 (pc2 := 137) rfl dX11_move_134 rfl rfl ff_6_0 wd_99 rfl ?_
                                refine z_iload (pc2 := 139) rfl dX11_move_137 rfl ?_
                                refine z_iload (pc2 := 141) rfl dX11_move_139 rfl ?_
                                obtain ⟨hb273, h⟩ := ab_ck_e h
                                refine z_acopy 84 82 (pc2 := 144) rfl dX11_move_141 rfl rfl rfl rfl wd_919 wd_655 wd_654 wd_82 hb273 rfl rfl ?_
                                obtain ⟨s274, hs274, h⟩ := ab_lt_e h
                                refine z_tops hs274 ?_
                                refine z_iload (pc2 := 146) rfl dX11_move_144 rfl ?_
                                exact z_iret dX11_move_146 rfl rfl (fi_w h)
                              · replace h := ab_neg hc272 h
                                refine z_aload_n (pc2 := 121) rfl dX11_move_120 rfl ?_
                                refine z_iconst (pc2 := 122) rfl dX11_move_121 lt_i_1 ?_
                                obtain ⟨q275, hq275, h⟩ := ab_bnd h
                                refine z_callVi 8 [.int (1 : Int32)] [some (.ref 8), some (.int (1 : Int32))] (pc2 := 125) rfl rfl dX11_move_122 ok_X11_refuse ⟨fun _ => rfl, fun _ => Nat.le_of_ble_eq_true rfl⟩ rfl rv_8 wd_346 wd_348 wd_0 rfl (e_X11_refuse hq275) ?_
                                exact z_iret dX11_move_125 rfl rfl (fi_w h)
                        · replace h := ab_neg hc264 h
                          refine z_aload_n (pc2 := 74) rfl dX11_move_73 rfl ?_
                          refine z_iconst (pc2 := 75) rfl dX11_move_74 lt_i_5 ?_
                          obtain ⟨q276, hq276, h⟩ := ab_bnd h
                          refine z_callVi 8 [.int (5 : Int32)] [some (.ref 8), some (.int (5 : Int32))] (pc2 := 78) rfl rfl dX11_move_75 ok_X11_refuse ⟨fun _ => rfl, fun _ => Nat.le_of_ble_eq_true rfl⟩ rfl rv_8 wd_346 wd_348 wd_0 rfl (e_X11_refuse hq276) ?_
                          exact z_iret dX11_move_78 rfl rfl (fi_w h)
                      · replace h := ab_pos hc263 h
                        refine z_aload_n (pc2 := 55) rfl dX11_move_54 rfl ?_
                        refine z_iconst (pc2 := 56) rfl dX11_move_55 lt_i_2 ?_
                        obtain ⟨q277, hq277, h⟩ := ab_bnd h
                        refine z_callVi 8 [.int (2 : Int32)] [some (.ref 8), some (.int (2 : Int32))] (pc2 := 59) rfl rfl dX11_move_56 ok_X11_refuse ⟨fun _ => rfl, fun _ => Nat.le_of_ble_eq_true rfl⟩ rfl rv_8 wd_346 wd_348 wd_0 rfl (e_X11_refuse hq277) ?_
                        exact z_iret dX11_move_59 rfl rfl (fi_w h)
                  · replace h := ab_neg hi278 h
                    by_cases hi296 : a3 = (3 : Int32)
                    · replace h := ab_pos hi296 h
                      refine z_aaldR 20 83 (pc2 := 36) rfl dX11_move_35 rfl rfl (by rw [hi296]; rfl) (by rw [hi296]; rfl) ?_
                      refine z_astore (pc2 := 38) (L2 := [some (.ref 8), some (.int a1), some (.int a2), some (.int a3), some (.int a4), some (.int a5), some (.ref 83), some (.ref 83)]) rfl dX11_move_36 (by decide) rfl rfl ?_
                      refine z_aload (pc2 := 40) rfl dX11_move_38 rfl ?_
                      refine z_getI 83 6 2 (pc2 := 43) rfl dX11_move_40 rfl rfl ff_6_2 wd_104 ?_
                      refine z_if_eq (pc2 := 46) (tgt := 54) rfl dX11_move_43 (by decide) (fun hc279 => ?_) (fun hc279 => ?_)
                      · replace h := ab_pos hc279 h
                        refine z_aload_n (pc2 := 55) rfl dX11_move_54 rfl ?_
                        refine z_iconst (pc2 := 56) rfl dX11_move_55 lt_i_2 ?_
                        obtain ⟨q280, hq280, h⟩ := ab_bnd h
                        refine z_callVi 8 [.int (2 : Int32)] [some (.ref 8), some (.int (2 : Int32))] (pc2 := 59) rfl rfl dX11_move_56 ok_X11_refuse ⟨fun _ => rfl, fun _ => Nat.le_of_ble_eq_true rfl⟩ rfl rv_8 wd_346 wd_348 wd_0 rfl (e_X11_refuse hq280) ?_
                        exact z_iret dX11_move_59 rfl rfl (fi_w h)
                      · replace h := ab_neg hc279 h
                        refine z_aload (pc2 := 48) rfl dX11_move_46 rfl ?_
                        refine z_getI 83 6 2 (pc2 := 51) rfl dX11_move_48 rfl rfl ff_6_2 wd_104 ?_
                        refine z_if_ne (pc2 := 54) (tgt := 60) rfl dX11_move_51 (by decide) (fun hc281 => ?_) (fun hc281 => ?_)
                        · replace h := ab_neg hc281 h
                          refine z_aload (pc2 := 62) rfl dX11_move_60 rfl ?_
                          refine z_getI 83 6 2 (pc2 := 65) rfl dX11_move_62 rfl rfl ff_6_2 wd_104 ?_
                          refine z_aload (pc2 := 67) rfl dX11_move_65 rfl ?_
                          refine z_getI 83 6 2 (pc2 := 70) rfl dX11_move_67 rfl rfl ff_6_2 wd_104 ?_
                          refine z_icmp_eq (pc2 := 73) (tgt := 79) rfl dX11_move_70 (by decide) (fun hc282 => ?_) (fun hc282 => ?_)
                          · replace h := ab_pos hc282 h
                            refine z_iload (pc2 := 81) rfl dX11_move_79 rfl ?_
                            refine z_bipush (pc2 := 83) rfl dX11_move_81 lt_b_24 ?_
                            obtain ⟨q283, hq283, h⟩ := ab_bnd h
                            refine z_callSi [.int a5, .int (24 : Int32)] [some (.int a5), some (.int (24 : Int32))] (pc2 := 86) rfl rfl dX11_move_83 ok_X11_outside ⟨fun _ => rfl, fun _ => Nat.le_of_ble_eq_true rfl⟩ rfl wd_343 wd_344 rfl (e_X11_outside hq283) ?_
                            refine z_if_ne (pc2 := 89) (tgt := 120) rfl dX11_move_86 (by decide) (fun hc284 => ?_) (fun hc284 => ?_)
                            · replace h := ab_neg hc284 h
                              refine z_aload_n (pc2 := 121) rfl dX11_move_120 rfl ?_
                              refine z_iconst (pc2 := 122) rfl dX11_move_121 lt_i_1 ?_
                              obtain ⟨q285, hq285, h⟩ := ab_bnd h
                              refine z_callVi 8 [.int (1 : Int32)] [some (.ref 8), some (.int (1 : Int32))] (pc2 := 125) rfl rfl dX11_move_122 ok_X11_refuse ⟨fun _ => rfl, fun _ => Nat.le_of_ble_eq_true rfl⟩ rfl rv_8 wd_346 wd_348 wd_0 rfl (e_X11_refuse hq285) ?_
                              exact z_iret dX11_move_125 rfl rfl (fi_w h)
                            · replace h := ab_pos hc284 h
                              refine z_iload_n (pc2 := 90) rfl dX11_move_89 rfl ?_
                              refine z_aload (pc2 := 92) rfl dX11_move_90 rfl ?_
                              refine z_getI 83 6 1 (pc2 := 95) rfl dX11_move_92 rfl rfl ff_6_1 wd_102 ?_
                              refine z_iload (pc2 := 97) rfl dX11_move_95 rfl ?_
                              refine z_isub (pc2 := 98) rfl dX11_move_97 ?_
                              obtain ⟨q286, hq286, h⟩ := ab_bnd h
                              refine z_callSi [.int a2, .int ((σ 83 1) - a5)] [some (.int a2), some (.int ((σ 83 1) - a5))] (pc2 := 101) rfl rfl dX11_move_98 ok_X11_outside ⟨fun _ => rfl, fun _ => Nat.le_of_ble_eq_true rfl⟩ rfl wd_343 wd_344 rfl (e_X11_outside hq286) ?_
                              refine z_if_ne (pc2 := 104) (tgt := 120) rfl dX11_move_101 (by decide) (fun hc287 => ?_) (fun hc287 => ?_)
                              · replace h := ab_neg hc287 h
                                refine z_aload_n (pc2 := 121) rfl dX11_move_120 rfl ?_
                                refine z_iconst (pc2 := 122) rfl dX11_move_121 lt_i_1 ?_
                                obtain ⟨q288, hq288, h⟩ := ab_bnd h
                                refine z_callVi 8 [.int (1 : Int32)] [some (.ref 8), some (.int (1 : Int32))] (pc2 := 125) rfl rfl dX11_move_122 ok_X11_refuse ⟨fun _ => rfl, fun _ => Nat.le_of_ble_eq_true rfl⟩ rfl rv_8 wd_346 wd_348 wd_0 rfl (e_X11_refuse hq288) ?_
                                exact z_iret dX11_move_125 rfl rfl (fi_w h)
                              · replace h := ab_pos hc287 h
                                refine z_iload (pc2 := 106) rfl dX11_move_104 rfl ?_
                                refine z_aload (pc2 := 108) rfl dX11_move_106 rfl ?_
                                refine z_getI 83 6 1 (pc2 := 111) rfl dX11_move_108 rfl rfl ff_6_1 wd_102 ?_
                                refine z_iload (pc2 := 113) rfl dX11_move_111 rfl ?_
                                refine z_isub (pc2 := 114) rfl dX11_move_113 ?_
                                obtain ⟨q289, hq289, h⟩ := ab_bnd h
                                refine z_callSi [.int a4, .int ((σ 83 1) - a5)] [some (.int a4), some (.int ((σ 83 1) - a5))] (pc2 := 117) rfl rfl dX11_move_114 ok_X11_outside ⟨fun _ => rfl, fun _ => Nat.le_of_ble_eq_true rfl⟩ rfl wd_343 wd_344 rfl (e_X11_outside hq289) ?_
                                refine z_if_eq (pc2 := 120) (tgt := 126) rfl dX11_move_117 (by decide) (fun hc290 => ?_) (fun hc290 => ?_)
                                · replace h := ab_pos hc290 h
                                  refine z_aload (pc2 := 128) rfl dX11_move_126 rfl ?_
                                  refine z_getR 83 6 0 84 (pc2 := 131) rfl dX11_move_128 rfl rfl ff_6_0 wd_99 rfl ?_
                                  refine z_iload_n (pc2 := 132) rfl dX11_move_131 rfl ?_
                                  refine z_aload (pc2 := 134) rfl dX11_move_132 rfl ?_
                                  refine z_getR 83 6 0 84 (pc2 := 137) rfl dX11_move_134 rfl rfl ff_6_0 wd_99 rfl ?_
                                  refine z_iload (pc2 := 139) rfl dX11_move_137 rfl ?_
                                  refine z_iload (pc2 := 141) rfl dX11_move_139 rfl ?_
                                  obtain ⟨hb291, h⟩ := ab_ck_e h
                                  refine z_acopy 84 84 (pc2 := 144) rfl dX11_move_141 rfl rfl rfl rfl wd_919 wd_655 wd_654 wd_82 hb291 rfl rfl ?_
                                  obtain ⟨s292, hs292, h⟩ := ab_lt_e h
                                  refine z_tops hs292 ?_
                                  refine z_iload (pc2 := 146) rfl dX11_move_144 rfl ?_
                                  exact z_iret dX11_move_146 rfl rfl (fi_w h)
                                · replace h := ab_neg hc290 h
                                  refine z_aload_n (pc2 := 121) rfl dX11_move_120 rfl ?_
                                  refine z_iconst (pc2 := 122) rfl dX11_move_121 lt_i_1 ?_
                                  obtain ⟨q293, hq293, h⟩ := ab_bnd h
                                  refine z_callVi 8 [.int (1 : Int32)] [some (.ref 8), some (.int (1 : Int32))] (pc2 := 125) rfl rfl dX11_move_122 ok_X11_refuse ⟨fun _ => rfl, fun _ => Nat.le_of_ble_eq_true rfl⟩ rfl rv_8 wd_346 wd_348 wd_0 rfl (e_X11_refuse hq293) ?_
                                  exact z_iret dX11_move_125 rfl rfl (fi_w h)
                          · replace h := ab_neg hc282 h
                            refine z_aload_n (pc2 := 74) rfl dX11_move_73 rfl ?_
                            refine z_iconst (pc2 := 75) rfl dX11_move_74 lt_i_5 ?_
                            obtain ⟨q294, hq294, h⟩ := ab_bnd h
                            refine z_callVi 8 [.int (5 : Int32)] [some (.ref 8), some (.int (5 : Int32))] (pc2 := 78) rfl rfl dX11_move_75 ok_X11_refuse ⟨fun _ => rfl, fun _ => Nat.le_of_ble_eq_true rfl⟩ rfl rv_8 wd_346 wd_348 wd_0 rfl (e_X11_refuse hq294) ?_
                            exact z_iret dX11_move_78 rfl rfl (fi_w h)
                        · replace h := ab_pos hc281 h
                          refine z_aload_n (pc2 := 55) rfl dX11_move_54 rfl ?_
                          refine z_iconst (pc2 := 56) rfl dX11_move_55 lt_i_2 ?_
                          obtain ⟨q295, hq295, h⟩ := ab_bnd h
                          refine z_callVi 8 [.int (2 : Int32)] [some (.ref 8), some (.int (2 : Int32))] (pc2 := 59) rfl rfl dX11_move_56 ok_X11_refuse ⟨fun _ => rfl, fun _ => Nat.le_of_ble_eq_true rfl⟩ rfl rv_8 wd_346 wd_348 wd_0 rfl (e_X11_refuse hq295) ?_
                          exact z_iret dX11_move_59 rfl rfl (fi_w h)
                    · replace h := ab_neg hi296 h
                      cases h
            · replace h := ab_neg hi297 h
              cases h
    · replace h := ab_neg hc5 h
      refine z_aload_n (pc2 := 17) rfl dX11_move_16 rfl ?_
      refine z_iconst (pc2 := 18) rfl dX11_move_17 lt_i_1 ?_
      obtain ⟨q298, hq298, h⟩ := ab_bnd h
      refine z_callVi 8 [.int (1 : Int32)] [some (.ref 8), some (.int (1 : Int32))] (pc2 := 21) rfl rfl dX11_move_18 ok_X11_refuse ⟨fun _ => rfl, fun _ => Nat.le_of_ble_eq_true rfl⟩ rfl rv_8 wd_346 wd_348 wd_0 rfl (e_X11_refuse hq298) ?_
      exact z_iret dX11_move_21 rfl rfl (fi_w h)
