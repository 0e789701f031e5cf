def f_X11_swap_41 (a1 : Int32) (a2 : Int32) (σ : ab_F) : Option (Int32 × ab_F) := ab_ck (ab_ib a1 16) (ab_lt ((σ 41 (a1).toNatClampNeg)) (fun x2 => ab_ck (ab_ib a1 16) (ab_lt (ab_u σ 41 (a1).toNatClampNeg a2) (fun (s4 : ab_F) => (some (x2, s4))))))
set_option maxRecDepth 100000 in
set_option maxHeartbeats 4000000 in
theorem e_X11_swap_41 {sc : Nat × (Nat → Int32)} {r : Option Nat × Option Nat} {a1 : Int32} {a2 : Int32} {σ : ab_F} {res : (Int32 × ab_F)} (h : f_X11_swap_41 a1 a2 σ = some res) : ab_E mX11_swap 0 sc 0 [some (.ref 41), some (.int a1), some (.int a2), none] [] (σ, r) (fun v S => v = some (.int res.1) ∧ S = (res.2, r)) := by
  unfold f_X11_swap_41 at h
  refine z_aload_n (pc2 := 1) rfl dX11_swap_0 rfl ?_
  refine z_iload_n (pc2 := 2) rfl dX11_swap_1 rfl ?_
  obtain ⟨hb1, h⟩ := ab_ck_e h
  refine z_iald 41 (pc2 := 3) (j := (a1).toNatClampNeg) rfl dX11_swap_2 rfl rfl hb1 rfl ?_
  obtain ⟨x2, hxx2, h⟩ := ab_lt_e h
  refine z_top hxx2 ?_
  refine z_istore_n (pc2 := 4) (L2 := [some (.ref 41), some (.int a1), some (.int a2), some (.int x2)]) rfl dX11_swap_3 (by decide) rfl rfl ?_
  refine z_aload_n (pc2 := 5) rfl dX11_swap_4 rfl ?_
  refine z_iload_n (pc2 := 6) rfl dX11_swap_5 rfl ?_
  refine z_iload_n (pc2 := 7) rfl dX11_swap_6 rfl ?_
  obtain ⟨hb3, h⟩ := ab_ck_e h
  refine z_iast 41 (pc2 := 8) (j := (a1).toNatClampNeg) rfl dX11_swap_7 rfl rfl hb3 rfl ?_
  obtain ⟨s4, hs4, h⟩ := ab_lt_e h
  refine z_tops hs4 ?_
  refine z_iload_n (pc2 := 9) rfl dX11_swap_8 rfl ?_
  exact z_iret dX11_swap_9 rfl rfl (fi_w h)
def f_X11_swap_42 (a1 : Int32) (a2 : Int32) (σ : ab_F) : Option (Int32 × ab_F) := ab_ck (ab_ib a1 16) (ab_lt ((σ 42 (a1).toNatClampNeg)) (fun x2 => ab_ck (ab_ib a1 16) (ab_lt (ab_u σ 42 (a1).toNatClampNeg a2) (fun (s4 : ab_F) => (some (x2, s4))))))
set_option maxRecDepth 100000 in
set_option maxHeartbeats 4000000 in
theorem e_X11_swap_42 {sc : Nat × (Nat → Int32)} {r : Option Nat × Option Nat} {a1 : Int32} {a2 : Int32} {σ : ab_F} {res : (Int32 × ab_F)} (h : f_X11_swap_42 a1 a2 σ = some res) : ab_E mX11_swap 0 sc 0 [some (.ref 42), some (.int a1), some (.int a2), none] [] (σ, r) (fun v S => v = some (.int res.1) ∧ S = (res.2, r)) := by
  unfold f_X11_swap_42 at h
  refine z_aload_n (pc2 := 1) rfl dX11_swap_0 rfl ?_
  refine z_iload_n (pc2 := 2) rfl dX11_swap_1 rfl ?_
  obtain ⟨hb1, h⟩ := ab_ck_e h
  refine z_iald 42 (pc2 := 3) (j := (a1).toNatClampNeg) rfl dX11_swap_2 rfl rfl hb1 rfl ?_
  obtain ⟨x2, hxx2, h⟩ := ab_lt_e h
  refine z_top hxx2 ?_
  refine z_istore_n (pc2 := 4) (L2 := [some (.ref 42), some (.int a1), some (.int a2), some (.int x2)]) rfl dX11_swap_3 (by decide) rfl rfl ?_
  refine z_aload_n (pc2 := 5) rfl dX11_swap_4 rfl ?_
  refine z_iload_n (pc2 := 6) rfl dX11_swap_5 rfl ?_
  refine z_iload_n (pc2 := 7) rfl dX11_swap_6 rfl ?_
  obtain ⟨hb3, h⟩ := ab_ck_e h
  refine z_iast 42 (pc2 := 8) (j := (a1).toNatClampNeg) rfl dX11_swap_7 rfl rfl hb3 rfl ?_
  obtain ⟨s4, hs4, h⟩ := ab_lt_e h
  refine z_tops hs4 ?_
  refine z_iload_n (pc2 := 9) rfl dX11_swap_8 rfl ?_
  exact z_iret dX11_swap_9 rfl rfl (fi_w h)
def f_X11_land (a1 : Int32) (a2 : Int32) (a3 : Int32) (σ : ab_F) : Option (Int32 × ab_F) := (f_X11_outside a1 (15 : Int32) σ).bind (fun q1 => (if (ab_b q1) = 0 then (f_X11_outside a2 ((4 : Int32) - (1 : Int32)) σ).bind (fun q4 => (if (ab_b q4) = 0 then ab_ck (ab_ib a2 4) ((f_X11_outside a3 (ab_tab 2 (a2).toNatClampNeg) σ).bind (fun q8 => (if (ab_b q8) = 0 then (f_X9_rowOfCells 38 a2 σ).bind (fun q10 => (if q10 = 39 then (f_X11_swap_39 a1 a3 σ).bind (fun q11 => (some (q11.1, q11.2))) else if q10 = 40 then (f_X11_swap_40 a1 a3 σ).bind (fun q13 => (some (q13.1, q13.2))) else if q10 = 41 then (f_X11_swap_41 a1 a3 σ).bind (fun q15 => (some (q15.1, q15.2))) else if q10 = 42 then (f_X11_swap_42 a1 a3 σ).bind (fun q17 => (some (q17.1, q17.2))) else none)) else (f_X11_refuse (1 : Int32) σ).bind (fun q19 => (some (q19.1, q19.2)))))) else (f_X11_refuse (1 : Int32) σ).bind (fun q6 => (some (q6.1, q6.2))))) else (f_X11_refuse (1 : Int32) σ).bind (fun q3 => (some (q3.1, q3.2)))))
set_option maxRecDepth 100000 in
set_option maxHeartbeats 4000000 in
theorem e_X11_land {sc : Nat × (Nat → Int32)} {r : Option Nat × Option Nat} {a1 : Int32} {a2 : Int32} {a3 : Int32} {σ : ab_F} {res : (Int32 × ab_F)} (h : f_X11_land a1 a2 a3 σ = some res) : ab_E mX11_land 1 sc 0 [some (.ref 8), some (.int a1), some (.int a2), some (.int a3)] [] (σ, r) (fun v S => v = some (.int res.1) ∧ S = (res.2, r)) := by
  unfold f_X11_land at h
  refine z_iload_n (pc2 := 1) rfl dX11_land_0 rfl ?_
  refine z_bipush (pc2 := 3) rfl dX11_land_1 lt_b_15 ?_
  obtain ⟨q1, hq1, h⟩ := ab_bnd h
  refine z_callSi [.int a1, .int (15 : Int32)] [some (.int a1), some (.int (15 : Int32))] (pc2 := 6) rfl rfl dX11_land_3 ok_X11_outside ⟨fun _ => rfl, fun _ => Nat.le_of_ble_eq_true rfl⟩ rfl wd_343 wd_344 rfl (e_X11_outside hq1) ?_
  refine z_if_ne (pc2 := 9) (tgt := 34) rfl dX11_land_6 (by decide) (fun hc2 => ?_) (fun hc2 => ?_)
  · replace h := ab_neg hc2 h
    refine z_aload_n (pc2 := 35) rfl dX11_land_34 rfl ?_
    refine z_iconst (pc2 := 36) rfl dX11_land_35 lt_i_1 ?_
    obtain ⟨q3, hq3, h⟩ := ab_bnd h
    refine z_callVi 8 [.int (1 : Int32)] [some (.ref 8), some (.int (1 : Int32))] (pc2 := 39) rfl rfl dX11_land_36 ok_X11_refuse ⟨fun _ => rfl, fun _ => Nat.le_of_ble_eq_true rfl⟩ rfl rv_8 wd_346 wd_348 wd_0 rfl (e_X11_refuse hq3) ?_
    exact z_iret dX11_land_39 rfl rfl (fi_w h)
  · replace h := ab_pos hc2 h
    refine z_iload_n (pc2 := 10) rfl dX11_land_9 rfl ?_
    refine z_gets (2, "MOST_OF_CELL") (pc2 := 13) rfl dX11_land_10 (by decide) wd_496 ?_
    refine z_talen (2, 4) (pc2 := 14) (v := 4) rfl dX11_land_13 (by decide) (by decide) ?_
    refine z_iconst (pc2 := 15) rfl dX11_land_14 lt_i_1 ?_
    refine z_isub (pc2 := 16) rfl dX11_land_15 ?_
    obtain ⟨q4, hq4, h⟩ := ab_bnd h
    refine z_callSi [.int a2, .int ((4 : Int32) - (1 : Int32))] [some (.int a2), some (.int ((4 : Int32) - (1 : Int32)))] (pc2 := 19) rfl rfl dX11_land_16 ok_X11_outside ⟨fun _ => rfl, fun _ => Nat.le_of_ble_eq_true rfl⟩ rfl wd_343 wd_344 rfl (e_X11_outside hq4) ?_
    refine z_if_ne (pc2 := 22) (tgt := 34) rfl dX11_land_19 (by decide) (fun hc5 => ?_) (fun hc5 => ?_)
    · replace h := ab_neg hc5 h
      refine z_aload_n (pc2 := 35) rfl dX11_land_34 rfl ?_
      refine z_iconst (pc2 := 36) rfl dX11_land_35 lt_i_1 ?_
      obtain ⟨q6, hq6, h⟩ := ab_bnd h
      refine z_callVi 8 [.int (1 : Int32)] [some (.ref 8), some (.int (1 : Int32))] (pc2 := 39) rfl rfl dX11_land_36 ok_X11_refuse ⟨fun _ => rfl, fun _ => Nat.le_of_ble_eq_true rfl⟩ rfl rv_8 wd_346 wd_348 wd_0 rfl (e_X11_refuse hq6) ?_
      exact z_iret dX11_land_39 rfl rfl (fi_w h)
    · replace h := ab_pos hc5 h
      refine z_iload_n (pc2 := 23) rfl dX11_land_22 rfl ?_
      refine z_gets (2, "MOST_OF_CELL") (pc2 := 26) rfl dX11_land_23 (by decide) wd_496 ?_
      refine z_iload_n (pc2 := 27) rfl dX11_land_26 rfl ?_
      obtain ⟨hb7, h⟩ := ab_ck_e h
      refine z_tald (2, 4) (pc2 := 28) rfl dX11_land_27 (by decide) hb7 ?_
      obtain ⟨q8, hq8, h⟩ := ab_bnd h
      refine z_callSi [.int a3, .int (ab_tab 2 (a2).toNatClampNeg)] [some (.int a3), some (.int (ab_tab 2 (a2).toNatClampNeg))] (pc2 := 31) rfl rfl dX11_land_28 ok_X11_outside ⟨fun _ => rfl, fun _ => Nat.le_of_ble_eq_true rfl⟩ rfl wd_343 wd_344 rfl (e_X11_outside hq8) ?_
      refine z_if_eq (pc2 := 34) (tgt := 40) rfl dX11_land_31 (by decide) (fun hc9 => ?_) (fun hc9 => ?_)
      · replace h := ab_pos hc9 h
        refine z_aload_n (pc2 := 41) rfl dX11_land_40 rfl ?_
        refine z_getR 8 11 0 38 (pc2 := 44) rfl dX11_land_41 rfl rfl ff_11_0 wd_302 rfl ?_
        refine z_iload_n (pc2 := 45) rfl dX11_land_44 rfl ?_
        obtain ⟨q10, hq10, h⟩ := ab_bnd h
        refine z_callVr 38 [.int a2] [some (.ref 38), some (.int a2)] (pc2 := 48) rfl rfl dX11_land_45 ok_X9_rowOfCells ⟨fun _ => rfl, fun _ => Nat.le_of_ble_eq_true rfl⟩ rfl rv_38 wd_498 wd_499 wd_500 rfl (e_X9_rowOfCells_38 hq10) ?_
        by_cases hi12 : q10 = 39
        · replace h := ab_pos hi12 h
          rw [hi12]
          refine z_iload_n (pc2 := 49) rfl dX11_land_48 rfl ?_
          refine z_iload_n (pc2 := 50) rfl dX11_land_49 rfl ?_
          obtain ⟨q11, hq11, h⟩ := ab_bnd h
          refine z_callSi [.ref 39, .int a1, .int a3] [some (.ref 39), some (.int a1), some (.int a3), none] (pc2 := 53) rfl rfl dX11_land_50 ok_X11_swap ⟨fun _ => rfl, fun _ => Nat.le_of_ble_eq_true rfl⟩ rfl wd_485 wd_486 rfl (e_X11_swap_39 hq11) ?_
          exact z_iret dX11_land_53 rfl rfl (fi_w h)
        · replace h := ab_neg hi12 h
          by_cases hi14 : q10 = 40
          · replace h := ab_pos hi14 h
            rw [hi14]
            refine z_iload_n (pc2 := 49) rfl dX11_land_48 rfl ?_
            refine z_iload_n (pc2 := 50) rfl dX11_land_49 rfl ?_
            obtain ⟨q13, hq13, h⟩ := ab_bnd h
            refine z_callSi [.ref 40, .int a1, .int a3] [some (.ref 40), some (.int a1), some (.int a3), none] (pc2 := 53) rfl rfl dX11_land_50 ok_X11_swap ⟨fun _ => rfl, fun _ => Nat.le_of_ble_eq_true rfl⟩ rfl wd_485 wd_486 rfl (e_X11_swap_40 hq13) ?_
            exact z_iret dX11_land_53 rfl rfl (fi_w h)
          · replace h := ab_neg hi14 h
            by_cases hi16 : q10 = 41
            · replace h := ab_pos hi16 h
              rw [hi16]
              refine z_iload_n (pc2 := 49) rfl dX11_land_48 rfl ?_
              refine z_iload_n (pc2 := 50) rfl dX11_land_49 rfl ?_
              obtain ⟨q15, hq15, h⟩ := ab_bnd h
              refine z_callSi [.ref 41, .int a1, .int a3] [some (.ref 41), some (.int a1), some (.int a3), none] (pc2 := 53) rfl rfl dX11_land_50 ok_X11_swap ⟨fun _ => rfl, fun _ => Nat.le_of_ble_eq_true rfl⟩ rfl wd_485 wd_486 rfl (e_X11_swap_41 hq15) ?_
              exact z_iret dX11_land_53 rfl rfl (fi_w h)
            · replace h := ab_neg hi16 h
              by_cases hi18 : q10 = 42
              · replace h := ab_pos hi18 h
                rw [hi18]
                refine z_iload_n (pc2 := 49) rfl dX11_land_48 rfl ?_
                refine z_iload_n (pc2 := 50) rfl dX11_land_49 rfl ?_
                obtain ⟨q17, hq17, h⟩ := ab_bnd h
                refine z_callSi [.ref 42, .int a1, .int a3] [some (.ref 42), some (.int a1), some (.int a3), none] (pc2 := 53) rfl rfl dX11_land_50 ok_X11_swap ⟨fun _ => rfl, fun _ => Nat.le_of_ble_eq_true rfl⟩ rfl wd_485 wd_486 rfl (e_X11_swap_42 hq17) ?_
                exact z_iret dX11_land_53 rfl rfl (fi_w h)
              · replace h := ab_neg hi18 h
                cases h
      · replace h := ab_neg hc9 h
        refine z_aload_n (pc2 := 35) rfl dX11_land_34 rfl ?_
        refine z_iconst (pc2 := 36) rfl dX11_land_35 lt_i_1 ?_
        obtain ⟨q19, hq19, h⟩ := ab_bnd h
        refine z_callVi 8 [.int (1 : Int32)] [some (.ref 8), some (.int (1 : Int32))] (pc2 := 39) rfl rfl dX11_land_36 ok_X11_refuse ⟨fun _ => rfl, fun _ => Nat.le_of_ble_eq_true rfl⟩ rfl rv_8 wd_346 wd_348 wd_0 rfl (e_X11_refuse hq19) ?_
        exact z_iret dX11_land_39 rfl rfl (fi_w h)
def f_X9_level (w : Nat) (a1 : Int32) (σ : ab_F) : Option Int32 := ab_ck (ab_ib a1 16) (ab_ck (ab_ib a1 16) ((some ((σ (w + 1) (a1).toNatClampNeg) + (σ (w + 2) (a1).toNatClampNeg)))))
set_option maxRecDepth 100000 in
set_option maxHeartbeats 4000000 in
theorem e_X9_level_38 {sc : Nat × (Nat → Int32)} {r : Option Nat × Option Nat} {a1 : Int32} {σ : ab_F} {res : Int32} (h : f_X9_level 38 a1 σ = some res) : ab_E mX9_level 0 sc 0 [some (.ref 38), some (.int a1)] [] (σ, r) (fun v S => v = some (.int res) ∧ S = (σ, r)) := by
  unfold f_X9_level at h
  refine z_aload_n (pc2 := 1) rfl dX9_level_0 rfl ?_
  refine z_getR 38 9 6 39 (pc2 := 4) rfl dX9_level_1 rfl rfl ff_9_6 wd_241 rfl ?_
  refine z_iload_n (pc2 := 5) rfl dX9_level_4 rfl ?_
  obtain ⟨hb1, h⟩ := ab_ck_e h
  refine z_iald 39 (pc2 := 6) (j := (a1).toNatClampNeg) rfl dX9_level_5 rfl rfl hb1 rfl ?_
  refine z_aload_n (pc2 := 7) rfl dX9_level_6 rfl ?_
  refine z_getR 38 9 7 40 (pc2 := 10) rfl dX9_level_7 rfl rfl ff_9_7 wd_243 rfl ?_
  refine z_iload_n (pc2 := 11) rfl dX9_level_10 rfl ?_
  obtain ⟨hb2, h⟩ := ab_ck_e h
  refine z_iald 40 (pc2 := 12) (j := (a1).toNatClampNeg) rfl dX9_level_11 rfl rfl hb2 rfl ?_
  refine z_iadd (pc2 := 13) rfl dX9_level_12 ?_
  exact z_iret dX9_level_13 rfl rfl (fi_p h)
def f_X11_landIs (a1 : Int32) (a2 : Int32) (σ : ab_F) : Option (Int32 × ab_F) := (f_X11_outside a1 (15 : Int32) σ).bind (fun q1 => (if (ab_b q1) = 0 then (f_X11_outside a2 (4 : Int32) σ).bind (fun q4 => (if (ab_b q4) = 0 then (if a2 = (4 : Int32) then (f_X9_level 38 a1 σ).bind (fun q16 => (some (q16, σ))) else (f_X9_rowOfCells 38 a2 σ).bind (fun q7 => (if q7 = 39 then ab_ck (ab_ib a1 16) ((some ((σ 39 (a1).toNatClampNeg), σ))) else if q7 = 40 then ab_ck (ab_ib a1 16) ((some ((σ 40 (a1).toNatClampNeg), σ))) else if q7 = 41 then ab_ck (ab_ib a1 16) ((some ((σ 41 (a1).toNatClampNeg), σ))) else if q7 = 42 then ab_ck (ab_ib a1 16) ((some ((σ 42 (a1).toNatClampNeg), σ))) else none))) else (f_X11_refuse (1 : Int32) σ).bind (fun q17 => (some (q17.1, q17.2))))) else (f_X11_refuse (1 : Int32) σ).bind (fun q3 => (some (q3.1, q3.2)))))
set_option maxRecDepth 100000 in
set_option maxHeartbeats 4000000 in
theorem e_X11_landIs {sc : Nat × (Nat → Int32)} {r : Option Nat × Option Nat} {a1 : Int32} {a2 : Int32} {σ : ab_F} {res : (Int32 × ab_F)} (h : f_X11_landIs a1 a2 σ = some res) : ab_E mX11_landIs 1 sc 0 [some (.ref 8), some (.int a1), some (.int a2)] [] (σ, r) (fun v S => v = some (.int res.1) ∧ S = (res.2, r)) := by
  unfold f_X11_landIs at h
  refine z_iload_n (pc2 := 1) rfl dX11_landIs_0 rfl ?_
  refine z_bipush (pc2 := 3) rfl dX11_landIs_1 lt_b_15 ?_
  obtain ⟨q1, hq1, h⟩ := ab_bnd h
  refine z_callSi [.int a1, .int (15 : Int32)] [some (.int a1), some (.int (15 : Int32))] (pc2 := 6) rfl rfl dX11_landIs_3 ok_X11_outside ⟨fun _ => rfl, fun _ => Nat.le_of_ble_eq_true rfl⟩ rfl wd_343 wd_344 rfl (e_X11_outside hq1) ?_
  refine z_if_ne (pc2 := 9) (tgt := 20) rfl dX11_landIs_6 (by decide) (fun hc2 => ?_) (fun hc2 => ?_)
  · replace h := ab_neg hc2 h
    refine z_aload_n (pc2 := 21) rfl dX11_landIs_20 rfl ?_
    refine z_iconst (pc2 := 22) rfl dX11_landIs_21 lt_i_1 ?_
    obtain ⟨q3, hq3, h⟩ := ab_bnd h
    refine z_callVi 8 [.int (1 : Int32)] [some (.ref 8), some (.int (1 : Int32))] (pc2 := 25) rfl rfl dX11_landIs_22 ok_X11_refuse ⟨fun _ => rfl, fun _ => Nat.le_of_ble_eq_true rfl⟩ rfl rv_8 wd_346 wd_348 wd_0 rfl (e_X11_refuse hq3) ?_
    exact z_iret dX11_landIs_25 rfl rfl (fi_w h)
  · replace h := ab_pos hc2 h
    refine z_iload_n (pc2 := 10) rfl dX11_landIs_9 rfl ?_
    refine z_gets (2, "MOST_OF_CELL") (pc2 := 13) rfl dX11_landIs_10 (by decide) wd_496 ?_
    refine z_talen (2, 4) (pc2 := 14) (v := 4) rfl dX11_landIs_13 (by decide) (by decide) ?_
    obtain ⟨q4, hq4, h⟩ := ab_bnd h
    refine z_callSi [.int a2, .int (4 : Int32)] [some (.int a2), some (.int (4 : Int32))] (pc2 := 17) rfl rfl dX11_landIs_14 ok_X11_outside ⟨fun _ => rfl, fun _ => Nat.le_of_ble_eq_true rfl⟩ rfl wd_343 wd_344 rfl (e_X11_outside hq4) ?_
    refine z_if_eq (pc2 := 20) (tgt := 26) rfl dX11_landIs_17 (by decide) (fun hc5 => ?_) (fun hc5 => ?_)
    · replace h := ab_pos hc5 h
      refine z_iload_n (pc2 := 27) rfl dX11_landIs_26 rfl ?_
      refine z_gets (2, "MOST_OF_CELL") (pc2 := 30) rfl dX11_landIs_27 (by decide) wd_496 ?_
      refine z_talen (2, 4) (pc2 := 31) (v := 4) rfl dX11_landIs_30 (by decide) (by decide) ?_
      refine z_icmp_ne (pc2 := 34) (tgt := 45) rfl dX11_landIs_31 (by decide) (fun hc6 => ?_) (fun hc6 => ?_)
      · replace h := ab_neg hc6 h
        refine z_aload_n (pc2 := 46) rfl dX11_landIs_45 rfl ?_
        refine z_getR 8 11 0 38 (pc2 := 49) rfl dX11_landIs_46 rfl rfl ff_11_0 wd_302 rfl ?_
        refine z_iload_n (pc2 := 50) rfl dX11_landIs_49 rfl ?_
        obtain ⟨q7, hq7, h⟩ := ab_bnd h
        refine z_callVr 38 [.int a2] [some (.ref 38), some (.int a2)] (pc2 := 53) rfl rfl dX11_landIs_50 ok_X9_rowOfCells ⟨fun _ => rfl, fun _ => Nat.le_of_ble_eq_true rfl⟩ rfl rv_38 wd_498 wd_499 wd_500 rfl (e_X9_rowOfCells_38 hq7) ?_
        by_cases hi9 : q7 = 39
        · replace h := ab_pos hi9 h
          rw [hi9]
          refine z_iload_n (pc2 := 54) rfl dX11_landIs_53 rfl ?_
          obtain ⟨hb8, h⟩ := ab_ck_e h
          refine z_iald 39 (pc2 := 55) (j := (a1).toNatClampNeg) rfl dX11_landIs_54 rfl rfl hb8 rfl ?_
          exact z_iret dX11_landIs_55 rfl rfl (fi_w h)
        · replace h := ab_neg hi9 h
          by_cases hi11 : q7 = 40
          · replace h := ab_pos hi11 h
            rw [hi11]
            refine z_iload_n (pc2 := 54) rfl dX11_landIs_53 rfl ?_
            obtain ⟨hb10, h⟩ := ab_ck_e h
            refine z_iald 40 (pc2 := 55) (j := (a1).toNatClampNeg) rfl dX11_landIs_54 rfl rfl hb10 rfl ?_
            exact z_iret dX11_landIs_55 rfl rfl (fi_w h)
          · replace h := ab_neg hi11 h
            by_cases hi13 : q7 = 41
            · replace h := ab_pos hi13 h
              rw [hi13]
              refine z_iload_n (pc2 := 54) rfl dX11_landIs_53 rfl ?_
              obtain ⟨hb12, h⟩ := ab_ck_e h
              refine z_iald 41 (pc2 := 55) (j := (a1).toNatClampNeg) rfl dX11_landIs_54 rfl rfl hb12 rfl ?_
              exact z_iret dX11_landIs_55 rfl rfl (fi_w h)
            · replace h := ab_neg hi13 h
              by_cases hi15 : q7 = 42
              · replace h := ab_pos hi15 h
                rw [hi15]
                refine z_iload_n (pc2 := 54) rfl dX11_landIs_53 rfl ?_
                obtain ⟨hb14, h⟩ := ab_ck_e h
                refine z_iald 42 (pc2 := 55) (j := (a1).toNatClampNeg) rfl dX11_landIs_54 rfl rfl hb14 rfl ?_
                exact z_iret dX11_landIs_55 rfl rfl (fi_w h)
              · replace h := ab_neg hi15 h
                cases h
      · replace h := ab_pos hc6 h
        refine z_aload_n (pc2 := 35) rfl dX11_landIs_34 rfl ?_
        refine z_getR 8 11 0 38 (pc2 := 38) rfl dX11_landIs_35 rfl rfl ff_11_0 wd_302 rfl ?_
        refine z_iload_n (pc2 := 39) rfl dX11_landIs_38 rfl ?_
        obtain ⟨q16, hq16, h⟩ := ab_bnd h
        refine z_callVi 38 [.int a1] [some (.ref 38), some (.int a1)] (pc2 := 42) rfl rfl dX11_landIs_39 ok_X9_level ⟨fun _ => rfl, fun _ => Nat.le_of_ble_eq_true rfl⟩ rfl rv_38 wd_506 wd_507 wd_508 rfl (e_X9_level_38 hq16) ?_
        refine ab_goto (tgt := 55) dX11_landIs_42 (by decide) ?_
        exact z_iret dX11_landIs_55 rfl rfl (fi_w h)
    · replace h := ab_neg hc5 h
      refine z_aload_n (pc2 := 21) rfl dX11_landIs_20 rfl ?_
      refine z_iconst (pc2 := 22) rfl dX11_landIs_21 lt_i_1 ?_
      obtain ⟨q17, hq17, h⟩ := ab_bnd h
      refine z_callVi 8 [.int (1 : Int32)] [some (.ref 8), some (.int (1 : Int32))] (pc2 := 25) rfl rfl dX11_landIs_22 ok_X11_refuse ⟨fun _ => rfl, fun _ => Nat.le_of_ble_eq_true rfl⟩ rfl rv_8 wd_346 wd_348 wd_0 rfl (e_X11_refuse hq17) ?_
      exact z_iret dX11_landIs_25 rfl rfl (fi_w h)
def f_X11_swap_43 (a1 : Int32) (a2 : Int32) (σ : ab_F) : Option (Int32 × ab_F) := ab_ck (ab_ib a1 6) (ab_lt ((σ 43 (a1).toNatClampNeg)) (fun x2 => ab_ck (ab_ib a1 6) (ab_lt (ab_u σ 43 (a1).toNatClampNeg a2) (fun (s4 : ab_F) => (some (x2, s4))))))
set_option maxRecDepth 100000 in
set_option maxHeartbeats 4000000 in
theorem e_X11_swap_43 {sc : Nat × (Nat → Int32)} {r : Option Nat × Option Nat} {a1 : Int32} {a2 : Int32} {σ : ab_F} {res : (Int32 × ab_F)} (h : f_X11_swap_43 a1 a2 σ = some res) : ab_E mX11_swap 0 sc 0 [some (.ref 43), some (.int a1), some (.int a2), none] [] (σ, r) (fun v S => v = some (.int res.1) ∧ S = (res.2, r)) := by
  unfold f_X11_swap_43 at h
  refine z_aload_n (pc2 := 1) rfl dX11_swap_0 rfl ?_
  refine z_iload_n (pc2 := 2) rfl dX11_swap_1 rfl ?_
  obtain ⟨hb1, h⟩ := ab_ck_e h
  refine z_iald 43 (pc2 := 3) (j := (a1).toNatClampNeg) rfl dX11_swap_2 rfl rfl hb1 rfl ?_
  obtain ⟨x2, hxx2, h⟩ := ab_lt_e h
  refine z_top hxx2 ?_
  refine z_istore_n (pc2 := 4) (L2 := [some (.ref 43), some (.int a1), some (.int a2), some (.int x2)]) rfl dX11_swap_3 (by decide) rfl rfl ?_
  refine z_aload_n (pc2 := 5) rfl dX11_swap_4 rfl ?_
  refine z_iload_n (pc2 := 6) rfl dX11_swap_5 rfl ?_
  refine z_iload_n (pc2 := 7) rfl dX11_swap_6 rfl ?_
  obtain ⟨hb3, h⟩ := ab_ck_e h
  refine z_iast 43 (pc2 := 8) (j := (a1).toNatClampNeg) rfl dX11_swap_7 rfl rfl hb3 rfl ?_
  obtain ⟨s4, hs4, h⟩ := ab_lt_e h
  refine z_tops hs4 ?_
  refine z_iload_n (pc2 := 9) rfl dX11_swap_8 rfl ?_
  exact z_iret dX11_swap_9 rfl rfl (fi_w h)
def f_X11_rises (a1 : Int32) (a2 : Int32) (σ : ab_F) : Option (Int32 × ab_F) := (f_X11_outside a1 (5 : Int32) σ).bind (fun q1 => (if (ab_b q1) = 0 then (f_X11_outside a2 (9 : Int32) σ).bind (fun q4 => (if (ab_b q4) = 0 then (f_X11_swap_43 a1 a2 σ).bind (fun q6 => (some (q6.1, q6.2))) else (f_X11_refuse (1 : Int32) σ).bind (fun q7 => (some (q7.1, q7.2))))) else (f_X11_refuse (1 : Int32) σ).bind (fun q3 => (some (q3.1, q3.2)))))
set_option maxRecDepth 100000 in
set_option maxHeartbeats 4000000 in
theorem e_X11_rises {sc : Nat × (Nat → Int32)} {r : Option Nat × Option Nat} {a1 : Int32} {a2 : Int32} {σ : ab_F} {res : (Int32 × ab_F)} (h : f_X11_rises a1 a2 σ = some res) : ab_E mX11_rises 1 sc 0 [some (.ref 8), some (.int a1), some (.int a2)] [] (σ, r) (fun v S => v = some (.int res.1) ∧ S = (res.2, r)) := by
  unfold f_X11_rises at h
  refine z_iload_n (pc2 := 1) rfl dX11_rises_0 rfl ?_
  refine z_iconst (pc2 := 2) rfl dX11_rises_1 lt_i_5 ?_
  obtain ⟨q1, hq1, h⟩ := ab_bnd h
  refine z_callSi [.int a1, .int (5 : Int32)] [some (.int a1), some (.int (5 : Int32))] (pc2 := 5) rfl rfl dX11_rises_2 ok_X11_outside ⟨fun _ => rfl, fun _ => Nat.le_of_ble_eq_true rfl⟩ rfl wd_343 wd_344 rfl (e_X11_outside hq1) ?_
  refine z_if_ne (pc2 := 8) (tgt := 17) rfl dX11_rises_5 (by decide) (fun hc2 => ?_) (fun hc2 => ?_)
  · replace h := ab_neg hc2 h
    refine z_aload_n (pc2 := 18) rfl dX11_rises_17 rfl ?_
    refine z_iconst (pc2 := 19) rfl dX11_rises_18 lt_i_1 ?_
    obtain ⟨q3, hq3, h⟩ := ab_bnd h
    refine z_callVi 8 [.int (1 : Int32)] [some (.ref 8), some (.int (1 : Int32))] (pc2 := 22) rfl rfl dX11_rises_19 ok_X11_refuse ⟨fun _ => rfl, fun _ => Nat.le_of_ble_eq_true rfl⟩ rfl rv_8 wd_346 wd_348 wd_0 rfl (e_X11_refuse hq3) ?_
    exact z_iret dX11_rises_22 rfl rfl (fi_w h)
  · replace h := ab_pos hc2 h
    refine z_iload_n (pc2 := 9) rfl dX11_rises_8 rfl ?_
    refine z_bipush (pc2 := 11) rfl dX11_rises_9 lt_b_9 ?_
    obtain ⟨q4, hq4, h⟩ := ab_bnd h
    refine z_callSi [.int a2, .int (9 : Int32)] [some (.int a2), some (.int (9 : Int32))] (pc2 := 14) rfl rfl dX11_rises_11 ok_X11_outside ⟨fun _ => rfl, fun _ => Nat.le_of_ble_eq_true rfl⟩ rfl wd_343 wd_344 rfl (e_X11_outside hq4) ?_
    refine z_if_eq (pc2 := 17) (tgt := 23) rfl dX11_rises_14 (by decide) (fun hc5 => ?_) (fun hc5 => ?_)
    · replace h := ab_pos hc5 h
      refine z_aload_n (pc2 := 24) rfl dX11_rises_23 rfl ?_
      refine z_getR 8 11 0 38 (pc2 := 27) rfl dX11_rises_24 rfl rfl ff_11_0 wd_302 rfl ?_
      refine z_getR 38 9 10 43 (pc2 := 30) rfl dX11_rises_27 rfl rfl ff_9_10 wd_249 rfl ?_
      refine z_iload_n (pc2 := 31) rfl dX11_rises_30 rfl ?_
      refine z_iload_n (pc2 := 32) rfl dX11_rises_31 rfl ?_
      obtain ⟨q6, hq6, h⟩ := ab_bnd h
      refine z_callSi [.ref 43, .int a1, .int a2] [some (.ref 43), some (.int a1), some (.int a2), none] (pc2 := 35) rfl rfl dX11_rises_32 ok_X11_swap ⟨fun _ => rfl, fun _ => Nat.le_of_ble_eq_true rfl⟩ rfl wd_485 wd_486 rfl (e_X11_swap_43 hq6) ?_
      exact z_iret dX11_rises_35 rfl rfl (fi_w h)
    · replace h := ab_neg hc5 h
      refine z_aload_n (pc2 := 18) rfl dX11_rises_17 rfl ?_
      refine z_iconst (pc2 := 19) rfl dX11_rises_18 lt_i_1 ?_
      obtain ⟨q7, hq7, h⟩ := ab_bnd h
      refine z_callVi 8 [.int (1 : Int32)] [some (.ref 8), some (.int (1 : Int32))] (pc2 := 22) rfl rfl dX11_rises_19 ok_X11_refuse ⟨fun _ => rfl, fun _ => Nat.le_of_ble_eq_true rfl⟩ rfl rv_8 wd_346 wd_348 wd_0 rfl (e_X11_refuse hq7) ?_
      exact z_iret dX11_rises_22 rfl rfl (fi_w h)
def f_X11_springs (a1 : Int32) (σ : ab_F) : Option (Int32 × ab_F) := (f_X11_outside a1 (15 : Int32) σ).bind (fun q1 => (if (ab_b q1) = 0 then ab_lt ((σ 38 4)) (fun x3 => ab_lt (ab_u σ 38 4 a1) (fun (s4 : ab_F) => (some (x3, s4)))) else (f_X11_refuse (1 : Int32) σ).bind (fun q5 => (some (q5.1, q5.2)))))
set_option maxRecDepth 100000 in
set_option maxHeartbeats 4000000 in
theorem e_X11_springs {sc : Nat × (Nat → Int32)} {r : Option Nat × Option Nat} {a1 : Int32} {σ : ab_F} {res : (Int32 × ab_F)} (h : f_X11_springs a1 σ = some res) : ab_E mX11_springs 1 sc 0 [some (.ref 8), some (.int a1), none] [] (σ, r) (fun v S => v = some (.int res.1) ∧ S = (res.2, r)) := by
  unfold f_X11_springs at h
  refine z_iload_n (pc2 := 1) rfl dX11_springs_0 rfl ?_
  refine z_bipush (pc2 := 3) rfl dX11_springs_1 lt_b_15 ?_
  obtain ⟨q1, hq1, h⟩ := ab_bnd h
  refine z_callSi [.int a1, .int (15 : Int32)] [some (.int a1), some (.int (15 : Int32))] (pc2 := 6) rfl rfl dX11_springs_3 ok_X11_outside ⟨fun _ => rfl, fun _ => Nat.le_of_ble_eq_true rfl⟩ rfl wd_343 wd_344 rfl (e_X11_outside hq1) ?_
  refine z_if_eq (pc2 := 9) (tgt := 15) rfl dX11_springs_6 (by decide) (fun hc2 => ?_) (fun hc2 => ?_)
  · replace h := ab_pos hc2 h
    refine z_aload_n (pc2 := 16) rfl dX11_springs_15 rfl ?_
    refine z_getR 8 11 0 38 (pc2 := 19) rfl dX11_springs_16 rfl rfl ff_11_0 wd_302 rfl ?_
    refine z_getI 38 9 4 (pc2 := 22) rfl dX11_springs_19 rfl rfl ff_9_4 wd_238 ?_
    obtain ⟨x3, hxx3, h⟩ := ab_lt_e h
    refine z_top hxx3 ?_
    refine z_istore_n (pc2 := 23) (L2 := [some (.ref 8), some (.int a1), some (.int x3)]) rfl dX11_springs_22 (by decide) rfl rfl ?_
    refine z_aload_n (pc2 := 24) rfl dX11_springs_23 rfl ?_
    refine z_getR 8 11 0 38 (pc2 := 27) rfl dX11_springs_24 rfl rfl ff_11_0 wd_302 rfl ?_
    refine z_iload_n (pc2 := 28) rfl dX11_springs_27 rfl ?_
    refine z_putI 38 9 4 (pc2 := 31) (ft := .int) rfl dX11_springs_28 rfl rfl ff_9_4 wd_238 rfl (by decide +kernel) rfl rfl ?_
    obtain ⟨s4, hs4, h⟩ := ab_lt_e h
    refine z_tops hs4 ?_
    refine z_iload_n (pc2 := 32) rfl dX11_springs_31 rfl ?_
    exact z_iret dX11_springs_32 rfl rfl (fi_w h)
  · replace h := ab_neg hc2 h
    refine z_aload_n (pc2 := 10) rfl dX11_springs_9 rfl ?_
    refine z_iconst (pc2 := 11) rfl dX11_springs_10 lt_i_1 ?_
    obtain ⟨q5, hq5, h⟩ := ab_bnd h
    refine z_callVi 8 [.int (1 : Int32)] [some (.ref 8), some (.int (1 : Int32))] (pc2 := 14) rfl rfl dX11_springs_11 ok_X11_refuse ⟨fun _ => rfl, fun _ => Nat.le_of_ble_eq_true rfl⟩ rfl rv_8 wd_346 wd_348 wd_0 rfl (e_X11_refuse hq5) ?_
    exact z_iret dX11_springs_14 rfl rfl (fi_w h)
def f_X6_add_9 (a1 : Int32) (σ : ab_F) : Option ab_F := (if (60 : Int32) ≤ (σ 9 1) then (some σ) else ab_ck (ab_ib (σ 9 1) 60) (ab_lt (ab_u σ 10 ((σ 9 1)).toNatClampNeg a1) (fun (s3 : ab_F) => ab_lt (ab_u s3 9 1 ((s3 9 1) + (1 : Int32))) (fun (s4 : ab_F) => (some s4)))))
set_option maxRecDepth 100000 in
set_option maxHeartbeats 4000000 in
theorem e_X6_add_9 {sc : Nat × (Nat → Int32)} {r : Option Nat × Option Nat} {a1 : Int32} {σ : ab_F} {res : ab_F} (h : f_X6_add_9 a1 σ = some res) : ab_E mX6_add 0 sc 0 [some (.ref 9), some (.int a1)] [] (σ, r) (fun v S => v = none ∧ S = (res, r)) := by
  unfold f_X6_add_9 at h
  refine z_aload_n (pc2 := 1) rfl dX6_add_0 rfl ?_
  refine z_getI 9 6 1 (pc2 := 4) rfl dX6_add_1 rfl rfl ff_6_1 wd_100 ?_
  refine z_aload_n (pc2 := 5) rfl dX6_add_4 rfl ?_
  refine z_getR 9 6 0 10 (pc2 := 8) rfl dX6_add_5 rfl rfl ff_6_0 wd_97 rfl ?_
  refine z_alen 10 (pc2 := 9) (v := 60) rfl dX6_add_8 rfl rfl (by decide) ?_
  refine z_icmp_ge (pc2 := 12) (tgt := 32) rfl dX6_add_9 (by decide) (fun hc1 => ?_) (fun hc1 => ?_)
  · replace h := ab_pos hc1 h
    exact z_vret dX6_add_32 rfl (fv_w h)
  · replace h := ab_neg hc1 h
    refine z_aload_n (pc2 := 13) rfl dX6_add_12 rfl ?_
    refine z_getR 9 6 0 10 (pc2 := 16) rfl dX6_add_13 rfl rfl ff_6_0 wd_97 rfl ?_
    refine z_aload_n (pc2 := 17) rfl dX6_add_16 rfl ?_
    refine z_getI 9 6 1 (pc2 := 20) rfl dX6_add_17 rfl rfl ff_6_1 wd_100 ?_
    refine z_iload_n (pc2 := 21) rfl dX6_add_20 rfl ?_
    obtain ⟨hb2, h⟩ := ab_ck_e h
    refine z_iast 10 (pc2 := 22) (j := ((σ 9 1)).toNatClampNeg) rfl dX6_add_21 rfl rfl hb2 rfl ?_
    obtain ⟨s3, hs3, h⟩ := ab_lt_e h
    refine z_tops hs3 ?_
    refine z_aload_n (pc2 := 23) rfl dX6_add_22 rfl ?_
    refine z_dup (pc2 := 24) rfl dX6_add_23 rfl ?_
    refine z_getI 9 6 1 (pc2 := 27) rfl dX6_add_24 rfl rfl ff_6_1 wd_100 ?_
    refine z_iconst (pc2 := 28) rfl dX6_add_27 lt_i_1 ?_
    refine z_iadd (pc2 := 29) rfl dX6_add_28 ?_
    refine z_putI 9 6 1 (pc2 := 32) (ft := .int) rfl dX6_add_29 rfl rfl ff_6_1 wd_100 rfl (by decide +kernel) rfl rfl ?_
    obtain ⟨s4, hs4, h⟩ := ab_lt_e h
    refine z_tops hs4 ?_
    exact z_vret dX6_add_32 rfl (fv_w h)
def f_X11_feed_L40 (p1 : Int64) (p3 : Int32) (K : ab_F → Option (Int32 × ab_F)) : Nat → Int32 → ab_F → Option (Int32 × ab_F)
  | 0, _, _ => none
  | n + 1, u4, σ => (if p3 ≤ u4 then (K σ) else (f_X6_add_9 ((((p1).toUInt64 >>> ((((8 : Int32) * u4)).toInt64.toUInt64 &&& Int64.toUInt64 63)).toInt64).toInt32 &&& (255 : Int32)) σ).bind (fun q6 => ab_lt (u4 + (1 : Int32)) (fun x7 => (f_X11_feed_L40 p1 p3 K n x7 q6))))
set_option maxRecDepth 100000 in
set_option maxHeartbeats 4000000 in
theorem e_X11_feed_L40 {sc : Nat × (Nat → Int32)} {r : Option Nat × Option Nat} {p1 : Int64} {p3 : Int32} {K : ab_F → Option (Int32 × ab_F)} {res : (Int32 × ab_F)} (hK : ∀ (σ : ab_F), K σ = some res → ab_E mX11_feed 1 sc 71 [some (.ref 8), none, none, none, none] [] (σ, r) (fun v S => v = some (.int res.1) ∧ S = (res.2, r))) : ∀ (n : Nat) (u4 : Int32) (σ : ab_F), f_X11_feed_L40 p1 p3 K n u4 σ = some res → ab_E mX11_feed 1 sc 40 [some (.ref 8), some (.long p1), none, some (.int p3), some (.int u4)] [] (σ, r) (fun v S => v = some (.int res.1) ∧ S = (res.2, r)) := by
  intro n
  induction n with
  | zero =>
    intro u4 σ h
    rw [f_X11_feed_L40] at h
    cases h
  | succ n ih =>
    intro u4 σ h
    rw [f_X11_feed_L40] at h
    refine z_iload (pc2 := 42) rfl dX11_feed_40 rfl ?_
    refine z_iload_n (pc2 := 43) rfl dX11_feed_42 rfl ?_
    refine z_icmp_ge (pc2 := 46) (tgt := 71) rfl dX11_feed_43 (by decide) (fun hc5 => ?_) (fun hc5 => ?_)
    · replace h := ab_pos hc5 h
      refine z_fgt [true, false, false, false, false] (L2 := [some (.ref 8), none, none, none, none]) rfl ?_
      exact hK  _ h
    · replace h := ab_neg hc5 h
      refine z_aload_n (pc2 := 47) rfl dX11_feed_46 rfl ?_
      refine z_getR 8 11 3 9 (pc2 := 50) rfl dX11_feed_47 rfl rfl ff_11_3 wd_305 rfl ?_
      refine z_lload_n (pc2 := 51) rfl dX11_feed_50 rfl ?_
      refine z_bipush (pc2 := 53) rfl dX11_feed_51 lt_b_8 ?_
      refine z_iload (pc2 := 55) rfl dX11_feed_53 rfl ?_
      refine z_imul (pc2 := 56) rfl dX11_feed_55 ?_
      refine z_lushr (pc2 := 57) rfl dX11_feed_56 ?_
      refine z_l2i (pc2 := 58) rfl dX11_feed_57 ?_
      refine z_sipush (pc2 := 61) rfl dX11_feed_58 lt_s_255 ?_
      refine z_iand (pc2 := 62) rfl dX11_feed_61 ?_
      obtain ⟨q6, hq6, h⟩ := ab_bnd h
      refine z_callVv 9 [.int ((((p1).toUInt64 >>> ((((8 : Int32) * u4)).toInt64.toUInt64 &&& Int64.toUInt64 63)).toInt64).toInt32 &&& (255 : Int32))] [some (.ref 9), some (.int ((((p1).toUInt64 >>> ((((8 : Int32) * u4)).toInt64.toUInt64 &&& Int64.toUInt64 63)).toInt64).toInt32 &&& (255 : Int32)))] (pc2 := 65) rfl rfl dX11_feed_62 ok_X6_add ⟨fun _ => rfl, fun _ => Nat.le_of_ble_eq_true rfl⟩ rfl rv_9 wd_522 wd_523 wd_524 rfl (e_X6_add_9 hq6) ?_
      obtain ⟨x7, hxx7, h⟩ := ab_lt_e h
      refine z_iinc (pc2 := 68) (v := x7) (L2 := [some (.ref 8), some (.long p1), none, some (.int p3), some (.int x7)]) rfl dX11_feed_65 rfl (by rw [hxx7]; rfl) (by decide) rfl rfl ?_
      refine ab_goto (tgt := 40) dX11_feed_68 (by decide) ?_
      refine z_fgt [true, true, false, true, true] (L2 := [some (.ref 8), some (.long p1), none, some (.int p3), some (.int x7)]) rfl ?_
      exact ih _ _ h
def f_X11_feed (a1 : Int64) (a2 : Int32) (σ : ab_F) : Option (Int32 × ab_F) := (if a2 < (1 : Int32) then (f_X11_refuse (1 : Int32) σ).bind (fun q2 => (some (q2.1, q2.2))) else (if a2 ≤ (8 : Int32) then (if ((σ 9 1) + a2) ≤ (60 : Int32) then (f_X11_feed_L40 a1 a2 (fun (s8 : ab_F) => (some ((s8 9 1), s8))) ab_fu (0 : Int32) σ) else (f_X11_refuse (4 : Int32) σ).bind (fun q9 => (some (q9.1, q9.2)))) else (f_X11_refuse (1 : Int32) σ).bind (fun q10 => (some (q10.1, q10.2)))))
set_option maxRecDepth 100000 in
set_option maxHeartbeats 4000000 in
theorem e_X11_feed {sc : Nat × (Nat → Int32)} {r : Option Nat × Option Nat} {a1 : Int64} {a2 : Int32} {σ : ab_F} {res : (Int32 × ab_F)} (h : f_X11_feed a1 a2 σ = some res) : ab_E mX11_feed 1 sc 0 [some (.ref 8), some (.long a1), none, some (.int a2), none] [] (σ, r) (fun v S => v = some (.int res.1) ∧ S = (res.2, r)) := by
  unfold f_X11_feed at h
  refine z_iload_n (pc2 := 1) rfl dX11_feed_0 rfl ?_
  refine z_iconst (pc2 := 2) rfl dX11_feed_1 lt_i_1 ?_
  refine z_icmp_lt (pc2 := 5) (tgt := 11) rfl dX11_feed_2 (by decide) (fun hc1 => ?_) (fun hc1 => ?_)
  · replace h := ab_pos hc1 h
    refine z_aload_n (pc2 := 12) rfl dX11_feed_11 rfl ?_
    refine z_iconst (pc2 := 13) rfl dX11_feed_12 lt_i_1 ?_
    obtain ⟨q2, hq2, h⟩ := ab_bnd h
    refine z_callVi 8 [.int (1 : Int32)] [some (.ref 8), some (.int (1 : Int32))] (pc2 := 16) rfl rfl dX11_feed_13 ok_X11_refuse ⟨fun _ => rfl, fun _ => Nat.le_of_ble_eq_true rfl⟩ rfl rv_8 wd_346 wd_348 wd_0 rfl (e_X11_refuse hq2) ?_
    exact z_iret dX11_feed_16 rfl rfl (fi_w h)
  · replace h := ab_neg hc1 h
    refine z_iload_n (pc2 := 6) rfl dX11_feed_5 rfl ?_
    refine z_bipush (pc2 := 8) rfl dX11_feed_6 lt_b_8 ?_
    refine z_icmp_le (pc2 := 11) (tgt := 17) rfl dX11_feed_8 (by decide) (fun hc3 => ?_) (fun hc3 => ?_)
    · replace h := ab_pos hc3 h
      refine z_aload_n (pc2 := 18) rfl dX11_feed_17 rfl ?_
      refine z_getR 8 11 3 9 (pc2 := 21) rfl dX11_feed_18 rfl rfl ff_11_3 wd_305 rfl ?_
      refine z_getI 9 6 1 (pc2 := 24) rfl dX11_feed_21 rfl rfl ff_6_1 wd_102 ?_
      refine z_iload_n (pc2 := 25) rfl dX11_feed_24 rfl ?_
      refine z_iadd (pc2 := 26) rfl dX11_feed_25 ?_
      refine z_bipush (pc2 := 28) rfl dX11_feed_26 lt_b_60 ?_
      refine z_icmp_le (pc2 := 31) (tgt := 37) rfl dX11_feed_28 (by decide) (fun hc4 => ?_) (fun hc4 => ?_)
      · replace h := ab_pos hc4 h
        refine z_iconst (pc2 := 38) rfl dX11_feed_37 lt_i_0 ?_
        refine z_istore (pc2 := 40) (L2 := [some (.ref 8), some (.long a1), none, some (.int a2), some (.int (0 : Int32))]) rfl dX11_feed_38 (by decide) rfl rfl ?_
        refine z_fgt [true, true, false, true, true] (L2 := [some (.ref 8), some (.long a1), none, some (.int a2), some (.int (0 : Int32))]) rfl ?_
        refine e_X11_feed_L40 (fun s8 h => ?_) _ _ _ h
        refine z_aload_n (pc2 := 72) rfl dX11_feed_71 rfl ?_
        refine z_getR 8 11 3 9 (pc2 := 75) rfl dX11_feed_72 rfl rfl ff_11_3 wd_305 rfl ?_
        refine z_getI 9 6 1 (pc2 := 78) rfl dX11_feed_75 rfl rfl ff_6_1 wd_102 ?_
        exact z_iret dX11_feed_78 rfl rfl (fi_w h)
      · replace h := ab_neg hc4 h
        refine z_aload_n (pc2 := 32) rfl dX11_feed_31 rfl ?_
        refine z_iconst (pc2 := 33) rfl dX11_feed_32 lt_i_4 ?_
        obtain ⟨q9, hq9, h⟩ := ab_bnd h
        refine z_callVi 8 [.int (4 : Int32)] [some (.ref 8), some (.int (4 : Int32))] (pc2 := 36) rfl rfl dX11_feed_33 ok_X11_refuse ⟨fun _ => rfl, fun _ => Nat.le_of_ble_eq_true rfl⟩ rfl rv_8 wd_346 wd_348 wd_0 rfl (e_X11_refuse hq9) ?_
        exact z_iret dX11_feed_36 rfl rfl (fi_w h)
    · replace h := ab_neg hc3 h
      refine z_aload_n (pc2 := 12) rfl dX11_feed_11 rfl ?_
      refine z_iconst (pc2 := 13) rfl dX11_feed_12 lt_i_1 ?_
      obtain ⟨q10, hq10, h⟩ := ab_bnd h
      refine z_callVi 8 [.int (1 : Int32)] [some (.ref 8), some (.int (1 : Int32))] (pc2 := 16) rfl rfl dX11_feed_13 ok_X11_refuse ⟨fun _ => rfl, fun _ => Nat.le_of_ble_eq_true rfl⟩ rfl rv_8 wd_346 wd_348 wd_0 rfl (e_X11_refuse hq10) ?_
      exact z_iret dX11_feed_16 rfl rfl (fi_w h)
def f_X7_next (nm : Nat) (σ : ab_F) : Option Int32 := (if (σ 9 1) ≤ (σ 17 5) then (some (-1 : Int32)) else ab_ck (ab_ib (σ 17 5) 60) ((some (σ 10 ((σ 17 5)).toNatClampNeg))))
set_option maxRecDepth 100000 in
set_option maxHeartbeats 4000000 in
theorem e_X7_next_5 {sc : Nat × (Nat → Int32)} {σ : ab_F} {res : Int32} (h : f_X7_next 5 σ = some res) : ab_E mX7_next 0 sc 0 [some (.ref 17)] [] (σ, (some 9, some 5)) (fun v S => v = some (.int res) ∧ S = (σ, (some 9, some 5))) := by
  unfold f_X7_next at h
  refine z_aload_n (pc2 := 1) rfl dX7_next_0 rfl ?_
  refine z_getI 17 7 5 (pc2 := 4) rfl dX7_next_1 rfl rfl ff_7_5 wd_126 ?_
  refine z_aload_n (pc2 := 5) rfl dX7_next_4 rfl ?_
  refine z_getR 17 7 3 9 (pc2 := 8) rfl dX7_next_5 rfl rfl ff_7_3 wd_124 rfl ?_
  refine z_getI 9 6 1 (pc2 := 11) rfl dX7_next_8 rfl rfl ff_6_1 wd_101 ?_
  refine z_icmp_ge (pc2 := 14) (tgt := 29) rfl dX7_next_11 (by decide) (fun hc1 => ?_) (fun hc1 => ?_)
  · replace h := ab_pos hc1 h
    refine z_iconst (pc2 := 30) rfl dX7_next_29 lt_i_m1 ?_
    exact z_iret dX7_next_30 rfl rfl (fi_p h)
  · replace h := ab_neg hc1 h
    refine z_aload_n (pc2 := 15) rfl dX7_next_14 rfl ?_
    refine z_getR 17 7 3 9 (pc2 := 18) rfl dX7_next_15 rfl rfl ff_7_3 wd_124 rfl ?_
    refine z_getR 9 6 0 10 (pc2 := 21) rfl dX7_next_18 rfl rfl ff_6_0 wd_98 rfl ?_
    refine z_aload_n (pc2 := 22) rfl dX7_next_21 rfl ?_
    refine z_getI 17 7 5 (pc2 := 25) rfl dX7_next_22 rfl rfl ff_7_5 wd_126 ?_
    obtain ⟨hb2, h⟩ := ab_ck_e h
    refine z_iald 10 (pc2 := 26) (j := ((σ 17 5)).toNatClampNeg) rfl dX7_next_25 rfl rfl hb2 rfl ?_
    refine ab_goto (tgt := 30) dX7_next_26 (by decide) ?_
    exact z_iret dX7_next_30 rfl rfl (fi_p h)
def f_X7_levelOf (a0 : Int32) (σ : ab_F) : Option Int32 := (if a0 = (37 : Int32) then (some (4 : Int32)) else if a0 = (38 : Int32) then (some (1 : Int32)) else if a0 = (42 : Int32) then (some (4 : Int32)) else if a0 = (43 : Int32) then (some (3 : Int32)) else if a0 = (45 : Int32) then (some (3 : Int32)) else if a0 = (47 : Int32) then (some (4 : Int32)) else if a0 = (60 : Int32) then (some (2 : Int32)) else if a0 = (61 : Int32) then (some (2 : Int32)) else if a0 = (62 : Int32) then (some (2 : Int32)) else if a0 = (124 : Int32) then (some (0 : Int32)) else (some (-1 : Int32)))
set_option maxRecDepth 100000 in
set_option maxHeartbeats 4000000 in
theorem e_X7_levelOf {sc : Nat × (Nat → Int32)} {r : Option Nat × Option Nat} {a0 : Int32} {σ : ab_F} {res : Int32} (h : f_X7_levelOf a0 σ = some res) : ab_E mX7_levelOf 0 sc 0 [some (.int a0)] [] (σ, r) (fun v S => v = some (.int res) ∧ S = (σ, r)) := by
  unfold f_X7_levelOf at h
  refine z_iload_n (pc2 := 1) rfl dX7_levelOf_0 rfl ?_
  by_cases hc1 : a0 = (37 : Int32)
  · replace h := ab_pos hc1 h
    refine ab_ls (off := 99) (tgt := 100) dX7_levelOf_1 (by decide) (by rw [hc1]; decide) (by decide) ?_
    refine z_iconst (pc2 := 101) rfl dX7_levelOf_100 lt_i_4 ?_
    exact z_iret dX7_levelOf_101 rfl rfl (fi_p h)
  · replace h := ab_neg hc1 h
    by_cases hc2 : a0 = (38 : Int32)
    · replace h := ab_pos hc2 h
      refine ab_ls (off := 93) (tgt := 94) dX7_levelOf_1 (by decide) (by rw [hc2]; decide) (by decide) ?_
      refine z_iconst (pc2 := 95) rfl dX7_levelOf_94 lt_i_1 ?_
      exact z_iret dX7_levelOf_95 rfl rfl (fi_p h)
    · replace h := ab_neg hc2 h
      by_cases hc3 : a0 = (42 : Int32)
      · replace h := ab_pos hc3 h
        refine ab_ls (off := 99) (tgt := 100) dX7_levelOf_1 (by decide) (by rw [hc3]; decide) (by decide) ?_
        refine z_iconst (pc2 := 101) rfl dX7_levelOf_100 lt_i_4 ?_
        exact z_iret dX7_levelOf_101 rfl rfl (fi_p h)
      · replace h := ab_neg hc3 h
        by_cases hc4 : a0 = (43 : Int32)
        · replace h := ab_pos hc4 h
          refine ab_ls (off := 97) (tgt := 98) dX7_levelOf_1 (by decide) (by rw [hc4]; decide) (by decide) ?_
          refine z_iconst (pc2 := 99) rfl dX7_levelOf_98 lt_i_3 ?_
          exact z_iret dX7_levelOf_99 rfl rfl (fi_p h)
        · replace h := ab_neg hc4 h
          by_cases hc5 : a0 = (45 : Int32)
          · replace h := ab_pos hc5 h
            refine ab_ls (off := 97) (tgt := 98) dX7_levelOf_1 (by decide) (by rw [hc5]; decide) (by decide) ?_
            refine z_iconst (pc2 := 99) rfl dX7_levelOf_98 lt_i_3 ?_
            exact z_iret dX7_levelOf_99 rfl rfl (fi_p h)
          · replace h := ab_neg hc5 h
            by_cases hc6 : a0 = (47 : Int32)
            · replace h := ab_pos hc6 h
              refine ab_ls (off := 99) (tgt := 100) dX7_levelOf_1 (by decide) (by rw [hc6]; decide) (by decide) ?_
              refine z_iconst (pc2 := 101) rfl dX7_levelOf_100 lt_i_4 ?_
              exact z_iret dX7_levelOf_101 rfl rfl (fi_p h)
            · replace h := ab_neg hc6 h
              by_cases hc7 : a0 = (60 : Int32)
              · replace h := ab_pos hc7 h
                refine ab_ls (off := 95) (tgt := 96) dX7_levelOf_1 (by decide) (by rw [hc7]; decide) (by decide) ?_
                refine z_iconst (pc2 := 97) rfl dX7_levelOf_96 lt_i_2 ?_
                exact z_iret dX7_levelOf_97 rfl rfl (fi_p h)
              · replace h := ab_neg hc7 h
                by_cases hc8 : a0 = (61 : Int32)
                · replace h := ab_pos hc8 h
                  refine ab_ls (off := 95) (tgt := 96) dX7_levelOf_1 (by decide) (by rw [hc8]; decide) (by decide) ?_
                  refine z_iconst (pc2 := 97) rfl dX7_levelOf_96 lt_i_2 ?_
                  exact z_iret dX7_levelOf_97 rfl rfl (fi_p h)
                · replace h := ab_neg hc8 h
                  by_cases hc9 : a0 = (62 : Int32)
                  · replace h := ab_pos hc9 h
                    refine ab_ls (off := 95) (tgt := 96) dX7_levelOf_1 (by decide) (by rw [hc9]; decide) (by decide) ?_
                    refine z_iconst (pc2 := 97) rfl dX7_levelOf_96 lt_i_2 ?_
                    exact z_iret dX7_levelOf_97 rfl rfl (fi_p h)
                  · replace h := ab_neg hc9 h
                    by_cases hc10 : a0 = (124 : Int32)
                    · replace h := ab_pos hc10 h
                      refine ab_ls (off := 91) (tgt := 92) dX7_levelOf_1 (by decide) (by rw [hc10]; decide) (by decide) ?_
                      refine z_iconst (pc2 := 93) rfl dX7_levelOf_92 lt_i_0 ?_
                      exact z_iret dX7_levelOf_93 rfl rfl (fi_p h)
                    · replace h := ab_neg hc10 h
                      refine ab_ls (off := 101) (tgt := 102) dX7_levelOf_1 (by decide) (by show Op.lookupswitch.offset [(37, 99), (38, 93), (42, 99), (43, 97), (45, 97), (47, 99), (60, 95), (61, 95), (62, 95), (124, 91)] 101 _ = _; rw [lv_osw hc1 (by decide)]; rw [lv_osw hc2 (by decide)]; rw [lv_osw hc3 (by decide)]; rw [lv_osw hc4 (by decide)]; rw [lv_osw hc5 (by decide)]; rw [lv_osw hc6 (by decide)]; rw [lv_osw hc7 (by decide)]; rw [lv_osw hc8 (by decide)]; rw [lv_osw hc9 (by decide)]; rw [lv_osw hc10 (by decide)]; rfl) (by decide) ?_
                      refine z_iconst (pc2 := 103) rfl dX7_levelOf_102 lt_i_m1 ?_
                      exact z_iret dX7_levelOf_103 rfl rfl (fi_p h)
def f_X7_step (nm : Nat) (a1 : Int32) (σ : ab_F) : Option ab_F := (if (60 : Int32) ≤ (σ 17 0) then (some σ) else ab_ck (ab_ib (σ 17 0) 60) (ab_lt (ab_u σ 18 ((σ 17 0)).toNatClampNeg a1) (fun (s3 : ab_F) => ab_lt (ab_u s3 17 0 ((s3 17 0) + (1 : Int32))) (fun (s4 : ab_F) => (some s4)))))
set_option maxRecDepth 100000 in
set_option maxHeartbeats 4000000 in
theorem e_X7_step_5 {sc : Nat × (Nat → Int32)} {a1 : Int32} {σ : ab_F} {res : ab_F} (h : f_X7_step 5 a1 σ = some res) : ab_E mX7_step 0 sc 0 [some (.ref 17), some (.int a1)] [] (σ, (some 9, some 5)) (fun v S => v = none ∧ S = (res, (some 9, some 5))) := by
  unfold f_X7_step at h
  refine z_aload_n (pc2 := 1) rfl dX7_step_0 rfl ?_
  refine z_getI 17 7 0 (pc2 := 4) rfl dX7_step_1 rfl rfl ff_7_0 wd_119 ?_
  refine z_bipush (pc2 := 6) rfl dX7_step_4 lt_b_60 ?_
  refine z_icmp_ge (pc2 := 9) (tgt := 29) rfl dX7_step_6 (by decide) (fun hc1 => ?_) (fun hc1 => ?_)
  · replace h := ab_pos hc1 h
    exact z_vret dX7_step_29 rfl (fv_w h)
  · replace h := ab_neg hc1 h
    refine z_aload_n (pc2 := 10) rfl dX7_step_9 rfl ?_
    refine z_getR 17 7 1 18 (pc2 := 13) rfl dX7_step_10 rfl rfl ff_7_1 wd_122 rfl ?_
    refine z_aload_n (pc2 := 14) rfl dX7_step_13 rfl ?_
    refine z_getI 17 7 0 (pc2 := 17) rfl dX7_step_14 rfl rfl ff_7_0 wd_119 ?_
    refine z_iload_n (pc2 := 18) rfl dX7_step_17 rfl ?_
    obtain ⟨hb2, h⟩ := ab_ck_e h
    refine z_iast 18 (pc2 := 19) (j := ((σ 17 0)).toNatClampNeg) rfl dX7_step_18 rfl rfl hb2 rfl ?_
    obtain ⟨s3, hs3, h⟩ := ab_lt_e h
    refine z_tops hs3 ?_
    refine z_aload_n (pc2 := 20) rfl dX7_step_19 rfl ?_
    refine z_dup (pc2 := 21) rfl dX7_step_20 rfl ?_
    refine z_getI 17 7 0 (pc2 := 24) rfl dX7_step_21 rfl rfl ff_7_0 wd_119 ?_
    refine z_iconst (pc2 := 25) rfl dX7_step_24 lt_i_1 ?_
    refine z_iadd (pc2 := 26) rfl dX7_step_25 ?_
    refine z_putI 17 7 0 (pc2 := 29) (ft := .int) rfl dX7_step_26 rfl rfl ff_7_0 wd_119 rfl (by decide +kernel) rfl rfl ?_
    obtain ⟨s4, hs4, h⟩ := ab_lt_e h
    refine z_tops hs4 ?_
    exact z_vret dX7_step_29 rfl (fv_w h)
def f_J0_isLatin1_aae02 (nm : Nat) (σ : ab_F) : Option Bool := (some true)
set_option maxRecDepth 100000 in
set_option maxHeartbeats 4000000 in
theorem e_J0_isLatin1_aae02_5 {sc : Nat × (Nat → Int32)} {r : Option Nat × Option Nat} {σ : ab_F} {res : Bool} (h : f_J0_isLatin1_aae02 5 σ = some res) : ab_E mJ0_isLatin1_aae02 0 sc 0 [some (.ref 5)] [] (σ, r) (fun v S => v = some (.int (ab_b res)) ∧ S = (σ, r)) := by
  unfold f_J0_isLatin1_aae02 at h
  refine z_getsC (pc2 := 3) rfl dJ0_isLatin1_aae02_0 wd_568 ?_
  refine z_if_eq (pc2 := 6) (tgt := 17) rfl dJ0_isLatin1_aae02_3 (by decide) (fun hc => ?_) (fun hc => ?_)
  · exact absurd hc (by decide)
  · refine z_aload_n (pc2 := 7) rfl dJ0_isLatin1_aae02_6 rfl ?_
    refine z_strC (171, "tgd", 5, 7, 3) (pc2 := 10) rfl dJ0_isLatin1_aae02_7 (by decide) wd_1436 ?_
    refine z_if_ne (pc2 := 13) (tgt := 17) rfl dJ0_isLatin1_aae02_10 (by decide) (fun hc => ?_) (fun hc => ?_)
    · exact absurd hc (by decide)
    · refine z_iconst (pc2 := 14) rfl dJ0_isLatin1_aae02_13 lt_i_1 ?_
      refine ab_goto (tgt := 18) dJ0_isLatin1_aae02_14 (by decide) ?_
      exact z_iret dJ0_isLatin1_aae02_18 rfl rfl (fz_p rfl h)
def f_J0_coder_7d493 (nm : Nat) (σ : ab_F) : Option Int32 := (some (0 : Int32))
set_option maxRecDepth 100000 in
set_option maxHeartbeats 4000000 in
theorem e_J0_coder_7d493_5 {sc : Nat × (Nat → Int32)} {r : Option Nat × Option Nat} {σ : ab_F} {res : Int32} (h : f_J0_coder_7d493 5 σ = some res) : ab_E mJ0_coder_7d493 0 sc 0 [some (.ref 5)] [] (σ, r) (fun v S => v = some (.int res) ∧ S = (σ, r)) := by
  unfold f_J0_coder_7d493 at h
  refine z_getsC (pc2 := 3) rfl dJ0_coder_7d493_0 wd_568 ?_
  refine z_if_eq (pc2 := 6) (tgt := 13) rfl dJ0_coder_7d493_3 (by decide) (fun hc => ?_) (fun hc => ?_)
  · exact absurd hc (by decide)
  · refine z_aload_n (pc2 := 7) rfl dJ0_coder_7d493_6 rfl ?_
    refine z_strC (171, "tgd", 5, 7, 3) (pc2 := 10) rfl dJ0_coder_7d493_7 (by decide) wd_1436 ?_
    refine ab_goto (tgt := 14) dJ0_coder_7d493_10 (by decide) ?_
    exact z_iret dJ0_coder_7d493_14 rfl rfl (fi_p h)
def f_J0_length_8abf5 (nm : Nat) (σ : ab_F) : Option Int32 := (f_J0_coder_7d493 nm σ).bind (fun q1 => (some ((3 : Int32) >>> (q1 &&& 31))))
set_option maxRecDepth 100000 in
set_option maxHeartbeats 4000000 in
theorem e_J0_length_8abf5_5 {sc : Nat × (Nat → Int32)} {r : Option Nat × Option Nat} {σ : ab_F} {res : Int32} (h : f_J0_length_8abf5 5 σ = some res) : ab_E mJ0_length_8abf5 1 sc 0 [some (.ref 5)] [] (σ, r) (fun v S => v = some (.int res) ∧ S = (σ, r)) := by
  unfold f_J0_length_8abf5 at h
  refine z_aload_n (pc2 := 1) rfl dJ0_length_8abf5_0 rfl ?_
  refine z_strV (171, "tgd", 5, 7, 3) (pc2 := 4) rfl dJ0_length_8abf5_1 (by decide) wd_1437 ?_
  refine z_balen (171, "tgd", 5, 7, 3) (pc2 := 5) (v := 3) rfl dJ0_length_8abf5_4 (by decide) (by decide) ?_
  refine z_aload_n (pc2 := 6) rfl dJ0_length_8abf5_5 rfl ?_
  obtain ⟨q1, hq1, h⟩ := ab_bnd h
  refine z_callVi 5 [] [some (.ref 5)] (pc2 := 9) rfl rfl dJ0_length_8abf5_6 ok_J0_coder_7d493 ⟨fun _ => rfl, fun _ => Nat.le_of_ble_eq_true rfl⟩ rfl rv_5 wd_574 wd_575 wd_576 rfl (e_J0_coder_7d493_5 hq1) ?_
  refine z_ishr (pc2 := 10) rfl dJ0_length_8abf5_9 ?_
  exact z_iret dJ0_length_8abf5_10 rfl rfl (fi_p h)
def f_J1_canEncode_9a6ad (a0 : Int32) (σ : ab_F) : Option Bool := (if a0 < 0 then (some false) else (if (255 : Int32) < a0 then (some false) else (some true)))
set_option maxRecDepth 100000 in
set_option maxHeartbeats 4000000 in
theorem e_J1_canEncode_9a6ad {sc : Nat × (Nat → Int32)} {r : Option Nat × Option Nat} {a0 : Int32} {σ : ab_F} {res : Bool} (h : f_J1_canEncode_9a6ad a0 σ = some res) : ab_E mJ1_canEncode_9a6ad 0 sc 0 [some (.int a0)] [] (σ, r) (fun v S => v = some (.int (ab_b res)) ∧ S = (σ, r)) := by
  unfold f_J1_canEncode_9a6ad at h
  refine z_iload_n (pc2 := 1) rfl dJ1_canEncode_9a6ad_0 rfl ?_
  refine z_if_lt (pc2 := 4) (tgt := 15) rfl dJ1_canEncode_9a6ad_1 (by decide) (fun hc1 => ?_) (fun hc1 => ?_)
  · replace h := ab_pos hc1 h
    refine z_iconst (pc2 := 16) rfl dJ1_canEncode_9a6ad_15 lt_i_0 ?_
    exact z_iret dJ1_canEncode_9a6ad_16 rfl rfl (fz_p rfl h)
  · replace h := ab_neg hc1 h
    refine z_iload_n (pc2 := 5) rfl dJ1_canEncode_9a6ad_4 rfl ?_
    refine z_sipush (pc2 := 8) rfl dJ1_canEncode_9a6ad_5 lt_s_255 ?_
    refine z_icmp_gt (pc2 := 11) (tgt := 15) rfl dJ1_canEncode_9a6ad_8 (by decide) (fun hc2 => ?_) (fun hc2 => ?_)
    · replace h := ab_pos hc2 h
      refine z_iconst (pc2 := 16) rfl dJ1_canEncode_9a6ad_15 lt_i_0 ?_
      exact z_iret dJ1_canEncode_9a6ad_16 rfl rfl (fz_p rfl h)
    · replace h := ab_neg hc2 h
      refine z_iconst (pc2 := 12) rfl dJ1_canEncode_9a6ad_11 lt_i_1 ?_
      refine ab_goto (tgt := 16) dJ1_canEncode_9a6ad_12 (by decide) ?_
      exact z_iret dJ1_canEncode_9a6ad_16 rfl rfl (fz_p rfl h)
def f_J1_indexOfChar_4cfef_L7 (nb : Nat) (p3 : Int32) (p4 : Int32) (σ : ab_F) (K : Option Int32) : Nat → Int32 → Option Int32
  | 0, _ => none
  | n + 1, u5 => (if p3 ≤ u5 then (K) else ab_ck (ab_ib u5 3) ((if (ab_tab nb (u5).toNatClampNeg) = p4 then (some u5) else ab_lt (u5 + (1 : Int32)) (fun x5 => (f_J1_indexOfChar_4cfef_L7 nb p3 p4 σ K n x5)))))
set_option maxRecDepth 100000 in
set_option maxHeartbeats 4000000 in
theorem e_J1_indexOfChar_4cfef_7_L7 {sc : Nat × (Nat → Int32)} {r : Option Nat × Option Nat} {p3 : Int32} {p4 : Int32} {σ : ab_F} {K : Option Int32} {res : Int32} (hK : K = some res → ab_E mJ1_indexOfChar_4cfef 0 sc 31 [none, none, none, none, none, none] [] (σ, r) (fun v S => v = some (.int res) ∧ S = (σ, r))) : ∀ (n : Nat) (u5 : Int32), f_J1_indexOfChar_4cfef_L7 7 p3 p4 σ K n u5 = some res → ab_E mJ1_indexOfChar_4cfef 0 sc 7 [some (.ref 7), none, none, some (.int p3), some (.int p4), some (.int u5)] [] (σ, r) (fun v S => v = some (.int res) ∧ S = (σ, r)) := by
  intro n
  induction n with
  | zero =>
    intro u5 h
    rw [f_J1_indexOfChar_4cfef_L7] at h
    cases h
  | succ n ih =>
    intro u5 h
    rw [f_J1_indexOfChar_4cfef_L7] at h
    refine z_iload (pc2 := 9) rfl dJ1_indexOfChar_4cfef_7 rfl ?_
    refine z_iload_n (pc2 := 10) rfl dJ1_indexOfChar_4cfef_9 rfl ?_
    refine z_icmp_ge (pc2 := 13) (tgt := 31) rfl dJ1_indexOfChar_4cfef_10 (by decide) (fun hc2 => ?_) (fun hc2 => ?_)
    · replace h := ab_pos hc2 h
      refine z_fgt [false, false, false, false, false, false] (L2 := [none, none, none, none, none, none]) rfl ?_
      exact hK  h
    · replace h := ab_neg hc2 h
      refine z_aload_n (pc2 := 14) rfl dJ1_indexOfChar_4cfef_13 rfl ?_
      refine z_iload (pc2 := 16) rfl dJ1_indexOfChar_4cfef_14 rfl ?_
      obtain ⟨hb3, h⟩ := ab_ck_e h
      refine z_bald (171, "tgd", 5, 7, 3) (pc2 := 17) rfl dJ1_indexOfChar_4cfef_16 (by decide) hb3 ?_
      refine z_iload (pc2 := 19) rfl dJ1_indexOfChar_4cfef_17 rfl ?_
      refine z_icmp_ne (pc2 := 22) (tgt := 25) rfl dJ1_indexOfChar_4cfef_19 (by decide) (fun hc4 => ?_) (fun hc4 => ?_)
      · replace h := ab_neg hc4 h
        obtain ⟨x5, hxx5, h⟩ := ab_lt_e h
        refine z_iinc (pc2 := 28) (v := x5) (L2 := [some (.ref 7), none, none, some (.int p3), some (.int p4), some (.int x5)]) rfl dJ1_indexOfChar_4cfef_25 rfl (by rw [hxx5]; rfl) (by decide) rfl rfl ?_
        refine ab_goto (tgt := 7) dJ1_indexOfChar_4cfef_28 (by decide) ?_
        refine z_fgt [true, false, false, true, true, true] (L2 := [some (.ref 7), none, none, some (.int p3), some (.int p4), some (.int x5)]) rfl ?_
        exact ih _ h
      · replace h := ab_pos hc4 h
        refine z_iload (pc2 := 24) rfl dJ1_indexOfChar_4cfef_22 rfl ?_
        exact z_iret dJ1_indexOfChar_4cfef_24 rfl rfl (fi_p h)
def f_J1_indexOfChar_4cfef (nb : Nat) (a1 : Int32) (a2 : Int32) (a3 : Int32) (σ : ab_F) : Option Int32 := ab_lt ((a1).toInt8.toInt32) (fun x1 => (f_J1_indexOfChar_4cfef_L7 nb a3 x1 σ ((some (-1 : Int32))) ab_fu a2))
set_option maxRecDepth 100000 in
set_option maxHeartbeats 4000000 in
theorem e_J1_indexOfChar_4cfef_7 {sc : Nat × (Nat → Int32)} {r : Option Nat × Option Nat} {a1 : Int32} {a2 : Int32} {a3 : Int32} {σ : ab_F} {res : Int32} (h : f_J1_indexOfChar_4cfef 7 a1 a2 a3 σ = some res) : ab_E mJ1_indexOfChar_4cfef 0 sc 0 [some (.ref 7), some (.int a1), some (.int a2), some (.int a3), none, none] [] (σ, r) (fun v S => v = some (.int res) ∧ S = (σ, r)) := by
  unfold f_J1_indexOfChar_4cfef at h
  refine z_iload_n (pc2 := 1) rfl dJ1_indexOfChar_4cfef_0 rfl ?_
  refine z_i2b (pc2 := 2) rfl dJ1_indexOfChar_4cfef_1 ?_
  obtain ⟨x1, hxx1, h⟩ := ab_lt_e h
  refine z_top hxx1 ?_
  refine z_istore (pc2 := 4) (L2 := [some (.ref 7), some (.int a1), some (.int a2), some (.int a3), some (.int x1), none]) rfl dJ1_indexOfChar_4cfef_2 (by decide) rfl rfl ?_
  refine z_iload_n (pc2 := 5) rfl dJ1_indexOfChar_4cfef_4 rfl ?_
  refine z_istore (pc2 := 7) (L2 := [some (.ref 7), some (.int a1), some (.int a2), some (.int a3), some (.int x1), some (.int a2)]) rfl dJ1_indexOfChar_4cfef_5 (by decide) rfl rfl ?_
  refine z_fgt [true, false, false, true, true, true] (L2 := [some (.ref 7), none, none, some (.int a3), some (.int x1), some (.int a2)]) rfl ?_
  refine e_J1_indexOfChar_4cfef_7_L7 (fun  h => ?_) _ _ h
  refine z_iconst (pc2 := 32) rfl dJ1_indexOfChar_4cfef_31 lt_i_m1 ?_
  exact z_iret dJ1_indexOfChar_4cfef_32 rfl rfl (fi_p h)
def f_J1_indexOf_4cfef (nb : Nat) (a1 : Int32) (a2 : Int32) (a3 : Int32) (σ : ab_F) : Option Int32 := (f_J1_canEncode_9a6ad a1 σ).bind (fun q1 => (if (ab_b q1) = 0 then (some (-1 : Int32)) else (f_J9_max_7cf53 a2 (0 : Int32) σ).bind (fun q3 => (f_J9_min_7cf53 a3 (3 : Int32) σ).bind (fun q4 => (if q3 < q4 then (f_J1_indexOfChar_4cfef nb a1 q3 q4 σ).bind (fun q6 => (some q6)) else (some (-1 : Int32)))))))
set_option maxRecDepth 100000 in
set_option maxHeartbeats 4000000 in
theorem e_J1_indexOf_4cfef_7 {sc : Nat × (Nat → Int32)} {r : Option Nat × Option Nat} {a1 : Int32} {a2 : Int32} {a3 : Int32} {σ : ab_F} {res : Int32} (h : f_J1_indexOf_4cfef 7 a1 a2 a3 σ = some res) : ab_E mJ1_indexOf_4cfef 1 sc 0 [some (.ref 7), some (.int a1), some (.int a2), some (.int a3)] [] (σ, r) (fun v S => v = some (.int res) ∧ S = (σ, r)) := by
  unfold f_J1_indexOf_4cfef at h
  refine z_iload_n (pc2 := 1) rfl dJ1_indexOf_4cfef_0 rfl ?_
  obtain ⟨q1, hq1, h⟩ := ab_bnd h
  refine z_callSi [.int a1] [some (.int a1)] (pc2 := 4) rfl rfl dJ1_indexOf_4cfef_1 ok_J1_canEncode_9a6ad ⟨fun _ => rfl, fun _ => Nat.le_of_ble_eq_true rfl⟩ rfl wd_581 wd_582 rfl (e_J1_canEncode_9a6ad hq1) ?_
  refine z_if_ne (pc2 := 7) (tgt := 9) rfl dJ1_indexOf_4cfef_4 (by decide) (fun hc2 => ?_) (fun hc2 => ?_)
  · replace h := ab_neg hc2 h
    refine z_iload_n (pc2 := 10) rfl dJ1_indexOf_4cfef_9 rfl ?_
    refine z_iconst (pc2 := 11) rfl dJ1_indexOf_4cfef_10 lt_i_0 ?_
    obtain ⟨q3, hq3, h⟩ := ab_bnd h
    refine z_callSi [.int a2, .int (0 : Int32)] [some (.int a2), some (.int (0 : Int32))] (pc2 := 14) rfl rfl dJ1_indexOf_4cfef_11 ok_J9_max_7cf53 ⟨fun _ => rfl, fun _ => Nat.le_of_ble_eq_true rfl⟩ rfl wd_584 wd_462 rfl (e_J9_max_7cf53 hq3) ?_
    refine z_istore_n (pc2 := 15) (L2 := [some (.ref 7), some (.int a1), some (.int q3), some (.int a3)]) rfl dJ1_indexOf_4cfef_14 (by decide) rfl rfl ?_
    refine z_iload_n (pc2 := 16) rfl dJ1_indexOf_4cfef_15 rfl ?_
    refine z_aload_n (pc2 := 17) rfl dJ1_indexOf_4cfef_16 rfl ?_
    refine z_balen (171, "tgd", 5, 7, 3) (pc2 := 18) (v := 3) rfl dJ1_indexOf_4cfef_17 (by decide) (by decide) ?_
    obtain ⟨q4, hq4, h⟩ := ab_bnd h
    refine z_callSi [.int a3, .int (3 : Int32)] [some (.int a3), some (.int (3 : Int32))] (pc2 := 21) rfl rfl dJ1_indexOf_4cfef_18 ok_J9_min_7cf53 ⟨fun _ => rfl, fun _ => Nat.le_of_ble_eq_true rfl⟩ rfl wd_585 wd_459 rfl (e_J9_min_7cf53 hq4) ?_
    refine z_istore_n (pc2 := 22) (L2 := [some (.ref 7), some (.int a1), some (.int q3), some (.int q4)]) rfl dJ1_indexOf_4cfef_21 (by decide) rfl rfl ?_
    refine z_iload_n (pc2 := 23) rfl dJ1_indexOf_4cfef_22 rfl ?_
    refine z_iload_n (pc2 := 24) rfl dJ1_indexOf_4cfef_23 rfl ?_
    refine z_icmp_lt (pc2 := 27) (tgt := 29) rfl dJ1_indexOf_4cfef_24 (by decide) (fun hc5 => ?_) (fun hc5 => ?_)
    · replace h := ab_pos hc5 h
      refine z_aload_n (pc2 := 30) rfl dJ1_indexOf_4cfef_29 rfl ?_
      refine z_iload_n (pc2 := 31) rfl dJ1_indexOf_4cfef_30 rfl ?_
      refine z_iload_n (pc2 := 32) rfl dJ1_indexOf_4cfef_31 rfl ?_
      refine z_iload_n (pc2 := 33) rfl dJ1_indexOf_4cfef_32 rfl ?_
      obtain ⟨q6, hq6, h⟩ := ab_bnd h
      refine z_callSi [.ref 7, .int a1, .int q3, .int q4] [some (.ref 7), some (.int a1), some (.int q3), some (.int q4), none, none] (pc2 := 36) rfl rfl dJ1_indexOf_4cfef_33 ok_J1_indexOfChar_4cfef ⟨fun _ => rfl, fun _ => Nat.le_of_ble_eq_true rfl⟩ rfl wd_586 wd_587 rfl (e_J1_indexOfChar_4cfef_7 hq6) ?_
      exact z_iret dJ1_indexOf_4cfef_36 rfl rfl (fi_p h)
    · replace h := ab_neg hc5 h
      refine z_iconst (pc2 := 28) rfl dJ1_indexOf_4cfef_27 lt_i_m1 ?_
      exact z_iret dJ1_indexOf_4cfef_28 rfl rfl (fi_p h)
  · replace h := ab_pos hc2 h
    refine z_iconst (pc2 := 8) rfl dJ1_indexOf_4cfef_7 lt_i_m1 ?_
    exact z_iret dJ1_indexOf_4cfef_8 rfl rfl (fi_p h)
def f_J0_indexOf_7cf53 (nm : Nat) (a1 : Int32) (a2 : Int32) (σ : ab_F) : Option Int32 := (f_J0_isLatin1_aae02 nm σ).bind (fun q1 => (if (ab_b q1) = 0 then none else (f_J0_length_8abf5 nm σ).bind (fun q4 => (f_J1_indexOf_4cfef (nm + 2) a1 a2 q4 σ).bind (fun q5 => (some q5)))))
set_option maxRecDepth 100000 in
set_option maxHeartbeats 4000000 in
theorem e_J0_indexOf_7cf53_5 {sc : Nat × (Nat → Int32)} {r : Option Nat × Option Nat} {a1 : Int32} {a2 : Int32} {σ : ab_F} {res : Int32} (h : f_J0_indexOf_7cf53 5 a1 a2 σ = some res) : ab_E mJ0_indexOf_7cf53 2 sc 0 [some (.ref 5), some (.int a1), some (.int a2)] [] (σ, r) (fun v S => v = some (.int res) ∧ S = (σ, r)) := by
  unfold f_J0_indexOf_7cf53 at h
  refine z_aload_n (pc2 := 1) rfl dJ0_indexOf_7cf53_0 rfl ?_
  obtain ⟨q1, hq1, h⟩ := ab_bnd h
  refine z_callVi 5 [] [some (.ref 5)] (pc2 := 4) rfl rfl dJ0_indexOf_7cf53_1 ok_J0_isLatin1_aae02 ⟨fun _ => rfl, fun _ => Nat.le_of_ble_eq_true rfl⟩ rfl rv_5 wd_564 wd_565 wd_566 rfl (e_J0_isLatin1_aae02_5 hq1) ?_
  refine z_if_eq (pc2 := 7) (tgt := 23) rfl dJ0_indexOf_7cf53_4 (by decide) (fun hc2 => ?_) (fun hc2 => ?_)
  · replace h := ab_pos hc2 h
    cases h
  · replace h := ab_neg hc2 h
    refine z_aload_n (pc2 := 8) rfl dJ0_indexOf_7cf53_7 rfl ?_
    refine z_strV (171, "tgd", 5, 7, 3) (pc2 := 11) rfl dJ0_indexOf_7cf53_8 (by decide) wd_1437 ?_
    refine z_iload_n (pc2 := 12) rfl dJ0_indexOf_7cf53_11 rfl ?_
    refine z_iload_n (pc2 := 13) rfl dJ0_indexOf_7cf53_12 rfl ?_
    refine z_aload_n (pc2 := 14) rfl dJ0_indexOf_7cf53_13 rfl ?_
    obtain ⟨q4, hq4, h⟩ := ab_bnd h
    refine z_callVi 5 [] [some (.ref 5)] (pc2 := 17) rfl rfl dJ0_indexOf_7cf53_14 ok_J0_length_8abf5 ⟨fun _ => rfl, fun _ => Nat.le_of_ble_eq_true rfl⟩ rfl rv_5 wd_570 wd_571 wd_572 rfl (e_J0_length_8abf5_5 hq4) ?_
    obtain ⟨q5, hq5, h⟩ := ab_bnd h
    refine z_callSi [.ref 7, .int a1, .int a2, .int q4] [some (.ref 7), some (.int a1), some (.int a2), some (.int q4)] (pc2 := 20) rfl rfl dJ0_indexOf_7cf53_17 ok_J1_indexOf_4cfef ⟨fun _ => rfl, fun _ => Nat.le_of_ble_eq_true rfl⟩ rfl wd_578 wd_579 rfl (e_J1_indexOf_4cfef_7 hq5) ?_
    refine ab_goto (tgt := 36) dJ0_indexOf_7cf53_20 (by decide) ?_
    exact z_iret dJ0_indexOf_7cf53_36 rfl rfl (fi_p h)
