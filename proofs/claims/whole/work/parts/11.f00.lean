def f_X11_outside (a0 : Int32) (a1 : Int32) (σ : ab_F) : Option Bool := (if a0 < 0 then (some true) else (if a0 ≤ a1 then (some false) else (some true)))
set_option maxRecDepth 100000 in
set_option maxHeartbeats 4000000 in
theorem e_X11_outside {sc : Nat × (Nat → Int32)} {r : Option Nat × Option Nat} {a0 : Int32} {a1 : Int32} {σ : ab_F} {res : Bool} (h : f_X11_outside a0 a1 σ = some res) : ab_E mX11_outside 0 sc 0 [some (.int a0), some (.int a1)] [] (σ, r) (fun v S => v = some (.int (ab_b res)) ∧ S = (σ, r)) := by
  unfold f_X11_outside at h
  refine z_iload_n (pc2 := 1) rfl dX11_outside_0 rfl ?_
  refine z_if_lt (pc2 := 4) (tgt := 9) rfl dX11_outside_1 (by decide) (fun hc1 => ?_) (fun hc1 => ?_)
  · replace h := ab_pos hc1 h
    refine z_iconst (pc2 := 10) rfl dX11_outside_9 lt_i_1 ?_
    refine ab_goto (tgt := 14) dX11_outside_10 (by decide) ?_
    exact z_iret dX11_outside_14 rfl rfl (fz_p rfl h)
  · replace h := ab_neg hc1 h
    refine z_iload_n (pc2 := 5) rfl dX11_outside_4 rfl ?_
    refine z_iload_n (pc2 := 6) rfl dX11_outside_5 rfl ?_
    refine z_icmp_le (pc2 := 9) (tgt := 13) rfl dX11_outside_6 (by decide) (fun hc2 => ?_) (fun hc2 => ?_)
    · replace h := ab_pos hc2 h
      refine z_iconst (pc2 := 14) rfl dX11_outside_13 lt_i_0 ?_
      exact z_iret dX11_outside_14 rfl rfl (fz_p rfl h)
    · replace h := ab_neg hc2 h
      refine z_iconst (pc2 := 10) rfl dX11_outside_9 lt_i_1 ?_
      refine ab_goto (tgt := 14) dX11_outside_10 (by decide) ?_
      exact z_iret dX11_outside_14 rfl rfl (fz_p rfl h)
def f_X11_refuse (a1 : Int32) (σ : ab_F) : Option (Int32 × ab_F) := ab_ck (ab_ib a1 7) (ab_ck (ab_ib a1 7) (ab_lt (ab_u σ 23 (a1).toNatClampNeg ((σ 23 (a1).toNatClampNeg) + (1 : Int32))) (fun (s3 : ab_F) => (some (((-1000000000 : Int32) - a1), s3)))))
set_option maxRecDepth 100000 in
set_option maxHeartbeats 4000000 in
theorem e_X11_refuse {sc : Nat × (Nat → Int32)} {r : Option Nat × Option Nat} {a1 : Int32} {σ : ab_F} {res : (Int32 × ab_F)} (h : f_X11_refuse a1 σ = some res) : ab_E mX11_refuse 0 sc 0 [some (.ref 8), some (.int a1)] [] (σ, r) (fun v S => v = some (.int res.1) ∧ S = (res.2, r)) := by
  unfold f_X11_refuse at h
  refine z_aload_n (pc2 := 1) rfl dX11_refuse_0 rfl ?_
  refine z_getR 8 11 10 23 (pc2 := 4) rfl dX11_refuse_1 rfl rfl ff_11_10 wd_312 rfl ?_
  refine z_iload_n (pc2 := 5) rfl dX11_refuse_4 rfl ?_
  refine z_dup2 (pc2 := 6) rfl dX11_refuse_5 rfl rfl ?_
  obtain ⟨hb1, h⟩ := ab_ck_e h
  refine z_iald 23 (pc2 := 7) (j := (a1).toNatClampNeg) rfl dX11_refuse_6 rfl rfl hb1 rfl ?_
  refine z_iconst (pc2 := 8) rfl dX11_refuse_7 lt_i_1 ?_
  refine z_iadd (pc2 := 9) rfl dX11_refuse_8 ?_
  obtain ⟨hb2, h⟩ := ab_ck_e h
  refine z_iast 23 (pc2 := 10) (j := (a1).toNatClampNeg) rfl dX11_refuse_9 rfl rfl hb2 rfl ?_
  obtain ⟨s3, hs3, h⟩ := ab_lt_e h
  refine z_tops hs3 ?_
  refine z_ldcw (pc2 := 13) rfl dX11_refuse_10 wd_350 ?_
  refine z_iload_n (pc2 := 14) rfl dX11_refuse_13 rfl ?_
  refine z_isub (pc2 := 15) rfl dX11_refuse_14 ?_
  exact z_iret dX11_refuse_15 rfl rfl (fi_w h)
def f_X9_join (w : Nat) (a1 : Int32) (a2 : Int32) (σ : ab_F) : Option (Int32 × ab_F) := ab_lt ((σ w 11)) (fun x1 => ab_ck (ab_ib x1 8) (ab_lt (ab_u σ (w + 6) (x1).toNatClampNeg (a1 / (10 : Int32))) (fun (s3 : ab_F) => ab_ck (ab_ib x1 8) (ab_lt (ab_u s3 (w + 7) (x1).toNatClampNeg (a1 - a1 / (10 : Int32) * (10 : Int32))) (fun (s5 : ab_F) => ab_ck (ab_ib x1 8) (ab_lt (ab_u s5 (w + 8) (x1).toNatClampNeg a2) (fun (s7 : ab_F) => ab_ck (ab_ib x1 8) (ab_lt (ab_u s7 (w + 9) (x1).toNatClampNeg (6 : Int32)) (fun (s9 : ab_F) => ab_ck (ab_ib x1 8) (ab_lt (ab_u s9 (w + 10) (x1).toNatClampNeg (0 : Int32)) (fun (s11 : ab_F) => ab_lt (ab_u s11 w 11 ((s11 w 11) + (1 : Int32))) (fun (s12 : ab_F) => (some (x1, s12))))))))))))))
set_option maxRecDepth 100000 in
set_option maxHeartbeats 4000000 in
theorem e_X9_join_38 {sc : Nat × (Nat → Int32)} {r : Option Nat × Option Nat} {a1 : Int32} {a2 : Int32} {σ : ab_F} {res : (Int32 × ab_F)} (h : f_X9_join 38 a1 a2 σ = some res) : ab_E mX9_join 0 sc 0 [some (.ref 38), some (.int a1), some (.int a2), none] [] (σ, r) (fun v S => v = some (.int res.1) ∧ S = (res.2, r)) := by
  unfold f_X9_join at h
  refine z_aload_n (pc2 := 1) rfl dX9_join_0 rfl ?_
  refine z_getI 38 9 11 (pc2 := 4) rfl dX9_join_1 rfl rfl ff_9_11 wd_250 ?_
  obtain ⟨x1, hxx1, h⟩ := ab_lt_e h
  refine z_top hxx1 ?_
  refine z_istore_n (pc2 := 5) (L2 := [some (.ref 38), some (.int a1), some (.int a2), some (.int x1)]) rfl dX9_join_4 (by decide) rfl rfl ?_
  refine z_aload_n (pc2 := 6) rfl dX9_join_5 rfl ?_
  refine z_getR 38 9 12 44 (pc2 := 9) rfl dX9_join_6 rfl rfl ff_9_12 wd_252 rfl ?_
  refine z_iload_n (pc2 := 10) rfl dX9_join_9 rfl ?_
  refine z_iload_n (pc2 := 11) rfl dX9_join_10 rfl ?_
  refine z_bipush (pc2 := 13) rfl dX9_join_11 lt_b_10 ?_
  refine z_idiv (pc2 := 14) rfl dX9_join_13 (by decide) ?_
  obtain ⟨hb2, h⟩ := ab_ck_e h
  refine z_iast 44 (pc2 := 15) (j := (x1).toNatClampNeg) rfl dX9_join_14 rfl rfl hb2 rfl ?_
  obtain ⟨s3, hs3, h⟩ := ab_lt_e h
  refine z_tops hs3 ?_
  refine z_aload_n (pc2 := 16) rfl dX9_join_15 rfl ?_
  refine z_getR 38 9 13 45 (pc2 := 19) rfl dX9_join_16 rfl rfl ff_9_13 wd_254 rfl ?_
  refine z_iload_n (pc2 := 20) rfl dX9_join_19 rfl ?_
  refine z_iload_n (pc2 := 21) rfl dX9_join_20 rfl ?_
  refine z_bipush (pc2 := 23) rfl dX9_join_21 lt_b_10 ?_
  refine z_irem (pc2 := 24) rfl dX9_join_23 (by decide) ?_
  obtain ⟨hb4, h⟩ := ab_ck_e h
  refine z_iast 45 (pc2 := 25) (j := (x1).toNatClampNeg) rfl dX9_join_24 rfl rfl hb4 rfl ?_
  obtain ⟨s5, hs5, h⟩ := ab_lt_e h
  refine z_tops hs5 ?_
  refine z_aload_n (pc2 := 26) rfl dX9_join_25 rfl ?_
  refine z_getR 38 9 14 46 (pc2 := 29) rfl dX9_join_26 rfl rfl ff_9_14 wd_259 rfl ?_
  refine z_iload_n (pc2 := 30) rfl dX9_join_29 rfl ?_
  refine z_iload_n (pc2 := 31) rfl dX9_join_30 rfl ?_
  obtain ⟨hb6, h⟩ := ab_ck_e h
  refine z_iast 46 (pc2 := 32) (j := (x1).toNatClampNeg) rfl dX9_join_31 rfl rfl hb6 rfl ?_
  obtain ⟨s7, hs7, h⟩ := ab_lt_e h
  refine z_tops hs7 ?_
  refine z_aload_n (pc2 := 33) rfl dX9_join_32 rfl ?_
  refine z_getR 38 9 15 47 (pc2 := 36) rfl dX9_join_33 rfl rfl ff_9_15 wd_261 rfl ?_
  refine z_iload_n (pc2 := 37) rfl dX9_join_36 rfl ?_
  refine z_bipush (pc2 := 39) rfl dX9_join_37 lt_b_6 ?_
  obtain ⟨hb8, h⟩ := ab_ck_e h
  refine z_iast 47 (pc2 := 40) (j := (x1).toNatClampNeg) rfl dX9_join_39 rfl rfl hb8 rfl ?_
  obtain ⟨s9, hs9, h⟩ := ab_lt_e h
  refine z_tops hs9 ?_
  refine z_aload_n (pc2 := 41) rfl dX9_join_40 rfl ?_
  refine z_getR 38 9 16 48 (pc2 := 44) rfl dX9_join_41 rfl rfl ff_9_16 wd_263 rfl ?_
  refine z_iload_n (pc2 := 45) rfl dX9_join_44 rfl ?_
  refine z_iconst (pc2 := 46) rfl dX9_join_45 lt_i_0 ?_
  obtain ⟨hb10, h⟩ := ab_ck_e h
  refine z_iast 48 (pc2 := 47) (j := (x1).toNatClampNeg) rfl dX9_join_46 rfl rfl hb10 rfl ?_
  obtain ⟨s11, hs11, h⟩ := ab_lt_e h
  refine z_tops hs11 ?_
  refine z_aload_n (pc2 := 48) rfl dX9_join_47 rfl ?_
  refine z_dup (pc2 := 49) rfl dX9_join_48 rfl ?_
  refine z_getI 38 9 11 (pc2 := 52) rfl dX9_join_49 rfl rfl ff_9_11 wd_250 ?_
  refine z_iconst (pc2 := 53) rfl dX9_join_52 lt_i_1 ?_
  refine z_iadd (pc2 := 54) rfl dX9_join_53 ?_
  refine z_putI 38 9 11 (pc2 := 57) (ft := .int) rfl dX9_join_54 rfl rfl ff_9_11 wd_250 rfl (by decide +kernel) rfl rfl ?_
  obtain ⟨s12, hs12, h⟩ := ab_lt_e h
  refine z_tops hs12 ?_
  refine z_iload_n (pc2 := 58) rfl dX9_join_57 rfl ?_
  exact z_iret dX9_join_58 rfl rfl (fi_w h)
def f_X11_one (a1 : Int32) (a2 : Int32) (σ : ab_F) : Option (Int32 × ab_F) := (f_X11_outside a1 (69 : Int32) σ).bind (fun q1 => (if (ab_b q1) = 0 then (f_X11_outside a2 (15 : Int32) σ).bind (fun q4 => (if (ab_b q4) = 0 then (if (σ 38 11) < (8 : Int32) then (f_X9_join 38 a1 a2 σ).bind (fun q7 => (some (q7.1, q7.2))) else (f_X11_refuse (4 : Int32) σ).bind (fun q8 => (some (q8.1, q8.2)))) else (f_X11_refuse (1 : Int32) σ).bind (fun q9 => (some (q9.1, q9.2))))) else (f_X11_refuse (1 : Int32) σ).bind (fun q3 => (some (q3.1, q3.2)))))
set_option maxRecDepth 100000 in
set_option maxHeartbeats 4000000 in
theorem e_X11_one {sc : Nat × (Nat → Int32)} {r : Option Nat × Option Nat} {a1 : Int32} {a2 : Int32} {σ : ab_F} {res : (Int32 × ab_F)} (h : f_X11_one a1 a2 σ = some res) : ab_E mX11_one 1 sc 0 [some (.ref 8), some (.int a1), some (.int a2)] [] (σ, r) (fun v S => v = some (.int res.1) ∧ S = (res.2, r)) := by
  unfold f_X11_one at h
  refine z_iload_n (pc2 := 1) rfl dX11_one_0 rfl ?_
  refine z_bipush (pc2 := 3) rfl dX11_one_1 lt_b_69 ?_
  obtain ⟨q1, hq1, h⟩ := ab_bnd h
  refine z_callSi [.int a1, .int (69 : Int32)] [some (.int a1), some (.int (69 : Int32))] (pc2 := 6) rfl rfl dX11_one_3 ok_X11_outside ⟨fun _ => rfl, fun _ => Nat.le_of_ble_eq_true rfl⟩ rfl wd_343 wd_344 rfl (e_X11_outside hq1) ?_
  refine z_if_ne (pc2 := 9) (tgt := 18) rfl dX11_one_6 (by decide) (fun hc2 => ?_) (fun hc2 => ?_)
  · replace h := ab_neg hc2 h
    refine z_aload_n (pc2 := 19) rfl dX11_one_18 rfl ?_
    refine z_iconst (pc2 := 20) rfl dX11_one_19 lt_i_1 ?_
    obtain ⟨q3, hq3, h⟩ := ab_bnd h
    refine z_callVi 8 [.int (1 : Int32)] [some (.ref 8), some (.int (1 : Int32))] (pc2 := 23) rfl rfl dX11_one_20 ok_X11_refuse ⟨fun _ => rfl, fun _ => Nat.le_of_ble_eq_true rfl⟩ rfl rv_8 wd_346 wd_348 wd_0 rfl (e_X11_refuse hq3) ?_
    exact z_iret dX11_one_23 rfl rfl (fi_w h)
  · replace h := ab_pos hc2 h
    refine z_iload_n (pc2 := 10) rfl dX11_one_9 rfl ?_
    refine z_bipush (pc2 := 12) rfl dX11_one_10 lt_b_15 ?_
    obtain ⟨q4, hq4, h⟩ := ab_bnd h
    refine z_callSi [.int a2, .int (15 : Int32)] [some (.int a2), some (.int (15 : Int32))] (pc2 := 15) rfl rfl dX11_one_12 ok_X11_outside ⟨fun _ => rfl, fun _ => Nat.le_of_ble_eq_true rfl⟩ rfl wd_343 wd_344 rfl (e_X11_outside hq4) ?_
    refine z_if_eq (pc2 := 18) (tgt := 24) rfl dX11_one_15 (by decide) (fun hc5 => ?_) (fun hc5 => ?_)
    · replace h := ab_pos hc5 h
      refine z_aload_n (pc2 := 25) rfl dX11_one_24 rfl ?_
      refine z_getR 8 11 0 38 (pc2 := 28) rfl dX11_one_25 rfl rfl ff_11_0 wd_302 rfl ?_
      refine z_getI 38 9 11 (pc2 := 31) rfl dX11_one_28 rfl rfl ff_9_11 wd_251 ?_
      refine z_bipush (pc2 := 33) rfl dX11_one_31 lt_b_8 ?_
      refine z_icmp_lt (pc2 := 36) (tgt := 42) rfl dX11_one_33 (by decide) (fun hc6 => ?_) (fun hc6 => ?_)
      · replace h := ab_pos hc6 h
        refine z_aload_n (pc2 := 43) rfl dX11_one_42 rfl ?_
        refine z_getR 8 11 0 38 (pc2 := 46) rfl dX11_one_43 rfl rfl ff_11_0 wd_302 rfl ?_
        refine z_iload_n (pc2 := 47) rfl dX11_one_46 rfl ?_
        refine z_iload_n (pc2 := 48) rfl dX11_one_47 rfl ?_
        obtain ⟨q7, hq7, h⟩ := ab_bnd h
        refine z_callVi 38 [.int a1, .int a2] [some (.ref 38), some (.int a1), some (.int a2), none] (pc2 := 51) rfl rfl dX11_one_48 ok_X9_join ⟨fun _ => rfl, fun _ => Nat.le_of_ble_eq_true rfl⟩ rfl rv_38 wd_351 wd_352 wd_353 rfl (e_X9_join_38 hq7) ?_
        exact z_iret dX11_one_51 rfl rfl (fi_w h)
      · replace h := ab_neg hc6 h
        refine z_aload_n (pc2 := 37) rfl dX11_one_36 rfl ?_
        refine z_iconst (pc2 := 38) rfl dX11_one_37 lt_i_4 ?_
        obtain ⟨q8, hq8, h⟩ := ab_bnd h
        refine z_callVi 8 [.int (4 : Int32)] [some (.ref 8), some (.int (4 : Int32))] (pc2 := 41) rfl rfl dX11_one_38 ok_X11_refuse ⟨fun _ => rfl, fun _ => Nat.le_of_ble_eq_true rfl⟩ rfl rv_8 wd_346 wd_348 wd_0 rfl (e_X11_refuse hq8) ?_
        exact z_iret dX11_one_41 rfl rfl (fi_w h)
    · replace h := ab_neg hc5 h
      refine z_aload_n (pc2 := 19) rfl dX11_one_18 rfl ?_
      refine z_iconst (pc2 := 20) rfl dX11_one_19 lt_i_1 ?_
      obtain ⟨q9, hq9, h⟩ := ab_bnd h
      refine z_callVi 8 [.int (1 : Int32)] [some (.ref 8), some (.int (1 : Int32))] (pc2 := 23) rfl rfl dX11_one_20 ok_X11_refuse ⟨fun _ => rfl, fun _ => Nat.le_of_ble_eq_true rfl⟩ rfl rv_8 wd_346 wd_348 wd_0 rfl (e_X11_refuse hq9) ?_
      exact z_iret dX11_one_23 rfl rfl (fi_w h)
def f_X11_nobody (a1 : Int32) (σ : ab_F) : Option Bool := (if a1 < 0 then (some true) else (if a1 < (σ 38 11) then (some false) else (some true)))
set_option maxRecDepth 100000 in
set_option maxHeartbeats 4000000 in
theorem e_X11_nobody {sc : Nat × (Nat → Int32)} {r : Option Nat × Option Nat} {a1 : Int32} {σ : ab_F} {res : Bool} (h : f_X11_nobody a1 σ = some res) : ab_E mX11_nobody 0 sc 0 [some (.ref 8), some (.int a1)] [] (σ, r) (fun v S => v = some (.int (ab_b res)) ∧ S = (σ, r)) := by
  unfold f_X11_nobody at h
  refine z_iload_n (pc2 := 1) rfl dX11_nobody_0 rfl ?_
  refine z_if_lt (pc2 := 4) (tgt := 15) rfl dX11_nobody_1 (by decide) (fun hc1 => ?_) (fun hc1 => ?_)
  · replace h := ab_pos hc1 h
    refine z_iconst (pc2 := 16) rfl dX11_nobody_15 lt_i_1 ?_
    refine ab_goto (tgt := 20) dX11_nobody_16 (by decide) ?_
    exact z_iret dX11_nobody_20 rfl rfl (fz_p rfl h)
  · replace h := ab_neg hc1 h
    refine z_iload_n (pc2 := 5) rfl dX11_nobody_4 rfl ?_
    refine z_aload_n (pc2 := 6) rfl dX11_nobody_5 rfl ?_
    refine z_getR 8 11 0 38 (pc2 := 9) rfl dX11_nobody_6 rfl rfl ff_11_0 wd_302 rfl ?_
    refine z_getI 38 9 11 (pc2 := 12) rfl dX11_nobody_9 rfl rfl ff_9_11 wd_251 ?_
    refine z_icmp_lt (pc2 := 15) (tgt := 19) rfl dX11_nobody_12 (by decide) (fun hc2 => ?_) (fun hc2 => ?_)
    · replace h := ab_pos hc2 h
      refine z_iconst (pc2 := 20) rfl dX11_nobody_19 lt_i_0 ?_
      exact z_iret dX11_nobody_20 rfl rfl (fz_p rfl h)
    · replace h := ab_neg hc2 h
      refine z_iconst (pc2 := 16) rfl dX11_nobody_15 lt_i_1 ?_
      refine ab_goto (tgt := 20) dX11_nobody_16 (by decide) ?_
      exact z_iret dX11_nobody_20 rfl rfl (fz_p rfl h)
def f_X9_isWet (w : Nat) (a1 : Int32) (σ : ab_F) : Option Bool := ab_ck (ab_ib a1 8) (ab_ck (ab_ib (σ (w + 8) (a1).toNatClampNeg) 16) (ab_ck (ab_ib a1 8) ((if (σ (w + 2) ((σ (w + 8) (a1).toNatClampNeg)).toNatClampNeg) ≤ (σ (w + 9) (a1).toNatClampNeg) then (some false) else (some true)))))
set_option maxRecDepth 100000 in
set_option maxHeartbeats 4000000 in
theorem e_X9_isWet_38 {sc : Nat × (Nat → Int32)} {r : Option Nat × Option Nat} {a1 : Int32} {σ : ab_F} {res : Bool} (h : f_X9_isWet 38 a1 σ = some res) : ab_E mX9_isWet 0 sc 0 [some (.ref 38), some (.int a1)] [] (σ, r) (fun v S => v = some (.int (ab_b res)) ∧ S = (σ, r)) := by
  unfold f_X9_isWet at h
  refine z_aload_n (pc2 := 1) rfl dX9_isWet_0 rfl ?_
  refine z_getR 38 9 7 40 (pc2 := 4) rfl dX9_isWet_1 rfl rfl ff_9_7 wd_243 rfl ?_
  refine z_aload_n (pc2 := 5) rfl dX9_isWet_4 rfl ?_
  refine z_getR 38 9 14 46 (pc2 := 8) rfl dX9_isWet_5 rfl rfl ff_9_14 wd_259 rfl ?_
  refine z_iload_n (pc2 := 9) rfl dX9_isWet_8 rfl ?_
  obtain ⟨hb1, h⟩ := ab_ck_e h
  refine z_iald 46 (pc2 := 10) (j := (a1).toNatClampNeg) rfl dX9_isWet_9 rfl rfl hb1 rfl ?_
  obtain ⟨hb2, h⟩ := ab_ck_e h
  refine z_iald 40 (pc2 := 11) (j := ((σ (38 + 8) (a1).toNatClampNeg)).toNatClampNeg) rfl dX9_isWet_10 rfl rfl hb2 rfl ?_
  refine z_aload_n (pc2 := 12) rfl dX9_isWet_11 rfl ?_
  refine z_getR 38 9 15 47 (pc2 := 15) rfl dX9_isWet_12 rfl rfl ff_9_15 wd_261 rfl ?_
  refine z_iload_n (pc2 := 16) rfl dX9_isWet_15 rfl ?_
  obtain ⟨hb3, h⟩ := ab_ck_e h
  refine z_iald 47 (pc2 := 17) (j := (a1).toNatClampNeg) rfl dX9_isWet_16 rfl rfl hb3 rfl ?_
  refine z_icmp_le (pc2 := 20) (tgt := 24) rfl dX9_isWet_17 (by decide) (fun hc4 => ?_) (fun hc4 => ?_)
  · replace h := ab_pos hc4 h
    refine z_iconst (pc2 := 25) rfl dX9_isWet_24 lt_i_0 ?_
    exact z_iret dX9_isWet_25 rfl rfl (fz_p rfl h)
  · replace h := ab_neg hc4 h
    refine z_iconst (pc2 := 21) rfl dX9_isWet_20 lt_i_1 ?_
    refine ab_goto (tgt := 25) dX9_isWet_21 (by decide) ?_
    exact z_iret dX9_isWet_25 rfl rfl (fz_p rfl h)
def f_X2_acts_25 (w : Nat) (a2 : Int32) (σ : ab_F) : Option Int32 := (some (1 : Int32))
set_option maxRecDepth 100000 in
set_option maxHeartbeats 4000000 in
theorem e_X2_acts_25_38 {sc : Nat × (Nat → Int32)} {r : Option Nat × Option Nat} {a2 : Int32} {σ : ab_F} {res : Int32} (h : f_X2_acts_25 38 a2 σ = some res) : ab_E mX2_acts 0 sc 0 [some (.ref 25), some (.ref 38), some (.int a2)] [] (σ, r) (fun v S => v = some (.int res) ∧ S = (σ, r)) := by
  unfold f_X2_acts_25 at h
  refine z_iconst (pc2 := 1) rfl dX2_acts_0 lt_i_1 ?_
  exact z_iret dX2_acts_1 rfl rfl (fi_p h)
def f_J6_bitCount_0f7a4 (a0 : Int32) (σ : ab_F) : Option Int32 := ab_lt ((a0 - (((a0).toUInt32 >>> (((1 : Int32)).toUInt32 &&& Int32.toUInt32 31)).toInt32 &&& (1431655765 : Int32)))) (fun x1 => ab_lt (((x1 &&& (858993459 : Int32)) + (((x1).toUInt32 >>> (((2 : Int32)).toUInt32 &&& Int32.toUInt32 31)).toInt32 &&& (858993459 : Int32)))) (fun x2 => ab_lt (((x2 + ((x2).toUInt32 >>> (((4 : Int32)).toUInt32 &&& Int32.toUInt32 31)).toInt32) &&& (252645135 : Int32))) (fun x3 => ab_lt ((x3 + ((x3).toUInt32 >>> (((8 : Int32)).toUInt32 &&& Int32.toUInt32 31)).toInt32)) (fun x4 => ab_lt ((x4 + ((x4).toUInt32 >>> (((16 : Int32)).toUInt32 &&& Int32.toUInt32 31)).toInt32)) (fun x5 => (some (x5 &&& (63 : Int32))))))))
set_option maxRecDepth 100000 in
set_option maxHeartbeats 4000000 in
theorem e_J6_bitCount_0f7a4 {sc : Nat × (Nat → Int32)} {r : Option Nat × Option Nat} {a0 : Int32} {σ : ab_F} {res : Int32} (h : f_J6_bitCount_0f7a4 a0 σ = some res) : ab_E mJ6_bitCount_0f7a4 0 sc 0 [some (.int a0)] [] (σ, r) (fun v S => v = some (.int res) ∧ S = (σ, r)) := by
  unfold f_J6_bitCount_0f7a4 at h
  refine z_iload_n (pc2 := 1) rfl dJ6_bitCount_0f7a4_0 rfl ?_
  refine z_iload_n (pc2 := 2) rfl dJ6_bitCount_0f7a4_1 rfl ?_
  refine z_iconst (pc2 := 3) rfl dJ6_bitCount_0f7a4_2 lt_i_1 ?_
  refine z_iushr (pc2 := 4) rfl dJ6_bitCount_0f7a4_3 ?_
  refine z_ldcw (pc2 := 7) rfl dJ6_bitCount_0f7a4_4 wd_388 ?_
  refine z_iand (pc2 := 8) rfl dJ6_bitCount_0f7a4_7 ?_
  refine z_isub (pc2 := 9) rfl dJ6_bitCount_0f7a4_8 ?_
  obtain ⟨x1, hxx1, h⟩ := ab_lt_e h
  refine z_top hxx1 ?_
  refine z_istore_n (pc2 := 10) (L2 := [some (.int x1)]) rfl dJ6_bitCount_0f7a4_9 (by decide) rfl rfl ?_
  refine z_iload_n (pc2 := 11) rfl dJ6_bitCount_0f7a4_10 rfl ?_
  refine z_ldcw (pc2 := 14) rfl dJ6_bitCount_0f7a4_11 wd_389 ?_
  refine z_iand (pc2 := 15) rfl dJ6_bitCount_0f7a4_14 ?_
  refine z_iload_n (pc2 := 16) rfl dJ6_bitCount_0f7a4_15 rfl ?_
  refine z_iconst (pc2 := 17) rfl dJ6_bitCount_0f7a4_16 lt_i_2 ?_
  refine z_iushr (pc2 := 18) rfl dJ6_bitCount_0f7a4_17 ?_
  refine z_ldcw (pc2 := 21) rfl dJ6_bitCount_0f7a4_18 wd_389 ?_
  refine z_iand (pc2 := 22) rfl dJ6_bitCount_0f7a4_21 ?_
  refine z_iadd (pc2 := 23) rfl dJ6_bitCount_0f7a4_22 ?_
  obtain ⟨x2, hxx2, h⟩ := ab_lt_e h
  refine z_top hxx2 ?_
  refine z_istore_n (pc2 := 24) (L2 := [some (.int x2)]) rfl dJ6_bitCount_0f7a4_23 (by decide) rfl rfl ?_
  refine z_iload_n (pc2 := 25) rfl dJ6_bitCount_0f7a4_24 rfl ?_
  refine z_iload_n (pc2 := 26) rfl dJ6_bitCount_0f7a4_25 rfl ?_
  refine z_iconst (pc2 := 27) rfl dJ6_bitCount_0f7a4_26 lt_i_4 ?_
  refine z_iushr (pc2 := 28) rfl dJ6_bitCount_0f7a4_27 ?_
  refine z_iadd (pc2 := 29) rfl dJ6_bitCount_0f7a4_28 ?_
  refine z_ldcw (pc2 := 32) rfl dJ6_bitCount_0f7a4_29 wd_390 ?_
  refine z_iand (pc2 := 33) rfl dJ6_bitCount_0f7a4_32 ?_
  obtain ⟨x3, hxx3, h⟩ := ab_lt_e h
  refine z_top hxx3 ?_
  refine z_istore_n (pc2 := 34) (L2 := [some (.int x3)]) rfl dJ6_bitCount_0f7a4_33 (by decide) rfl rfl ?_
  refine z_iload_n (pc2 := 35) rfl dJ6_bitCount_0f7a4_34 rfl ?_
  refine z_iload_n (pc2 := 36) rfl dJ6_bitCount_0f7a4_35 rfl ?_
  refine z_bipush (pc2 := 38) rfl dJ6_bitCount_0f7a4_36 lt_b_8 ?_
  refine z_iushr (pc2 := 39) rfl dJ6_bitCount_0f7a4_38 ?_
  refine z_iadd (pc2 := 40) rfl dJ6_bitCount_0f7a4_39 ?_
  obtain ⟨x4, hxx4, h⟩ := ab_lt_e h
  refine z_top hxx4 ?_
  refine z_istore_n (pc2 := 41) (L2 := [some (.int x4)]) rfl dJ6_bitCount_0f7a4_40 (by decide) rfl rfl ?_
  refine z_iload_n (pc2 := 42) rfl dJ6_bitCount_0f7a4_41 rfl ?_
  refine z_iload_n (pc2 := 43) rfl dJ6_bitCount_0f7a4_42 rfl ?_
  refine z_bipush (pc2 := 45) rfl dJ6_bitCount_0f7a4_43 lt_b_16 ?_
  refine z_iushr (pc2 := 46) rfl dJ6_bitCount_0f7a4_45 ?_
  refine z_iadd (pc2 := 47) rfl dJ6_bitCount_0f7a4_46 ?_
  obtain ⟨x5, hxx5, h⟩ := ab_lt_e h
  refine z_top hxx5 ?_
  refine z_istore_n (pc2 := 48) (L2 := [some (.int x5)]) rfl dJ6_bitCount_0f7a4_47 (by decide) rfl rfl ?_
  refine z_iload_n (pc2 := 49) rfl dJ6_bitCount_0f7a4_48 rfl ?_
  refine z_bipush (pc2 := 51) rfl dJ6_bitCount_0f7a4_49 lt_b_63 ?_
  refine z_iand (pc2 := 52) rfl dJ6_bitCount_0f7a4_51 ?_
  exact z_iret dJ6_bitCount_0f7a4_52 rfl rfl (fi_p h)
def f_J9_floorMod_7cf53 (a0 : Int32) (a1 : Int32) (σ : ab_F) : Option Int32 := ab_ck (ab_nz a1) (ab_lt ((a0 - a0 / a1 * a1)) (fun x2 => (if 0 ≤ (a0 ^^^ a1) then (some x2) else (if x2 = 0 then (some x2) else (some (x2 + a1))))))
set_option maxRecDepth 100000 in
set_option maxHeartbeats 4000000 in
theorem e_J9_floorMod_7cf53 {sc : Nat × (Nat → Int32)} {r : Option Nat × Option Nat} {a0 : Int32} {a1 : Int32} {σ : ab_F} {res : Int32} (h : f_J9_floorMod_7cf53 a0 a1 σ = some res) : ab_E mJ9_floorMod_7cf53 0 sc 0 [some (.int a0), some (.int a1), none] [] (σ, r) (fun v S => v = some (.int res) ∧ S = (σ, r)) := by
  unfold f_J9_floorMod_7cf53 at h
  refine z_iload_n (pc2 := 1) rfl dJ9_floorMod_7cf53_0 rfl ?_
  refine z_iload_n (pc2 := 2) rfl dJ9_floorMod_7cf53_1 rfl ?_
  obtain ⟨hb1, h⟩ := ab_ck_e h
  refine z_irem (pc2 := 3) rfl dJ9_floorMod_7cf53_2 (ab_nz_e hb1) ?_
  obtain ⟨x2, hxx2, h⟩ := ab_lt_e h
  refine z_top hxx2 ?_
  refine z_istore_n (pc2 := 4) (L2 := [some (.int a0), some (.int a1), some (.int x2)]) rfl dJ9_floorMod_7cf53_3 (by decide) rfl rfl ?_
  refine z_iload_n (pc2 := 5) rfl dJ9_floorMod_7cf53_4 rfl ?_
  refine z_iload_n (pc2 := 6) rfl dJ9_floorMod_7cf53_5 rfl ?_
  refine z_ixor (pc2 := 7) rfl dJ9_floorMod_7cf53_6 ?_
  refine z_if_ge (pc2 := 10) (tgt := 18) rfl dJ9_floorMod_7cf53_7 (by decide) (fun hc3 => ?_) (fun hc3 => ?_)
  · replace h := ab_pos hc3 h
    refine z_iload_n (pc2 := 19) rfl dJ9_floorMod_7cf53_18 rfl ?_
    exact z_iret dJ9_floorMod_7cf53_19 rfl rfl (fi_p h)
  · replace h := ab_neg hc3 h
    refine z_iload_n (pc2 := 11) rfl dJ9_floorMod_7cf53_10 rfl ?_
    refine z_if_eq (pc2 := 14) (tgt := 18) rfl dJ9_floorMod_7cf53_11 (by decide) (fun hc4 => ?_) (fun hc4 => ?_)
    · replace h := ab_pos hc4 h
      refine z_iload_n (pc2 := 19) rfl dJ9_floorMod_7cf53_18 rfl ?_
      exact z_iret dJ9_floorMod_7cf53_19 rfl rfl (fi_p h)
    · replace h := ab_neg hc4 h
      refine z_iload_n (pc2 := 15) rfl dJ9_floorMod_7cf53_14 rfl ?_
      refine z_iload_n (pc2 := 16) rfl dJ9_floorMod_7cf53_15 rfl ?_
      refine z_iadd (pc2 := 17) rfl dJ9_floorMod_7cf53_16 ?_
      exact z_iret dJ9_floorMod_7cf53_17 rfl rfl (fi_p h)
def f_X7_worked (a0 : Int32) (a1 : Int32) (a2 : Int32) (σ : ab_F) : Option Int32 := (if a0 = (38 : Int32) then (if a1 = 0 then (some (0 : Int32)) else (if a2 = 0 then (some (0 : Int32)) else (some (1 : Int32)))) else if a0 = (42 : Int32) then (some (a1 * a2)) else if a0 = (43 : Int32) then (some (a1 + a2)) else if a0 = (45 : Int32) then (some (a1 - a2)) else if a0 = (47 : Int32) then (if a2 = 0 then (some (0 : Int32)) else ab_ck (ab_nz a2) ((some (a1 / a2)))) else if a0 = (60 : Int32) then (if a2 ≤ a1 then (some (0 : Int32)) else (some (1 : Int32))) else if a0 = (61 : Int32) then (if a1 = a2 then (some (1 : Int32)) else (some (0 : Int32))) else if a0 = (62 : Int32) then (if a1 ≤ a2 then (some (0 : Int32)) else (some (1 : Int32))) else if a0 = (124 : Int32) then (if a1 = 0 then (if a2 = 0 then (some (0 : Int32)) else (some (1 : Int32))) else (some (1 : Int32))) else (if a2 = 0 then (some (0 : Int32)) else ab_ck (ab_nz a2) ((some (a1 - a1 / a2 * a2)))))
set_option maxRecDepth 100000 in
set_option maxHeartbeats 4000000 in
theorem e_X7_worked {sc : Nat × (Nat → Int32)} {r : Option Nat × Option Nat} {a0 : Int32} {a1 : Int32} {a2 : Int32} {σ : ab_F} {res : Int32} (h : f_X7_worked a0 a1 a2 σ = some res) : ab_E mX7_worked 0 sc 0 [some (.int a0), some (.int a1), some (.int a2)] [] (σ, r) (fun v S => v = some (.int res) ∧ S = (σ, r)) := by
  unfold f_X7_worked at h
  refine z_iload_n (pc2 := 1) rfl dX7_worked_0 rfl ?_
  by_cases hc1 : a0 = (38 : Int32)
  · replace h := ab_pos hc1 h
    refine ab_ls (off := 97) (tgt := 98) dX7_worked_1 (by decide) (by rw [hc1]; decide) (by decide) ?_
    refine z_iload_n (pc2 := 99) rfl dX7_worked_98 rfl ?_
    refine z_if_eq (pc2 := 102) (tgt := 110) rfl dX7_worked_99 (by decide) (fun hc2 => ?_) (fun hc2 => ?_)
    · replace h := ab_pos hc2 h
      refine z_iconst (pc2 := 111) rfl dX7_worked_110 lt_i_0 ?_
      exact z_iret dX7_worked_111 rfl rfl (fi_p h)
    · replace h := ab_neg hc2 h
      refine z_iload_n (pc2 := 103) rfl dX7_worked_102 rfl ?_
      refine z_if_eq (pc2 := 106) (tgt := 110) rfl dX7_worked_103 (by decide) (fun hc3 => ?_) (fun hc3 => ?_)
      · replace h := ab_pos hc3 h
        refine z_iconst (pc2 := 111) rfl dX7_worked_110 lt_i_0 ?_
        exact z_iret dX7_worked_111 rfl rfl (fi_p h)
      · replace h := ab_neg hc3 h
        refine z_iconst (pc2 := 107) rfl dX7_worked_106 lt_i_1 ?_
        refine ab_goto (tgt := 111) dX7_worked_107 (by decide) ?_
        exact z_iret dX7_worked_111 rfl rfl (fi_p h)
  · replace h := ab_neg hc1 h
    by_cases hc4 : a0 = (42 : Int32)
    · replace h := ab_pos hc4 h
      refine ab_ls (off := 152) (tgt := 153) dX7_worked_1 (by decide) (by rw [hc4]; decide) (by decide) ?_
      refine z_iload_n (pc2 := 154) rfl dX7_worked_153 rfl ?_
      refine z_iload_n (pc2 := 155) rfl dX7_worked_154 rfl ?_
      refine z_imul (pc2 := 156) rfl dX7_worked_155 ?_
      exact z_iret dX7_worked_156 rfl rfl (fi_p h)
    · replace h := ab_neg hc4 h
      by_cases hc5 : a0 = (43 : Int32)
      · replace h := ab_pos hc5 h
        refine ab_ls (off := 144) (tgt := 145) dX7_worked_1 (by decide) (by rw [hc5]; decide) (by decide) ?_
        refine z_iload_n (pc2 := 146) rfl dX7_worked_145 rfl ?_
        refine z_iload_n (pc2 := 147) rfl dX7_worked_146 rfl ?_
        refine z_iadd (pc2 := 148) rfl dX7_worked_147 ?_
        exact z_iret dX7_worked_148 rfl rfl (fi_p h)
      · replace h := ab_neg hc5 h
        by_cases hc6 : a0 = (45 : Int32)
        · replace h := ab_pos hc6 h
          refine ab_ls (off := 148) (tgt := 149) dX7_worked_1 (by decide) (by rw [hc6]; decide) (by decide) ?_
          refine z_iload_n (pc2 := 150) rfl dX7_worked_149 rfl ?_
          refine z_iload_n (pc2 := 151) rfl dX7_worked_150 rfl ?_
          refine z_isub (pc2 := 152) rfl dX7_worked_151 ?_
          exact z_iret dX7_worked_152 rfl rfl (fi_p h)
        · replace h := ab_neg hc6 h
          by_cases hc7 : a0 = (47 : Int32)
          · replace h := ab_pos hc7 h
            refine ab_ls (off := 156) (tgt := 157) dX7_worked_1 (by decide) (by rw [hc7]; decide) (by decide) ?_
            refine z_iload_n (pc2 := 158) rfl dX7_worked_157 rfl ?_
            refine z_if_ne (pc2 := 161) (tgt := 165) rfl dX7_worked_158 (by decide) (fun hc8 => ?_) (fun hc8 => ?_)
            · replace h := ab_neg hc8 h
              refine z_iload_n (pc2 := 166) rfl dX7_worked_165 rfl ?_
              refine z_iload_n (pc2 := 167) rfl dX7_worked_166 rfl ?_
              obtain ⟨hb9, h⟩ := ab_ck_e h
              refine z_idiv (pc2 := 168) rfl dX7_worked_167 (ab_nz_e hb9) ?_
              exact z_iret dX7_worked_168 rfl rfl (fi_p h)
            · replace h := ab_pos hc8 h
              refine z_iconst (pc2 := 162) rfl dX7_worked_161 lt_i_0 ?_
              refine ab_goto (tgt := 168) dX7_worked_162 (by decide) ?_
              exact z_iret dX7_worked_168 rfl rfl (fi_p h)
          · replace h := ab_neg hc7 h
            by_cases hc10 : a0 = (60 : Int32)
            · replace h := ab_pos hc10 h
              refine ab_ls (off := 111) (tgt := 112) dX7_worked_1 (by decide) (by rw [hc10]; decide) (by decide) ?_
              refine z_iload_n (pc2 := 113) rfl dX7_worked_112 rfl ?_
              refine z_iload_n (pc2 := 114) rfl dX7_worked_113 rfl ?_
              refine z_icmp_ge (pc2 := 117) (tgt := 121) rfl dX7_worked_114 (by decide) (fun hc11 => ?_) (fun hc11 => ?_)
              · replace h := ab_pos hc11 h
                refine z_iconst (pc2 := 122) rfl dX7_worked_121 lt_i_0 ?_
                exact z_iret dX7_worked_122 rfl rfl (fi_p h)
              · replace h := ab_neg hc11 h
                refine z_iconst (pc2 := 118) rfl dX7_worked_117 lt_i_1 ?_
                refine ab_goto (tgt := 122) dX7_worked_118 (by decide) ?_
                exact z_iret dX7_worked_122 rfl rfl (fi_p h)
            · replace h := ab_neg hc10 h
              by_cases hc12 : a0 = (61 : Int32)
              · replace h := ab_pos hc12 h
                refine ab_ls (off := 122) (tgt := 123) dX7_worked_1 (by decide) (by rw [hc12]; decide) (by decide) ?_
                refine z_iload_n (pc2 := 124) rfl dX7_worked_123 rfl ?_
                refine z_iload_n (pc2 := 125) rfl dX7_worked_124 rfl ?_
                refine z_icmp_ne (pc2 := 128) (tgt := 132) rfl dX7_worked_125 (by decide) (fun hc13 => ?_) (fun hc13 => ?_)
                · replace h := ab_neg hc13 h
                  refine z_iconst (pc2 := 133) rfl dX7_worked_132 lt_i_0 ?_
                  exact z_iret dX7_worked_133 rfl rfl (fi_p h)
                · replace h := ab_pos hc13 h
                  refine z_iconst (pc2 := 129) rfl dX7_worked_128 lt_i_1 ?_
                  refine ab_goto (tgt := 133) dX7_worked_129 (by decide) ?_
                  exact z_iret dX7_worked_133 rfl rfl (fi_p h)
              · replace h := ab_neg hc12 h
                by_cases hc14 : a0 = (62 : Int32)
                · replace h := ab_pos hc14 h
                  refine ab_ls (off := 133) (tgt := 134) dX7_worked_1 (by decide) (by rw [hc14]; decide) (by decide) ?_
                  refine z_iload_n (pc2 := 135) rfl dX7_worked_134 rfl ?_
                  refine z_iload_n (pc2 := 136) rfl dX7_worked_135 rfl ?_
                  refine z_icmp_le (pc2 := 139) (tgt := 143) rfl dX7_worked_136 (by decide) (fun hc15 => ?_) (fun hc15 => ?_)
                  · replace h := ab_pos hc15 h
                    refine z_iconst (pc2 := 144) rfl dX7_worked_143 lt_i_0 ?_
                    exact z_iret dX7_worked_144 rfl rfl (fi_p h)
                  · replace h := ab_neg hc15 h
                    refine z_iconst (pc2 := 140) rfl dX7_worked_139 lt_i_1 ?_
                    refine ab_goto (tgt := 144) dX7_worked_140 (by decide) ?_
                    exact z_iret dX7_worked_144 rfl rfl (fi_p h)
                · replace h := ab_neg hc14 h
                  by_cases hc16 : a0 = (124 : Int32)
                  · replace h := ab_pos hc16 h
                    refine ab_ls (off := 83) (tgt := 84) dX7_worked_1 (by decide) (by rw [hc16]; decide) (by decide) ?_
                    refine z_iload_n (pc2 := 85) rfl dX7_worked_84 rfl ?_
                    refine z_if_ne (pc2 := 88) (tgt := 92) rfl dX7_worked_85 (by decide) (fun hc17 => ?_) (fun hc17 => ?_)
                    · replace h := ab_neg hc17 h
                      refine z_iconst (pc2 := 93) rfl dX7_worked_92 lt_i_1 ?_
                      refine ab_goto (tgt := 97) dX7_worked_93 (by decide) ?_
                      exact z_iret dX7_worked_97 rfl rfl (fi_p h)
                    · replace h := ab_pos hc17 h
                      refine z_iload_n (pc2 := 89) rfl dX7_worked_88 rfl ?_
                      refine z_if_eq (pc2 := 92) (tgt := 96) rfl dX7_worked_89 (by decide) (fun hc18 => ?_) (fun hc18 => ?_)
                      · replace h := ab_pos hc18 h
                        refine z_iconst (pc2 := 97) rfl dX7_worked_96 lt_i_0 ?_
                        exact z_iret dX7_worked_97 rfl rfl (fi_p h)
                      · replace h := ab_neg hc18 h
                        refine z_iconst (pc2 := 93) rfl dX7_worked_92 lt_i_1 ?_
                        refine ab_goto (tgt := 97) dX7_worked_93 (by decide) ?_
                        exact z_iret dX7_worked_97 rfl rfl (fi_p h)
                  · replace h := ab_neg hc16 h
                    refine ab_ls (off := 168) (tgt := 169) dX7_worked_1 (by decide) (by show Op.lookupswitch.offset [(38, 97), (42, 152), (43, 144), (45, 148), (47, 156), (60, 111), (61, 122), (62, 133), (124, 83)] 168 _ = _; rw [lv_osw hc1 (by decide)]; rw [lv_osw hc4 (by decide)]; rw [lv_osw hc5 (by decide)]; rw [lv_osw hc6 (by decide)]; rw [lv_osw hc7 (by decide)]; rw [lv_osw hc10 (by decide)]; rw [lv_osw hc12 (by decide)]; rw [lv_osw hc14 (by decide)]; rw [lv_osw hc16 (by decide)]; rfl) (by decide) ?_
                    refine z_iload_n (pc2 := 170) rfl dX7_worked_169 rfl ?_
                    refine z_if_ne (pc2 := 173) (tgt := 177) rfl dX7_worked_170 (by decide) (fun hc19 => ?_) (fun hc19 => ?_)
                    · replace h := ab_neg hc19 h
                      refine z_iload_n (pc2 := 178) rfl dX7_worked_177 rfl ?_
                      refine z_iload_n (pc2 := 179) rfl dX7_worked_178 rfl ?_
                      obtain ⟨hb20, h⟩ := ab_ck_e h
                      refine z_irem (pc2 := 180) rfl dX7_worked_179 (ab_nz_e hb20) ?_
                      exact z_iret dX7_worked_180 rfl rfl (fi_p h)
                    · replace h := ab_pos hc19 h
                      refine z_iconst (pc2 := 174) rfl dX7_worked_173 lt_i_0 ?_
                      refine ab_goto (tgt := 180) dX7_worked_174 (by decide) ?_
                      exact z_iret dX7_worked_180 rfl rfl (fi_p h)
def f_X7_gives_L6 (t : Nat) (p1 : Int32) (p2 : Int32) (p3 : Int32) (K : ab_F → Option (Int32 × ab_F)) : Nat → Int32 → Int32 → ab_F → Option (Int32 × ab_F)
  | 0, _, _, _ => none
  | n + 1, u4, u5, σ => (if (σ t 0) ≤ u5 then (K σ) else ab_ck (ab_ib u5 60) (ab_lt ((σ (t + 1) (u5).toNatClampNeg)) (fun x3 => (if x3 < (-3 : Int32) then (if x3 = (-33 : Int32) then (if u4 < 0 then (if u4 < (1 : Int32) then ab_lt (u5 + (1 : Int32)) (fun x17 => (f_X7_gives_L6 t p1 p2 p3 K n u4 x17 σ)) else ab_lt (u4 + (-1 : Int32)) (fun x18 => ab_ck (ab_ib x18 60) (ab_ck (ab_ib (x18 + (1 : Int32)) 60) ((f_X7_worked (-x3) (σ (t + 2) (x18).toNatClampNeg) (σ (t + 2) ((x18 + (1 : Int32))).toNatClampNeg) σ).bind (fun q21 => ab_ck (ab_ib x18 60) (ab_lt (ab_u σ (t + 2) (x18).toNatClampNeg q21) (fun (s23 : ab_F) => ab_lt (u5 + (1 : Int32)) (fun x24 => (f_X7_gives_L6 t p1 p2 p3 K n x18 x24 s23))))))))) else ab_ck (ab_ib u4 60) ((if (σ (t + 2) (u4).toNatClampNeg) = 0 then ab_ck (ab_ib u4 60) (ab_lt (ab_u σ (t + 2) (u4).toNatClampNeg (1 : Int32)) (fun (s31 : ab_F) => ab_lt (u5 + (1 : Int32)) (fun x32 => (f_X7_gives_L6 t p1 p2 p3 K n u4 x32 s31)))) else ab_ck (ab_ib u4 60) (ab_lt (ab_u σ (t + 2) (u4).toNatClampNeg (0 : Int32)) (fun (s28 : ab_F) => ab_lt (u5 + (1 : Int32)) (fun x29 => (f_X7_gives_L6 t p1 p2 p3 K n u4 x29 s28))))))) else (if u4 < (1 : Int32) then ab_lt (u5 + (1 : Int32)) (fun x7 => (f_X7_gives_L6 t p1 p2 p3 K n u4 x7 σ)) else ab_lt (u4 + (-1 : Int32)) (fun x8 => ab_ck (ab_ib x8 60) (ab_ck (ab_ib (x8 + (1 : Int32)) 60) ((f_X7_worked (-x3) (σ (t + 2) (x8).toNatClampNeg) (σ (t + 2) ((x8 + (1 : Int32))).toNatClampNeg) σ).bind (fun q11 => ab_ck (ab_ib x8 60) (ab_lt (ab_u σ (t + 2) (x8).toNatClampNeg q11) (fun (s13 : ab_F) => ab_lt (u5 + (1 : Int32)) (fun x14 => (f_X7_gives_L6 t p1 p2 p3 K n x8 x14 s13)))))))))) else (if (59 : Int32) ≤ u4 then (if x3 = (-33 : Int32) then (if u4 < 0 then (if u4 < (1 : Int32) then ab_lt (u5 + (1 : Int32)) (fun x46 => (f_X7_gives_L6 t p1 p2 p3 K n u4 x46 σ)) else ab_lt (u4 + (-1 : Int32)) (fun x47 => ab_ck (ab_ib x47 60) (ab_ck (ab_ib (x47 + (1 : Int32)) 60) ((f_X7_worked (-x3) (σ (t + 2) (x47).toNatClampNeg) (σ (t + 2) ((x47 + (1 : Int32))).toNatClampNeg) σ).bind (fun q50 => ab_ck (ab_ib x47 60) (ab_lt (ab_u σ (t + 2) (x47).toNatClampNeg q50) (fun (s52 : ab_F) => ab_lt (u5 + (1 : Int32)) (fun x53 => (f_X7_gives_L6 t p1 p2 p3 K n x47 x53 s52))))))))) else ab_ck (ab_ib u4 60) ((if (σ (t + 2) (u4).toNatClampNeg) = 0 then ab_ck (ab_ib u4 60) (ab_lt (ab_u σ (t + 2) (u4).toNatClampNeg (1 : Int32)) (fun (s60 : ab_F) => ab_lt (u5 + (1 : Int32)) (fun x61 => (f_X7_gives_L6 t p1 p2 p3 K n u4 x61 s60)))) else ab_ck (ab_ib u4 60) (ab_lt (ab_u σ (t + 2) (u4).toNatClampNeg (0 : Int32)) (fun (s57 : ab_F) => ab_lt (u5 + (1 : Int32)) (fun x58 => (f_X7_gives_L6 t p1 p2 p3 K n u4 x58 s57))))))) else (if u4 < (1 : Int32) then ab_lt (u5 + (1 : Int32)) (fun x36 => (f_X7_gives_L6 t p1 p2 p3 K n u4 x36 σ)) else ab_lt (u4 + (-1 : Int32)) (fun x37 => ab_ck (ab_ib x37 60) (ab_ck (ab_ib (x37 + (1 : Int32)) 60) ((f_X7_worked (-x3) (σ (t + 2) (x37).toNatClampNeg) (σ (t + 2) ((x37 + (1 : Int32))).toNatClampNeg) σ).bind (fun q40 => ab_ck (ab_ib x37 60) (ab_lt (ab_u σ (t + 2) (x37).toNatClampNeg q40) (fun (s42 : ab_F) => ab_lt (u5 + (1 : Int32)) (fun x43 => (f_X7_gives_L6 t p1 p2 p3 K n x37 x43 s42)))))))))) else ab_lt (u4 + (1 : Int32)) (fun x62 => (if x3 < 0 then (if x3 = (-1 : Int32) then ab_ck (ab_ib x62 60) (ab_lt (ab_u σ (t + 2) (x62).toNatClampNeg p1) (fun (s73 : ab_F) => ab_lt (u5 + (1 : Int32)) (fun x74 => (f_X7_gives_L6 t p1 p2 p3 K n x62 x74 s73)))) else (if x3 = (-2 : Int32) then ab_ck (ab_ib x62 60) (ab_lt (ab_u σ (t + 2) (x62).toNatClampNeg p2) (fun (s70 : ab_F) => ab_lt (u5 + (1 : Int32)) (fun x71 => (f_X7_gives_L6 t p1 p2 p3 K n x62 x71 s70)))) else ab_ck (ab_ib x62 60) (ab_lt (ab_u σ (t + 2) (x62).toNatClampNeg p3) (fun (s67 : ab_F) => ab_lt (u5 + (1 : Int32)) (fun x68 => (f_X7_gives_L6 t p1 p2 p3 K n x62 x68 s67)))))) else ab_ck (ab_ib x62 60) (ab_lt (ab_u σ (t + 2) (x62).toNatClampNeg x3) (fun (s76 : ab_F) => ab_lt (u5 + (1 : Int32)) (fun x77 => (f_X7_gives_L6 t p1 p2 p3 K n x62 x77 s76)))))))))))
set_option maxRecDepth 100000 in
set_option maxHeartbeats 4000000 in
theorem e_X7_gives_32_L6 {sc : Nat × (Nat → Int32)} {r : Option Nat × Option Nat} {p1 : Int32} {p2 : Int32} {p3 : Int32} {K : ab_F → Option (Int32 × ab_F)} {res : (Int32 × ab_F)} (hK : ∀ (σ : ab_F), K σ = some res → ab_E mX7_gives 1 sc 164 [some (.ref 32), none, none, none, none, none, none] [] (σ, r) (fun v S => v = some (.int res.1) ∧ S = (res.2, r))) : ∀ (n : Nat) (u4 : Int32) (u5 : Int32) (σ : ab_F), f_X7_gives_L6 32 p1 p2 p3 K n u4 u5 σ = some res → ab_E mX7_gives 1 sc 6 [some (.ref 32), some (.int p1), some (.int p2), some (.int p3), some (.int u4), some (.int u5), none] [] (σ, r) (fun v S => v = some (.int res.1) ∧ S = (res.2, r)) := by
  intro n
  induction n with
  | zero =>
    intro u4 u5 σ h
    rw [f_X7_gives_L6] at h
    cases h
  | succ n ih =>
    intro u4 u5 σ h
    rw [f_X7_gives_L6] at h
    refine z_iload (pc2 := 8) rfl dX7_gives_6 rfl ?_
    refine z_aload_n (pc2 := 9) rfl dX7_gives_8 rfl ?_
    refine z_getI 32 7 0 (pc2 := 12) rfl dX7_gives_9 rfl rfl ff_7_0 wd_119 ?_
    refine z_icmp_ge (pc2 := 15) (tgt := 164) rfl dX7_gives_12 (by decide) (fun hc1 => ?_) (fun hc1 => ?_)
    · replace h := ab_pos hc1 h
      refine z_fgt [true, false, false, false, false, false, false] (L2 := [some (.ref 32), none, none, none, none, none, none]) rfl ?_
      exact hK  _ h
    · replace h := ab_neg hc1 h
      refine z_aload_n (pc2 := 16) rfl dX7_gives_15 rfl ?_
      refine z_getR 32 7 1 33 (pc2 := 19) rfl dX7_gives_16 rfl rfl ff_7_1 wd_122 rfl ?_
      refine z_iload (pc2 := 21) rfl dX7_gives_19 rfl ?_
      obtain ⟨hb2, h⟩ := ab_ck_e h
      refine z_iald 33 (pc2 := 22) (j := (u5).toNatClampNeg) rfl dX7_gives_21 rfl rfl hb2 rfl ?_
      obtain ⟨x3, hxx3, h⟩ := ab_lt_e h
      refine z_top hxx3 ?_
      refine z_istore (pc2 := 24) (L2 := [some (.ref 32), some (.int p1), some (.int p2), some (.int p3), some (.int u4), some (.int u5), some (.int x3)]) rfl dX7_gives_22 (by decide) rfl rfl ?_
      refine z_iload (pc2 := 26) rfl dX7_gives_24 rfl ?_
      refine z_bipush (pc2 := 28) rfl dX7_gives_26 lt_b_m3 ?_
      refine z_icmp_lt (pc2 := 31) (tgt := 83) rfl dX7_gives_28 (by decide) (fun hc4 => ?_) (fun hc4 => ?_)
      · replace h := ab_pos hc4 h
        refine z_iload (pc2 := 85) rfl dX7_gives_83 rfl ?_
        refine z_bipush (pc2 := 87) rfl dX7_gives_85 lt_b_m33 ?_
        refine z_icmp_ne (pc2 := 90) (tgt := 120) rfl dX7_gives_87 (by decide) (fun hc5 => ?_) (fun hc5 => ?_)
        · replace h := ab_neg hc5 h
          refine z_iload (pc2 := 122) rfl dX7_gives_120 rfl ?_
          refine z_iconst (pc2 := 123) rfl dX7_gives_122 lt_i_1 ?_
          refine z_icmp_lt (pc2 := 126) (tgt := 158) rfl dX7_gives_123 (by decide) (fun hc6 => ?_) (fun hc6 => ?_)
          · replace h := ab_pos hc6 h
            obtain ⟨x7, hxx7, h⟩ := ab_lt_e h
            refine z_iinc (pc2 := 161) (v := x7) (L2 := [some (.ref 32), some (.int p1), some (.int p2), some (.int p3), some (.int u4), some (.int x7), some (.int x3)]) rfl dX7_gives_158 rfl (by rw [hxx7]; rfl) (by decide) rfl rfl ?_
            refine ab_goto (tgt := 6) dX7_gives_161 (by decide) ?_
            refine z_fgt [true, true, true, true, true, true, false] (L2 := [some (.ref 32), some (.int p1), some (.int p2), some (.int p3), some (.int u4), some (.int x7), none]) rfl ?_
            exact ih _ _ _ h
          · replace h := ab_neg hc6 h
            obtain ⟨x8, hxx8, h⟩ := ab_lt_e h
            refine z_iinc (pc2 := 129) (v := x8) (L2 := [some (.ref 32), some (.int p1), some (.int p2), some (.int p3), some (.int x8), some (.int u5), some (.int x3)]) rfl dX7_gives_126 rfl (by rw [hxx8]; rfl) (by decide) rfl rfl ?_
            refine z_aload_n (pc2 := 130) rfl dX7_gives_129 rfl ?_
            refine z_getR 32 7 2 34 (pc2 := 133) rfl dX7_gives_130 rfl rfl ff_7_2 wd_123 rfl ?_
            refine z_iload (pc2 := 135) rfl dX7_gives_133 rfl ?_
            refine z_iload (pc2 := 137) rfl dX7_gives_135 rfl ?_
            refine z_ineg (pc2 := 138) rfl dX7_gives_137 ?_
            refine z_aload_n (pc2 := 139) rfl dX7_gives_138 rfl ?_
            refine z_getR 32 7 2 34 (pc2 := 142) rfl dX7_gives_139 rfl rfl ff_7_2 wd_123 rfl ?_
            refine z_iload (pc2 := 144) rfl dX7_gives_142 rfl ?_
            obtain ⟨hb9, h⟩ := ab_ck_e h
            refine z_iald 34 (pc2 := 145) (j := (x8).toNatClampNeg) rfl dX7_gives_144 rfl rfl hb9 rfl ?_
            refine z_aload_n (pc2 := 146) rfl dX7_gives_145 rfl ?_
            refine z_getR 32 7 2 34 (pc2 := 149) rfl dX7_gives_146 rfl rfl ff_7_2 wd_123 rfl ?_
            refine z_iload (pc2 := 151) rfl dX7_gives_149 rfl ?_
            refine z_iconst (pc2 := 152) rfl dX7_gives_151 lt_i_1 ?_
            refine z_iadd (pc2 := 153) rfl dX7_gives_152 ?_
            obtain ⟨hb10, h⟩ := ab_ck_e h
            refine z_iald 34 (pc2 := 154) (j := ((x8 + (1 : Int32))).toNatClampNeg) rfl dX7_gives_153 rfl rfl hb10 rfl ?_
            obtain ⟨q11, hq11, h⟩ := ab_bnd h
            refine z_callSi [.int (-x3), .int (σ (32 + 2) (x8).toNatClampNeg), .int (σ (32 + 2) ((x8 + (1 : Int32))).toNatClampNeg)] [some (.int (-x3)), some (.int (σ (32 + 2) (x8).toNatClampNeg)), some (.int (σ (32 + 2) ((x8 + (1 : Int32))).toNatClampNeg))] (pc2 := 157) rfl rfl dX7_gives_154 ok_X7_worked ⟨fun _ => rfl, fun _ => Nat.le_of_ble_eq_true rfl⟩ rfl wd_416 wd_417 rfl (e_X7_worked hq11) ?_
            obtain ⟨hb12, h⟩ := ab_ck_e h
            refine z_iast 34 (pc2 := 158) (j := (x8).toNatClampNeg) rfl dX7_gives_157 rfl rfl hb12 rfl ?_
            obtain ⟨s13, hs13, h⟩ := ab_lt_e h
            refine z_tops hs13 ?_
            obtain ⟨x14, hxx14, h⟩ := ab_lt_e h
            refine z_iinc (pc2 := 161) (v := x14) (L2 := [some (.ref 32), some (.int p1), some (.int p2), some (.int p3), some (.int x8), some (.int x14), some (.int x3)]) rfl dX7_gives_158 rfl (by rw [hxx14]; rfl) (by decide) rfl rfl ?_
            refine ab_goto (tgt := 6) dX7_gives_161 (by decide) ?_
            refine z_fgt [true, true, true, true, true, true, false] (L2 := [some (.ref 32), some (.int p1), some (.int p2), some (.int p3), some (.int x8), some (.int x14), none]) rfl ?_
            exact ih _ _ _ h
        · replace h := ab_pos hc5 h
          refine z_iload (pc2 := 92) rfl dX7_gives_90 rfl ?_
          refine z_if_lt (pc2 := 95) (tgt := 120) rfl dX7_gives_92 (by decide) (fun hc15 => ?_) (fun hc15 => ?_)
          · replace h := ab_pos hc15 h
            refine z_iload (pc2 := 122) rfl dX7_gives_120 rfl ?_
            refine z_iconst (pc2 := 123) rfl dX7_gives_122 lt_i_1 ?_
            refine z_icmp_lt (pc2 := 126) (tgt := 158) rfl dX7_gives_123 (by decide) (fun hc16 => ?_) (fun hc16 => ?_)
            · replace h := ab_pos hc16 h
              obtain ⟨x17, hxx17, h⟩ := ab_lt_e h
              refine z_iinc (pc2 := 161) (v := x17) (L2 := [some (.ref 32), some (.int p1), some (.int p2), some (.int p3), some (.int u4), some (.int x17), some (.int x3)]) rfl dX7_gives_158 rfl (by rw [hxx17]; rfl) (by decide) rfl rfl ?_
              refine ab_goto (tgt := 6) dX7_gives_161 (by decide) ?_
              refine z_fgt [true, true, true, true, true, true, false] (L2 := [some (.ref 32), some (.int p1), some (.int p2), some (.int p3), some (.int u4), some (.int x17), none]) rfl ?_
              exact ih _ _ _ h
            · replace h := ab_neg hc16 h
              obtain ⟨x18, hxx18, h⟩ := ab_lt_e h
              refine z_iinc (pc2 := 129) (v := x18) (L2 := [some (.ref 32), some (.int p1), some (.int p2), some (.int p3), some (.int x18), some (.int u5), some (.int x3)]) rfl dX7_gives_126 rfl (by rw [hxx18]; rfl) (by decide) rfl rfl ?_
              refine z_aload_n (pc2 := 130) rfl dX7_gives_129 rfl ?_
              refine z_getR 32 7 2 34 (pc2 := 133) rfl dX7_gives_130 rfl rfl ff_7_2 wd_123 rfl ?_
              refine z_iload (pc2 := 135) rfl dX7_gives_133 rfl ?_
              refine z_iload (pc2 := 137) rfl dX7_gives_135 rfl ?_
              refine z_ineg (pc2 := 138) rfl dX7_gives_137 ?_
              refine z_aload_n (pc2 := 139) rfl dX7_gives_138 rfl ?_
              refine z_getR 32 7 2 34 (pc2 := 142) rfl dX7_gives_139 rfl rfl ff_7_2 wd_123 rfl ?_
              refine z_iload (pc2 := 144) rfl dX7_gives_142 rfl ?_
              obtain ⟨hb19, h⟩ := ab_ck_e h
              refine z_iald 34 (pc2 := 145) (j := (x18).toNatClampNeg) rfl dX7_gives_144 rfl rfl hb19 rfl ?_
              refine z_aload_n (pc2 := 146) rfl dX7_gives_145 rfl ?_
              refine z_getR 32 7 2 34 (pc2 := 149) rfl dX7_gives_146 rfl rfl ff_7_2 wd_123 rfl ?_
              refine z_iload (pc2 := 151) rfl dX7_gives_149 rfl ?_
              refine z_iconst (pc2 := 152) rfl dX7_gives_151 lt_i_1 ?_
              refine z_iadd (pc2 := 153) rfl dX7_gives_152 ?_
              obtain ⟨hb20, h⟩ := ab_ck_e h
              refine z_iald 34 (pc2 := 154) (j := ((x18 + (1 : Int32))).toNatClampNeg) rfl dX7_gives_153 rfl rfl hb20 rfl ?_
              obtain ⟨q21, hq21, h⟩ := ab_bnd h
              refine z_callSi [.int (-x3), .int (σ (32 + 2) (x18).toNatClampNeg), .int (σ (32 + 2) ((x18 + (1 : Int32))).toNatClampNeg)] [some (.int (-x3)), some (.int (σ (32 + 2) (x18).toNatClampNeg)), some (.int (σ (32 + 2) ((x18 + (1 : Int32))).toNatClampNeg))] (pc2 := 157) rfl rfl dX7_gives_154 ok_X7_worked ⟨fun _ => rfl, fun _ => Nat.le_of_ble_eq_true rfl⟩ rfl wd_416 wd_417 rfl (e_X7_worked hq21) ?_
              obtain ⟨hb22, h⟩ := ab_ck_e h
              refine z_iast 34 (pc2 := 158) (j := (x18).toNatClampNeg) rfl dX7_gives_157 rfl rfl hb22 rfl ?_
              obtain ⟨s23, hs23, h⟩ := ab_lt_e h
              refine z_tops hs23 ?_
              obtain ⟨x24, hxx24, h⟩ := ab_lt_e h
              refine z_iinc (pc2 := 161) (v := x24) (L2 := [some (.ref 32), some (.int p1), some (.int p2), some (.int p3), some (.int x18), some (.int x24), some (.int x3)]) rfl dX7_gives_158 rfl (by rw [hxx24]; rfl) (by decide) rfl rfl ?_
              refine ab_goto (tgt := 6) dX7_gives_161 (by decide) ?_
              refine z_fgt [true, true, true, true, true, true, false] (L2 := [some (.ref 32), some (.int p1), some (.int p2), some (.int p3), some (.int x18), some (.int x24), none]) rfl ?_
              exact ih _ _ _ h
          · replace h := ab_neg hc15 h
            refine z_aload_n (pc2 := 96) rfl dX7_gives_95 rfl ?_
            refine z_getR 32 7 2 34 (pc2 := 99) rfl dX7_gives_96 rfl rfl ff_7_2 wd_123 rfl ?_
            refine z_iload (pc2 := 101) rfl dX7_gives_99 rfl ?_
            refine z_aload_n (pc2 := 102) rfl dX7_gives_101 rfl ?_
            refine z_getR 32 7 2 34 (pc2 := 105) rfl dX7_gives_102 rfl rfl ff_7_2 wd_123 rfl ?_
            refine z_iload (pc2 := 107) rfl dX7_gives_105 rfl ?_
            obtain ⟨hb25, h⟩ := ab_ck_e h
            refine z_iald 34 (pc2 := 108) (j := (u4).toNatClampNeg) rfl dX7_gives_107 rfl rfl hb25 rfl ?_
            refine z_if_ne (pc2 := 111) (tgt := 115) rfl dX7_gives_108 (by decide) (fun hc26 => ?_) (fun hc26 => ?_)
            · replace h := ab_neg hc26 h
              refine z_iconst (pc2 := 116) rfl dX7_gives_115 lt_i_0 ?_
              obtain ⟨hb27, h⟩ := ab_ck_e h
              refine z_iast 34 (pc2 := 117) (j := (u4).toNatClampNeg) rfl dX7_gives_116 rfl rfl hb27 rfl ?_
              obtain ⟨s28, hs28, h⟩ := ab_lt_e h
              refine z_tops hs28 ?_
              refine ab_goto (tgt := 158) dX7_gives_117 (by decide) ?_
              obtain ⟨x29, hxx29, h⟩ := ab_lt_e h
              refine z_iinc (pc2 := 161) (v := x29) (L2 := [some (.ref 32), some (.int p1), some (.int p2), some (.int p3), some (.int u4), some (.int x29), some (.int x3)]) rfl dX7_gives_158 rfl (by rw [hxx29]; rfl) (by decide) rfl rfl ?_
              refine ab_goto (tgt := 6) dX7_gives_161 (by decide) ?_
              refine z_fgt [true, true, true, true, true, true, false] (L2 := [some (.ref 32), some (.int p1), some (.int p2), some (.int p3), some (.int u4), some (.int x29), none]) rfl ?_
              exact ih _ _ _ h
            · replace h := ab_pos hc26 h
              refine z_iconst (pc2 := 112) rfl dX7_gives_111 lt_i_1 ?_
              refine ab_goto (tgt := 116) dX7_gives_112 (by decide) ?_
              obtain ⟨hb30, h⟩ := ab_ck_e h
              refine z_iast 34 (pc2 := 117) (j := (u4).toNatClampNeg) rfl dX7_gives_116 rfl rfl hb30 rfl ?_
              obtain ⟨s31, hs31, h⟩ := ab_lt_e h
              refine z_tops hs31 ?_
              refine ab_goto (tgt := 158) dX7_gives_117 (by decide) ?_
              obtain ⟨x32, hxx32, h⟩ := ab_lt_e h
              refine z_iinc (pc2 := 161) (v := x32) (L2 := [some (.ref 32), some (.int p1), some (.int p2), some (.int p3), some (.int u4), some (.int x32), some (.int x3)]) rfl dX7_gives_158 rfl (by rw [hxx32]; rfl) (by decide) rfl rfl ?_
              refine ab_goto (tgt := 6) dX7_gives_161 (by decide) ?_
              refine z_fgt [true, true, true, true, true, true, false] (L2 := [some (.ref 32), some (.int p1), some (.int p2), some (.int p3), some (.int u4), some (.int x32), none]) rfl ?_
              exact ih _ _ _ h
      · replace h := ab_neg hc4 h
        refine z_iload (pc2 := 33) rfl dX7_gives_31 rfl ?_
        refine z_bipush (pc2 := 35) rfl dX7_gives_33 lt_b_59 ?_
        refine z_icmp_ge (pc2 := 38) (tgt := 83) rfl dX7_gives_35 (by decide) (fun hc33 => ?_) (fun hc33 => ?_)
        · replace h := ab_pos hc33 h
          refine z_iload (pc2 := 85) rfl dX7_gives_83 rfl ?_
          refine z_bipush (pc2 := 87) rfl dX7_gives_85 lt_b_m33 ?_
          refine z_icmp_ne (pc2 := 90) (tgt := 120) rfl dX7_gives_87 (by decide) (fun hc34 => ?_) (fun hc34 => ?_)
          · replace h := ab_neg hc34 h
            refine z_iload (pc2 := 122) rfl dX7_gives_120 rfl ?_
            refine z_iconst (pc2 := 123) rfl dX7_gives_122 lt_i_1 ?_
            refine z_icmp_lt (pc2 := 126) (tgt := 158) rfl dX7_gives_123 (by decide) (fun hc35 => ?_) (fun hc35 => ?_)
            · replace h := ab_pos hc35 h
              obtain ⟨x36, hxx36, h⟩ := ab_lt_e h
              refine z_iinc (pc2 := 161) (v := x36) (L2 := [some (.ref 32), some (.int p1), some (.int p2), some (.int p3), some (.int u4), some (.int x36), some (.int x3)]) rfl dX7_gives_158 rfl (by rw [hxx36]; rfl) (by decide) rfl rfl ?_
              refine ab_goto (tgt := 6) dX7_gives_161 (by decide) ?_
              refine z_fgt [true, true, true, true, true, true, false] (L2 := [some (.ref 32), some (.int p1), some (.int p2), some (.int p3), some (.int u4), some (.int x36), none]) rfl ?_
              exact ih _ _ _ h
            · replace h := ab_neg hc35 h
              obtain ⟨x37, hxx37, h⟩ := ab_lt_e h
              refine z_iinc (pc2 := 129) (v := x37) (L2 := [some (.ref 32), some (.int p1), some (.int p2), some (.int p3), some (.int x37), some (.int u5), some (.int x3)]) rfl dX7_gives_126 rfl (by rw [hxx37]; rfl) (by decide) rfl rfl ?_
              refine z_aload_n (pc2 := 130) rfl dX7_gives_129 rfl ?_
              refine z_getR 32 7 2 34 (pc2 := 133) rfl dX7_gives_130 rfl rfl ff_7_2 wd_123 rfl ?_
              refine z_iload (pc2 := 135) rfl dX7_gives_133 rfl ?_
              refine z_iload (pc2 := 137) rfl dX7_gives_135 rfl ?_
              refine z_ineg (pc2 := 138) rfl dX7_gives_137 ?_
              refine z_aload_n (pc2 := 139) rfl dX7_gives_138 rfl ?_
              refine z_getR 32 7 2 34 (pc2 := 142) rfl dX7_gives_139 rfl rfl ff_7_2 wd_123 rfl ?_
              refine z_iload (pc2 := 144) rfl dX7_gives_142 rfl ?_
              obtain ⟨hb38, h⟩ := ab_ck_e h
              refine z_iald 34 (pc2 := 145) (j := (x37).toNatClampNeg) rfl dX7_gives_144 rfl rfl hb38 rfl ?_
              refine z_aload_n (pc2 := 146) rfl dX7_gives_145 rfl ?_
              refine z_getR 32 7 2 34 (pc2 := 149) rfl dX7_gives_146 rfl rfl ff_7_2 wd_123 rfl ?_
              refine z_iload (pc2 := 151) rfl dX7_gives_149 rfl ?_
              refine z_iconst (pc2 := 152) rfl dX7_gives_151 lt_i_1 ?_
              refine z_iadd (pc2 := 153) rfl dX7_gives_152 ?_
              obtain ⟨hb39, h⟩ := ab_ck_e h
              refine z_iald 34 (pc2 := 154) (j := ((x37 + (1 : Int32))).toNatClampNeg) rfl dX7_gives_153 rfl rfl hb39 rfl ?_
              obtain ⟨q40, hq40, h⟩ := ab_bnd h
              refine z_callSi [.int (-x3), .int (σ (32 + 2) (x37).toNatClampNeg), .int (σ (32 + 2) ((x37 + (1 : Int32))).toNatClampNeg)] [some (.int (-x3)), some (.int (σ (32 + 2) (x37).toNatClampNeg)), some (.int (σ (32 + 2) ((x37 + (1 : Int32))).toNatClampNeg))] (pc2 := 157) rfl rfl dX7_gives_154 ok_X7_worked ⟨fun _ => rfl, fun _ => Nat.le_of_ble_eq_true rfl⟩ rfl wd_416 wd_417 rfl (e_X7_worked hq40) ?_
              obtain ⟨hb41, h⟩ := ab_ck_e h
              refine z_iast 34 (pc2 := 158) (j := (x37).toNatClampNeg) rfl dX7_gives_157 rfl rfl hb41 rfl ?_
              obtain ⟨s42, hs42, h⟩ := ab_lt_e h
              refine z_tops hs42 ?_
              obtain ⟨x43, hxx43, h⟩ := ab_lt_e h
              refine z_iinc (pc2 := 161) (v := x43) (L2 := [some (.ref 32), some (.int p1), some (.int p2), some (.int p3), some (.int x37), some (.int x43), some (.int x3)]) rfl dX7_gives_158 rfl (by rw [hxx43]; rfl) (by decide) rfl rfl ?_
              refine ab_goto (tgt := 6) dX7_gives_161 (by decide) ?_
              refine z_fgt [true, true, true, true, true, true, false] (L2 := [some (.ref 32), some (.int p1), some (.int p2), some (.int p3), some (.int x37), some (.int x43), none]) rfl ?_
              exact ih _ _ _ h
          · replace h := ab_pos hc34 h
            refine z_iload (pc2 := 92) rfl dX7_gives_90 rfl ?_
            refine z_if_lt (pc2 := 95) (tgt := 120) rfl dX7_gives_92 (by decide) (fun hc44 => ?_) (fun hc44 => ?_)
            · replace h := ab_pos hc44 h
              refine z_iload (pc2 := 122) rfl dX7_gives_120 rfl ?_
              refine z_iconst (pc2 := 123) rfl dX7_gives_122 lt_i_1 ?_
              refine z_icmp_lt (pc2 := 126) (tgt := 158) rfl dX7_gives_123 (by decide) (fun hc45 => ?_) (fun hc45 => ?_)
              · replace h := ab_pos hc45 h
                obtain ⟨x46, hxx46, h⟩ := ab_lt_e h
                refine z_iinc (pc2 := 161) (v := x46) (L2 := [some (.ref 32), some (.int p1), some (.int p2), some (.int p3), some (.int u4), some (.int x46), some (.int x3)]) rfl dX7_gives_158 rfl (by rw [hxx46]; rfl) (by decide) rfl rfl ?_
                refine ab_goto (tgt := 6) dX7_gives_161 (by decide) ?_
                refine z_fgt [true, true, true, true, true, true, false] (L2 := [some (.ref 32), some (.int p1), some (.int p2), some (.int p3), some (.int u4), some (.int x46), none]) rfl ?_
                exact ih _ _ _ h
              · replace h := ab_neg hc45 h
                obtain ⟨x47, hxx47, h⟩ := ab_lt_e h
                refine z_iinc (pc2 := 129) (v := x47) (L2 := [some (.ref 32), some (.int p1), some (.int p2), some (.int p3), some (.int x47), some (.int u5), some (.int x3)]) rfl dX7_gives_126 rfl (by rw [hxx47]; rfl) (by decide) rfl rfl ?_
                refine z_aload_n (pc2 := 130) rfl dX7_gives_129 rfl ?_
                refine z_getR 32 7 2 34 (pc2 := 133) rfl dX7_gives_130 rfl rfl ff_7_2 wd_123 rfl ?_
                refine z_iload (pc2 := 135) rfl dX7_gives_133 rfl ?_
                refine z_iload (pc2 := 137) rfl dX7_gives_135 rfl ?_
                refine z_ineg (pc2 := 138) rfl dX7_gives_137 ?_
                refine z_aload_n (pc2 := 139) rfl dX7_gives_138 rfl ?_
                refine z_getR 32 7 2 34 (pc2 := 142) rfl dX7_gives_139 rfl rfl ff_7_2 wd_123 rfl ?_
                refine z_iload (pc2 := 144) rfl dX7_gives_142 rfl ?_
                obtain ⟨hb48, h⟩ := ab_ck_e h
                refine z_iald 34 (pc2 := 145) (j := (x47).toNatClampNeg) rfl dX7_gives_144 rfl rfl hb48 rfl ?_
                refine z_aload_n (pc2 := 146) rfl dX7_gives_145 rfl ?_
                refine z_getR 32 7 2 34 (pc2 := 149) rfl dX7_gives_146 rfl rfl ff_7_2 wd_123 rfl ?_
                refine z_iload (pc2 := 151) rfl dX7_gives_149 rfl ?_
                refine z_iconst (pc2 := 152) rfl dX7_gives_151 lt_i_1 ?_
                refine z_iadd (pc2 := 153) rfl dX7_gives_152 ?_
                obtain ⟨hb49, h⟩ := ab_ck_e h
                refine z_iald 34 (pc2 := 154) (j := ((x47 + (1 : Int32))).toNatClampNeg) rfl dX7_gives_153 rfl rfl hb49 rfl ?_
                obtain ⟨q50, hq50, h⟩ := ab_bnd h
                refine z_callSi [.int (-x3), .int (σ (32 + 2) (x47).toNatClampNeg), .int (σ (32 + 2) ((x47 + (1 : Int32))).toNatClampNeg)] [some (.int (-x3)), some (.int (σ (32 + 2) (x47).toNatClampNeg)), some (.int (σ (32 + 2) ((x47 + (1 : Int32))).toNatClampNeg))] (pc2 := 157) rfl rfl dX7_gives_154 ok_X7_worked ⟨fun _ => rfl, fun _ => Nat.le_of_ble_eq_true rfl⟩ rfl wd_416 wd_417 rfl (e_X7_worked hq50) ?_
                obtain ⟨hb51, h⟩ := ab_ck_e h
                refine z_iast 34 (pc2 := 158) (j := (x47).toNatClampNeg) rfl dX7_gives_157 rfl rfl hb51 rfl ?_
                obtain ⟨s52, hs52, h⟩ := ab_lt_e h
                refine z_tops hs52 ?_
                obtain ⟨x53, hxx53, h⟩ := ab_lt_e h
                refine z_iinc (pc2 := 161) (v := x53) (L2 := [some (.ref 32), some (.int p1), some (.int p2), some (.int p3), some (.int x47), some (.int x53), some (.int x3)]) rfl dX7_gives_158 rfl (by rw [hxx53]; rfl) (by decide) rfl rfl ?_
                refine ab_goto (tgt := 6) dX7_gives_161 (by decide) ?_
                refine z_fgt [true, true, true, true, true, true, false] (L2 := [some (.ref 32), some (.int p1), some (.int p2), some (.int p3), some (.int x47), some (.int x53), none]) rfl ?_
                exact ih _ _ _ h
            · replace h := ab_neg hc44 h
              refine z_aload_n (pc2 := 96) rfl dX7_gives_95 rfl ?_
              refine z_getR 32 7 2 34 (pc2 := 99) rfl dX7_gives_96 rfl rfl ff_7_2 wd_123 rfl ?_
              refine z_iload (pc2 := 101) rfl dX7_gives_99 rfl ?_
              refine z_aload_n (pc2 := 102) rfl dX7_gives_101 rfl ?_
              refine z_getR 32 7 2 34 (pc2 := 105) rfl dX7_gives_102 rfl rfl ff_7_2 wd_123 rfl ?_
              refine z_iload (pc2 := 107) rfl dX7_gives_105 rfl ?_
              obtain ⟨hb54, h⟩ := ab_ck_e h
              refine z_iald 34 (pc2 := 108) (j := (u4).toNatClampNeg) rfl dX7_gives_107 rfl rfl hb54 rfl ?_
              refine z_if_ne (pc2 := 111) (tgt := 115) rfl dX7_gives_108 (by decide) (fun hc55 => ?_) (fun hc55 => ?_)
              · replace h := ab_neg hc55 h
                refine z_iconst (pc2 := 116) rfl dX7_gives_115 lt_i_0 ?_
                obtain ⟨hb56, h⟩ := ab_ck_e h
                refine z_iast 34 (pc2 := 117) (j := (u4).toNatClampNeg) rfl dX7_gives_116 rfl rfl hb56 rfl ?_
                obtain ⟨s57, hs57, h⟩ := ab_lt_e h
                refine z_tops hs57 ?_
                refine ab_goto (tgt := 158) dX7_gives_117 (by decide) ?_
                obtain ⟨x58, hxx58, h⟩ := ab_lt_e h
                refine z_iinc (pc2 := 161) (v := x58) (L2 := [some (.ref 32), some (.int p1), some (.int p2), some (.int p3), some (.int u4), some (.int x58), some (.int x3)]) rfl dX7_gives_158 rfl (by rw [hxx58]; rfl) (by decide) rfl rfl ?_
                refine ab_goto (tgt := 6) dX7_gives_161 (by decide) ?_
                refine z_fgt [true, true, true, true, true, true, false] (L2 := [some (.ref 32), some (.int p1), some (.int p2), some (.int p3), some (.int u4), some (.int x58), none]) rfl ?_
                exact ih _ _ _ h
              · replace h := ab_pos hc55 h
                refine z_iconst (pc2 := 112) rfl dX7_gives_111 lt_i_1 ?_
                refine ab_goto (tgt := 116) dX7_gives_112 (by decide) ?_
                obtain ⟨hb59, h⟩ := ab_ck_e h
                refine z_iast 34 (pc2 := 117) (j := (u4).toNatClampNeg) rfl dX7_gives_116 rfl rfl hb59 rfl ?_
                obtain ⟨s60, hs60, h⟩ := ab_lt_e h
                refine z_tops hs60 ?_
                refine ab_goto (tgt := 158) dX7_gives_117 (by decide) ?_
                obtain ⟨x61, hxx61, h⟩ := ab_lt_e h
                refine z_iinc (pc2 := 161) (v := x61) (L2 := [some (.ref 32), some (.int p1), some (.int p2), some (.int p3), some (.int u4), some (.int x61), some (.int x3)]) rfl dX7_gives_158 rfl (by rw [hxx61]; rfl) (by decide) rfl rfl ?_
                refine ab_goto (tgt := 6) dX7_gives_161 (by decide) ?_
                refine z_fgt [true, true, true, true, true, true, false] (L2 := [some (.ref 32), some (.int p1), some (.int p2), some (.int p3), some (.int u4), some (.int x61), none]) rfl ?_
                exact ih _ _ _ h
        · replace h := ab_neg hc33 h
          obtain ⟨x62, hxx62, h⟩ := ab_lt_e h
          refine z_iinc (pc2 := 41) (v := x62) (L2 := [some (.ref 32), some (.int p1), some (.int p2), some (.int p3), some (.int x62), some (.int u5), some (.int x3)]) rfl dX7_gives_38 rfl (by rw [hxx62]; rfl) (by decide) rfl rfl ?_
          refine z_aload_n (pc2 := 42) rfl dX7_gives_41 rfl ?_
          refine z_getR 32 7 2 34 (pc2 := 45) rfl dX7_gives_42 rfl rfl ff_7_2 wd_123 rfl ?_
          refine z_iload (pc2 := 47) rfl dX7_gives_45 rfl ?_
          refine z_iload (pc2 := 49) rfl dX7_gives_47 rfl ?_
          refine z_if_lt (pc2 := 52) (tgt := 57) rfl dX7_gives_49 (by decide) (fun hc63 => ?_) (fun hc63 => ?_)
          · replace h := ab_pos hc63 h
            refine z_iload (pc2 := 59) rfl dX7_gives_57 rfl ?_
            refine z_iconst (pc2 := 60) rfl dX7_gives_59 lt_i_m1 ?_
            refine z_icmp_ne (pc2 := 63) (tgt := 67) rfl dX7_gives_60 (by decide) (fun hc64 => ?_) (fun hc64 => ?_)
            · replace h := ab_neg hc64 h
              refine z_iload (pc2 := 69) rfl dX7_gives_67 rfl ?_
              refine z_bipush (pc2 := 71) rfl dX7_gives_69 lt_b_m2 ?_
              refine z_icmp_ne (pc2 := 74) (tgt := 78) rfl dX7_gives_71 (by decide) (fun hc65 => ?_) (fun hc65 => ?_)
              · replace h := ab_neg hc65 h
                refine z_iload_n (pc2 := 79) rfl dX7_gives_78 rfl ?_
                obtain ⟨hb66, h⟩ := ab_ck_e h
                refine z_iast 34 (pc2 := 80) (j := (x62).toNatClampNeg) rfl dX7_gives_79 rfl rfl hb66 rfl ?_
                obtain ⟨s67, hs67, h⟩ := ab_lt_e h
                refine z_tops hs67 ?_
                refine ab_goto (tgt := 158) dX7_gives_80 (by decide) ?_
                obtain ⟨x68, hxx68, h⟩ := ab_lt_e h
                refine z_iinc (pc2 := 161) (v := x68) (L2 := [some (.ref 32), some (.int p1), some (.int p2), some (.int p3), some (.int x62), some (.int x68), some (.int x3)]) rfl dX7_gives_158 rfl (by rw [hxx68]; rfl) (by decide) rfl rfl ?_
                refine ab_goto (tgt := 6) dX7_gives_161 (by decide) ?_
                refine z_fgt [true, true, true, true, true, true, false] (L2 := [some (.ref 32), some (.int p1), some (.int p2), some (.int p3), some (.int x62), some (.int x68), none]) rfl ?_
                exact ih _ _ _ h
              · replace h := ab_pos hc65 h
                refine z_iload_n (pc2 := 75) rfl dX7_gives_74 rfl ?_
                refine ab_goto (tgt := 79) dX7_gives_75 (by decide) ?_
                obtain ⟨hb69, h⟩ := ab_ck_e h
                refine z_iast 34 (pc2 := 80) (j := (x62).toNatClampNeg) rfl dX7_gives_79 rfl rfl hb69 rfl ?_
                obtain ⟨s70, hs70, h⟩ := ab_lt_e h
                refine z_tops hs70 ?_
                refine ab_goto (tgt := 158) dX7_gives_80 (by decide) ?_
                obtain ⟨x71, hxx71, h⟩ := ab_lt_e h
                refine z_iinc (pc2 := 161) (v := x71) (L2 := [some (.ref 32), some (.int p1), some (.int p2), some (.int p3), some (.int x62), some (.int x71), some (.int x3)]) rfl dX7_gives_158 rfl (by rw [hxx71]; rfl) (by decide) rfl rfl ?_
                refine ab_goto (tgt := 6) dX7_gives_161 (by decide) ?_
                refine z_fgt [true, true, true, true, true, true, false] (L2 := [some (.ref 32), some (.int p1), some (.int p2), some (.int p3), some (.int x62), some (.int x71), none]) rfl ?_
                exact ih _ _ _ h
            · replace h := ab_pos hc64 h
              refine z_iload_n (pc2 := 64) rfl dX7_gives_63 rfl ?_
              refine ab_goto (tgt := 79) dX7_gives_64 (by decide) ?_
              obtain ⟨hb72, h⟩ := ab_ck_e h
              refine z_iast 34 (pc2 := 80) (j := (x62).toNatClampNeg) rfl dX7_gives_79 rfl rfl hb72 rfl ?_
              obtain ⟨s73, hs73, h⟩ := ab_lt_e h
              refine z_tops hs73 ?_
              refine ab_goto (tgt := 158) dX7_gives_80 (by decide) ?_
              obtain ⟨x74, hxx74, h⟩ := ab_lt_e h
              refine z_iinc (pc2 := 161) (v := x74) (L2 := [some (.ref 32), some (.int p1), some (.int p2), some (.int p3), some (.int x62), some (.int x74), some (.int x3)]) rfl dX7_gives_158 rfl (by rw [hxx74]; rfl) (by decide) rfl rfl ?_
              refine ab_goto (tgt := 6) dX7_gives_161 (by decide) ?_
              refine z_fgt [true, true, true, true, true, true, false] (L2 := [some (.ref 32), some (.int p1), some (.int p2), some (.int p3), some (.int x62), some (.int x74), none]) rfl ?_
              exact ih _ _ _ h
          · replace h := ab_neg hc63 h
            refine z_iload (pc2 := 54) rfl dX7_gives_52 rfl ?_
            refine ab_goto (tgt := 79) dX7_gives_54 (by decide) ?_
            obtain ⟨hb75, h⟩ := ab_ck_e h
            refine z_iast 34 (pc2 := 80) (j := (x62).toNatClampNeg) rfl dX7_gives_79 rfl rfl hb75 rfl ?_
            obtain ⟨s76, hs76, h⟩ := ab_lt_e h
            refine z_tops hs76 ?_
            refine ab_goto (tgt := 158) dX7_gives_80 (by decide) ?_
            obtain ⟨x77, hxx77, h⟩ := ab_lt_e h
            refine z_iinc (pc2 := 161) (v := x77) (L2 := [some (.ref 32), some (.int p1), some (.int p2), some (.int p3), some (.int x62), some (.int x77), some (.int x3)]) rfl dX7_gives_158 rfl (by rw [hxx77]; rfl) (by decide) rfl rfl ?_
            refine ab_goto (tgt := 6) dX7_gives_161 (by decide) ?_
            refine z_fgt [true, true, true, true, true, true, false] (L2 := [some (.ref 32), some (.int p1), some (.int p2), some (.int p3), some (.int x62), some (.int x77), none]) rfl ?_
            exact ih _ _ _ h
