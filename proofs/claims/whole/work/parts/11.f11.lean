def f_X11_springFor_L32 (p1 : Int32) (p2 : Int32) (K : Int32 → Int32 → ab_F → Option (Int32 × ab_F)) : Nat → Int32 → Int32 → Int32 → ab_F → Option (Int32 × ab_F)
  | 0, _, _, _, _ => none
  | n + 1, u3, u4, u5, σ => (if (16 : Int32) ≤ u5 then (K u3 u4 σ) else (f_X9_copyFrom_49_38 σ).bind (fun q7 => ab_lt (ab_u q7 49 4 u5) (fun (s8 : ab_F) => (f_X9_daysGo 49 p1 s8).bind (fun q9 => (f_X9_known 49 q9).bind (fun q10 => (f_J6_bitCount_0f7a4 q10 q9).bind (fun q11 => (if u3 ≤ q11 then ab_lt (u5 + (1 : Int32)) (fun x13 => (f_X11_springFor_L32 p1 p2 K n u3 u4 x13 q9)) else ab_lt (u5 + (1 : Int32)) (fun x14 => (f_X11_springFor_L32 p1 p2 K n q11 u5 x14 q9)))))))))
set_option maxRecDepth 100000 in
set_option maxHeartbeats 4000000 in
theorem e_X11_springFor_L32 {sc : Nat × (Nat → Int32)} {r : Option Nat × Option Nat} {p1 : Int32} {p2 : Int32} {K : Int32 → Int32 → ab_F → Option (Int32 × ab_F)} {res : (Int32 × ab_F)} (hK : ∀ (u3 : Int32) (u4 : Int32) (σ : ab_F), K u3 u4 σ = some res → ab_E mX11_springFor 7 sc 98 [none, none, some (.int p2), some (.int u3), some (.int u4), none, none] [] (σ, r) (fun v S => v = some (.int res.1) ∧ S = (res.2, r))) : ∀ (n : Nat) (u3 : Int32) (u4 : Int32) (u5 : Int32) (σ : ab_F), f_X11_springFor_L32 p1 p2 K n u3 u4 u5 σ = some res → ab_E mX11_springFor 7 sc 32 [some (.ref 8), some (.int p1), some (.int p2), some (.int u3), some (.int u4), some (.int u5), none] [] (σ, r) (fun v S => v = some (.int res.1) ∧ S = (res.2, r)) := by
  intro n
  induction n with
  | zero =>
    intro u3 u4 u5 σ h
    rw [f_X11_springFor_L32] at h
    cases h
  | succ n ih =>
    intro u3 u4 u5 σ h
    rw [f_X11_springFor_L32] at h
    refine z_iload (pc2 := 34) rfl dX11_springFor_32 rfl ?_
    refine z_bipush (pc2 := 36) rfl dX11_springFor_34 lt_b_16 ?_
    refine z_icmp_ge (pc2 := 39) (tgt := 98) rfl dX11_springFor_36 (by decide) (fun hc6 => ?_) (fun hc6 => ?_)
    · replace h := ab_pos hc6 h
      refine z_fgt [false, false, true, true, true, false, false] (L2 := [none, none, some (.int p2), some (.int u3), some (.int u4), none, none]) rfl ?_
      exact hK _ _ _ h
    · replace h := ab_neg hc6 h
      refine z_aload_n (pc2 := 40) rfl dX11_springFor_39 rfl ?_
      refine z_getR 8 11 1 49 (pc2 := 43) rfl dX11_springFor_40 rfl rfl ff_11_1 wd_303 rfl ?_
      refine z_aload_n (pc2 := 44) rfl dX11_springFor_43 rfl ?_
      refine z_getR 8 11 0 38 (pc2 := 47) rfl dX11_springFor_44 rfl rfl ff_11_0 wd_302 rfl ?_
      obtain ⟨q7, hq7, h⟩ := ab_bnd h
      refine z_callVv 49 [.ref 38] [some (.ref 49), some (.ref 38)] (pc2 := 50) rfl rfl dX11_springFor_47 ok_X9_copyFrom ⟨fun _ => rfl, fun _ => Nat.le_of_ble_eq_true rfl⟩ rfl rv_49 wd_734 wd_735 wd_736 rfl (e_X9_copyFrom_49_38 hq7) ?_
      refine z_aload_n (pc2 := 51) rfl dX11_springFor_50 rfl ?_
      refine z_getR 8 11 1 49 (pc2 := 54) rfl dX11_springFor_51 rfl rfl ff_11_1 wd_303 rfl ?_
      refine z_iload (pc2 := 56) rfl dX11_springFor_54 rfl ?_
      refine z_putI 49 9 4 (pc2 := 59) (ft := .int) rfl dX11_springFor_56 rfl rfl ff_9_4 wd_238 rfl (by decide +kernel) rfl rfl ?_
      obtain ⟨s8, hs8, h⟩ := ab_lt_e h
      refine z_tops hs8 ?_
      refine z_aload_n (pc2 := 60) rfl dX11_springFor_59 rfl ?_
      refine z_getR 8 11 1 49 (pc2 := 63) rfl dX11_springFor_60 rfl rfl ff_11_1 wd_303 rfl ?_
      refine z_iload_n (pc2 := 64) rfl dX11_springFor_63 rfl ?_
      obtain ⟨q9, hq9, h⟩ := ab_bnd h
      refine z_callVv 49 [.int p1] [some (.ref 49), some (.int p1), none] (pc2 := 67) rfl rfl dX11_springFor_64 ok_X9_daysGo ⟨fun _ => rfl, fun _ => Nat.le_of_ble_eq_true rfl⟩ rfl rv_49 wd_671 wd_672 wd_673 rfl (e_X9_daysGo_49 hq9) ?_
      refine z_aload_n (pc2 := 68) rfl dX11_springFor_67 rfl ?_
      refine z_getR 8 11 1 49 (pc2 := 71) rfl dX11_springFor_68 rfl rfl ff_11_1 wd_303 rfl ?_
      obtain ⟨q10, hq10, h⟩ := ab_bnd h
      refine z_callVi 49 [] [some (.ref 49)] (pc2 := 74) rfl rfl dX11_springFor_71 ok_X9_known ⟨fun _ => rfl, fun _ => Nat.le_of_ble_eq_true rfl⟩ rfl rv_49 wd_700 wd_701 wd_702 rfl (e_X9_known_49 hq10) ?_
      obtain ⟨q11, hq11, h⟩ := ab_bnd h
      refine z_callSi [.int q10] [some (.int q10)] (pc2 := 77) rfl rfl dX11_springFor_74 ok_J6_bitCount_0f7a4 ⟨fun _ => rfl, fun _ => Nat.le_of_ble_eq_true rfl⟩ rfl wd_767 wd_386 rfl (e_J6_bitCount_0f7a4 hq11) ?_
      refine z_istore (pc2 := 79) (L2 := [some (.ref 8), some (.int p1), some (.int p2), some (.int u3), some (.int u4), some (.int u5), some (.int q11)]) rfl dX11_springFor_77 (by decide) rfl rfl ?_
      refine z_iload (pc2 := 81) rfl dX11_springFor_79 rfl ?_
      refine z_iload_n (pc2 := 82) rfl dX11_springFor_81 rfl ?_
      refine z_icmp_ge (pc2 := 85) (tgt := 92) rfl dX11_springFor_82 (by decide) (fun hc12 => ?_) (fun hc12 => ?_)
      · replace h := ab_pos hc12 h
        obtain ⟨x13, hxx13, h⟩ := ab_lt_e h
        refine z_iinc (pc2 := 95) (v := x13) (L2 := [some (.ref 8), some (.int p1), some (.int p2), some (.int u3), some (.int u4), some (.int x13), some (.int q11)]) rfl dX11_springFor_92 rfl (by rw [hxx13]; rfl) (by decide) rfl rfl ?_
        refine ab_goto (tgt := 32) dX11_springFor_95 (by decide) ?_
        refine z_fgt [true, true, true, true, true, true, false] (L2 := [some (.ref 8), some (.int p1), some (.int p2), some (.int u3), some (.int u4), some (.int x13), none]) rfl ?_
        exact ih _ _ _ _ h
      · replace h := ab_neg hc12 h
        refine z_iload (pc2 := 87) rfl dX11_springFor_85 rfl ?_
        refine z_istore_n (pc2 := 88) (L2 := [some (.ref 8), some (.int p1), some (.int p2), some (.int q11), some (.int u4), some (.int u5), some (.int q11)]) rfl dX11_springFor_87 (by decide) rfl rfl ?_
        refine z_iload (pc2 := 90) rfl dX11_springFor_88 rfl ?_
        refine z_istore (pc2 := 92) (L2 := [some (.ref 8), some (.int p1), some (.int p2), some (.int q11), some (.int u5), some (.int u5), some (.int q11)]) rfl dX11_springFor_90 (by decide) rfl rfl ?_
        obtain ⟨x14, hxx14, h⟩ := ab_lt_e h
        refine z_iinc (pc2 := 95) (v := x14) (L2 := [some (.ref 8), some (.int p1), some (.int p2), some (.int q11), some (.int u5), some (.int x14), some (.int q11)]) rfl dX11_springFor_92 rfl (by rw [hxx14]; rfl) (by decide) rfl rfl ?_
        refine ab_goto (tgt := 32) dX11_springFor_95 (by decide) ?_
        refine z_fgt [true, true, true, true, true, true, false] (L2 := [some (.ref 8), some (.int p1), some (.int p2), some (.int q11), some (.int u5), some (.int x14), none]) rfl ?_
        exact ih _ _ _ _ h
def f_X11_springFor (a1 : Int32) (a2 : Int32) (σ : ab_F) : Option (Int32 × ab_F) := (f_X11_outside a1 (40 : Int32) σ).bind (fun q1 => (if (ab_b q1) = 0 then (f_X11_outside a2 (1 : Int32) σ).bind (fun q4 => (if (ab_b q4) = 0 then (f_X11_springFor_L32 a1 a2 (fun (k15 : Int32) (k16 : Int32) (s17 : ab_F) => (if a2 = 0 then (some (k16, s17)) else (some (k15, s17)))) ab_fu (13 : Int32) (0 : Int32) (0 : Int32) σ) else (f_X11_refuse (1 : Int32) σ).bind (fun q19 => (some (q19.1, q19.2))))) else (f_X11_refuse (1 : Int32) σ).bind (fun q3 => (some (q3.1, q3.2)))))
set_option maxRecDepth 100000 in
set_option maxHeartbeats 4000000 in
theorem e_X11_springFor {sc : Nat × (Nat → Int32)} {r : Option Nat × Option Nat} {a1 : Int32} {a2 : Int32} {σ : ab_F} {res : (Int32 × ab_F)} (h : f_X11_springFor a1 a2 σ = some res) : ab_E mX11_springFor 7 sc 0 [some (.ref 8), some (.int a1), some (.int a2), none, none, none, none] [] (σ, r) (fun v S => v = some (.int res.1) ∧ S = (res.2, r)) := by
  unfold f_X11_springFor at h
  refine z_iload_n (pc2 := 1) rfl dX11_springFor_0 rfl ?_
  refine z_bipush (pc2 := 3) rfl dX11_springFor_1 lt_b_40 ?_
  obtain ⟨q1, hq1, h⟩ := ab_bnd h
  refine z_callSi [.int a1, .int (40 : Int32)] [some (.int a1), some (.int (40 : Int32))] (pc2 := 6) rfl rfl dX11_springFor_3 ok_X11_outside ⟨fun _ => rfl, fun _ => Nat.le_of_ble_eq_true rfl⟩ rfl wd_343 wd_344 rfl (e_X11_outside hq1) ?_
  refine z_if_ne (pc2 := 9) (tgt := 17) rfl dX11_springFor_6 (by decide) (fun hc2 => ?_) (fun hc2 => ?_)
  · replace h := ab_neg hc2 h
    refine z_aload_n (pc2 := 18) rfl dX11_springFor_17 rfl ?_
    refine z_iconst (pc2 := 19) rfl dX11_springFor_18 lt_i_1 ?_
    obtain ⟨q3, hq3, h⟩ := ab_bnd h
    refine z_callVi 8 [.int (1 : Int32)] [some (.ref 8), some (.int (1 : Int32))] (pc2 := 22) rfl rfl dX11_springFor_19 ok_X11_refuse ⟨fun _ => rfl, fun _ => Nat.le_of_ble_eq_true rfl⟩ rfl rv_8 wd_346 wd_348 wd_0 rfl (e_X11_refuse hq3) ?_
    exact z_iret dX11_springFor_22 rfl rfl (fi_w h)
  · replace h := ab_pos hc2 h
    refine z_iload_n (pc2 := 10) rfl dX11_springFor_9 rfl ?_
    refine z_iconst (pc2 := 11) rfl dX11_springFor_10 lt_i_1 ?_
    obtain ⟨q4, hq4, h⟩ := ab_bnd h
    refine z_callSi [.int a2, .int (1 : Int32)] [some (.int a2), some (.int (1 : Int32))] (pc2 := 14) rfl rfl dX11_springFor_11 ok_X11_outside ⟨fun _ => rfl, fun _ => Nat.le_of_ble_eq_true rfl⟩ rfl wd_343 wd_344 rfl (e_X11_outside hq4) ?_
    refine z_if_eq (pc2 := 17) (tgt := 23) rfl dX11_springFor_14 (by decide) (fun hc5 => ?_) (fun hc5 => ?_)
    · replace h := ab_pos hc5 h
      refine z_bipush (pc2 := 25) rfl dX11_springFor_23 lt_b_13 ?_
      refine z_istore_n (pc2 := 26) (L2 := [some (.ref 8), some (.int a1), some (.int a2), some (.int (13 : Int32)), none, none, none]) rfl dX11_springFor_25 (by decide) rfl rfl ?_
      refine z_iconst (pc2 := 27) rfl dX11_springFor_26 lt_i_0 ?_
      refine z_istore (pc2 := 29) (L2 := [some (.ref 8), some (.int a1), some (.int a2), some (.int (13 : Int32)), some (.int (0 : Int32)), none, none]) rfl dX11_springFor_27 (by decide) rfl rfl ?_
      refine z_iconst (pc2 := 30) rfl dX11_springFor_29 lt_i_0 ?_
      refine z_istore (pc2 := 32) (L2 := [some (.ref 8), some (.int a1), some (.int a2), some (.int (13 : Int32)), some (.int (0 : Int32)), some (.int (0 : Int32)), none]) rfl dX11_springFor_30 (by decide) rfl rfl ?_
      refine z_fgt [true, true, true, true, true, true, false] (L2 := [some (.ref 8), some (.int a1), some (.int a2), some (.int (13 : Int32)), some (.int (0 : Int32)), some (.int (0 : Int32)), none]) rfl ?_
      refine e_X11_springFor_L32 (fun k15 k16 s17 h => ?_) _ _ _ _ _ h
      refine z_iload_n (pc2 := 99) rfl dX11_springFor_98 rfl ?_
      refine z_if_ne (pc2 := 102) (tgt := 107) rfl dX11_springFor_99 (by decide) (fun hc18 => ?_) (fun hc18 => ?_)
      · replace h := ab_neg hc18 h
        refine z_iload_n (pc2 := 108) rfl dX11_springFor_107 rfl ?_
        exact z_iret dX11_springFor_108 rfl rfl (fi_w h)
      · replace h := ab_pos hc18 h
        refine z_iload (pc2 := 104) rfl dX11_springFor_102 rfl ?_
        refine ab_goto (tgt := 108) dX11_springFor_104 (by decide) ?_
        exact z_iret dX11_springFor_108 rfl rfl (fi_w h)
    · replace h := ab_neg hc5 h
      refine z_aload_n (pc2 := 18) rfl dX11_springFor_17 rfl ?_
      refine z_iconst (pc2 := 19) rfl dX11_springFor_18 lt_i_1 ?_
      obtain ⟨q19, hq19, h⟩ := ab_bnd h
      refine z_callVi 8 [.int (1 : Int32)] [some (.ref 8), some (.int (1 : Int32))] (pc2 := 22) rfl rfl dX11_springFor_19 ok_X11_refuse ⟨fun _ => rfl, fun _ => Nat.le_of_ble_eq_true rfl⟩ rfl rv_8 wd_346 wd_348 wd_0 rfl (e_X11_refuse hq19) ?_
      exact z_iret dX11_springFor_22 rfl rfl (fi_w h)
def f_X9_dryFor_L4 (w : Nat) (p1 : Int32) (σ : ab_F) (K : Int32 → Option Int32) : Nat → Int32 → Int32 → Option Int32
  | 0, _, _ => none
  | n + 1, u2, u3 => (if (16 : Int32) ≤ u3 then (K u2) else ab_ck (ab_ib u3 16) ((if p1 < (σ (w + 2) (u3).toNatClampNeg) then ab_lt (u3 + (1 : Int32)) (fun x4 => (f_X9_dryFor_L4 w p1 σ K n u2 x4)) else ab_lt ((u2 ||| ((1 : Int32) <<< (u3 &&& 31)))) (fun x5 => ab_lt (u3 + (1 : Int32)) (fun x6 => (f_X9_dryFor_L4 w p1 σ K n x5 x6))))))
set_option maxRecDepth 100000 in
set_option maxHeartbeats 4000000 in
theorem e_X9_dryFor_38_L4 {sc : Nat × (Nat → Int32)} {r : Option Nat × Option Nat} {p1 : Int32} {σ : ab_F} {K : Int32 → Option Int32} {res : Int32} (hK : ∀ (u2 : Int32), K u2 = some res → ab_E mX9_dryFor 0 sc 32 [none, none, some (.int u2), none] [] (σ, r) (fun v S => v = some (.int res) ∧ S = (σ, r))) : ∀ (n : Nat) (u2 : Int32) (u3 : Int32), f_X9_dryFor_L4 38 p1 σ K n u2 u3 = some res → ab_E mX9_dryFor 0 sc 4 [some (.ref 38), some (.int p1), some (.int u2), some (.int u3)] [] (σ, r) (fun v S => v = some (.int res) ∧ S = (σ, r)) := by
  intro n
  induction n with
  | zero =>
    intro u2 u3 h
    rw [f_X9_dryFor_L4] at h
    cases h
  | succ n ih =>
    intro u2 u3 h
    rw [f_X9_dryFor_L4] at h
    refine z_iload_n (pc2 := 5) rfl dX9_dryFor_4 rfl ?_
    refine z_bipush (pc2 := 7) rfl dX9_dryFor_5 lt_b_16 ?_
    refine z_icmp_ge (pc2 := 10) (tgt := 32) rfl dX9_dryFor_7 (by decide) (fun hc1 => ?_) (fun hc1 => ?_)
    · replace h := ab_pos hc1 h
      refine z_fgt [false, false, true, false] (L2 := [none, none, some (.int u2), none]) rfl ?_
      exact hK _ h
    · replace h := ab_neg hc1 h
      refine z_aload_n (pc2 := 11) rfl dX9_dryFor_10 rfl ?_
      refine z_getR 38 9 7 40 (pc2 := 14) rfl dX9_dryFor_11 rfl rfl ff_9_7 wd_243 rfl ?_
      refine z_iload_n (pc2 := 15) rfl dX9_dryFor_14 rfl ?_
      obtain ⟨hb2, h⟩ := ab_ck_e h
      refine z_iald 40 (pc2 := 16) (j := (u3).toNatClampNeg) rfl dX9_dryFor_15 rfl rfl hb2 rfl ?_
      refine z_iload_n (pc2 := 17) rfl dX9_dryFor_16 rfl ?_
      refine z_icmp_gt (pc2 := 20) (tgt := 26) rfl dX9_dryFor_17 (by decide) (fun hc3 => ?_) (fun hc3 => ?_)
      · replace h := ab_pos hc3 h
        obtain ⟨x4, hxx4, h⟩ := ab_lt_e h
        refine z_iinc (pc2 := 29) (v := x4) (L2 := [some (.ref 38), some (.int p1), some (.int u2), some (.int x4)]) rfl dX9_dryFor_26 rfl (by rw [hxx4]; rfl) (by decide) rfl rfl ?_
        refine ab_goto (tgt := 4) dX9_dryFor_29 (by decide) ?_
        refine z_fgt [true, true, true, true] (L2 := [some (.ref 38), some (.int p1), some (.int u2), some (.int x4)]) rfl ?_
        exact ih _ _ h
      · replace h := ab_neg hc3 h
        refine z_iload_n (pc2 := 21) rfl dX9_dryFor_20 rfl ?_
        refine z_iconst (pc2 := 22) rfl dX9_dryFor_21 lt_i_1 ?_
        refine z_iload_n (pc2 := 23) rfl dX9_dryFor_22 rfl ?_
        refine z_ishl (pc2 := 24) rfl dX9_dryFor_23 ?_
        refine z_ior (pc2 := 25) rfl dX9_dryFor_24 ?_
        obtain ⟨x5, hxx5, h⟩ := ab_lt_e h
        refine z_top hxx5 ?_
        refine z_istore_n (pc2 := 26) (L2 := [some (.ref 38), some (.int p1), some (.int x5), some (.int u3)]) rfl dX9_dryFor_25 (by decide) rfl rfl ?_
        obtain ⟨x6, hxx6, h⟩ := ab_lt_e h
        refine z_iinc (pc2 := 29) (v := x6) (L2 := [some (.ref 38), some (.int p1), some (.int x5), some (.int x6)]) rfl dX9_dryFor_26 rfl (by rw [hxx6]; rfl) (by decide) rfl rfl ?_
        refine ab_goto (tgt := 4) dX9_dryFor_29 (by decide) ?_
        refine z_fgt [true, true, true, true] (L2 := [some (.ref 38), some (.int p1), some (.int x5), some (.int x6)]) rfl ?_
        exact ih _ _ h
def f_X9_dryFor (w : Nat) (a1 : Int32) (σ : ab_F) : Option Int32 := (f_X9_dryFor_L4 w a1 σ (fun (k7 : Int32) => (some k7)) ab_fu (0 : Int32) (0 : Int32))
set_option maxRecDepth 100000 in
set_option maxHeartbeats 4000000 in
theorem e_X9_dryFor_38 {sc : Nat × (Nat → Int32)} {r : Option Nat × Option Nat} {a1 : Int32} {σ : ab_F} {res : Int32} (h : f_X9_dryFor 38 a1 σ = some res) : ab_E mX9_dryFor 0 sc 0 [some (.ref 38), some (.int a1), none, none] [] (σ, r) (fun v S => v = some (.int res) ∧ S = (σ, r)) := by
  unfold f_X9_dryFor at h
  refine z_iconst (pc2 := 1) rfl dX9_dryFor_0 lt_i_0 ?_
  refine z_istore_n (pc2 := 2) (L2 := [some (.ref 38), some (.int a1), some (.int (0 : Int32)), none]) rfl dX9_dryFor_1 (by decide) rfl rfl ?_
  refine z_iconst (pc2 := 3) rfl dX9_dryFor_2 lt_i_0 ?_
  refine z_istore_n (pc2 := 4) (L2 := [some (.ref 38), some (.int a1), some (.int (0 : Int32)), some (.int (0 : Int32))]) rfl dX9_dryFor_3 (by decide) rfl rfl ?_
  refine z_fgt [true, true, true, true] (L2 := [some (.ref 38), some (.int a1), some (.int (0 : Int32)), some (.int (0 : Int32))]) rfl ?_
  refine e_X9_dryFor_38_L4 (fun k7 h => ?_) _ _ _ h
  refine z_iload_n (pc2 := 33) rfl dX9_dryFor_32 rfl ?_
  exact z_iret dX9_dryFor_33 rfl rfl (fi_p h)
def f_X11_allBeside (a0 : Int32) (σ : ab_F) : Option Int32 := (some (((((a0 <<< ((4 : Int32) &&& 31)) &&& (65535 : Int32)) ||| (a0 >>> ((4 : Int32) &&& 31))) ||| ((a0 &&& (30583 : Int32)) <<< ((1 : Int32) &&& 31))) ||| ((a0 &&& (61166 : Int32)) >>> ((1 : Int32) &&& 31))))
set_option maxRecDepth 100000 in
set_option maxHeartbeats 4000000 in
theorem e_X11_allBeside {sc : Nat × (Nat → Int32)} {r : Option Nat × Option Nat} {a0 : Int32} {σ : ab_F} {res : Int32} (h : f_X11_allBeside a0 σ = some res) : ab_E mX11_allBeside 0 sc 0 [some (.int a0)] [] (σ, r) (fun v S => v = some (.int res) ∧ S = (σ, r)) := by
  unfold f_X11_allBeside at h
  refine z_iload_n (pc2 := 1) rfl dX11_allBeside_0 rfl ?_
  refine z_iconst (pc2 := 2) rfl dX11_allBeside_1 lt_i_4 ?_
  refine z_ishl (pc2 := 3) rfl dX11_allBeside_2 ?_
  refine z_ldcw (pc2 := 6) rfl dX11_allBeside_3 wd_779 ?_
  refine z_iand (pc2 := 7) rfl dX11_allBeside_6 ?_
  refine z_iload_n (pc2 := 8) rfl dX11_allBeside_7 rfl ?_
  refine z_iconst (pc2 := 9) rfl dX11_allBeside_8 lt_i_4 ?_
  refine z_ishr (pc2 := 10) rfl dX11_allBeside_9 ?_
  refine z_ior (pc2 := 11) rfl dX11_allBeside_10 ?_
  refine z_iload_n (pc2 := 12) rfl dX11_allBeside_11 rfl ?_
  refine z_sipush (pc2 := 15) rfl dX11_allBeside_12 lt_s_30583 ?_
  refine z_iand (pc2 := 16) rfl dX11_allBeside_15 ?_
  refine z_iconst (pc2 := 17) rfl dX11_allBeside_16 lt_i_1 ?_
  refine z_ishl (pc2 := 18) rfl dX11_allBeside_17 ?_
  refine z_ior (pc2 := 19) rfl dX11_allBeside_18 ?_
  refine z_iload_n (pc2 := 20) rfl dX11_allBeside_19 rfl ?_
  refine z_ldcw (pc2 := 23) rfl dX11_allBeside_20 wd_780 ?_
  refine z_iand (pc2 := 24) rfl dX11_allBeside_23 ?_
  refine z_iconst (pc2 := 25) rfl dX11_allBeside_24 lt_i_1 ?_
  refine z_ishr (pc2 := 26) rfl dX11_allBeside_25 ?_
  refine z_ior (pc2 := 27) rfl dX11_allBeside_26 ?_
  exact z_iret dX11_allBeside_27 rfl rfl (fi_p h)
def f_X11_walk_L56 (p2 : Int32) (p3 : Int32) (σ : ab_F) (K : Option (Int32 × ab_F)) : Nat → Int32 → Int32 → Option (Int32 × ab_F)
  | 0, _, _ => none
  | n + 1, u4, u5 => (if (16 : Int32) ≤ u5 then (K) else (if ((u4 >>> (p2 &&& 31)) &&& (1 : Int32)) = (1 : Int32) then (some (u5, σ)) else (f_X11_allBeside u4 σ).bind (fun q12 => ab_lt ((u4 ||| (q12 &&& p3))) (fun x13 => ab_lt (u5 + (1 : Int32)) (fun x14 => (f_X11_walk_L56 p2 p3 σ K n x13 x14))))))
set_option maxRecDepth 100000 in
set_option maxHeartbeats 4000000 in
theorem e_X11_walk_L56 {sc : Nat × (Nat → Int32)} {r : Option Nat × Option Nat} {p2 : Int32} {p3 : Int32} {σ : ab_F} {K : Option (Int32 × ab_F)} {res : (Int32 × ab_F)} (hK : K = some res → ab_E mX11_walk 1 sc 94 [some (.ref 8), none, none, none, none, none] [] (σ, r) (fun v S => v = some (.int res.1) ∧ S = (res.2, r))) : ∀ (n : Nat) (u4 : Int32) (u5 : Int32), f_X11_walk_L56 p2 p3 σ K n u4 u5 = some res → ab_E mX11_walk 1 sc 56 [some (.ref 8), none, some (.int p2), some (.int p3), some (.int u4), some (.int u5)] [] (σ, r) (fun v S => v = some (.int res.1) ∧ S = (res.2, r)) := by
  intro n
  induction n with
  | zero =>
    intro u4 u5 h
    rw [f_X11_walk_L56] at h
    cases h
  | succ n ih =>
    intro u4 u5 h
    rw [f_X11_walk_L56] at h
    refine z_iload (pc2 := 58) rfl dX11_walk_56 rfl ?_
    refine z_bipush (pc2 := 60) rfl dX11_walk_58 lt_b_16 ?_
    refine z_icmp_ge (pc2 := 63) (tgt := 94) rfl dX11_walk_60 (by decide) (fun hc10 => ?_) (fun hc10 => ?_)
    · replace h := ab_pos hc10 h
      refine z_fgt [true, false, false, false, false, false] (L2 := [some (.ref 8), none, none, none, none, none]) rfl ?_
      exact hK  h
    · replace h := ab_neg hc10 h
      refine z_iload (pc2 := 65) rfl dX11_walk_63 rfl ?_
      refine z_iload_n (pc2 := 66) rfl dX11_walk_65 rfl ?_
      refine z_ishr (pc2 := 67) rfl dX11_walk_66 ?_
      refine z_iconst (pc2 := 68) rfl dX11_walk_67 lt_i_1 ?_
      refine z_iand (pc2 := 69) rfl dX11_walk_68 ?_
      refine z_iconst (pc2 := 70) rfl dX11_walk_69 lt_i_1 ?_
      refine z_icmp_ne (pc2 := 73) (tgt := 76) rfl dX11_walk_70 (by decide) (fun hc11 => ?_) (fun hc11 => ?_)
      · replace h := ab_neg hc11 h
        refine z_iload (pc2 := 78) rfl dX11_walk_76 rfl ?_
        refine z_iload (pc2 := 80) rfl dX11_walk_78 rfl ?_
        obtain ⟨q12, hq12, h⟩ := ab_bnd h
        refine z_callSi [.int u4] [some (.int u4)] (pc2 := 83) rfl rfl dX11_walk_80 ok_X11_allBeside ⟨fun _ => rfl, fun _ => Nat.le_of_ble_eq_true rfl⟩ rfl wd_776 wd_777 rfl (e_X11_allBeside hq12) ?_
        refine z_iload_n (pc2 := 84) rfl dX11_walk_83 rfl ?_
        refine z_iand (pc2 := 85) rfl dX11_walk_84 ?_
        refine z_ior (pc2 := 86) rfl dX11_walk_85 ?_
        obtain ⟨x13, hxx13, h⟩ := ab_lt_e h
        refine z_top hxx13 ?_
        refine z_istore (pc2 := 88) (L2 := [some (.ref 8), none, some (.int p2), some (.int p3), some (.int x13), some (.int u5)]) rfl dX11_walk_86 (by decide) rfl rfl ?_
        obtain ⟨x14, hxx14, h⟩ := ab_lt_e h
        refine z_iinc (pc2 := 91) (v := x14) (L2 := [some (.ref 8), none, some (.int p2), some (.int p3), some (.int x13), some (.int x14)]) rfl dX11_walk_88 rfl (by rw [hxx14]; rfl) (by decide) rfl rfl ?_
        refine ab_goto (tgt := 56) dX11_walk_91 (by decide) ?_
        refine z_fgt [true, false, true, true, true, true] (L2 := [some (.ref 8), none, some (.int p2), some (.int p3), some (.int x13), some (.int x14)]) rfl ?_
        exact ih _ _ h
      · replace h := ab_pos hc11 h
        refine z_iload (pc2 := 75) rfl dX11_walk_73 rfl ?_
        exact z_iret dX11_walk_75 rfl rfl (fi_w h)
def f_X11_walk (a1 : Int32) (a2 : Int32) (σ : ab_F) : Option (Int32 × ab_F) := (f_X11_nobody a1 σ).bind (fun q1 => (if (ab_b q1) = 0 then (f_X11_outside a2 (15 : Int32) σ).bind (fun q4 => (if (ab_b q4) = 0 then ab_ck (ab_ib a1 8) ((f_X9_dryFor 38 (σ 47 (a1).toNatClampNeg) σ).bind (fun q7 => ab_ck (ab_ib a1 8) (ab_lt (((1 : Int32) <<< ((σ 46 (a1).toNatClampNeg) &&& 31))) (fun x9 => (f_X11_walk_L56 a2 q7 σ ((f_X11_refuse (2 : Int32) σ).bind (fun q15 => (some (q15.1, q15.2)))) ab_fu x9 (0 : Int32)))))) else (f_X11_refuse (1 : Int32) σ).bind (fun q16 => (some (q16.1, q16.2))))) else (f_X11_refuse (1 : Int32) σ).bind (fun q3 => (some (q3.1, q3.2)))))
set_option maxRecDepth 100000 in
set_option maxHeartbeats 4000000 in
theorem e_X11_walk {sc : Nat × (Nat → Int32)} {r : Option Nat × Option Nat} {a1 : Int32} {a2 : Int32} {σ : ab_F} {res : (Int32 × ab_F)} (h : f_X11_walk a1 a2 σ = some res) : ab_E mX11_walk 1 sc 0 [some (.ref 8), some (.int a1), some (.int a2), none, none, none] [] (σ, r) (fun v S => v = some (.int res.1) ∧ S = (res.2, r)) := by
  unfold f_X11_walk at h
  refine z_aload_n (pc2 := 1) rfl dX11_walk_0 rfl ?_
  refine z_iload_n (pc2 := 2) rfl dX11_walk_1 rfl ?_
  obtain ⟨q1, hq1, h⟩ := ab_bnd h
  refine z_callVi 8 [.int a1] [some (.ref 8), some (.int a1)] (pc2 := 5) rfl rfl dX11_walk_2 ok_X11_nobody ⟨fun _ => rfl, fun _ => Nat.le_of_ble_eq_true rfl⟩ rfl rv_8 wd_359 wd_361 wd_1 rfl (e_X11_nobody hq1) ?_
  refine z_if_ne (pc2 := 8) (tgt := 17) rfl dX11_walk_5 (by decide) (fun hc2 => ?_) (fun hc2 => ?_)
  · replace h := ab_neg hc2 h
    refine z_aload_n (pc2 := 18) rfl dX11_walk_17 rfl ?_
    refine z_iconst (pc2 := 19) rfl dX11_walk_18 lt_i_1 ?_
    obtain ⟨q3, hq3, h⟩ := ab_bnd h
    refine z_callVi 8 [.int (1 : Int32)] [some (.ref 8), some (.int (1 : Int32))] (pc2 := 22) rfl rfl dX11_walk_19 ok_X11_refuse ⟨fun _ => rfl, fun _ => Nat.le_of_ble_eq_true rfl⟩ rfl rv_8 wd_346 wd_348 wd_0 rfl (e_X11_refuse hq3) ?_
    exact z_iret dX11_walk_22 rfl rfl (fi_w h)
  · replace h := ab_pos hc2 h
    refine z_iload_n (pc2 := 9) rfl dX11_walk_8 rfl ?_
    refine z_bipush (pc2 := 11) rfl dX11_walk_9 lt_b_15 ?_
    obtain ⟨q4, hq4, h⟩ := ab_bnd h
    refine z_callSi [.int a2, .int (15 : Int32)] [some (.int a2), some (.int (15 : Int32))] (pc2 := 14) rfl rfl dX11_walk_11 ok_X11_outside ⟨fun _ => rfl, fun _ => Nat.le_of_ble_eq_true rfl⟩ rfl wd_343 wd_344 rfl (e_X11_outside hq4) ?_
    refine z_if_eq (pc2 := 17) (tgt := 23) rfl dX11_walk_14 (by decide) (fun hc5 => ?_) (fun hc5 => ?_)
    · replace h := ab_pos hc5 h
      refine z_aload_n (pc2 := 24) rfl dX11_walk_23 rfl ?_
      refine z_getR 8 11 0 38 (pc2 := 27) rfl dX11_walk_24 rfl rfl ff_11_0 wd_302 rfl ?_
      refine z_aload_n (pc2 := 28) rfl dX11_walk_27 rfl ?_
      refine z_getR 8 11 0 38 (pc2 := 31) rfl dX11_walk_28 rfl rfl ff_11_0 wd_302 rfl ?_
      refine z_getR 38 9 15 47 (pc2 := 34) rfl dX11_walk_31 rfl rfl ff_9_15 wd_262 rfl ?_
      refine z_iload_n (pc2 := 35) rfl dX11_walk_34 rfl ?_
      obtain ⟨hb6, h⟩ := ab_ck_e h
      refine z_iald 47 (pc2 := 36) (j := (a1).toNatClampNeg) rfl dX11_walk_35 rfl rfl hb6 rfl ?_
      obtain ⟨q7, hq7, h⟩ := ab_bnd h
      refine z_callVi 38 [.int (σ 47 (a1).toNatClampNeg)] [some (.ref 38), some (.int (σ 47 (a1).toNatClampNeg)), none, none] (pc2 := 39) rfl rfl dX11_walk_36 ok_X9_dryFor ⟨fun _ => rfl, fun _ => Nat.le_of_ble_eq_true rfl⟩ rfl rv_38 wd_772 wd_773 wd_774 rfl (e_X9_dryFor_38 hq7) ?_
      refine z_istore_n (pc2 := 40) (L2 := [some (.ref 8), some (.int a1), some (.int a2), some (.int q7), none, none]) rfl dX11_walk_39 (by decide) rfl rfl ?_
      refine z_iconst (pc2 := 41) rfl dX11_walk_40 lt_i_1 ?_
      refine z_aload_n (pc2 := 42) rfl dX11_walk_41 rfl ?_
      refine z_getR 8 11 0 38 (pc2 := 45) rfl dX11_walk_42 rfl rfl ff_11_0 wd_302 rfl ?_
      refine z_getR 38 9 14 46 (pc2 := 48) rfl dX11_walk_45 rfl rfl ff_9_14 wd_260 rfl ?_
      refine z_iload_n (pc2 := 49) rfl dX11_walk_48 rfl ?_
      obtain ⟨hb8, h⟩ := ab_ck_e h
      refine z_iald 46 (pc2 := 50) (j := (a1).toNatClampNeg) rfl dX11_walk_49 rfl rfl hb8 rfl ?_
      refine z_ishl (pc2 := 51) rfl dX11_walk_50 ?_
      obtain ⟨x9, hxx9, h⟩ := ab_lt_e h
      refine z_top hxx9 ?_
      refine z_istore (pc2 := 53) (L2 := [some (.ref 8), some (.int a1), some (.int a2), some (.int q7), some (.int x9), none]) rfl dX11_walk_51 (by decide) rfl rfl ?_
      refine z_iconst (pc2 := 54) rfl dX11_walk_53 lt_i_0 ?_
      refine z_istore (pc2 := 56) (L2 := [some (.ref 8), some (.int a1), some (.int a2), some (.int q7), some (.int x9), some (.int (0 : Int32))]) rfl dX11_walk_54 (by decide) rfl rfl ?_
      refine z_fgt [true, false, true, true, true, true] (L2 := [some (.ref 8), none, some (.int a2), some (.int q7), some (.int x9), some (.int (0 : Int32))]) rfl ?_
      refine e_X11_walk_L56 (fun  h => ?_) _ _ _ h
      refine z_aload_n (pc2 := 95) rfl dX11_walk_94 rfl ?_
      refine z_iconst (pc2 := 96) rfl dX11_walk_95 lt_i_2 ?_
      obtain ⟨q15, hq15, h⟩ := ab_bnd h
      refine z_callVi 8 [.int (2 : Int32)] [some (.ref 8), some (.int (2 : Int32))] (pc2 := 99) rfl rfl dX11_walk_96 ok_X11_refuse ⟨fun _ => rfl, fun _ => Nat.le_of_ble_eq_true rfl⟩ rfl rv_8 wd_346 wd_348 wd_0 rfl (e_X11_refuse hq15) ?_
      exact z_iret dX11_walk_99 rfl rfl (fi_w h)
    · replace h := ab_neg hc5 h
      refine z_aload_n (pc2 := 18) rfl dX11_walk_17 rfl ?_
      refine z_iconst (pc2 := 19) rfl dX11_walk_18 lt_i_1 ?_
      obtain ⟨q16, hq16, h⟩ := ab_bnd h
      refine z_callVi 8 [.int (1 : Int32)] [some (.ref 8), some (.int (1 : Int32))] (pc2 := 22) rfl rfl dX11_walk_19 ok_X11_refuse ⟨fun _ => rfl, fun _ => Nat.le_of_ble_eq_true rfl⟩ rfl rv_8 wd_346 wd_348 wd_0 rfl (e_X11_refuse hq16) ?_
      exact z_iret dX11_walk_22 rfl rfl (fi_w h)
def f_X11_council_L24 (p1 : Int32) (σ : ab_F) (K : Int32 → Option (Int32 × ab_F)) : Nat → Int32 → Int32 → Int32 → Option (Int32 × ab_F)
  | 0, _, _, _ => none
  | n + 1, u2, u3, u4 => (if ((1 : Int32) <<< ((σ 38 11) &&& 31)) ≤ u4 then (K u2) else (f_J6_bitCount_0f7a4 u4 σ).bind (fun q4 => (if u3 ≤ q4 then ab_lt (u4 + (1 : Int32)) (fun x6 => (f_X11_council_L24 p1 σ K n u2 u3 x6)) else (f_X9_knownAmong 38 u4 σ).bind (fun q7 => (if (p1 &&& (q7 ^^^ (-1 : Int32))) = 0 then ab_lt (u4 + (1 : Int32)) (fun x10 => (f_X11_council_L24 p1 σ K n u4 q4 x10)) else ab_lt (u4 + (1 : Int32)) (fun x9 => (f_X11_council_L24 p1 σ K n u2 u3 x9)))))))
set_option maxRecDepth 100000 in
set_option maxHeartbeats 4000000 in
theorem e_X11_council_L24 {sc : Nat × (Nat → Int32)} {r : Option Nat × Option Nat} {p1 : Int32} {σ : ab_F} {K : Int32 → Option (Int32 × ab_F)} {res : (Int32 × ab_F)} (hK : ∀ (u2 : Int32), K u2 = some res → ab_E mX11_council 1 sc 79 [some (.ref 8), none, some (.int u2), none, none, none] [] (σ, r) (fun v S => v = some (.int res.1) ∧ S = (res.2, r))) : ∀ (n : Nat) (u2 : Int32) (u3 : Int32) (u4 : Int32), f_X11_council_L24 p1 σ K n u2 u3 u4 = some res → ab_E mX11_council 1 sc 24 [some (.ref 8), some (.int p1), some (.int u2), some (.int u3), some (.int u4), none] [] (σ, r) (fun v S => v = some (.int res.1) ∧ S = (res.2, r)) := by
  intro n
  induction n with
  | zero =>
    intro u2 u3 u4 h
    rw [f_X11_council_L24] at h
    cases h
  | succ n ih =>
    intro u2 u3 u4 h
    rw [f_X11_council_L24] at h
    refine z_iload (pc2 := 26) rfl dX11_council_24 rfl ?_
    refine z_iconst (pc2 := 27) rfl dX11_council_26 lt_i_1 ?_
    refine z_aload_n (pc2 := 28) rfl dX11_council_27 rfl ?_
    refine z_getR 8 11 0 38 (pc2 := 31) rfl dX11_council_28 rfl rfl ff_11_0 wd_302 rfl ?_
    refine z_getI 38 9 11 (pc2 := 34) rfl dX11_council_31 rfl rfl ff_9_11 wd_251 ?_
    refine z_ishl (pc2 := 35) rfl dX11_council_34 ?_
    refine z_icmp_ge (pc2 := 38) (tgt := 79) rfl dX11_council_35 (by decide) (fun hc3 => ?_) (fun hc3 => ?_)
    · replace h := ab_pos hc3 h
      refine z_fgt [true, false, true, false, false, false] (L2 := [some (.ref 8), none, some (.int u2), none, none, none]) rfl ?_
      exact hK _ h
    · replace h := ab_neg hc3 h
      refine z_iload (pc2 := 40) rfl dX11_council_38 rfl ?_
      obtain ⟨q4, hq4, h⟩ := ab_bnd h
      refine z_callSi [.int u4] [some (.int u4)] (pc2 := 43) rfl rfl dX11_council_40 ok_J6_bitCount_0f7a4 ⟨fun _ => rfl, fun _ => Nat.le_of_ble_eq_true rfl⟩ rfl wd_767 wd_386 rfl (e_J6_bitCount_0f7a4 hq4) ?_
      refine z_istore (pc2 := 45) (L2 := [some (.ref 8), some (.int p1), some (.int u2), some (.int u3), some (.int u4), some (.int q4)]) rfl dX11_council_43 (by decide) rfl rfl ?_
      refine z_iload (pc2 := 47) rfl dX11_council_45 rfl ?_
      refine z_iload_n (pc2 := 48) rfl dX11_council_47 rfl ?_
      refine z_icmp_ge (pc2 := 51) (tgt := 73) rfl dX11_council_48 (by decide) (fun hc5 => ?_) (fun hc5 => ?_)
      · replace h := ab_pos hc5 h
        obtain ⟨x6, hxx6, h⟩ := ab_lt_e h
        refine z_iinc (pc2 := 76) (v := x6) (L2 := [some (.ref 8), some (.int p1), some (.int u2), some (.int u3), some (.int x6), some (.int q4)]) rfl dX11_council_73 rfl (by rw [hxx6]; rfl) (by decide) rfl rfl ?_
        refine ab_goto (tgt := 24) dX11_council_76 (by decide) ?_
        refine z_fgt [true, true, true, true, true, false] (L2 := [some (.ref 8), some (.int p1), some (.int u2), some (.int u3), some (.int x6), none]) rfl ?_
        exact ih _ _ _ h
      · replace h := ab_neg hc5 h
        refine z_iload_n (pc2 := 52) rfl dX11_council_51 rfl ?_
        refine z_aload_n (pc2 := 53) rfl dX11_council_52 rfl ?_
        refine z_getR 8 11 0 38 (pc2 := 56) rfl dX11_council_53 rfl rfl ff_11_0 wd_302 rfl ?_
        refine z_iload (pc2 := 58) rfl dX11_council_56 rfl ?_
        obtain ⟨q7, hq7, h⟩ := ab_bnd h
        refine z_callVi 38 [.int u4] [some (.ref 38), some (.int u4), none, none] (pc2 := 61) rfl rfl dX11_council_58 ok_X9_knownAmong ⟨fun _ => rfl, fun _ => Nat.le_of_ble_eq_true rfl⟩ rfl rv_38 wd_785 wd_705 wd_706 rfl (e_X9_knownAmong_38 hq7) ?_
        refine z_iconst (pc2 := 62) rfl dX11_council_61 lt_i_m1 ?_
        refine z_ixor (pc2 := 63) rfl dX11_council_62 ?_
        refine z_iand (pc2 := 64) rfl dX11_council_63 ?_
        refine z_if_ne (pc2 := 67) (tgt := 73) rfl dX11_council_64 (by decide) (fun hc8 => ?_) (fun hc8 => ?_)
        · replace h := ab_neg hc8 h
          obtain ⟨x9, hxx9, h⟩ := ab_lt_e h
          refine z_iinc (pc2 := 76) (v := x9) (L2 := [some (.ref 8), some (.int p1), some (.int u2), some (.int u3), some (.int x9), some (.int q4)]) rfl dX11_council_73 rfl (by rw [hxx9]; rfl) (by decide) rfl rfl ?_
          refine ab_goto (tgt := 24) dX11_council_76 (by decide) ?_
          refine z_fgt [true, true, true, true, true, false] (L2 := [some (.ref 8), some (.int p1), some (.int u2), some (.int u3), some (.int x9), none]) rfl ?_
          exact ih _ _ _ h
        · replace h := ab_pos hc8 h
          refine z_iload (pc2 := 69) rfl dX11_council_67 rfl ?_
          refine z_istore_n (pc2 := 70) (L2 := [some (.ref 8), some (.int p1), some (.int u2), some (.int q4), some (.int u4), some (.int q4)]) rfl dX11_council_69 (by decide) rfl rfl ?_
          refine z_iload (pc2 := 72) rfl dX11_council_70 rfl ?_
          refine z_istore_n (pc2 := 73) (L2 := [some (.ref 8), some (.int p1), some (.int u4), some (.int q4), some (.int u4), some (.int q4)]) rfl dX11_council_72 (by decide) rfl rfl ?_
          obtain ⟨x10, hxx10, h⟩ := ab_lt_e h
          refine z_iinc (pc2 := 76) (v := x10) (L2 := [some (.ref 8), some (.int p1), some (.int u4), some (.int q4), some (.int x10), some (.int q4)]) rfl dX11_council_73 rfl (by rw [hxx10]; rfl) (by decide) rfl rfl ?_
          refine ab_goto (tgt := 24) dX11_council_76 (by decide) ?_
          refine z_fgt [true, true, true, true, true, false] (L2 := [some (.ref 8), some (.int p1), some (.int u4), some (.int q4), some (.int x10), none]) rfl ?_
          exact ih _ _ _ h
def f_X11_council (a1 : Int32) (σ : ab_F) : Option (Int32 × ab_F) := (f_X11_outside a1 (4095 : Int32) σ).bind (fun q1 => (if (ab_b q1) = 0 then (f_X11_council_L24 a1 σ (fun (k11 : Int32) => (if 0 ≤ k11 then (some (k11, σ)) else (f_X11_refuse (2 : Int32) σ).bind (fun q13 => (some (q13.1, q13.2))))) ab_fu (-1 : Int32) (9 : Int32) (0 : Int32)) else (f_X11_refuse (1 : Int32) σ).bind (fun q14 => (some (q14.1, q14.2)))))
set_option maxRecDepth 100000 in
set_option maxHeartbeats 4000000 in
theorem e_X11_council {sc : Nat × (Nat → Int32)} {r : Option Nat × Option Nat} {a1 : Int32} {σ : ab_F} {res : (Int32 × ab_F)} (h : f_X11_council a1 σ = some res) : ab_E mX11_council 1 sc 0 [some (.ref 8), some (.int a1), none, none, none, none] [] (σ, r) (fun v S => v = some (.int res.1) ∧ S = (res.2, r)) := by
  unfold f_X11_council at h
  refine z_iload_n (pc2 := 1) rfl dX11_council_0 rfl ?_
  refine z_sipush (pc2 := 4) rfl dX11_council_1 lt_s_4095 ?_
  obtain ⟨q1, hq1, h⟩ := ab_bnd h
  refine z_callSi [.int a1, .int (4095 : Int32)] [some (.int a1), some (.int (4095 : Int32))] (pc2 := 7) rfl rfl dX11_council_4 ok_X11_outside ⟨fun _ => rfl, fun _ => Nat.le_of_ble_eq_true rfl⟩ rfl wd_343 wd_344 rfl (e_X11_outside hq1) ?_
  refine z_if_eq (pc2 := 10) (tgt := 16) rfl dX11_council_7 (by decide) (fun hc2 => ?_) (fun hc2 => ?_)
  · replace h := ab_pos hc2 h
    refine z_iconst (pc2 := 17) rfl dX11_council_16 lt_i_m1 ?_
    refine z_istore_n (pc2 := 18) (L2 := [some (.ref 8), some (.int a1), some (.int (-1 : Int32)), none, none, none]) rfl dX11_council_17 (by decide) rfl rfl ?_
    refine z_bipush (pc2 := 20) rfl dX11_council_18 lt_b_9 ?_
    refine z_istore_n (pc2 := 21) (L2 := [some (.ref 8), some (.int a1), some (.int (-1 : Int32)), some (.int (9 : Int32)), none, none]) rfl dX11_council_20 (by decide) rfl rfl ?_
    refine z_iconst (pc2 := 22) rfl dX11_council_21 lt_i_0 ?_
    refine z_istore (pc2 := 24) (L2 := [some (.ref 8), some (.int a1), some (.int (-1 : Int32)), some (.int (9 : Int32)), some (.int (0 : Int32)), none]) rfl dX11_council_22 (by decide) rfl rfl ?_
    refine z_fgt [true, true, true, true, true, false] (L2 := [some (.ref 8), some (.int a1), some (.int (-1 : Int32)), some (.int (9 : Int32)), some (.int (0 : Int32)), none]) rfl ?_
    refine e_X11_council_L24 (fun k11 h => ?_) _ _ _ _ h
    refine z_iload_n (pc2 := 80) rfl dX11_council_79 rfl ?_
    refine z_if_ge (pc2 := 83) (tgt := 91) rfl dX11_council_80 (by decide) (fun hc12 => ?_) (fun hc12 => ?_)
    · replace h := ab_pos hc12 h
      refine z_iload_n (pc2 := 92) rfl dX11_council_91 rfl ?_
      exact z_iret dX11_council_92 rfl rfl (fi_w h)
    · replace h := ab_neg hc12 h
      refine z_aload_n (pc2 := 84) rfl dX11_council_83 rfl ?_
      refine z_iconst (pc2 := 85) rfl dX11_council_84 lt_i_2 ?_
      obtain ⟨q13, hq13, h⟩ := ab_bnd h
      refine z_callVi 8 [.int (2 : Int32)] [some (.ref 8), some (.int (2 : Int32))] (pc2 := 88) rfl rfl dX11_council_85 ok_X11_refuse ⟨fun _ => rfl, fun _ => Nat.le_of_ble_eq_true rfl⟩ rfl rv_8 wd_346 wd_348 wd_0 rfl (e_X11_refuse hq13) ?_
      refine ab_goto (tgt := 92) dX11_council_88 (by decide) ?_
      exact z_iret dX11_council_92 rfl rfl (fi_w h)
  · replace h := ab_neg hc2 h
    refine z_aload_n (pc2 := 11) rfl dX11_council_10 rfl ?_
    refine z_iconst (pc2 := 12) rfl dX11_council_11 lt_i_1 ?_
    obtain ⟨q14, hq14, h⟩ := ab_bnd h
    refine z_callVi 8 [.int (1 : Int32)] [some (.ref 8), some (.int (1 : Int32))] (pc2 := 15) rfl rfl dX11_council_12 ok_X11_refuse ⟨fun _ => rfl, fun _ => Nat.le_of_ble_eq_true rfl⟩ rfl rv_8 wd_346 wd_348 wd_0 rfl (e_X11_refuse hq14) ?_
    exact z_iret dX11_council_15 rfl rfl (fi_w h)
def f_X11_odds_L37 (p1 : Int32) (p2 : Int32) (p3 : Int32) (K : Int32 → ab_F → Option (Int32 × ab_F)) : Nat → Int32 → Int32 → ab_F → Option (Int32 × ab_F)
  | 0, _, _, _ => none
  | n + 1, u4, u5, σ => (if (16 : Int32) ≤ u5 then (K u4 σ) else (f_X9_copyFrom_49_38 σ).bind (fun q10 => ab_lt (ab_u q10 49 4 u5) (fun (s11 : ab_F) => (f_X9_daysGo 49 p2 s11).bind (fun q12 => (f_X9_isWet 49 p1 q12).bind (fun q13 => (if (ab_b q13) = 0 then ab_lt (u5 + (1 : Int32)) (fun x15 => (f_X11_odds_L37 p1 p2 p3 K n u4 x15 q12)) else ab_lt (u4 + (1 : Int32)) (fun x16 => ab_lt (u5 + (1 : Int32)) (fun x17 => (f_X11_odds_L37 p1 p2 p3 K n x16 x17 q12)))))))))
set_option maxRecDepth 100000 in
set_option maxHeartbeats 4000000 in
theorem e_X11_odds_L37 {sc : Nat × (Nat → Int32)} {r : Option Nat × Option Nat} {p1 : Int32} {p2 : Int32} {p3 : Int32} {K : Int32 → ab_F → Option (Int32 × ab_F)} {res : (Int32 × ab_F)} (hK : ∀ (u4 : Int32) (σ : ab_F), K u4 σ = some res → ab_E mX11_odds 7 sc 92 [none, none, none, some (.int p3), some (.int u4), none] [] (σ, r) (fun v S => v = some (.int res.1) ∧ S = (res.2, r))) : ∀ (n : Nat) (u4 : Int32) (u5 : Int32) (σ : ab_F), f_X11_odds_L37 p1 p2 p3 K n u4 u5 σ = some res → ab_E mX11_odds 7 sc 37 [some (.ref 8), some (.int p1), some (.int p2), some (.int p3), some (.int u4), some (.int u5)] [] (σ, r) (fun v S => v = some (.int res.1) ∧ S = (res.2, r)) := by
  intro n
  induction n with
  | zero =>
    intro u4 u5 σ h
    rw [f_X11_odds_L37] at h
    cases h
  | succ n ih =>
    intro u4 u5 σ h
    rw [f_X11_odds_L37] at h
    refine z_iload (pc2 := 39) rfl dX11_odds_37 rfl ?_
    refine z_bipush (pc2 := 41) rfl dX11_odds_39 lt_b_16 ?_
    refine z_icmp_ge (pc2 := 44) (tgt := 92) rfl dX11_odds_41 (by decide) (fun hc9 => ?_) (fun hc9 => ?_)
    · replace h := ab_pos hc9 h
      refine z_fgt [false, false, false, true, true, false] (L2 := [none, none, none, some (.int p3), some (.int u4), none]) rfl ?_
      exact hK _ _ h
    · replace h := ab_neg hc9 h
      refine z_aload_n (pc2 := 45) rfl dX11_odds_44 rfl ?_
      refine z_getR 8 11 1 49 (pc2 := 48) rfl dX11_odds_45 rfl rfl ff_11_1 wd_303 rfl ?_
      refine z_aload_n (pc2 := 49) rfl dX11_odds_48 rfl ?_
      refine z_getR 8 11 0 38 (pc2 := 52) rfl dX11_odds_49 rfl rfl ff_11_0 wd_302 rfl ?_
      obtain ⟨q10, hq10, h⟩ := ab_bnd h
      refine z_callVv 49 [.ref 38] [some (.ref 49), some (.ref 38)] (pc2 := 55) rfl rfl dX11_odds_52 ok_X9_copyFrom ⟨fun _ => rfl, fun _ => Nat.le_of_ble_eq_true rfl⟩ rfl rv_49 wd_734 wd_735 wd_736 rfl (e_X9_copyFrom_49_38 hq10) ?_
      refine z_aload_n (pc2 := 56) rfl dX11_odds_55 rfl ?_
      refine z_getR 8 11 1 49 (pc2 := 59) rfl dX11_odds_56 rfl rfl ff_11_1 wd_303 rfl ?_
      refine z_iload (pc2 := 61) rfl dX11_odds_59 rfl ?_
      refine z_putI 49 9 4 (pc2 := 64) (ft := .int) rfl dX11_odds_61 rfl rfl ff_9_4 wd_238 rfl (by decide +kernel) rfl rfl ?_
      obtain ⟨s11, hs11, h⟩ := ab_lt_e h
      refine z_tops hs11 ?_
      refine z_aload_n (pc2 := 65) rfl dX11_odds_64 rfl ?_
      refine z_getR 8 11 1 49 (pc2 := 68) rfl dX11_odds_65 rfl rfl ff_11_1 wd_303 rfl ?_
      refine z_iload_n (pc2 := 69) rfl dX11_odds_68 rfl ?_
      obtain ⟨q12, hq12, h⟩ := ab_bnd h
      refine z_callVv 49 [.int p2] [some (.ref 49), some (.int p2), none] (pc2 := 72) rfl rfl dX11_odds_69 ok_X9_daysGo ⟨fun _ => rfl, fun _ => Nat.le_of_ble_eq_true rfl⟩ rfl rv_49 wd_671 wd_672 wd_673 rfl (e_X9_daysGo_49 hq12) ?_
      refine z_aload_n (pc2 := 73) rfl dX11_odds_72 rfl ?_
      refine z_getR 8 11 1 49 (pc2 := 76) rfl dX11_odds_73 rfl rfl ff_11_1 wd_303 rfl ?_
      refine z_iload_n (pc2 := 77) rfl dX11_odds_76 rfl ?_
      obtain ⟨q13, hq13, h⟩ := ab_bnd h
      refine z_callVi 49 [.int p1] [some (.ref 49), some (.int p1)] (pc2 := 80) rfl rfl dX11_odds_77 ok_X9_isWet ⟨fun _ => rfl, fun _ => Nat.le_of_ble_eq_true rfl⟩ rfl rv_49 wd_363 wd_364 wd_365 rfl (e_X9_isWet_49 hq13) ?_
      refine z_if_eq (pc2 := 83) (tgt := 86) rfl dX11_odds_80 (by decide) (fun hc14 => ?_) (fun hc14 => ?_)
      · replace h := ab_pos hc14 h
        obtain ⟨x15, hxx15, h⟩ := ab_lt_e h
        refine z_iinc (pc2 := 89) (v := x15) (L2 := [some (.ref 8), some (.int p1), some (.int p2), some (.int p3), some (.int u4), some (.int x15)]) rfl dX11_odds_86 rfl (by rw [hxx15]; rfl) (by decide) rfl rfl ?_
        refine ab_goto (tgt := 37) dX11_odds_89 (by decide) ?_
        refine z_fgt [true, true, true, true, true, true] (L2 := [some (.ref 8), some (.int p1), some (.int p2), some (.int p3), some (.int u4), some (.int x15)]) rfl ?_
        exact ih _ _ _ h
      · replace h := ab_neg hc14 h
        obtain ⟨x16, hxx16, h⟩ := ab_lt_e h
        refine z_iinc (pc2 := 86) (v := x16) (L2 := [some (.ref 8), some (.int p1), some (.int p2), some (.int p3), some (.int x16), some (.int u5)]) rfl dX11_odds_83 rfl (by rw [hxx16]; rfl) (by decide) rfl rfl ?_
        obtain ⟨x17, hxx17, h⟩ := ab_lt_e h
        refine z_iinc (pc2 := 89) (v := x17) (L2 := [some (.ref 8), some (.int p1), some (.int p2), some (.int p3), some (.int x16), some (.int x17)]) rfl dX11_odds_86 rfl (by rw [hxx17]; rfl) (by decide) rfl rfl ?_
        refine ab_goto (tgt := 37) dX11_odds_89 (by decide) ?_
        refine z_fgt [true, true, true, true, true, true] (L2 := [some (.ref 8), some (.int p1), some (.int p2), some (.int p3), some (.int x16), some (.int x17)]) rfl ?_
        exact ih _ _ _ h
def f_X11_odds (a1 : Int32) (a2 : Int32) (a3 : Int32) (σ : ab_F) : Option (Int32 × ab_F) := (f_X11_nobody a1 σ).bind (fun q1 => (if (ab_b q1) = 0 then (f_X11_outside a2 (40 : Int32) σ).bind (fun q4 => (if (ab_b q4) = 0 then (f_X11_outside a3 (1 : Int32) σ).bind (fun q7 => (if (ab_b q7) = 0 then (f_X11_odds_L37 a1 a2 a3 (fun (k18 : Int32) (s19 : ab_F) => (if k18 = 0 then (some (a3, s19)) else ab_lt ((k18 &&& (-k18))) (fun x21 => (if a3 = 0 then ab_ck (ab_nz x21) ((some ((k18 / x21), s19))) else ab_ck (ab_nz x21) ((some (((16 : Int32) / x21), s19))))))) ab_fu (0 : Int32) (0 : Int32) σ) else (f_X11_refuse (1 : Int32) σ).bind (fun q25 => (some (q25.1, q25.2))))) else (f_X11_refuse (1 : Int32) σ).bind (fun q6 => (some (q6.1, q6.2))))) else (f_X11_refuse (1 : Int32) σ).bind (fun q3 => (some (q3.1, q3.2)))))
set_option maxRecDepth 100000 in
set_option maxHeartbeats 4000000 in
theorem e_X11_odds {sc : Nat × (Nat → Int32)} {r : Option Nat × Option Nat} {a1 : Int32} {a2 : Int32} {a3 : Int32} {σ : ab_F} {res : (Int32 × ab_F)} (h : f_X11_odds a1 a2 a3 σ = some res) : ab_E mX11_odds 7 sc 0 [some (.ref 8), some (.int a1), some (.int a2), some (.int a3), none, none] [] (σ, r) (fun v S => v = some (.int res.1) ∧ S = (res.2, r)) := by
  unfold f_X11_odds at h
  refine z_aload_n (pc2 := 1) rfl dX11_odds_0 rfl ?_
  refine z_iload_n (pc2 := 2) rfl dX11_odds_1 rfl ?_
  obtain ⟨q1, hq1, h⟩ := ab_bnd h
  refine z_callVi 8 [.int a1] [some (.ref 8), some (.int a1)] (pc2 := 5) rfl rfl dX11_odds_2 ok_X11_nobody ⟨fun _ => rfl, fun _ => Nat.le_of_ble_eq_true rfl⟩ rfl rv_8 wd_359 wd_361 wd_1 rfl (e_X11_nobody hq1) ?_
  refine z_if_ne (pc2 := 8) (tgt := 25) rfl dX11_odds_5 (by decide) (fun hc2 => ?_) (fun hc2 => ?_)
  · replace h := ab_neg hc2 h
    refine z_aload_n (pc2 := 26) rfl dX11_odds_25 rfl ?_
    refine z_iconst (pc2 := 27) rfl dX11_odds_26 lt_i_1 ?_
    obtain ⟨q3, hq3, h⟩ := ab_bnd h
    refine z_callVi 8 [.int (1 : Int32)] [some (.ref 8), some (.int (1 : Int32))] (pc2 := 30) rfl rfl dX11_odds_27 ok_X11_refuse ⟨fun _ => rfl, fun _ => Nat.le_of_ble_eq_true rfl⟩ rfl rv_8 wd_346 wd_348 wd_0 rfl (e_X11_refuse hq3) ?_
    exact z_iret dX11_odds_30 rfl rfl (fi_w h)
  · replace h := ab_pos hc2 h
    refine z_iload_n (pc2 := 9) rfl dX11_odds_8 rfl ?_
    refine z_bipush (pc2 := 11) rfl dX11_odds_9 lt_b_40 ?_
    obtain ⟨q4, hq4, h⟩ := ab_bnd h
    refine z_callSi [.int a2, .int (40 : Int32)] [some (.int a2), some (.int (40 : Int32))] (pc2 := 14) rfl rfl dX11_odds_11 ok_X11_outside ⟨fun _ => rfl, fun _ => Nat.le_of_ble_eq_true rfl⟩ rfl wd_343 wd_344 rfl (e_X11_outside hq4) ?_
    refine z_if_ne (pc2 := 17) (tgt := 25) rfl dX11_odds_14 (by decide) (fun hc5 => ?_) (fun hc5 => ?_)
    · replace h := ab_neg hc5 h
      refine z_aload_n (pc2 := 26) rfl dX11_odds_25 rfl ?_
      refine z_iconst (pc2 := 27) rfl dX11_odds_26 lt_i_1 ?_
      obtain ⟨q6, hq6, h⟩ := ab_bnd h
      refine z_callVi 8 [.int (1 : Int32)] [some (.ref 8), some (.int (1 : Int32))] (pc2 := 30) rfl rfl dX11_odds_27 ok_X11_refuse ⟨fun _ => rfl, fun _ => Nat.le_of_ble_eq_true rfl⟩ rfl rv_8 wd_346 wd_348 wd_0 rfl (e_X11_refuse hq6) ?_
      exact z_iret dX11_odds_30 rfl rfl (fi_w h)
    · replace h := ab_pos hc5 h
      refine z_iload_n (pc2 := 18) rfl dX11_odds_17 rfl ?_
      refine z_iconst (pc2 := 19) rfl dX11_odds_18 lt_i_1 ?_
      obtain ⟨q7, hq7, h⟩ := ab_bnd h
      refine z_callSi [.int a3, .int (1 : Int32)] [some (.int a3), some (.int (1 : Int32))] (pc2 := 22) rfl rfl dX11_odds_19 ok_X11_outside ⟨fun _ => rfl, fun _ => Nat.le_of_ble_eq_true rfl⟩ rfl wd_343 wd_344 rfl (e_X11_outside hq7) ?_
      refine z_if_eq (pc2 := 25) (tgt := 31) rfl dX11_odds_22 (by decide) (fun hc8 => ?_) (fun hc8 => ?_)
      · replace h := ab_pos hc8 h
        refine z_iconst (pc2 := 32) rfl dX11_odds_31 lt_i_0 ?_
        refine z_istore (pc2 := 34) (L2 := [some (.ref 8), some (.int a1), some (.int a2), some (.int a3), some (.int (0 : Int32)), none]) rfl dX11_odds_32 (by decide) rfl rfl ?_
        refine z_iconst (pc2 := 35) rfl dX11_odds_34 lt_i_0 ?_
        refine z_istore (pc2 := 37) (L2 := [some (.ref 8), some (.int a1), some (.int a2), some (.int a3), some (.int (0 : Int32)), some (.int (0 : Int32))]) rfl dX11_odds_35 (by decide) rfl rfl ?_
        refine z_fgt [true, true, true, true, true, true] (L2 := [some (.ref 8), some (.int a1), some (.int a2), some (.int a3), some (.int (0 : Int32)), some (.int (0 : Int32))]) rfl ?_
        refine e_X11_odds_L37 (fun k18 s19 h => ?_) _ _ _ _ h
        refine z_iload (pc2 := 94) rfl dX11_odds_92 rfl ?_
        refine z_if_ne (pc2 := 97) (tgt := 99) rfl dX11_odds_94 (by decide) (fun hc20 => ?_) (fun hc20 => ?_)
        · replace h := ab_neg hc20 h
          refine z_iload (pc2 := 101) rfl dX11_odds_99 rfl ?_
          refine z_iload (pc2 := 103) rfl dX11_odds_101 rfl ?_
          refine z_ineg (pc2 := 104) rfl dX11_odds_103 ?_
          refine z_iand (pc2 := 105) rfl dX11_odds_104 ?_
          obtain ⟨x21, hxx21, h⟩ := ab_lt_e h
          refine z_top hxx21 ?_
          refine z_istore (pc2 := 107) (L2 := [none, none, none, some (.int a3), some (.int k18), some (.int x21)]) rfl dX11_odds_105 (by decide) rfl rfl ?_
          refine z_iload_n (pc2 := 108) rfl dX11_odds_107 rfl ?_
          refine z_if_ne (pc2 := 111) (tgt := 119) rfl dX11_odds_108 (by decide) (fun hc22 => ?_) (fun hc22 => ?_)
          · replace h := ab_neg hc22 h
            refine z_bipush (pc2 := 121) rfl dX11_odds_119 lt_b_16 ?_
            refine z_iload (pc2 := 123) rfl dX11_odds_121 rfl ?_
            obtain ⟨hb23, h⟩ := ab_ck_e h
            refine z_idiv (pc2 := 124) rfl dX11_odds_123 (ab_nz_e hb23) ?_
            exact z_iret dX11_odds_124 rfl rfl (fi_w h)
          · replace h := ab_pos hc22 h
            refine z_iload (pc2 := 113) rfl dX11_odds_111 rfl ?_
            refine z_iload (pc2 := 115) rfl dX11_odds_113 rfl ?_
            obtain ⟨hb24, h⟩ := ab_ck_e h
            refine z_idiv (pc2 := 116) rfl dX11_odds_115 (ab_nz_e hb24) ?_
            refine ab_goto (tgt := 124) dX11_odds_116 (by decide) ?_
            exact z_iret dX11_odds_124 rfl rfl (fi_w h)
        · replace h := ab_pos hc20 h
          refine z_iload_n (pc2 := 98) rfl dX11_odds_97 rfl ?_
          exact z_iret dX11_odds_98 rfl rfl (fi_w h)
      · replace h := ab_neg hc8 h
        refine z_aload_n (pc2 := 26) rfl dX11_odds_25 rfl ?_
        refine z_iconst (pc2 := 27) rfl dX11_odds_26 lt_i_1 ?_
        obtain ⟨q25, hq25, h⟩ := ab_bnd h
        refine z_callVi 8 [.int (1 : Int32)] [some (.ref 8), some (.int (1 : Int32))] (pc2 := 30) rfl rfl dX11_odds_27 ok_X11_refuse ⟨fun _ => rfl, fun _ => Nat.le_of_ble_eq_true rfl⟩ rfl rv_8 wd_346 wd_348 wd_0 rfl (e_X11_refuse hq25) ?_
        exact z_iret dX11_odds_30 rfl rfl (fi_w h)
def f_X11_fitsKind_L24 (q : Nat) (p2 : Int32) (K : ab_F → Option (Bool × ab_F)) : Nat → Int32 → ab_F → Option (Bool × ab_F)
  | 0, _, _ => none
  | n + 1, u4, σ => (if (σ q 1) ≤ u4 then (K σ) else ab_ck (ab_ib u4 24) (ab_ck (ab_ib p2 8) ((if (σ (q + 1) (u4).toNatClampNeg) = (σ 58 (p2).toNatClampNeg) then (f_X9_dayGoes 49 σ).bind (fun q8 => ab_lt (u4 + (1 : Int32)) (fun x9 => (f_X11_fitsKind_L24 q p2 K n x9 q8))) else (some (false, σ))))))
set_option maxRecDepth 100000 in
set_option maxHeartbeats 4000000 in
theorem e_X11_fitsKind_77_L24 {sc : Nat × (Nat → Int32)} {r : Option Nat × Option Nat} {p2 : Int32} {K : ab_F → Option (Bool × ab_F)} {res : (Bool × ab_F)} (hK : ∀ (σ : ab_F), K σ = some res → ab_E mX11_fitsKind 6 sc 67 [none, none, none, none, none] [] (σ, r) (fun v S => v = some (.int (ab_b res.1)) ∧ S = (res.2, r))) : ∀ (n : Nat) (u4 : Int32) (σ : ab_F), f_X11_fitsKind_L24 77 p2 K n u4 σ = some res → ab_E mX11_fitsKind 6 sc 24 [some (.ref 8), some (.ref 77), some (.int p2), none, some (.int u4)] [] (σ, r) (fun v S => v = some (.int (ab_b res.1)) ∧ S = (res.2, r)) := by
  intro n
  induction n with
  | zero =>
    intro u4 σ h
    rw [f_X11_fitsKind_L24] at h
    cases h
  | succ n ih =>
    intro u4 σ h
    rw [f_X11_fitsKind_L24] at h
    refine z_iload (pc2 := 26) rfl dX11_fitsKind_24 rfl ?_
    refine z_aload_n (pc2 := 27) rfl dX11_fitsKind_26 rfl ?_
    refine z_getI 77 6 1 (pc2 := 30) rfl dX11_fitsKind_27 rfl rfl ff_6_1 wd_102 ?_
    refine z_icmp_ge (pc2 := 33) (tgt := 67) rfl dX11_fitsKind_30 (by decide) (fun hc4 => ?_) (fun hc4 => ?_)
    · replace h := ab_pos hc4 h
      refine z_fgt [false, false, false, false, false] (L2 := [none, none, none, none, none]) rfl ?_
      exact hK  _ h
    · replace h := ab_neg hc4 h
      refine z_aload_n (pc2 := 34) rfl dX11_fitsKind_33 rfl ?_
      refine z_getR 77 6 0 78 (pc2 := 37) rfl dX11_fitsKind_34 rfl rfl ff_6_0 wd_99 rfl ?_
      refine z_iload (pc2 := 39) rfl dX11_fitsKind_37 rfl ?_
      obtain ⟨hb5, h⟩ := ab_ck_e h
      refine z_iald 78 (pc2 := 40) (j := (u4).toNatClampNeg) rfl dX11_fitsKind_39 rfl rfl hb5 rfl ?_
      refine z_aload_n (pc2 := 41) rfl dX11_fitsKind_40 rfl ?_
      refine z_getR 8 11 1 49 (pc2 := 44) rfl dX11_fitsKind_41 rfl rfl ff_11_1 wd_303 rfl ?_
      refine z_getR 49 9 15 58 (pc2 := 47) rfl dX11_fitsKind_44 rfl rfl ff_9_15 wd_262 rfl ?_
      refine z_iload_n (pc2 := 48) rfl dX11_fitsKind_47 rfl ?_
      obtain ⟨hb6, h⟩ := ab_ck_e h
      refine z_iald 58 (pc2 := 49) (j := (p2).toNatClampNeg) rfl dX11_fitsKind_48 rfl rfl hb6 rfl ?_
      refine z_icmp_eq (pc2 := 52) (tgt := 54) rfl dX11_fitsKind_49 (by decide) (fun hc7 => ?_) (fun hc7 => ?_)
      · replace h := ab_pos hc7 h
        refine z_aload_n (pc2 := 55) rfl dX11_fitsKind_54 rfl ?_
        refine z_getR 8 11 1 49 (pc2 := 58) rfl dX11_fitsKind_55 rfl rfl ff_11_1 wd_303 rfl ?_
        obtain ⟨q8, hq8, h⟩ := ab_bnd h
        refine z_callVv 49 [] [some (.ref 49), none] (pc2 := 61) rfl rfl dX11_fitsKind_58 ok_X9_dayGoes ⟨fun _ => rfl, fun _ => Nat.le_of_ble_eq_true rfl⟩ rfl rv_49 wd_721 wd_676 wd_677 rfl (e_X9_dayGoes_49 hq8) ?_
        obtain ⟨x9, hxx9, h⟩ := ab_lt_e h
        refine z_iinc (pc2 := 64) (v := x9) (L2 := [some (.ref 8), some (.ref 77), some (.int p2), none, some (.int x9)]) rfl dX11_fitsKind_61 rfl (by rw [hxx9]; rfl) (by decide) rfl rfl ?_
        refine ab_goto (tgt := 24) dX11_fitsKind_64 (by decide) ?_
        refine z_fgt [true, true, true, false, true] (L2 := [some (.ref 8), some (.ref 77), some (.int p2), none, some (.int x9)]) rfl ?_
        exact ih _ _ h
      · replace h := ab_neg hc7 h
        refine z_iconst (pc2 := 53) rfl dX11_fitsKind_52 lt_i_0 ?_
        exact z_iret dX11_fitsKind_53 rfl rfl (fz_w rfl h)
def f_X11_fitsKind (q : Nat) (a2 : Int32) (a3 : Int32) (σ : ab_F) : Option (Bool × ab_F) := (f_X9_copyFrom_49_38 σ).bind (fun q1 => ab_ck (ab_ib a2 8) (ab_lt (ab_u q1 55 (a2).toNatClampNeg a3) (fun (s3 : ab_F) => (f_X11_fitsKind_L24 q a2 (fun (s10 : ab_F) => (some (true, s10))) ab_fu (0 : Int32) s3))))
set_option maxRecDepth 100000 in
set_option maxHeartbeats 4000000 in
theorem e_X11_fitsKind_77 {sc : Nat × (Nat → Int32)} {r : Option Nat × Option Nat} {a2 : Int32} {a3 : Int32} {σ : ab_F} {res : (Bool × ab_F)} (h : f_X11_fitsKind 77 a2 a3 σ = some res) : ab_E mX11_fitsKind 6 sc 0 [some (.ref 8), some (.ref 77), some (.int a2), some (.int a3), none] [] (σ, r) (fun v S => v = some (.int (ab_b res.1)) ∧ S = (res.2, r)) := by
  unfold f_X11_fitsKind at h
  refine z_aload_n (pc2 := 1) rfl dX11_fitsKind_0 rfl ?_
  refine z_getR 8 11 1 49 (pc2 := 4) rfl dX11_fitsKind_1 rfl rfl ff_11_1 wd_303 rfl ?_
  refine z_aload_n (pc2 := 5) rfl dX11_fitsKind_4 rfl ?_
  refine z_getR 8 11 0 38 (pc2 := 8) rfl dX11_fitsKind_5 rfl rfl ff_11_0 wd_302 rfl ?_
  obtain ⟨q1, hq1, h⟩ := ab_bnd h
  refine z_callVv 49 [.ref 38] [some (.ref 49), some (.ref 38)] (pc2 := 11) rfl rfl dX11_fitsKind_8 ok_X9_copyFrom ⟨fun _ => rfl, fun _ => Nat.le_of_ble_eq_true rfl⟩ rfl rv_49 wd_734 wd_735 wd_736 rfl (e_X9_copyFrom_49_38 hq1) ?_
  refine z_aload_n (pc2 := 12) rfl dX11_fitsKind_11 rfl ?_
  refine z_getR 8 11 1 49 (pc2 := 15) rfl dX11_fitsKind_12 rfl rfl ff_11_1 wd_303 rfl ?_
  refine z_getR 49 9 12 55 (pc2 := 18) rfl dX11_fitsKind_15 rfl rfl ff_9_12 wd_253 rfl ?_
  refine z_iload_n (pc2 := 19) rfl dX11_fitsKind_18 rfl ?_
  refine z_iload_n (pc2 := 20) rfl dX11_fitsKind_19 rfl ?_
  obtain ⟨hb2, h⟩ := ab_ck_e h
  refine z_iast 55 (pc2 := 21) (j := (a2).toNatClampNeg) rfl dX11_fitsKind_20 rfl rfl hb2 rfl ?_
  obtain ⟨s3, hs3, h⟩ := ab_lt_e h
  refine z_tops hs3 ?_
  refine z_iconst (pc2 := 22) rfl dX11_fitsKind_21 lt_i_0 ?_
  refine z_istore (pc2 := 24) (L2 := [some (.ref 8), some (.ref 77), some (.int a2), some (.int a3), some (.int (0 : Int32))]) rfl dX11_fitsKind_22 (by decide) rfl rfl ?_
  refine z_fgt [true, true, true, false, true] (L2 := [some (.ref 8), some (.ref 77), some (.int a2), none, some (.int (0 : Int32))]) rfl ?_
  refine e_X11_fitsKind_77_L24 (fun s10 h => ?_) _ _ _ h
  refine z_iconst (pc2 := 68) rfl dX11_fitsKind_67 lt_i_1 ?_
  exact z_iret dX11_fitsKind_68 rfl rfl (fz_w rfl h)
set_option maxRecDepth 100000 in
set_option maxHeartbeats 4000000 in
theorem e_X11_fitsKind_79_L24 {sc : Nat × (Nat → Int32)} {r : Option Nat × Option Nat} {p2 : Int32} {K : ab_F → Option (Bool × ab_F)} {res : (Bool × ab_F)} (hK : ∀ (σ : ab_F), K σ = some res → ab_E mX11_fitsKind 6 sc 67 [none, none, none, none, none] [] (σ, r) (fun v S => v = some (.int (ab_b res.1)) ∧ S = (res.2, r))) : ∀ (n : Nat) (u4 : Int32) (σ : ab_F), f_X11_fitsKind_L24 79 p2 K n u4 σ = some res → ab_E mX11_fitsKind 6 sc 24 [some (.ref 8), some (.ref 79), some (.int p2), none, some (.int u4)] [] (σ, r) (fun v S => v = some (.int (ab_b res.1)) ∧ S = (res.2, r)) := by
  intro n
  induction n with
  | zero =>
    intro u4 σ h
    rw [f_X11_fitsKind_L24] at h
    cases h
  | succ n ih =>
    intro u4 σ h
    rw [f_X11_fitsKind_L24] at h
    refine z_iload (pc2 := 26) rfl dX11_fitsKind_24 rfl ?_
    refine z_aload_n (pc2 := 27) rfl dX11_fitsKind_26 rfl ?_
    refine z_getI 79 6 1 (pc2 := 30) rfl dX11_fitsKind_27 rfl rfl ff_6_1 wd_102 ?_
    refine z_icmp_ge (pc2 := 33) (tgt := 67) rfl dX11_fitsKind_30 (by decide) (fun hc4 => ?_) (fun hc4 => ?_)
    · replace h := ab_pos hc4 h
      refine z_fgt [false, false, false, false, false] (L2 := [none, none, none, none, none]) rfl ?_
      exact hK  _ h
    · replace h := ab_neg hc4 h
      refine z_aload_n (pc2 := 34) rfl dX11_fitsKind_33 rfl ?_
      refine z_getR 79 6 0 80 (pc2 := 37) rfl dX11_fitsKind_34 rfl rfl ff_6_0 wd_99 rfl ?_
      refine z_iload (pc2 := 39) rfl dX11_fitsKind_37 rfl ?_
      obtain ⟨hb5, h⟩ := ab_ck_e h
      refine z_iald 80 (pc2 := 40) (j := (u4).toNatClampNeg) rfl dX11_fitsKind_39 rfl rfl hb5 rfl ?_
      refine z_aload_n (pc2 := 41) rfl dX11_fitsKind_40 rfl ?_
      refine z_getR 8 11 1 49 (pc2 := 44) rfl dX11_fitsKind_41 rfl rfl ff_11_1 wd_303 rfl ?_
      refine z_getR 49 9 15 58 (pc2 := 47) rfl dX11_fitsKind_44 rfl rfl ff_9_15 wd_262 rfl ?_
      refine z_iload_n (pc2 := 48) rfl dX11_fitsKind_47 rfl ?_
      obtain ⟨hb6, h⟩ := ab_ck_e h
      refine z_iald 58 (pc2 := 49) (j := (p2).toNatClampNeg) rfl dX11_fitsKind_48 rfl rfl hb6 rfl ?_
      refine z_icmp_eq (pc2 := 52) (tgt := 54) rfl dX11_fitsKind_49 (by decide) (fun hc7 => ?_) (fun hc7 => ?_)
      · replace h := ab_pos hc7 h
        refine z_aload_n (pc2 := 55) rfl dX11_fitsKind_54 rfl ?_
        refine z_getR 8 11 1 49 (pc2 := 58) rfl dX11_fitsKind_55 rfl rfl ff_11_1 wd_303 rfl ?_
        obtain ⟨q8, hq8, h⟩ := ab_bnd h
        refine z_callVv 49 [] [some (.ref 49), none] (pc2 := 61) rfl rfl dX11_fitsKind_58 ok_X9_dayGoes ⟨fun _ => rfl, fun _ => Nat.le_of_ble_eq_true rfl⟩ rfl rv_49 wd_721 wd_676 wd_677 rfl (e_X9_dayGoes_49 hq8) ?_
        obtain ⟨x9, hxx9, h⟩ := ab_lt_e h
        refine z_iinc (pc2 := 64) (v := x9) (L2 := [some (.ref 8), some (.ref 79), some (.int p2), none, some (.int x9)]) rfl dX11_fitsKind_61 rfl (by rw [hxx9]; rfl) (by decide) rfl rfl ?_
        refine ab_goto (tgt := 24) dX11_fitsKind_64 (by decide) ?_
        refine z_fgt [true, true, true, false, true] (L2 := [some (.ref 8), some (.ref 79), some (.int p2), none, some (.int x9)]) rfl ?_
        exact ih _ _ h
      · replace h := ab_neg hc7 h
        refine z_iconst (pc2 := 53) rfl dX11_fitsKind_52 lt_i_0 ?_
        exact z_iret dX11_fitsKind_53 rfl rfl (fz_w rfl h)
set_option maxRecDepth 100000 in
set_option maxHeartbeats 4000000 in
theorem e_X11_fitsKind_79 {sc : Nat × (Nat → Int32)} {r : Option Nat × Option Nat} {a2 : Int32} {a3 : Int32} {σ : ab_F} {res : (Bool × ab_F)} (h : f_X11_fitsKind 79 a2 a3 σ = some res) : ab_E mX11_fitsKind 6 sc 0 [some (.ref 8), some (.ref 79), some (.int a2), some (.int a3), none] [] (σ, r) (fun v S => v = some (.int (ab_b res.1)) ∧ S = (res.2, r)) := by
  unfold f_X11_fitsKind at h
  refine z_aload_n (pc2 := 1) rfl dX11_fitsKind_0 rfl ?_
  refine z_getR 8 11 1 49 (pc2 := 4) rfl dX11_fitsKind_1 rfl rfl ff_11_1 wd_303 rfl ?_
  refine z_aload_n (pc2 := 5) rfl dX11_fitsKind_4 rfl ?_
  refine z_getR 8 11 0 38 (pc2 := 8) rfl dX11_fitsKind_5 rfl rfl ff_11_0 wd_302 rfl ?_
  obtain ⟨q1, hq1, h⟩ := ab_bnd h
  refine z_callVv 49 [.ref 38] [some (.ref 49), some (.ref 38)] (pc2 := 11) rfl rfl dX11_fitsKind_8 ok_X9_copyFrom ⟨fun _ => rfl, fun _ => Nat.le_of_ble_eq_true rfl⟩ rfl rv_49 wd_734 wd_735 wd_736 rfl (e_X9_copyFrom_49_38 hq1) ?_
  refine z_aload_n (pc2 := 12) rfl dX11_fitsKind_11 rfl ?_
  refine z_getR 8 11 1 49 (pc2 := 15) rfl dX11_fitsKind_12 rfl rfl ff_11_1 wd_303 rfl ?_
  refine z_getR 49 9 12 55 (pc2 := 18) rfl dX11_fitsKind_15 rfl rfl ff_9_12 wd_253 rfl ?_
  refine z_iload_n (pc2 := 19) rfl dX11_fitsKind_18 rfl ?_
  refine z_iload_n (pc2 := 20) rfl dX11_fitsKind_19 rfl ?_
  obtain ⟨hb2, h⟩ := ab_ck_e h
  refine z_iast 55 (pc2 := 21) (j := (a2).toNatClampNeg) rfl dX11_fitsKind_20 rfl rfl hb2 rfl ?_
  obtain ⟨s3, hs3, h⟩ := ab_lt_e h
  refine z_tops hs3 ?_
  refine z_iconst (pc2 := 22) rfl dX11_fitsKind_21 lt_i_0 ?_
  refine z_istore (pc2 := 24) (L2 := [some (.ref 8), some (.ref 79), some (.int a2), some (.int a3), some (.int (0 : Int32))]) rfl dX11_fitsKind_22 (by decide) rfl rfl ?_
  refine z_fgt [true, true, true, false, true] (L2 := [some (.ref 8), some (.ref 79), some (.int a2), none, some (.int (0 : Int32))]) rfl ?_
  refine e_X11_fitsKind_79_L24 (fun s10 h => ?_) _ _ _ h
  refine z_iconst (pc2 := 68) rfl dX11_fitsKind_67 lt_i_1 ?_
  exact z_iret dX11_fitsKind_68 rfl rfl (fz_w rfl h)
