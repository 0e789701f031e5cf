def f_X11_grounds_L36_77 (K : Int32 → ab_F → Option (Int32 × ab_F)) : Nat → Int32 → ab_F → Option (Int32 × ab_F)
  | 0, _, _ => none
  | n + 1, u3, σ => (if (σ 77 1) ≤ u3 then (K u3 σ) else (if (16 : Int32) ≤ u3 then (K u3 σ) else ab_ck (ab_ib u3 24) ((f_X11_outside (σ 78 (u3).toNatClampNeg) (9 : Int32) σ).bind (fun q7 => (if (ab_b q7) = 0 then ab_ck (ab_ib u3 24) (ab_ck (ab_ib u3 16) (ab_lt (ab_u σ 39 (u3).toNatClampNeg (σ 78 (u3).toNatClampNeg)) (fun (s11 : ab_F) => ab_lt (u3 + (1 : Int32)) (fun x12 => (f_X11_grounds_L36_77 K n x12 s11))))) else (K u3 σ))))))
set_option maxRecDepth 100000 in
set_option maxHeartbeats 4000000 in
theorem e_X11_grounds_L36_77 {sc : Nat × (Nat → Int32)} {r : Option Nat × Option Nat} {K : Int32 → ab_F → Option (Int32 × ab_F)} {res : (Int32 × ab_F)} (hK : ∀ (u3 : Int32) (σ : ab_F), K u3 σ = some res → ab_E mX11_grounds 1 sc 85 [none, none, none, some (.int u3)] [] (σ, r) (fun v S => v = some (.int res.1) ∧ S = (res.2, r))) : ∀ (n : Nat) (u3 : Int32) (σ : ab_F), f_X11_grounds_L36_77 K n u3 σ = some res → ab_E mX11_grounds 1 sc 36 [some (.ref 8), none, some (.ref 77), some (.int u3)] [] (σ, r) (fun v S => v = some (.int res.1) ∧ S = (res.2, r)) := by
  intro n
  induction n with
  | zero =>
    intro u3 σ h
    rw [f_X11_grounds_L36_77] at h
    cases h
  | succ n ih =>
    intro u3 σ h
    rw [f_X11_grounds_L36_77] at h
    refine z_iload_n (pc2 := 37) rfl dX11_grounds_36 rfl ?_
    refine z_aload_n (pc2 := 38) rfl dX11_grounds_37 rfl ?_
    refine z_getI 77 6 1 (pc2 := 41) rfl dX11_grounds_38 rfl rfl ff_6_1 wd_102 ?_
    refine z_icmp_ge (pc2 := 44) (tgt := 85) rfl dX11_grounds_41 (by decide) (fun hc4 => ?_) (fun hc4 => ?_)
    · replace h := ab_pos hc4 h
      refine z_fgt [false, false, false, true] (L2 := [none, none, none, some (.int u3)]) rfl ?_
      exact hK _ _ h
    · replace h := ab_neg hc4 h
      refine z_iload_n (pc2 := 45) rfl dX11_grounds_44 rfl ?_
      refine z_bipush (pc2 := 47) rfl dX11_grounds_45 lt_b_16 ?_
      refine z_icmp_ge (pc2 := 50) (tgt := 85) rfl dX11_grounds_47 (by decide) (fun hc5 => ?_) (fun hc5 => ?_)
      · replace h := ab_pos hc5 h
        refine z_fgt [false, false, false, true] (L2 := [none, none, none, some (.int u3)]) rfl ?_
        exact hK _ _ h
      · replace h := ab_neg hc5 h
        refine z_aload_n (pc2 := 51) rfl dX11_grounds_50 rfl ?_
        refine z_getR 77 6 0 78 (pc2 := 54) rfl dX11_grounds_51 rfl rfl ff_6_0 wd_99 rfl ?_
        refine z_iload_n (pc2 := 55) rfl dX11_grounds_54 rfl ?_
        obtain ⟨hb6, h⟩ := ab_ck_e h
        refine z_iald 78 (pc2 := 56) (j := (u3).toNatClampNeg) rfl dX11_grounds_55 rfl rfl hb6 rfl ?_
        refine z_bipush (pc2 := 58) rfl dX11_grounds_56 lt_b_9 ?_
        obtain ⟨q7, hq7, h⟩ := ab_bnd h
        refine z_callSi [.int (σ 78 (u3).toNatClampNeg), .int (9 : Int32)] [some (.int (σ 78 (u3).toNatClampNeg)), some (.int (9 : Int32))] (pc2 := 61) rfl rfl dX11_grounds_58 ok_X11_outside ⟨fun _ => rfl, fun _ => Nat.le_of_ble_eq_true rfl⟩ rfl wd_343 wd_344 rfl (e_X11_outside hq7) ?_
        refine z_if_ne (pc2 := 64) (tgt := 85) rfl dX11_grounds_61 (by decide) (fun hc8 => ?_) (fun hc8 => ?_)
        · replace h := ab_neg hc8 h
          refine z_fgt [false, false, false, true] (L2 := [none, none, none, some (.int u3)]) rfl ?_
          exact hK _ _ h
        · replace h := ab_pos hc8 h
          refine z_aload_n (pc2 := 65) rfl dX11_grounds_64 rfl ?_
          refine z_getR 8 11 0 38 (pc2 := 68) rfl dX11_grounds_65 rfl rfl ff_11_0 wd_302 rfl ?_
          refine z_getR 38 9 6 39 (pc2 := 71) rfl dX11_grounds_68 rfl rfl ff_9_6 wd_242 rfl ?_
          refine z_iload_n (pc2 := 72) rfl dX11_grounds_71 rfl ?_
          refine z_aload_n (pc2 := 73) rfl dX11_grounds_72 rfl ?_
          refine z_getR 77 6 0 78 (pc2 := 76) rfl dX11_grounds_73 rfl rfl ff_6_0 wd_99 rfl ?_
          refine z_iload_n (pc2 := 77) rfl dX11_grounds_76 rfl ?_
          obtain ⟨hb9, h⟩ := ab_ck_e h
          refine z_iald 78 (pc2 := 78) (j := (u3).toNatClampNeg) rfl dX11_grounds_77 rfl rfl hb9 rfl ?_
          obtain ⟨hb10, h⟩ := ab_ck_e h
          refine z_iast 39 (pc2 := 79) (j := (u3).toNatClampNeg) rfl dX11_grounds_78 rfl rfl hb10 rfl ?_
          obtain ⟨s11, hs11, h⟩ := ab_lt_e h
          refine z_tops hs11 ?_
          obtain ⟨x12, hxx12, h⟩ := ab_lt_e h
          refine z_iinc (pc2 := 82) (v := x12) (L2 := [some (.ref 8), none, some (.ref 77), some (.int x12)]) rfl dX11_grounds_79 rfl (by rw [hxx12]; rfl) (by decide) rfl rfl ?_
          refine ab_goto (tgt := 36) dX11_grounds_82 (by decide) ?_
          refine z_fgt [true, false, true, true] (L2 := [some (.ref 8), none, some (.ref 77), some (.int x12)]) rfl ?_
          exact ih _ _ h
def f_X11_grounds_L36_79 (K : Int32 → ab_F → Option (Int32 × ab_F)) : Nat → Int32 → ab_F → Option (Int32 × ab_F)
  | 0, _, _ => none
  | n + 1, u3, σ => (if (σ 79 1) ≤ u3 then (K u3 σ) else (if (16 : Int32) ≤ u3 then (K u3 σ) else ab_ck (ab_ib u3 24) ((f_X11_outside (σ 80 (u3).toNatClampNeg) (9 : Int32) σ).bind (fun q21 => (if (ab_b q21) = 0 then ab_ck (ab_ib u3 24) (ab_ck (ab_ib u3 16) (ab_lt (ab_u σ 39 (u3).toNatClampNeg (σ 80 (u3).toNatClampNeg)) (fun (s25 : ab_F) => ab_lt (u3 + (1 : Int32)) (fun x26 => (f_X11_grounds_L36_79 K n x26 s25))))) else (K u3 σ))))))
set_option maxRecDepth 100000 in
set_option maxHeartbeats 4000000 in
theorem e_X11_grounds_L36_79 {sc : Nat × (Nat → Int32)} {r : Option Nat × Option Nat} {K : Int32 → ab_F → Option (Int32 × ab_F)} {res : (Int32 × ab_F)} (hK : ∀ (u3 : Int32) (σ : ab_F), K u3 σ = some res → ab_E mX11_grounds 1 sc 85 [none, none, none, some (.int u3)] [] (σ, r) (fun v S => v = some (.int res.1) ∧ S = (res.2, r))) : ∀ (n : Nat) (u3 : Int32) (σ : ab_F), f_X11_grounds_L36_79 K n u3 σ = some res → ab_E mX11_grounds 1 sc 36 [some (.ref 8), none, some (.ref 79), some (.int u3)] [] (σ, r) (fun v S => v = some (.int res.1) ∧ S = (res.2, r)) := by
  intro n
  induction n with
  | zero =>
    intro u3 σ h
    rw [f_X11_grounds_L36_79] at h
    cases h
  | succ n ih =>
    intro u3 σ h
    rw [f_X11_grounds_L36_79] at h
    refine z_iload_n (pc2 := 37) rfl dX11_grounds_36 rfl ?_
    refine z_aload_n (pc2 := 38) rfl dX11_grounds_37 rfl ?_
    refine z_getI 79 6 1 (pc2 := 41) rfl dX11_grounds_38 rfl rfl ff_6_1 wd_102 ?_
    refine z_icmp_ge (pc2 := 44) (tgt := 85) rfl dX11_grounds_41 (by decide) (fun hc18 => ?_) (fun hc18 => ?_)
    · replace h := ab_pos hc18 h
      refine z_fgt [false, false, false, true] (L2 := [none, none, none, some (.int u3)]) rfl ?_
      exact hK _ _ h
    · replace h := ab_neg hc18 h
      refine z_iload_n (pc2 := 45) rfl dX11_grounds_44 rfl ?_
      refine z_bipush (pc2 := 47) rfl dX11_grounds_45 lt_b_16 ?_
      refine z_icmp_ge (pc2 := 50) (tgt := 85) rfl dX11_grounds_47 (by decide) (fun hc19 => ?_) (fun hc19 => ?_)
      · replace h := ab_pos hc19 h
        refine z_fgt [false, false, false, true] (L2 := [none, none, none, some (.int u3)]) rfl ?_
        exact hK _ _ h
      · replace h := ab_neg hc19 h
        refine z_aload_n (pc2 := 51) rfl dX11_grounds_50 rfl ?_
        refine z_getR 79 6 0 80 (pc2 := 54) rfl dX11_grounds_51 rfl rfl ff_6_0 wd_99 rfl ?_
        refine z_iload_n (pc2 := 55) rfl dX11_grounds_54 rfl ?_
        obtain ⟨hb20, h⟩ := ab_ck_e h
        refine z_iald 80 (pc2 := 56) (j := (u3).toNatClampNeg) rfl dX11_grounds_55 rfl rfl hb20 rfl ?_
        refine z_bipush (pc2 := 58) rfl dX11_grounds_56 lt_b_9 ?_
        obtain ⟨q21, hq21, h⟩ := ab_bnd h
        refine z_callSi [.int (σ 80 (u3).toNatClampNeg), .int (9 : Int32)] [some (.int (σ 80 (u3).toNatClampNeg)), some (.int (9 : Int32))] (pc2 := 61) rfl rfl dX11_grounds_58 ok_X11_outside ⟨fun _ => rfl, fun _ => Nat.le_of_ble_eq_true rfl⟩ rfl wd_343 wd_344 rfl (e_X11_outside hq21) ?_
        refine z_if_ne (pc2 := 64) (tgt := 85) rfl dX11_grounds_61 (by decide) (fun hc22 => ?_) (fun hc22 => ?_)
        · replace h := ab_neg hc22 h
          refine z_fgt [false, false, false, true] (L2 := [none, none, none, some (.int u3)]) rfl ?_
          exact hK _ _ h
        · replace h := ab_pos hc22 h
          refine z_aload_n (pc2 := 65) rfl dX11_grounds_64 rfl ?_
          refine z_getR 8 11 0 38 (pc2 := 68) rfl dX11_grounds_65 rfl rfl ff_11_0 wd_302 rfl ?_
          refine z_getR 38 9 6 39 (pc2 := 71) rfl dX11_grounds_68 rfl rfl ff_9_6 wd_242 rfl ?_
          refine z_iload_n (pc2 := 72) rfl dX11_grounds_71 rfl ?_
          refine z_aload_n (pc2 := 73) rfl dX11_grounds_72 rfl ?_
          refine z_getR 79 6 0 80 (pc2 := 76) rfl dX11_grounds_73 rfl rfl ff_6_0 wd_99 rfl ?_
          refine z_iload_n (pc2 := 77) rfl dX11_grounds_76 rfl ?_
          obtain ⟨hb23, h⟩ := ab_ck_e h
          refine z_iald 80 (pc2 := 78) (j := (u3).toNatClampNeg) rfl dX11_grounds_77 rfl rfl hb23 rfl ?_
          obtain ⟨hb24, h⟩ := ab_ck_e h
          refine z_iast 39 (pc2 := 79) (j := (u3).toNatClampNeg) rfl dX11_grounds_78 rfl rfl hb24 rfl ?_
          obtain ⟨s25, hs25, h⟩ := ab_lt_e h
          refine z_tops hs25 ?_
          obtain ⟨x26, hxx26, h⟩ := ab_lt_e h
          refine z_iinc (pc2 := 82) (v := x26) (L2 := [some (.ref 8), none, some (.ref 79), some (.int x26)]) rfl dX11_grounds_79 rfl (by rw [hxx26]; rfl) (by decide) rfl rfl ?_
          refine ab_goto (tgt := 36) dX11_grounds_82 (by decide) ?_
          refine z_fgt [true, false, true, true] (L2 := [some (.ref 8), none, some (.ref 79), some (.int x26)]) rfl ?_
          exact ih _ _ h
def f_X11_grounds_L36_81 (K : Int32 → ab_F → Option (Int32 × ab_F)) : Nat → Int32 → ab_F → Option (Int32 × ab_F)
  | 0, _, _ => none
  | n + 1, u3, σ => (if (σ 81 1) ≤ u3 then (K u3 σ) else (if (16 : Int32) ≤ u3 then (K u3 σ) else ab_ck (ab_ib u3 24) ((f_X11_outside (σ 82 (u3).toNatClampNeg) (9 : Int32) σ).bind (fun q35 => (if (ab_b q35) = 0 then ab_ck (ab_ib u3 24) (ab_ck (ab_ib u3 16) (ab_lt (ab_u σ 39 (u3).toNatClampNeg (σ 82 (u3).toNatClampNeg)) (fun (s39 : ab_F) => ab_lt (u3 + (1 : Int32)) (fun x40 => (f_X11_grounds_L36_81 K n x40 s39))))) else (K u3 σ))))))
set_option maxRecDepth 100000 in
set_option maxHeartbeats 4000000 in
theorem e_X11_grounds_L36_81 {sc : Nat × (Nat → Int32)} {r : Option Nat × Option Nat} {K : Int32 → ab_F → Option (Int32 × ab_F)} {res : (Int32 × ab_F)} (hK : ∀ (u3 : Int32) (σ : ab_F), K u3 σ = some res → ab_E mX11_grounds 1 sc 85 [none, none, none, some (.int u3)] [] (σ, r) (fun v S => v = some (.int res.1) ∧ S = (res.2, r))) : ∀ (n : Nat) (u3 : Int32) (σ : ab_F), f_X11_grounds_L36_81 K n u3 σ = some res → ab_E mX11_grounds 1 sc 36 [some (.ref 8), none, some (.ref 81), some (.int u3)] [] (σ, r) (fun v S => v = some (.int res.1) ∧ S = (res.2, r)) := by
  intro n
  induction n with
  | zero =>
    intro u3 σ h
    rw [f_X11_grounds_L36_81] at h
    cases h
  | succ n ih =>
    intro u3 σ h
    rw [f_X11_grounds_L36_81] at h
    refine z_iload_n (pc2 := 37) rfl dX11_grounds_36 rfl ?_
    refine z_aload_n (pc2 := 38) rfl dX11_grounds_37 rfl ?_
    refine z_getI 81 6 1 (pc2 := 41) rfl dX11_grounds_38 rfl rfl ff_6_1 wd_102 ?_
    refine z_icmp_ge (pc2 := 44) (tgt := 85) rfl dX11_grounds_41 (by decide) (fun hc32 => ?_) (fun hc32 => ?_)
    · replace h := ab_pos hc32 h
      refine z_fgt [false, false, false, true] (L2 := [none, none, none, some (.int u3)]) rfl ?_
      exact hK _ _ h
    · replace h := ab_neg hc32 h
      refine z_iload_n (pc2 := 45) rfl dX11_grounds_44 rfl ?_
      refine z_bipush (pc2 := 47) rfl dX11_grounds_45 lt_b_16 ?_
      refine z_icmp_ge (pc2 := 50) (tgt := 85) rfl dX11_grounds_47 (by decide) (fun hc33 => ?_) (fun hc33 => ?_)
      · replace h := ab_pos hc33 h
        refine z_fgt [false, false, false, true] (L2 := [none, none, none, some (.int u3)]) rfl ?_
        exact hK _ _ h
      · replace h := ab_neg hc33 h
        refine z_aload_n (pc2 := 51) rfl dX11_grounds_50 rfl ?_
        refine z_getR 81 6 0 82 (pc2 := 54) rfl dX11_grounds_51 rfl rfl ff_6_0 wd_99 rfl ?_
        refine z_iload_n (pc2 := 55) rfl dX11_grounds_54 rfl ?_
        obtain ⟨hb34, h⟩ := ab_ck_e h
        refine z_iald 82 (pc2 := 56) (j := (u3).toNatClampNeg) rfl dX11_grounds_55 rfl rfl hb34 rfl ?_
        refine z_bipush (pc2 := 58) rfl dX11_grounds_56 lt_b_9 ?_
        obtain ⟨q35, hq35, h⟩ := ab_bnd h
        refine z_callSi [.int (σ 82 (u3).toNatClampNeg), .int (9 : Int32)] [some (.int (σ 82 (u3).toNatClampNeg)), some (.int (9 : Int32))] (pc2 := 61) rfl rfl dX11_grounds_58 ok_X11_outside ⟨fun _ => rfl, fun _ => Nat.le_of_ble_eq_true rfl⟩ rfl wd_343 wd_344 rfl (e_X11_outside hq35) ?_
        refine z_if_ne (pc2 := 64) (tgt := 85) rfl dX11_grounds_61 (by decide) (fun hc36 => ?_) (fun hc36 => ?_)
        · replace h := ab_neg hc36 h
          refine z_fgt [false, false, false, true] (L2 := [none, none, none, some (.int u3)]) rfl ?_
          exact hK _ _ h
        · replace h := ab_pos hc36 h
          refine z_aload_n (pc2 := 65) rfl dX11_grounds_64 rfl ?_
          refine z_getR 8 11 0 38 (pc2 := 68) rfl dX11_grounds_65 rfl rfl ff_11_0 wd_302 rfl ?_
          refine z_getR 38 9 6 39 (pc2 := 71) rfl dX11_grounds_68 rfl rfl ff_9_6 wd_242 rfl ?_
          refine z_iload_n (pc2 := 72) rfl dX11_grounds_71 rfl ?_
          refine z_aload_n (pc2 := 73) rfl dX11_grounds_72 rfl ?_
          refine z_getR 81 6 0 82 (pc2 := 76) rfl dX11_grounds_73 rfl rfl ff_6_0 wd_99 rfl ?_
          refine z_iload_n (pc2 := 77) rfl dX11_grounds_76 rfl ?_
          obtain ⟨hb37, h⟩ := ab_ck_e h
          refine z_iald 82 (pc2 := 78) (j := (u3).toNatClampNeg) rfl dX11_grounds_77 rfl rfl hb37 rfl ?_
          obtain ⟨hb38, h⟩ := ab_ck_e h
          refine z_iast 39 (pc2 := 79) (j := (u3).toNatClampNeg) rfl dX11_grounds_78 rfl rfl hb38 rfl ?_
          obtain ⟨s39, hs39, h⟩ := ab_lt_e h
          refine z_tops hs39 ?_
          obtain ⟨x40, hxx40, h⟩ := ab_lt_e h
          refine z_iinc (pc2 := 82) (v := x40) (L2 := [some (.ref 8), none, some (.ref 81), some (.int x40)]) rfl dX11_grounds_79 rfl (by rw [hxx40]; rfl) (by decide) rfl rfl ?_
          refine ab_goto (tgt := 36) dX11_grounds_82 (by decide) ?_
          refine z_fgt [true, false, true, true] (L2 := [some (.ref 8), none, some (.ref 81), some (.int x40)]) rfl ?_
          exact ih _ _ h
def f_X11_grounds_L36_83 (K : Int32 → ab_F → Option (Int32 × ab_F)) : Nat → Int32 → ab_F → Option (Int32 × ab_F)
  | 0, _, _ => none
  | n + 1, u3, σ => (if (σ 83 1) ≤ u3 then (K u3 σ) else (if (16 : Int32) ≤ u3 then (K u3 σ) else ab_ck (ab_ib u3 24) ((f_X11_outside (σ 84 (u3).toNatClampNeg) (9 : Int32) σ).bind (fun q49 => (if (ab_b q49) = 0 then ab_ck (ab_ib u3 24) (ab_ck (ab_ib u3 16) (ab_lt (ab_u σ 39 (u3).toNatClampNeg (σ 84 (u3).toNatClampNeg)) (fun (s53 : ab_F) => ab_lt (u3 + (1 : Int32)) (fun x54 => (f_X11_grounds_L36_83 K n x54 s53))))) else (K u3 σ))))))
set_option maxRecDepth 100000 in
set_option maxHeartbeats 4000000 in
theorem e_X11_grounds_L36_83 {sc : Nat × (Nat → Int32)} {r : Option Nat × Option Nat} {K : Int32 → ab_F → Option (Int32 × ab_F)} {res : (Int32 × ab_F)} (hK : ∀ (u3 : Int32) (σ : ab_F), K u3 σ = some res → ab_E mX11_grounds 1 sc 85 [none, none, none, some (.int u3)] [] (σ, r) (fun v S => v = some (.int res.1) ∧ S = (res.2, r))) : ∀ (n : Nat) (u3 : Int32) (σ : ab_F), f_X11_grounds_L36_83 K n u3 σ = some res → ab_E mX11_grounds 1 sc 36 [some (.ref 8), none, some (.ref 83), some (.int u3)] [] (σ, r) (fun v S => v = some (.int res.1) ∧ S = (res.2, r)) := by
  intro n
  induction n with
  | zero =>
    intro u3 σ h
    rw [f_X11_grounds_L36_83] at h
    cases h
  | succ n ih =>
    intro u3 σ h
    rw [f_X11_grounds_L36_83] at h
    refine z_iload_n (pc2 := 37) rfl dX11_grounds_36 rfl ?_
    refine z_aload_n (pc2 := 38) rfl dX11_grounds_37 rfl ?_
    refine z_getI 83 6 1 (pc2 := 41) rfl dX11_grounds_38 rfl rfl ff_6_1 wd_102 ?_
    refine z_icmp_ge (pc2 := 44) (tgt := 85) rfl dX11_grounds_41 (by decide) (fun hc46 => ?_) (fun hc46 => ?_)
    · replace h := ab_pos hc46 h
      refine z_fgt [false, false, false, true] (L2 := [none, none, none, some (.int u3)]) rfl ?_
      exact hK _ _ h
    · replace h := ab_neg hc46 h
      refine z_iload_n (pc2 := 45) rfl dX11_grounds_44 rfl ?_
      refine z_bipush (pc2 := 47) rfl dX11_grounds_45 lt_b_16 ?_
      refine z_icmp_ge (pc2 := 50) (tgt := 85) rfl dX11_grounds_47 (by decide) (fun hc47 => ?_) (fun hc47 => ?_)
      · replace h := ab_pos hc47 h
        refine z_fgt [false, false, false, true] (L2 := [none, none, none, some (.int u3)]) rfl ?_
        exact hK _ _ h
      · replace h := ab_neg hc47 h
        refine z_aload_n (pc2 := 51) rfl dX11_grounds_50 rfl ?_
        refine z_getR 83 6 0 84 (pc2 := 54) rfl dX11_grounds_51 rfl rfl ff_6_0 wd_99 rfl ?_
        refine z_iload_n (pc2 := 55) rfl dX11_grounds_54 rfl ?_
        obtain ⟨hb48, h⟩ := ab_ck_e h
        refine z_iald 84 (pc2 := 56) (j := (u3).toNatClampNeg) rfl dX11_grounds_55 rfl rfl hb48 rfl ?_
        refine z_bipush (pc2 := 58) rfl dX11_grounds_56 lt_b_9 ?_
        obtain ⟨q49, hq49, h⟩ := ab_bnd h
        refine z_callSi [.int (σ 84 (u3).toNatClampNeg), .int (9 : Int32)] [some (.int (σ 84 (u3).toNatClampNeg)), some (.int (9 : Int32))] (pc2 := 61) rfl rfl dX11_grounds_58 ok_X11_outside ⟨fun _ => rfl, fun _ => Nat.le_of_ble_eq_true rfl⟩ rfl wd_343 wd_344 rfl (e_X11_outside hq49) ?_
        refine z_if_ne (pc2 := 64) (tgt := 85) rfl dX11_grounds_61 (by decide) (fun hc50 => ?_) (fun hc50 => ?_)
        · replace h := ab_neg hc50 h
          refine z_fgt [false, false, false, true] (L2 := [none, none, none, some (.int u3)]) rfl ?_
          exact hK _ _ h
        · replace h := ab_pos hc50 h
          refine z_aload_n (pc2 := 65) rfl dX11_grounds_64 rfl ?_
          refine z_getR 8 11 0 38 (pc2 := 68) rfl dX11_grounds_65 rfl rfl ff_11_0 wd_302 rfl ?_
          refine z_getR 38 9 6 39 (pc2 := 71) rfl dX11_grounds_68 rfl rfl ff_9_6 wd_242 rfl ?_
          refine z_iload_n (pc2 := 72) rfl dX11_grounds_71 rfl ?_
          refine z_aload_n (pc2 := 73) rfl dX11_grounds_72 rfl ?_
          refine z_getR 83 6 0 84 (pc2 := 76) rfl dX11_grounds_73 rfl rfl ff_6_0 wd_99 rfl ?_
          refine z_iload_n (pc2 := 77) rfl dX11_grounds_76 rfl ?_
          obtain ⟨hb51, h⟩ := ab_ck_e h
          refine z_iald 84 (pc2 := 78) (j := (u3).toNatClampNeg) rfl dX11_grounds_77 rfl rfl hb51 rfl ?_
          obtain ⟨hb52, h⟩ := ab_ck_e h
          refine z_iast 39 (pc2 := 79) (j := (u3).toNatClampNeg) rfl dX11_grounds_78 rfl rfl hb52 rfl ?_
          obtain ⟨s53, hs53, h⟩ := ab_lt_e h
          refine z_tops hs53 ?_
          obtain ⟨x54, hxx54, h⟩ := ab_lt_e h
          refine z_iinc (pc2 := 82) (v := x54) (L2 := [some (.ref 8), none, some (.ref 83), some (.int x54)]) rfl dX11_grounds_79 rfl (by rw [hxx54]; rfl) (by decide) rfl rfl ?_
          refine ab_goto (tgt := 36) dX11_grounds_82 (by decide) ?_
          refine z_fgt [true, false, true, true] (L2 := [some (.ref 8), none, some (.ref 83), some (.int x54)]) rfl ?_
          exact ih _ _ h
def f_X11_grounds (a1 : Int32) (σ : ab_F) : Option (Int32 × ab_F) := (f_X11_outside a1 (3 : Int32) σ).bind (fun q1 => (if (ab_b q1) = 0 then (if a1 = (0 : Int32) then (if (σ 77 2) = 0 then (f_X11_refuse (2 : Int32) σ).bind (fun q15 => (some (q15.1, q15.2))) else (f_X11_grounds_L36_77 (fun (k13 : Int32) (s14 : ab_F) => (some (k13, s14))) ab_fu (0 : Int32) σ)) else if a1 = (1 : Int32) then (if (σ 79 2) = 0 then (f_X11_refuse (2 : Int32) σ).bind (fun q29 => (some (q29.1, q29.2))) else (f_X11_grounds_L36_79 (fun (k27 : Int32) (s28 : ab_F) => (some (k27, s28))) ab_fu (0 : Int32) σ)) else if a1 = (2 : Int32) then (if (σ 81 2) = 0 then (f_X11_refuse (2 : Int32) σ).bind (fun q43 => (some (q43.1, q43.2))) else (f_X11_grounds_L36_81 (fun (k41 : Int32) (s42 : ab_F) => (some (k41, s42))) ab_fu (0 : Int32) σ)) else if a1 = (3 : Int32) then (if (σ 83 2) = 0 then (f_X11_refuse (2 : Int32) σ).bind (fun q57 => (some (q57.1, q57.2))) else (f_X11_grounds_L36_83 (fun (k55 : Int32) (s56 : ab_F) => (some (k55, s56))) ab_fu (0 : Int32) σ)) else none) else (f_X11_refuse (1 : Int32) σ).bind (fun q59 => (some (q59.1, q59.2)))))
set_option maxRecDepth 100000 in
set_option maxHeartbeats 4000000 in
theorem e_X11_grounds {sc : Nat × (Nat → Int32)} {r : Option Nat × Option Nat} {a1 : Int32} {σ : ab_F} {res : (Int32 × ab_F)} (h : f_X11_grounds a1 σ = some res) : ab_E mX11_grounds 1 sc 0 [some (.ref 8), some (.int a1), none, none] [] (σ, r) (fun v S => v = some (.int res.1) ∧ S = (res.2, r)) := by
  unfold f_X11_grounds at h
  refine z_iload_n (pc2 := 1) rfl dX11_grounds_0 rfl ?_
  refine z_iconst (pc2 := 2) rfl dX11_grounds_1 lt_i_3 ?_
  obtain ⟨q1, hq1, h⟩ := ab_bnd h
  refine z_callSi [.int a1, .int (3 : Int32)] [some (.int a1), some (.int (3 : Int32))] (pc2 := 5) rfl rfl dX11_grounds_2 ok_X11_outside ⟨fun _ => rfl, fun _ => Nat.le_of_ble_eq_true rfl⟩ rfl wd_343 wd_344 rfl (e_X11_outside hq1) ?_
  refine z_if_eq (pc2 := 8) (tgt := 14) rfl dX11_grounds_5 (by decide) (fun hc2 => ?_) (fun hc2 => ?_)
  · replace h := ab_pos hc2 h
    refine z_aload_n (pc2 := 15) rfl dX11_grounds_14 rfl ?_
    refine z_getR 8 11 8 20 (pc2 := 18) rfl dX11_grounds_15 rfl rfl ff_11_8 wd_310 rfl ?_
    refine z_iload_n (pc2 := 19) rfl dX11_grounds_18 rfl ?_
    by_cases hi16 : a1 = (0 : Int32)
    · replace h := ab_pos hi16 h
      refine z_aaldR 20 77 (pc2 := 20) rfl dX11_grounds_19 rfl rfl (by rw [hi16]; rfl) (by rw [hi16]; rfl) ?_
      refine z_astore_n (pc2 := 21) (L2 := [some (.ref 8), some (.int a1), some (.ref 77), none]) rfl dX11_grounds_20 (by decide) rfl rfl ?_
      refine z_aload_n (pc2 := 22) rfl dX11_grounds_21 rfl ?_
      refine z_getI 77 6 2 (pc2 := 25) rfl dX11_grounds_22 rfl rfl ff_6_2 wd_104 ?_
      refine z_if_ne (pc2 := 28) (tgt := 34) rfl dX11_grounds_25 (by decide) (fun hc3 => ?_) (fun hc3 => ?_)
      · replace h := ab_neg hc3 h
        refine z_iconst (pc2 := 35) rfl dX11_grounds_34 lt_i_0 ?_
        refine z_istore_n (pc2 := 36) (L2 := [some (.ref 8), some (.int a1), some (.ref 77), some (.int (0 : Int32))]) rfl dX11_grounds_35 (by decide) rfl rfl ?_
        refine z_fgt [true, false, true, true] (L2 := [some (.ref 8), none, some (.ref 77), some (.int (0 : Int32))]) rfl ?_
        refine e_X11_grounds_L36_77 (fun k13 s14 h => ?_) _ _ _ h
        refine z_iload_n (pc2 := 86) rfl dX11_grounds_85 rfl ?_
        exact z_iret dX11_grounds_86 rfl rfl (fi_w h)
      · replace h := ab_pos hc3 h
        refine z_aload_n (pc2 := 29) rfl dX11_grounds_28 rfl ?_
        refine z_iconst (pc2 := 30) rfl dX11_grounds_29 lt_i_2 ?_
        obtain ⟨q15, hq15, h⟩ := ab_bnd h
        refine z_callVi 8 [.int (2 : Int32)] [some (.ref 8), some (.int (2 : Int32))] (pc2 := 33) rfl rfl dX11_grounds_30 ok_X11_refuse ⟨fun _ => rfl, fun _ => Nat.le_of_ble_eq_true rfl⟩ rfl rv_8 wd_346 wd_348 wd_0 rfl (e_X11_refuse hq15) ?_
        exact z_iret dX11_grounds_33 rfl rfl (fi_w h)
    · replace h := ab_neg hi16 h
      by_cases hi30 : a1 = (1 : Int32)
      · replace h := ab_pos hi30 h
        refine z_aaldR 20 79 (pc2 := 20) rfl dX11_grounds_19 rfl rfl (by rw [hi30]; rfl) (by rw [hi30]; rfl) ?_
        refine z_astore_n (pc2 := 21) (L2 := [some (.ref 8), some (.int a1), some (.ref 79), none]) rfl dX11_grounds_20 (by decide) rfl rfl ?_
        refine z_aload_n (pc2 := 22) rfl dX11_grounds_21 rfl ?_
        refine z_getI 79 6 2 (pc2 := 25) rfl dX11_grounds_22 rfl rfl ff_6_2 wd_104 ?_
        refine z_if_ne (pc2 := 28) (tgt := 34) rfl dX11_grounds_25 (by decide) (fun hc17 => ?_) (fun hc17 => ?_)
        · replace h := ab_neg hc17 h
          refine z_iconst (pc2 := 35) rfl dX11_grounds_34 lt_i_0 ?_
          refine z_istore_n (pc2 := 36) (L2 := [some (.ref 8), some (.int a1), some (.ref 79), some (.int (0 : Int32))]) rfl dX11_grounds_35 (by decide) rfl rfl ?_
          refine z_fgt [true, false, true, true] (L2 := [some (.ref 8), none, some (.ref 79), some (.int (0 : Int32))]) rfl ?_
          refine e_X11_grounds_L36_79 (fun k27 s28 h => ?_) _ _ _ h
          refine z_iload_n (pc2 := 86) rfl dX11_grounds_85 rfl ?_
          exact z_iret dX11_grounds_86 rfl rfl (fi_w h)
        · replace h := ab_pos hc17 h
          refine z_aload_n (pc2 := 29) rfl dX11_grounds_28 rfl ?_
          refine z_iconst (pc2 := 30) rfl dX11_grounds_29 lt_i_2 ?_
          obtain ⟨q29, hq29, h⟩ := ab_bnd h
          refine z_callVi 8 [.int (2 : Int32)] [some (.ref 8), some (.int (2 : Int32))] (pc2 := 33) rfl rfl dX11_grounds_30 ok_X11_refuse ⟨fun _ => rfl, fun _ => Nat.le_of_ble_eq_true rfl⟩ rfl rv_8 wd_346 wd_348 wd_0 rfl (e_X11_refuse hq29) ?_
          exact z_iret dX11_grounds_33 rfl rfl (fi_w h)
      · replace h := ab_neg hi30 h
        by_cases hi44 : a1 = (2 : Int32)
        · replace h := ab_pos hi44 h
          refine z_aaldR 20 81 (pc2 := 20) rfl dX11_grounds_19 rfl rfl (by rw [hi44]; rfl) (by rw [hi44]; rfl) ?_
          refine z_astore_n (pc2 := 21) (L2 := [some (.ref 8), some (.int a1), some (.ref 81), none]) rfl dX11_grounds_20 (by decide) rfl rfl ?_
          refine z_aload_n (pc2 := 22) rfl dX11_grounds_21 rfl ?_
          refine z_getI 81 6 2 (pc2 := 25) rfl dX11_grounds_22 rfl rfl ff_6_2 wd_104 ?_
          refine z_if_ne (pc2 := 28) (tgt := 34) rfl dX11_grounds_25 (by decide) (fun hc31 => ?_) (fun hc31 => ?_)
          · replace h := ab_neg hc31 h
            refine z_iconst (pc2 := 35) rfl dX11_grounds_34 lt_i_0 ?_
            refine z_istore_n (pc2 := 36) (L2 := [some (.ref 8), some (.int a1), some (.ref 81), some (.int (0 : Int32))]) rfl dX11_grounds_35 (by decide) rfl rfl ?_
            refine z_fgt [true, false, true, true] (L2 := [some (.ref 8), none, some (.ref 81), some (.int (0 : Int32))]) rfl ?_
            refine e_X11_grounds_L36_81 (fun k41 s42 h => ?_) _ _ _ h
            refine z_iload_n (pc2 := 86) rfl dX11_grounds_85 rfl ?_
            exact z_iret dX11_grounds_86 rfl rfl (fi_w h)
          · replace h := ab_pos hc31 h
            refine z_aload_n (pc2 := 29) rfl dX11_grounds_28 rfl ?_
            refine z_iconst (pc2 := 30) rfl dX11_grounds_29 lt_i_2 ?_
            obtain ⟨q43, hq43, h⟩ := ab_bnd h
            refine z_callVi 8 [.int (2 : Int32)] [some (.ref 8), some (.int (2 : Int32))] (pc2 := 33) rfl rfl dX11_grounds_30 ok_X11_refuse ⟨fun _ => rfl, fun _ => Nat.le_of_ble_eq_true rfl⟩ rfl rv_8 wd_346 wd_348 wd_0 rfl (e_X11_refuse hq43) ?_
            exact z_iret dX11_grounds_33 rfl rfl (fi_w h)
        · replace h := ab_neg hi44 h
          by_cases hi58 : a1 = (3 : Int32)
          · replace h := ab_pos hi58 h
            refine z_aaldR 20 83 (pc2 := 20) rfl dX11_grounds_19 rfl rfl (by rw [hi58]; rfl) (by rw [hi58]; rfl) ?_
            refine z_astore_n (pc2 := 21) (L2 := [some (.ref 8), some (.int a1), some (.ref 83), none]) rfl dX11_grounds_20 (by decide) rfl rfl ?_
            refine z_aload_n (pc2 := 22) rfl dX11_grounds_21 rfl ?_
            refine z_getI 83 6 2 (pc2 := 25) rfl dX11_grounds_22 rfl rfl ff_6_2 wd_104 ?_
            refine z_if_ne (pc2 := 28) (tgt := 34) rfl dX11_grounds_25 (by decide) (fun hc45 => ?_) (fun hc45 => ?_)
            · replace h := ab_neg hc45 h
              refine z_iconst (pc2 := 35) rfl dX11_grounds_34 lt_i_0 ?_
              refine z_istore_n (pc2 := 36) (L2 := [some (.ref 8), some (.int a1), some (.ref 83), some (.int (0 : Int32))]) rfl dX11_grounds_35 (by decide) rfl rfl ?_
              refine z_fgt [true, false, true, true] (L2 := [some (.ref 8), none, some (.ref 83), some (.int (0 : Int32))]) rfl ?_
              refine e_X11_grounds_L36_83 (fun k55 s56 h => ?_) _ _ _ h
              refine z_iload_n (pc2 := 86) rfl dX11_grounds_85 rfl ?_
              exact z_iret dX11_grounds_86 rfl rfl (fi_w h)
            · replace h := ab_pos hc45 h
              refine z_aload_n (pc2 := 29) rfl dX11_grounds_28 rfl ?_
              refine z_iconst (pc2 := 30) rfl dX11_grounds_29 lt_i_2 ?_
              obtain ⟨q57, hq57, h⟩ := ab_bnd h
              refine z_callVi 8 [.int (2 : Int32)] [some (.ref 8), some (.int (2 : Int32))] (pc2 := 33) rfl rfl dX11_grounds_30 ok_X11_refuse ⟨fun _ => rfl, fun _ => Nat.le_of_ble_eq_true rfl⟩ rfl rv_8 wd_346 wd_348 wd_0 rfl (e_X11_refuse hq57) ?_
              exact z_iret dX11_grounds_33 rfl rfl (fi_w h)
          · replace h := ab_neg hi58 h
            cases h
  · replace h := ab_neg hc2 h
    refine z_aload_n (pc2 := 9) rfl dX11_grounds_8 rfl ?_
    refine z_iconst (pc2 := 10) rfl dX11_grounds_9 lt_i_1 ?_
    obtain ⟨q59, hq59, h⟩ := ab_bnd h
    refine z_callVi 8 [.int (1 : Int32)] [some (.ref 8), some (.int (1 : Int32))] (pc2 := 13) rfl rfl dX11_grounds_10 ok_X11_refuse ⟨fun _ => rfl, fun _ => Nat.le_of_ble_eq_true rfl⟩ rfl rv_8 wd_346 wd_348 wd_0 rfl (e_X11_refuse hq59) ?_
    exact z_iret dX11_grounds_13 rfl rfl (fi_w h)
def f_X11_judge_L36_77 (σ : ab_F) (K : Int32 → Option (Int32 × ab_F)) : Nat → Int32 → Option (Int32 × ab_F)
  | 0, _ => none
  | n + 1, u3 => (if (σ 77 1) ≤ u3 then (K u3) else (if (16 : Int32) ≤ u3 then (K u3) else ab_ck (ab_ib u3 24) (ab_ck (ab_ib u3 16) ((if (σ 78 (u3).toNatClampNeg) = (σ 40 (u3).toNatClampNeg) then ab_lt (u3 + (1 : Int32)) (fun x9 => (f_X11_judge_L36_77 σ K n x9)) else (K u3))))))
set_option maxRecDepth 100000 in
set_option maxHeartbeats 4000000 in
theorem e_X11_judge_L36_77 {sc : Nat × (Nat → Int32)} {r : Option Nat × Option Nat} {σ : ab_F} {K : Int32 → Option (Int32 × ab_F)} {res : (Int32 × ab_F)} (hK : ∀ (u3 : Int32), K u3 = some res → ab_E mX11_judge 1 sc 74 [none, none, none, some (.int u3)] [] (σ, r) (fun v S => v = some (.int res.1) ∧ S = (res.2, r))) : ∀ (n : Nat) (u3 : Int32), f_X11_judge_L36_77 σ K n u3 = some res → ab_E mX11_judge 1 sc 36 [some (.ref 8), none, some (.ref 77), some (.int u3)] [] (σ, r) (fun v S => v = some (.int res.1) ∧ S = (res.2, r)) := by
  intro n
  induction n with
  | zero =>
    intro u3 h
    rw [f_X11_judge_L36_77] at h
    cases h
  | succ n ih =>
    intro u3 h
    rw [f_X11_judge_L36_77] at h
    refine z_iload_n (pc2 := 37) rfl dX11_judge_36 rfl ?_
    refine z_aload_n (pc2 := 38) rfl dX11_judge_37 rfl ?_
    refine z_getI 77 6 1 (pc2 := 41) rfl dX11_judge_38 rfl rfl ff_6_1 wd_102 ?_
    refine z_icmp_ge (pc2 := 44) (tgt := 74) rfl dX11_judge_41 (by decide) (fun hc4 => ?_) (fun hc4 => ?_)
    · replace h := ab_pos hc4 h
      refine z_fgt [false, false, false, true] (L2 := [none, none, none, some (.int u3)]) rfl ?_
      exact hK _ h
    · replace h := ab_neg hc4 h
      refine z_iload_n (pc2 := 45) rfl dX11_judge_44 rfl ?_
      refine z_bipush (pc2 := 47) rfl dX11_judge_45 lt_b_16 ?_
      refine z_icmp_ge (pc2 := 50) (tgt := 74) rfl dX11_judge_47 (by decide) (fun hc5 => ?_) (fun hc5 => ?_)
      · replace h := ab_pos hc5 h
        refine z_fgt [false, false, false, true] (L2 := [none, none, none, some (.int u3)]) rfl ?_
        exact hK _ h
      · replace h := ab_neg hc5 h
        refine z_aload_n (pc2 := 51) rfl dX11_judge_50 rfl ?_
        refine z_getR 77 6 0 78 (pc2 := 54) rfl dX11_judge_51 rfl rfl ff_6_0 wd_99 rfl ?_
        refine z_iload_n (pc2 := 55) rfl dX11_judge_54 rfl ?_
        obtain ⟨hb6, h⟩ := ab_ck_e h
        refine z_iald 78 (pc2 := 56) (j := (u3).toNatClampNeg) rfl dX11_judge_55 rfl rfl hb6 rfl ?_
        refine z_aload_n (pc2 := 57) rfl dX11_judge_56 rfl ?_
        refine z_getR 8 11 0 38 (pc2 := 60) rfl dX11_judge_57 rfl rfl ff_11_0 wd_302 rfl ?_
        refine z_getR 38 9 7 40 (pc2 := 63) rfl dX11_judge_60 rfl rfl ff_9_7 wd_244 rfl ?_
        refine z_iload_n (pc2 := 64) rfl dX11_judge_63 rfl ?_
        obtain ⟨hb7, h⟩ := ab_ck_e h
        refine z_iald 40 (pc2 := 65) (j := (u3).toNatClampNeg) rfl dX11_judge_64 rfl rfl hb7 rfl ?_
        refine z_icmp_ne (pc2 := 68) (tgt := 74) rfl dX11_judge_65 (by decide) (fun hc8 => ?_) (fun hc8 => ?_)
        · replace h := ab_neg hc8 h
          refine z_fgt [false, false, false, true] (L2 := [none, none, none, some (.int u3)]) rfl ?_
          exact hK _ h
        · replace h := ab_pos hc8 h
          obtain ⟨x9, hxx9, h⟩ := ab_lt_e h
          refine z_iinc (pc2 := 71) (v := x9) (L2 := [some (.ref 8), none, some (.ref 77), some (.int x9)]) rfl dX11_judge_68 rfl (by rw [hxx9]; rfl) (by decide) rfl rfl ?_
          refine ab_goto (tgt := 36) dX11_judge_71 (by decide) ?_
          refine z_fgt [true, false, true, true] (L2 := [some (.ref 8), none, some (.ref 77), some (.int x9)]) rfl ?_
          exact ih _ h
def f_X11_judge_L36_79 (σ : ab_F) (K : Int32 → Option (Int32 × ab_F)) : Nat → Int32 → Option (Int32 × ab_F)
  | 0, _ => none
  | n + 1, u3 => (if (σ 79 1) ≤ u3 then (K u3) else (if (16 : Int32) ≤ u3 then (K u3) else ab_ck (ab_ib u3 24) (ab_ck (ab_ib u3 16) ((if (σ 80 (u3).toNatClampNeg) = (σ 40 (u3).toNatClampNeg) then ab_lt (u3 + (1 : Int32)) (fun x19 => (f_X11_judge_L36_79 σ K n x19)) else (K u3))))))
set_option maxRecDepth 100000 in
set_option maxHeartbeats 4000000 in
theorem e_X11_judge_L36_79 {sc : Nat × (Nat → Int32)} {r : Option Nat × Option Nat} {σ : ab_F} {K : Int32 → Option (Int32 × ab_F)} {res : (Int32 × ab_F)} (hK : ∀ (u3 : Int32), K u3 = some res → ab_E mX11_judge 1 sc 74 [none, none, none, some (.int u3)] [] (σ, r) (fun v S => v = some (.int res.1) ∧ S = (res.2, r))) : ∀ (n : Nat) (u3 : Int32), f_X11_judge_L36_79 σ K n u3 = some res → ab_E mX11_judge 1 sc 36 [some (.ref 8), none, some (.ref 79), some (.int u3)] [] (σ, r) (fun v S => v = some (.int res.1) ∧ S = (res.2, r)) := by
  intro n
  induction n with
  | zero =>
    intro u3 h
    rw [f_X11_judge_L36_79] at h
    cases h
  | succ n ih =>
    intro u3 h
    rw [f_X11_judge_L36_79] at h
    refine z_iload_n (pc2 := 37) rfl dX11_judge_36 rfl ?_
    refine z_aload_n (pc2 := 38) rfl dX11_judge_37 rfl ?_
    refine z_getI 79 6 1 (pc2 := 41) rfl dX11_judge_38 rfl rfl ff_6_1 wd_102 ?_
    refine z_icmp_ge (pc2 := 44) (tgt := 74) rfl dX11_judge_41 (by decide) (fun hc14 => ?_) (fun hc14 => ?_)
    · replace h := ab_pos hc14 h
      refine z_fgt [false, false, false, true] (L2 := [none, none, none, some (.int u3)]) rfl ?_
      exact hK _ h
    · replace h := ab_neg hc14 h
      refine z_iload_n (pc2 := 45) rfl dX11_judge_44 rfl ?_
      refine z_bipush (pc2 := 47) rfl dX11_judge_45 lt_b_16 ?_
      refine z_icmp_ge (pc2 := 50) (tgt := 74) rfl dX11_judge_47 (by decide) (fun hc15 => ?_) (fun hc15 => ?_)
      · replace h := ab_pos hc15 h
        refine z_fgt [false, false, false, true] (L2 := [none, none, none, some (.int u3)]) rfl ?_
        exact hK _ h
      · replace h := ab_neg hc15 h
        refine z_aload_n (pc2 := 51) rfl dX11_judge_50 rfl ?_
        refine z_getR 79 6 0 80 (pc2 := 54) rfl dX11_judge_51 rfl rfl ff_6_0 wd_99 rfl ?_
        refine z_iload_n (pc2 := 55) rfl dX11_judge_54 rfl ?_
        obtain ⟨hb16, h⟩ := ab_ck_e h
        refine z_iald 80 (pc2 := 56) (j := (u3).toNatClampNeg) rfl dX11_judge_55 rfl rfl hb16 rfl ?_
        refine z_aload_n (pc2 := 57) rfl dX11_judge_56 rfl ?_
        refine z_getR 8 11 0 38 (pc2 := 60) rfl dX11_judge_57 rfl rfl ff_11_0 wd_302 rfl ?_
        refine z_getR 38 9 7 40 (pc2 := 63) rfl dX11_judge_60 rfl rfl ff_9_7 wd_244 rfl ?_
        refine z_iload_n (pc2 := 64) rfl dX11_judge_63 rfl ?_
        obtain ⟨hb17, h⟩ := ab_ck_e h
        refine z_iald 40 (pc2 := 65) (j := (u3).toNatClampNeg) rfl dX11_judge_64 rfl rfl hb17 rfl ?_
        refine z_icmp_ne (pc2 := 68) (tgt := 74) rfl dX11_judge_65 (by decide) (fun hc18 => ?_) (fun hc18 => ?_)
        · replace h := ab_neg hc18 h
          refine z_fgt [false, false, false, true] (L2 := [none, none, none, some (.int u3)]) rfl ?_
          exact hK _ h
        · replace h := ab_pos hc18 h
          obtain ⟨x19, hxx19, h⟩ := ab_lt_e h
          refine z_iinc (pc2 := 71) (v := x19) (L2 := [some (.ref 8), none, some (.ref 79), some (.int x19)]) rfl dX11_judge_68 rfl (by rw [hxx19]; rfl) (by decide) rfl rfl ?_
          refine ab_goto (tgt := 36) dX11_judge_71 (by decide) ?_
          refine z_fgt [true, false, true, true] (L2 := [some (.ref 8), none, some (.ref 79), some (.int x19)]) rfl ?_
          exact ih _ h
def f_X11_judge_L36_81 (σ : ab_F) (K : Int32 → Option (Int32 × ab_F)) : Nat → Int32 → Option (Int32 × ab_F)
  | 0, _ => none
  | n + 1, u3 => (if (σ 81 1) ≤ u3 then (K u3) else (if (16 : Int32) ≤ u3 then (K u3) else ab_ck (ab_ib u3 24) (ab_ck (ab_ib u3 16) ((if (σ 82 (u3).toNatClampNeg) = (σ 40 (u3).toNatClampNeg) then ab_lt (u3 + (1 : Int32)) (fun x29 => (f_X11_judge_L36_81 σ K n x29)) else (K u3))))))
set_option maxRecDepth 100000 in
set_option maxHeartbeats 4000000 in
theorem e_X11_judge_L36_81 {sc : Nat × (Nat → Int32)} {r : Option Nat × Option Nat} {σ : ab_F} {K : Int32 → Option (Int32 × ab_F)} {res : (Int32 × ab_F)} (hK : ∀ (u3 : Int32), K u3 = some res → ab_E mX11_judge 1 sc 74 [none, none, none, some (.int u3)] [] (σ, r) (fun v S => v = some (.int res.1) ∧ S = (res.2, r))) : ∀ (n : Nat) (u3 : Int32), f_X11_judge_L36_81 σ K n u3 = some res → ab_E mX11_judge 1 sc 36 [some (.ref 8), none, some (.ref 81), some (.int u3)] [] (σ, r) (fun v S => v = some (.int res.1) ∧ S = (res.2, r)) := by
  intro n
  induction n with
  | zero =>
    intro u3 h
    rw [f_X11_judge_L36_81] at h
    cases h
  | succ n ih =>
    intro u3 h
    rw [f_X11_judge_L36_81] at h
    refine z_iload_n (pc2 := 37) rfl dX11_judge_36 rfl ?_
    refine z_aload_n (pc2 := 38) rfl dX11_judge_37 rfl ?_
    refine z_getI 81 6 1 (pc2 := 41) rfl dX11_judge_38 rfl rfl ff_6_1 wd_102 ?_
    refine z_icmp_ge (pc2 := 44) (tgt := 74) rfl dX11_judge_41 (by decide) (fun hc24 => ?_) (fun hc24 => ?_)
    · replace h := ab_pos hc24 h
      refine z_fgt [false, false, false, true] (L2 := [none, none, none, some (.int u3)]) rfl ?_
      exact hK _ h
    · replace h := ab_neg hc24 h
      refine z_iload_n (pc2 := 45) rfl dX11_judge_44 rfl ?_
      refine z_bipush (pc2 := 47) rfl dX11_judge_45 lt_b_16 ?_
      refine z_icmp_ge (pc2 := 50) (tgt := 74) rfl dX11_judge_47 (by decide) (fun hc25 => ?_) (fun hc25 => ?_)
      · replace h := ab_pos hc25 h
        refine z_fgt [false, false, false, true] (L2 := [none, none, none, some (.int u3)]) rfl ?_
        exact hK _ h
      · replace h := ab_neg hc25 h
        refine z_aload_n (pc2 := 51) rfl dX11_judge_50 rfl ?_
        refine z_getR 81 6 0 82 (pc2 := 54) rfl dX11_judge_51 rfl rfl ff_6_0 wd_99 rfl ?_
        refine z_iload_n (pc2 := 55) rfl dX11_judge_54 rfl ?_
        obtain ⟨hb26, h⟩ := ab_ck_e h
        refine z_iald 82 (pc2 := 56) (j := (u3).toNatClampNeg) rfl dX11_judge_55 rfl rfl hb26 rfl ?_
        refine z_aload_n (pc2 := 57) rfl dX11_judge_56 rfl ?_
        refine z_getR 8 11 0 38 (pc2 := 60) rfl dX11_judge_57 rfl rfl ff_11_0 wd_302 rfl ?_
        refine z_getR 38 9 7 40 (pc2 := 63) rfl dX11_judge_60 rfl rfl ff_9_7 wd_244 rfl ?_
        refine z_iload_n (pc2 := 64) rfl dX11_judge_63 rfl ?_
        obtain ⟨hb27, h⟩ := ab_ck_e h
        refine z_iald 40 (pc2 := 65) (j := (u3).toNatClampNeg) rfl dX11_judge_64 rfl rfl hb27 rfl ?_
        refine z_icmp_ne (pc2 := 68) (tgt := 74) rfl dX11_judge_65 (by decide) (fun hc28 => ?_) (fun hc28 => ?_)
        · replace h := ab_neg hc28 h
          refine z_fgt [false, false, false, true] (L2 := [none, none, none, some (.int u3)]) rfl ?_
          exact hK _ h
        · replace h := ab_pos hc28 h
          obtain ⟨x29, hxx29, h⟩ := ab_lt_e h
          refine z_iinc (pc2 := 71) (v := x29) (L2 := [some (.ref 8), none, some (.ref 81), some (.int x29)]) rfl dX11_judge_68 rfl (by rw [hxx29]; rfl) (by decide) rfl rfl ?_
          refine ab_goto (tgt := 36) dX11_judge_71 (by decide) ?_
          refine z_fgt [true, false, true, true] (L2 := [some (.ref 8), none, some (.ref 81), some (.int x29)]) rfl ?_
          exact ih _ h
def f_X11_judge_L36_83 (σ : ab_F) (K : Int32 → Option (Int32 × ab_F)) : Nat → Int32 → Option (Int32 × ab_F)
  | 0, _ => none
  | n + 1, u3 => (if (σ 83 1) ≤ u3 then (K u3) else (if (16 : Int32) ≤ u3 then (K u3) else ab_ck (ab_ib u3 24) (ab_ck (ab_ib u3 16) ((if (σ 84 (u3).toNatClampNeg) = (σ 40 (u3).toNatClampNeg) then ab_lt (u3 + (1 : Int32)) (fun x39 => (f_X11_judge_L36_83 σ K n x39)) else (K u3))))))
set_option maxRecDepth 100000 in
set_option maxHeartbeats 4000000 in
theorem e_X11_judge_L36_83 {sc : Nat × (Nat → Int32)} {r : Option Nat × Option Nat} {σ : ab_F} {K : Int32 → Option (Int32 × ab_F)} {res : (Int32 × ab_F)} (hK : ∀ (u3 : Int32), K u3 = some res → ab_E mX11_judge 1 sc 74 [none, none, none, some (.int u3)] [] (σ, r) (fun v S => v = some (.int res.1) ∧ S = (res.2, r))) : ∀ (n : Nat) (u3 : Int32), f_X11_judge_L36_83 σ K n u3 = some res → ab_E mX11_judge 1 sc 36 [some (.ref 8), none, some (.ref 83), some (.int u3)] [] (σ, r) (fun v S => v = some (.int res.1) ∧ S = (res.2, r)) := by
  intro n
  induction n with
  | zero =>
    intro u3 h
    rw [f_X11_judge_L36_83] at h
    cases h
  | succ n ih =>
    intro u3 h
    rw [f_X11_judge_L36_83] at h
    refine z_iload_n (pc2 := 37) rfl dX11_judge_36 rfl ?_
    refine z_aload_n (pc2 := 38) rfl dX11_judge_37 rfl ?_
    refine z_getI 83 6 1 (pc2 := 41) rfl dX11_judge_38 rfl rfl ff_6_1 wd_102 ?_
    refine z_icmp_ge (pc2 := 44) (tgt := 74) rfl dX11_judge_41 (by decide) (fun hc34 => ?_) (fun hc34 => ?_)
    · replace h := ab_pos hc34 h
      refine z_fgt [false, false, false, true] (L2 := [none, none, none, some (.int u3)]) rfl ?_
      exact hK _ h
    · replace h := ab_neg hc34 h
      refine z_iload_n (pc2 := 45) rfl dX11_judge_44 rfl ?_
      refine z_bipush (pc2 := 47) rfl dX11_judge_45 lt_b_16 ?_
      refine z_icmp_ge (pc2 := 50) (tgt := 74) rfl dX11_judge_47 (by decide) (fun hc35 => ?_) (fun hc35 => ?_)
      · replace h := ab_pos hc35 h
        refine z_fgt [false, false, false, true] (L2 := [none, none, none, some (.int u3)]) rfl ?_
        exact hK _ h
      · replace h := ab_neg hc35 h
        refine z_aload_n (pc2 := 51) rfl dX11_judge_50 rfl ?_
        refine z_getR 83 6 0 84 (pc2 := 54) rfl dX11_judge_51 rfl rfl ff_6_0 wd_99 rfl ?_
        refine z_iload_n (pc2 := 55) rfl dX11_judge_54 rfl ?_
        obtain ⟨hb36, h⟩ := ab_ck_e h
        refine z_iald 84 (pc2 := 56) (j := (u3).toNatClampNeg) rfl dX11_judge_55 rfl rfl hb36 rfl ?_
        refine z_aload_n (pc2 := 57) rfl dX11_judge_56 rfl ?_
        refine z_getR 8 11 0 38 (pc2 := 60) rfl dX11_judge_57 rfl rfl ff_11_0 wd_302 rfl ?_
        refine z_getR 38 9 7 40 (pc2 := 63) rfl dX11_judge_60 rfl rfl ff_9_7 wd_244 rfl ?_
        refine z_iload_n (pc2 := 64) rfl dX11_judge_63 rfl ?_
        obtain ⟨hb37, h⟩ := ab_ck_e h
        refine z_iald 40 (pc2 := 65) (j := (u3).toNatClampNeg) rfl dX11_judge_64 rfl rfl hb37 rfl ?_
        refine z_icmp_ne (pc2 := 68) (tgt := 74) rfl dX11_judge_65 (by decide) (fun hc38 => ?_) (fun hc38 => ?_)
        · replace h := ab_neg hc38 h
          refine z_fgt [false, false, false, true] (L2 := [none, none, none, some (.int u3)]) rfl ?_
          exact hK _ h
        · replace h := ab_pos hc38 h
          obtain ⟨x39, hxx39, h⟩ := ab_lt_e h
          refine z_iinc (pc2 := 71) (v := x39) (L2 := [some (.ref 8), none, some (.ref 83), some (.int x39)]) rfl dX11_judge_68 rfl (by rw [hxx39]; rfl) (by decide) rfl rfl ?_
          refine ab_goto (tgt := 36) dX11_judge_71 (by decide) ?_
          refine z_fgt [true, false, true, true] (L2 := [some (.ref 8), none, some (.ref 83), some (.int x39)]) rfl ?_
          exact ih _ h
def f_X11_judge (a1 : Int32) (σ : ab_F) : Option (Int32 × ab_F) := (f_X11_outside a1 (3 : Int32) σ).bind (fun q1 => (if (ab_b q1) = 0 then (if a1 = (0 : Int32) then (if (σ 77 2) = 0 then (f_X11_refuse (2 : Int32) σ).bind (fun q11 => (some (q11.1, q11.2))) else (f_X11_judge_L36_77 σ (fun (k10 : Int32) => (some (k10, σ))) ab_fu (0 : Int32))) else if a1 = (1 : Int32) then (if (σ 79 2) = 0 then (f_X11_refuse (2 : Int32) σ).bind (fun q21 => (some (q21.1, q21.2))) else (f_X11_judge_L36_79 σ (fun (k20 : Int32) => (some (k20, σ))) ab_fu (0 : Int32))) else if a1 = (2 : Int32) then (if (σ 81 2) = 0 then (f_X11_refuse (2 : Int32) σ).bind (fun q31 => (some (q31.1, q31.2))) else (f_X11_judge_L36_81 σ (fun (k30 : Int32) => (some (k30, σ))) ab_fu (0 : Int32))) else if a1 = (3 : Int32) then (if (σ 83 2) = 0 then (f_X11_refuse (2 : Int32) σ).bind (fun q41 => (some (q41.1, q41.2))) else (f_X11_judge_L36_83 σ (fun (k40 : Int32) => (some (k40, σ))) ab_fu (0 : Int32))) else none) else (f_X11_refuse (1 : Int32) σ).bind (fun q43 => (some (q43.1, q43.2)))))
set_option maxRecDepth 100000 in
set_option maxHeartbeats 4000000 in
theorem e_X11_judge {sc : Nat × (Nat → Int32)} {r : Option Nat × Option Nat} {a1 : Int32} {σ : ab_F} {res : (Int32 × ab_F)} (h : f_X11_judge a1 σ = some res) : ab_E mX11_judge 1 sc 0 [some (.ref 8), some (.int a1), none, none] [] (σ, r) (fun v S => v = some (.int res.1) ∧ S = (res.2, r)) := by
  unfold f_X11_judge at h
  refine z_iload_n (pc2 := 1) rfl dX11_judge_0 rfl ?_
  refine z_iconst (pc2 := 2) rfl dX11_judge_1 lt_i_3 ?_
  obtain ⟨q1, hq1, h⟩ := ab_bnd h
  refine z_callSi [.int a1, .int (3 : Int32)] [some (.int a1), some (.int (3 : Int32))] (pc2 := 5) rfl rfl dX11_judge_2 ok_X11_outside ⟨fun _ => rfl, fun _ => Nat.le_of_ble_eq_true rfl⟩ rfl wd_343 wd_344 rfl (e_X11_outside hq1) ?_
  refine z_if_eq (pc2 := 8) (tgt := 14) rfl dX11_judge_5 (by decide) (fun hc2 => ?_) (fun hc2 => ?_)
  · replace h := ab_pos hc2 h
    refine z_aload_n (pc2 := 15) rfl dX11_judge_14 rfl ?_
    refine z_getR 8 11 8 20 (pc2 := 18) rfl dX11_judge_15 rfl rfl ff_11_8 wd_310 rfl ?_
    refine z_iload_n (pc2 := 19) rfl dX11_judge_18 rfl ?_
    by_cases hi12 : a1 = (0 : Int32)
    · replace h := ab_pos hi12 h
      refine z_aaldR 20 77 (pc2 := 20) rfl dX11_judge_19 rfl rfl (by rw [hi12]; rfl) (by rw [hi12]; rfl) ?_
      refine z_astore_n (pc2 := 21) (L2 := [some (.ref 8), some (.int a1), some (.ref 77), none]) rfl dX11_judge_20 (by decide) rfl rfl ?_
      refine z_aload_n (pc2 := 22) rfl dX11_judge_21 rfl ?_
      refine z_getI 77 6 2 (pc2 := 25) rfl dX11_judge_22 rfl rfl ff_6_2 wd_104 ?_
      refine z_if_ne (pc2 := 28) (tgt := 34) rfl dX11_judge_25 (by decide) (fun hc3 => ?_) (fun hc3 => ?_)
      · replace h := ab_neg hc3 h
        refine z_iconst (pc2 := 35) rfl dX11_judge_34 lt_i_0 ?_
        refine z_istore_n (pc2 := 36) (L2 := [some (.ref 8), some (.int a1), some (.ref 77), some (.int (0 : Int32))]) rfl dX11_judge_35 (by decide) rfl rfl ?_
        refine z_fgt [true, false, true, true] (L2 := [some (.ref 8), none, some (.ref 77), some (.int (0 : Int32))]) rfl ?_
        refine e_X11_judge_L36_77 (fun k10 h => ?_) _ _ h
        refine z_iload_n (pc2 := 75) rfl dX11_judge_74 rfl ?_
        exact z_iret dX11_judge_75 rfl rfl (fi_w h)
      · replace h := ab_pos hc3 h
        refine z_aload_n (pc2 := 29) rfl dX11_judge_28 rfl ?_
        refine z_iconst (pc2 := 30) rfl dX11_judge_29 lt_i_2 ?_
        obtain ⟨q11, hq11, h⟩ := ab_bnd h
        refine z_callVi 8 [.int (2 : Int32)] [some (.ref 8), some (.int (2 : Int32))] (pc2 := 33) rfl rfl dX11_judge_30 ok_X11_refuse ⟨fun _ => rfl, fun _ => Nat.le_of_ble_eq_true rfl⟩ rfl rv_8 wd_346 wd_348 wd_0 rfl (e_X11_refuse hq11) ?_
        exact z_iret dX11_judge_33 rfl rfl (fi_w h)
    · replace h := ab_neg hi12 h
      by_cases hi22 : a1 = (1 : Int32)
      · replace h := ab_pos hi22 h
        refine z_aaldR 20 79 (pc2 := 20) rfl dX11_judge_19 rfl rfl (by rw [hi22]; rfl) (by rw [hi22]; rfl) ?_
        refine z_astore_n (pc2 := 21) (L2 := [some (.ref 8), some (.int a1), some (.ref 79), none]) rfl dX11_judge_20 (by decide) rfl rfl ?_
        refine z_aload_n (pc2 := 22) rfl dX11_judge_21 rfl ?_
        refine z_getI 79 6 2 (pc2 := 25) rfl dX11_judge_22 rfl rfl ff_6_2 wd_104 ?_
        refine z_if_ne (pc2 := 28) (tgt := 34) rfl dX11_judge_25 (by decide) (fun hc13 => ?_) (fun hc13 => ?_)
        · replace h := ab_neg hc13 h
          refine z_iconst (pc2 := 35) rfl dX11_judge_34 lt_i_0 ?_
          refine z_istore_n (pc2 := 36) (L2 := [some (.ref 8), some (.int a1), some (.ref 79), some (.int (0 : Int32))]) rfl dX11_judge_35 (by decide) rfl rfl ?_
          refine z_fgt [true, false, true, true] (L2 := [some (.ref 8), none, some (.ref 79), some (.int (0 : Int32))]) rfl ?_
          refine e_X11_judge_L36_79 (fun k20 h => ?_) _ _ h
          refine z_iload_n (pc2 := 75) rfl dX11_judge_74 rfl ?_
          exact z_iret dX11_judge_75 rfl rfl (fi_w h)
        · replace h := ab_pos hc13 h
          refine z_aload_n (pc2 := 29) rfl dX11_judge_28 rfl ?_
          refine z_iconst (pc2 := 30) rfl dX11_judge_29 lt_i_2 ?_
          obtain ⟨q21, hq21, h⟩ := ab_bnd h
          refine z_callVi 8 [.int (2 : Int32)] [some (.ref 8), some (.int (2 : Int32))] (pc2 := 33) rfl rfl dX11_judge_30 ok_X11_refuse ⟨fun _ => rfl, fun _ => Nat.le_of_ble_eq_true rfl⟩ rfl rv_8 wd_346 wd_348 wd_0 rfl (e_X11_refuse hq21) ?_
          exact z_iret dX11_judge_33 rfl rfl (fi_w h)
      · replace h := ab_neg hi22 h
        by_cases hi32 : a1 = (2 : Int32)
        · replace h := ab_pos hi32 h
          refine z_aaldR 20 81 (pc2 := 20) rfl dX11_judge_19 rfl rfl (by rw [hi32]; rfl) (by rw [hi32]; rfl) ?_
          refine z_astore_n (pc2 := 21) (L2 := [some (.ref 8), some (.int a1), some (.ref 81), none]) rfl dX11_judge_20 (by decide) rfl rfl ?_
          refine z_aload_n (pc2 := 22) rfl dX11_judge_21 rfl ?_
          refine z_getI 81 6 2 (pc2 := 25) rfl dX11_judge_22 rfl rfl ff_6_2 wd_104 ?_
          refine z_if_ne (pc2 := 28) (tgt := 34) rfl dX11_judge_25 (by decide) (fun hc23 => ?_) (fun hc23 => ?_)
          · replace h := ab_neg hc23 h
            refine z_iconst (pc2 := 35) rfl dX11_judge_34 lt_i_0 ?_
            refine z_istore_n (pc2 := 36) (L2 := [some (.ref 8), some (.int a1), some (.ref 81), some (.int (0 : Int32))]) rfl dX11_judge_35 (by decide) rfl rfl ?_
            refine z_fgt [true, false, true, true] (L2 := [some (.ref 8), none, some (.ref 81), some (.int (0 : Int32))]) rfl ?_
            refine e_X11_judge_L36_81 (fun k30 h => ?_) _ _ h
            refine z_iload_n (pc2 := 75) rfl dX11_judge_74 rfl ?_
            exact z_iret dX11_judge_75 rfl rfl (fi_w h)
          · replace h := ab_pos hc23 h
            refine z_aload_n (pc2 := 29) rfl dX11_judge_28 rfl ?_
            refine z_iconst (pc2 := 30) rfl dX11_judge_29 lt_i_2 ?_
            obtain ⟨q31, hq31, h⟩ := ab_bnd h
            refine z_callVi 8 [.int (2 : Int32)] [some (.ref 8), some (.int (2 : Int32))] (pc2 := 33) rfl rfl dX11_judge_30 ok_X11_refuse ⟨fun _ => rfl, fun _ => Nat.le_of_ble_eq_true rfl⟩ rfl rv_8 wd_346 wd_348 wd_0 rfl (e_X11_refuse hq31) ?_
            exact z_iret dX11_judge_33 rfl rfl (fi_w h)
        · replace h := ab_neg hi32 h
          by_cases hi42 : a1 = (3 : Int32)
          · replace h := ab_pos hi42 h
            refine z_aaldR 20 83 (pc2 := 20) rfl dX11_judge_19 rfl rfl (by rw [hi42]; rfl) (by rw [hi42]; rfl) ?_
            refine z_astore_n (pc2 := 21) (L2 := [some (.ref 8), some (.int a1), some (.ref 83), none]) rfl dX11_judge_20 (by decide) rfl rfl ?_
            refine z_aload_n (pc2 := 22) rfl dX11_judge_21 rfl ?_
            refine z_getI 83 6 2 (pc2 := 25) rfl dX11_judge_22 rfl rfl ff_6_2 wd_104 ?_
            refine z_if_ne (pc2 := 28) (tgt := 34) rfl dX11_judge_25 (by decide) (fun hc33 => ?_) (fun hc33 => ?_)
            · replace h := ab_neg hc33 h
              refine z_iconst (pc2 := 35) rfl dX11_judge_34 lt_i_0 ?_
              refine z_istore_n (pc2 := 36) (L2 := [some (.ref 8), some (.int a1), some (.ref 83), some (.int (0 : Int32))]) rfl dX11_judge_35 (by decide) rfl rfl ?_
              refine z_fgt [true, false, true, true] (L2 := [some (.ref 8), none, some (.ref 83), some (.int (0 : Int32))]) rfl ?_
              refine e_X11_judge_L36_83 (fun k40 h => ?_) _ _ h
              refine z_iload_n (pc2 := 75) rfl dX11_judge_74 rfl ?_
              exact z_iret dX11_judge_75 rfl rfl (fi_w h)
            · replace h := ab_pos hc33 h
              refine z_aload_n (pc2 := 29) rfl dX11_judge_28 rfl ?_
              refine z_iconst (pc2 := 30) rfl dX11_judge_29 lt_i_2 ?_
              obtain ⟨q41, hq41, h⟩ := ab_bnd h
              refine z_callVi 8 [.int (2 : Int32)] [some (.ref 8), some (.int (2 : Int32))] (pc2 := 33) rfl rfl dX11_judge_30 ok_X11_refuse ⟨fun _ => rfl, fun _ => Nat.le_of_ble_eq_true rfl⟩ rfl rv_8 wd_346 wd_348 wd_0 rfl (e_X11_refuse hq41) ?_
              exact z_iret dX11_judge_33 rfl rfl (fi_w h)
          · replace h := ab_neg hi42 h
            cases h
  · replace h := ab_neg hc2 h
    refine z_aload_n (pc2 := 9) rfl dX11_judge_8 rfl ?_
    refine z_iconst (pc2 := 10) rfl dX11_judge_9 lt_i_1 ?_
    obtain ⟨q43, hq43, h⟩ := ab_bnd h
    refine z_callVi 8 [.int (1 : Int32)] [some (.ref 8), some (.int (1 : Int32))] (pc2 := 13) rfl rfl dX11_judge_10 ok_X11_refuse ⟨fun _ => rfl, fun _ => Nat.le_of_ble_eq_true rfl⟩ rfl rv_8 wd_346 wd_348 wd_0 rfl (e_X11_refuse hq43) ?_
    exact z_iret dX11_judge_13 rfl rfl (fi_w h)
def f_X9_copyFrom_60_38 (σ : ab_F) : Option ab_F := ab_lt (ab_u σ 60 3 (σ 38 3)) (fun (s1 : ab_F) => ab_lt (ab_u s1 60 4 (s1 38 4)) (fun (s2 : ab_F) => ab_lt (ab_u s2 60 5 (s2 38 5)) (fun (s3 : ab_F) => ab_lt (ab_u s3 60 11 (s3 38 11)) (fun (s4 : ab_F) => ab_ck (ab_cp (0 : Int32) (0 : Int32) (16 : Int32) 16 16) (ab_lt (ab_r s4 67 (va_cpy (s4 39) (s4 67) ((0 : Int32)).toNatClampNeg ((0 : Int32)).toNatClampNeg ((16 : Int32)).toNatClampNeg)) (fun (s6 : ab_F) => ab_ck (ab_cp (0 : Int32) (0 : Int32) (16 : Int32) 16 16) (ab_lt (ab_r s6 68 (va_cpy (s6 40) (s6 68) ((0 : Int32)).toNatClampNeg ((0 : Int32)).toNatClampNeg ((16 : Int32)).toNatClampNeg)) (fun (s8 : ab_F) => ab_ck (ab_cp (0 : Int32) (0 : Int32) (16 : Int32) 16 16) (ab_lt (ab_r s8 69 (va_cpy (s8 41) (s8 69) ((0 : Int32)).toNatClampNeg ((0 : Int32)).toNatClampNeg ((16 : Int32)).toNatClampNeg)) (fun (s10 : ab_F) => ab_ck (ab_cp (0 : Int32) (0 : Int32) (16 : Int32) 16 16) (ab_lt (ab_r s10 70 (va_cpy (s10 42) (s10 70) ((0 : Int32)).toNatClampNeg ((0 : Int32)).toNatClampNeg ((16 : Int32)).toNatClampNeg)) (fun (s12 : ab_F) => ab_ck (ab_cp (0 : Int32) (0 : Int32) (6 : Int32) 6 6) (ab_lt (ab_r s12 71 (va_cpy (s12 43) (s12 71) ((0 : Int32)).toNatClampNeg ((0 : Int32)).toNatClampNeg ((6 : Int32)).toNatClampNeg)) (fun (s14 : ab_F) => ab_ck (ab_cp (0 : Int32) (0 : Int32) (8 : Int32) 8 8) (ab_lt (ab_r s14 72 (va_cpy (s14 44) (s14 72) ((0 : Int32)).toNatClampNeg ((0 : Int32)).toNatClampNeg ((8 : Int32)).toNatClampNeg)) (fun (s16 : ab_F) => ab_ck (ab_cp (0 : Int32) (0 : Int32) (8 : Int32) 8 8) (ab_lt (ab_r s16 73 (va_cpy (s16 45) (s16 73) ((0 : Int32)).toNatClampNeg ((0 : Int32)).toNatClampNeg ((8 : Int32)).toNatClampNeg)) (fun (s18 : ab_F) => ab_ck (ab_cp (0 : Int32) (0 : Int32) (8 : Int32) 8 8) (ab_lt (ab_r s18 74 (va_cpy (s18 46) (s18 74) ((0 : Int32)).toNatClampNeg ((0 : Int32)).toNatClampNeg ((8 : Int32)).toNatClampNeg)) (fun (s20 : ab_F) => ab_ck (ab_cp (0 : Int32) (0 : Int32) (8 : Int32) 8 8) (ab_lt (ab_r s20 75 (va_cpy (s20 47) (s20 75) ((0 : Int32)).toNatClampNeg ((0 : Int32)).toNatClampNeg ((8 : Int32)).toNatClampNeg)) (fun (s22 : ab_F) => ab_ck (ab_cp (0 : Int32) (0 : Int32) (8 : Int32) 8 8) (ab_lt (ab_r s22 76 (va_cpy (s22 48) (s22 76) ((0 : Int32)).toNatClampNeg ((0 : Int32)).toNatClampNeg ((8 : Int32)).toNatClampNeg)) (fun (s24 : ab_F) => (some s24)))))))))))))))))))))))))
set_option maxRecDepth 100000 in
set_option maxHeartbeats 4000000 in
theorem e_X9_copyFrom_60_38 {sc : Nat × (Nat → Int32)} {r : Option Nat × Option Nat} {σ : ab_F} {res : ab_F} (h : f_X9_copyFrom_60_38 σ = some res) : ab_E mX9_copyFrom 1 sc 0 [some (.ref 60), some (.ref 38)] [] (σ, r) (fun v S => v = none ∧ S = (res, r)) := by
  unfold f_X9_copyFrom_60_38 at h
  refine z_aload_n (pc2 := 1) rfl dX9_copyFrom_0 rfl ?_
  refine z_aload_n (pc2 := 2) rfl dX9_copyFrom_1 rfl ?_
  refine z_getI 38 9 3 (pc2 := 5) rfl dX9_copyFrom_2 rfl rfl ff_9_3 wd_235 ?_
  refine z_putI 60 9 3 (pc2 := 8) (ft := .int) rfl dX9_copyFrom_5 rfl rfl ff_9_3 wd_235 rfl (by decide +kernel) rfl rfl ?_
  obtain ⟨s1, hs1, h⟩ := ab_lt_e h
  refine z_tops hs1 ?_
  refine z_aload_n (pc2 := 9) rfl dX9_copyFrom_8 rfl ?_
  refine z_aload_n (pc2 := 10) rfl dX9_copyFrom_9 rfl ?_
  refine z_getI 38 9 4 (pc2 := 13) rfl dX9_copyFrom_10 rfl rfl ff_9_4 wd_237 ?_
  refine z_putI 60 9 4 (pc2 := 16) (ft := .int) rfl dX9_copyFrom_13 rfl rfl ff_9_4 wd_237 rfl (by decide +kernel) rfl rfl ?_
  obtain ⟨s2, hs2, h⟩ := ab_lt_e h
  refine z_tops hs2 ?_
  refine z_aload_n (pc2 := 17) rfl dX9_copyFrom_16 rfl ?_
  refine z_aload_n (pc2 := 18) rfl dX9_copyFrom_17 rfl ?_
  refine z_getI 38 9 5 (pc2 := 21) rfl dX9_copyFrom_18 rfl rfl ff_9_5 wd_239 ?_
  refine z_putI 60 9 5 (pc2 := 24) (ft := .int) rfl dX9_copyFrom_21 rfl rfl ff_9_5 wd_239 rfl (by decide +kernel) rfl rfl ?_
  obtain ⟨s3, hs3, h⟩ := ab_lt_e h
  refine z_tops hs3 ?_
  refine z_aload_n (pc2 := 25) rfl dX9_copyFrom_24 rfl ?_
  refine z_aload_n (pc2 := 26) rfl dX9_copyFrom_25 rfl ?_
  refine z_getI 38 9 11 (pc2 := 29) rfl dX9_copyFrom_26 rfl rfl ff_9_11 wd_250 ?_
  refine z_putI 60 9 11 (pc2 := 32) (ft := .int) rfl dX9_copyFrom_29 rfl rfl ff_9_11 wd_250 rfl (by decide +kernel) rfl rfl ?_
  obtain ⟨s4, hs4, h⟩ := ab_lt_e h
  refine z_tops hs4 ?_
  refine z_aload_n (pc2 := 33) rfl dX9_copyFrom_32 rfl ?_
  refine z_getR 38 9 6 39 (pc2 := 36) rfl dX9_copyFrom_33 rfl rfl ff_9_6 wd_241 rfl ?_
  refine z_iconst (pc2 := 37) rfl dX9_copyFrom_36 lt_i_0 ?_
  refine z_aload_n (pc2 := 38) rfl dX9_copyFrom_37 rfl ?_
  refine z_getR 60 9 6 67 (pc2 := 41) rfl dX9_copyFrom_38 rfl rfl ff_9_6 wd_241 rfl ?_
  refine z_iconst (pc2 := 42) rfl dX9_copyFrom_41 lt_i_0 ?_
  refine z_bipush (pc2 := 44) rfl dX9_copyFrom_42 lt_b_16 ?_
  obtain ⟨hb5, h⟩ := ab_ck_e h
  refine z_acopy 39 67 (pc2 := 47) rfl dX9_copyFrom_44 rfl rfl rfl rfl wd_738 wd_655 wd_654 wd_82 hb5 rfl rfl ?_
  obtain ⟨s6, hs6, h⟩ := ab_lt_e h
  refine z_tops hs6 ?_
  refine z_aload_n (pc2 := 48) rfl dX9_copyFrom_47 rfl ?_
  refine z_getR 38 9 7 40 (pc2 := 51) rfl dX9_copyFrom_48 rfl rfl ff_9_7 wd_243 rfl ?_
  refine z_iconst (pc2 := 52) rfl dX9_copyFrom_51 lt_i_0 ?_
  refine z_aload_n (pc2 := 53) rfl dX9_copyFrom_52 rfl ?_
  refine z_getR 60 9 7 68 (pc2 := 56) rfl dX9_copyFrom_53 rfl rfl ff_9_7 wd_243 rfl ?_
  refine z_iconst (pc2 := 57) rfl dX9_copyFrom_56 lt_i_0 ?_
  refine z_bipush (pc2 := 59) rfl dX9_copyFrom_57 lt_b_16 ?_
  obtain ⟨hb7, h⟩ := ab_ck_e h
  refine z_acopy 40 68 (pc2 := 62) rfl dX9_copyFrom_59 rfl rfl rfl rfl wd_738 wd_655 wd_654 wd_82 hb7 rfl rfl ?_
  obtain ⟨s8, hs8, h⟩ := ab_lt_e h
  refine z_tops hs8 ?_
  refine z_aload_n (pc2 := 63) rfl dX9_copyFrom_62 rfl ?_
  refine z_getR 38 9 8 41 (pc2 := 66) rfl dX9_copyFrom_63 rfl rfl ff_9_8 wd_245 rfl ?_
  refine z_iconst (pc2 := 67) rfl dX9_copyFrom_66 lt_i_0 ?_
  refine z_aload_n (pc2 := 68) rfl dX9_copyFrom_67 rfl ?_
  refine z_getR 60 9 8 69 (pc2 := 71) rfl dX9_copyFrom_68 rfl rfl ff_9_8 wd_245 rfl ?_
  refine z_iconst (pc2 := 72) rfl dX9_copyFrom_71 lt_i_0 ?_
  refine z_bipush (pc2 := 74) rfl dX9_copyFrom_72 lt_b_16 ?_
  obtain ⟨hb9, h⟩ := ab_ck_e h
  refine z_acopy 41 69 (pc2 := 77) rfl dX9_copyFrom_74 rfl rfl rfl rfl wd_738 wd_655 wd_654 wd_82 hb9 rfl rfl ?_
  obtain ⟨s10, hs10, h⟩ := ab_lt_e h
  refine z_tops hs10 ?_
  refine z_aload_n (pc2 := 78) rfl dX9_copyFrom_77 rfl ?_
  refine z_getR 38 9 9 42 (pc2 := 81) rfl dX9_copyFrom_78 rfl rfl ff_9_9 wd_247 rfl ?_
  refine z_iconst (pc2 := 82) rfl dX9_copyFrom_81 lt_i_0 ?_
  refine z_aload_n (pc2 := 83) rfl dX9_copyFrom_82 rfl ?_
  refine z_getR 60 9 9 70 (pc2 := 86) rfl dX9_copyFrom_83 rfl rfl ff_9_9 wd_247 rfl ?_
  refine z_iconst (pc2 := 87) rfl dX9_copyFrom_86 lt_i_0 ?_
  refine z_bipush (pc2 := 89) rfl dX9_copyFrom_87 lt_b_16 ?_
  obtain ⟨hb11, h⟩ := ab_ck_e h
  refine z_acopy 42 70 (pc2 := 92) rfl dX9_copyFrom_89 rfl rfl rfl rfl wd_738 wd_655 wd_654 wd_82 hb11 rfl rfl ?_
  obtain ⟨s12, hs12, h⟩ := ab_lt_e h
  refine z_tops hs12 ?_
  refine z_aload_n (pc2 := 93) rfl dX9_copyFrom_92 rfl ?_
  refine z_getR 38 9 10 43 (pc2 := 96) rfl dX9_copyFrom_93 rfl rfl ff_9_10 wd_248 rfl ?_
  refine z_iconst (pc2 := 97) rfl dX9_copyFrom_96 lt_i_0 ?_
  refine z_aload_n (pc2 := 98) rfl dX9_copyFrom_97 rfl ?_
  refine z_getR 60 9 10 71 (pc2 := 101) rfl dX9_copyFrom_98 rfl rfl ff_9_10 wd_248 rfl ?_
  refine z_iconst (pc2 := 102) rfl dX9_copyFrom_101 lt_i_0 ?_
  refine z_bipush (pc2 := 104) rfl dX9_copyFrom_102 lt_b_6 ?_
  obtain ⟨hb13, h⟩ := ab_ck_e h
  refine z_acopy 43 71 (pc2 := 107) rfl dX9_copyFrom_104 rfl rfl rfl rfl wd_738 wd_655 wd_654 wd_82 hb13 rfl rfl ?_
  obtain ⟨s14, hs14, h⟩ := ab_lt_e h
  refine z_tops hs14 ?_
  refine z_aload_n (pc2 := 108) rfl dX9_copyFrom_107 rfl ?_
  refine z_getR 38 9 12 44 (pc2 := 111) rfl dX9_copyFrom_108 rfl rfl ff_9_12 wd_252 rfl ?_
  refine z_iconst (pc2 := 112) rfl dX9_copyFrom_111 lt_i_0 ?_
  refine z_aload_n (pc2 := 113) rfl dX9_copyFrom_112 rfl ?_
  refine z_getR 60 9 12 72 (pc2 := 116) rfl dX9_copyFrom_113 rfl rfl ff_9_12 wd_252 rfl ?_
  refine z_iconst (pc2 := 117) rfl dX9_copyFrom_116 lt_i_0 ?_
  refine z_bipush (pc2 := 119) rfl dX9_copyFrom_117 lt_b_8 ?_
  obtain ⟨hb15, h⟩ := ab_ck_e h
  refine z_acopy 44 72 (pc2 := 122) rfl dX9_copyFrom_119 rfl rfl rfl rfl wd_738 wd_655 wd_654 wd_82 hb15 rfl rfl ?_
  obtain ⟨s16, hs16, h⟩ := ab_lt_e h
  refine z_tops hs16 ?_
  refine z_aload_n (pc2 := 123) rfl dX9_copyFrom_122 rfl ?_
  refine z_getR 38 9 13 45 (pc2 := 126) rfl dX9_copyFrom_123 rfl rfl ff_9_13 wd_254 rfl ?_
  refine z_iconst (pc2 := 127) rfl dX9_copyFrom_126 lt_i_0 ?_
  refine z_aload_n (pc2 := 128) rfl dX9_copyFrom_127 rfl ?_
  refine z_getR 60 9 13 73 (pc2 := 131) rfl dX9_copyFrom_128 rfl rfl ff_9_13 wd_254 rfl ?_
  refine z_iconst (pc2 := 132) rfl dX9_copyFrom_131 lt_i_0 ?_
  refine z_bipush (pc2 := 134) rfl dX9_copyFrom_132 lt_b_8 ?_
  obtain ⟨hb17, h⟩ := ab_ck_e h
  refine z_acopy 45 73 (pc2 := 137) rfl dX9_copyFrom_134 rfl rfl rfl rfl wd_738 wd_655 wd_654 wd_82 hb17 rfl rfl ?_
  obtain ⟨s18, hs18, h⟩ := ab_lt_e h
  refine z_tops hs18 ?_
  refine z_aload_n (pc2 := 138) rfl dX9_copyFrom_137 rfl ?_
  refine z_getR 38 9 14 46 (pc2 := 141) rfl dX9_copyFrom_138 rfl rfl ff_9_14 wd_259 rfl ?_
  refine z_iconst (pc2 := 142) rfl dX9_copyFrom_141 lt_i_0 ?_
  refine z_aload_n (pc2 := 143) rfl dX9_copyFrom_142 rfl ?_
  refine z_getR 60 9 14 74 (pc2 := 146) rfl dX9_copyFrom_143 rfl rfl ff_9_14 wd_259 rfl ?_
  refine z_iconst (pc2 := 147) rfl dX9_copyFrom_146 lt_i_0 ?_
  refine z_bipush (pc2 := 149) rfl dX9_copyFrom_147 lt_b_8 ?_
  obtain ⟨hb19, h⟩ := ab_ck_e h
  refine z_acopy 46 74 (pc2 := 152) rfl dX9_copyFrom_149 rfl rfl rfl rfl wd_738 wd_655 wd_654 wd_82 hb19 rfl rfl ?_
  obtain ⟨s20, hs20, h⟩ := ab_lt_e h
  refine z_tops hs20 ?_
  refine z_aload_n (pc2 := 153) rfl dX9_copyFrom_152 rfl ?_
  refine z_getR 38 9 15 47 (pc2 := 156) rfl dX9_copyFrom_153 rfl rfl ff_9_15 wd_261 rfl ?_
  refine z_iconst (pc2 := 157) rfl dX9_copyFrom_156 lt_i_0 ?_
  refine z_aload_n (pc2 := 158) rfl dX9_copyFrom_157 rfl ?_
  refine z_getR 60 9 15 75 (pc2 := 161) rfl dX9_copyFrom_158 rfl rfl ff_9_15 wd_261 rfl ?_
  refine z_iconst (pc2 := 162) rfl dX9_copyFrom_161 lt_i_0 ?_
  refine z_bipush (pc2 := 164) rfl dX9_copyFrom_162 lt_b_8 ?_
  obtain ⟨hb21, h⟩ := ab_ck_e h
  refine z_acopy 47 75 (pc2 := 167) rfl dX9_copyFrom_164 rfl rfl rfl rfl wd_738 wd_655 wd_654 wd_82 hb21 rfl rfl ?_
  obtain ⟨s22, hs22, h⟩ := ab_lt_e h
  refine z_tops hs22 ?_
  refine z_aload_n (pc2 := 168) rfl dX9_copyFrom_167 rfl ?_
  refine z_getR 38 9 16 48 (pc2 := 171) rfl dX9_copyFrom_168 rfl rfl ff_9_16 wd_263 rfl ?_
  refine z_iconst (pc2 := 172) rfl dX9_copyFrom_171 lt_i_0 ?_
  refine z_aload_n (pc2 := 173) rfl dX9_copyFrom_172 rfl ?_
  refine z_getR 60 9 16 76 (pc2 := 176) rfl dX9_copyFrom_173 rfl rfl ff_9_16 wd_263 rfl ?_
  refine z_iconst (pc2 := 177) rfl dX9_copyFrom_176 lt_i_0 ?_
  refine z_bipush (pc2 := 179) rfl dX9_copyFrom_177 lt_b_8 ?_
  obtain ⟨hb23, h⟩ := ab_ck_e h
  refine z_acopy 48 76 (pc2 := 182) rfl dX9_copyFrom_179 rfl rfl rfl rfl wd_738 wd_655 wd_654 wd_82 hb23 rfl rfl ?_
  obtain ⟨s24, hs24, h⟩ := ab_lt_e h
  refine z_tops hs24 ?_
  exact z_vret dX9_copyFrom_182 rfl (fv_w h)
