set_option maxRecDepth 100000 in
set_option maxHeartbeats 4000000 in
theorem e_X11_fitsKind_81_L24 {sc : Nat × (Nat → Int32)} {r : Option Nat × Option Nat} {p2 : Int32} {K : ab_F → Option (Bool × ab_F)} {res : (Bool × ab_F)} (hK : ∀ (σ : ab_F), K σ = some res → ab_E mX11_fitsKind 6 sc 67 [none, none, none, none, none] [] (σ, r) (fun v S => v = some (.int (ab_b res.1)) ∧ S = (res.2, r))) : ∀ (n : Nat) (u4 : Int32) (σ : ab_F), f_X11_fitsKind_L24 81 p2 K n u4 σ = some res → ab_E mX11_fitsKind 6 sc 24 [some (.ref 8), some (.ref 81), some (.int p2), none, some (.int u4)] [] (σ, r) (fun v S => v = some (.int (ab_b res.1)) ∧ S = (res.2, r)) := by
  intro n
  induction n with
  | zero =>
    intro u4 σ h
    rw [f_X11_fitsKind_L24] at h
    cases h
  | succ n ih =>
    intro u4 σ h
    rw [f_X11_fitsKind_L24] at h
    refine z_iload (pc2 := 26) rfl dX11_fitsKind_24 rfl ?_
    refine z_aload_n (pc2 := 27) rfl dX11_fitsKind_26 rfl ?_
    refine z_getI 81 6 1 (pc2 := 30) rfl dX11_fitsKind_27 rfl rfl ff_6_1 wd_102 ?_
    refine z_icmp_ge (pc2 := 33) (tgt := 67) rfl dX11_fitsKind_30 (by decide) (fun hc4 => ?_) (fun hc4 => ?_)
    · replace h := ab_pos hc4 h
      refine z_fgt [false, false, false, false, false] (L2 := [none, none, none, none, none]) rfl ?_
      exact hK  _ h
    · replace h := ab_neg hc4 h
      refine z_aload_n (pc2 := 34) rfl dX11_fitsKind_33 rfl ?_
      refine z_getR 81 6 0 82 (pc2 := 37) rfl dX11_fitsKind_34 rfl rfl ff_6_0 wd_99 rfl ?_
      refine z_iload (pc2 := 39) rfl dX11_fitsKind_37 rfl ?_
      obtain ⟨hb5, h⟩ := ab_ck_e h
      refine z_iald 82 (pc2 := 40) (j := (u4).toNatClampNeg) rfl dX11_fitsKind_39 rfl rfl hb5 rfl ?_
      refine z_aload_n (pc2 := 41) rfl dX11_fitsKind_40 rfl ?_
      refine z_getR 8 11 1 49 (pc2 := 44) rfl dX11_fitsKind_41 rfl rfl ff_11_1 wd_303 rfl ?_
      refine z_getR 49 9 15 58 (pc2 := 47) rfl dX11_fitsKind_44 rfl rfl ff_9_15 wd_262 rfl ?_
      refine z_iload_n (pc2 := 48) rfl dX11_fitsKind_47 rfl ?_
      obtain ⟨hb6, h⟩ := ab_ck_e h
      refine z_iald 58 (pc2 := 49) (j := (p2).toNatClampNeg) rfl dX11_fitsKind_48 rfl rfl hb6 rfl ?_
      refine z_icmp_eq (pc2 := 52) (tgt := 54) rfl dX11_fitsKind_49 (by decide) (fun hc7 => ?_) (fun hc7 => ?_)
      · replace h := ab_pos hc7 h
        refine z_aload_n (pc2 := 55) rfl dX11_fitsKind_54 rfl ?_
        refine z_getR 8 11 1 49 (pc2 := 58) rfl dX11_fitsKind_55 rfl rfl ff_11_1 wd_303 rfl ?_
        obtain ⟨q8, hq8, h⟩ := ab_bnd h
        refine z_callVv 49 [] [some (.ref 49), none] (pc2 := 61) rfl rfl dX11_fitsKind_58 ok_X9_dayGoes ⟨fun _ => rfl, fun _ => Nat.le_of_ble_eq_true rfl⟩ rfl rv_49 wd_721 wd_676 wd_677 rfl (e_X9_dayGoes_49 hq8) ?_
        obtain ⟨x9, hxx9, h⟩ := ab_lt_e h
        refine z_iinc (pc2 := 64) (v := x9) (L2 := [some (.ref 8), some (.ref 81), some (.int p2), none, some (.int x9)]) rfl dX11_fitsKind_61 rfl (by rw [hxx9]; rfl) (by decide) rfl rfl ?_
        refine ab_goto (tgt := 24) dX11_fitsKind_64 (by decide) ?_
        refine z_fgt [true, true, true, false, true] (L2 := [some (.ref 8), some (.ref 81), some (.int p2), none, some (.int x9)]) rfl ?_
        exact ih _ _ h
      · replace h := ab_neg hc7 h
        refine z_iconst (pc2 := 53) rfl dX11_fitsKind_52 lt_i_0 ?_
        exact z_iret dX11_fitsKind_53 rfl rfl (fz_w rfl h)
set_option maxRecDepth 100000 in
set_option maxHeartbeats 4000000 in
theorem e_X11_fitsKind_81 {sc : Nat × (Nat → Int32)} {r : Option Nat × Option Nat} {a2 : Int32} {a3 : Int32} {σ : ab_F} {res : (Bool × ab_F)} (h : f_X11_fitsKind 81 a2 a3 σ = some res) : ab_E mX11_fitsKind 6 sc 0 [some (.ref 8), some (.ref 81), some (.int a2), some (.int a3), none] [] (σ, r) (fun v S => v = some (.int (ab_b res.1)) ∧ S = (res.2, r)) := by
  unfold f_X11_fitsKind at h
  refine z_aload_n (pc2 := 1) rfl dX11_fitsKind_0 rfl ?_
  refine z_getR 8 11 1 49 (pc2 := 4) rfl dX11_fitsKind_1 rfl rfl ff_11_1 wd_303 rfl ?_
  refine z_aload_n (pc2 := 5) rfl dX11_fitsKind_4 rfl ?_
  refine z_getR 8 11 0 38 (pc2 := 8) rfl dX11_fitsKind_5 rfl rfl ff_11_0 wd_302 rfl ?_
  obtain ⟨q1, hq1, h⟩ := ab_bnd h
  refine z_callVv 49 [.ref 38] [some (.ref 49), some (.ref 38)] (pc2 := 11) rfl rfl dX11_fitsKind_8 ok_X9_copyFrom ⟨fun _ => rfl, fun _ => Nat.le_of_ble_eq_true rfl⟩ rfl rv_49 wd_734 wd_735 wd_736 rfl (e_X9_copyFrom_49_38 hq1) ?_
  refine z_aload_n (pc2 := 12) rfl dX11_fitsKind_11 rfl ?_
  refine z_getR 8 11 1 49 (pc2 := 15) rfl dX11_fitsKind_12 rfl rfl ff_11_1 wd_303 rfl ?_
  refine z_getR 49 9 12 55 (pc2 := 18) rfl dX11_fitsKind_15 rfl rfl ff_9_12 wd_253 rfl ?_
  refine z_iload_n (pc2 := 19) rfl dX11_fitsKind_18 rfl ?_
  refine z_iload_n (pc2 := 20) rfl dX11_fitsKind_19 rfl ?_
  obtain ⟨hb2, h⟩ := ab_ck_e h
  refine z_iast 55 (pc2 := 21) (j := (a2).toNatClampNeg) rfl dX11_fitsKind_20 rfl rfl hb2 rfl ?_
  obtain ⟨s3, hs3, h⟩ := ab_lt_e h
  refine z_tops hs3 ?_
  refine z_iconst (pc2 := 22) rfl dX11_fitsKind_21 lt_i_0 ?_
  refine z_istore (pc2 := 24) (L2 := [some (.ref 8), some (.ref 81), some (.int a2), some (.int a3), some (.int (0 : Int32))]) rfl dX11_fitsKind_22 (by decide) rfl rfl ?_
  refine z_fgt [true, true, true, false, true] (L2 := [some (.ref 8), some (.ref 81), some (.int a2), none, some (.int (0 : Int32))]) rfl ?_
  refine e_X11_fitsKind_81_L24 (fun s10 h => ?_) _ _ _ h
  refine z_iconst (pc2 := 68) rfl dX11_fitsKind_67 lt_i_1 ?_
  exact z_iret dX11_fitsKind_68 rfl rfl (fz_w rfl h)
set_option maxRecDepth 100000 in
set_option maxHeartbeats 4000000 in
theorem e_X11_fitsKind_83_L24 {sc : Nat × (Nat → Int32)} {r : Option Nat × Option Nat} {p2 : Int32} {K : ab_F → Option (Bool × ab_F)} {res : (Bool × ab_F)} (hK : ∀ (σ : ab_F), K σ = some res → ab_E mX11_fitsKind 6 sc 67 [none, none, none, none, none] [] (σ, r) (fun v S => v = some (.int (ab_b res.1)) ∧ S = (res.2, r))) : ∀ (n : Nat) (u4 : Int32) (σ : ab_F), f_X11_fitsKind_L24 83 p2 K n u4 σ = some res → ab_E mX11_fitsKind 6 sc 24 [some (.ref 8), some (.ref 83), some (.int p2), none, some (.int u4)] [] (σ, r) (fun v S => v = some (.int (ab_b res.1)) ∧ S = (res.2, r)) := by
  intro n
  induction n with
  | zero =>
    intro u4 σ h
    rw [f_X11_fitsKind_L24] at h
    cases h
  | succ n ih =>
    intro u4 σ h
    rw [f_X11_fitsKind_L24] at h
    refine z_iload (pc2 := 26) rfl dX11_fitsKind_24 rfl ?_
    refine z_aload_n (pc2 := 27) rfl dX11_fitsKind_26 rfl ?_
    refine z_getI 83 6 1 (pc2 := 30) rfl dX11_fitsKind_27 rfl rfl ff_6_1 wd_102 ?_
    refine z_icmp_ge (pc2 := 33) (tgt := 67) rfl dX11_fitsKind_30 (by decide) (fun hc4 => ?_) (fun hc4 => ?_)
    · replace h := ab_pos hc4 h
      refine z_fgt [false, false, false, false, false] (L2 := [none, none, none, none, none]) rfl ?_
      exact hK  _ h
    · replace h := ab_neg hc4 h
      refine z_aload_n (pc2 := 34) rfl dX11_fitsKind_33 rfl ?_
      refine z_getR 83 6 0 84 (pc2 := 37) rfl dX11_fitsKind_34 rfl rfl ff_6_0 wd_99 rfl ?_
      refine z_iload (pc2 := 39) rfl dX11_fitsKind_37 rfl ?_
      obtain ⟨hb5, h⟩ := ab_ck_e h
      refine z_iald 84 (pc2 := 40) (j := (u4).toNatClampNeg) rfl dX11_fitsKind_39 rfl rfl hb5 rfl ?_
      refine z_aload_n (pc2 := 41) rfl dX11_fitsKind_40 rfl ?_
      refine z_getR 8 11 1 49 (pc2 := 44) rfl dX11_fitsKind_41 rfl rfl ff_11_1 wd_303 rfl ?_
      refine z_getR 49 9 15 58 (pc2 := 47) rfl dX11_fitsKind_44 rfl rfl ff_9_15 wd_262 rfl ?_
      refine z_iload_n (pc2 := 48) rfl dX11_fitsKind_47 rfl ?_
      obtain ⟨hb6, h⟩ := ab_ck_e h
      refine z_iald 58 (pc2 := 49) (j := (p2).toNatClampNeg) rfl dX11_fitsKind_48 rfl rfl hb6 rfl ?_
      refine z_icmp_eq (pc2 := 52) (tgt := 54) rfl dX11_fitsKind_49 (by decide) (fun hc7 => ?_) (fun hc7 => ?_)
      · replace h := ab_pos hc7 h
        refine z_aload_n (pc2 := 55) rfl dX11_fitsKind_54 rfl ?_
        refine z_getR 8 11 1 49 (pc2 := 58) rfl dX11_fitsKind_55 rfl rfl ff_11_1 wd_303 rfl ?_
        obtain ⟨q8, hq8, h⟩ := ab_bnd h
        refine z_callVv 49 [] [some (.ref 49), none] (pc2 := 61) rfl rfl dX11_fitsKind_58 ok_X9_dayGoes ⟨fun _ => rfl, fun _ => Nat.le_of_ble_eq_true rfl⟩ rfl rv_49 wd_721 wd_676 wd_677 rfl (e_X9_dayGoes_49 hq8) ?_
        obtain ⟨x9, hxx9, h⟩ := ab_lt_e h
        refine z_iinc (pc2 := 64) (v := x9) (L2 := [some (.ref 8), some (.ref 83), some (.int p2), none, some (.int x9)]) rfl dX11_fitsKind_61 rfl (by rw [hxx9]; rfl) (by decide) rfl rfl ?_
        refine ab_goto (tgt := 24) dX11_fitsKind_64 (by decide) ?_
        refine z_fgt [true, true, true, false, true] (L2 := [some (.ref 8), some (.ref 83), some (.int p2), none, some (.int x9)]) rfl ?_
        exact ih _ _ h
      · replace h := ab_neg hc7 h
        refine z_iconst (pc2 := 53) rfl dX11_fitsKind_52 lt_i_0 ?_
        exact z_iret dX11_fitsKind_53 rfl rfl (fz_w rfl h)
set_option maxRecDepth 100000 in
set_option maxHeartbeats 4000000 in
theorem e_X11_fitsKind_83 {sc : Nat × (Nat → Int32)} {r : Option Nat × Option Nat} {a2 : Int32} {a3 : Int32} {σ : ab_F} {res : (Bool × ab_F)} (h : f_X11_fitsKind 83 a2 a3 σ = some res) : ab_E mX11_fitsKind 6 sc 0 [some (.ref 8), some (.ref 83), some (.int a2), some (.int a3), none] [] (σ, r) (fun v S => v = some (.int (ab_b res.1)) ∧ S = (res.2, r)) := by
  unfold f_X11_fitsKind at h
  refine z_aload_n (pc2 := 1) rfl dX11_fitsKind_0 rfl ?_
  refine z_getR 8 11 1 49 (pc2 := 4) rfl dX11_fitsKind_1 rfl rfl ff_11_1 wd_303 rfl ?_
  refine z_aload_n (pc2 := 5) rfl dX11_fitsKind_4 rfl ?_
  refine z_getR 8 11 0 38 (pc2 := 8) rfl dX11_fitsKind_5 rfl rfl ff_11_0 wd_302 rfl ?_
  obtain ⟨q1, hq1, h⟩ := ab_bnd h
  refine z_callVv 49 [.ref 38] [some (.ref 49), some (.ref 38)] (pc2 := 11) rfl rfl dX11_fitsKind_8 ok_X9_copyFrom ⟨fun _ => rfl, fun _ => Nat.le_of_ble_eq_true rfl⟩ rfl rv_49 wd_734 wd_735 wd_736 rfl (e_X9_copyFrom_49_38 hq1) ?_
  refine z_aload_n (pc2 := 12) rfl dX11_fitsKind_11 rfl ?_
  refine z_getR 8 11 1 49 (pc2 := 15) rfl dX11_fitsKind_12 rfl rfl ff_11_1 wd_303 rfl ?_
  refine z_getR 49 9 12 55 (pc2 := 18) rfl dX11_fitsKind_15 rfl rfl ff_9_12 wd_253 rfl ?_
  refine z_iload_n (pc2 := 19) rfl dX11_fitsKind_18 rfl ?_
  refine z_iload_n (pc2 := 20) rfl dX11_fitsKind_19 rfl ?_
  obtain ⟨hb2, h⟩ := ab_ck_e h
  refine z_iast 55 (pc2 := 21) (j := (a2).toNatClampNeg) rfl dX11_fitsKind_20 rfl rfl hb2 rfl ?_
  obtain ⟨s3, hs3, h⟩ := ab_lt_e h
  refine z_tops hs3 ?_
  refine z_iconst (pc2 := 22) rfl dX11_fitsKind_21 lt_i_0 ?_
  refine z_istore (pc2 := 24) (L2 := [some (.ref 8), some (.ref 83), some (.int a2), some (.int a3), some (.int (0 : Int32))]) rfl dX11_fitsKind_22 (by decide) rfl rfl ?_
  refine z_fgt [true, true, true, false, true] (L2 := [some (.ref 8), some (.ref 83), some (.int a2), none, some (.int (0 : Int32))]) rfl ?_
  refine e_X11_fitsKind_83_L24 (fun s10 h => ?_) _ _ _ h
  refine z_iconst (pc2 := 68) rfl dX11_fitsKind_67 lt_i_1 ?_
  exact z_iret dX11_fitsKind_68 rfl rfl (fz_w rfl h)
def f_X11_fits_L54 (p1 : Int32) (p2 : Int32) (p3 : Int32) (K : Int32 → ab_F → Option (Int32 × ab_F)) : Nat → Int32 → Int32 → ab_F → Option (Int32 × ab_F)
  | 0, _, _, _ => none
  | n + 1, u4, u5, σ => (if (7 : Int32) ≤ u5 then (K u4 σ) else (if p1 = (0 : Int32) then (f_X11_fitsKind 77 p2 u5 σ).bind (fun q11 => (if (ab_b q11.1) = 0 then ab_lt (u5 + (1 : Int32)) (fun x13 => (f_X11_fits_L54 p1 p2 p3 K n u4 x13 q11.2)) else ab_lt ((u4 ||| ((1 : Int32) <<< (u5 &&& 31)))) (fun x14 => ab_lt (u5 + (1 : Int32)) (fun x15 => (f_X11_fits_L54 p1 p2 p3 K n x14 x15 q11.2))))) else if p1 = (1 : Int32) then (f_X11_fitsKind 79 p2 u5 σ).bind (fun q17 => (if (ab_b q17.1) = 0 then ab_lt (u5 + (1 : Int32)) (fun x19 => (f_X11_fits_L54 p1 p2 p3 K n u4 x19 q17.2)) else ab_lt ((u4 ||| ((1 : Int32) <<< (u5 &&& 31)))) (fun x20 => ab_lt (u5 + (1 : Int32)) (fun x21 => (f_X11_fits_L54 p1 p2 p3 K n x20 x21 q17.2))))) else if p1 = (2 : Int32) then (f_X11_fitsKind 81 p2 u5 σ).bind (fun q23 => (if (ab_b q23.1) = 0 then ab_lt (u5 + (1 : Int32)) (fun x25 => (f_X11_fits_L54 p1 p2 p3 K n u4 x25 q23.2)) else ab_lt ((u4 ||| ((1 : Int32) <<< (u5 &&& 31)))) (fun x26 => ab_lt (u5 + (1 : Int32)) (fun x27 => (f_X11_fits_L54 p1 p2 p3 K n x26 x27 q23.2))))) else if p1 = (3 : Int32) then (f_X11_fitsKind 83 p2 u5 σ).bind (fun q29 => (if (ab_b q29.1) = 0 then ab_lt (u5 + (1 : Int32)) (fun x31 => (f_X11_fits_L54 p1 p2 p3 K n u4 x31 q29.2)) else ab_lt ((u4 ||| ((1 : Int32) <<< (u5 &&& 31)))) (fun x32 => ab_lt (u5 + (1 : Int32)) (fun x33 => (f_X11_fits_L54 p1 p2 p3 K n x32 x33 q29.2))))) else none))
set_option maxRecDepth 100000 in
set_option maxHeartbeats 4000000 in
theorem e_X11_fits_L54 {sc : Nat × (Nat → Int32)} {r : Option Nat × Option Nat} {p1 : Int32} {p2 : Int32} {p3 : Int32} {K : Int32 → ab_F → Option (Int32 × ab_F)} {res : (Int32 × ab_F)} (hK : ∀ (u4 : Int32) (σ : ab_F), K u4 σ = some res → ab_E mX11_fits 7 sc 92 [none, none, none, some (.int p3), some (.int u4), none] [] (σ, r) (fun v S => v = some (.int res.1) ∧ S = (res.2, r))) : ∀ (n : Nat) (u4 : Int32) (u5 : Int32) (σ : ab_F), f_X11_fits_L54 p1 p2 p3 K n u4 u5 σ = some res → ab_E mX11_fits 7 sc 54 [some (.ref 8), some (.int p1), some (.int p2), some (.int p3), some (.int u4), some (.int u5)] [] (σ, r) (fun v S => v = some (.int res.1) ∧ S = (res.2, r)) := by
  intro n
  induction n with
  | zero =>
    intro u4 u5 σ h
    rw [f_X11_fits_L54] at h
    cases h
  | succ n ih =>
    intro u4 u5 σ h
    rw [f_X11_fits_L54] at h
    refine z_iload (pc2 := 56) rfl dX11_fits_54 rfl ?_
    refine z_bipush (pc2 := 58) rfl dX11_fits_56 lt_b_7 ?_
    refine z_icmp_ge (pc2 := 61) (tgt := 92) rfl dX11_fits_58 (by decide) (fun hc10 => ?_) (fun hc10 => ?_)
    · replace h := ab_pos hc10 h
      refine z_fgt [false, false, false, true, true, false] (L2 := [none, none, none, some (.int p3), some (.int u4), none]) rfl ?_
      exact hK _ _ h
    · replace h := ab_neg hc10 h
      refine z_aload_n (pc2 := 62) rfl dX11_fits_61 rfl ?_
      refine z_aload_n (pc2 := 63) rfl dX11_fits_62 rfl ?_
      refine z_getR 8 11 8 20 (pc2 := 66) rfl dX11_fits_63 rfl rfl ff_11_8 wd_310 rfl ?_
      refine z_iload_n (pc2 := 67) rfl dX11_fits_66 rfl ?_
      by_cases hi16 : p1 = (0 : Int32)
      · replace h := ab_pos hi16 h
        refine z_aaldR 20 77 (pc2 := 68) rfl dX11_fits_67 rfl rfl (by rw [hi16]; rfl) (by rw [hi16]; rfl) ?_
        refine z_iload_n (pc2 := 69) rfl dX11_fits_68 rfl ?_
        refine z_iload (pc2 := 71) rfl dX11_fits_69 rfl ?_
        obtain ⟨q11, hq11, h⟩ := ab_bnd h
        refine z_callVi 8 [.ref 77, .int p2, .int u5] [some (.ref 8), some (.ref 77), some (.int p2), some (.int u5), none] (pc2 := 74) rfl rfl dX11_fits_71 ok_X11_fitsKind ⟨fun _ => rfl, fun _ => Nat.le_of_ble_eq_true rfl⟩ rfl rv_8 wd_794 wd_796 wd_15 rfl (e_X11_fitsKind_77 hq11) ?_
        refine z_if_eq (pc2 := 77) (tgt := 86) rfl dX11_fits_74 (by decide) (fun hc12 => ?_) (fun hc12 => ?_)
        · replace h := ab_pos hc12 h
          obtain ⟨x13, hxx13, h⟩ := ab_lt_e h
          refine z_iinc (pc2 := 89) (v := x13) (L2 := [some (.ref 8), some (.int p1), some (.int p2), some (.int p3), some (.int u4), some (.int x13)]) rfl dX11_fits_86 rfl (by rw [hxx13]; rfl) (by decide) rfl rfl ?_
          refine ab_goto (tgt := 54) dX11_fits_89 (by decide) ?_
          refine z_fgt [true, true, true, true, true, true] (L2 := [some (.ref 8), some (.int p1), some (.int p2), some (.int p3), some (.int u4), some (.int x13)]) rfl ?_
          exact ih _ _ _ h
        · replace h := ab_neg hc12 h
          refine z_iload (pc2 := 79) rfl dX11_fits_77 rfl ?_
          refine z_iconst (pc2 := 80) rfl dX11_fits_79 lt_i_1 ?_
          refine z_iload (pc2 := 82) rfl dX11_fits_80 rfl ?_
          refine z_ishl (pc2 := 83) rfl dX11_fits_82 ?_
          refine z_ior (pc2 := 84) rfl dX11_fits_83 ?_
          obtain ⟨x14, hxx14, h⟩ := ab_lt_e h
          refine z_top hxx14 ?_
          refine z_istore (pc2 := 86) (L2 := [some (.ref 8), some (.int p1), some (.int p2), some (.int p3), some (.int x14), some (.int u5)]) rfl dX11_fits_84 (by decide) rfl rfl ?_
          obtain ⟨x15, hxx15, h⟩ := ab_lt_e h
          refine z_iinc (pc2 := 89) (v := x15) (L2 := [some (.ref 8), some (.int p1), some (.int p2), some (.int p3), some (.int x14), some (.int x15)]) rfl dX11_fits_86 rfl (by rw [hxx15]; rfl) (by decide) rfl rfl ?_
          refine ab_goto (tgt := 54) dX11_fits_89 (by decide) ?_
          refine z_fgt [true, true, true, true, true, true] (L2 := [some (.ref 8), some (.int p1), some (.int p2), some (.int p3), some (.int x14), some (.int x15)]) rfl ?_
          exact ih _ _ _ h
      · replace h := ab_neg hi16 h
        by_cases hi22 : p1 = (1 : Int32)
        · replace h := ab_pos hi22 h
          refine z_aaldR 20 79 (pc2 := 68) rfl dX11_fits_67 rfl rfl (by rw [hi22]; rfl) (by rw [hi22]; rfl) ?_
          refine z_iload_n (pc2 := 69) rfl dX11_fits_68 rfl ?_
          refine z_iload (pc2 := 71) rfl dX11_fits_69 rfl ?_
          obtain ⟨q17, hq17, h⟩ := ab_bnd h
          refine z_callVi 8 [.ref 79, .int p2, .int u5] [some (.ref 8), some (.ref 79), some (.int p2), some (.int u5), none] (pc2 := 74) rfl rfl dX11_fits_71 ok_X11_fitsKind ⟨fun _ => rfl, fun _ => Nat.le_of_ble_eq_true rfl⟩ rfl rv_8 wd_794 wd_796 wd_15 rfl (e_X11_fitsKind_79 hq17) ?_
          refine z_if_eq (pc2 := 77) (tgt := 86) rfl dX11_fits_74 (by decide) (fun hc18 => ?_) (fun hc18 => ?_)
          · replace h := ab_pos hc18 h
            obtain ⟨x19, hxx19, h⟩ := ab_lt_e h
            refine z_iinc (pc2 := 89) (v := x19) (L2 := [some (.ref 8), some (.int p1), some (.int p2), some (.int p3), some (.int u4), some (.int x19)]) rfl dX11_fits_86 rfl (by rw [hxx19]; rfl) (by decide) rfl rfl ?_
            refine ab_goto (tgt := 54) dX11_fits_89 (by decide) ?_
            refine z_fgt [true, true, true, true, true, true] (L2 := [some (.ref 8), some (.int p1), some (.int p2), some (.int p3), some (.int u4), some (.int x19)]) rfl ?_
            exact ih _ _ _ h
          · replace h := ab_neg hc18 h
            refine z_iload (pc2 := 79) rfl dX11_fits_77 rfl ?_
            refine z_iconst (pc2 := 80) rfl dX11_fits_79 lt_i_1 ?_
            refine z_iload (pc2 := 82) rfl dX11_fits_80 rfl ?_
            refine z_ishl (pc2 := 83) rfl dX11_fits_82 ?_
            refine z_ior (pc2 := 84) rfl dX11_fits_83 ?_
            obtain ⟨x20, hxx20, h⟩ := ab_lt_e h
            refine z_top hxx20 ?_
            refine z_istore (pc2 := 86) (L2 := [some (.ref 8), some (.int p1), some (.int p2), some (.int p3), some (.int x20), some (.int u5)]) rfl dX11_fits_84 (by decide) rfl rfl ?_
            obtain ⟨x21, hxx21, h⟩ := ab_lt_e h
            refine z_iinc (pc2 := 89) (v := x21) (L2 := [some (.ref 8), some (.int p1), some (.int p2), some (.int p3), some (.int x20), some (.int x21)]) rfl dX11_fits_86 rfl (by rw [hxx21]; rfl) (by decide) rfl rfl ?_
            refine ab_goto (tgt := 54) dX11_fits_89 (by decide) ?_
            refine z_fgt [true, true, true, true, true, true] (L2 := [some (.ref 8), some (.int p1), some (.int p2), some (.int p3), some (.int x20), some (.int x21)]) rfl ?_
            exact ih _ _ _ h
        · replace h := ab_neg hi22 h
          by_cases hi28 : p1 = (2 : Int32)
          · replace h := ab_pos hi28 h
            refine z_aaldR 20 81 (pc2 := 68) rfl dX11_fits_67 rfl rfl (by rw [hi28]; rfl) (by rw [hi28]; rfl) ?_
            refine z_iload_n (pc2 := 69) rfl dX11_fits_68 rfl ?_
            refine z_iload (pc2 := 71) rfl dX11_fits_69 rfl ?_
            obtain ⟨q23, hq23, h⟩ := ab_bnd h
            refine z_callVi 8 [.ref 81, .int p2, .int u5] [some (.ref 8), some (.ref 81), some (.int p2), some (.int u5), none] (pc2 := 74) rfl rfl dX11_fits_71 ok_X11_fitsKind ⟨fun _ => rfl, fun _ => Nat.le_of_ble_eq_true rfl⟩ rfl rv_8 wd_794 wd_796 wd_15 rfl (e_X11_fitsKind_81 hq23) ?_
            refine z_if_eq (pc2 := 77) (tgt := 86) rfl dX11_fits_74 (by decide) (fun hc24 => ?_) (fun hc24 => ?_)
            · replace h := ab_pos hc24 h
              obtain ⟨x25, hxx25, h⟩ := ab_lt_e h
              refine z_iinc (pc2 := 89) (v := x25) (L2 := [some (.ref 8), some (.int p1), some (.int p2), some (.int p3), some (.int u4), some (.int x25)]) rfl dX11_fits_86 rfl (by rw [hxx25]; rfl) (by decide) rfl rfl ?_
              refine ab_goto (tgt := 54) dX11_fits_89 (by decide) ?_
              refine z_fgt [true, true, true, true, true, true] (L2 := [some (.ref 8), some (.int p1), some (.int p2), some (.int p3), some (.int u4), some (.int x25)]) rfl ?_
              exact ih _ _ _ h
            · replace h := ab_neg hc24 h
              refine z_iload (pc2 := 79) rfl dX11_fits_77 rfl ?_
              refine z_iconst (pc2 := 80) rfl dX11_fits_79 lt_i_1 ?_
              refine z_iload (pc2 := 82) rfl dX11_fits_80 rfl ?_
              refine z_ishl (pc2 := 83) rfl dX11_fits_82 ?_
              refine z_ior (pc2 := 84) rfl dX11_fits_83 ?_
              obtain ⟨x26, hxx26, h⟩ := ab_lt_e h
              refine z_top hxx26 ?_
              refine z_istore (pc2 := 86) (L2 := [some (.ref 8), some (.int p1), some (.int p2), some (.int p3), some (.int x26), some (.int u5)]) rfl dX11_fits_84 (by decide) rfl rfl ?_
              obtain ⟨x27, hxx27, h⟩ := ab_lt_e h
              refine z_iinc (pc2 := 89) (v := x27) (L2 := [some (.ref 8), some (.int p1), some (.int p2), some (.int p3), some (.int x26), some (.int x27)]) rfl dX11_fits_86 rfl (by rw [hxx27]; rfl) (by decide) rfl rfl ?_
              refine ab_goto (tgt := 54) dX11_fits_89 (by decide) ?_
              refine z_fgt [true, true, true, true, true, true] (L2 := [some (.ref 8), some (.int p1), some (.int p2), some (.int p3), some (.int x26), some (.int x27)]) rfl ?_
              exact ih _ _ _ h
          · replace h := ab_neg hi28 h
            by_cases hi34 : p1 = (3 : Int32)
            · replace h := ab_pos hi34 h
              refine z_aaldR 20 83 (pc2 := 68) rfl dX11_fits_67 rfl rfl (by rw [hi34]; rfl) (by rw [hi34]; rfl) ?_
              refine z_iload_n (pc2 := 69) rfl dX11_fits_68 rfl ?_
              refine z_iload (pc2 := 71) rfl dX11_fits_69 rfl ?_
              obtain ⟨q29, hq29, h⟩ := ab_bnd h
              refine z_callVi 8 [.ref 83, .int p2, .int u5] [some (.ref 8), some (.ref 83), some (.int p2), some (.int u5), none] (pc2 := 74) rfl rfl dX11_fits_71 ok_X11_fitsKind ⟨fun _ => rfl, fun _ => Nat.le_of_ble_eq_true rfl⟩ rfl rv_8 wd_794 wd_796 wd_15 rfl (e_X11_fitsKind_83 hq29) ?_
              refine z_if_eq (pc2 := 77) (tgt := 86) rfl dX11_fits_74 (by decide) (fun hc30 => ?_) (fun hc30 => ?_)
              · replace h := ab_pos hc30 h
                obtain ⟨x31, hxx31, h⟩ := ab_lt_e h
                refine z_iinc (pc2 := 89) (v := x31) (L2 := [some (.ref 8), some (.int p1), some (.int p2), some (.int p3), some (.int u4), some (.int x31)]) rfl dX11_fits_86 rfl (by rw [hxx31]; rfl) (by decide) rfl rfl ?_
                refine ab_goto (tgt := 54) dX11_fits_89 (by decide) ?_
                refine z_fgt [true, true, true, true, true, true] (L2 := [some (.ref 8), some (.int p1), some (.int p2), some (.int p3), some (.int u4), some (.int x31)]) rfl ?_
                exact ih _ _ _ h
              · replace h := ab_neg hc30 h
                refine z_iload (pc2 := 79) rfl dX11_fits_77 rfl ?_
                refine z_iconst (pc2 := 80) rfl dX11_fits_79 lt_i_1 ?_
                refine z_iload (pc2 := 82) rfl dX11_fits_80 rfl ?_
                refine z_ishl (pc2 := 83) rfl dX11_fits_82 ?_
                refine z_ior (pc2 := 84) rfl dX11_fits_83 ?_
                obtain ⟨x32, hxx32, h⟩ := ab_lt_e h
                refine z_top hxx32 ?_
                refine z_istore (pc2 := 86) (L2 := [some (.ref 8), some (.int p1), some (.int p2), some (.int p3), some (.int x32), some (.int u5)]) rfl dX11_fits_84 (by decide) rfl rfl ?_
                obtain ⟨x33, hxx33, h⟩ := ab_lt_e h
                refine z_iinc (pc2 := 89) (v := x33) (L2 := [some (.ref 8), some (.int p1), some (.int p2), some (.int p3), some (.int x32), some (.int x33)]) rfl dX11_fits_86 rfl (by rw [hxx33]; rfl) (by decide) rfl rfl ?_
                refine ab_goto (tgt := 54) dX11_fits_89 (by decide) ?_
                refine z_fgt [true, true, true, true, true, true] (L2 := [some (.ref 8), some (.int p1), some (.int p2), some (.int p3), some (.int x32), some (.int x33)]) rfl ?_
                exact ih _ _ _ h
            · replace h := ab_neg hi34 h
              cases h
def f_X11_fits (a1 : Int32) (a2 : Int32) (a3 : Int32) (σ : ab_F) : Option (Int32 × ab_F) := (f_X11_outside a1 (3 : Int32) σ).bind (fun q1 => (if (ab_b q1) = 0 then (f_X11_nobody a2 σ).bind (fun q4 => (if (ab_b q4) = 0 then (f_X11_outside a3 (1 : Int32) σ).bind (fun q7 => (if (ab_b q7) = 0 then (if a1 = (0 : Int32) then (if (σ 77 2) = 0 then (f_X11_refuse (2 : Int32) σ).bind (fun q39 => (some (q39.1, q39.2))) else (f_X11_fits_L54 a1 a2 a3 (fun (k35 : Int32) (s36 : ab_F) => (if a3 = 0 then (some (k35, s36)) else (f_J6_bitCount_0f7a4 k35 s36).bind (fun q38 => (some (q38, s36))))) ab_fu (0 : Int32) (0 : Int32) σ)) else if a1 = (1 : Int32) then (if (σ 79 2) = 0 then (f_X11_refuse (2 : Int32) σ).bind (fun q46 => (some (q46.1, q46.2))) else (f_X11_fits_L54 a1 a2 a3 (fun (k42 : Int32) (s43 : ab_F) => (if a3 = 0 then (some (k42, s43)) else (f_J6_bitCount_0f7a4 k42 s43).bind (fun q45 => (some (q45, s43))))) ab_fu (0 : Int32) (0 : Int32) σ)) else if a1 = (2 : Int32) then (if (σ 81 2) = 0 then (f_X11_refuse (2 : Int32) σ).bind (fun q53 => (some (q53.1, q53.2))) else (f_X11_fits_L54 a1 a2 a3 (fun (k49 : Int32) (s50 : ab_F) => (if a3 = 0 then (some (k49, s50)) else (f_J6_bitCount_0f7a4 k49 s50).bind (fun q52 => (some (q52, s50))))) ab_fu (0 : Int32) (0 : Int32) σ)) else if a1 = (3 : Int32) then (if (σ 83 2) = 0 then (f_X11_refuse (2 : Int32) σ).bind (fun q60 => (some (q60.1, q60.2))) else (f_X11_fits_L54 a1 a2 a3 (fun (k56 : Int32) (s57 : ab_F) => (if a3 = 0 then (some (k56, s57)) else (f_J6_bitCount_0f7a4 k56 s57).bind (fun q59 => (some (q59, s57))))) ab_fu (0 : Int32) (0 : Int32) σ)) else none) else (f_X11_refuse (1 : Int32) σ).bind (fun q62 => (some (q62.1, q62.2))))) else (f_X11_refuse (1 : Int32) σ).bind (fun q6 => (some (q6.1, q6.2))))) else (f_X11_refuse (1 : Int32) σ).bind (fun q3 => (some (q3.1, q3.2)))))
set_option maxRecDepth 100000 in
set_option maxHeartbeats 4000000 in
theorem e_X11_fits {sc : Nat × (Nat → Int32)} {r : Option Nat × Option Nat} {a1 : Int32} {a2 : Int32} {a3 : Int32} {σ : ab_F} {res : (Int32 × ab_F)} (h : f_X11_fits a1 a2 a3 σ = some res) : ab_E mX11_fits 7 sc 0 [some (.ref 8), some (.int a1), some (.int a2), some (.int a3), none, none] [] (σ, r) (fun v S => v = some (.int res.1) ∧ S = (res.2, r)) := by
  unfold f_X11_fits at h
  refine z_iload_n (pc2 := 1) rfl dX11_fits_0 rfl ?_
  refine z_iconst (pc2 := 2) rfl dX11_fits_1 lt_i_3 ?_
  obtain ⟨q1, hq1, h⟩ := ab_bnd h
  refine z_callSi [.int a1, .int (3 : Int32)] [some (.int a1), some (.int (3 : Int32))] (pc2 := 5) rfl rfl dX11_fits_2 ok_X11_outside ⟨fun _ => rfl, fun _ => Nat.le_of_ble_eq_true rfl⟩ rfl wd_343 wd_344 rfl (e_X11_outside hq1) ?_
  refine z_if_ne (pc2 := 8) (tgt := 24) rfl dX11_fits_5 (by decide) (fun hc2 => ?_) (fun hc2 => ?_)
  · replace h := ab_neg hc2 h
    refine z_aload_n (pc2 := 25) rfl dX11_fits_24 rfl ?_
    refine z_iconst (pc2 := 26) rfl dX11_fits_25 lt_i_1 ?_
    obtain ⟨q3, hq3, h⟩ := ab_bnd h
    refine z_callVi 8 [.int (1 : Int32)] [some (.ref 8), some (.int (1 : Int32))] (pc2 := 29) rfl rfl dX11_fits_26 ok_X11_refuse ⟨fun _ => rfl, fun _ => Nat.le_of_ble_eq_true rfl⟩ rfl rv_8 wd_346 wd_348 wd_0 rfl (e_X11_refuse hq3) ?_
    exact z_iret dX11_fits_29 rfl rfl (fi_w h)
  · replace h := ab_pos hc2 h
    refine z_aload_n (pc2 := 9) rfl dX11_fits_8 rfl ?_
    refine z_iload_n (pc2 := 10) rfl dX11_fits_9 rfl ?_
    obtain ⟨q4, hq4, h⟩ := ab_bnd h
    refine z_callVi 8 [.int a2] [some (.ref 8), some (.int a2)] (pc2 := 13) rfl rfl dX11_fits_10 ok_X11_nobody ⟨fun _ => rfl, fun _ => Nat.le_of_ble_eq_true rfl⟩ rfl rv_8 wd_359 wd_361 wd_1 rfl (e_X11_nobody hq4) ?_
    refine z_if_ne (pc2 := 16) (tgt := 24) rfl dX11_fits_13 (by decide) (fun hc5 => ?_) (fun hc5 => ?_)
    · replace h := ab_neg hc5 h
      refine z_aload_n (pc2 := 25) rfl dX11_fits_24 rfl ?_
      refine z_iconst (pc2 := 26) rfl dX11_fits_25 lt_i_1 ?_
      obtain ⟨q6, hq6, h⟩ := ab_bnd h
      refine z_callVi 8 [.int (1 : Int32)] [some (.ref 8), some (.int (1 : Int32))] (pc2 := 29) rfl rfl dX11_fits_26 ok_X11_refuse ⟨fun _ => rfl, fun _ => Nat.le_of_ble_eq_true rfl⟩ rfl rv_8 wd_346 wd_348 wd_0 rfl (e_X11_refuse hq6) ?_
      exact z_iret dX11_fits_29 rfl rfl (fi_w h)
    · replace h := ab_pos hc5 h
      refine z_iload_n (pc2 := 17) rfl dX11_fits_16 rfl ?_
      refine z_iconst (pc2 := 18) rfl dX11_fits_17 lt_i_1 ?_
      obtain ⟨q7, hq7, h⟩ := ab_bnd h
      refine z_callSi [.int a3, .int (1 : Int32)] [some (.int a3), some (.int (1 : Int32))] (pc2 := 21) rfl rfl dX11_fits_18 ok_X11_outside ⟨fun _ => rfl, fun _ => Nat.le_of_ble_eq_true rfl⟩ rfl wd_343 wd_344 rfl (e_X11_outside hq7) ?_
      refine z_if_eq (pc2 := 24) (tgt := 30) rfl dX11_fits_21 (by decide) (fun hc8 => ?_) (fun hc8 => ?_)
      · replace h := ab_pos hc8 h
        refine z_aload_n (pc2 := 31) rfl dX11_fits_30 rfl ?_
        refine z_getR 8 11 8 20 (pc2 := 34) rfl dX11_fits_31 rfl rfl ff_11_8 wd_310 rfl ?_
        refine z_iload_n (pc2 := 35) rfl dX11_fits_34 rfl ?_
        by_cases hi40 : a1 = (0 : Int32)
        · replace h := ab_pos hi40 h
          refine z_aaldR 20 77 (pc2 := 36) rfl dX11_fits_35 rfl rfl (by rw [hi40]; rfl) (by rw [hi40]; rfl) ?_
          refine z_getI 77 6 2 (pc2 := 39) rfl dX11_fits_36 rfl rfl ff_6_2 wd_104 ?_
          refine z_if_ne (pc2 := 42) (tgt := 48) rfl dX11_fits_39 (by decide) (fun hc9 => ?_) (fun hc9 => ?_)
          · replace h := ab_neg hc9 h
            refine z_iconst (pc2 := 49) rfl dX11_fits_48 lt_i_0 ?_
            refine z_istore (pc2 := 51) (L2 := [some (.ref 8), some (.int a1), some (.int a2), some (.int a3), some (.int (0 : Int32)), none]) rfl dX11_fits_49 (by decide) rfl rfl ?_
            refine z_iconst (pc2 := 52) rfl dX11_fits_51 lt_i_0 ?_
            refine z_istore (pc2 := 54) (L2 := [some (.ref 8), some (.int a1), some (.int a2), some (.int a3), some (.int (0 : Int32)), some (.int (0 : Int32))]) rfl dX11_fits_52 (by decide) rfl rfl ?_
            refine z_fgt [true, true, true, true, true, true] (L2 := [some (.ref 8), some (.int a1), some (.int a2), some (.int a3), some (.int (0 : Int32)), some (.int (0 : Int32))]) rfl ?_
            refine e_X11_fits_L54 (fun k35 s36 h => ?_) _ _ _ _ h
            refine z_iload_n (pc2 := 93) rfl dX11_fits_92 rfl ?_
            refine z_if_ne (pc2 := 96) (tgt := 101) rfl dX11_fits_93 (by decide) (fun hc37 => ?_) (fun hc37 => ?_)
            · replace h := ab_neg hc37 h
              refine z_iload (pc2 := 103) rfl dX11_fits_101 rfl ?_
              obtain ⟨q38, hq38, h⟩ := ab_bnd h
              refine z_callSi [.int k35] [some (.int k35)] (pc2 := 106) rfl rfl dX11_fits_103 ok_J6_bitCount_0f7a4 ⟨fun _ => rfl, fun _ => Nat.le_of_ble_eq_true rfl⟩ rfl wd_767 wd_386 rfl (e_J6_bitCount_0f7a4 hq38) ?_
              exact z_iret dX11_fits_106 rfl rfl (fi_w h)
            · replace h := ab_pos hc37 h
              refine z_iload (pc2 := 98) rfl dX11_fits_96 rfl ?_
              refine ab_goto (tgt := 106) dX11_fits_98 (by decide) ?_
              exact z_iret dX11_fits_106 rfl rfl (fi_w h)
          · replace h := ab_pos hc9 h
            refine z_aload_n (pc2 := 43) rfl dX11_fits_42 rfl ?_
            refine z_iconst (pc2 := 44) rfl dX11_fits_43 lt_i_2 ?_
            obtain ⟨q39, hq39, h⟩ := ab_bnd h
            refine z_callVi 8 [.int (2 : Int32)] [some (.ref 8), some (.int (2 : Int32))] (pc2 := 47) rfl rfl dX11_fits_44 ok_X11_refuse ⟨fun _ => rfl, fun _ => Nat.le_of_ble_eq_true rfl⟩ rfl rv_8 wd_346 wd_348 wd_0 rfl (e_X11_refuse hq39) ?_
            exact z_iret dX11_fits_47 rfl rfl (fi_w h)
        · replace h := ab_neg hi40 h
          by_cases hi47 : a1 = (1 : Int32)
          · replace h := ab_pos hi47 h
            refine z_aaldR 20 79 (pc2 := 36) rfl dX11_fits_35 rfl rfl (by rw [hi47]; rfl) (by rw [hi47]; rfl) ?_
            refine z_getI 79 6 2 (pc2 := 39) rfl dX11_fits_36 rfl rfl ff_6_2 wd_104 ?_
            refine z_if_ne (pc2 := 42) (tgt := 48) rfl dX11_fits_39 (by decide) (fun hc41 => ?_) (fun hc41 => ?_)
            · replace h := ab_neg hc41 h
              refine z_iconst (pc2 := 49) rfl dX11_fits_48 lt_i_0 ?_
              refine z_istore (pc2 := 51) (L2 := [some (.ref 8), some (.int a1), some (.int a2), some (.int a3), some (.int (0 : Int32)), none]) rfl dX11_fits_49 (by decide) rfl rfl ?_
              refine z_iconst (pc2 := 52) rfl dX11_fits_51 lt_i_0 ?_
              refine z_istore (pc2 := 54) (L2 := [some (.ref 8), some (.int a1), some (.int a2), some (.int a3), some (.int (0 : Int32)), some (.int (0 : Int32))]) rfl dX11_fits_52 (by decide) rfl rfl ?_
              refine z_fgt [true, true, true, true, true, true] (L2 := [some (.ref 8), some (.int a1), some (.int a2), some (.int a3), some (.int (0 : Int32)), some (.int (0 : Int32))]) rfl ?_
              refine e_X11_fits_L54 (fun k42 s43 h => ?_) _ _ _ _ h
              refine z_iload_n (pc2 := 93) rfl dX11_fits_92 rfl ?_
              refine z_if_ne (pc2 := 96) (tgt := 101) rfl dX11_fits_93 (by decide) (fun hc44 => ?_) (fun hc44 => ?_)
              · replace h := ab_neg hc44 h
                refine z_iload (pc2 := 103) rfl dX11_fits_101 rfl ?_
                obtain ⟨q45, hq45, h⟩ := ab_bnd h
                refine z_callSi [.int k42] [some (.int k42)] (pc2 := 106) rfl rfl dX11_fits_103 ok_J6_bitCount_0f7a4 ⟨fun _ => rfl, fun _ => Nat.le_of_ble_eq_true rfl⟩ rfl wd_767 wd_386 rfl (e_J6_bitCount_0f7a4 hq45) ?_
                exact z_iret dX11_fits_106 rfl rfl (fi_w h)
              · replace h := ab_pos hc44 h
                refine z_iload (pc2 := 98) rfl dX11_fits_96 rfl ?_
                refine ab_goto (tgt := 106) dX11_fits_98 (by decide) ?_
                exact z_iret dX11_fits_106 rfl rfl (fi_w h)
            · replace h := ab_pos hc41 h
              refine z_aload_n (pc2 := 43) rfl dX11_fits_42 rfl ?_
              refine z_iconst (pc2 := 44) rfl dX11_fits_43 lt_i_2 ?_
              obtain ⟨q46, hq46, h⟩ := ab_bnd h
              refine z_callVi 8 [.int (2 : Int32)] [some (.ref 8), some (.int (2 : Int32))] (pc2 := 47) rfl rfl dX11_fits_44 ok_X11_refuse ⟨fun _ => rfl, fun _ => Nat.le_of_ble_eq_true rfl⟩ rfl rv_8 wd_346 wd_348 wd_0 rfl (e_X11_refuse hq46) ?_
              exact z_iret dX11_fits_47 rfl rfl (fi_w h)
          · replace h := ab_neg hi47 h
            by_cases hi54 : a1 = (2 : Int32)
            · replace h := ab_pos hi54 h
              refine z_aaldR 20 81 (pc2 := 36) rfl dX11_fits_35 rfl rfl (by rw [hi54]; rfl) (by rw [hi54]; rfl) ?_
              refine z_getI 81 6 2 (pc2 := 39) rfl dX11_fits_36 rfl rfl ff_6_2 wd_104 ?_
              refine z_if_ne (pc2 := 42) (tgt := 48) rfl dX11_fits_39 (by decide) (fun hc48 => ?_) (fun hc48 => ?_)
              · replace h := ab_neg hc48 h
                refine z_iconst (pc2 := 49) rfl dX11_fits_48 lt_i_0 ?_
                refine z_istore (pc2 := 51) (L2 := [some (.ref 8), some (.int a1), some (.int a2), some (.int a3), some (.int (0 : Int32)), none]) rfl dX11_fits_49 (by decide) rfl rfl ?_
                refine z_iconst (pc2 := 52) rfl dX11_fits_51 lt_i_0 ?_
                refine z_istore (pc2 := 54) (L2 := [some (.ref 8), some (.int a1), some (.int a2), some (.int a3), some (.int (0 : Int32)), some (.int (0 : Int32))]) rfl dX11_fits_52 (by decide) rfl rfl ?_
                refine z_fgt [true, true, true, true, true, true] (L2 := [some (.ref 8), some (.int a1), some (.int a2), some (.int a3), some (.int (0 : Int32)), some (.int (0 : Int32))]) rfl ?_
                refine e_X11_fits_L54 (fun k49 s50 h => ?_) _ _ _ _ h
                refine z_iload_n (pc2 := 93) rfl dX11_fits_92 rfl ?_
                refine z_if_ne (pc2 := 96) (tgt := 101) rfl dX11_fits_93 (by decide) (fun hc51 => ?_) (fun hc51 => ?_)
                · replace h := ab_neg hc51 h
                  refine z_iload (pc2 := 103) rfl dX11_fits_101 rfl ?_
                  obtain ⟨q52, hq52, h⟩ := ab_bnd h
                  refine z_callSi [.int k49] [some (.int k49)] (pc2 := 106) rfl rfl dX11_fits_103 ok_J6_bitCount_0f7a4 ⟨fun _ => rfl, fun _ => Nat.le_of_ble_eq_true rfl⟩ rfl wd_767 wd_386 rfl (e_J6_bitCount_0f7a4 hq52) ?_
                  exact z_iret dX11_fits_106 rfl rfl (fi_w h)
                · replace h := ab_pos hc51 h
                  refine z_iload (pc2 := 98) rfl dX11_fits_96 rfl ?_
                  refine ab_goto (tgt := 106) dX11_fits_98 (by decide) ?_
                  exact z_iret dX11_fits_106 rfl rfl (fi_w h)
              · replace h := ab_pos hc48 h
                refine z_aload_n (pc2 := 43) rfl dX11_fits_42 rfl ?_
                refine z_iconst (pc2 := 44) rfl dX11_fits_43 lt_i_2 ?_
                obtain ⟨q53, hq53, h⟩ := ab_bnd h
                refine z_callVi 8 [.int (2 : Int32)] [some (.ref 8), some (.int (2 : Int32))] (pc2 := 47) rfl rfl dX11_fits_44 ok_X11_refuse ⟨fun _ => rfl, fun _ => Nat.le_of_ble_eq_true rfl⟩ rfl rv_8 wd_346 wd_348 wd_0 rfl (e_X11_refuse hq53) ?_
                exact z_iret dX11_fits_47 rfl rfl (fi_w h)
            · replace h := ab_neg hi54 h
              by_cases hi61 : a1 = (3 : Int32)
              · replace h := ab_pos hi61 h
                refine z_aaldR 20 83 (pc2 := 36) rfl dX11_fits_35 rfl rfl (by rw [hi61]; rfl) (by rw [hi61]; rfl) ?_
                refine z_getI 83 6 2 (pc2 := 39) rfl dX11_fits_36 rfl rfl ff_6_2 wd_104 ?_
                refine z_if_ne (pc2 := 42) (tgt := 48) rfl dX11_fits_39 (by decide) (fun hc55 => ?_) (fun hc55 => ?_)
                · replace h := ab_neg hc55 h
                  refine z_iconst (pc2 := 49) rfl dX11_fits_48 lt_i_0 ?_
                  refine z_istore (pc2 := 51) (L2 := [some (.ref 8), some (.int a1), some (.int a2), some (.int a3), some (.int (0 : Int32)), none]) rfl dX11_fits_49 (by decide) rfl rfl ?_
                  refine z_iconst (pc2 := 52) rfl dX11_fits_51 lt_i_0 ?_
                  refine z_istore (pc2 := 54) (L2 := [some (.ref 8), some (.int a1), some (.int a2), some (.int a3), some (.int (0 : Int32)), some (.int (0 : Int32))]) rfl dX11_fits_52 (by decide) rfl rfl ?_
                  refine z_fgt [true, true, true, true, true, true] (L2 := [some (.ref 8), some (.int a1), some (.int a2), some (.int a3), some (.int (0 : Int32)), some (.int (0 : Int32))]) rfl ?_
                  refine e_X11_fits_L54 (fun k56 s57 h => ?_) _ _ _ _ h
                  refine z_iload_n (pc2 := 93) rfl dX11_fits_92 rfl ?_
                  refine z_if_ne (pc2 := 96) (tgt := 101) rfl dX11_fits_93 (by decide) (fun hc58 => ?_) (fun hc58 => ?_)
                  · replace h := ab_neg hc58 h
                    refine z_iload (pc2 := 103) rfl dX11_fits_101 rfl ?_
                    obtain ⟨q59, hq59, h⟩ := ab_bnd h
                    refine z_callSi [.int k56] [some (.int k56)] (pc2 := 106) rfl rfl dX11_fits_103 ok_J6_bitCount_0f7a4 ⟨fun _ => rfl, fun _ => Nat.le_of_ble_eq_true rfl⟩ rfl wd_767 wd_386 rfl (e_J6_bitCount_0f7a4 hq59) ?_
                    exact z_iret dX11_fits_106 rfl rfl (fi_w h)
                  · replace h := ab_pos hc58 h
                    refine z_iload (pc2 := 98) rfl dX11_fits_96 rfl ?_
                    refine ab_goto (tgt := 106) dX11_fits_98 (by decide) ?_
                    exact z_iret dX11_fits_106 rfl rfl (fi_w h)
                · replace h := ab_pos hc55 h
                  refine z_aload_n (pc2 := 43) rfl dX11_fits_42 rfl ?_
                  refine z_iconst (pc2 := 44) rfl dX11_fits_43 lt_i_2 ?_
                  obtain ⟨q60, hq60, h⟩ := ab_bnd h
                  refine z_callVi 8 [.int (2 : Int32)] [some (.ref 8), some (.int (2 : Int32))] (pc2 := 47) rfl rfl dX11_fits_44 ok_X11_refuse ⟨fun _ => rfl, fun _ => Nat.le_of_ble_eq_true rfl⟩ rfl rv_8 wd_346 wd_348 wd_0 rfl (e_X11_refuse hq60) ?_
                  exact z_iret dX11_fits_47 rfl rfl (fi_w h)
              · replace h := ab_neg hi61 h
                cases h
      · replace h := ab_neg hc8 h
        refine z_aload_n (pc2 := 25) rfl dX11_fits_24 rfl ?_
        refine z_iconst (pc2 := 26) rfl dX11_fits_25 lt_i_1 ?_
        obtain ⟨q62, hq62, h⟩ := ab_bnd h
        refine z_callVi 8 [.int (1 : Int32)] [some (.ref 8), some (.int (1 : Int32))] (pc2 := 29) rfl rfl dX11_fits_26 ok_X11_refuse ⟨fun _ => rfl, fun _ => Nat.le_of_ble_eq_true rfl⟩ rfl rv_8 wd_346 wd_348 wd_0 rfl (e_X11_refuse hq62) ?_
        exact z_iret dX11_fits_29 rfl rfl (fi_w h)
def f_X8_opens (a1 : Int32) (a2 : Int32) (σ : ab_F) : Option ab_F := ab_lt (ab_u σ 21 0 a1) (fun (s1 : ab_F) => ab_lt (ab_u s1 21 1 a2) (fun (s2 : ab_F) => ab_lt (ab_u s2 21 2 (0 : Int32)) (fun (s3 : ab_F) => ab_lt (ab_u s3 21 4 (0 : Int32)) (fun (s4 : ab_F) => (some s4)))))
set_option maxRecDepth 100000 in
set_option maxHeartbeats 4000000 in
theorem e_X8_opens {sc : Nat × (Nat → Int32)} {r : Option Nat × Option Nat} {a1 : Int32} {a2 : Int32} {σ : ab_F} {res : ab_F} (h : f_X8_opens a1 a2 σ = some res) : ab_E mX8_opens 0 sc 0 [some (.ref 21), some (.int a1), some (.int a2)] [] (σ, r) (fun v S => v = none ∧ S = (res, r)) := by
  unfold f_X8_opens at h
  refine z_aload_n (pc2 := 1) rfl dX8_opens_0 rfl ?_
  refine z_iload_n (pc2 := 2) rfl dX8_opens_1 rfl ?_
  refine z_putI 21 8 0 (pc2 := 5) (ft := .int) rfl dX8_opens_2 rfl rfl ff_8_0 wd_147 rfl (by decide +kernel) rfl rfl ?_
  obtain ⟨s1, hs1, h⟩ := ab_lt_e h
  refine z_tops hs1 ?_
  refine z_aload_n (pc2 := 6) rfl dX8_opens_5 rfl ?_
  refine z_iload_n (pc2 := 7) rfl dX8_opens_6 rfl ?_
  refine z_putI 21 8 1 (pc2 := 10) (ft := .int) rfl dX8_opens_7 rfl rfl ff_8_1 wd_150 rfl (by decide +kernel) rfl rfl ?_
  obtain ⟨s2, hs2, h⟩ := ab_lt_e h
  refine z_tops hs2 ?_
  refine z_aload_n (pc2 := 11) rfl dX8_opens_10 rfl ?_
  refine z_iconst (pc2 := 12) rfl dX8_opens_11 lt_i_0 ?_
  refine z_putI 21 8 2 (pc2 := 15) (ft := .boolean) rfl dX8_opens_12 rfl rfl ff_8_2 wd_153 rfl (by decide +kernel) rfl rfl ?_
  obtain ⟨s3, hs3, h⟩ := ab_lt_e h
  refine z_tops hs3 ?_
  refine z_aload_n (pc2 := 16) rfl dX8_opens_15 rfl ?_
  refine z_iconst (pc2 := 17) rfl dX8_opens_16 lt_i_0 ?_
  refine z_putI 21 8 4 (pc2 := 20) (ft := .int) rfl dX8_opens_17 rfl rfl ff_8_4 wd_159 rfl (by decide +kernel) rfl rfl ?_
  obtain ⟨s4, hs4, h⟩ := ab_lt_e h
  refine z_tops hs4 ?_
  exact z_vret dX8_opens_20 rfl (fv_w h)
def f_X8_begins (a1 : Int32) (σ : ab_F) : Option ab_F := (if (30 : Int32) ≤ (σ 21 4) then (some σ) else ab_ck (ab_ib (σ 21 4) 30) (ab_lt (ab_u σ 22 ((σ 21 4)).toNatClampNeg a1) (fun (s3 : ab_F) => ab_lt (ab_u s3 21 4 ((s3 21 4) + (1 : Int32))) (fun (s4 : ab_F) => (some s4)))))
set_option maxRecDepth 100000 in
set_option maxHeartbeats 4000000 in
theorem e_X8_begins {sc : Nat × (Nat → Int32)} {r : Option Nat × Option Nat} {a1 : Int32} {σ : ab_F} {res : ab_F} (h : f_X8_begins a1 σ = some res) : ab_E mX8_begins 0 sc 0 [some (.ref 21), some (.int a1)] [] (σ, r) (fun v S => v = none ∧ S = (res, r)) := by
  unfold f_X8_begins at h
  refine z_aload_n (pc2 := 1) rfl dX8_begins_0 rfl ?_
  refine z_getI 21 8 4 (pc2 := 4) rfl dX8_begins_1 rfl rfl ff_8_4 wd_159 ?_
  refine z_bipush (pc2 := 6) rfl dX8_begins_4 lt_b_30 ?_
  refine z_icmp_ge (pc2 := 9) (tgt := 29) rfl dX8_begins_6 (by decide) (fun hc1 => ?_) (fun hc1 => ?_)
  · replace h := ab_pos hc1 h
    exact z_vret dX8_begins_29 rfl (fv_w h)
  · replace h := ab_neg hc1 h
    refine z_aload_n (pc2 := 10) rfl dX8_begins_9 rfl ?_
    refine z_getR 21 8 3 22 (pc2 := 13) rfl dX8_begins_10 rfl rfl ff_8_3 wd_157 rfl ?_
    refine z_aload_n (pc2 := 14) rfl dX8_begins_13 rfl ?_
    refine z_getI 21 8 4 (pc2 := 17) rfl dX8_begins_14 rfl rfl ff_8_4 wd_159 ?_
    refine z_iload_n (pc2 := 18) rfl dX8_begins_17 rfl ?_
    obtain ⟨hb2, h⟩ := ab_ck_e h
    refine z_iast 22 (pc2 := 19) (j := ((σ 21 4)).toNatClampNeg) rfl dX8_begins_18 rfl rfl hb2 rfl ?_
    obtain ⟨s3, hs3, h⟩ := ab_lt_e h
    refine z_tops hs3 ?_
    refine z_aload_n (pc2 := 20) rfl dX8_begins_19 rfl ?_
    refine z_dup (pc2 := 21) rfl dX8_begins_20 rfl ?_
    refine z_getI 21 8 4 (pc2 := 24) rfl dX8_begins_21 rfl rfl ff_8_4 wd_159 ?_
    refine z_iconst (pc2 := 25) rfl dX8_begins_24 lt_i_1 ?_
    refine z_iadd (pc2 := 26) rfl dX8_begins_25 ?_
    refine z_putI 21 8 4 (pc2 := 29) (ft := .int) rfl dX8_begins_26 rfl rfl ff_8_4 wd_159 rfl (by decide +kernel) rfl rfl ?_
    obtain ⟨s4, hs4, h⟩ := ab_lt_e h
    refine z_tops hs4 ?_
    exact z_vret dX8_begins_29 rfl (fv_w h)
def f_X2_wades_25 (a2 : Int32) (σ : ab_F) : Option (Int32 × ab_F) := (f_X8_begins (10 : Int32) σ).bind (fun q1 => (some ((a2 + (q1 21 0)), q1)))
set_option maxRecDepth 100000 in
set_option maxHeartbeats 4000000 in
theorem e_X2_wades_25 {sc : Nat × (Nat → Int32)} {r : Option Nat × Option Nat} {a2 : Int32} {σ : ab_F} {res : (Int32 × ab_F)} (h : f_X2_wades_25 a2 σ = some res) : ab_E mX2_wades 1 sc 0 [some (.ref 25), some (.ref 21), some (.int a2)] [] (σ, r) (fun v S => v = some (.int res.1) ∧ S = (res.2, r)) := by
  unfold f_X2_wades_25 at h
  refine z_aload_n (pc2 := 1) rfl dX2_wades_0 rfl ?_
  refine z_bipush (pc2 := 3) rfl dX2_wades_1 lt_b_10 ?_
  obtain ⟨q1, hq1, h⟩ := ab_bnd h
  refine z_callVv 21 [.int (10 : Int32)] [some (.ref 21), some (.int (10 : Int32))] (pc2 := 6) rfl rfl dX2_wades_3 ok_X8_begins ⟨fun _ => rfl, fun _ => Nat.le_of_ble_eq_true rfl⟩ rfl rv_21 wd_831 wd_815 wd_816 rfl (e_X8_begins hq1) ?_
  refine z_iload_n (pc2 := 7) rfl dX2_wades_6 rfl ?_
  refine z_aload_n (pc2 := 8) rfl dX2_wades_7 rfl ?_
  refine z_getI 21 8 0 (pc2 := 11) rfl dX2_wades_8 rfl rfl ff_8_0 wd_148 ?_
  refine z_iadd (pc2 := 12) rfl dX2_wades_11 ?_
  exact z_iret dX2_wades_12 rfl rfl (fi_w h)
def f_X2_knows_25 (a2 : Int32) (σ : ab_F) : Option (Int32 × ab_F) := (f_X8_begins (11 : Int32) σ).bind (fun q1 => (f_X2_wades_25 a2 q1).bind (fun q2 => (some ((q2.1 * (2 : Int32)), q2.2))))
set_option maxRecDepth 100000 in
set_option maxHeartbeats 4000000 in
theorem e_X2_knows_25 {sc : Nat × (Nat → Int32)} {r : Option Nat × Option Nat} {a2 : Int32} {σ : ab_F} {res : (Int32 × ab_F)} (h : f_X2_knows_25 a2 σ = some res) : ab_E mX2_knows 2 sc 0 [some (.ref 25), some (.ref 21), some (.int a2)] [] (σ, r) (fun v S => v = some (.int res.1) ∧ S = (res.2, r)) := by
  unfold f_X2_knows_25 at h
  refine z_aload_n (pc2 := 1) rfl dX2_knows_0 rfl ?_
  refine z_bipush (pc2 := 3) rfl dX2_knows_1 lt_b_11 ?_
  obtain ⟨q1, hq1, h⟩ := ab_bnd h
  refine z_callVv 21 [.int (11 : Int32)] [some (.ref 21), some (.int (11 : Int32))] (pc2 := 6) rfl rfl dX2_knows_3 ok_X8_begins ⟨fun _ => rfl, fun _ => Nat.le_of_ble_eq_true rfl⟩ rfl rv_21 wd_831 wd_815 wd_816 rfl (e_X8_begins hq1) ?_
  refine z_aload_n (pc2 := 7) rfl dX2_knows_6 rfl ?_
  refine z_aload_n (pc2 := 8) rfl dX2_knows_7 rfl ?_
  refine z_iload_n (pc2 := 9) rfl dX2_knows_8 rfl ?_
  obtain ⟨q2, hq2, h⟩ := ab_bnd h
  refine z_callVi 25 [.ref 21, .int a2] [some (.ref 25), some (.ref 21), some (.int a2)] (pc2 := 12) rfl rfl dX2_knows_9 ok_X2_wades ⟨fun _ => rfl, fun _ => Nat.le_of_ble_eq_true rfl⟩ rfl rv_25 wd_854 wd_807 wd_808 rfl (e_X2_wades_25 hq2) ?_
  refine z_iconst (pc2 := 13) rfl dX2_knows_12 lt_i_2 ?_
  refine z_imul (pc2 := 14) rfl dX2_knows_13 ?_
  exact z_iret dX2_knows_14 rfl rfl (fi_w h)
def f_X2_sits_25 (a2 : Int32) (σ : ab_F) : Option (Int32 × ab_F) := (f_X8_begins (12 : Int32) σ).bind (fun q1 => (f_X2_knows_25 a2 q1).bind (fun q2 => (some ((q2.1 - (q2.2 21 1)), q2.2))))
set_option maxRecDepth 100000 in
set_option maxHeartbeats 4000000 in
theorem e_X2_sits_25 {sc : Nat × (Nat → Int32)} {r : Option Nat × Option Nat} {a2 : Int32} {σ : ab_F} {res : (Int32 × ab_F)} (h : f_X2_sits_25 a2 σ = some res) : ab_E mX2_sits 3 sc 0 [some (.ref 25), some (.ref 21), some (.int a2)] [] (σ, r) (fun v S => v = some (.int res.1) ∧ S = (res.2, r)) := by
  unfold f_X2_sits_25 at h
  refine z_aload_n (pc2 := 1) rfl dX2_sits_0 rfl ?_
  refine z_bipush (pc2 := 3) rfl dX2_sits_1 lt_b_12 ?_
  obtain ⟨q1, hq1, h⟩ := ab_bnd h
  refine z_callVv 21 [.int (12 : Int32)] [some (.ref 21), some (.int (12 : Int32))] (pc2 := 6) rfl rfl dX2_sits_3 ok_X8_begins ⟨fun _ => rfl, fun _ => Nat.le_of_ble_eq_true rfl⟩ rfl rv_21 wd_831 wd_815 wd_816 rfl (e_X8_begins hq1) ?_
  refine z_aload_n (pc2 := 7) rfl dX2_sits_6 rfl ?_
  refine z_aload_n (pc2 := 8) rfl dX2_sits_7 rfl ?_
  refine z_iload_n (pc2 := 9) rfl dX2_sits_8 rfl ?_
  obtain ⟨q2, hq2, h⟩ := ab_bnd h
  refine z_callVi 25 [.ref 21, .int a2] [some (.ref 25), some (.ref 21), some (.int a2)] (pc2 := 12) rfl rfl dX2_sits_9 ok_X2_knows ⟨fun _ => rfl, fun _ => Nat.le_of_ble_eq_true rfl⟩ rfl rv_25 wd_875 wd_833 wd_834 rfl (e_X2_knows_25 hq2) ?_
  refine z_aload_n (pc2 := 13) rfl dX2_sits_12 rfl ?_
  refine z_getI 21 8 1 (pc2 := 16) rfl dX2_sits_13 rfl rfl ff_8_1 wd_152 ?_
  refine z_isub (pc2 := 17) rfl dX2_sits_16 ?_
  exact z_iret dX2_sits_17 rfl rfl (fi_w h)
def f_X2_parts_25 (a2 : Int32) (σ : ab_F) : Option (Int32 × ab_F) := (f_X8_begins (13 : Int32) σ).bind (fun q1 => ab_lt (((q1 21 1) - (q1 21 0))) (fun x2 => (if x2 = 0 then ab_lt (ab_u q1 21 2 (1 : Int32)) (fun (s5 : ab_F) => (some ((0 : Int32), s5))) else ab_ck (ab_nz x2) ((some ((a2 / x2), q1))))))
set_option maxRecDepth 100000 in
set_option maxHeartbeats 4000000 in
theorem e_X2_parts_25 {sc : Nat × (Nat → Int32)} {r : Option Nat × Option Nat} {a2 : Int32} {σ : ab_F} {res : (Int32 × ab_F)} (h : f_X2_parts_25 a2 σ = some res) : ab_E mX2_parts 1 sc 0 [some (.ref 25), some (.ref 21), some (.int a2), none] [] (σ, r) (fun v S => v = some (.int res.1) ∧ S = (res.2, r)) := by
  unfold f_X2_parts_25 at h
  refine z_aload_n (pc2 := 1) rfl dX2_parts_0 rfl ?_
  refine z_bipush (pc2 := 3) rfl dX2_parts_1 lt_b_13 ?_
  obtain ⟨q1, hq1, h⟩ := ab_bnd h
  refine z_callVv 21 [.int (13 : Int32)] [some (.ref 21), some (.int (13 : Int32))] (pc2 := 6) rfl rfl dX2_parts_3 ok_X8_begins ⟨fun _ => rfl, fun _ => Nat.le_of_ble_eq_true rfl⟩ rfl rv_21 wd_831 wd_815 wd_816 rfl (e_X8_begins hq1) ?_
  refine z_aload_n (pc2 := 7) rfl dX2_parts_6 rfl ?_
  refine z_getI 21 8 1 (pc2 := 10) rfl dX2_parts_7 rfl rfl ff_8_1 wd_152 ?_
  refine z_aload_n (pc2 := 11) rfl dX2_parts_10 rfl ?_
  refine z_getI 21 8 0 (pc2 := 14) rfl dX2_parts_11 rfl rfl ff_8_0 wd_148 ?_
  refine z_isub (pc2 := 15) rfl dX2_parts_14 ?_
  obtain ⟨x2, hxx2, h⟩ := ab_lt_e h
  refine z_top hxx2 ?_
  refine z_istore_n (pc2 := 16) (L2 := [some (.ref 25), some (.ref 21), some (.int a2), some (.int x2)]) rfl dX2_parts_15 (by decide) rfl rfl ?_
  refine z_iload_n (pc2 := 17) rfl dX2_parts_16 rfl ?_
  refine z_if_ne (pc2 := 20) (tgt := 27) rfl dX2_parts_17 (by decide) (fun hc3 => ?_) (fun hc3 => ?_)
  · replace h := ab_neg hc3 h
    refine z_iload_n (pc2 := 28) rfl dX2_parts_27 rfl ?_
    refine z_iload_n (pc2 := 29) rfl dX2_parts_28 rfl ?_
    obtain ⟨hb4, h⟩ := ab_ck_e h
    refine z_idiv (pc2 := 30) rfl dX2_parts_29 (ab_nz_e hb4) ?_
    exact z_iret dX2_parts_30 rfl rfl (fi_w h)
  · replace h := ab_pos hc3 h
    refine z_aload_n (pc2 := 21) rfl dX2_parts_20 rfl ?_
    refine z_iconst (pc2 := 22) rfl dX2_parts_21 lt_i_1 ?_
    refine z_putI 21 8 2 (pc2 := 25) (ft := .boolean) rfl dX2_parts_22 rfl rfl ff_8_2 wd_155 rfl (by decide +kernel) rfl rfl ?_
    obtain ⟨s5, hs5, h⟩ := ab_lt_e h
    refine z_tops hs5 ?_
    refine z_iconst (pc2 := 26) rfl dX2_parts_25 lt_i_0 ?_
    exact z_iret dX2_parts_26 rfl rfl (fi_w h)
def f_X2_wades_26 (a2 : Int32) (σ : ab_F) : Option (Int32 × ab_F) := (f_X8_begins (10 : Int32) σ).bind (fun q1 => (some ((a2 + (q1 21 0)), q1)))
set_option maxRecDepth 100000 in
set_option maxHeartbeats 4000000 in
theorem e_X2_wades_26 {sc : Nat × (Nat → Int32)} {r : Option Nat × Option Nat} {a2 : Int32} {σ : ab_F} {res : (Int32 × ab_F)} (h : f_X2_wades_26 a2 σ = some res) : ab_E mX2_wades 1 sc 0 [some (.ref 26), some (.ref 21), some (.int a2)] [] (σ, r) (fun v S => v = some (.int res.1) ∧ S = (res.2, r)) := by
  unfold f_X2_wades_26 at h
  refine z_aload_n (pc2 := 1) rfl dX2_wades_0 rfl ?_
  refine z_bipush (pc2 := 3) rfl dX2_wades_1 lt_b_10 ?_
  obtain ⟨q1, hq1, h⟩ := ab_bnd h
  refine z_callVv 21 [.int (10 : Int32)] [some (.ref 21), some (.int (10 : Int32))] (pc2 := 6) rfl rfl dX2_wades_3 ok_X8_begins ⟨fun _ => rfl, fun _ => Nat.le_of_ble_eq_true rfl⟩ rfl rv_21 wd_831 wd_815 wd_816 rfl (e_X8_begins hq1) ?_
  refine z_iload_n (pc2 := 7) rfl dX2_wades_6 rfl ?_
  refine z_aload_n (pc2 := 8) rfl dX2_wades_7 rfl ?_
  refine z_getI 21 8 0 (pc2 := 11) rfl dX2_wades_8 rfl rfl ff_8_0 wd_148 ?_
  refine z_iadd (pc2 := 12) rfl dX2_wades_11 ?_
  exact z_iret dX2_wades_12 rfl rfl (fi_w h)
def f_X5_wades_26 (a2 : Int32) (σ : ab_F) : Option (Int32 × ab_F) := (f_X8_begins (20 : Int32) σ).bind (fun q1 => (f_X2_wades_26 a2 q1).bind (fun q2 => (some ((q2.1 - (4 : Int32)), q2.2))))
set_option maxRecDepth 100000 in
set_option maxHeartbeats 4000000 in
theorem e_X5_wades_26 {sc : Nat × (Nat → Int32)} {r : Option Nat × Option Nat} {a2 : Int32} {σ : ab_F} {res : (Int32 × ab_F)} (h : f_X5_wades_26 a2 σ = some res) : ab_E mX5_wades 2 sc 0 [some (.ref 26), some (.ref 21), some (.int a2)] [] (σ, r) (fun v S => v = some (.int res.1) ∧ S = (res.2, r)) := by
  unfold f_X5_wades_26 at h
  refine z_aload_n (pc2 := 1) rfl dX5_wades_0 rfl ?_
  refine z_bipush (pc2 := 3) rfl dX5_wades_1 lt_b_20 ?_
  obtain ⟨q1, hq1, h⟩ := ab_bnd h
  refine z_callVv 21 [.int (20 : Int32)] [some (.ref 21), some (.int (20 : Int32))] (pc2 := 6) rfl rfl dX5_wades_3 ok_X8_begins ⟨fun _ => rfl, fun _ => Nat.le_of_ble_eq_true rfl⟩ rfl rv_21 wd_821 wd_815 wd_816 rfl (e_X8_begins hq1) ?_
  refine z_aload_n (pc2 := 7) rfl dX5_wades_6 rfl ?_
  refine z_aload_n (pc2 := 8) rfl dX5_wades_7 rfl ?_
  refine z_iload_n (pc2 := 9) rfl dX5_wades_8 rfl ?_
  obtain ⟨q2, hq2, h⟩ := ab_bnd h
  refine z_callUi RX5 RX2 yX2_wades 26 [.ref 21, .int a2] [some (.ref 26), some (.ref 21), some (.int a2)] (pc2 := 12) rfl rfl dX5_wades_9 ok_X2_wades ⟨fun _ => rfl, fun _ => Nat.le_of_ble_eq_true rfl⟩ rfl rv_26 wd_822 wd_809 wd_186 (Or.inl rfl) wd_807 (by decide) rfl (e_X2_wades_26 hq2) ?_
  refine z_iconst (pc2 := 13) rfl dX5_wades_12 lt_i_4 ?_
  refine z_isub (pc2 := 14) rfl dX5_wades_13 ?_
  exact z_iret dX5_wades_14 rfl rfl (fi_w h)
def f_X2_knows_26 (a2 : Int32) (σ : ab_F) : Option (Int32 × ab_F) := (f_X8_begins (11 : Int32) σ).bind (fun q1 => (f_X5_wades_26 a2 q1).bind (fun q2 => (some ((q2.1 * (2 : Int32)), q2.2))))
set_option maxRecDepth 100000 in
set_option maxHeartbeats 4000000 in
theorem e_X2_knows_26 {sc : Nat × (Nat → Int32)} {r : Option Nat × Option Nat} {a2 : Int32} {σ : ab_F} {res : (Int32 × ab_F)} (h : f_X2_knows_26 a2 σ = some res) : ab_E mX2_knows 3 sc 0 [some (.ref 26), some (.ref 21), some (.int a2)] [] (σ, r) (fun v S => v = some (.int res.1) ∧ S = (res.2, r)) := by
  unfold f_X2_knows_26 at h
  refine z_aload_n (pc2 := 1) rfl dX2_knows_0 rfl ?_
  refine z_bipush (pc2 := 3) rfl dX2_knows_1 lt_b_11 ?_
  obtain ⟨q1, hq1, h⟩ := ab_bnd h
  refine z_callVv 21 [.int (11 : Int32)] [some (.ref 21), some (.int (11 : Int32))] (pc2 := 6) rfl rfl dX2_knows_3 ok_X8_begins ⟨fun _ => rfl, fun _ => Nat.le_of_ble_eq_true rfl⟩ rfl rv_21 wd_831 wd_815 wd_816 rfl (e_X8_begins hq1) ?_
  refine z_aload_n (pc2 := 7) rfl dX2_knows_6 rfl ?_
  refine z_aload_n (pc2 := 8) rfl dX2_knows_7 rfl ?_
  refine z_iload_n (pc2 := 9) rfl dX2_knows_8 rfl ?_
  obtain ⟨q2, hq2, h⟩ := ab_bnd h
  refine z_callOi RX5 RX2 yX2_wades cX2_wades 3 (some .int) 26 [.ref 21, .int a2] [some (.ref 26), some (.ref 21), some (.int a2)] (pc2 := 12) rfl rfl dX2_knows_9 ok_X5_wades ⟨fun _ => rfl, fun _ => Nat.le_of_ble_eq_true rfl⟩ rfl rv_26 wd_854 wd_809 wd_807 wd_828 wd_819 wd_830 ⟨by decide, by decide, rfl⟩ rfl (e_X5_wades_26 hq2) ?_
  refine z_iconst (pc2 := 13) rfl dX2_knows_12 lt_i_2 ?_
  refine z_imul (pc2 := 14) rfl dX2_knows_13 ?_
  exact z_iret dX2_knows_14 rfl rfl (fi_w h)
def f_X2_sits_26 (a2 : Int32) (σ : ab_F) : Option (Int32 × ab_F) := (f_X8_begins (12 : Int32) σ).bind (fun q1 => (f_X2_knows_26 a2 q1).bind (fun q2 => (some ((q2.1 - (q2.2 21 1)), q2.2))))
set_option maxRecDepth 100000 in
set_option maxHeartbeats 4000000 in
theorem e_X2_sits_26 {sc : Nat × (Nat → Int32)} {r : Option Nat × Option Nat} {a2 : Int32} {σ : ab_F} {res : (Int32 × ab_F)} (h : f_X2_sits_26 a2 σ = some res) : ab_E mX2_sits 4 sc 0 [some (.ref 26), some (.ref 21), some (.int a2)] [] (σ, r) (fun v S => v = some (.int res.1) ∧ S = (res.2, r)) := by
  unfold f_X2_sits_26 at h
  refine z_aload_n (pc2 := 1) rfl dX2_sits_0 rfl ?_
  refine z_bipush (pc2 := 3) rfl dX2_sits_1 lt_b_12 ?_
  obtain ⟨q1, hq1, h⟩ := ab_bnd h
  refine z_callVv 21 [.int (12 : Int32)] [some (.ref 21), some (.int (12 : Int32))] (pc2 := 6) rfl rfl dX2_sits_3 ok_X8_begins ⟨fun _ => rfl, fun _ => Nat.le_of_ble_eq_true rfl⟩ rfl rv_21 wd_831 wd_815 wd_816 rfl (e_X8_begins hq1) ?_
  refine z_aload_n (pc2 := 7) rfl dX2_sits_6 rfl ?_
  refine z_aload_n (pc2 := 8) rfl dX2_sits_7 rfl ?_
  refine z_iload_n (pc2 := 9) rfl dX2_sits_8 rfl ?_
  obtain ⟨q2, hq2, h⟩ := ab_bnd h
  refine z_callOi RX5 RX2 yX2_knows cX2_knows 3 (some .int) 26 [.ref 21, .int a2] [some (.ref 26), some (.ref 21), some (.int a2)] (pc2 := 12) rfl rfl dX2_sits_9 ok_X2_knows ⟨fun _ => rfl, fun _ => Nat.le_of_ble_eq_true rfl⟩ rfl rv_26 wd_875 wd_835 wd_833 wd_851 wd_833 wd_853 ⟨by decide, by decide, rfl⟩ rfl (e_X2_knows_26 hq2) ?_
  refine z_aload_n (pc2 := 13) rfl dX2_sits_12 rfl ?_
  refine z_getI 21 8 1 (pc2 := 16) rfl dX2_sits_13 rfl rfl ff_8_1 wd_152 ?_
  refine z_isub (pc2 := 17) rfl dX2_sits_16 ?_
  exact z_iret dX2_sits_17 rfl rfl (fi_w h)
def f_X2_parts_26 (a2 : Int32) (σ : ab_F) : Option (Int32 × ab_F) := (f_X8_begins (13 : Int32) σ).bind (fun q1 => ab_lt (((q1 21 1) - (q1 21 0))) (fun x2 => (if x2 = 0 then ab_lt (ab_u q1 21 2 (1 : Int32)) (fun (s5 : ab_F) => (some ((0 : Int32), s5))) else ab_ck (ab_nz x2) ((some ((a2 / x2), q1))))))
set_option maxRecDepth 100000 in
set_option maxHeartbeats 4000000 in
theorem e_X2_parts_26 {sc : Nat × (Nat → Int32)} {r : Option Nat × Option Nat} {a2 : Int32} {σ : ab_F} {res : (Int32 × ab_F)} (h : f_X2_parts_26 a2 σ = some res) : ab_E mX2_parts 1 sc 0 [some (.ref 26), some (.ref 21), some (.int a2), none] [] (σ, r) (fun v S => v = some (.int res.1) ∧ S = (res.2, r)) := by
  unfold f_X2_parts_26 at h
  refine z_aload_n (pc2 := 1) rfl dX2_parts_0 rfl ?_
  refine z_bipush (pc2 := 3) rfl dX2_parts_1 lt_b_13 ?_
  obtain ⟨q1, hq1, h⟩ := ab_bnd h
  refine z_callVv 21 [.int (13 : Int32)] [some (.ref 21), some (.int (13 : Int32))] (pc2 := 6) rfl rfl dX2_parts_3 ok_X8_begins ⟨fun _ => rfl, fun _ => Nat.le_of_ble_eq_true rfl⟩ rfl rv_21 wd_831 wd_815 wd_816 rfl (e_X8_begins hq1) ?_
  refine z_aload_n (pc2 := 7) rfl dX2_parts_6 rfl ?_
  refine z_getI 21 8 1 (pc2 := 10) rfl dX2_parts_7 rfl rfl ff_8_1 wd_152 ?_
  refine z_aload_n (pc2 := 11) rfl dX2_parts_10 rfl ?_
  refine z_getI 21 8 0 (pc2 := 14) rfl dX2_parts_11 rfl rfl ff_8_0 wd_148 ?_
  refine z_isub (pc2 := 15) rfl dX2_parts_14 ?_
  obtain ⟨x2, hxx2, h⟩ := ab_lt_e h
  refine z_top hxx2 ?_
  refine z_istore_n (pc2 := 16) (L2 := [some (.ref 26), some (.ref 21), some (.int a2), some (.int x2)]) rfl dX2_parts_15 (by decide) rfl rfl ?_
  refine z_iload_n (pc2 := 17) rfl dX2_parts_16 rfl ?_
  refine z_if_ne (pc2 := 20) (tgt := 27) rfl dX2_parts_17 (by decide) (fun hc3 => ?_) (fun hc3 => ?_)
  · replace h := ab_neg hc3 h
    refine z_iload_n (pc2 := 28) rfl dX2_parts_27 rfl ?_
    refine z_iload_n (pc2 := 29) rfl dX2_parts_28 rfl ?_
    obtain ⟨hb4, h⟩ := ab_ck_e h
    refine z_idiv (pc2 := 30) rfl dX2_parts_29 (ab_nz_e hb4) ?_
    exact z_iret dX2_parts_30 rfl rfl (fi_w h)
  · replace h := ab_pos hc3 h
    refine z_aload_n (pc2 := 21) rfl dX2_parts_20 rfl ?_
    refine z_iconst (pc2 := 22) rfl dX2_parts_21 lt_i_1 ?_
    refine z_putI 21 8 2 (pc2 := 25) (ft := .boolean) rfl dX2_parts_22 rfl rfl ff_8_2 wd_155 rfl (by decide +kernel) rfl rfl ?_
    obtain ⟨s5, hs5, h⟩ := ab_lt_e h
    refine z_tops hs5 ?_
    refine z_iconst (pc2 := 26) rfl dX2_parts_25 lt_i_0 ?_
    exact z_iret dX2_parts_26 rfl rfl (fi_w h)
def f_X5_parts_26 (a2 : Int32) (σ : ab_F) : Option (Int32 × ab_F) := (f_X8_begins (21 : Int32) σ).bind (fun q1 => (f_X2_parts_26 a2 q1).bind (fun q2 => ab_lt (q2.1) (fun x3 => (if (q2.2 21 2) = 0 then (f_X2_knows_26 (1 : Int32) q2.2).bind (fun q5 => (some ((x3 + q5.1), q5.2))) else (some ((0 : Int32), q2.2))))))
