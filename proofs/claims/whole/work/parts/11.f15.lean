def f_X11_body (a1 : Int32) (σ : ab_F) : Option (Int32 × ab_F) := (f_X11_outside a1 ((σ 21 4) - (1 : Int32)) σ).bind (fun q1 => (if (ab_b q1) = 0 then ab_ck (ab_ib a1 30) ((some ((σ 22 (a1).toNatClampNeg), σ))) else (f_X11_refuse (2 : Int32) σ).bind (fun q4 => (some (q4.1, q4.2)))))
set_option maxRecDepth 100000 in
set_option maxHeartbeats 4000000 in
theorem e_X11_body {sc : Nat × (Nat → Int32)} {r : Option Nat × Option Nat} {a1 : Int32} {σ : ab_F} {res : (Int32 × ab_F)} (h : f_X11_body a1 σ = some res) : ab_E mX11_body 1 sc 0 [some (.ref 8), some (.int a1)] [] (σ, r) (fun v S => v = some (.int res.1) ∧ S = (res.2, r)) := by
  unfold f_X11_body at h
  refine z_iload_n (pc2 := 1) rfl dX11_body_0 rfl ?_
  refine z_aload_n (pc2 := 2) rfl dX11_body_1 rfl ?_
  refine z_getR 8 11 9 21 (pc2 := 5) rfl dX11_body_2 rfl rfl ff_11_9 wd_311 rfl ?_
  refine z_getI 21 8 4 (pc2 := 8) rfl dX11_body_5 rfl rfl ff_8_4 wd_160 ?_
  refine z_iconst (pc2 := 9) rfl dX11_body_8 lt_i_1 ?_
  refine z_isub (pc2 := 10) rfl dX11_body_9 ?_
  obtain ⟨q1, hq1, h⟩ := ab_bnd h
  refine z_callSi [.int a1, .int ((σ 21 4) - (1 : Int32))] [some (.int a1), some (.int ((σ 21 4) - (1 : Int32)))] (pc2 := 13) rfl rfl dX11_body_10 ok_X11_outside ⟨fun _ => rfl, fun _ => Nat.le_of_ble_eq_true rfl⟩ rfl wd_343 wd_344 rfl (e_X11_outside hq1) ?_
  refine z_if_eq (pc2 := 16) (tgt := 24) rfl dX11_body_13 (by decide) (fun hc2 => ?_) (fun hc2 => ?_)
  · replace h := ab_pos hc2 h
    refine z_aload_n (pc2 := 25) rfl dX11_body_24 rfl ?_
    refine z_getR 8 11 9 21 (pc2 := 28) rfl dX11_body_25 rfl rfl ff_11_9 wd_311 rfl ?_
    refine z_getR 21 8 3 22 (pc2 := 31) rfl dX11_body_28 rfl rfl ff_8_3 wd_158 rfl ?_
    refine z_iload_n (pc2 := 32) rfl dX11_body_31 rfl ?_
    obtain ⟨hb3, h⟩ := ab_ck_e h
    refine z_iald 22 (pc2 := 33) (j := (a1).toNatClampNeg) rfl dX11_body_32 rfl rfl hb3 rfl ?_
    exact z_iret dX11_body_33 rfl rfl (fi_w h)
  · replace h := ab_neg hc2 h
    refine z_aload_n (pc2 := 17) rfl dX11_body_16 rfl ?_
    refine z_iconst (pc2 := 18) rfl dX11_body_17 lt_i_2 ?_
    obtain ⟨q4, hq4, h⟩ := ab_bnd h
    refine z_callVi 8 [.int (2 : Int32)] [some (.ref 8), some (.int (2 : Int32))] (pc2 := 21) rfl rfl dX11_body_18 ok_X11_refuse ⟨fun _ => rfl, fun _ => Nat.le_of_ble_eq_true rfl⟩ rfl rv_8 wd_346 wd_348 wd_0 rfl (e_X11_refuse hq4) ?_
    refine ab_goto (tgt := 33) dX11_body_21 (by decide) ?_
    exact z_iret dX11_body_33 rfl rfl (fi_w h)
def f_X6_clear_L12 (q : Nat) (K : ab_F → Option ab_F) : Nat → Int32 → ab_F → Option ab_F
  | 0, _, _ => none
  | n + 1, u3, σ => (if (24 : Int32) ≤ u3 then (K σ) else ab_ck (ab_ib u3 24) (ab_lt (ab_u σ (q + 1) (u3).toNatClampNeg (0 : Int32)) (fun (s5 : ab_F) => ab_lt (u3 + (1 : Int32)) (fun x6 => (f_X6_clear_L12 q K n x6 s5)))))
set_option maxRecDepth 100000 in
set_option maxHeartbeats 4000000 in
theorem e_X6_clear_77_L12 {sc : Nat × (Nat → Int32)} {r : Option Nat × Option Nat} {K : ab_F → Option ab_F} {res : ab_F} (hK : ∀ (σ : ab_F), K σ = some res → ab_E mX6_clear 0 sc 34 [none, none, none, none] [] (σ, r) (fun v S => v = none ∧ S = (res, r))) : ∀ (n : Nat) (u3 : Int32) (σ : ab_F), f_X6_clear_L12 77 K n u3 σ = some res → ab_E mX6_clear 0 sc 12 [some (.ref 77), none, none, some (.int u3)] [] (σ, r) (fun v S => v = none ∧ S = (res, r)) := by
  intro n
  induction n with
  | zero =>
    intro u3 σ h
    rw [f_X6_clear_L12] at h
    cases h
  | succ n ih =>
    intro u3 σ h
    rw [f_X6_clear_L12] at h
    refine z_iload_n (pc2 := 13) rfl dX6_clear_12 rfl ?_
    refine z_aload_n (pc2 := 14) rfl dX6_clear_13 rfl ?_
    refine z_getR 77 6 0 78 (pc2 := 17) rfl dX6_clear_14 rfl rfl ff_6_0 wd_97 rfl ?_
    refine z_alen 78 (pc2 := 18) (v := 24) rfl dX6_clear_17 rfl rfl (by decide) ?_
    refine z_icmp_ge (pc2 := 21) (tgt := 34) rfl dX6_clear_18 (by decide) (fun hc3 => ?_) (fun hc3 => ?_)
    · replace h := ab_pos hc3 h
      refine z_fgt [false, false, false, false] (L2 := [none, none, none, none]) rfl ?_
      exact hK  _ h
    · replace h := ab_neg hc3 h
      refine z_aload_n (pc2 := 22) rfl dX6_clear_21 rfl ?_
      refine z_getR 77 6 0 78 (pc2 := 25) rfl dX6_clear_22 rfl rfl ff_6_0 wd_97 rfl ?_
      refine z_iload_n (pc2 := 26) rfl dX6_clear_25 rfl ?_
      refine z_iconst (pc2 := 27) rfl dX6_clear_26 lt_i_0 ?_
      obtain ⟨hb4, h⟩ := ab_ck_e h
      refine z_iast 78 (pc2 := 28) (j := (u3).toNatClampNeg) rfl dX6_clear_27 rfl rfl hb4 rfl ?_
      obtain ⟨s5, hs5, h⟩ := ab_lt_e h
      refine z_tops hs5 ?_
      obtain ⟨x6, hxx6, h⟩ := ab_lt_e h
      refine z_iinc (pc2 := 31) (v := x6) (L2 := [some (.ref 77), none, none, some (.int x6)]) rfl dX6_clear_28 rfl (by rw [hxx6]; rfl) (by decide) rfl rfl ?_
      refine ab_goto (tgt := 12) dX6_clear_31 (by decide) ?_
      refine z_fgt [true, false, false, true] (L2 := [some (.ref 77), none, none, some (.int x6)]) rfl ?_
      exact ih _ _ h
def f_X6_clear (q : Nat) (a1 : Int32) (a2 : Int32) (σ : ab_F) : Option ab_F := ab_lt (ab_u σ q 2 a1) (fun (s1 : ab_F) => ab_lt (ab_u s1 q 1 a2) (fun (s2 : ab_F) => (f_X6_clear_L12 q (fun (s7 : ab_F) => (some s7)) ab_fu (0 : Int32) s2)))
set_option maxRecDepth 100000 in
set_option maxHeartbeats 4000000 in
theorem e_X6_clear_77 {sc : Nat × (Nat → Int32)} {r : Option Nat × Option Nat} {a1 : Int32} {a2 : Int32} {σ : ab_F} {res : ab_F} (h : f_X6_clear 77 a1 a2 σ = some res) : ab_E mX6_clear 0 sc 0 [some (.ref 77), some (.int a1), some (.int a2), none] [] (σ, r) (fun v S => v = none ∧ S = (res, r)) := by
  unfold f_X6_clear at h
  refine z_aload_n (pc2 := 1) rfl dX6_clear_0 rfl ?_
  refine z_iload_n (pc2 := 2) rfl dX6_clear_1 rfl ?_
  refine z_putI 77 6 2 (pc2 := 5) (ft := .int) rfl dX6_clear_2 rfl rfl ff_6_2 wd_103 rfl (by decide +kernel) rfl rfl ?_
  obtain ⟨s1, hs1, h⟩ := ab_lt_e h
  refine z_tops hs1 ?_
  refine z_aload_n (pc2 := 6) rfl dX6_clear_5 rfl ?_
  refine z_iload_n (pc2 := 7) rfl dX6_clear_6 rfl ?_
  refine z_putI 77 6 1 (pc2 := 10) (ft := .int) rfl dX6_clear_7 rfl rfl ff_6_1 wd_100 rfl (by decide +kernel) rfl rfl ?_
  obtain ⟨s2, hs2, h⟩ := ab_lt_e h
  refine z_tops hs2 ?_
  refine z_iconst (pc2 := 11) rfl dX6_clear_10 lt_i_0 ?_
  refine z_istore_n (pc2 := 12) (L2 := [some (.ref 77), some (.int a1), some (.int a2), some (.int (0 : Int32))]) rfl dX6_clear_11 (by decide) rfl rfl ?_
  refine z_fgt [true, false, false, true] (L2 := [some (.ref 77), none, none, some (.int (0 : Int32))]) rfl ?_
  refine e_X6_clear_77_L12 (fun s7 h => ?_) _ _ _ h
  exact z_vret dX6_clear_34 rfl (fv_w h)
set_option maxRecDepth 100000 in
set_option maxHeartbeats 4000000 in
theorem e_X6_clear_79_L12 {sc : Nat × (Nat → Int32)} {r : Option Nat × Option Nat} {K : ab_F → Option ab_F} {res : ab_F} (hK : ∀ (σ : ab_F), K σ = some res → ab_E mX6_clear 0 sc 34 [none, none, none, none] [] (σ, r) (fun v S => v = none ∧ S = (res, r))) : ∀ (n : Nat) (u3 : Int32) (σ : ab_F), f_X6_clear_L12 79 K n u3 σ = some res → ab_E mX6_clear 0 sc 12 [some (.ref 79), none, none, some (.int u3)] [] (σ, r) (fun v S => v = none ∧ S = (res, r)) := by
  intro n
  induction n with
  | zero =>
    intro u3 σ h
    rw [f_X6_clear_L12] at h
    cases h
  | succ n ih =>
    intro u3 σ h
    rw [f_X6_clear_L12] at h
    refine z_iload_n (pc2 := 13) rfl dX6_clear_12 rfl ?_
    refine z_aload_n (pc2 := 14) rfl dX6_clear_13 rfl ?_
    refine z_getR 79 6 0 80 (pc2 := 17) rfl dX6_clear_14 rfl rfl ff_6_0 wd_97 rfl ?_
    refine z_alen 80 (pc2 := 18) (v := 24) rfl dX6_clear_17 rfl rfl (by decide) ?_
    refine z_icmp_ge (pc2 := 21) (tgt := 34) rfl dX6_clear_18 (by decide) (fun hc3 => ?_) (fun hc3 => ?_)
    · replace h := ab_pos hc3 h
      refine z_fgt [false, false, false, false] (L2 := [none, none, none, none]) rfl ?_
      exact hK  _ h
    · replace h := ab_neg hc3 h
      refine z_aload_n (pc2 := 22) rfl dX6_clear_21 rfl ?_
      refine z_getR 79 6 0 80 (pc2 := 25) rfl dX6_clear_22 rfl rfl ff_6_0 wd_97 rfl ?_
      refine z_iload_n (pc2 := 26) rfl dX6_clear_25 rfl ?_
      refine z_iconst (pc2 := 27) rfl dX6_clear_26 lt_i_0 ?_
      obtain ⟨hb4, h⟩ := ab_ck_e h
      refine z_iast 80 (pc2 := 28) (j := (u3).toNatClampNeg) rfl dX6_clear_27 rfl rfl hb4 rfl ?_
      obtain ⟨s5, hs5, h⟩ := ab_lt_e h
      refine z_tops hs5 ?_
      obtain ⟨x6, hxx6, h⟩ := ab_lt_e h
      refine z_iinc (pc2 := 31) (v := x6) (L2 := [some (.ref 79), none, none, some (.int x6)]) rfl dX6_clear_28 rfl (by rw [hxx6]; rfl) (by decide) rfl rfl ?_
      refine ab_goto (tgt := 12) dX6_clear_31 (by decide) ?_
      refine z_fgt [true, false, false, true] (L2 := [some (.ref 79), none, none, some (.int x6)]) rfl ?_
      exact ih _ _ h
set_option maxRecDepth 100000 in
set_option maxHeartbeats 4000000 in
theorem e_X6_clear_79 {sc : Nat × (Nat → Int32)} {r : Option Nat × Option Nat} {a1 : Int32} {a2 : Int32} {σ : ab_F} {res : ab_F} (h : f_X6_clear 79 a1 a2 σ = some res) : ab_E mX6_clear 0 sc 0 [some (.ref 79), some (.int a1), some (.int a2), none] [] (σ, r) (fun v S => v = none ∧ S = (res, r)) := by
  unfold f_X6_clear at h
  refine z_aload_n (pc2 := 1) rfl dX6_clear_0 rfl ?_
  refine z_iload_n (pc2 := 2) rfl dX6_clear_1 rfl ?_
  refine z_putI 79 6 2 (pc2 := 5) (ft := .int) rfl dX6_clear_2 rfl rfl ff_6_2 wd_103 rfl (by decide +kernel) rfl rfl ?_
  obtain ⟨s1, hs1, h⟩ := ab_lt_e h
  refine z_tops hs1 ?_
  refine z_aload_n (pc2 := 6) rfl dX6_clear_5 rfl ?_
  refine z_iload_n (pc2 := 7) rfl dX6_clear_6 rfl ?_
  refine z_putI 79 6 1 (pc2 := 10) (ft := .int) rfl dX6_clear_7 rfl rfl ff_6_1 wd_100 rfl (by decide +kernel) rfl rfl ?_
  obtain ⟨s2, hs2, h⟩ := ab_lt_e h
  refine z_tops hs2 ?_
  refine z_iconst (pc2 := 11) rfl dX6_clear_10 lt_i_0 ?_
  refine z_istore_n (pc2 := 12) (L2 := [some (.ref 79), some (.int a1), some (.int a2), some (.int (0 : Int32))]) rfl dX6_clear_11 (by decide) rfl rfl ?_
  refine z_fgt [true, false, false, true] (L2 := [some (.ref 79), none, none, some (.int (0 : Int32))]) rfl ?_
  refine e_X6_clear_79_L12 (fun s7 h => ?_) _ _ _ h
  exact z_vret dX6_clear_34 rfl (fv_w h)
set_option maxRecDepth 100000 in
set_option maxHeartbeats 4000000 in
theorem e_X6_clear_81_L12 {sc : Nat × (Nat → Int32)} {r : Option Nat × Option Nat} {K : ab_F → Option ab_F} {res : ab_F} (hK : ∀ (σ : ab_F), K σ = some res → ab_E mX6_clear 0 sc 34 [none, none, none, none] [] (σ, r) (fun v S => v = none ∧ S = (res, r))) : ∀ (n : Nat) (u3 : Int32) (σ : ab_F), f_X6_clear_L12 81 K n u3 σ = some res → ab_E mX6_clear 0 sc 12 [some (.ref 81), none, none, some (.int u3)] [] (σ, r) (fun v S => v = none ∧ S = (res, r)) := by
  intro n
  induction n with
  | zero =>
    intro u3 σ h
    rw [f_X6_clear_L12] at h
    cases h
  | succ n ih =>
    intro u3 σ h
    rw [f_X6_clear_L12] at h
    refine z_iload_n (pc2 := 13) rfl dX6_clear_12 rfl ?_
    refine z_aload_n (pc2 := 14) rfl dX6_clear_13 rfl ?_
    refine z_getR 81 6 0 82 (pc2 := 17) rfl dX6_clear_14 rfl rfl ff_6_0 wd_97 rfl ?_
    refine z_alen 82 (pc2 := 18) (v := 24) rfl dX6_clear_17 rfl rfl (by decide) ?_
    refine z_icmp_ge (pc2 := 21) (tgt := 34) rfl dX6_clear_18 (by decide) (fun hc3 => ?_) (fun hc3 => ?_)
    · replace h := ab_pos hc3 h
      refine z_fgt [false, false, false, false] (L2 := [none, none, none, none]) rfl ?_
      exact hK  _ h
    · replace h := ab_neg hc3 h
      refine z_aload_n (pc2 := 22) rfl dX6_clear_21 rfl ?_
      refine z_getR 81 6 0 82 (pc2 := 25) rfl dX6_clear_22 rfl rfl ff_6_0 wd_97 rfl ?_
      refine z_iload_n (pc2 := 26) rfl dX6_clear_25 rfl ?_
      refine z_iconst (pc2 := 27) rfl dX6_clear_26 lt_i_0 ?_
      obtain ⟨hb4, h⟩ := ab_ck_e h
      refine z_iast 82 (pc2 := 28) (j := (u3).toNatClampNeg) rfl dX6_clear_27 rfl rfl hb4 rfl ?_
      obtain ⟨s5, hs5, h⟩ := ab_lt_e h
      refine z_tops hs5 ?_
      obtain ⟨x6, hxx6, h⟩ := ab_lt_e h
      refine z_iinc (pc2 := 31) (v := x6) (L2 := [some (.ref 81), none, none, some (.int x6)]) rfl dX6_clear_28 rfl (by rw [hxx6]; rfl) (by decide) rfl rfl ?_
      refine ab_goto (tgt := 12) dX6_clear_31 (by decide) ?_
      refine z_fgt [true, false, false, true] (L2 := [some (.ref 81), none, none, some (.int x6)]) rfl ?_
      exact ih _ _ h
set_option maxRecDepth 100000 in
set_option maxHeartbeats 4000000 in
theorem e_X6_clear_81 {sc : Nat × (Nat → Int32)} {r : Option Nat × Option Nat} {a1 : Int32} {a2 : Int32} {σ : ab_F} {res : ab_F} (h : f_X6_clear 81 a1 a2 σ = some res) : ab_E mX6_clear 0 sc 0 [some (.ref 81), some (.int a1), some (.int a2), none] [] (σ, r) (fun v S => v = none ∧ S = (res, r)) := by
  unfold f_X6_clear at h
  refine z_aload_n (pc2 := 1) rfl dX6_clear_0 rfl ?_
  refine z_iload_n (pc2 := 2) rfl dX6_clear_1 rfl ?_
  refine z_putI 81 6 2 (pc2 := 5) (ft := .int) rfl dX6_clear_2 rfl rfl ff_6_2 wd_103 rfl (by decide +kernel) rfl rfl ?_
  obtain ⟨s1, hs1, h⟩ := ab_lt_e h
  refine z_tops hs1 ?_
  refine z_aload_n (pc2 := 6) rfl dX6_clear_5 rfl ?_
  refine z_iload_n (pc2 := 7) rfl dX6_clear_6 rfl ?_
  refine z_putI 81 6 1 (pc2 := 10) (ft := .int) rfl dX6_clear_7 rfl rfl ff_6_1 wd_100 rfl (by decide +kernel) rfl rfl ?_
  obtain ⟨s2, hs2, h⟩ := ab_lt_e h
  refine z_tops hs2 ?_
  refine z_iconst (pc2 := 11) rfl dX6_clear_10 lt_i_0 ?_
  refine z_istore_n (pc2 := 12) (L2 := [some (.ref 81), some (.int a1), some (.int a2), some (.int (0 : Int32))]) rfl dX6_clear_11 (by decide) rfl rfl ?_
  refine z_fgt [true, false, false, true] (L2 := [some (.ref 81), none, none, some (.int (0 : Int32))]) rfl ?_
  refine e_X6_clear_81_L12 (fun s7 h => ?_) _ _ _ h
  exact z_vret dX6_clear_34 rfl (fv_w h)
set_option maxRecDepth 100000 in
set_option maxHeartbeats 4000000 in
theorem e_X6_clear_83_L12 {sc : Nat × (Nat → Int32)} {r : Option Nat × Option Nat} {K : ab_F → Option ab_F} {res : ab_F} (hK : ∀ (σ : ab_F), K σ = some res → ab_E mX6_clear 0 sc 34 [none, none, none, none] [] (σ, r) (fun v S => v = none ∧ S = (res, r))) : ∀ (n : Nat) (u3 : Int32) (σ : ab_F), f_X6_clear_L12 83 K n u3 σ = some res → ab_E mX6_clear 0 sc 12 [some (.ref 83), none, none, some (.int u3)] [] (σ, r) (fun v S => v = none ∧ S = (res, r)) := by
  intro n
  induction n with
  | zero =>
    intro u3 σ h
    rw [f_X6_clear_L12] at h
    cases h
  | succ n ih =>
    intro u3 σ h
    rw [f_X6_clear_L12] at h
    refine z_iload_n (pc2 := 13) rfl dX6_clear_12 rfl ?_
    refine z_aload_n (pc2 := 14) rfl dX6_clear_13 rfl ?_
    refine z_getR 83 6 0 84 (pc2 := 17) rfl dX6_clear_14 rfl rfl ff_6_0 wd_97 rfl ?_
    refine z_alen 84 (pc2 := 18) (v := 24) rfl dX6_clear_17 rfl rfl (by decide) ?_
    refine z_icmp_ge (pc2 := 21) (tgt := 34) rfl dX6_clear_18 (by decide) (fun hc3 => ?_) (fun hc3 => ?_)
    · replace h := ab_pos hc3 h
      refine z_fgt [false, false, false, false] (L2 := [none, none, none, none]) rfl ?_
      exact hK  _ h
    · replace h := ab_neg hc3 h
      refine z_aload_n (pc2 := 22) rfl dX6_clear_21 rfl ?_
      refine z_getR 83 6 0 84 (pc2 := 25) rfl dX6_clear_22 rfl rfl ff_6_0 wd_97 rfl ?_
      refine z_iload_n (pc2 := 26) rfl dX6_clear_25 rfl ?_
      refine z_iconst (pc2 := 27) rfl dX6_clear_26 lt_i_0 ?_
      obtain ⟨hb4, h⟩ := ab_ck_e h
      refine z_iast 84 (pc2 := 28) (j := (u3).toNatClampNeg) rfl dX6_clear_27 rfl rfl hb4 rfl ?_
      obtain ⟨s5, hs5, h⟩ := ab_lt_e h
      refine z_tops hs5 ?_
      obtain ⟨x6, hxx6, h⟩ := ab_lt_e h
      refine z_iinc (pc2 := 31) (v := x6) (L2 := [some (.ref 83), none, none, some (.int x6)]) rfl dX6_clear_28 rfl (by rw [hxx6]; rfl) (by decide) rfl rfl ?_
      refine ab_goto (tgt := 12) dX6_clear_31 (by decide) ?_
      refine z_fgt [true, false, false, true] (L2 := [some (.ref 83), none, none, some (.int x6)]) rfl ?_
      exact ih _ _ h
set_option maxRecDepth 100000 in
set_option maxHeartbeats 4000000 in
theorem e_X6_clear_83 {sc : Nat × (Nat → Int32)} {r : Option Nat × Option Nat} {a1 : Int32} {a2 : Int32} {σ : ab_F} {res : ab_F} (h : f_X6_clear 83 a1 a2 σ = some res) : ab_E mX6_clear 0 sc 0 [some (.ref 83), some (.int a1), some (.int a2), none] [] (σ, r) (fun v S => v = none ∧ S = (res, r)) := by
  unfold f_X6_clear at h
  refine z_aload_n (pc2 := 1) rfl dX6_clear_0 rfl ?_
  refine z_iload_n (pc2 := 2) rfl dX6_clear_1 rfl ?_
  refine z_putI 83 6 2 (pc2 := 5) (ft := .int) rfl dX6_clear_2 rfl rfl ff_6_2 wd_103 rfl (by decide +kernel) rfl rfl ?_
  obtain ⟨s1, hs1, h⟩ := ab_lt_e h
  refine z_tops hs1 ?_
  refine z_aload_n (pc2 := 6) rfl dX6_clear_5 rfl ?_
  refine z_iload_n (pc2 := 7) rfl dX6_clear_6 rfl ?_
  refine z_putI 83 6 1 (pc2 := 10) (ft := .int) rfl dX6_clear_7 rfl rfl ff_6_1 wd_100 rfl (by decide +kernel) rfl rfl ?_
  obtain ⟨s2, hs2, h⟩ := ab_lt_e h
  refine z_tops hs2 ?_
  refine z_iconst (pc2 := 11) rfl dX6_clear_10 lt_i_0 ?_
  refine z_istore_n (pc2 := 12) (L2 := [some (.ref 83), some (.int a1), some (.int a2), some (.int (0 : Int32))]) rfl dX6_clear_11 (by decide) rfl rfl ?_
  refine z_fgt [true, false, false, true] (L2 := [some (.ref 83), none, none, some (.int (0 : Int32))]) rfl ?_
  refine e_X6_clear_83_L12 (fun s7 h => ?_) _ _ _ h
  exact z_vret dX6_clear_34 rfl (fv_w h)
def f_X11_sheet (a1 : Int32) (a2 : Int32) (a3 : Int32) (σ : ab_F) : Option (Int32 × ab_F) := (f_X11_outside a1 (3 : Int32) σ).bind (fun q1 => (if (ab_b q1) = 0 then (if a2 = 0 then (if a2 = 0 then (if a2 = 0 then (if a1 = (0 : Int32) then (if a2 = 0 then (f_X6_clear 77 a2 (0 : Int32) σ).bind (fun q9 => (some ((1 : Int32), q9))) else (f_X6_clear 77 a2 a3 σ).bind (fun q8 => (some ((1 : Int32), q8)))) else if a1 = (1 : Int32) then (if a2 = 0 then (f_X6_clear 79 a2 (0 : Int32) σ).bind (fun q13 => (some ((1 : Int32), q13))) else (f_X6_clear 79 a2 a3 σ).bind (fun q12 => (some ((1 : Int32), q12)))) else if a1 = (2 : Int32) then (if a2 = 0 then (f_X6_clear 81 a2 (0 : Int32) σ).bind (fun q17 => (some ((1 : Int32), q17))) else (f_X6_clear 81 a2 a3 σ).bind (fun q16 => (some ((1 : Int32), q16)))) else if a1 = (3 : Int32) then (if a2 = 0 then (f_X6_clear 83 a2 (0 : Int32) σ).bind (fun q21 => (some ((1 : Int32), q21))) else (f_X6_clear 83 a2 a3 σ).bind (fun q20 => (some ((1 : Int32), q20)))) else none) else (if a3 ≤ (24 : Int32) then (if a1 = (0 : Int32) then (if a2 = 0 then (f_X6_clear 77 a2 (0 : Int32) σ).bind (fun q26 => (some ((1 : Int32), q26))) else (f_X6_clear 77 a2 a3 σ).bind (fun q25 => (some ((1 : Int32), q25)))) else if a1 = (1 : Int32) then (if a2 = 0 then (f_X6_clear 79 a2 (0 : Int32) σ).bind (fun q30 => (some ((1 : Int32), q30))) else (f_X6_clear 79 a2 a3 σ).bind (fun q29 => (some ((1 : Int32), q29)))) else if a1 = (2 : Int32) then (if a2 = 0 then (f_X6_clear 81 a2 (0 : Int32) σ).bind (fun q34 => (some ((1 : Int32), q34))) else (f_X6_clear 81 a2 a3 σ).bind (fun q33 => (some ((1 : Int32), q33)))) else if a1 = (3 : Int32) then (if a2 = 0 then (f_X6_clear 83 a2 (0 : Int32) σ).bind (fun q38 => (some ((1 : Int32), q38))) else (f_X6_clear 83 a2 a3 σ).bind (fun q37 => (some ((1 : Int32), q37)))) else none) else (f_X11_refuse (1 : Int32) σ).bind (fun q40 => (some (q40.1, q40.2))))) else (if 0 ≤ a3 then (if a2 = 0 then (if a1 = (0 : Int32) then (if a2 = 0 then (f_X6_clear 77 a2 (0 : Int32) σ).bind (fun q45 => (some ((1 : Int32), q45))) else (f_X6_clear 77 a2 a3 σ).bind (fun q44 => (some ((1 : Int32), q44)))) else if a1 = (1 : Int32) then (if a2 = 0 then (f_X6_clear 79 a2 (0 : Int32) σ).bind (fun q49 => (some ((1 : Int32), q49))) else (f_X6_clear 79 a2 a3 σ).bind (fun q48 => (some ((1 : Int32), q48)))) else if a1 = (2 : Int32) then (if a2 = 0 then (f_X6_clear 81 a2 (0 : Int32) σ).bind (fun q53 => (some ((1 : Int32), q53))) else (f_X6_clear 81 a2 a3 σ).bind (fun q52 => (some ((1 : Int32), q52)))) else if a1 = (3 : Int32) then (if a2 = 0 then (f_X6_clear 83 a2 (0 : Int32) σ).bind (fun q57 => (some ((1 : Int32), q57))) else (f_X6_clear 83 a2 a3 σ).bind (fun q56 => (some ((1 : Int32), q56)))) else none) else (if a3 ≤ (24 : Int32) then (if a1 = (0 : Int32) then (if a2 = 0 then (f_X6_clear 77 a2 (0 : Int32) σ).bind (fun q62 => (some ((1 : Int32), q62))) else (f_X6_clear 77 a2 a3 σ).bind (fun q61 => (some ((1 : Int32), q61)))) else if a1 = (1 : Int32) then (if a2 = 0 then (f_X6_clear 79 a2 (0 : Int32) σ).bind (fun q66 => (some ((1 : Int32), q66))) else (f_X6_clear 79 a2 a3 σ).bind (fun q65 => (some ((1 : Int32), q65)))) else if a1 = (2 : Int32) then (if a2 = 0 then (f_X6_clear 81 a2 (0 : Int32) σ).bind (fun q70 => (some ((1 : Int32), q70))) else (f_X6_clear 81 a2 a3 σ).bind (fun q69 => (some ((1 : Int32), q69)))) else if a1 = (3 : Int32) then (if a2 = 0 then (f_X6_clear 83 a2 (0 : Int32) σ).bind (fun q74 => (some ((1 : Int32), q74))) else (f_X6_clear 83 a2 a3 σ).bind (fun q73 => (some ((1 : Int32), q73)))) else none) else (f_X11_refuse (1 : Int32) σ).bind (fun q76 => (some (q76.1, q76.2))))) else (f_X11_refuse (3 : Int32) σ).bind (fun q77 => (some (q77.1, q77.2))))) else (if a2 = (8 : Int32) then (if a2 = 0 then (if a2 = 0 then (if a1 = (0 : Int32) then (if a2 = 0 then (f_X6_clear 77 a2 (0 : Int32) σ).bind (fun q83 => (some ((1 : Int32), q83))) else (f_X6_clear 77 a2 a3 σ).bind (fun q82 => (some ((1 : Int32), q82)))) else if a1 = (1 : Int32) then (if a2 = 0 then (f_X6_clear 79 a2 (0 : Int32) σ).bind (fun q87 => (some ((1 : Int32), q87))) else (f_X6_clear 79 a2 a3 σ).bind (fun q86 => (some ((1 : Int32), q86)))) else if a1 = (2 : Int32) then (if a2 = 0 then (f_X6_clear 81 a2 (0 : Int32) σ).bind (fun q91 => (some ((1 : Int32), q91))) else (f_X6_clear 81 a2 a3 σ).bind (fun q90 => (some ((1 : Int32), q90)))) else if a1 = (3 : Int32) then (if a2 = 0 then (f_X6_clear 83 a2 (0 : Int32) σ).bind (fun q95 => (some ((1 : Int32), q95))) else (f_X6_clear 83 a2 a3 σ).bind (fun q94 => (some ((1 : Int32), q94)))) else none) else (if a3 ≤ (24 : Int32) then (if a1 = (0 : Int32) then (if a2 = 0 then (f_X6_clear 77 a2 (0 : Int32) σ).bind (fun q100 => (some ((1 : Int32), q100))) else (f_X6_clear 77 a2 a3 σ).bind (fun q99 => (some ((1 : Int32), q99)))) else if a1 = (1 : Int32) then (if a2 = 0 then (f_X6_clear 79 a2 (0 : Int32) σ).bind (fun q104 => (some ((1 : Int32), q104))) else (f_X6_clear 79 a2 a3 σ).bind (fun q103 => (some ((1 : Int32), q103)))) else if a1 = (2 : Int32) then (if a2 = 0 then (f_X6_clear 81 a2 (0 : Int32) σ).bind (fun q108 => (some ((1 : Int32), q108))) else (f_X6_clear 81 a2 a3 σ).bind (fun q107 => (some ((1 : Int32), q107)))) else if a1 = (3 : Int32) then (if a2 = 0 then (f_X6_clear 83 a2 (0 : Int32) σ).bind (fun q112 => (some ((1 : Int32), q112))) else (f_X6_clear 83 a2 a3 σ).bind (fun q111 => (some ((1 : Int32), q111)))) else none) else (f_X11_refuse (1 : Int32) σ).bind (fun q114 => (some (q114.1, q114.2))))) else (if 0 ≤ a3 then (if a2 = 0 then (if a1 = (0 : Int32) then (if a2 = 0 then (f_X6_clear 77 a2 (0 : Int32) σ).bind (fun q119 => (some ((1 : Int32), q119))) else (f_X6_clear 77 a2 a3 σ).bind (fun q118 => (some ((1 : Int32), q118)))) else if a1 = (1 : Int32) then (if a2 = 0 then (f_X6_clear 79 a2 (0 : Int32) σ).bind (fun q123 => (some ((1 : Int32), q123))) else (f_X6_clear 79 a2 a3 σ).bind (fun q122 => (some ((1 : Int32), q122)))) else if a1 = (2 : Int32) then (if a2 = 0 then (f_X6_clear 81 a2 (0 : Int32) σ).bind (fun q127 => (some ((1 : Int32), q127))) else (f_X6_clear 81 a2 a3 σ).bind (fun q126 => (some ((1 : Int32), q126)))) else if a1 = (3 : Int32) then (if a2 = 0 then (f_X6_clear 83 a2 (0 : Int32) σ).bind (fun q131 => (some ((1 : Int32), q131))) else (f_X6_clear 83 a2 a3 σ).bind (fun q130 => (some ((1 : Int32), q130)))) else none) else (if a3 ≤ (24 : Int32) then (if a1 = (0 : Int32) then (if a2 = 0 then (f_X6_clear 77 a2 (0 : Int32) σ).bind (fun q136 => (some ((1 : Int32), q136))) else (f_X6_clear 77 a2 a3 σ).bind (fun q135 => (some ((1 : Int32), q135)))) else if a1 = (1 : Int32) then (if a2 = 0 then (f_X6_clear 79 a2 (0 : Int32) σ).bind (fun q140 => (some ((1 : Int32), q140))) else (f_X6_clear 79 a2 a3 σ).bind (fun q139 => (some ((1 : Int32), q139)))) else if a1 = (2 : Int32) then (if a2 = 0 then (f_X6_clear 81 a2 (0 : Int32) σ).bind (fun q144 => (some ((1 : Int32), q144))) else (f_X6_clear 81 a2 a3 σ).bind (fun q143 => (some ((1 : Int32), q143)))) else if a1 = (3 : Int32) then (if a2 = 0 then (f_X6_clear 83 a2 (0 : Int32) σ).bind (fun q148 => (some ((1 : Int32), q148))) else (f_X6_clear 83 a2 a3 σ).bind (fun q147 => (some ((1 : Int32), q147)))) else none) else (f_X11_refuse (1 : Int32) σ).bind (fun q150 => (some (q150.1, q150.2))))) else (f_X11_refuse (3 : Int32) σ).bind (fun q151 => (some (q151.1, q151.2))))) else (if a2 = (16 : Int32) then (if a2 = 0 then (if a2 = 0 then (if a1 = (0 : Int32) then (if a2 = 0 then (f_X6_clear 77 a2 (0 : Int32) σ).bind (fun q157 => (some ((1 : Int32), q157))) else (f_X6_clear 77 a2 a3 σ).bind (fun q156 => (some ((1 : Int32), q156)))) else if a1 = (1 : Int32) then (if a2 = 0 then (f_X6_clear 79 a2 (0 : Int32) σ).bind (fun q161 => (some ((1 : Int32), q161))) else (f_X6_clear 79 a2 a3 σ).bind (fun q160 => (some ((1 : Int32), q160)))) else if a1 = (2 : Int32) then (if a2 = 0 then (f_X6_clear 81 a2 (0 : Int32) σ).bind (fun q165 => (some ((1 : Int32), q165))) else (f_X6_clear 81 a2 a3 σ).bind (fun q164 => (some ((1 : Int32), q164)))) else if a1 = (3 : Int32) then (if a2 = 0 then (f_X6_clear 83 a2 (0 : Int32) σ).bind (fun q169 => (some ((1 : Int32), q169))) else (f_X6_clear 83 a2 a3 σ).bind (fun q168 => (some ((1 : Int32), q168)))) else none) else (if a3 ≤ (24 : Int32) then (if a1 = (0 : Int32) then (if a2 = 0 then (f_X6_clear 77 a2 (0 : Int32) σ).bind (fun q174 => (some ((1 : Int32), q174))) else (f_X6_clear 77 a2 a3 σ).bind (fun q173 => (some ((1 : Int32), q173)))) else if a1 = (1 : Int32) then (if a2 = 0 then (f_X6_clear 79 a2 (0 : Int32) σ).bind (fun q178 => (some ((1 : Int32), q178))) else (f_X6_clear 79 a2 a3 σ).bind (fun q177 => (some ((1 : Int32), q177)))) else if a1 = (2 : Int32) then (if a2 = 0 then (f_X6_clear 81 a2 (0 : Int32) σ).bind (fun q182 => (some ((1 : Int32), q182))) else (f_X6_clear 81 a2 a3 σ).bind (fun q181 => (some ((1 : Int32), q181)))) else if a1 = (3 : Int32) then (if a2 = 0 then (f_X6_clear 83 a2 (0 : Int32) σ).bind (fun q186 => (some ((1 : Int32), q186))) else (f_X6_clear 83 a2 a3 σ).bind (fun q185 => (some ((1 : Int32), q185)))) else none) else (f_X11_refuse (1 : Int32) σ).bind (fun q188 => (some (q188.1, q188.2))))) else (if 0 ≤ a3 then (if a2 = 0 then (if a1 = (0 : Int32) then (if a2 = 0 then (f_X6_clear 77 a2 (0 : Int32) σ).bind (fun q193 => (some ((1 : Int32), q193))) else (f_X6_clear 77 a2 a3 σ).bind (fun q192 => (some ((1 : Int32), q192)))) else if a1 = (1 : Int32) then (if a2 = 0 then (f_X6_clear 79 a2 (0 : Int32) σ).bind (fun q197 => (some ((1 : Int32), q197))) else (f_X6_clear 79 a2 a3 σ).bind (fun q196 => (some ((1 : Int32), q196)))) else if a1 = (2 : Int32) then (if a2 = 0 then (f_X6_clear 81 a2 (0 : Int32) σ).bind (fun q201 => (some ((1 : Int32), q201))) else (f_X6_clear 81 a2 a3 σ).bind (fun q200 => (some ((1 : Int32), q200)))) else if a1 = (3 : Int32) then (if a2 = 0 then (f_X6_clear 83 a2 (0 : Int32) σ).bind (fun q205 => (some ((1 : Int32), q205))) else (f_X6_clear 83 a2 a3 σ).bind (fun q204 => (some ((1 : Int32), q204)))) else none) else (if a3 ≤ (24 : Int32) then (if a1 = (0 : Int32) then (if a2 = 0 then (f_X6_clear 77 a2 (0 : Int32) σ).bind (fun q210 => (some ((1 : Int32), q210))) else (f_X6_clear 77 a2 a3 σ).bind (fun q209 => (some ((1 : Int32), q209)))) else if a1 = (1 : Int32) then (if a2 = 0 then (f_X6_clear 79 a2 (0 : Int32) σ).bind (fun q214 => (some ((1 : Int32), q214))) else (f_X6_clear 79 a2 a3 σ).bind (fun q213 => (some ((1 : Int32), q213)))) else if a1 = (2 : Int32) then (if a2 = 0 then (f_X6_clear 81 a2 (0 : Int32) σ).bind (fun q218 => (some ((1 : Int32), q218))) else (f_X6_clear 81 a2 a3 σ).bind (fun q217 => (some ((1 : Int32), q217)))) else if a1 = (3 : Int32) then (if a2 = 0 then (f_X6_clear 83 a2 (0 : Int32) σ).bind (fun q222 => (some ((1 : Int32), q222))) else (f_X6_clear 83 a2 a3 σ).bind (fun q221 => (some ((1 : Int32), q221)))) else none) else (f_X11_refuse (1 : Int32) σ).bind (fun q224 => (some (q224.1, q224.2))))) else (f_X11_refuse (3 : Int32) σ).bind (fun q225 => (some (q225.1, q225.2))))) else (if a2 = (32 : Int32) then (if a2 = 0 then (if a2 = 0 then (if a1 = (0 : Int32) then (if a2 = 0 then (f_X6_clear 77 a2 (0 : Int32) σ).bind (fun q231 => (some ((1 : Int32), q231))) else (f_X6_clear 77 a2 a3 σ).bind (fun q230 => (some ((1 : Int32), q230)))) else if a1 = (1 : Int32) then (if a2 = 0 then (f_X6_clear 79 a2 (0 : Int32) σ).bind (fun q235 => (some ((1 : Int32), q235))) else (f_X6_clear 79 a2 a3 σ).bind (fun q234 => (some ((1 : Int32), q234)))) else if a1 = (2 : Int32) then (if a2 = 0 then (f_X6_clear 81 a2 (0 : Int32) σ).bind (fun q239 => (some ((1 : Int32), q239))) else (f_X6_clear 81 a2 a3 σ).bind (fun q238 => (some ((1 : Int32), q238)))) else if a1 = (3 : Int32) then (if a2 = 0 then (f_X6_clear 83 a2 (0 : Int32) σ).bind (fun q243 => (some ((1 : Int32), q243))) else (f_X6_clear 83 a2 a3 σ).bind (fun q242 => (some ((1 : Int32), q242)))) else none) else (if a3 ≤ (24 : Int32) then (if a1 = (0 : Int32) then (if a2 = 0 then (f_X6_clear 77 a2 (0 : Int32) σ).bind (fun q248 => (some ((1 : Int32), q248))) else (f_X6_clear 77 a2 a3 σ).bind (fun q247 => (some ((1 : Int32), q247)))) else if a1 = (1 : Int32) then (if a2 = 0 then (f_X6_clear 79 a2 (0 : Int32) σ).bind (fun q252 => (some ((1 : Int32), q252))) else (f_X6_clear 79 a2 a3 σ).bind (fun q251 => (some ((1 : Int32), q251)))) else if a1 = (2 : Int32) then (if a2 = 0 then (f_X6_clear 81 a2 (0 : Int32) σ).bind (fun q256 => (some ((1 : Int32), q256))) else (f_X6_clear 81 a2 a3 σ).bind (fun q255 => (some ((1 : Int32), q255)))) else if a1 = (3 : Int32) then (if a2 = 0 then (f_X6_clear 83 a2 (0 : Int32) σ).bind (fun q260 => (some ((1 : Int32), q260))) else (f_X6_clear 83 a2 a3 σ).bind (fun q259 => (some ((1 : Int32), q259)))) else none) else (f_X11_refuse (1 : Int32) σ).bind (fun q262 => (some (q262.1, q262.2))))) else (if 0 ≤ a3 then (if a2 = 0 then (if a1 = (0 : Int32) then (if a2 = 0 then (f_X6_clear 77 a2 (0 : Int32) σ).bind (fun q267 => (some ((1 : Int32), q267))) else (f_X6_clear 77 a2 a3 σ).bind (fun q266 => (some ((1 : Int32), q266)))) else if a1 = (1 : Int32) then (if a2 = 0 then (f_X6_clear 79 a2 (0 : Int32) σ).bind (fun q271 => (some ((1 : Int32), q271))) else (f_X6_clear 79 a2 a3 σ).bind (fun q270 => (some ((1 : Int32), q270)))) else if a1 = (2 : Int32) then (if a2 = 0 then (f_X6_clear 81 a2 (0 : Int32) σ).bind (fun q275 => (some ((1 : Int32), q275))) else (f_X6_clear 81 a2 a3 σ).bind (fun q274 => (some ((1 : Int32), q274)))) else if a1 = (3 : Int32) then (if a2 = 0 then (f_X6_clear 83 a2 (0 : Int32) σ).bind (fun q279 => (some ((1 : Int32), q279))) else (f_X6_clear 83 a2 a3 σ).bind (fun q278 => (some ((1 : Int32), q278)))) else none) else (if a3 ≤ (24 : Int32) then (if a1 = (0 : Int32) then (if a2 = 0 then (f_X6_clear 77 a2 (0 : Int32) σ).bind (fun q284 => (some ((1 : Int32), q284))) else (f_X6_clear 77 a2 a3 σ).bind (fun q283 => (some ((1 : Int32), q283)))) else if a1 = (1 : Int32) then (if a2 = 0 then (f_X6_clear 79 a2 (0 : Int32) σ).bind (fun q288 => (some ((1 : Int32), q288))) else (f_X6_clear 79 a2 a3 σ).bind (fun q287 => (some ((1 : Int32), q287)))) else if a1 = (2 : Int32) then (if a2 = 0 then (f_X6_clear 81 a2 (0 : Int32) σ).bind (fun q292 => (some ((1 : Int32), q292))) else (f_X6_clear 81 a2 a3 σ).bind (fun q291 => (some ((1 : Int32), q291)))) else if a1 = (3 : Int32) then (if a2 = 0 then (f_X6_clear 83 a2 (0 : Int32) σ).bind (fun q296 => (some ((1 : Int32), q296))) else (f_X6_clear 83 a2 a3 σ).bind (fun q295 => (some ((1 : Int32), q295)))) else none) else (f_X11_refuse (1 : Int32) σ).bind (fun q298 => (some (q298.1, q298.2))))) else (f_X11_refuse (3 : Int32) σ).bind (fun q299 => (some (q299.1, q299.2))))) else (f_X11_refuse (1 : Int32) σ).bind (fun q300 => (some (q300.1, q300.2))))))) else (f_X11_refuse (1 : Int32) σ).bind (fun q3 => (some (q3.1, q3.2)))))
set_option maxRecDepth 100000 in
set_option maxHeartbeats 4000000 in
theorem e_X11_sheet {sc : Nat × (Nat → Int32)} {r : Option Nat × Option Nat} {a1 : Int32} {a2 : Int32} {a3 : Int32} {σ : ab_F} {res : (Int32 × ab_F)} (h : f_X11_sheet a1 a2 a3 σ = some res) : ab_E mX11_sheet 1 sc 0 [some (.ref 8), some (.int a1), some (.int a2), some (.int a3)] [] (σ, r) (fun v S => v = some (.int res.1) ∧ S = (res.2, r)) := by
  unfold f_X11_sheet at h
  refine z_iload_n (pc2 := 1) rfl dX11_sheet_0 rfl ?_
  refine z_iconst (pc2 := 2) rfl dX11_sheet_1 lt_i_3 ?_
  obtain ⟨q1, hq1, h⟩ := ab_bnd h
  refine z_callSi [.int a1, .int (3 : Int32)] [some (.int a1), some (.int (3 : Int32))] (pc2 := 5) rfl rfl dX11_sheet_2 ok_X11_outside ⟨fun _ => rfl, fun _ => Nat.le_of_ble_eq_true rfl⟩ rfl wd_343 wd_344 rfl (e_X11_outside hq1) ?_
  refine z_if_ne (pc2 := 8) (tgt := 30) rfl dX11_sheet_5 (by decide) (fun hc2 => ?_) (fun hc2 => ?_)
  · replace h := ab_neg hc2 h
    refine z_aload_n (pc2 := 31) rfl dX11_sheet_30 rfl ?_
    refine z_iconst (pc2 := 32) rfl dX11_sheet_31 lt_i_1 ?_
    obtain ⟨q3, hq3, h⟩ := ab_bnd h
    refine z_callVi 8 [.int (1 : Int32)] [some (.ref 8), some (.int (1 : Int32))] (pc2 := 35) rfl rfl dX11_sheet_32 ok_X11_refuse ⟨fun _ => rfl, fun _ => Nat.le_of_ble_eq_true rfl⟩ rfl rv_8 wd_346 wd_348 wd_0 rfl (e_X11_refuse hq3) ?_
    exact z_iret dX11_sheet_35 rfl rfl (fi_w h)
  · replace h := ab_pos hc2 h
    refine z_iload_n (pc2 := 9) rfl dX11_sheet_8 rfl ?_
    refine z_if_eq (pc2 := 12) (tgt := 36) rfl dX11_sheet_9 (by decide) (fun hc4 => ?_) (fun hc4 => ?_)
    · replace h := ab_pos hc4 h
      refine z_iload_n (pc2 := 37) rfl dX11_sheet_36 rfl ?_
      refine z_if_eq (pc2 := 40) (tgt := 50) rfl dX11_sheet_37 (by decide) (fun hc5 => ?_) (fun hc5 => ?_)
      · replace h := ab_pos hc5 h
        refine z_iload_n (pc2 := 51) rfl dX11_sheet_50 rfl ?_
        refine z_if_eq (pc2 := 54) (tgt := 66) rfl dX11_sheet_51 (by decide) (fun hc6 => ?_) (fun hc6 => ?_)
        · replace h := ab_pos hc6 h
          refine z_aload_n (pc2 := 67) rfl dX11_sheet_66 rfl ?_
          refine z_getR 8 11 8 20 (pc2 := 70) rfl dX11_sheet_67 rfl rfl ff_11_8 wd_310 rfl ?_
          refine z_iload_n (pc2 := 71) rfl dX11_sheet_70 rfl ?_
          by_cases hi10 : a1 = (0 : Int32)
          · replace h := ab_pos hi10 h
            refine z_aaldR 20 77 (pc2 := 72) rfl dX11_sheet_71 rfl rfl (by rw [hi10]; rfl) (by rw [hi10]; rfl) ?_
            refine z_iload_n (pc2 := 73) rfl dX11_sheet_72 rfl ?_
            refine z_iload_n (pc2 := 74) rfl dX11_sheet_73 rfl ?_
            refine z_if_ne (pc2 := 77) (tgt := 81) rfl dX11_sheet_74 (by decide) (fun hc7 => ?_) (fun hc7 => ?_)
            · replace h := ab_neg hc7 h
              refine z_iload_n (pc2 := 82) rfl dX11_sheet_81 rfl ?_
              obtain ⟨q8, hq8, h⟩ := ab_bnd h
              refine z_callVv 77 [.int a2, .int a3] [some (.ref 77), some (.int a2), some (.int a3), none] (pc2 := 85) rfl rfl dX11_sheet_82 ok_X6_clear ⟨fun _ => rfl, fun _ => Nat.le_of_ble_eq_true rfl⟩ rfl rv_77 wd_903 wd_904 wd_905 rfl (e_X6_clear_77 hq8) ?_
              refine z_iconst (pc2 := 86) rfl dX11_sheet_85 lt_i_1 ?_
              exact z_iret dX11_sheet_86 rfl rfl (fi_w h)
            · replace h := ab_pos hc7 h
              refine z_iconst (pc2 := 78) rfl dX11_sheet_77 lt_i_0 ?_
              refine ab_goto (tgt := 82) dX11_sheet_78 (by decide) ?_
              obtain ⟨q9, hq9, h⟩ := ab_bnd h
              refine z_callVv 77 [.int a2, .int (0 : Int32)] [some (.ref 77), some (.int a2), some (.int (0 : Int32)), none] (pc2 := 85) rfl rfl dX11_sheet_82 ok_X6_clear ⟨fun _ => rfl, fun _ => Nat.le_of_ble_eq_true rfl⟩ rfl rv_77 wd_903 wd_904 wd_905 rfl (e_X6_clear_77 hq9) ?_
              refine z_iconst (pc2 := 86) rfl dX11_sheet_85 lt_i_1 ?_
              exact z_iret dX11_sheet_86 rfl rfl (fi_w h)
          · replace h := ab_neg hi10 h
            by_cases hi14 : a1 = (1 : Int32)
            · replace h := ab_pos hi14 h
              refine z_aaldR 20 79 (pc2 := 72) rfl dX11_sheet_71 rfl rfl (by rw [hi14]; rfl) (by rw [hi14]; rfl) ?_
              refine z_iload_n (pc2 := 73) rfl dX11_sheet_72 rfl ?_
              refine z_iload_n (pc2 := 74) rfl dX11_sheet_73 rfl ?_
              refine z_if_ne (pc2 := 77) (tgt := 81) rfl dX11_sheet_74 (by decide) (fun hc11 => ?_) (fun hc11 => ?_)
              · replace h := ab_neg hc11 h
                refine z_iload_n (pc2 := 82) rfl dX11_sheet_81 rfl ?_
                obtain ⟨q12, hq12, h⟩ := ab_bnd h
                refine z_callVv 79 [.int a2, .int a3] [some (.ref 79), some (.int a2), some (.int a3), none] (pc2 := 85) rfl rfl dX11_sheet_82 ok_X6_clear ⟨fun _ => rfl, fun _ => Nat.le_of_ble_eq_true rfl⟩ rfl rv_79 wd_903 wd_904 wd_905 rfl (e_X6_clear_79 hq12) ?_
                refine z_iconst (pc2 := 86) rfl dX11_sheet_85 lt_i_1 ?_
                exact z_iret dX11_sheet_86 rfl rfl (fi_w h)
              · replace h := ab_pos hc11 h
                refine z_iconst (pc2 := 78) rfl dX11_sheet_77 lt_i_0 ?_
                refine ab_goto (tgt := 82) dX11_sheet_78 (by decide) ?_
                obtain ⟨q13, hq13, h⟩ := ab_bnd h
                refine z_callVv 79 [.int a2, .int (0 : Int32)] [some (.ref 79), some (.int a2), some (.int (0 : Int32)), none] (pc2 := 85) rfl rfl dX11_sheet_82 ok_X6_clear ⟨fun _ => rfl, fun _ => Nat.le_of_ble_eq_true rfl⟩ rfl rv_79 wd_903 wd_904 wd_905 rfl (e_X6_clear_79 hq13) ?_
                refine z_iconst (pc2 := 86) rfl dX11_sheet_85 lt_i_1 ?_
                exact z_iret dX11_sheet_86 rfl rfl (fi_w h)
            · replace h := ab_neg hi14 h
              by_cases hi18 : a1 = (2 : Int32)
              · replace h := ab_pos hi18 h
                refine z_aaldR 20 81 (pc2 := 72) rfl dX11_sheet_71 rfl rfl (by rw [hi18]; rfl) (by rw [hi18]; rfl) ?_
                refine z_iload_n (pc2 := 73) rfl dX11_sheet_72 rfl ?_
                refine z_iload_n (pc2 := 74) rfl dX11_sheet_73 rfl ?_
                refine z_if_ne (pc2 := 77) (tgt := 81) rfl dX11_sheet_74 (by decide) (fun hc15 => ?_) (fun hc15 => ?_)
                · replace h := ab_neg hc15 h
                  refine z_iload_n (pc2 := 82) rfl dX11_sheet_81 rfl ?_
                  obtain ⟨q16, hq16, h⟩ := ab_bnd h
                  refine z_callVv 81 [.int a2, .int a3] [some (.ref 81), some (.int a2), some (.int a3), none] (pc2 := 85) rfl rfl dX11_sheet_82 ok_X6_clear ⟨fun _ => rfl, fun _ => Nat.le_of_ble_eq_true rfl⟩ rfl rv_81 wd_903 wd_904 wd_905 rfl (e_X6_clear_81 hq16) ?_
                  refine z_iconst (pc2 := 86) rfl dX11_sheet_85 lt_i_1 ?_
                  exact z_iret dX11_sheet_86 rfl rfl (fi_w h)
                · replace h := ab_pos hc15 h
                  refine z_iconst (pc2 := 78) rfl dX11_sheet_77 lt_i_0 ?_
                  refine ab_goto (tgt := 82) dX11_sheet_78 (by decide) ?_
                  obtain ⟨q17, hq17, h⟩ := ab_bnd h
                  refine z_callVv 81 [.int a2, .int (0 : Int32)] [some (.ref 81), some (.int a2), some (.int (0 : Int32)), none] (pc2 := 85) rfl rfl dX11_sheet_82 ok_X6_clear ⟨fun _ => rfl, fun _ => Nat.le_of_ble_eq_true rfl⟩ rfl rv_81 wd_903 wd_904 wd_905 rfl (e_X6_clear_81 hq17) ?_
                  refine z_iconst (pc2 := 86) rfl dX11_sheet_85 lt_i_1 ?_
                  exact z_iret dX11_sheet_86 rfl rfl (fi_w h)
              · replace h := ab_neg hi18 h
                by_cases hi22 : a1 = (3 : Int32)
                · replace h := ab_pos hi22 h
                  refine z_aaldR 20 83 (pc2 := 72) rfl dX11_sheet_71 rfl rfl (by rw [hi22]; rfl) (by rw [hi22]; rfl) ?_
                  refine z_iload_n (pc2 := 73) rfl dX11_sheet_72 rfl ?_
                  refine z_iload_n (pc2 := 74) rfl dX11_sheet_73 rfl ?_
                  refine z_if_ne (pc2 := 77) (tgt := 81) rfl dX11_sheet_74 (by decide) (fun hc19 => ?_) (fun hc19 => ?_)
                  · replace h := ab_neg hc19 h
                    refine z_iload_n (pc2 := 82) rfl dX11_sheet_81 rfl ?_
                    obtain ⟨q20, hq20, h⟩ := ab_bnd h
                    refine z_callVv 83 [.int a2, .int a3] [some (.ref 83), some (.int a2), some (.int a3), none] (pc2 := 85) rfl rfl dX11_sheet_82 ok_X6_clear ⟨fun _ => rfl, fun _ => Nat.le_of_ble_eq_true rfl⟩ rfl rv_83 wd_903 wd_904 wd_905 rfl (e_X6_clear_83 hq20) ?_
                    refine z_iconst (pc2 := 86) rfl dX11_sheet_85 lt_i_1 ?_
                    exact z_iret dX11_sheet_86 rfl rfl (fi_w h)
                  · replace h := ab_pos hc19 h
                    refine z_iconst (pc2 := 78) rfl dX11_sheet_77 lt_i_0 ?_
                    refine ab_goto (tgt := 82) dX11_sheet_78 (by decide) ?_
                    obtain ⟨q21, hq21, h⟩ := ab_bnd h
                    refine z_callVv 83 [.int a2, .int (0 : Int32)] [some (.ref 83), some (.int a2), some (.int (0 : Int32)), none] (pc2 := 85) rfl rfl dX11_sheet_82 ok_X6_clear ⟨fun _ => rfl, fun _ => Nat.le_of_ble_eq_true rfl⟩ rfl rv_83 wd_903 wd_904 wd_905 rfl (e_X6_clear_83 hq21) ?_
                    refine z_iconst (pc2 := 86) rfl dX11_sheet_85 lt_i_1 ?_
                    exact z_iret dX11_sheet_86 rfl rfl (fi_w h)
                · replace h := ab_neg hi22 h
                  cases h
        · replace h := ab_neg hc6 h
          refine z_iload_n (pc2 := 55) rfl dX11_sheet_54 rfl ?_
          refine z_bipush (pc2 := 57) rfl dX11_sheet_55 lt_b_24 ?_
          refine z_icmp_le (pc2 := 60) (tgt := 66) rfl dX11_sheet_57 (by decide) (fun hc23 => ?_) (fun hc23 => ?_)
          · replace h := ab_pos hc23 h
            refine z_aload_n (pc2 := 67) rfl dX11_sheet_66 rfl ?_
            refine z_getR 8 11 8 20 (pc2 := 70) rfl dX11_sheet_67 rfl rfl ff_11_8 wd_310 rfl ?_
            refine z_iload_n (pc2 := 71) rfl dX11_sheet_70 rfl ?_
            by_cases hi27 : a1 = (0 : Int32)
            · replace h := ab_pos hi27 h
              refine z_aaldR 20 77 (pc2 := 72) rfl dX11_sheet_71 rfl rfl (by rw [hi27]; rfl) (by rw [hi27]; rfl) ?_
              refine z_iload_n (pc2 := 73) rfl dX11_sheet_72 rfl ?_
              refine z_iload_n (pc2 := 74) rfl dX11_sheet_73 rfl ?_
              refine z_if_ne (pc2 := 77) (tgt := 81) rfl dX11_sheet_74 (by decide) (fun hc24 => ?_) (fun hc24 => ?_)
              · replace h := ab_neg hc24 h
                refine z_iload_n (pc2 := 82) rfl dX11_sheet_81 rfl ?_
                obtain ⟨q25, hq25, h⟩ := ab_bnd h
                refine z_callVv 77 [.int a2, .int a3] [some (.ref 77), some (.int a2), some (.int a3), none] (pc2 := 85) rfl rfl dX11_sheet_82 ok_X6_clear ⟨fun _ => rfl, fun _ => Nat.le_of_ble_eq_true rfl⟩ rfl rv_77 wd_903 wd_904 wd_905 rfl (e_X6_clear_77 hq25) ?_
                refine z_iconst (pc2 := 86) rfl dX11_sheet_85 lt_i_1 ?_
                exact z_iret dX11_sheet_86 rfl rfl (fi_w h)
              · replace h := ab_pos hc24 h
                refine z_iconst (pc2 := 78) rfl dX11_sheet_77 lt_i_0 ?_
                refine ab_goto (tgt := 82) dX11_sheet_78 (by decide) ?_
                obtain ⟨q26, hq26, h⟩ := ab_bnd h
                refine z_callVv 77 [.int a2, .int (0 : Int32)] [some (.ref 77), some (.int a2), some (.int (0 : Int32)), none] (pc2 := 85) rfl rfl dX11_sheet_82 ok_X6_clear ⟨fun _ => rfl, fun _ => Nat.le_of_ble_eq_true rfl⟩ rfl rv_77 wd_903 wd_904 wd_905 rfl (e_X6_clear_77 hq26) ?_
                refine z_iconst (pc2 := 86) rfl dX11_sheet_85 lt_i_1 ?_
                exact z_iret dX11_sheet_86 rfl rfl (fi_w h)
            · replace h := ab_neg hi27 h
              by_cases hi31 : a1 = (1 : Int32)
              · replace h := ab_pos hi31 h
                refine z_aaldR 20 79 (pc2 := 72) rfl dX11_sheet_71 rfl rfl (by rw [hi31]; rfl) (by rw [hi31]; rfl) ?_
                refine z_iload_n (pc2 := 73) rfl dX11_sheet_72 rfl ?_
                refine z_iload_n (pc2 := 74) rfl dX11_sheet_73 rfl ?_
                refine z_if_ne (pc2 := 77) (tgt := 81) rfl dX11_sheet_74 (by decide) (fun hc28 => ?_) (fun hc28 => ?_)
                · replace h := ab_neg hc28 h
                  refine z_iload_n (pc2 := 82) rfl dX11_sheet_81 rfl ?_
                  obtain ⟨q29, hq29, h⟩ := ab_bnd h
                  refine z_callVv 79 [.int a2, .int a3] [some (.ref 79), some (.int a2), some (.int a3), none] (pc2 := 85) rfl rfl dX11_sheet_82 ok_X6_clear ⟨fun _ => rfl, fun _ => Nat.le_of_ble_eq_true rfl⟩ rfl rv_79 wd_903 wd_904 wd_905 rfl (e_X6_clear_79 hq29) ?_
                  refine z_iconst (pc2 := 86) rfl dX11_sheet_85 lt_i_1 ?_
                  exact z_iret dX11_sheet_86 rfl rfl (fi_w h)
                · replace h := ab_pos hc28 h
                  refine z_iconst (pc2 := 78) rfl dX11_sheet_77 lt_i_0 ?_
                  refine ab_goto (tgt := 82) dX11_sheet_78 (by decide) ?_
                  obtain ⟨q30, hq30, h⟩ := ab_bnd h
                  refine z_callVv 79 [.int a2, .int (0 : Int32)] [some (.ref 79), some (.int a2), some (.int (0 : Int32)), none] (pc2 := 85) rfl rfl dX11_sheet_82 ok_X6_clear ⟨fun _ => rfl, fun _ => Nat.le_of_ble_eq_true rfl⟩ rfl rv_79 wd_903 wd_904 wd_905 rfl (e_X6_clear_79 hq30) ?_
                  refine z_iconst (pc2 := 86) rfl dX11_sheet_85 lt_i_1 ?_
                  exact z_iret dX11_sheet_86 rfl rfl (fi_w h)
              · replace h := ab_neg hi31 h
                by_cases hi35 : a1 = (2 : Int32)
                · replace h := ab_pos hi35 h
                  refine z_aaldR 20 81 (pc2 := 72) rfl dX11_sheet_71 rfl rfl (by rw [hi35]; rfl) (by rw [hi35]; rfl) ?_
                  refine z_iload_n (pc2 := 73) rfl dX11_sheet_72 rfl ?_
                  refine z_iload_n (pc2 := 74) rfl dX11_sheet_73 rfl ?_
                  refine z_if_ne (pc2 := 77) (tgt := 81) rfl dX11_sheet_74 (by decide) (fun hc32 => ?_) (fun hc32 => ?_)
                  · replace h := ab_neg hc32 h
                    refine z_iload_n (pc2 := 82) rfl dX11_sheet_81 rfl ?_
                    obtain ⟨q33, hq33, h⟩ := ab_bnd h
                    refine z_callVv 81 [.int a2, .int a3] [some (.ref 81), some (.int a2), some (.int a3), none] (pc2 := 85) rfl rfl dX11_sheet_82 ok_X6_clear ⟨fun _ => rfl, fun _ => Nat.le_of_ble_eq_true rfl⟩ rfl rv_81 wd_903 wd_904 wd_905 rfl (e_X6_clear_81 hq33) ?_
                    refine z_iconst (pc2 := 86) rfl dX11_sheet_85 lt_i_1 ?_
                    exact z_iret dX11_sheet_86 rfl rfl (fi_w h)
                  · replace h := ab_pos hc32 h
                    refine z_iconst (pc2 := 78) rfl dX11_sheet_77 lt_i_0 ?_
                    refine ab_goto (tgt := 82) dX11_sheet_78 (by decide) ?_
                    obtain ⟨q34, hq34, h⟩ := ab_bnd h
                    refine z_callVv 81 [.int a2, .int (0 : Int32)] [some (.ref 81), some (.int a2), some (.int (0 : Int32)), none] (pc2 := 85) rfl rfl dX11_sheet_82 ok_X6_clear ⟨fun _ => rfl, fun _ => Nat.le_of_ble_eq_true rfl⟩ rfl rv_81 wd_903 wd_904 wd_905 rfl (e_X6_clear_81 hq34) ?_
                    refine z_iconst (pc2 := 86) rfl dX11_sheet_85 lt_i_1 ?_
                    exact z_iret dX11_sheet_86 rfl rfl (fi_w h)
                · replace h := ab_neg hi35 h
                  by_cases hi39 : a1 = (3 : Int32)
                  · replace h := ab_pos hi39 h
                    refine z_aaldR 20 83 (pc2 := 72) rfl dX11_sheet_71 rfl rfl (by rw [hi39]; rfl) (by rw [hi39]; rfl) ?_
                    refine z_iload_n (pc2 := 73) rfl dX11_sheet_72 rfl ?_
                    refine z_iload_n (pc2 := 74) rfl dX11_sheet_73 rfl ?_
                    refine z_if_ne (pc2 := 77) (tgt := 81) rfl dX11_sheet_74 (by decide) (fun hc36 => ?_) (fun hc36 => ?_)
                    · replace h := ab_neg hc36 h
                      refine z_iload_n (pc2 := 82) rfl dX11_sheet_81 rfl ?_
                      obtain ⟨q37, hq37, h⟩ := ab_bnd h
                      refine z_callVv 83 [.int a2, .int a3] [some (.ref 83), some (.int a2), some (.int a3), none] (pc2 := 85) rfl rfl dX11_sheet_82 ok_X6_clear ⟨fun _ => rfl, fun _ => Nat.le_of_ble_eq_true rfl⟩ rfl rv_83 wd_903 wd_904 wd_905 rfl (e_X6_clear_83 hq37) ?_
                      refine z_iconst (pc2 := 86) rfl dX11_sheet_85 lt_i_1 ?_
                      exact z_iret dX11_sheet_86 rfl rfl (fi_w h)
                    · replace h := ab_pos hc36 h
                      refine z_iconst (pc2 := 78) rfl dX11_sheet_77 lt_i_0 ?_
                      refine ab_goto (tgt := 82) dX11_sheet_78 (by decide) ?_
                      obtain ⟨q38, hq38, h⟩ := ab_bnd h
                      refine z_callVv 83 [.int a2, .int (0 : Int32)] [some (.ref 83), some (.int a2), some (.int (0 : Int32)), none] (pc2 := 85) rfl rfl dX11_sheet_82 ok_X6_clear ⟨fun _ => rfl, fun _ => Nat.le_of_ble_eq_true rfl⟩ rfl rv_83 wd_903 wd_904 wd_905 rfl (e_X6_clear_83 hq38) ?_
                      refine z_iconst (pc2 := 86) rfl dX11_sheet_85 lt_i_1 ?_
                      exact z_iret dX11_sheet_86 rfl rfl (fi_w h)
                  · replace h := ab_neg hi39 h
                    cases h
          · replace h := ab_neg hc23 h
            refine z_aload_n (pc2 := 61) rfl dX11_sheet_60 rfl ?_
            refine z_iconst (pc2 := 62) rfl dX11_sheet_61 lt_i_1 ?_
            obtain ⟨q40, hq40, h⟩ := ab_bnd h
            refine z_callVi 8 [.int (1 : Int32)] [some (.ref 8), some (.int (1 : Int32))] (pc2 := 65) rfl rfl dX11_sheet_62 ok_X11_refuse ⟨fun _ => rfl, fun _ => Nat.le_of_ble_eq_true rfl⟩ rfl rv_8 wd_346 wd_348 wd_0 rfl (e_X11_refuse hq40) ?_
            exact z_iret dX11_sheet_65 rfl rfl (fi_w h)
      · replace h := ab_neg hc5 h
        refine z_iload_n (pc2 := 41) rfl dX11_sheet_40 rfl ?_
        refine z_if_ge (pc2 := 44) (tgt := 50) rfl dX11_sheet_41 (by decide) (fun hc41 => ?_) (fun hc41 => ?_)
        · replace h := ab_pos hc41 h
          refine z_iload_n (pc2 := 51) rfl dX11_sheet_50 rfl ?_
          refine z_if_eq (pc2 := 54) (tgt := 66) rfl dX11_sheet_51 (by decide) (fun hc42 => ?_) (fun hc42 => ?_)
          · replace h := ab_pos hc42 h
            refine z_aload_n (pc2 := 67) rfl dX11_sheet_66 rfl ?_
            refine z_getR 8 11 8 20 (pc2 := 70) rfl dX11_sheet_67 rfl rfl ff_11_8 wd_310 rfl ?_
            refine z_iload_n (pc2 := 71) rfl dX11_sheet_70 rfl ?_
            by_cases hi46 : a1 = (0 : Int32)
            · replace h := ab_pos hi46 h
              refine z_aaldR 20 77 (pc2 := 72) rfl dX11_sheet_71 rfl rfl (by rw [hi46]; rfl) (by rw [hi46]; rfl) ?_
              refine z_iload_n (pc2 := 73) rfl dX11_sheet_72 rfl ?_
              refine z_iload_n (pc2 := 74) rfl dX11_sheet_73 rfl ?_
              refine z_if_ne (pc2 := 77) (tgt := 81) rfl dX11_sheet_74 (by decide) (fun hc43 => ?_) (fun hc43 => ?_)
              · replace h := ab_neg hc43 h
                refine z_iload_n (pc2 := 82) rfl dX11_sheet_81 rfl ?_
                obtain ⟨q44, hq44, h⟩ := ab_bnd h
                refine z_callVv 77 [.int a2, .int a3] [some (.ref 77), some (.int a2), some (.int a3), none] (pc2 := 85) rfl rfl dX11_sheet_82 ok_X6_clear ⟨fun _ => rfl, fun _ => Nat.le_of_ble_eq_true rfl⟩ rfl rv_77 wd_903 wd_904 wd_905 rfl (e_X6_clear_77 hq44) ?_
                refine z_iconst (pc2 := 86) rfl dX11_sheet_85 lt_i_1 ?_
                exact z_iret dX11_sheet_86 rfl rfl (fi_w h)
              · replace h := ab_pos hc43 h
                refine z_iconst (pc2 := 78) rfl dX11_sheet_77 lt_i_0 ?_
                refine ab_goto (tgt := 82) dX11_sheet_78 (by decide) ?_
                obtain ⟨q45, hq45, h⟩ := ab_bnd h
                refine z_callVv 77 [.int a2, .int (0 : Int32)] [some (.ref 77), some (.int a2), some (.int (0 : Int32)), none] (pc2 := 85) rfl rfl dX11_sheet_82 ok_X6_clear ⟨fun _ => rfl, fun _ => Nat.le_of_ble_eq_true rfl⟩ rfl rv_77 wd_903 wd_904 wd_905 rfl (e_X6_clear_77 hq45) ?_
                refine z_iconst (pc2 := 86) rfl dX11_sheet_85 lt_i_1 ?_
                exact z_iret dX11_sheet_86 rfl rfl (fi_w h)
            · replace h := ab_neg hi46 h
              by_cases hi50 : a1 = (1 : Int32)
              · replace h := ab_pos hi50 h
                refine z_aaldR 20 79 (pc2 := 72) rfl dX11_sheet_71 rfl rfl (by rw [hi50]; rfl) (by rw [hi50]; rfl) ?_
                refine z_iload_n (pc2 := 73) rfl dX11_sheet_72 rfl ?_
                refine z_iload_n (pc2 := 74) rfl dX11_sheet_73 rfl ?_
                refine z_if_ne (pc2 := 77) (tgt := 81) rfl dX11_sheet_74 (by decide) (fun hc47 => ?_) (fun hc47 => ?_)
                · replace h := ab_neg hc47 h
                  refine z_iload_n (pc2 := 82) rfl dX11_sheet_81 rfl ?_
                  obtain ⟨q48, hq48, h⟩ := ab_bnd h
                  refine z_callVv 79 [.int a2, .int a3] [some (.ref 79), some (.int a2), some (.int a3), none] (pc2 := 85) rfl rfl dX11_sheet_82 ok_X6_clear ⟨fun _ => rfl, fun _ => Nat.le_of_ble_eq_true rfl⟩ rfl rv_79 wd_903 wd_904 wd_905 rfl (e_X6_clear_79 hq48) ?_
                  refine z_iconst (pc2 := 86) rfl dX11_sheet_85 lt_i_1 ?_
                  exact z_iret dX11_sheet_86 rfl rfl (fi_w h)
                · replace h := ab_pos hc47 h
                  refine z_iconst (pc2 := 78) rfl dX11_sheet_77 lt_i_0 ?_
                  refine ab_goto (tgt := 82) dX11_sheet_78 (by decide) ?_
                  obtain ⟨q49, hq49, h⟩ := ab_bnd h
                  refine z_callVv 79 [.int a2, .int (0 : Int32)] [some (.ref 79), some (.int a2), some (.int (0 : Int32)), none] (pc2 := 85) rfl rfl dX11_sheet_82 ok_X6_clear ⟨fun _ => rfl, fun _ => Nat.le_of_ble_eq_true rfl⟩ rfl rv_79 wd_903 wd_904 wd_905 rfl (e_X6_clear_79 hq49) ?_
                  refine z_iconst (pc2 := 86) rfl dX11_sheet_85 lt_i_1 ?_
                  exact z_iret dX11_sheet_86 rfl rfl (fi_w h)
              · replace h := ab_neg hi50 h
                by_cases hi54 : a1 = (2 : Int32)
                · replace h := ab_pos hi54 h
                  refine z_aaldR 20 81 (pc2 := 72) rfl dX11_sheet_71 rfl rfl (by rw [hi54]; rfl) (by rw [hi54]; rfl) ?_
                  refine z_iload_n (pc2 := 73) rfl dX11_sheet_72 rfl ?_
                  refine z_iload_n (pc2 := 74) rfl dX11_sheet_73 rfl ?_
                  refine z_if_ne (pc2 := 77) (tgt := 81) rfl dX11_sheet_74 (by decide) (fun hc51 => ?_) (fun hc51 => ?_)
                  · replace h := ab_neg hc51 h
                    refine z_iload_n (pc2 := 82) rfl dX11_sheet_81 rfl ?_
                    obtain ⟨q52, hq52, h⟩ := ab_bnd h
                    refine z_callVv 81 [.int a2, .int a3] [some (.ref 81), some (.int a2), some (.int a3), none] (pc2 := 85) rfl rfl dX11_sheet_82 ok_X6_clear ⟨fun _ => rfl, fun _ => Nat.le_of_ble_eq_true rfl⟩ rfl rv_81 wd_903 wd_904 wd_905 rfl (e_X6_clear_81 hq52) ?_
                    refine z_iconst (pc2 := 86) rfl dX11_sheet_85 lt_i_1 ?_
                    exact z_iret dX11_sheet_86 rfl rfl (fi_w h)
                  · replace h := ab_pos hc51 h
                    refine z_iconst (pc2 := 78) rfl dX11_sheet_77 lt_i_0 ?_
                    refine ab_goto (tgt := 82) dX11_sheet_78 (by decide) ?_
                    obtain ⟨q53, hq53, h⟩ := ab_bnd h
                    refine z_callVv 81 [.int a2, .int (0 : Int32)] [some (.ref 81), some (.int a2), some (.int (0 : Int32)), none] (pc2 := 85) rfl rfl dX11_sheet_82 ok_X6_clear ⟨fun _ => rfl, fun _ => Nat.le_of_ble_eq_true rfl⟩ rfl rv_81 wd_903 wd_904 wd_905 rfl (e_X6_clear_81 hq53) ?_
                    refine z_iconst (pc2 := 86) rfl dX11_sheet_85 lt_i_1 ?_
                    exact z_iret dX11_sheet_86 rfl rfl (fi_w h)
                · replace h := ab_neg hi54 h
                  by_cases hi58 : a1 = (3 : Int32)
                  · replace h := ab_pos hi58 h
                    refine z_aaldR 20 83 (pc2 := 72) rfl dX11_sheet_71 rfl rfl (by rw [hi58]; rfl) (by rw [hi58]; rfl) ?_
                    refine z_iload_n (pc2 := 73) rfl dX11_sheet_72 rfl ?_
                    refine z_iload_n (pc2 := 74) rfl dX11_sheet_73 rfl ?_
                    refine z_if_ne (pc2 := 77) (tgt := 81) rfl dX11_sheet_74 (by decide) (fun hc55 => ?_) (fun hc55 => ?_)
                    · replace h := ab_neg hc55 h
                      refine z_iload_n (pc2 := 82) rfl dX11_sheet_81 rfl ?_
                      obtain ⟨q56, hq56, h⟩ := ab_bnd h
                      refine z_callVv 83 [.int a2, .int a3] [some (.ref 83), some (.int a2), some (.int a3), none] (pc2 := 85) rfl rfl dX11_sheet_82 ok_X6_clear ⟨fun _ => rfl, fun _ => Nat.le_of_ble_eq_true rfl⟩ rfl rv_83 wd_903 wd_904 wd_905 rfl (e_X6_clear_83 hq56) ?_
                      refine z_iconst (pc2 := 86) rfl dX11_sheet_85 lt_i_1 ?_
                      exact z_iret dX11_sheet_86 rfl rfl (fi_w h)
                    · replace h := ab_pos hc55 h
                      refine z_iconst (pc2 := 78) rfl dX11_sheet_77 lt_i_0 ?_
                      refine ab_goto (tgt := 82) dX11_sheet_78 (by decide) ?_
                      obtain ⟨q57, hq57, h⟩ := ab_bnd h
                      refine z_callVv 83 [.int a2, .int (0 : Int32)] [some (.ref 83), some (.int a2), some (.int (0 : Int32)), none] (pc2 := 85) rfl rfl dX11_sheet_82 ok_X6_clear ⟨fun _ => rfl, fun _ => Nat.le_of_ble_eq_true rfl⟩ rfl rv_83 wd_903 wd_904 wd_905 rfl (e_X6_clear_83 hq57) ?_
                      refine z_iconst (pc2 := 86) rfl dX11_sheet_85 lt_i_1 ?_
                      exact z_iret dX11_sheet_86 rfl rfl (fi_w h)
                  · replace h := ab_neg hi58 h
                    cases h
          · replace h := ab_neg hc42 h
            refine z_iload_n (pc2 := 55) rfl dX11_sheet_54 rfl ?_
            refine z_bipush (pc2 := 57) rfl dX11_sheet_55 lt_b_24 ?_
            refine z_icmp_le (pc2 := 60) (tgt := 66) rfl dX11_sheet_57 (by decide) (fun hc59 => ?_) (fun hc59 => ?_)
            · replace h := ab_pos hc59 h
              refine z_aload_n (pc2 := 67) rfl dX11_sheet_66 rfl ?_
              refine z_getR 8 11 8 20 (pc2 := 70) rfl dX11_sheet_67 rfl rfl ff_11_8 wd_310 rfl ?_
              refine z_iload_n (pc2 := 71) rfl dX11_sheet_70 rfl ?_
              by_cases hi63 : a1 = (0 : Int32)
              · replace h := ab_pos hi63 h
                refine z_aaldR 20 77 (pc2 := 72) rfl dX11_sheet_71 rfl rfl (by rw [hi63]; rfl) (by rw [hi63]; rfl) ?_
                refine z_iload_n (pc2 := 73) rfl dX11_sheet_72 rfl ?_
                refine z_iload_n (pc2 := 74) rfl dX11_sheet_73 rfl ?_
                refine z_if_ne (pc2 := 77) (tgt := 81) rfl dX11_sheet_74 (by decide) (fun hc60 => ?_) (fun hc60 => ?_)
                · replace h := ab_neg hc60 h
                  refine z_iload_n (pc2 := 82) rfl dX11_sheet_81 rfl ?_
                  obtain ⟨q61, hq61, h⟩ := ab_bnd h
                  refine z_callVv 77 [.int a2, .int a3] [some (.ref 77), some (.int a2), some (.int a3), none] (pc2 := 85) rfl rfl dX11_sheet_82 ok_X6_clear ⟨fun _ => rfl, fun _ => Nat.le_of_ble_eq_true rfl⟩ rfl rv_77 wd_903 wd_904 wd_905 rfl (e_X6_clear_77 hq61) ?_
                  refine z_iconst (pc2 := 86) rfl dX11_sheet_85 lt_i_1 ?_
                  exact z_iret dX11_sheet_86 rfl rfl (fi_w h)
                · replace h := ab_pos hc60 h
                  refine z_iconst (pc2 := 78) rfl dX11_sheet_77 lt_i_0 ?_
                  refine ab_goto (tgt := 82) dX11_sheet_78 (by decide) ?_
                  obtain ⟨q62, hq62, h⟩ := ab_bnd h
                  refine z_callVv 77 [.int a2, .int (0 : Int32)] [some (.ref 77), some (.int a2), some (.int (0 : Int32)), none] (pc2 := 85) rfl rfl dX11_sheet_82 ok_X6_clear ⟨fun _ => rfl, fun _ => Nat.le_of_ble_eq_true rfl⟩ rfl rv_77 wd_903 wd_904 wd_905 rfl (e_X6_clear_77 hq62) ?_
                  refine z_iconst (pc2 := 86) rfl dX11_sheet_85 lt_i_1 ?_
                  exact z_iret dX11_sheet_86 rfl rfl (fi_w h)
              · replace h := ab_neg hi63 h
                by_cases hi67 : a1 = (1 : Int32)
                · replace h := ab_pos hi67 h
                  refine z_aaldR 20 79 (pc2 := 72) rfl dX11_sheet_71 rfl rfl (by rw [hi67]; rfl) (by rw [hi67]; rfl) ?_
                  refine z_iload_n (pc2 := 73) rfl dX11_sheet_72 rfl ?_
                  refine z_iload_n (pc2 := 74) rfl dX11_sheet_73 rfl ?_
                  refine z_if_ne (pc2 := 77) (tgt := 81) rfl dX11_sheet_74 (by decide) (fun hc64 => ?_) (fun hc64 => ?_)
                  · replace h := ab_neg hc64 h
                    refine z_iload_n (pc2 := 82) rfl dX11_sheet_81 rfl ?_
                    obtain ⟨q65, hq65, h⟩ := ab_bnd h
                    refine z_callVv 79 [.int a2, .int a3] [some (.ref 79), some (.int a2), some (.int a3), none] (pc2 := 85) rfl rfl dX11_sheet_82 ok_X6_clear ⟨fun _ => rfl, fun _ => Nat.le_of_ble_eq_true rfl⟩ rfl rv_79 wd_903 wd_904 wd_905 rfl (e_X6_clear_79 hq65) ?_
                    refine z_iconst (pc2 := 86) rfl dX11_sheet_85 lt_i_1 ?_
                    exact z_iret dX11_sheet_86 rfl rfl (fi_w h)
                  · replace h := ab_pos hc64 h
                    refine z_iconst (pc2 := 78) rfl dX11_sheet_77 lt_i_0 ?_
                    refine ab_goto (tgt := 82) dX11_sheet_78 (by decide) ?_
                    obtain ⟨q66, hq66, h⟩ := ab_bnd h
                    refine z_callVv 79 [.int a2, .int (0 : Int32)] [some (.ref 79), some (.int a2), some (.int (0 : Int32)), none] (pc2 := 85) rfl rfl dX11_sheet_82 ok_X6_clear ⟨fun _ => rfl, fun _ => Nat.le_of_ble_eq_true rfl⟩ rfl rv_79 wd_903 wd_904 wd_905 rfl (e_X6_clear_79 hq66) ?_
                    refine z_iconst (pc2 := 86) rfl dX11_sheet_85 lt_i_1 ?_
                    exact z_iret dX11_sheet_86 rfl rfl (fi_w h)
                · replace h := ab_neg hi67 h
                  by_cases hi71 : a1 = (2 : Int32)
                  · replace h := ab_pos hi71 h
                    refine z_aaldR 20 81 (pc2 := 72) rfl dX11_sheet_71 rfl rfl (by rw [hi71]; rfl) (by rw [hi71]; rfl) ?_
                    refine z_iload_n (pc2 := 73) rfl dX11_sheet_72 rfl ?_
                    refine z_iload_n (pc2 := 74) rfl dX11_sheet_73 rfl ?_
                    refine z_if_ne (pc2 := 77) (tgt := 81) rfl dX11_sheet_74 (by decide) (fun hc68 => ?_) (fun hc68 => ?_)
                    · replace h := ab_neg hc68 h
                      refine z_iload_n (pc2 := 82) rfl dX11_sheet_81 rfl ?_
                      obtain ⟨q69, hq69, h⟩ := ab_bnd h
                      refine z_callVv 81 [.int a2, .int a3] [some (.ref 81), some (.int a2), some (.int a3), none] (pc2 := 85) rfl rfl dX11_sheet_82 ok_X6_clear ⟨fun _ => rfl, fun _ => Nat.le_of_ble_eq_true rfl⟩ rfl rv_81 wd_903 wd_904 wd_905 rfl (e_X6_clear_81 hq69) ?_
                      refine z_iconst (pc2 := 86) rfl dX11_sheet_85 lt_i_1 ?_
                      exact z_iret dX11_sheet_86 rfl rfl (fi_w h)
                    · replace h := ab_pos hc68 h
                      refine z_iconst (pc2 := 78) rfl dX11_sheet_77 lt_i_0 ?_
                      refine ab_goto (tgt := 82) dX11_sheet_78 (by decide) ?_
                      obtain ⟨q70, hq70, h⟩ := ab_bnd h
                      refine z_callVv 81 [.int a2, .int (0 : Int32)] [some (.ref 81), some (.int a2), some (.int (0 : Int32)), none] (pc2 := 85) rfl rfl dX11_sheet_82 ok_X6_clear ⟨fun _ => rfl, fun _ => Nat.le_of_ble_eq_true rfl⟩ rfl rv_81 wd_903 wd_904 wd_905 rfl (e_X6_clear_81 hq70) ?_
                      refine z_iconst (pc2 := 86) rfl dX11_sheet_85 lt_i_1 ?_
                      exact z_iret dX11_sheet_86 rfl rfl (fi_w h)
                  · replace h := ab_neg hi71 h
                    by_cases hi75 : a1 = (3 : Int32)
                    · replace h := ab_pos hi75 h
                      refine z_aaldR 20 83 (pc2 := 72) rfl dX11_sheet_71 rfl rfl (by rw [hi75]; rfl) (by rw [hi75]; rfl) ?_
                      refine z_iload_n (pc2 := 73) rfl dX11_sheet_72 rfl ?_
                      refine z_iload_n (pc2 := 74) rfl dX11_sheet_73 rfl ?_
                      refine z_if_ne (pc2 := 77) (tgt := 81) rfl dX11_sheet_74 (by decide) (fun hc72 => ?_) (fun hc72 => ?_)
                      · replace h := ab_neg hc72 h
                        refine z_iload_n (pc2 := 82) rfl dX11_sheet_81 rfl ?_
                        obtain ⟨q73, hq73, h⟩ := ab_bnd h
                        refine z_callVv 83 [.int a2, .int a3] [some (.ref 83), some (.int a2), some (.int a3), none] (pc2 := 85) rfl rfl dX11_sheet_82 ok_X6_clear ⟨fun _ => rfl, fun _ => Nat.le_of_ble_eq_true rfl⟩ rfl rv_83 wd_903 wd_904 wd_905 rfl (e_X6_clear_83 hq73) ?_
                        refine z_iconst (pc2 := 86) rfl dX11_sheet_85 lt_i_1 ?_
                        exact z_iret dX11_sheet_86 rfl rfl (fi_w h)
                      · replace h := ab_pos hc72 h
                        refine z_iconst (pc2 := 78) rfl dX11_sheet_77 lt_i_0 ?_
                        refine ab_goto (tgt := 82) dX11_sheet_78 (by decide) ?_
                        obtain ⟨q74, hq74, h⟩ := ab_bnd h
                        refine z_callVv 83 [.int a2, .int (0 : Int32)] [some (.ref 83), some (.int a2), some (.int (0 : Int32)), none] (pc2 := 85) rfl rfl dX11_sheet_82 ok_X6_clear ⟨fun _ => rfl, fun _ => Nat.le_of_ble_eq_true rfl⟩ rfl rv_83 wd_903 wd_904 wd_905 rfl (e_X6_clear_83 hq74) ?_
                        refine z_iconst (pc2 := 86) rfl dX11_sheet_85 lt_i_1 ?_
                        exact z_iret dX11_sheet_86 rfl rfl (fi_w h)
                    · replace h := ab_neg hi75 h
                      cases h
            · replace h := ab_neg hc59 h
              refine z_aload_n (pc2 := 61) rfl dX11_sheet_60 rfl ?_
              refine z_iconst (pc2 := 62) rfl dX11_sheet_61 lt_i_1 ?_
              obtain ⟨q76, hq76, h⟩ := ab_bnd h
              refine z_callVi 8 [.int (1 : Int32)] [some (.ref 8), some (.int (1 : Int32))] (pc2 := 65) rfl rfl dX11_sheet_62 ok_X11_refuse ⟨fun _ => rfl, fun _ => Nat.le_of_ble_eq_true rfl⟩ rfl rv_8 wd_346 wd_348 wd_0 rfl (e_X11_refuse hq76) ?_
              exact z_iret dX11_sheet_65 rfl rfl (fi_w h)
        · replace h := ab_neg hc41 h
          refine z_aload_n (pc2 := 45) rfl dX11_sheet_44 rfl ?_
          refine z_iconst (pc2 := 46) rfl dX11_sheet_45 lt_i_3 ?_
          obtain ⟨q77, hq77, h⟩ := ab_bnd h
          refine z_callVi 8 [.int (3 : Int32)] [some (.ref 8), some (.int (3 : Int32))] (pc2 := 49) rfl rfl dX11_sheet_46 ok_X11_refuse ⟨fun _ => rfl, fun _ => Nat.le_of_ble_eq_true rfl⟩ rfl rv_8 wd_346 wd_348 wd_0 rfl (e_X11_refuse hq77) ?_
          exact z_iret dX11_sheet_49 rfl rfl (fi_w h)
    · replace h := ab_neg hc4 h
      refine z_iload_n (pc2 := 13) rfl dX11_sheet_12 rfl ?_
      refine z_bipush (pc2 := 15) rfl dX11_sheet_13 lt_b_8 ?_
      refine z_icmp_eq (pc2 := 18) (tgt := 36) rfl dX11_sheet_15 (by decide) (fun hc78 => ?_) (fun hc78 => ?_)
      · replace h := ab_pos hc78 h
        refine z_iload_n (pc2 := 37) rfl dX11_sheet_36 rfl ?_
        refine z_if_eq (pc2 := 40) (tgt := 50) rfl dX11_sheet_37 (by decide) (fun hc79 => ?_) (fun hc79 => ?_)
        · replace h := ab_pos hc79 h
          refine z_iload_n (pc2 := 51) rfl dX11_sheet_50 rfl ?_
          refine z_if_eq (pc2 := 54) (tgt := 66) rfl dX11_sheet_51 (by decide) (fun hc80 => ?_) (fun hc80 => ?_)
          · replace h := ab_pos hc80 h
            refine z_aload_n (pc2 := 67) rfl dX11_sheet_66 rfl ?_
            refine z_getR 8 11 8 20 (pc2 := 70) rfl dX11_sheet_67 rfl rfl ff_11_8 wd_310 rfl ?_
            refine z_iload_n (pc2 := 71) rfl dX11_sheet_70 rfl ?_
            by_cases hi84 : a1 = (0 : Int32)
            · replace h := ab_pos hi84 h
              refine z_aaldR 20 77 (pc2 := 72) rfl dX11_sheet_71 rfl rfl (by rw [hi84]; rfl) (by rw [hi84]; rfl) ?_
              refine z_iload_n (pc2 := 73) rfl dX11_sheet_72 rfl ?_
              refine z_iload_n (pc2 := 74) rfl dX11_sheet_73 rfl ?_
              refine z_if_ne (pc2 := 77) (tgt := 81) rfl dX11_sheet_74 (by decide) (fun hc81 => ?_) (fun hc81 => ?_)
              · replace h := ab_neg hc81 h
                refine z_iload_n (pc2 := 82) rfl dX11_sheet_81 rfl ?_
                obtain ⟨q82, hq82, h⟩ := ab_bnd h
                refine z_callVv 77 [.int a2, .int a3] [some (.ref 77), some (.int a2), some (.int a3), none] (pc2 := 85) rfl rfl dX11_sheet_82 ok_X6_clear ⟨fun _ => rfl, fun _ => Nat.le_of_ble_eq_true rfl⟩ rfl rv_77 wd_903 wd_904 wd_905 rfl (e_X6_clear_77 hq82) ?_
                refine z_iconst (pc2 := 86) rfl dX11_sheet_85 lt_i_1 ?_
                exact z_iret dX11_sheet_86 rfl rfl (fi_w h)
              · replace h := ab_pos hc81 h
                refine z_iconst (pc2 := 78) rfl dX11_sheet_77 lt_i_0 ?_
                refine ab_goto (tgt := 82) dX11_sheet_78 (by decide) ?_
                obtain ⟨q83, hq83, h⟩ := ab_bnd h
                refine z_callVv 77 [.int a2, .int (0 : Int32)] [some (.ref 77), some (.int a2), some (.int (0 : Int32)), none] (pc2 := 85) rfl rfl dX11_sheet_82 ok_X6_clear ⟨fun _ => rfl, fun _ => Nat.le_of_ble_eq_true rfl⟩ rfl rv_77 wd_903 wd_904 wd_905 rfl (e_X6_clear_77 hq83) ?_
                refine z_iconst (pc2 := 86) rfl dX11_sheet_85 lt_i_1 ?_
                exact z_iret dX11_sheet_86 rfl rfl (fi_w h)
            · replace h := ab_neg hi84 h
              by_cases hi88 : a1 = (1 : Int32)
              · replace h := ab_pos hi88 h
                refine z_aaldR 20 79 (pc2 := 72) rfl dX11_sheet_71 rfl rfl (by rw [hi88]; rfl) (by rw [hi88]; rfl) ?_
                refine z_iload_n (pc2 := 73) rfl dX11_sheet_72 rfl ?_
                refine z_iload_n (pc2 := 74) rfl dX11_sheet_73 rfl ?_
                refine z_if_ne (pc2 := 77) (tgt := 81) rfl dX11_sheet_74 (by decide) (fun hc85 => ?_) (fun hc85 => ?_)
                · replace h := ab_neg hc85 h
                  refine z_iload_n (pc2 := 82) rfl dX11_sheet_81 rfl ?_
                  obtain ⟨q86, hq86, h⟩ := ab_bnd h
                  refine z_callVv 79 [.int a2, .int a3] [some (.ref 79), some (.int a2), some (.int a3), none] (pc2 := 85) rfl rfl dX11_sheet_82 ok_X6_clear ⟨fun _ => rfl, fun _ => Nat.le_of_ble_eq_true rfl⟩ rfl rv_79 wd_903 wd_904 wd_905 rfl (e_X6_clear_79 hq86) ?_
                  refine z_iconst (pc2 := 86) rfl dX11_sheet_85 lt_i_1 ?_
                  exact z_iret dX11_sheet_86 rfl rfl (fi_w h)
                · replace h := ab_pos hc85 h
                  refine z_iconst (pc2 := 78) rfl dX11_sheet_77 lt_i_0 ?_
                  refine ab_goto (tgt := 82) dX11_sheet_78 (by decide) ?_
                  obtain ⟨q87, hq87, h⟩ := ab_bnd h
                  refine z_callVv 79 [.int a2, .int (0 : Int32)] [some (.ref 79), some (.int a2), some (.int (0 : Int32)), none] (pc2 := 85) rfl rfl dX11_sheet_82 ok_X6_clear ⟨fun _ => rfl, fun _ => Nat.le_of_ble_eq_true rfl⟩ rfl rv_79 wd_903 wd_904 wd_905 rfl (e_X6_clear_79 hq87) ?_
                  refine z_iconst (pc2 := 86) rfl dX11_sheet_85 lt_i_1 ?_
                  exact z_iret dX11_sheet_86 rfl rfl (fi_w h)
              · replace h := ab_neg hi88 h
                by_cases hi92 : a1 = (2 : Int32)
                · replace h := ab_pos hi92 h
                  refine z_aaldR 20 81 (pc2 := 72) rfl dX11_sheet_71 rfl rfl (by rw [hi92]; rfl) (by rw [hi92]; rfl) ?_
                  refine z_iload_n (pc2 := 73) rfl dX11_sheet_72 rfl ?_
                  refine z_iload_n (pc2 := 74) rfl dX11_sheet_73 rfl ?_
                  refine z_if_ne (pc2 := 77) (tgt := 81) rfl dX11_sheet_74 (by decide) (fun hc89 => ?_) (fun hc89 => ?_)
                  · replace h := ab_neg hc89 h
                    refine z_iload_n (pc2 := 82) rfl dX11_sheet_81 rfl ?_
                    obtain ⟨q90, hq90, h⟩ := ab_bnd h
                    refine z_callVv 81 [.int a2, .int a3] [some (.ref 81), some (.int a2), some (.int a3), none] (pc2 := 85) rfl rfl dX11_sheet_82 ok_X6_clear ⟨fun _ => rfl, fun _ => Nat.le_of_ble_eq_true rfl⟩ rfl rv_81 wd_903 wd_904 wd_905 rfl (e_X6_clear_81 hq90) ?_
                    refine z_iconst (pc2 := 86) rfl dX11_sheet_85 lt_i_1 ?_
                    exact z_iret dX11_sheet_86 rfl rfl (fi_w h)
                  · replace h := ab_pos hc89 h
                    refine z_iconst (pc2 := 78) rfl dX11_sheet_77 lt_i_0 ?_
                    refine ab_goto (tgt := 82) dX11_sheet_78 (by decide) ?_
                    obtain ⟨q91, hq91, h⟩ := ab_bnd h
                    refine z_callVv 81 [.int a2, .int (0 : Int32)] [some (.ref 81), some (.int a2), some (.int (0 : Int32)), none] (pc2 := 85) rfl rfl dX11_sheet_82 ok_X6_clear ⟨fun _ => rfl, fun _ => Nat.le_of_ble_eq_true rfl⟩ rfl rv_81 wd_903 wd_904 wd_905 rfl (e_X6_clear_81 hq91) ?_
                    refine z_iconst (pc2 := 86) rfl dX11_sheet_85 lt_i_1 ?_
                    exact z_iret dX11_sheet_86 rfl rfl (fi_w h)
                · replace h := ab_neg hi92 h
                  by_cases hi96 : a1 = (3 : Int32)
                  · replace h := ab_pos hi96 h
                    refine z_aaldR 20 83 (pc2 := 72) rfl dX11_sheet_71 rfl rfl (by rw [hi96]; rfl) (by rw [hi96]; rfl) ?_
                    refine z_iload_n (pc2 := 73) rfl dX11_sheet_72 rfl ?_
                    refine z_iload_n (pc2 := 74) rfl dX11_sheet_73 rfl ?_
                    refine z_if_ne (pc2 := 77) (tgt := 81) rfl dX11_sheet_74 (by decide) (fun hc93 => ?_) (fun hc93 => ?_)
                    · replace h := ab_neg hc93 h
                      refine z_iload_n (pc2 := 82) rfl dX11_sheet_81 rfl ?_
                      obtain ⟨q94, hq94, h⟩ := ab_bnd h
                      refine z_callVv 83 [.int a2, .int a3] [some (.ref 83), some (.int a2), some (.int a3), none] (pc2 := 85) rfl rfl dX11_sheet_82 ok_X6_clear ⟨fun _ => rfl, fun _ => Nat.le_of_ble_eq_true rfl⟩ rfl rv_83 wd_903 wd_904 wd_905 rfl (e_X6_clear_83 hq94) ?_
                      refine z_iconst (pc2 := 86) rfl dX11_sheet_85 lt_i_1 ?_
                      exact z_iret dX11_sheet_86 rfl rfl (fi_w h)
                    · replace h := ab_pos hc93 h
                      refine z_iconst (pc2 := 78) rfl dX11_sheet_77 lt_i_0 ?_
                      refine ab_goto (tgt := 82) dX11_sheet_78 (by decide) ?_
                      obtain ⟨q95, hq95, h⟩ := ab_bnd h
                      refine z_callVv 83 [.int a2, .int (0 : Int32)] [some (.ref 83), some (.int a2), some (.int (0 : Int32)), none] (pc2 := 85) rfl rfl dX11_sheet_82 ok_X6_clear ⟨fun _ => rfl, fun _ => Nat.le_of_ble_eq_true rfl⟩ rfl rv_83 wd_903 wd_904 wd_905 rfl (e_X6_clear_83 hq95) ?_
                      refine z_iconst (pc2 := 86) rfl dX11_sheet_85 lt_i_1 ?_
                      exact z_iret dX11_sheet_86 rfl rfl (fi_w h)
                  · replace h := ab_neg hi96 h
                    cases h
          · replace h := ab_neg hc80 h
            refine z_iload_n (pc2 := 55) rfl dX11_sheet_54 rfl ?_
            refine z_bipush (pc2 := 57) rfl dX11_sheet_55 lt_b_24 ?_
            refine z_icmp_le (pc2 := 60) (tgt := 66) rfl dX11_sheet_57 (by decide) (fun hc97 => ?_) (fun hc97 => ?_)
            · replace h := ab_pos hc97 h
              refine z_aload_n (pc2 := 67) rfl dX11_sheet_66 rfl ?_
              refine z_getR 8 11 8 20 (pc2 := 70) rfl dX11_sheet_67 rfl rfl ff_11_8 wd_310 rfl ?_
              refine z_iload_n (pc2 := 71) rfl dX11_sheet_70 rfl ?_
              by_cases hi101 : a1 = (0 : Int32)
              · replace h := ab_pos hi101 h
                refine z_aaldR 20 77 (pc2 := 72) rfl dX11_sheet_71 rfl rfl (by rw [hi101]; rfl) (by rw [hi101]; rfl) ?_
                refine z_iload_n (pc2 := 73) rfl dX11_sheet_72 rfl ?_
                refine z_iload_n (pc2 := 74) rfl dX11_sheet_73 rfl ?_
                refine z_if_ne (pc2 := 77) (tgt := 81) rfl dX11_sheet_74 (by decide) (fun hc98 => ?_) (fun hc98 => ?_)
                · replace h := ab_neg hc98 h
                  refine z_iload_n (pc2 := 82) rfl dX11_sheet_81 rfl ?_
                  obtain ⟨q99, hq99, h⟩ := ab_bnd h
                  refine z_callVv 77 [.int a2, .int a3] [some (.ref 77), some (.int a2), some (.int a3), none] (pc2 := 85) rfl rfl dX11_sheet_82 ok_X6_clear ⟨fun _ => rfl, fun _ => Nat.le_of_ble_eq_true rfl⟩ rfl rv_77 wd_903 wd_904 wd_905 rfl (e_X6_clear_77 hq99) ?_
                  refine z_iconst (pc2 := 86) rfl dX11_sheet_85 lt_i_1 ?_
                  exact z_iret dX11_sheet_86 rfl rfl (fi_w h)
                · replace h := ab_pos hc98 h
                  refine z_iconst (pc2 := 78) rfl dX11_sheet_77 lt_i_0 ?_
                  refine ab_goto (tgt := 82) dX11_sheet_78 (by decide) ?_
                  obtain ⟨q100, hq100, h⟩ := ab_bnd h
                  refine z_callVv 77 [.int a2, .int (0 : Int32)] [some (.ref 77), some (.int a2), some (.int (0 : Int32)), none] (pc2 := 85) rfl rfl dX11_sheet_82 ok_X6_clear ⟨fun _ => rfl, fun _ => Nat.le_of_ble_eq_true rfl⟩ rfl rv_77 wd_903 wd_904 wd_905 rfl (e_X6_clear_77 hq100) ?_
                  refine z_iconst (pc2 := 86) rfl dX11_sheet_85 lt_i_1 ?_
                  exact z_iret dX11_sheet_86 rfl rfl (fi_w h)
              · replace h := ab_neg hi101 h
                by_cases hi105 : a1 = (1 : Int32)
                · replace h := ab_pos hi105 h
                  refine z_aaldR 20 79 (pc2 := 72) rfl dX11_sheet_71 rfl rfl (by rw [hi105]; rfl) (by rw [hi105]; rfl) ?_
                  refine z_iload_n (pc2 := 73) rfl dX11_sheet_72 rfl ?_
                  refine z_iload_n (pc2 := 74) rfl dX11_sheet_73 rfl ?_
                  refine z_if_ne (pc2 := 77) (tgt := 81) rfl dX11_sheet_74 (by decide) (fun hc102 => ?_) (fun hc102 => ?_)
                  · replace h := ab_neg hc102 h
                    refine z_iload_n (pc2 := 82) rfl dX11_sheet_81 rfl ?_
                    obtain ⟨q103, hq103, h⟩ := ab_bnd h
                    refine z_callVv 79 [.int a2, .int a3] [some (.ref 79), some (.int a2), some (.int a3), none] (pc2 := 85) rfl rfl dX11_sheet_82 ok_X6_clear ⟨fun _ => rfl, fun _ => Nat.le_of_ble_eq_true rfl⟩ rfl rv_79 wd_903 wd_904 wd_905 rfl (e_X6_clear_79 hq103) ?_
                    refine z_iconst (pc2 := 86) rfl dX11_sheet_85 lt_i_1 ?_
                    exact z_iret dX11_sheet_86 rfl rfl (fi_w h)
                  · replace h := ab_pos hc102 h
                    refine z_iconst (pc2 := 78) rfl dX11_sheet_77 lt_i_0 ?_
                    refine ab_goto (tgt := 82) dX11_sheet_78 (by decide) ?_
                    obtain ⟨q104, hq104, h⟩ := ab_bnd h
                    refine z_callVv 79 [.int a2, .int (0 : Int32)] [some (.ref 79), some (.int a2), some (.int (0 : Int32)), none] (pc2 := 85) rfl rfl dX11_sheet_82 ok_X6_clear ⟨fun _ => rfl, fun _ => Nat.le_of_ble_eq_true rfl⟩ rfl rv_79 wd_903 wd_904 wd_905 rfl (e_X6_clear_79 hq104) ?_
                    refine z_iconst (pc2 := 86) rfl dX11_sheet_85 lt_i_1 ?_
                    exact z_iret dX11_sheet_86 rfl rfl (fi_w h)
                · replace h := ab_neg hi105 h
                  by_cases hi109 : a1 = (2 : Int32)
                  · replace h := ab_pos hi109 h
                    refine z_aaldR 20 81 (pc2 := 72) rfl dX11_sheet_71 rfl rfl (by rw [hi109]; rfl) (by rw [hi109]; rfl) ?_
                    refine z_iload_n (pc2 := 73) rfl dX11_sheet_72 rfl ?_
                    refine z_iload_n (pc2 := 74) rfl dX11_sheet_73 rfl ?_
                    refine z_if_ne (pc2 := 77) (tgt := 81) rfl dX11_sheet_74 (by decide) (fun hc106 => ?_) (fun hc106 => ?_)
                    · replace h := ab_neg hc106 h
                      refine z_iload_n (pc2 := 82) rfl dX11_sheet_81 rfl ?_
                      obtain ⟨q107, hq107, h⟩ := ab_bnd h
                      refine z_callVv 81 [.int a2, .int a3] [some (.ref 81), some (.int a2), some (.int a3), none] (pc2 := 85) rfl rfl dX11_sheet_82 ok_X6_clear ⟨fun _ => rfl, fun _ => Nat.le_of_ble_eq_true rfl⟩ rfl rv_81 wd_903 wd_904 wd_905 rfl (e_X6_clear_81 hq107) ?_
                      refine z_iconst (pc2 := 86) rfl dX11_sheet_85 lt_i_1 ?_
                      exact z_iret dX11_sheet_86 rfl rfl (fi_w h)
                    · replace h := ab_pos hc106 h
                      refine z_iconst (pc2 := 78) rfl dX11_sheet_77 lt_i_0 ?_
                      refine ab_goto (tgt := 82) dX11_sheet_78 (by decide) ?_
                      obtain ⟨q108, hq108, h⟩ := ab_bnd h
                      refine z_callVv 81 [.int a2, .int (0 : Int32)] [some (.ref 81), some (.int a2), some (.int (0 : Int32)), none] (pc2 := 85) rfl rfl dX11_sheet_82 ok_X6_clear ⟨fun _ => rfl, fun _ => Nat.le_of_ble_eq_true rfl⟩ rfl rv_81 wd_903 wd_904 wd_905 rfl (e_X6_clear_81 hq108) ?_
                      refine z_iconst (pc2 := 86) rfl dX11_sheet_85 lt_i_1 ?_
                      exact z_iret dX11_sheet_86 rfl rfl (fi_w h)
                  · replace h := ab_neg hi109 h
                    by_cases hi113 : a1 = (3 : Int32)
                    · replace h := ab_pos hi113 h
                      refine z_aaldR 20 83 (pc2 := 72) rfl dX11_sheet_71 rfl rfl (by rw [hi113]; rfl) (by rw [hi113]; rfl) ?_
                      refine z_iload_n (pc2 := 73) rfl dX11_sheet_72 rfl ?_
                      refine z_iload_n (pc2 := 74) rfl dX11_sheet_73 rfl ?_
                      refine z_if_ne (pc2 := 77) (tgt := 81) rfl dX11_sheet_74 (by decide) (fun hc110 => ?_) (fun hc110 => ?_)
                      · replace h := ab_neg hc110 h
                        refine z_iload_n (pc2 := 82) rfl dX11_sheet_81 rfl ?_
                        obtain ⟨q111, hq111, h⟩ := ab_bnd h
                        refine z_callVv 83 [.int a2, .int a3] [some (.ref 83), some (.int a2), some (.int a3), none] (pc2 := 85) rfl rfl dX11_sheet_82 ok_X6_clear ⟨fun _ => rfl, fun _ => Nat.le_of_ble_eq_true rfl⟩ rfl rv_83 wd_903 wd_904 wd_905 rfl (e_X6_clear_83 hq111) ?_
                        refine z_iconst (pc2 := 86) rfl dX11_sheet_85 lt_i_1 ?_
                        exact z_iret dX11_sheet_86 rfl rfl (fi_w h)
                      · replace h := ab_pos hc110 h
                        refine z_iconst (pc2 := 78) rfl dX11_sheet_77 lt_i_0 ?_
                        refine ab_goto (tgt := 82) dX11_sheet_78 (by decide) ?_
                        obtain ⟨q112, hq112, h⟩ := ab_bnd h
                        refine z_callVv 83 [.int a2, .int (0 : Int32)] [some (.ref 83), some (.int a2), some (.int (0 : Int32)), none] (pc2 := 85) rfl rfl dX11_sheet_82 ok_X6_clear ⟨fun _ => rfl, fun _ => Nat.le_of_ble_eq_true rfl⟩ rfl rv_83 wd_903 wd_904 wd_905 rfl (e_X6_clear_83 hq112) ?_
                        refine z_iconst (pc2 := 86) rfl dX11_sheet_85 lt_i_1 ?_
                        exact z_iret dX11_sheet_86 rfl rfl (fi_w h)
                    · replace h := ab_neg hi113 h
                      cases h
            · replace h := ab_neg hc97 h
              refine z_aload_n (pc2 := 61) rfl dX11_sheet_60 rfl ?_
              refine z_iconst (pc2 := 62) rfl dX11_sheet_61 lt_i_1 ?_
              obtain ⟨q114, hq114, h⟩ := ab_bnd h
              refine z_callVi 8 [.int (1 : Int32)] [some (.ref 8), some (.int (1 : Int32))] (pc2 := 65) rfl rfl dX11_sheet_62 ok_X11_refuse ⟨fun _ => rfl, fun _ => Nat.le_of_ble_eq_true rfl⟩ rfl rv_8 wd_346 wd_348 wd_0 rfl (e_X11_refuse hq114) ?_
              exact z_iret dX11_sheet_65 rfl rfl (fi_w h)
        · replace h := ab_neg hc79 h
          refine z_iload_n (pc2 := 41) rfl dX11_sheet_40 rfl ?_
          refine z_if_ge (pc2 := 44) (tgt := 50) rfl dX11_sheet_41 (by decide) (fun hc115 => ?_) (fun hc115 => ?_)
          · replace h := ab_pos hc115 h
            refine z_iload_n (pc2 := 51) rfl dX11_sheet_50 rfl ?_
            refine z_if_eq (pc2 := 54) (tgt := 66) rfl dX11_sheet_51 (by decide) (fun hc116 => ?_) (fun hc116 => ?_)
            · replace h := ab_pos hc116 h
              refine z_aload_n (pc2 := 67) rfl dX11_sheet_66 rfl ?_
              refine z_getR 8 11 8 20 (pc2 := 70) rfl dX11_sheet_67 rfl rfl ff_11_8 wd_310 rfl ?_
              refine z_iload_n (pc2 := 71) rfl dX11_sheet_70 rfl ?_
              by_cases hi120 : a1 = (0 : Int32)
              · replace h := ab_pos hi120 h
                refine z_aaldR 20 77 (pc2 := 72) rfl dX11_sheet_71 rfl rfl (by rw [hi120]; rfl) (by rw [hi120]; rfl) ?_
                refine z_iload_n (pc2 := 73) rfl dX11_sheet_72 rfl ?_
                refine z_iload_n (pc2 := 74) rfl dX11_sheet_73 rfl ?_
                refine z_if_ne (pc2 := 77) (tgt := 81) rfl dX11_sheet_74 (by decide) (fun hc117 => ?_) (fun hc117 => ?_)
                · replace h := ab_neg hc117 h
                  refine z_iload_n (pc2 := 82) rfl dX11_sheet_81 rfl ?_
                  obtain ⟨q118, hq118, h⟩ := ab_bnd h
                  refine z_callVv 77 [.int a2, .int a3] [some (.ref 77), some (.int a2), some (.int a3), none] (pc2 := 85) rfl rfl dX11_sheet_82 ok_X6_clear ⟨fun _ => rfl, fun _ => Nat.le_of_ble_eq_true rfl⟩ rfl rv_77 wd_903 wd_904 wd_905 rfl (e_X6_clear_77 hq118) ?_
                  refine z_iconst (pc2 := 86) rfl dX11_sheet_85 lt_i_1 ?_
                  exact z_iret dX11_sheet_86 rfl rfl (fi_w h)
                · replace h := ab_pos hc117 h
                  refine z_iconst (pc2 := 78) rfl dX11_sheet_77 lt_i_0 ?_
                  refine ab_goto (tgt := 82) dX11_sheet_78 (by decide) ?_
                  obtain ⟨q119, hq119, h⟩ := ab_bnd h
                  refine z_callVv 77 [.int a2, .int (0 : Int32)] [some (.ref 77), some (.int a2), some (.int (0 : Int32)), none] (pc2 := 85) rfl rfl dX11_sheet_82 ok_X6_clear ⟨fun _ => rfl, fun _ => Nat.le_of_ble_eq_true rfl⟩ rfl rv_77 wd_903 wd_904 wd_905 rfl (e_X6_clear_77 hq119) ?_
                  refine z_iconst (pc2 := 86) rfl dX11_sheet_85 lt_i_1 ?_
                  exact z_iret dX11_sheet_86 rfl rfl (fi_w h)
              · replace h := ab_neg hi120 h
                by_cases hi124 : a1 = (1 : Int32)
                · replace h := ab_pos hi124 h
                  refine z_aaldR 20 79 (pc2 := 72) rfl dX11_sheet_71 rfl rfl (by rw [hi124]; rfl) (by rw [hi124]; rfl) ?_
                  refine z_iload_n (pc2 := 73) rfl dX11_sheet_72 rfl ?_
                  refine z_iload_n (pc2 := 74) rfl dX11_sheet_73 rfl ?_
                  refine z_if_ne (pc2 := 77) (tgt := 81) rfl dX11_sheet_74 (by decide) (fun hc121 => ?_) (fun hc121 => ?_)
                  · replace h := ab_neg hc121 h
                    refine z_iload_n (pc2 := 82) rfl dX11_sheet_81 rfl ?_
                    obtain ⟨q122, hq122, h⟩ := ab_bnd h
                    refine z_callVv 79 [.int a2, .int a3] [some (.ref 79), some (.int a2), some (.int a3), none] (pc2 := 85) rfl rfl dX11_sheet_82 ok_X6_clear ⟨fun _ => rfl, fun _ => Nat.le_of_ble_eq_true rfl⟩ rfl rv_79 wd_903 wd_904 wd_905 rfl (e_X6_clear_79 hq122) ?_
                    refine z_iconst (pc2 := 86) rfl dX11_sheet_85 lt_i_1 ?_
                    exact z_iret dX11_sheet_86 rfl rfl (fi_w h)
                  · replace h := ab_pos hc121 h
                    refine z_iconst (pc2 := 78) rfl dX11_sheet_77 lt_i_0 ?_
                    refine ab_goto (tgt := 82) dX11_sheet_78 (by decide) ?_
                    obtain ⟨q123, hq123, h⟩ := ab_bnd h
                    refine z_callVv 79 [.int a2, .int (0 : Int32)] [some (.ref 79), some (.int a2), some (.int (0 : Int32)), none] (pc2 := 85) rfl rfl dX11_sheet_82 ok_X6_clear ⟨fun _ => rfl, fun _ => Nat.le_of_ble_eq_true rfl⟩ rfl rv_79 wd_903 wd_904 wd_905 rfl (e_X6_clear_79 hq123) ?_
                    refine z_iconst (pc2 := 86) rfl dX11_sheet_85 lt_i_1 ?_
                    exact z_iret dX11_sheet_86 rfl rfl (fi_w h)
                · replace h := ab_neg hi124 h
                  by_cases hi128 : a1 = (2 : Int32)
                  · replace h := ab_pos hi128 h
                    refine z_aaldR 20 81 (pc2 := 72) rfl dX11_sheet_71 rfl rfl (by rw [hi128]; rfl) (by rw [hi128]; rfl) ?_
                    refine z_iload_n (pc2 := 73) rfl dX11_sheet_72 rfl ?_
                    refine z_iload_n (pc2 := 74) rfl dX11_sheet_73 rfl ?_
                    refine z_if_ne (pc2 := 77) (tgt := 81) rfl dX11_sheet_74 (by decide) (fun hc125 => ?_) (fun hc125 => ?_)
                    · replace h := ab_neg hc125 h
                      refine z_iload_n (pc2 := 82) rfl dX11_sheet_81 rfl ?_
                      obtain ⟨q126, hq126, h⟩ := ab_bnd h
                      refine z_callVv 81 [.int a2, .int a3] [some (.ref 81), some (.int a2), some (.int a3), none] (pc2 := 85) rfl rfl dX11_sheet_82 ok_X6_clear ⟨fun _ => rfl, fun _ => Nat.le_of_ble_eq_true rfl⟩ rfl rv_81 wd_903 wd_904 wd_905 rfl (e_X6_clear_81 hq126) ?_
                      refine z_iconst (pc2 := 86) rfl dX11_sheet_85 lt_i_1 ?_
                      exact z_iret dX11_sheet_86 rfl rfl (fi_w h)
                    · replace h := ab_pos hc125 h
                      refine z_iconst (pc2 := 78) rfl dX11_sheet_77 lt_i_0 ?_
                      refine ab_goto (tgt := 82) dX11_sheet_78 (by decide) ?_
                      obtain ⟨q127, hq127, h⟩ := ab_bnd h
                      refine z_callVv 81 [.int a2, .int (0 : Int32)] [some (.ref 81), some (.int a2), some (.int (0 : Int32)), none] (pc2 := 85) rfl rfl dX11_sheet_82 ok_X6_clear ⟨fun _ => rfl, fun _ => Nat.le_of_ble_eq_true rfl⟩ rfl rv_81 wd_903 wd_904 wd_905 rfl (e_X6_clear_81 hq127) ?_
                      refine z_iconst (pc2 := 86) rfl dX11_sheet_85 lt_i_1 ?_
                      exact z_iret dX11_sheet_86 rfl rfl (fi_w h)
                  · replace h := ab_neg hi128 h
                    by_cases hi132 : a1 = (3 : Int32)
                    · replace h := ab_pos hi132 h
                      refine z_aaldR 20 83 (pc2 := 72) rfl dX11_sheet_71 rfl rfl (by rw [hi132]; rfl) (by rw [hi132]; rfl) ?_
                      refine z_iload_n (pc2 := 73) rfl dX11_sheet_72 rfl ?_
                      refine z_iload_n (pc2 := 74) rfl dX11_sheet_73 rfl ?_
                      refine z_if_ne (pc2 := 77) (tgt := 81) rfl dX11_sheet_74 (by decide) (fun hc129 => ?_) (fun hc129 => ?_)
                      · replace h := ab_neg hc129 h
                        refine z_iload_n (pc2 := 82) rfl dX11_sheet_81 rfl ?_
                        obtain ⟨q130, hq130, h⟩ := ab_bnd h
                        refine z_callVv 83 [.int a2, .int a3] [some (.ref 83), some (.int a2), some (.int a3), none] (pc2 := 85) rfl rfl dX11_sheet_82 ok_X6_clear ⟨fun _ => rfl, fun _ => Nat.le_of_ble_eq_true rfl⟩ rfl rv_83 wd_903 wd_904 wd_905 rfl (e_X6_clear_83 hq130) ?_
                        refine z_iconst (pc2 := 86) rfl dX11_sheet_85 lt_i_1 ?_
                        exact z_iret dX11_sheet_86 rfl rfl (fi_w h)
                      · replace h := ab_pos hc129 h
                        refine z_iconst (pc2 := 78) rfl dX11_sheet_77 lt_i_0 ?_
                        refine ab_goto (tgt := 82) dX11_sheet_78 (by decide) ?_
                        obtain ⟨q131, hq131, h⟩ := ab_bnd h
                        refine z_callVv 83 [.int a2, .int (0 : Int32)] [some (.ref 83), some (.int a2), some (.int (0 : Int32)), none] (pc2 := 85) rfl rfl dX11_sheet_82 ok_X6_clear ⟨fun _ => rfl, fun _ => Nat.le_of_ble_eq_true rfl⟩ rfl rv_83 wd_903 wd_904 wd_905 rfl (e_X6_clear_83 hq131) ?_
                        refine z_iconst (pc2 := 86) rfl dX11_sheet_85 lt_i_1 ?_
                        exact z_iret dX11_sheet_86 rfl rfl (fi_w h)
                    · replace h := ab_neg hi132 h
                      cases h
            · replace h := ab_neg hc116 h
              refine z_iload_n (pc2 := 55) rfl dX11_sheet_54 rfl ?_
              refine z_bipush (pc2 := 57) rfl dX11_sheet_55 lt_b_24 ?_
              refine z_icmp_le (pc2 := 60) (tgt := 66) rfl dX11_sheet_57 (by decide) (fun hc133 => ?_) (fun hc133 => ?_)
              · replace h := ab_pos hc133 h
                refine z_aload_n (pc2 := 67) rfl dX11_sheet_66 rfl ?_
                refine z_getR 8 11 8 20 (pc2 := 70) rfl dX11_sheet_67 rfl rfl ff_11_8 wd_310 rfl ?_
                refine z_iload_n (pc2 := 71) rfl dX11_sheet_70 rfl ?_
                by_cases hi137 : a1 = (0 : Int32)
                · replace h := ab_pos hi137 h
                  refine z_aaldR 20 77 (pc2 := 72) rfl dX11_sheet_71 rfl rfl (by rw [hi137]; rfl) (by rw [hi137]; rfl) ?_
                  refine z_iload_n (pc2 := 73) rfl dX11_sheet_72 rfl ?_
                  refine z_iload_n (pc2 := 74) rfl dX11_sheet_73 rfl ?_
                  refine z_if_ne (pc2 := 77) (tgt := 81) rfl dX11_sheet_74 (by decide) (fun hc134 => ?_) (fun hc134 => ?_)
                  · replace h := ab_neg hc134 h
                    refine z_iload_n (pc2 := 82) rfl dX11_sheet_81 rfl ?_
                    obtain ⟨q135, hq135, h⟩ := ab_bnd h
                    refine z_callVv 77 [.int a2, .int a3] [some (.ref 77), some (.int a2), some (.int a3), none] (pc2 := 85) rfl rfl dX11_sheet_82 ok_X6_clear ⟨fun _ => rfl, fun _ => Nat.le_of_ble_eq_true rfl⟩ rfl rv_77 wd_903 wd_904 wd_905 rfl (e_X6_clear_77 hq135) ?_
                    refine z_iconst (pc2 := 86) rfl dX11_sheet_85 lt_i_1 ?_
                    exact z_iret dX11_sheet_86 rfl rfl (fi_w h)
                  · replace h := ab_pos hc134 h
                    refine z_iconst (pc2 := 78) rfl dX11_sheet_77 lt_i_0 ?_
                    refine ab_goto (tgt := 82) dX11_sheet_78 (by decide) ?_
                    obtain ⟨q136, hq136, h⟩ := ab_bnd h
                    refine z_callVv 77 [.int a2, .int (0 : Int32)] [some (.ref 77), some (.int a2), some (.int (0 : Int32)), none] (pc2 := 85) rfl rfl dX11_sheet_82 ok_X6_clear ⟨fun _ => rfl, fun _ => Nat.le_of_ble_eq_true rfl⟩ rfl rv_77 wd_903 wd_904 wd_905 rfl (e_X6_clear_77 hq136) ?_
                    refine z_iconst (pc2 := 86) rfl dX11_sheet_85 lt_i_1 ?_
                    exact z_iret dX11_sheet_86 rfl rfl (fi_w h)
                · replace h := ab_neg hi137 h
                  by_cases hi141 : a1 = (1 : Int32)
                  · replace h := ab_pos hi141 h
                    refine z_aaldR 20 79 (pc2 := 72) rfl dX11_sheet_71 rfl rfl (by rw [hi141]; rfl) (by rw [hi141]; rfl) ?_
                    refine z_iload_n (pc2 := 73) rfl dX11_sheet_72 rfl ?_
                    refine z_iload_n (pc2 := 74) rfl dX11_sheet_73 rfl ?_
                    refine z_if_ne (pc2 := 77) (tgt := 81) rfl dX11_sheet_74 (by decide) (fun hc138 => ?_) (fun hc138 => ?_)
                    · replace h := ab_neg hc138 h
                      refine z_iload_n (pc2 := 82) rfl dX11_sheet_81 rfl ?_
                      obtain ⟨q139, hq139, h⟩ := ab_bnd h
                      refine z_callVv 79 [.int a2, .int a3] [some (.ref 79), some (.int a2), some (.int a3), none] (pc2 := 85) rfl rfl dX11_sheet_82 ok_X6_clear ⟨fun _ => rfl, fun _ => Nat.le_of_ble_eq_true rfl⟩ rfl rv_79 wd_903 wd_904 wd_905 rfl (e_X6_clear_79 hq139) ?_
                      refine z_iconst (pc2 := 86) rfl dX11_sheet_85 lt_i_1 ?_
                      exact z_iret dX11_sheet_86 rfl rfl (fi_w h)
                    · replace h := ab_pos hc138 h
                      refine z_iconst (pc2 := 78) rfl dX11_sheet_77 lt_i_0 ?_
                      refine ab_goto (tgt := 82) dX11_sheet_78 (by decide) ?_
                      obtain ⟨q140, hq140, h⟩ := ab_bnd h
                      refine z_callVv 79 [.int a2, .int (0 : Int32)] [some (.ref 79), some (.int a2), some (.int (0 : Int32)), none] (pc2 := 85) rfl rfl dX11_sheet_82 ok_X6_clear ⟨fun _ => rfl, fun _ => Nat.le_of_ble_eq_true rfl⟩ rfl rv_79 wd_903 wd_904 wd_905 rfl (e_X6_clear_79 hq140) ?_
                      refine z_iconst (pc2 := 86) rfl dX11_sheet_85 lt_i_1 ?_
                      exact z_iret dX11_sheet_86 rfl rfl (fi_w h)
                  · replace h := ab_neg hi141 h
                    by_cases hi145 : a1 = (2 : Int32)
                    · replace h := ab_pos hi145 h
                      refine z_aaldR 20 81 (pc2 := 72) rfl dX11_sheet_71 rfl rfl (by rw [hi145]; rfl) (by rw [hi145]; rfl) ?_
                      refine z_iload_n (pc2 := 73) rfl dX11_sheet_72 rfl ?_
                      refine z_iload_n (pc2 := 74) rfl dX11_sheet_73 rfl ?_
                      refine z_if_ne (pc2 := 77) (tgt := 81) rfl dX11_sheet_74 (by decide) (fun hc142 => ?_) (fun hc142 => ?_)
                      · replace h := ab_neg hc142 h
                        refine z_iload_n (pc2 := 82) rfl dX11_sheet_81 rfl ?_
                        obtain ⟨q143, hq143, h⟩ := ab_bnd h
                        refine z_callVv 81 [.int a2, .int a3] [some (.ref 81), some (.int a2), some (.int a3), none] (pc2 := 85) rfl rfl dX11_sheet_82 ok_X6_clear ⟨fun _ => rfl, fun _ => Nat.le_of_ble_eq_true rfl⟩ rfl rv_81 wd_903 wd_904 wd_905 rfl (e_X6_clear_81 hq143) ?_
                        refine z_iconst (pc2 := 86) rfl dX11_sheet_85 lt_i_1 ?_
                        exact z_iret dX11_sheet_86 rfl rfl (fi_w h)
                      · replace h := ab_pos hc142 h
                        refine z_iconst (pc2 := 78) rfl dX11_sheet_77 lt_i_0 ?_
                        refine ab_goto (tgt := 82) dX11_sheet_78 (by decide) ?_
                        obtain ⟨q144, hq144, h⟩ := ab_bnd h
                        refine z_callVv 81 [.int a2, .int (0 : Int32)] [some (.ref 81), some (.int a2), some (.int (0 : Int32)), none] (pc2 := 85) rfl rfl dX11_sheet_82 ok_X6_clear ⟨fun _ => rfl, fun _ => Nat.le_of_ble_eq_true rfl⟩ rfl rv_81 wd_903 wd_904 wd_905 rfl (e_X6_clear_81 hq144) ?_
                        refine z_iconst (pc2 := 86) rfl dX11_sheet_85 lt_i_1 ?_
                        exact z_iret dX11_sheet_86 rfl rfl (fi_w h)
                    · replace h := ab_neg hi145 h
                      by_cases hi149 : a1 = (3 : Int32)
                      · replace h := ab_pos hi149 h
                        refine z_aaldR 20 83 (pc2 := 72) rfl dX11_sheet_71 rfl rfl (by rw [hi149]; rfl) (by rw [hi149]; rfl) ?_
                        refine z_iload_n (pc2 := 73) rfl dX11_sheet_72 rfl ?_
                        refine z_iload_n (pc2 := 74) rfl dX11_sheet_73 rfl ?_
                        refine z_if_ne (pc2 := 77) (tgt := 81) rfl dX11_sheet_74 (by decide) (fun hc146 => ?_) (fun hc146 => ?_)
                        · replace h := ab_neg hc146 h
                          refine z_iload_n (pc2 := 82) rfl dX11_sheet_81 rfl ?_
                          obtain ⟨q147, hq147, h⟩ := ab_bnd h
                          refine z_callVv 83 [.int a2, .int a3] [some (.ref 83), some (.int a2), some (.int a3), none] (pc2 := 85) rfl rfl dX11_sheet_82 ok_X6_clear ⟨fun _ => rfl, fun _ => Nat.le_of_ble_eq_true rfl⟩ rfl rv_83 wd_903 wd_904 wd_905 rfl (e_X6_clear_83 hq147) ?_
                          refine z_iconst (pc2 := 86) rfl dX11_sheet_85 lt_i_1 ?_
                          exact z_iret dX11_sheet_86 rfl rfl (fi_w h)
                        · replace h := ab_pos hc146 h
                          refine z_iconst (pc2 := 78) rfl dX11_sheet_77 lt_i_0 ?_
                          refine ab_goto (tgt := 82) dX11_sheet_78 (by decide) ?_
                          obtain ⟨q148, hq148, h⟩ := ab_bnd h
                          refine z_callVv 83 [.int a2, .int (0 : Int32)] [some (.ref 83), some (.int a2), some (.int (0 : Int32)), none] (pc2 := 85) rfl rfl dX11_sheet_82 ok_X6_clear ⟨fun _ => rfl, fun _ => Nat.le_of_ble_eq_true rfl⟩ rfl rv_83 wd_903 wd_904 wd_905 rfl (e_X6_clear_83 hq148) ?_
                          refine z_iconst (pc2 := 86) rfl dX11_sheet_85 lt_i_1 ?_
                          exact z_iret dX11_sheet_86 rfl rfl (fi_w h)
                      · replace h := ab_neg hi149 h
                        cases h
              · replace h := ab_neg hc133 h
                refine z_aload_n (pc2 := 61) rfl dX11_sheet_60 rfl ?_
                refine z_iconst (pc2 := 62) rfl dX11_sheet_61 lt_i_1 ?_
                obtain ⟨q150, hq150, h⟩ := ab_bnd h
                refine z_callVi 8 [.int (1 : Int32)] [some (.ref 8), some (.int (1 : Int32))] (pc2 := 65) rfl rfl dX11_sheet_62 ok_X11_refuse ⟨fun _ => rfl, fun _ => Nat.le_of_ble_eq_true rfl⟩ rfl rv_8 wd_346 wd_348 wd_0 rfl (e_X11_refuse hq150) ?_
                exact z_iret dX11_sheet_65 rfl rfl (fi_w h)
          · replace h := ab_neg hc115 h
            refine z_aload_n (pc2 := 45) rfl dX11_sheet_44 rfl ?_
            refine z_iconst (pc2 := 46) rfl dX11_sheet_45 lt_i_3 ?_
            obtain ⟨q151, hq151, h⟩ := ab_bnd h
            refine z_callVi 8 [.int (3 : Int32)] [some (.ref 8), some (.int (3 : Int32))] (pc2 := 49) rfl rfl dX11_sheet_46 ok_X11_refuse ⟨fun _ => rfl, fun _ => Nat.le_of_ble_eq_true rfl⟩ rfl rv_8 wd_346 wd_348 wd_0 rfl (e_X11_refuse hq151) ?_
            exact z_iret dX11_sheet_49 rfl rfl (fi_w h)
      · replace h := ab_neg hc78 h
        refine z_iload_n (pc2 := 19) rfl dX11_sheet_18 rfl ?_
        refine z_bipush (pc2 := 21) rfl dX11_sheet_19 lt_b_16 ?_
        refine z_icmp_eq (pc2 := 24) (tgt := 36) rfl dX11_sheet_21 (by decide) (fun hc152 => ?_) (fun hc152 => ?_)
        · replace h := ab_pos hc152 h
          refine z_iload_n (pc2 := 37) rfl dX11_sheet_36 rfl ?_
          refine z_if_eq (pc2 := 40) (tgt := 50) rfl dX11_sheet_37 (by decide) (fun hc153 => ?_) (fun hc153 => ?_)
          · replace h := ab_pos hc153 h
            refine z_iload_n (pc2 := 51) rfl dX11_sheet_50 rfl ?_
            refine z_if_eq (pc2 := 54) (tgt := 66) rfl dX11_sheet_51 (by decide) (fun hc154 => ?_) (fun hc154 => ?_)
            · replace h := ab_pos hc154 h
              refine z_aload_n (pc2 := 67) rfl dX11_sheet_66 rfl ?_
              refine z_getR 8 11 8 20 (pc2 := 70) rfl dX11_sheet_67 rfl rfl ff_11_8 wd_310 rfl ?_
              refine z_iload_n (pc2 := 71) rfl dX11_sheet_70 rfl ?_
              by_cases hi158 : a1 = (0 : Int32)
              · replace h := ab_pos hi158 h
                refine z_aaldR 20 77 (pc2 := 72) rfl dX11_sheet_71 rfl rfl (by rw [hi158]; rfl) (by rw [hi158]; rfl) ?_
                refine z_iload_n (pc2 := 73) rfl dX11_sheet_72 rfl ?_
                refine z_iload_n (pc2 := 74) rfl dX11_sheet_73 rfl ?_
                refine z_if_ne (pc2 := 77) (tgt := 81) rfl dX11_sheet_74 (by decide) (fun hc155 => ?_) (fun hc155 => ?_)
                · replace h := ab_neg hc155 h
                  refine z_iload_n (pc2 := 82) rfl dX11_sheet_81 rfl ?_
                  obtain ⟨q156, hq156, h⟩ := ab_bnd h
                  refine z_callVv 77 [.int a2, .int a3] [some (.ref 77), some (.int a2), some (.int a3), none] (pc2 := 85) rfl rfl dX11_sheet_82 ok_X6_clear ⟨fun _ => rfl, fun _ => Nat.le_of_ble_eq_true rfl⟩ rfl rv_77 wd_903 wd_904 wd_905 rfl (e_X6_clear_77 hq156) ?_
                  refine z_iconst (pc2 := 86) rfl dX11_sheet_85 lt_i_1 ?_
                  exact z_iret dX11_sheet_86 rfl rfl (fi_w h)
                · replace h := ab_pos hc155 h
                  refine z_iconst (pc2 := 78) rfl dX11_sheet_77 lt_i_0 ?_
                  refine ab_goto (tgt := 82) dX11_sheet_78 (by decide) ?_
                  obtain ⟨q157, hq157, h⟩ := ab_bnd h
                  refine z_callVv 77 [.int a2, .int (0 : Int32)] [some (.ref 77), some (.int a2), some (.int (0 : Int32)), none] (pc2 := 85) rfl rfl dX11_sheet_82 ok_X6_clear ⟨fun _ => rfl, fun _ => Nat.le_of_ble_eq_true rfl⟩ rfl rv_77 wd_903 wd_904 wd_905 rfl (e_X6_clear_77 hq157) ?_
                  refine z_iconst (pc2 := 86) rfl dX11_sheet_85 lt_i_1 ?_
                  exact z_iret dX11_sheet_86 rfl rfl (fi_w h)
              · replace h := ab_neg hi158 h
                by_cases hi162 : a1 = (1 : Int32)
                · replace h := ab_pos hi162 h
                  refine z_aaldR 20 79 (pc2 := 72) rfl dX11_sheet_71 rfl rfl (by rw [hi162]; rfl) (by rw [hi162]; rfl) ?_
                  refine z_iload_n (pc2 := 73) rfl dX11_sheet_72 rfl ?_
                  refine z_iload_n (pc2 := 74) rfl dX11_sheet_73 rfl ?_
                  refine z_if_ne (pc2 := 77) (tgt := 81) rfl dX11_sheet_74 (by decide) (fun hc159 => ?_) (fun hc159 => ?_)
                  · replace h := ab_neg hc159 h
                    refine z_iload_n (pc2 := 82) rfl dX11_sheet_81 rfl ?_
                    obtain ⟨q160, hq160, h⟩ := ab_bnd h
                    refine z_callVv 79 [.int a2, .int a3] [some (.ref 79), some (.int a2), some (.int a3), none] (pc2 := 85) rfl rfl dX11_sheet_82 ok_X6_clear ⟨fun _ => rfl, fun _ => Nat.le_of_ble_eq_true rfl⟩ rfl rv_79 wd_903 wd_904 wd_905 rfl (e_X6_clear_79 hq160) ?_
                    refine z_iconst (pc2 := 86) rfl dX11_sheet_85 lt_i_1 ?_
                    exact z_iret dX11_sheet_86 rfl rfl (fi_w h)
                  · replace h := ab_pos hc159 h
                    refine z_iconst (pc2 := 78) rfl dX11_sheet_77 lt_i_0 ?_
                    refine ab_goto (tgt := 82) dX11_sheet_78 (by decide) ?_
                    obtain ⟨q161, hq161, h⟩ := ab_bnd h
                    refine z_callVv 79 [.int a2, .int (0 : Int32)] [some (.ref 79), some (.int a2), some (.int (0 : Int32)), none] (pc2 := 85) rfl rfl dX11_sheet_82 ok_X6_clear ⟨fun _ => rfl, fun _ => Nat.le_of_ble_eq_true rfl⟩ rfl rv_79 wd_903 wd_904 wd_905 rfl (e_X6_clear_79 hq161) ?_
                    refine z_iconst (pc2 := 86) rfl dX11_sheet_85 lt_i_1 ?_
                    exact z_iret dX11_sheet_86 rfl rfl (fi_w h)
                · replace h := ab_neg hi162 h
                  by_cases hi166 : a1 = (2 : Int32)
                  · replace h := ab_pos hi166 h
                    refine z_aaldR 20 81 (pc2 := 72) rfl dX11_sheet_71 rfl rfl (by rw [hi166]; rfl) (by rw [hi166]; rfl) ?_
                    refine z_iload_n (pc2 := 73) rfl dX11_sheet_72 rfl ?_
                    refine z_iload_n (pc2 := 74) rfl dX11_sheet_73 rfl ?_
                    refine z_if_ne (pc2 := 77) (tgt := 81) rfl dX11_sheet_74 (by decide) (fun hc163 => ?_) (fun hc163 => ?_)
                    · replace h := ab_neg hc163 h
                      refine z_iload_n (pc2 := 82) rfl dX11_sheet_81 rfl ?_
                      obtain ⟨q164, hq164, h⟩ := ab_bnd h
                      refine z_callVv 81 [.int a2, .int a3] [some (.ref 81), some (.int a2), some (.int a3), none] (pc2 := 85) rfl rfl dX11_sheet_82 ok_X6_clear ⟨fun _ => rfl, fun _ => Nat.le_of_ble_eq_true rfl⟩ rfl rv_81 wd_903 wd_904 wd_905 rfl (e_X6_clear_81 hq164) ?_
                      refine z_iconst (pc2 := 86) rfl dX11_sheet_85 lt_i_1 ?_
                      exact z_iret dX11_sheet_86 rfl rfl (fi_w h)
                    · replace h := ab_pos hc163 h
                      refine z_iconst (pc2 := 78) rfl dX11_sheet_77 lt_i_0 ?_
                      refine ab_goto (tgt := 82) dX11_sheet_78 (by decide) ?_
                      obtain ⟨q165, hq165, h⟩ := ab_bnd h
                      refine z_callVv 81 [.int a2, .int (0 : Int32)] [some (.ref 81), some (.int a2), some (.int (0 : Int32)), none] (pc2 := 85) rfl rfl dX11_sheet_82 ok_X6_clear ⟨fun _ => rfl, fun _ => Nat.le_of_ble_eq_true rfl⟩ rfl rv_81 wd_903 wd_904 wd_905 rfl (e_X6_clear_81 hq165) ?_
                      refine z_iconst (pc2 := 86) rfl dX11_sheet_85 lt_i_1 ?_
                      exact z_iret dX11_sheet_86 rfl rfl (fi_w h)
                  · replace h := ab_neg hi166 h
                    by_cases hi170 : a1 = (3 : Int32)
                    · replace h := ab_pos hi170 h
                      refine z_aaldR 20 83 (pc2 := 72) rfl dX11_sheet_71 rfl rfl (by rw [hi170]; rfl) (by rw [hi170]; rfl) ?_
                      refine z_iload_n (pc2 := 73) rfl dX11_sheet_72 rfl ?_
                      refine z_iload_n (pc2 := 74) rfl dX11_sheet_73 rfl ?_
                      refine z_if_ne (pc2 := 77) (tgt := 81) rfl dX11_sheet_74 (by decide) (fun hc167 => ?_) (fun hc167 => ?_)
                      · replace h := ab_neg hc167 h
                        refine z_iload_n (pc2 := 82) rfl dX11_sheet_81 rfl ?_
                        obtain ⟨q168, hq168, h⟩ := ab_bnd h
                        refine z_callVv 83 [.int a2, .int a3] [some (.ref 83), some (.int a2), some (.int a3), none] (pc2 := 85) rfl rfl dX11_sheet_82 ok_X6_clear ⟨fun _ => rfl, fun _ => Nat.le_of_ble_eq_true rfl⟩ rfl rv_83 wd_903 wd_904 wd_905 rfl (e_X6_clear_83 hq168) ?_
                        refine z_iconst (pc2 := 86) rfl dX11_sheet_85 lt_i_1 ?_
                        exact z_iret dX11_sheet_86 rfl rfl (fi_w h)
                      · replace h := ab_pos hc167 h
                        refine z_iconst (pc2 := 78) rfl dX11_sheet_77 lt_i_0 ?_
                        refine ab_goto (tgt := 82) dX11_sheet_78 (by decide) ?_
                        obtain ⟨q169, hq169, h⟩ := ab_bnd h
                        refine z_callVv 83 [.int a2, .int (0 : Int32)] [some (.ref 83), some (.int a2), some (.int (0 : Int32)), none] (pc2 := 85) rfl rfl dX11_sheet_82 ok_X6_clear ⟨fun _ => rfl, fun _ => Nat.le_of_ble_eq_true rfl⟩ rfl rv_83 wd_903 wd_904 wd_905 rfl (e_X6_clear_83 hq169) ?_
                        refine z_iconst (pc2 := 86) rfl dX11_sheet_85 lt_i_1 ?_
                        exact z_iret dX11_sheet_86 rfl rfl (fi_w h)
                    · replace h := ab_neg hi170 h
                      cases h
            · replace h := ab_neg hc154 h
              refine z_iload_n (pc2 := 55) rfl dX11_sheet_54 rfl ?_
              refine z_bipush (pc2 := 57) rfl dX11_sheet_55 lt_b_24 ?_
              refine z_icmp_le (pc2 := 60) (tgt := 66) rfl dX11_sheet_57 (by decide) (fun hc171 => ?_) (fun hc171 => ?_)
              · replace h := ab_pos hc171 h
                refine z_aload_n (pc2 := 67) rfl dX11_sheet_66 rfl ?_
                refine z_getR 8 11 8 20 (pc2 := 70) rfl dX11_sheet_67 rfl rfl ff_11_8 wd_310 rfl ?_
                refine z_iload_n (pc2 := 71) rfl dX11_sheet_70 rfl ?_
                by_cases hi175 : a1 = (0 : Int32)
                · replace h := ab_pos hi175 h
                  refine z_aaldR 20 77 (pc2 := 72) rfl dX11_sheet_71 rfl rfl (by rw [hi175]; rfl) (by rw [hi175]; rfl) ?_
                  refine z_iload_n (pc2 := 73) rfl dX11_sheet_72 rfl ?_
                  refine z_iload_n (pc2 := 74) rfl dX11_sheet_73 rfl ?_
                  refine z_if_ne (pc2 := 77) (tgt := 81) rfl dX11_sheet_74 (by decide) (fun hc172 => ?_) (fun hc172 => ?_)
                  · replace h := ab_neg hc172 h
                    refine z_iload_n (pc2 := 82) rfl dX11_sheet_81 rfl ?_
                    obtain ⟨q173, hq173, h⟩ := ab_bnd h
                    refine z_callVv 77 [.int a2, .int a3] [some (.ref 77), some (.int a2), some (.int a3), none] (pc2 := 85) rfl rfl dX11_sheet_82 ok_X6_clear ⟨fun _ => rfl, fun _ => Nat.le_of_ble_eq_true rfl⟩ rfl rv_77 wd_903 wd_904 wd_905 rfl (e_X6_clear_77 hq173) ?_
                    refine z_iconst (pc2 := 86) rfl dX11_sheet_85 lt_i_1 ?_
                    exact z_iret dX11_sheet_86 rfl rfl (fi_w h)
                  · replace h := ab_pos hc172 h
                    refine z_iconst (pc2 := 78) rfl dX11_sheet_77 lt_i_0 ?_
                    refine ab_goto (tgt := 82) dX11_sheet_78 (by decide) ?_
                    obtain ⟨q174, hq174, h⟩ := ab_bnd h
                    refine z_callVv 77 [.int a2, .int (0 : Int32)] [some (.ref 77), some (.int a2), some (.int (0 : Int32)), none] (pc2 := 85) rfl rfl dX11_sheet_82 ok_X6_clear ⟨fun _ => rfl, fun _ => Nat.le_of_ble_eq_true rfl⟩ rfl rv_77 wd_903 wd_904 wd_905 rfl (e_X6_clear_77 hq174) ?_
                    refine z_iconst (pc2 := 86) rfl dX11_sheet_85 lt_i_1 ?_
                    exact z_iret dX11_sheet_86 rfl rfl (fi_w h)
                · replace h := ab_neg hi175 h
                  by_cases hi179 : a1 = (1 : Int32)
                  · replace h := ab_pos hi179 h
                    refine z_aaldR 20 79 (pc2 := 72) rfl dX11_sheet_71 rfl rfl (by rw [hi179]; rfl) (by rw [hi179]; rfl) ?_
                    refine z_iload_n (pc2 := 73) rfl dX11_sheet_72 rfl ?_
                    refine z_iload_n (pc2 := 74) rfl dX11_sheet_73 rfl ?_
                    refine z_if_ne (pc2 := 77) (tgt := 81) rfl dX11_sheet_74 (by decide) (fun hc176 => ?_) (fun hc176 => ?_)
                    · replace h := ab_neg hc176 h
                      refine z_iload_n (pc2 := 82) rfl dX11_sheet_81 rfl ?_
                      obtain ⟨q177, hq177, h⟩ := ab_bnd h
                      refine z_callVv 79 [.int a2, .int a3] [some (.ref 79), some (.int a2), some (.int a3), none] (pc2 := 85) rfl rfl dX11_sheet_82 ok_X6_clear ⟨fun _ => rfl, fun _ => Nat.le_of_ble_eq_true rfl⟩ rfl rv_79 wd_903 wd_904 wd_905 rfl (e_X6_clear_79 hq177) ?_
                      refine z_iconst (pc2 := 86) rfl dX11_sheet_85 lt_i_1 ?_
                      exact z_iret dX11_sheet_86 rfl rfl (fi_w h)
                    · replace h := ab_pos hc176 h
                      refine z_iconst (pc2 := 78) rfl dX11_sheet_77 lt_i_0 ?_
                      refine ab_goto (tgt := 82) dX11_sheet_78 (by decide) ?_
                      obtain ⟨q178, hq178, h⟩ := ab_bnd h
                      refine z_callVv 79 [.int a2, .int (0 : Int32)] [some (.ref 79), some (.int a2), some (.int (0 : Int32)), none] (pc2 := 85) rfl rfl dX11_sheet_82 ok_X6_clear ⟨fun _ => rfl, fun _ => Nat.le_of_ble_eq_true rfl⟩ rfl rv_79 wd_903 wd_904 wd_905 rfl (e_X6_clear_79 hq178) ?_
                      refine z_iconst (pc2 := 86) rfl dX11_sheet_85 lt_i_1 ?_
                      exact z_iret dX11_sheet_86 rfl rfl (fi_w h)
                  · replace h := ab_neg hi179 h
                    by_cases hi183 : a1 = (2 : Int32)
                    · replace h := ab_pos hi183 h
                      refine z_aaldR 20 81 (pc2 := 72) rfl dX11_sheet_71 rfl rfl (by rw [hi183]; rfl) (by rw [hi183]; rfl) ?_
                      refine z_iload_n (pc2 := 73) rfl dX11_sheet_72 rfl ?_
                      refine z_iload_n (pc2 := 74) rfl dX11_sheet_73 rfl ?_
                      refine z_if_ne (pc2 := 77) (tgt := 81) rfl dX11_sheet_74 (by decide) (fun hc180 => ?_) (fun hc180 => ?_)
                      · replace h := ab_neg hc180 h
                        refine z_iload_n (pc2 := 82) rfl dX11_sheet_81 rfl ?_
                        obtain ⟨q181, hq181, h⟩ := ab_bnd h
                        refine z_callVv 81 [.int a2, .int a3] [some (.ref 81), some (.int a2), some (.int a3), none] (pc2 := 85) rfl rfl dX11_sheet_82 ok_X6_clear ⟨fun _ => rfl, fun _ => Nat.le_of_ble_eq_true rfl⟩ rfl rv_81 wd_903 wd_904 wd_905 rfl (e_X6_clear_81 hq181) ?_
                        refine z_iconst (pc2 := 86) rfl dX11_sheet_85 lt_i_1 ?_
                        exact z_iret dX11_sheet_86 rfl rfl (fi_w h)
                      · replace h := ab_pos hc180 h
                        refine z_iconst (pc2 := 78) rfl dX11_sheet_77 lt_i_0 ?_
                        refine ab_goto (tgt := 82) dX11_sheet_78 (by decide) ?_
                        obtain ⟨q182, hq182, h⟩ := ab_bnd h
                        refine z_callVv 81 [.int a2, .int (0 : Int32)] [some (.ref 81), some (.int a2), some (.int (0 : Int32)), none] (pc2 := 85) rfl rfl dX11_sheet_82 ok_X6_clear ⟨fun _ => rfl, fun _ => Nat.le_of_ble_eq_true rfl⟩ rfl rv_81 wd_903 wd_904 wd_905 rfl (e_X6_clear_81 hq182) ?_
                        refine z_iconst (pc2 := 86) rfl dX11_sheet_85 lt_i_1 ?_
                        exact z_iret dX11_sheet_86 rfl rfl (fi_w h)
                    · replace h := ab_neg hi183 h
                      by_cases hi187 : a1 = (3 : Int32)
                      · replace h := ab_pos hi187 h
                        refine z_aaldR 20 83 (pc2 := 72) rfl dX11_sheet_71 rfl rfl (by rw [hi187]; rfl) (by rw [hi187]; rfl) ?_
                        refine z_iload_n (pc2 := 73) rfl dX11_sheet_72 rfl ?_
                        refine z_iload_n (pc2 := 74) rfl dX11_sheet_73 rfl ?_
                        refine z_if_ne (pc2 := 77) (tgt := 81) rfl dX11_sheet_74 (by decide) (fun hc184 => ?_) (fun hc184 => ?_)
                        · replace h := ab_neg hc184 h
                          refine z_iload_n (pc2 := 82) rfl dX11_sheet_81 rfl ?_
                          obtain ⟨q185, hq185, h⟩ := ab_bnd h
                          refine z_callVv 83 [.int a2, .int a3] [some (.ref 83), some (.int a2), some (.int a3), none] (pc2 := 85) rfl rfl dX11_sheet_82 ok_X6_clear ⟨fun _ => rfl, fun _ => Nat.le_of_ble_eq_true rfl⟩ rfl rv_83 wd_903 wd_904 wd_905 rfl (e_X6_clear_83 hq185) ?_
                          refine z_iconst (pc2 := 86) rfl dX11_sheet_85 lt_i_1 ?_
                          exact z_iret dX11_sheet_86 rfl rfl (fi_w h)
                        · replace h := ab_pos hc184 h
                          refine z_iconst (pc2 := 78) rfl dX11_sheet_77 lt_i_0 ?_
                          refine ab_goto (tgt := 82) dX11_sheet_78 (by decide) ?_
                          obtain ⟨q186, hq186, h⟩ := ab_bnd h
                          refine z_callVv 83 [.int a2, .int (0 : Int32)] [some (.ref 83), some (.int a2), some (.int (0 : Int32)), none] (pc2 := 85) rfl rfl dX11_sheet_82 ok_X6_clear ⟨fun _ => rfl, fun _ => Nat.le_of_ble_eq_true rfl⟩ rfl rv_83 wd_903 wd_904 wd_905 rfl (e_X6_clear_83 hq186) ?_
                          refine z_iconst (pc2 := 86) rfl dX11_sheet_85 lt_i_1 ?_
                          exact z_iret dX11_sheet_86 rfl rfl (fi_w h)
                      · replace h := ab_neg hi187 h
                        cases h
              · replace h := ab_neg hc171 h
                refine z_aload_n (pc2 := 61) rfl dX11_sheet_60 rfl ?_
                refine z_iconst (pc2 := 62) rfl dX11_sheet_61 lt_i_1 ?_
                obtain ⟨q188, hq188, h⟩ := ab_bnd h
                refine z_callVi 8 [.int (1 : Int32)] [some (.ref 8), some (.int (1 : Int32))] (pc2 := 65) rfl rfl dX11_sheet_62 ok_X11_refuse ⟨fun _ => rfl, fun _ => Nat.le_of_ble_eq_true rfl⟩ rfl rv_8 wd_346 wd_348 wd_0 rfl (e_X11_refuse hq188) ?_
                exact z_iret dX11_sheet_65 rfl rfl (fi_w h)
          · replace h := ab_neg hc153 h
            refine z_iload_n (pc2 := 41) rfl dX11_sheet_40 rfl ?_
            refine z_if_ge (pc2 := 44) (tgt := 50) rfl dX11_sheet_41 (by decide) (fun hc189 => ?_) (fun hc189 => ?_)
            · replace h := ab_pos hc189 h
              refine z_iload_n (pc2 := 51) rfl dX11_sheet_50 rfl ?_
              refine z_if_eq (pc2 := 54) (tgt := 66) rfl dX11_sheet_51 (by decide) (fun hc190 => ?_) (fun hc190 => ?_)
              · replace h := ab_pos hc190 h
                refine z_aload_n (pc2 := 67) rfl dX11_sheet_66 rfl ?_
                refine z_getR 8 11 8 20 (pc2 := 70) rfl dX11_sheet_67 rfl rfl ff_11_8 wd_310 rfl ?_
                refine z_iload_n (pc2 := 71) rfl dX11_sheet_70 rfl ?_
                by_cases hi194 : a1 = (0 : Int32)
                · replace h := ab_pos hi194 h
                  refine z_aaldR 20 77 (pc2 := 72) rfl dX11_sheet_71 rfl rfl (by rw [hi194]; rfl) (by rw [hi194]; rfl) ?_
                  refine z_iload_n (pc2 := 73) rfl dX11_sheet_72 rfl ?_
                  refine z_iload_n (pc2 := 74) rfl dX11_sheet_73 rfl ?_
                  refine z_if_ne (pc2 := 77) (tgt := 81) rfl dX11_sheet_74 (by decide) (fun hc191 => ?_) (fun hc191 => ?_)
                  · replace h := ab_neg hc191 h
                    refine z_iload_n (pc2 := 82) rfl dX11_sheet_81 rfl ?_
                    obtain ⟨q192, hq192, h⟩ := ab_bnd h
                    refine z_callVv 77 [.int a2, .int a3] [some (.ref 77), some (.int a2), some (.int a3), none] (pc2 := 85) rfl rfl dX11_sheet_82 ok_X6_clear ⟨fun _ => rfl, fun _ => Nat.le_of_ble_eq_true rfl⟩ rfl rv_77 wd_903 wd_904 wd_905 rfl (e_X6_clear_77 hq192) ?_
                    refine z_iconst (pc2 := 86) rfl dX11_sheet_85 lt_i_1 ?_
                    exact z_iret dX11_sheet_86 rfl rfl (fi_w h)
                  · replace h := ab_pos hc191 h
                    refine z_iconst (pc2 := 78) rfl dX11_sheet_77 lt_i_0 ?_
                    refine ab_goto (tgt := 82) dX11_sheet_78 (by decide) ?_
                    obtain ⟨q193, hq193, h⟩ := ab_bnd h
                    refine z_callVv 77 [.int a2, .int (0 : Int32)] [some (.ref 77), some (.int a2), some (.int (0 : Int32)), none] (pc2 := 85) rfl rfl dX11_sheet_82 ok_X6_clear ⟨fun _ => rfl, fun _ => Nat.le_of_ble_eq_true rfl⟩ rfl rv_77 wd_903 wd_904 wd_905 rfl (e_X6_clear_77 hq193) ?_
                    refine z_iconst (pc2 := 86) rfl dX11_sheet_85 lt_i_1 ?_
                    exact z_iret dX11_sheet_86 rfl rfl (fi_w h)
                · replace h := ab_neg hi194 h
                  by_cases hi198 : a1 = (1 : Int32)
                  · replace h := ab_pos hi198 h
                    refine z_aaldR 20 79 (pc2 := 72) rfl dX11_sheet_71 rfl rfl (by rw [hi198]; rfl) (by rw [hi198]; rfl) ?_
                    refine z_iload_n (pc2 := 73) rfl dX11_sheet_72 rfl ?_
                    refine z_iload_n (pc2 := 74) rfl dX11_sheet_73 rfl ?_
                    refine z_if_ne (pc2 := 77) (tgt := 81) rfl dX11_sheet_74 (by decide) (fun hc195 => ?_) (fun hc195 => ?_)
                    · replace h := ab_neg hc195 h
                      refine z_iload_n (pc2 := 82) rfl dX11_sheet_81 rfl ?_
                      obtain ⟨q196, hq196, h⟩ := ab_bnd h
                      refine z_callVv 79 [.int a2, .int a3] [some (.ref 79), some (.int a2), some (.int a3), none] (pc2 := 85) rfl rfl dX11_sheet_82 ok_X6_clear ⟨fun _ => rfl, fun _ => Nat.le_of_ble_eq_true rfl⟩ rfl rv_79 wd_903 wd_904 wd_905 rfl (e_X6_clear_79 hq196) ?_
                      refine z_iconst (pc2 := 86) rfl dX11_sheet_85 lt_i_1 ?_
                      exact z_iret dX11_sheet_86 rfl rfl (fi_w h)
                    · replace h := ab_pos hc195 h
                      refine z_iconst (pc2 := 78) rfl dX11_sheet_77 lt_i_0 ?_
                      refine ab_goto (tgt := 82) dX11_sheet_78 (by decide) ?_
                      obtain ⟨q197, hq197, h⟩ := ab_bnd h
                      refine z_callVv 79 [.int a2, .int (0 : Int32)] [some (.ref 79), some (.int a2), some (.int (0 : Int32)), none] (pc2 := 85) rfl rfl dX11_sheet_82 ok_X6_clear ⟨fun _ => rfl, fun _ => Nat.le_of_ble_eq_true rfl⟩ rfl rv_79 wd_903 wd_904 wd_905 rfl (e_X6_clear_79 hq197) ?_
                      refine z_iconst (pc2 := 86) rfl dX11_sheet_85 lt_i_1 ?_
                      exact z_iret dX11_sheet_86 rfl rfl (fi_w h)
                  · replace h := ab_neg hi198 h
                    by_cases hi202 : a1 = (2 : Int32)
                    · replace h := ab_pos hi202 h
                      refine z_aaldR 20 81 (pc2 := 72) rfl dX11_sheet_71 rfl rfl (by rw [hi202]; rfl) (by rw [hi202]; rfl) ?_
                      refine z_iload_n (pc2 := 73) rfl dX11_sheet_72 rfl ?_
                      refine z_iload_n (pc2 := 74) rfl dX11_sheet_73 rfl ?_
                      refine z_if_ne (pc2 := 77) (tgt := 81) rfl dX11_sheet_74 (by decide) (fun hc199 => ?_) (fun hc199 => ?_)
                      · replace h := ab_neg hc199 h
                        refine z_iload_n (pc2 := 82) rfl dX11_sheet_81 rfl ?_
                        obtain ⟨q200, hq200, h⟩ := ab_bnd h
                        refine z_callVv 81 [.int a2, .int a3] [some (.ref 81), some (.int a2), some (.int a3), none] (pc2 := 85) rfl rfl dX11_sheet_82 ok_X6_clear ⟨fun _ => rfl, fun _ => Nat.le_of_ble_eq_true rfl⟩ rfl rv_81 wd_903 wd_904 wd_905 rfl (e_X6_clear_81 hq200) ?_
                        refine z_iconst (pc2 := 86) rfl dX11_sheet_85 lt_i_1 ?_
                        exact z_iret dX11_sheet_86 rfl rfl (fi_w h)
                      · replace h := ab_pos hc199 h
                        refine z_iconst (pc2 := 78) rfl dX11_sheet_77 lt_i_0 ?_
                        refine ab_goto (tgt := 82) dX11_sheet_78 (by decide) ?_
                        obtain ⟨q201, hq201, h⟩ := ab_bnd h
                        refine z_callVv 81 [.int a2, .int (0 : Int32)] [some (.ref 81), some (.int a2), some (.int (0 : Int32)), none] (pc2 := 85) rfl rfl dX11_sheet_82 ok_X6_clear ⟨fun _ => rfl, fun _ => Nat.le_of_ble_eq_true rfl⟩ rfl rv_81 wd_903 wd_904 wd_905 rfl (e_X6_clear_81 hq201) ?_
                        refine z_iconst (pc2 := 86) rfl dX11_sheet_85 lt_i_1 ?_
                        exact z_iret dX11_sheet_86 rfl rfl (fi_w h)
                    · replace h := ab_neg hi202 h
                      by_cases hi206 : a1 = (3 : Int32)
                      · replace h := ab_pos hi206 h
                        refine z_aaldR 20 83 (pc2 := 72) rfl dX11_sheet_71 rfl rfl (by rw [hi206]; rfl) (by rw [hi206]; rfl) ?_
                        refine z_iload_n (pc2 := 73) rfl dX11_sheet_72 rfl ?_
                        refine z_iload_n (pc2 := 74) rfl dX11_sheet_73 rfl ?_
                        refine z_if_ne (pc2 := 77) (tgt := 81) rfl dX11_sheet_74 (by decide) (fun hc203 => ?_) (fun hc203 => ?_)
                        · replace h := ab_neg hc203 h
                          refine z_iload_n (pc2 := 82) rfl dX11_sheet_81 rfl ?_
                          obtain ⟨q204, hq204, h⟩ := ab_bnd h
                          refine z_callVv 83 [.int a2, .int a3] [some (.ref 83), some (.int a2), some (.int a3), none] (pc2 := 85) rfl rfl dX11_sheet_82 ok_X6_clear ⟨fun _ => rfl, fun _ => Nat.le_of_ble_eq_true rfl⟩ rfl rv_83 wd_903 wd_904 wd_905 rfl (e_X6_clear_83 hq204) ?_
                          refine z_iconst (pc2 := 86) rfl dX11_sheet_85 lt_i_1 ?_
                          exact z_iret dX11_sheet_86 rfl rfl (fi_w h)
                        · replace h := ab_pos hc203 h
                          refine z_iconst (pc2 := 78) rfl dX11_sheet_77 lt_i_0 ?_
                          refine ab_goto (tgt := 82) dX11_sheet_78 (by decide) ?_
                          obtain ⟨q205, hq205, h⟩ := ab_bnd h
                          refine z_callVv 83 [.int a2, .int (0 : Int32)] [some (.ref 83), some (.int a2), some (.int (0 : Int32)), none] (pc2 := 85) rfl rfl dX11_sheet_82 ok_X6_clear ⟨fun _ => rfl, fun _ => Nat.le_of_ble_eq_true rfl⟩ rfl rv_83 wd_903 wd_904 wd_905 rfl (e_X6_clear_83 hq205) ?_
                          refine z_iconst (pc2 := 86) rfl dX11_sheet_85 lt_i_1 ?_
                          exact z_iret dX11_sheet_86 rfl rfl (fi_w h)
                      · replace h := ab_neg hi206 h
                        cases h
              · replace h := ab_neg hc190 h
                refine z_iload_n (pc2 := 55) rfl dX11_sheet_54 rfl ?_
                refine z_bipush (pc2 := 57) rfl dX11_sheet_55 lt_b_24 ?_
                refine z_icmp_le (pc2 := 60) (tgt := 66) rfl dX11_sheet_57 (by decide) (fun hc207 => ?_) (fun hc207 => ?_)
                · replace h := ab_pos hc207 h
                  refine z_aload_n (pc2 := 67) rfl dX11_sheet_66 rfl ?_
                  refine z_getR 8 11 8 20 (pc2 := 70) rfl dX11_sheet_67 rfl rfl ff_11_8 wd_310 rfl ?_
                  refine z_iload_n (pc2 := 71) rfl dX11_sheet_70 rfl ?_
                  by_cases hi211 : a1 = (0 : Int32)
                  · replace h := ab_pos hi211 h
                    refine z_aaldR 20 77 (pc2 := 72) rfl dX11_sheet_71 rfl rfl (by rw [hi211]; rfl) (by rw [hi211]; rfl) ?_
                    refine z_iload_n (pc2 := 73) rfl dX11_sheet_72 rfl ?_
                    refine z_iload_n (pc2 := 74) rfl dX11_sheet_73 rfl ?_
                    refine z_if_ne (pc2 := 77) (tgt := 81) rfl dX11_sheet_74 (by decide) (fun hc208 => ?_) (fun hc208 => ?_)
                    · replace h := ab_neg hc208 h
                      refine z_iload_n (pc2 := 82) rfl dX11_sheet_81 rfl ?_
                      obtain ⟨q209, hq209, h⟩ := ab_bnd h
                      refine z_callVv 77 [.int a2, .int a3] [some (.ref 77), some (.int a2), some (.int a3), none] (pc2 := 85) rfl rfl dX11_sheet_82 ok_X6_clear ⟨fun _ => rfl, fun _ => Nat.le_of_ble_eq_true rfl⟩ rfl rv_77 wd_903 wd_904 wd_905 rfl (e_X6_clear_77 hq209) ?_
                      refine z_iconst (pc2 := 86) rfl dX11_sheet_85 lt_i_1 ?_
                      exact z_iret dX11_sheet_86 rfl rfl (fi_w h)
                    · replace h := ab_pos hc208 h
                      refine z_iconst (pc2 := 78) rfl dX11_sheet_77 lt_i_0 ?_
                      refine ab_goto (tgt := 82) dX11_sheet_78 (by decide) ?_
                      obtain ⟨q210, hq210, h⟩ := ab_bnd h
                      refine z_callVv 77 [.int a2, .int (0 : Int32)] [some (.ref 77), some (.int a2), some (.int (0 : Int32)), none] (pc2 := 85) rfl rfl dX11_sheet_82 ok_X6_clear ⟨fun _ => rfl, fun _ => Nat.le_of_ble_eq_true rfl⟩ rfl rv_77 wd_903 wd_904 wd_905 rfl (e_X6_clear_77 hq210) ?_
                      refine z_iconst (pc2 := 86) rfl dX11_sheet_85 lt_i_1 ?_
                      exact z_iret dX11_sheet_86 rfl rfl (fi_w h)
                  · replace h := ab_neg hi211 h
                    by_cases hi215 : a1 = (1 : Int32)
                    · replace h := ab_pos hi215 h
                      refine z_aaldR 20 79 (pc2 := 72) rfl dX11_sheet_71 rfl rfl (by rw [hi215]; rfl) (by rw [hi215]; rfl) ?_
                      refine z_iload_n (pc2 := 73) rfl dX11_sheet_72 rfl ?_
                      refine z_iload_n (pc2 := 74) rfl dX11_sheet_73 rfl ?_
                      refine z_if_ne (pc2 := 77) (tgt := 81) rfl dX11_sheet_74 (by decide) (fun hc212 => ?_) (fun hc212 => ?_)
                      · replace h := ab_neg hc212 h
                        refine z_iload_n (pc2 := 82) rfl dX11_sheet_81 rfl ?_
                        obtain ⟨q213, hq213, h⟩ := ab_bnd h
                        refine z_callVv 79 [.int a2, .int a3] [some (.ref 79), some (.int a2), some (.int a3), none] (pc2 := 85) rfl rfl dX11_sheet_82 ok_X6_clear ⟨fun _ => rfl, fun _ => Nat.le_of_ble_eq_true rfl⟩ rfl rv_79 wd_903 wd_904 wd_905 rfl (e_X6_clear_79 hq213) ?_
                        refine z_iconst (pc2 := 86) rfl dX11_sheet_85 lt_i_1 ?_
                        exact z_iret dX11_sheet_86 rfl rfl (fi_w h)
                      · replace h := ab_pos hc212 h
                        refine z_iconst (pc2 := 78) rfl dX11_sheet_77 lt_i_0 ?_
                        refine ab_goto (tgt := 82) dX11_sheet_78 (by decide) ?_
                        obtain ⟨q214, hq214, h⟩ := ab_bnd h
                        refine z_callVv 79 [.int a2, .int (0 : Int32)] [some (.ref 79), some (.int a2), some (.int (0 : Int32)), none] (pc2 := 85) rfl rfl dX11_sheet_82 ok_X6_clear ⟨fun _ => rfl, fun _ => Nat.le_of_ble_eq_true rfl⟩ rfl rv_79 wd_903 wd_904 wd_905 rfl (e_X6_clear_79 hq214) ?_
                        refine z_iconst (pc2 := 86) rfl dX11_sheet_85 lt_i_1 ?_
                        exact z_iret dX11_sheet_86 rfl rfl (fi_w h)
                    · replace h := ab_neg hi215 h
                      by_cases hi219 : a1 = (2 : Int32)
                      · replace h := ab_pos hi219 h
                        refine z_aaldR 20 81 (pc2 := 72) rfl dX11_sheet_71 rfl rfl (by rw [hi219]; rfl) (by rw [hi219]; rfl) ?_
                        refine z_iload_n (pc2 := 73) rfl dX11_sheet_72 rfl ?_
                        refine z_iload_n (pc2 := 74) rfl dX11_sheet_73 rfl ?_
                        refine z_if_ne (pc2 := 77) (tgt := 81) rfl dX11_sheet_74 (by decide) (fun hc216 => ?_) (fun hc216 => ?_)
                        · replace h := ab_neg hc216 h
                          refine z_iload_n (pc2 := 82) rfl dX11_sheet_81 rfl ?_
                          obtain ⟨q217, hq217, h⟩ := ab_bnd h
                          refine z_callVv 81 [.int a2, .int a3] [some (.ref 81), some (.int a2), some (.int a3), none] (pc2 := 85) rfl rfl dX11_sheet_82 ok_X6_clear ⟨fun _ => rfl, fun _ => Nat.le_of_ble_eq_true rfl⟩ rfl rv_81 wd_903 wd_904 wd_905 rfl (e_X6_clear_81 hq217) ?_
                          refine z_iconst (pc2 := 86) rfl dX11_sheet_85 lt_i_1 ?_
                          exact z_iret dX11_sheet_86 rfl rfl (fi_w h)
                        · replace h := ab_pos hc216 h
                          refine z_iconst (pc2 := 78) rfl dX11_sheet_77 lt_i_0 ?_
                          refine ab_goto (tgt := 82) dX11_sheet_78 (by decide) ?_
                          obtain ⟨q218, hq218, h⟩ := ab_bnd h
                          refine z_callVv 81 [.int a2, .int (0 : Int32)] [some (.ref 81), some (.int a2), some (.int (0 : Int32)), none] (pc2 := 85) rfl rfl dX11_sheet_82 ok_X6_clear ⟨fun _ => rfl, fun _ => Nat.le_of_ble_eq_true rfl⟩ rfl rv_81 wd_903 wd_904 wd_905 rfl (e_X6_clear_81 hq218) ?_
                          refine z_iconst (pc2 := 86) rfl dX11_sheet_85 lt_i_1 ?_
                          exact z_iret dX11_sheet_86 rfl rfl (fi_w h)
                      · replace h := ab_neg hi219 h
                        by_cases hi223 : a1 = (3 : Int32)
                        · replace h := ab_pos hi223 h
                          refine z_aaldR 20 83 (pc2 := 72) rfl dX11_sheet_71 rfl rfl (by rw [hi223]; rfl) (by rw [hi223]; rfl) ?_
                          refine z_iload_n (pc2 := 73) rfl dX11_sheet_72 rfl ?_
                          refine z_iload_n (pc2 := 74) rfl dX11_sheet_73 rfl ?_
                          refine z_if_ne (pc2 := 77) (tgt := 81) rfl dX11_sheet_74 (by decide) (fun hc220 => ?_) (fun hc220 => ?_)
                          · replace h := ab_neg hc220 h
                            refine z_iload_n (pc2 := 82) rfl dX11_sheet_81 rfl ?_
                            obtain ⟨q221, hq221, h⟩ := ab_bnd h
                            refine z_callVv 83 [.int a2, .int a3] [some (.ref 83), some (.int a2), some (.int a3), none] (pc2 := 85) rfl rfl dX11_sheet_82 ok_X6_clear ⟨fun _ => rfl, fun _ => Nat.le_of_ble_eq_true rfl⟩ rfl rv_83 wd_903 wd_904 wd_905 rfl (e_X6_clear_83 hq221) ?_
                            refine z_iconst (pc2 := 86) rfl dX11_sheet_85 lt_i_1 ?_
                            exact z_iret dX11_sheet_86 rfl rfl (fi_w h)
                          · replace h := ab_pos hc220 h
                            refine z_iconst (pc2 := 78) rfl dX11_sheet_77 lt_i_0 ?_
                            refine ab_goto (tgt := 82) dX11_sheet_78 (by decide) ?_
                            obtain ⟨q222, hq222, h⟩ := ab_bnd h
                            refine z_callVv 83 [.int a2, .int (0 : Int32)] [some (.ref 83), some (.int a2), some (.int (0 : Int32)), none] (pc2 := 85) rfl rfl dX11_sheet_82 ok_X6_clear ⟨fun _ => rfl, fun _ => Nat.le_of_ble_eq_true rfl⟩ rfl rv_83 wd_903 wd_904 wd_905 rfl (e_X6_clear_83 hq222) ?_
                            refine z_iconst (pc2 := 86) rfl dX11_sheet_85 lt_i_1 ?_
                            exact z_iret dX11_sheet_86 rfl rfl (fi_w h)
                        · replace h := ab_neg hi223 h
                          cases h
                · replace h := ab_neg hc207 h
                  refine z_aload_n (pc2 := 61) rfl dX11_sheet_60 rfl ?_
                  refine z_iconst (pc2 := 62) rfl dX11_sheet_61 lt_i_1 ?_
                  obtain ⟨q224, hq224, h⟩ := ab_bnd h
                  refine z_callVi 8 [.int (1 : Int32)] [some (.ref 8), some (.int (1 : Int32))] (pc2 := 65) rfl rfl dX11_sheet_62 ok_X11_refuse ⟨fun _ => rfl, fun _ => Nat.le_of_ble_eq_true rfl⟩ rfl rv_8 wd_346 wd_348 wd_0 rfl (e_X11_refuse hq224) ?_
                  exact z_iret dX11_sheet_65 rfl rfl (fi_w h)
            · replace h := ab_neg hc189 h
              refine z_aload_n (pc2 := 45) rfl dX11_sheet_44 rfl ?_
              refine z_iconst (pc2 := 46) rfl dX11_sheet_45 lt_i_3 ?_
              obtain ⟨q225, hq225, h⟩ := ab_bnd h
              refine z_callVi 8 [.int (3 : Int32)] [some (.ref 8), some (.int (3 : Int32))] (pc2 := 49) rfl rfl dX11_sheet_46 ok_X11_refuse ⟨fun _ => rfl, fun _ => Nat.le_of_ble_eq_true rfl⟩ rfl rv_8 wd_346 wd_348 wd_0 rfl (e_X11_refuse hq225) ?_
              exact z_iret dX11_sheet_49 rfl rfl (fi_w h)
        · replace h := ab_neg hc152 h
          refine z_iload_n (pc2 := 25) rfl dX11_sheet_24 rfl ?_
          refine z_bipush (pc2 := 27) rfl dX11_sheet_25 lt_b_32 ?_
          refine z_icmp_eq (pc2 := 30) (tgt := 36) rfl dX11_sheet_27 (by decide) (fun hc226 => ?_) (fun hc226 => ?_)
          · replace h := ab_pos hc226 h
            refine z_iload_n (pc2 := 37) rfl dX11_sheet_36 rfl ?_
            refine z_if_eq (pc2 := 40) (tgt := 50) rfl dX11_sheet_37 (by decide) (fun hc227 => ?_) (fun hc227 => ?_)
            · replace h := ab_pos hc227 h
              refine z_iload_n (pc2 := 51) rfl dX11_sheet_50 rfl ?_
              refine z_if_eq (pc2 := 54) (tgt := 66) rfl dX11_sheet_51 (by decide) (fun hc228 => ?_) (fun hc228 => ?_)
              · replace h := ab_pos hc228 h
                refine z_aload_n (pc2 := 67) rfl dX11_sheet_66 rfl ?_
                refine z_getR 8 11 8 20 (pc2 := 70) rfl dX11_sheet_67 rfl rfl ff_11_8 wd_310 rfl ?_
                refine z_iload_n (pc2 := 71) rfl dX11_sheet_70 rfl ?_
                by_cases hi232 : a1 = (0 : Int32)
                · replace h := ab_pos hi232 h
                  refine z_aaldR 20 77 (pc2 := 72) rfl dX11_sheet_71 rfl rfl (by rw [hi232]; rfl) (by rw [hi232]; rfl) ?_
                  refine z_iload_n (pc2 := 73) rfl dX11_sheet_72 rfl ?_
                  refine z_iload_n (pc2 := 74) rfl dX11_sheet_73 rfl ?_
                  refine z_if_ne (pc2 := 77) (tgt := 81) rfl dX11_sheet_74 (by decide) (fun hc229 => ?_) (fun hc229 => ?_)
                  · replace h := ab_neg hc229 h
                    refine z_iload_n (pc2 := 82) rfl dX11_sheet_81 rfl ?_
                    obtain ⟨q230, hq230, h⟩ := ab_bnd h
                    refine z_callVv 77 [.int a2, .int a3] [some (.ref 77), some (.int a2), some (.int a3), none] (pc2 := 85) rfl rfl dX11_sheet_82 ok_X6_clear ⟨fun _ => rfl, fun _ => Nat.le_of_ble_eq_true rfl⟩ rfl rv_77 wd_903 wd_904 wd_905 rfl (e_X6_clear_77 hq230) ?_
                    refine z_iconst (pc2 := 86) rfl dX11_sheet_85 lt_i_1 ?_
                    exact z_iret dX11_sheet_86 rfl rfl (fi_w h)
                  · replace h := ab_pos hc229 h
                    refine z_iconst (pc2 := 78) rfl dX11_sheet_77 lt_i_0 ?_
                    refine ab_goto (tgt := 82) dX11_sheet_78 (by decide) ?_
                    obtain ⟨q231, hq231, h⟩ := ab_bnd h
                    refine z_callVv 77 [.int a2, .int (0 : Int32)] [some (.ref 77), some (.int a2), some (.int (0 : Int32)), none] (pc2 := 85) rfl rfl dX11_sheet_82 ok_X6_clear ⟨fun _ => rfl, fun _ => Nat.le_of_ble_eq_true rfl⟩ rfl rv_77 wd_903 wd_904 wd_905 rfl (e_X6_clear_77 hq231) ?_
                    refine z_iconst (pc2 := 86) rfl dX11_sheet_85 lt_i_1 ?_
                    exact z_iret dX11_sheet_86 rfl rfl (fi_w h)
                · replace h := ab_neg hi232 h
                  by_cases hi236 : a1 = (1 : Int32)
                  · replace h := ab_pos hi236 h
                    refine z_aaldR 20 79 (pc2 := 72) rfl dX11_sheet_71 rfl rfl (by rw [hi236]; rfl) (by rw [hi236]; rfl) ?_
                    refine z_iload_n (pc2 := 73) rfl dX11_sheet_72 rfl ?_
                    refine z_iload_n (pc2 := 74) rfl dX11_sheet_73 rfl ?_
                    refine z_if_ne (pc2 := 77) (tgt := 81) rfl dX11_sheet_74 (by decide) (fun hc233 => ?_) (fun hc233 => ?_)
                    · replace h := ab_neg hc233 h
                      refine z_iload_n (pc2 := 82) rfl dX11_sheet_81 rfl ?_
                      obtain ⟨q234, hq234, h⟩ := ab_bnd h
                      refine z_callVv 79 [.int a2, .int a3] [some (.ref 79), some (.int a2), some (.int a3), none] (pc2 := 85) rfl rfl dX11_sheet_82 ok_X6_clear ⟨fun _ => rfl, fun _ => Nat.le_of_ble_eq_true rfl⟩ rfl rv_79 wd_903 wd_904 wd_905 rfl (e_X6_clear_79 hq234) ?_
                      refine z_iconst (pc2 := 86) rfl dX11_sheet_85 lt_i_1 ?_
                      exact z_iret dX11_sheet_86 rfl rfl (fi_w h)
                    · replace h := ab_pos hc233 h
                      refine z_iconst (pc2 := 78) rfl dX11_sheet_77 lt_i_0 ?_
                      refine ab_goto (tgt := 82) dX11_sheet_78 (by decide) ?_
                      obtain ⟨q235, hq235, h⟩ := ab_bnd h
                      refine z_callVv 79 [.int a2, .int (0 : Int32)] [some (.ref 79), some (.int a2), some (.int (0 : Int32)), none] (pc2 := 85) rfl rfl dX11_sheet_82 ok_X6_clear ⟨fun _ => rfl, fun _ => Nat.le_of_ble_eq_true rfl⟩ rfl rv_79 wd_903 wd_904 wd_905 rfl (e_X6_clear_79 hq235) ?_
                      refine z_iconst (pc2 := 86) rfl dX11_sheet_85 lt_i_1 ?_
                      exact z_iret dX11_sheet_86 rfl rfl (fi_w h)
                  · replace h := ab_neg hi236 h
                    by_cases hi240 : a1 = (2 : Int32)
                    · replace h := ab_pos hi240 h
                      refine z_aaldR 20 81 (pc2 := 72) rfl dX11_sheet_71 rfl rfl (by rw [hi240]; rfl) (by rw [hi240]; rfl) ?_
                      refine z_iload_n (pc2 := 73) rfl dX11_sheet_72 rfl ?_
                      refine z_iload_n (pc2 := 74) rfl dX11_sheet_73 rfl ?_
                      refine z_if_ne (pc2 := 77) (tgt := 81) rfl dX11_sheet_74 (by decide) (fun hc237 => ?_) (fun hc237 => ?_)
                      · replace h := ab_neg hc237 h
                        refine z_iload_n (pc2 := 82) rfl dX11_sheet_81 rfl ?_
                        obtain ⟨q238, hq238, h⟩ := ab_bnd h
                        refine z_callVv 81 [.int a2, .int a3] [some (.ref 81), some (.int a2), some (.int a3), none] (pc2 := 85) rfl rfl dX11_sheet_82 ok_X6_clear ⟨fun _ => rfl, fun _ => Nat.le_of_ble_eq_true rfl⟩ rfl rv_81 wd_903 wd_904 wd_905 rfl (e_X6_clear_81 hq238) ?_
                        refine z_iconst (pc2 := 86) rfl dX11_sheet_85 lt_i_1 ?_
                        exact z_iret dX11_sheet_86 rfl rfl (fi_w h)
                      · replace h := ab_pos hc237 h
                        refine z_iconst (pc2 := 78) rfl dX11_sheet_77 lt_i_0 ?_
                        refine ab_goto (tgt := 82) dX11_sheet_78 (by decide) ?_
                        obtain ⟨q239, hq239, h⟩ := ab_bnd h
                        refine z_callVv 81 [.int a2, .int (0 : Int32)] [some (.ref 81), some (.int a2), some (.int (0 : Int32)), none] (pc2 := 85) rfl rfl dX11_sheet_82 ok_X6_clear ⟨fun _ => rfl, fun _ => Nat.le_of_ble_eq_true rfl⟩ rfl rv_81 wd_903 wd_904 wd_905 rfl (e_X6_clear_81 hq239) ?_
                        refine z_iconst (pc2 := 86) rfl dX11_sheet_85 lt_i_1 ?_
                        exact z_iret dX11_sheet_86 rfl rfl (fi_w h)
                    · replace h := ab_neg hi240 h
                      by_cases hi244 : a1 = (3 : Int32)
                      · replace h := ab_pos hi244 h
                        refine z_aaldR 20 83 (pc2 := 72) rfl dX11_sheet_71 rfl rfl (by rw [hi244]; rfl) (by rw [hi244]; rfl) ?_
                        refine z_iload_n (pc2 := 73) rfl dX11_sheet_72 rfl ?_
                        refine z_iload_n (pc2 := 74) rfl dX11_sheet_73 rfl ?_
                        refine z_if_ne (pc2 := 77) (tgt := 81) rfl dX11_sheet_74 (by decide) (fun hc241 => ?_) (fun hc241 => ?_)
                        · replace h := ab_neg hc241 h
                          refine z_iload_n (pc2 := 82) rfl dX11_sheet_81 rfl ?_
                          obtain ⟨q242, hq242, h⟩ := ab_bnd h
                          refine z_callVv 83 [.int a2, .int a3] [some (.ref 83), some (.int a2), some (.int a3), none] (pc2 := 85) rfl rfl dX11_sheet_82 ok_X6_clear ⟨fun _ => rfl, fun _ => Nat.le_of_ble_eq_true rfl⟩ rfl rv_83 wd_903 wd_904 wd_905 rfl (e_X6_clear_83 hq242) ?_
                          refine z_iconst (pc2 := 86) rfl dX11_sheet_85 lt_i_1 ?_
                          exact z_iret dX11_sheet_86 rfl rfl (fi_w h)
                        · replace h := ab_pos hc241 h
                          refine z_iconst (pc2 := 78) rfl dX11_sheet_77 lt_i_0 ?_
                          refine ab_goto (tgt := 82) dX11_sheet_78 (by decide) ?_
                          obtain ⟨q243, hq243, h⟩ := ab_bnd h
                          refine z_callVv 83 [.int a2, .int (0 : Int32)] [some (.ref 83), some (.int a2), some (.int (0 : Int32)), none] (pc2 := 85) rfl rfl dX11_sheet_82 ok_X6_clear ⟨fun _ => rfl, fun _ => Nat.le_of_ble_eq_true rfl⟩ rfl rv_83 wd_903 wd_904 wd_905 rfl (e_X6_clear_83 hq243) ?_
                          refine z_iconst (pc2 := 86) rfl dX11_sheet_85 lt_i_1 ?_
                          exact z_iret dX11_sheet_86 rfl rfl (fi_w h)
                      · replace h := ab_neg hi244 h
                        cases h
              · replace h := ab_neg hc228 h
                refine z_iload_n (pc2 := 55) rfl dX11_sheet_54 rfl ?_
                refine z_bipush (pc2 := 57) rfl dX11_sheet_55 lt_b_24 ?_
                refine z_icmp_le (pc2 := 60) (tgt := 66) rfl dX11_sheet_57 (by decide) (fun hc245 => ?_) (fun hc245 => ?_)
                · replace h := ab_pos hc245 h
                  refine z_aload_n (pc2 := 67) rfl dX11_sheet_66 rfl ?_
                  refine z_getR 8 11 8 20 (pc2 := 70) rfl dX11_sheet_67 rfl rfl ff_11_8 wd_310 rfl ?_
                  refine z_iload_n (pc2 := 71) rfl dX11_sheet_70 rfl ?_
                  by_cases hi249 : a1 = (0 : Int32)
                  · replace h := ab_pos hi249 h
                    refine z_aaldR 20 77 (pc2 := 72) rfl dX11_sheet_71 rfl rfl (by rw [hi249]; rfl) (by rw [hi249]; rfl) ?_
                    refine z_iload_n (pc2 := 73) rfl dX11_sheet_72 rfl ?_
                    refine z_iload_n (pc2 := 74) rfl dX11_sheet_73 rfl ?_
                    refine z_if_ne (pc2 := 77) (tgt := 81) rfl dX11_sheet_74 (by decide) (fun hc246 => ?_) (fun hc246 => ?_)
                    · replace h := ab_neg hc246 h
                      refine z_iload_n (pc2 := 82) rfl dX11_sheet_81 rfl ?_
                      obtain ⟨q247, hq247, h⟩ := ab_bnd h
                      refine z_callVv 77 [.int a2, .int a3] [some (.ref 77), some (.int a2), some (.int a3), none] (pc2 := 85) rfl rfl dX11_sheet_82 ok_X6_clear ⟨fun _ => rfl, fun _ => Nat.le_of_ble_eq_true rfl⟩ rfl rv_77 wd_903 wd_904 wd_905 rfl (e_X6_clear_77 hq247) ?_
                      refine z_iconst (pc2 := 86) rfl dX11_sheet_85 lt_i_1 ?_
                      exact z_iret dX11_sheet_86 rfl rfl (fi_w h)
                    · replace h := ab_pos hc246 h
                      refine z_iconst (pc2 := 78) rfl dX11_sheet_77 lt_i_0 ?_
                      refine ab_goto (tgt := 82) dX11_sheet_78 (by decide) ?_
                      obtain ⟨q248, hq248, h⟩ := ab_bnd h
                      refine z_callVv 77 [.int a2, .int (0 : Int32)] [some (.ref 77), some (.int a2), some (.int (0 : Int32)), none] (pc2 := 85) rfl rfl dX11_sheet_82 ok_X6_clear ⟨fun _ => rfl, fun _ => Nat.le_of_ble_eq_true rfl⟩ rfl rv_77 wd_903 wd_904 wd_905 rfl (e_X6_clear_77 hq248) ?_
                      refine z_iconst (pc2 := 86) rfl dX11_sheet_85 lt_i_1 ?_
                      exact z_iret dX11_sheet_86 rfl rfl (fi_w h)
                  · replace h := ab_neg hi249 h
                    by_cases hi253 : a1 = (1 : Int32)
                    · replace h := ab_pos hi253 h
                      refine z_aaldR 20 79 (pc2 := 72) rfl dX11_sheet_71 rfl rfl (by rw [hi253]; rfl) (by rw [hi253]; rfl) ?_
                      refine z_iload_n (pc2 := 73) rfl dX11_sheet_72 rfl ?_
                      refine z_iload_n (pc2 := 74) rfl dX11_sheet_73 rfl ?_
                      refine z_if_ne (pc2 := 77) (tgt := 81) rfl dX11_sheet_74 (by decide) (fun hc250 => ?_) (fun hc250 => ?_)
                      · replace h := ab_neg hc250 h
                        refine z_iload_n (pc2 := 82) rfl dX11_sheet_81 rfl ?_
                        obtain ⟨q251, hq251, h⟩ := ab_bnd h
                        refine z_callVv 79 [.int a2, .int a3] [some (.ref 79), some (.int a2), some (.int a3), none] (pc2 := 85) rfl rfl dX11_sheet_82 ok_X6_clear ⟨fun _ => rfl, fun _ => Nat.le_of_ble_eq_true rfl⟩ rfl rv_79 wd_903 wd_904 wd_905 rfl (e_X6_clear_79 hq251) ?_
                        refine z_iconst (pc2 := 86) rfl dX11_sheet_85 lt_i_1 ?_
                        exact z_iret dX11_sheet_86 rfl rfl (fi_w h)
                      · replace h := ab_pos hc250 h
                        refine z_iconst (pc2 := 78) rfl dX11_sheet_77 lt_i_0 ?_
                        refine ab_goto (tgt := 82) dX11_sheet_78 (by decide) ?_
                        obtain ⟨q252, hq252, h⟩ := ab_bnd h
                        refine z_callVv 79 [.int a2, .int (0 : Int32)] [some (.ref 79), some (.int a2), some (.int (0 : Int32)), none] (pc2 := 85) rfl rfl dX11_sheet_82 ok_X6_clear ⟨fun _ => rfl, fun _ => Nat.le_of_ble_eq_true rfl⟩ rfl rv_79 wd_903 wd_904 wd_905 rfl (e_X6_clear_79 hq252) ?_
                        refine z_iconst (pc2 := 86) rfl dX11_sheet_85 lt_i_1 ?_
                        exact z_iret dX11_sheet_86 rfl rfl (fi_w h)
                    · replace h := ab_neg hi253 h
                      by_cases hi257 : a1 = (2 : Int32)
                      · replace h := ab_pos hi257 h
                        refine z_aaldR 20 81 (pc2 := 72) rfl dX11_sheet_71 rfl rfl (by rw [hi257]; rfl) (by rw [hi257]; rfl) ?_
                        refine z_iload_n (pc2 := 73) rfl dX11_sheet_72 rfl ?_
                        refine z_iload_n (pc2 := 74) rfl dX11_sheet_73 rfl ?_
                        refine z_if_ne (pc2 := 77) (tgt := 81) rfl dX11_sheet_74 (by decide) (fun hc254 => ?_) (fun hc254 => ?_)
                        · replace h := ab_neg hc254 h
                          refine z_iload_n (pc2 := 82) rfl dX11_sheet_81 rfl ?_
                          obtain ⟨q255, hq255, h⟩ := ab_bnd h
                          refine z_callVv 81 [.int a2, .int a3] [some (.ref 81), some (.int a2), some (.int a3), none] (pc2 := 85) rfl rfl dX11_sheet_82 ok_X6_clear ⟨fun _ => rfl, fun _ => Nat.le_of_ble_eq_true rfl⟩ rfl rv_81 wd_903 wd_904 wd_905 rfl (e_X6_clear_81 hq255) ?_
                          refine z_iconst (pc2 := 86) rfl dX11_sheet_85 lt_i_1 ?_
                          exact z_iret dX11_sheet_86 rfl rfl (fi_w h)
                        · replace h := ab_pos hc254 h
                          refine z_iconst (pc2 := 78) rfl dX11_sheet_77 lt_i_0 ?_
                          refine ab_goto (tgt := 82) dX11_sheet_78 (by decide) ?_
                          obtain ⟨q256, hq256, h⟩ := ab_bnd h
                          refine z_callVv 81 [.int a2, .int (0 : Int32)] [some (.ref 81), some (.int a2), some (.int (0 : Int32)), none] (pc2 := 85) rfl rfl dX11_sheet_82 ok_X6_clear ⟨fun _ => rfl, fun _ => Nat.le_of_ble_eq_true rfl⟩ rfl rv_81 wd_903 wd_904 wd_905 rfl (e_X6_clear_81 hq256) ?_
                          refine z_iconst (pc2 := 86) rfl dX11_sheet_85 lt_i_1 ?_
                          exact z_iret dX11_sheet_86 rfl rfl (fi_w h)
                      · replace h := ab_neg hi257 h
                        by_cases hi261 : a1 = (3 : Int32)
                        · replace h := ab_pos hi261 h
                          refine z_aaldR 20 83 (pc2 := 72) rfl dX11_sheet_71 rfl rfl (by rw [hi261]; rfl) (by rw [hi261]; rfl) ?_
                          refine z_iload_n (pc2 := 73) rfl dX11_sheet_72 rfl ?_
                          refine z_iload_n (pc2 := 74) rfl dX11_sheet_73 rfl ?_
                          refine z_if_ne (pc2 := 77) (tgt := 81) rfl dX11_sheet_74 (by decide) (fun hc258 => ?_) (fun hc258 => ?_)
                          · replace h := ab_neg hc258 h
                            refine z_iload_n (pc2 := 82) rfl dX11_sheet_81 rfl ?_
                            obtain ⟨q259, hq259, h⟩ := ab_bnd h
                            refine z_callVv 83 [.int a2, .int a3] [some (.ref 83), some (.int a2), some (.int a3), none] (pc2 := 85) rfl rfl dX11_sheet_82 ok_X6_clear ⟨fun _ => rfl, fun _ => Nat.le_of_ble_eq_true rfl⟩ rfl rv_83 wd_903 wd_904 wd_905 rfl (e_X6_clear_83 hq259) ?_
                            refine z_iconst (pc2 := 86) rfl dX11_sheet_85 lt_i_1 ?_
                            exact z_iret dX11_sheet_86 rfl rfl (fi_w h)
                          · replace h := ab_pos hc258 h
                            refine z_iconst (pc2 := 78) rfl dX11_sheet_77 lt_i_0 ?_
                            refine ab_goto (tgt := 82) dX11_sheet_78 (by decide) ?_
                            obtain ⟨q260, hq260, h⟩ := ab_bnd h
                            refine z_callVv 83 [.int a2, .int (0 : Int32)] [some (.ref 83), some (.int a2), some (.int (0 : Int32)), none] (pc2 := 85) rfl rfl dX11_sheet_82 ok_X6_clear ⟨fun _ => rfl, fun _ => Nat.le_of_ble_eq_true rfl⟩ rfl rv_83 wd_903 wd_904 wd_905 rfl (e_X6_clear_83 hq260) ?_
                            refine z_iconst (pc2 := 86) rfl dX11_sheet_85 lt_i_1 ?_
                            exact z_iret dX11_sheet_86 rfl rfl (fi_w h)
                        · replace h := ab_neg hi261 h
                          cases h
                · replace h := ab_neg hc245 h
                  refine z_aload_n (pc2 := 61) rfl dX11_sheet_60 rfl ?_
                  refine z_iconst (pc2 := 62) rfl dX11_sheet_61 lt_i_1 ?_
                  obtain ⟨q262, hq262, h⟩ := ab_bnd h
                  refine z_callVi 8 [.int (1 : Int32)] [some (.ref 8), some (.int (1 : Int32))] (pc2 := 65) rfl rfl dX11_sheet_62 ok_X11_refuse ⟨fun _ => rfl, fun _ => Nat.le_of_ble_eq_true rfl⟩ rfl rv_8 wd_346 wd_348 wd_0 rfl (e_X11_refuse hq262) ?_
                  exact z_iret dX11_sheet_65 rfl rfl (fi_w h)
            · replace h := ab_neg hc227 h
              refine z_iload_n (pc2 := 41) rfl dX11_sheet_40 rfl ?_
              refine z_if_ge (pc2 := 44) (tgt := 50) rfl dX11_sheet_41 (by decide) (fun hc263 => ?_) (fun hc263 => ?_)
              · replace h := ab_pos hc263 h
                refine z_iload_n (pc2 := 51) rfl dX11_sheet_50 rfl ?_
                refine z_if_eq (pc2 := 54) (tgt := 66) rfl dX11_sheet_51 (by decide) (fun hc264 => ?_) (fun hc264 => ?_)
                · replace h := ab_pos hc264 h
                  refine z_aload_n (pc2 := 67) rfl dX11_sheet_66 rfl ?_
                  refine z_getR 8 11 8 20 (pc2 := 70) rfl dX11_sheet_67 rfl rfl ff_11_8 wd_310 rfl ?_
                  refine z_iload_n (pc2 := 71) rfl dX11_sheet_70 rfl ?_
                  by_cases hi268 : a1 = (0 : Int32)
                  · replace h := ab_pos hi268 h
                    refine z_aaldR 20 77 (pc2 := 72) rfl dX11_sheet_71 rfl rfl (by rw [hi268]; rfl) (by rw [hi268]; rfl) ?_
                    refine z_iload_n (pc2 := 73) rfl dX11_sheet_72 rfl ?_
                    refine z_iload_n (pc2 := 74) rfl dX11_sheet_73 rfl ?_
                    refine z_if_ne (pc2 := 77) (tgt := 81) rfl dX11_sheet_74 (by decide) (fun hc265 => ?_) (fun hc265 => ?_)
                    · replace h := ab_neg hc265 h
                      refine z_iload_n (pc2 := 82) rfl dX11_sheet_81 rfl ?_
                      obtain ⟨q266, hq266, h⟩ := ab_bnd h
                      refine z_callVv 77 [.int a2, .int a3] [some (.ref 77), some (.int a2), some (.int a3), none] (pc2 := 85) rfl rfl dX11_sheet_82 ok_X6_clear ⟨fun _ => rfl, fun _ => Nat.le_of_ble_eq_true rfl⟩ rfl rv_77 wd_903 wd_904 wd_905 rfl (e_X6_clear_77 hq266) ?_
                      refine z_iconst (pc2 := 86) rfl dX11_sheet_85 lt_i_1 ?_
                      exact z_iret dX11_sheet_86 rfl rfl (fi_w h)
                    · replace h := ab_pos hc265 h
                      refine z_iconst (pc2 := 78) rfl dX11_sheet_77 lt_i_0 ?_
                      refine ab_goto (tgt := 82) dX11_sheet_78 (by decide) ?_
                      obtain ⟨q267, hq267, h⟩ := ab_bnd h
                      refine z_callVv 77 [.int a2, .int (0 : Int32)] [some (.ref 77), some (.int a2), some (.int (0 : Int32)), none] (pc2 := 85) rfl rfl dX11_sheet_82 ok_X6_clear ⟨fun _ => rfl, fun _ => Nat.le_of_ble_eq_true rfl⟩ rfl rv_77 wd_903 wd_904 wd_905 rfl (e_X6_clear_77 hq267) ?_
                      refine z_iconst (pc2 := 86) rfl dX11_sheet_85 lt_i_1 ?_
                      exact z_iret dX11_sheet_86 rfl rfl (fi_w h)
                  · replace h := ab_neg hi268 h
                    by_cases hi272 : a1 = (1 : Int32)
                    · replace h := ab_pos hi272 h
                      refine z_aaldR 20 79 (pc2 := 72) rfl dX11_sheet_71 rfl rfl (by rw [hi272]; rfl) (by rw [hi272]; rfl) ?_
                      refine z_iload_n (pc2 := 73) rfl dX11_sheet_72 rfl ?_
                      refine z_iload_n (pc2 := 74) rfl dX11_sheet_73 rfl ?_
                      refine z_if_ne (pc2 := 77) (tgt := 81) rfl dX11_sheet_74 (by decide) (fun hc269 => ?_) (fun hc269 => ?_)
                      · replace h := ab_neg hc269 h
                        refine z_iload_n (pc2 := 82) rfl dX11_sheet_81 rfl ?_
                        obtain ⟨q270, hq270, h⟩ := ab_bnd h
                        refine z_callVv 79 [.int a2, .int a3] [some (.ref 79), some (.int a2), some (.int a3), none] (pc2 := 85) rfl rfl dX11_sheet_82 ok_X6_clear ⟨fun _ => rfl, fun _ => Nat.le_of_ble_eq_true rfl⟩ rfl rv_79 wd_903 wd_904 wd_905 rfl (e_X6_clear_79 hq270) ?_
                        refine z_iconst (pc2 := 86) rfl dX11_sheet_85 lt_i_1 ?_
                        exact z_iret dX11_sheet_86 rfl rfl (fi_w h)
                      · replace h := ab_pos hc269 h
                        refine z_iconst (pc2 := 78) rfl dX11_sheet_77 lt_i_0 ?_
                        refine ab_goto (tgt := 82) dX11_sheet_78 (by decide) ?_
                        obtain ⟨q271, hq271, h⟩ := ab_bnd h
                        refine z_callVv 79 [.int a2, .int (0 : Int32)] [some (.ref 79), some (.int a2), some (.int (0 : Int32)), none] (pc2 := 85) rfl rfl dX11_sheet_82 ok_X6_clear ⟨fun _ => rfl, fun _ => Nat.le_of_ble_eq_true rfl⟩ rfl rv_79 wd_903 wd_904 wd_905 rfl (e_X6_clear_79 hq271) ?_
                        refine z_iconst (pc2 := 86) rfl dX11_sheet_85 lt_i_1 ?_
                        exact z_iret dX11_sheet_86 rfl rfl (fi_w h)
                    · replace h := ab_neg hi272 h
                      by_cases hi276 : a1 = (2 : Int32)
                      · replace h := ab_pos hi276 h
                        refine z_aaldR 20 81 (pc2 := 72) rfl dX11_sheet_71 rfl rfl (by rw [hi276]; rfl) (by rw [hi276]; rfl) ?_
                        refine z_iload_n (pc2 := 73) rfl dX11_sheet_72 rfl ?_
                        refine z_iload_n (pc2 := 74) rfl dX11_sheet_73 rfl ?_
                        refine z_if_ne (pc2 := 77) (tgt := 81) rfl dX11_sheet_74 (by decide) (fun hc273 => ?_) (fun hc273 => ?_)
                        · replace h := ab_neg hc273 h
                          refine z_iload_n (pc2 := 82) rfl dX11_sheet_81 rfl ?_
                          obtain ⟨q274, hq274, h⟩ := ab_bnd h
                          refine z_callVv 81 [.int a2, .int a3] [some (.ref 81), some (.int a2), some (.int a3), none] (pc2 := 85) rfl rfl dX11_sheet_82 ok_X6_clear ⟨fun _ => rfl, fun _ => Nat.le_of_ble_eq_true rfl⟩ rfl rv_81 wd_903 wd_904 wd_905 rfl (e_X6_clear_81 hq274) ?_
                          refine z_iconst (pc2 := 86) rfl dX11_sheet_85 lt_i_1 ?_
                          exact z_iret dX11_sheet_86 rfl rfl (fi_w h)
                        · replace h := ab_pos hc273 h
                          refine z_iconst (pc2 := 78) rfl dX11_sheet_77 lt_i_0 ?_
                          refine ab_goto (tgt := 82) dX11_sheet_78 (by decide) ?_
                          obtain ⟨q275, hq275, h⟩ := ab_bnd h
                          refine z_callVv 81 [.int a2, .int (0 : Int32)] [some (.ref 81), some (.int a2), some (.int (0 : Int32)), none] (pc2 := 85) rfl rfl dX11_sheet_82 ok_X6_clear ⟨fun _ => rfl, fun _ => Nat.le_of_ble_eq_true rfl⟩ rfl rv_81 wd_903 wd_904 wd_905 rfl (e_X6_clear_81 hq275) ?_
                          refine z_iconst (pc2 := 86) rfl dX11_sheet_85 lt_i_1 ?_
                          exact z_iret dX11_sheet_86 rfl rfl (fi_w h)
                      · replace h := ab_neg hi276 h
                        by_cases hi280 : a1 = (3 : Int32)
                        · replace h := ab_pos hi280 h
                          refine z_aaldR 20 83 (pc2 := 72) rfl dX11_sheet_71 rfl rfl (by rw [hi280]; rfl) (by rw [hi280]; rfl) ?_
                          refine z_iload_n (pc2 := 73) rfl dX11_sheet_72 rfl ?_
                          refine z_iload_n (pc2 := 74) rfl dX11_sheet_73 rfl ?_
                          refine z_if_ne (pc2 := 77) (tgt := 81) rfl dX11_sheet_74 (by decide) (fun hc277 => ?_) (fun hc277 => ?_)
                          · replace h := ab_neg hc277 h
                            refine z_iload_n (pc2 := 82) rfl dX11_sheet_81 rfl ?_
                            obtain ⟨q278, hq278, h⟩ := ab_bnd h
                            refine z_callVv 83 [.int a2, .int a3] [some (.ref 83), some (.int a2), some (.int a3), none] (pc2 := 85) rfl rfl dX11_sheet_82 ok_X6_clear ⟨fun _ => rfl, fun _ => Nat.le_of_ble_eq_true rfl⟩ rfl rv_83 wd_903 wd_904 wd_905 rfl (e_X6_clear_83 hq278) ?_
                            refine z_iconst (pc2 := 86) rfl dX11_sheet_85 lt_i_1 ?_
                            exact z_iret dX11_sheet_86 rfl rfl (fi_w h)
                          · replace h := ab_pos hc277 h
                            refine z_iconst (pc2 := 78) rfl dX11_sheet_77 lt_i_0 ?_
                            refine ab_goto (tgt := 82) dX11_sheet_78 (by decide) ?_
                            obtain ⟨q279, hq279, h⟩ := ab_bnd h
                            refine z_callVv 83 [.int a2, .int (0 : Int32)] [some (.ref 83), some (.int a2), some (.int (0 : Int32)), none] (pc2 := 85) rfl rfl dX11_sheet_82 ok_X6_clear ⟨fun _ => rfl, fun _ => Nat.le_of_ble_eq_true rfl⟩ rfl rv_83 wd_903 wd_904 wd_905 rfl (e_X6_clear_83 hq279) ?_
                            refine z_iconst (pc2 := 86) rfl dX11_sheet_85 lt_i_1 ?_
                            exact z_iret dX11_sheet_86 rfl rfl (fi_w h)
                        · replace h := ab_neg hi280 h
                          cases h
                · replace h := ab_neg hc264 h
                  refine z_iload_n (pc2 := 55) rfl dX11_sheet_54 rfl ?_
                  refine z_bipush (pc2 := 57) rfl dX11_sheet_55 lt_b_24 ?_
                  refine z_icmp_le (pc2 := 60) (tgt := 66) rfl dX11_sheet_57 (by decide) (fun hc281 => ?_) (fun hc281 => ?_)
                  · replace h := ab_pos hc281 h
                    refine z_aload_n (pc2 := 67) rfl dX11_sheet_66 rfl ?_
                    refine z_getR 8 11 8 20 (pc2 := 70) rfl dX11_sheet_67 rfl rfl ff_11_8 wd_310 rfl ?_
                    refine z_iload_n (pc2 := 71) rfl dX11_sheet_70 rfl ?_
                    by_cases hi285 : a1 = (0 : Int32)
                    · replace h := ab_pos hi285 h
                      refine z_aaldR 20 77 (pc2 := 72) rfl dX11_sheet_71 rfl rfl (by rw [hi285]; rfl) (by rw [hi285]; rfl) ?_
                      refine z_iload_n (pc2 := 73) rfl dX11_sheet_72 rfl ?_
                      refine z_iload_n (pc2 := 74) rfl dX11_sheet_73 rfl ?_
                      refine z_if_ne (pc2 := 77) (tgt := 81) rfl dX11_sheet_74 (by decide) (fun hc282 => ?_) (fun hc282 => ?_)
                      · replace h := ab_neg hc282 h
                        refine z_iload_n (pc2 := 82) rfl dX11_sheet_81 rfl ?_
                        obtain ⟨q283, hq283, h⟩ := ab_bnd h
                        refine z_callVv 77 [.int a2, .int a3] [some (.ref 77), some (.int a2), some (.int a3), none] (pc2 := 85) rfl rfl dX11_sheet_82 ok_X6_clear ⟨fun _ => rfl, fun _ => Nat.le_of_ble_eq_true rfl⟩ rfl rv_77 wd_903 wd_904 wd_905 rfl (e_X6_clear_77 hq283) ?_
                        refine z_iconst (pc2 := 86) rfl dX11_sheet_85 lt_i_1 ?_
                        exact z_iret dX11_sheet_86 rfl rfl (fi_w h)
                      · replace h := ab_pos hc282 h
                        refine z_iconst (pc2 := 78) rfl dX11_sheet_77 lt_i_0 ?_
                        refine ab_goto (tgt := 82) dX11_sheet_78 (by decide) ?_
                        obtain ⟨q284, hq284, h⟩ := ab_bnd h
                        refine z_callVv 77 [.int a2, .int (0 : Int32)] [some (.ref 77), some (.int a2), some (.int (0 : Int32)), none] (pc2 := 85) rfl rfl dX11_sheet_82 ok_X6_clear ⟨fun _ => rfl, fun _ => Nat.le_of_ble_eq_true rfl⟩ rfl rv_77 wd_903 wd_904 wd_905 rfl (e_X6_clear_77 hq284) ?_
                        refine z_iconst (pc2 := 86) rfl dX11_sheet_85 lt_i_1 ?_
                        exact z_iret dX11_sheet_86 rfl rfl (fi_w h)
                    · replace h := ab_neg hi285 h
                      by_cases hi289 : a1 = (1 : Int32)
                      · replace h := ab_pos hi289 h
                        refine z_aaldR 20 79 (pc2 := 72) rfl dX11_sheet_71 rfl rfl (by rw [hi289]; rfl) (by rw [hi289]; rfl) ?_
                        refine z_iload_n (pc2 := 73) rfl dX11_sheet_72 rfl ?_
                        refine z_iload_n (pc2 := 74) rfl dX11_sheet_73 rfl ?_
                        refine z_if_ne (pc2 := 77) (tgt := 81) rfl dX11_sheet_74 (by decide) (fun hc286 => ?_) (fun hc286 => ?_)
                        · replace h := ab_neg hc286 h
                          refine z_iload_n (pc2 := 82) rfl dX11_sheet_81 rfl ?_
                          obtain ⟨q287, hq287, h⟩ := ab_bnd h
                          refine z_callVv 79 [.int a2, .int a3] [some (.ref 79), some (.int a2), some (.int a3), none] (pc2 := 85) rfl rfl dX11_sheet_82 ok_X6_clear ⟨fun _ => rfl, fun _ => Nat.le_of_ble_eq_true rfl⟩ rfl rv_79 wd_903 wd_904 wd_905 rfl (e_X6_clear_79 hq287) ?_
                          refine z_iconst (pc2 := 86) rfl dX11_sheet_85 lt_i_1 ?_
                          exact z_iret dX11_sheet_86 rfl rfl (fi_w h)
                        · replace h := ab_pos hc286 h
                          refine z_iconst (pc2 := 78) rfl dX11_sheet_77 lt_i_0 ?_
                          refine ab_goto (tgt := 82) dX11_sheet_78 (by decide) ?_
                          obtain ⟨q288, hq288, h⟩ := ab_bnd h
                          refine z_callVv 79 [.int a2, .int (0 : Int32)] [some (.ref 79), some (.int a2), some (.int (0 : Int32)), none] (pc2 := 85) rfl rfl dX11_sheet_82 ok_X6_clear ⟨fun _ => rfl, fun _ => Nat.le_of_ble_eq_true rfl⟩ rfl rv_79 wd_903 wd_904 wd_905 rfl (e_X6_clear_79 hq288) ?_
                          refine z_iconst (pc2 := 86) rfl dX11_sheet_85 lt_i_1 ?_
                          exact z_iret dX11_sheet_86 rfl rfl (fi_w h)
                      · replace h := ab_neg hi289 h
                        by_cases hi293 : a1 = (2 : Int32)
                        · replace h := ab_pos hi293 h
                          refine z_aaldR 20 81 (pc2 := 72) rfl dX11_sheet_71 rfl rfl (by rw [hi293]; rfl) (by rw [hi293]; rfl) ?_
                          refine z_iload_n (pc2 := 73) rfl dX11_sheet_72 rfl ?_
                          refine z_iload_n (pc2 := 74) rfl dX11_sheet_73 rfl ?_
                          refine z_if_ne (pc2 := 77) (tgt := 81) rfl dX11_sheet_74 (by decide) (fun hc290 => ?_) (fun hc290 => ?_)
                          · replace h := ab_neg hc290 h
                            refine z_iload_n (pc2 := 82) rfl dX11_sheet_81 rfl ?_
                            obtain ⟨q291, hq291, h⟩ := ab_bnd h
                            refine z_callVv 81 [.int a2, .int a3] [some (.ref 81), some (.int a2), some (.int a3), none] (pc2 := 85) rfl rfl dX11_sheet_82 ok_X6_clear ⟨fun _ => rfl, fun _ => Nat.le_of_ble_eq_true rfl⟩ rfl rv_81 wd_903 wd_904 wd_905 rfl (e_X6_clear_81 hq291) ?_
                            refine z_iconst (pc2 := 86) rfl dX11_sheet_85 lt_i_1 ?_
                            exact z_iret dX11_sheet_86 rfl rfl (fi_w h)
                          · replace h := ab_pos hc290 h
                            refine z_iconst (pc2 := 78) rfl dX11_sheet_77 lt_i_0 ?_
                            refine ab_goto (tgt := 82) dX11_sheet_78 (by decide) ?_
                            obtain ⟨q292, hq292, h⟩ := ab_bnd h
                            refine z_callVv 81 [.int a2, .int (0 : Int32)] [some (.ref 81), some (.int a2), some (.int (0 : Int32)), none] (pc2 := 85) rfl rfl dX11_sheet_82 ok_X6_clear ⟨fun _ => rfl, fun _ => Nat.le_of_ble_eq_true rfl⟩ rfl rv_81 wd_903 wd_904 wd_905 rfl (e_X6_clear_81 hq292) ?_
                            refine z_iconst (pc2 := 86) rfl dX11_sheet_85 lt_i_1 ?_
                            exact z_iret dX11_sheet_86 rfl rfl (fi_w h)
                        · replace h := ab_neg hi293 h
                          by_cases hi297 : a1 = (3 : Int32)
                          · replace h := ab_pos hi297 h
                            refine z_aaldR 20 83 (pc2 := 72) rfl dX11_sheet_71 rfl rfl (by rw [hi297]; rfl) (by rw [hi297]; rfl) ?_
                            refine z_iload_n (pc2 := 73) rfl dX11_sheet_72 rfl ?_
                            refine z_iload_n (pc2 := 74) rfl dX11_sheet_73 rfl ?_
                            refine z_if_ne (pc2 := 77) (tgt := 81) rfl dX11_sheet_74 (by decide) (fun hc294 => ?_) (fun hc294 => ?_)
                            · replace h := ab_neg hc294 h
                              refine z_iload_n (pc2 := 82) rfl dX11_sheet_81 rfl ?_
                              obtain ⟨q295, hq295, h⟩ := ab_bnd h
                              refine z_callVv 83 [.int a2, .int a3] [some (.ref 83), some (.int a2), some (.int a3), none] (pc2 := 85) rfl rfl dX11_sheet_82 ok_X6_clear ⟨fun _ => rfl, fun _ => Nat.le_of_ble_eq_true rfl⟩ rfl rv_83 wd_903 wd_904 wd_905 rfl (e_X6_clear_83 hq295) ?_
                              refine z_iconst (pc2 := 86) rfl dX11_sheet_85 lt_i_1 ?_
                              exact z_iret dX11_sheet_86 rfl rfl (fi_w h)
                            · replace h := ab_pos hc294 h
                              refine z_iconst (pc2 := 78) rfl dX11_sheet_77 lt_i_0 ?_
                              refine ab_goto (tgt := 82) dX11_sheet_78 (by decide) ?_
                              obtain ⟨q296, hq296, h⟩ := ab_bnd h
                              refine z_callVv 83 [.int a2, .int (0 : Int32)] [some (.ref 83), some (.int a2), some (.int (0 : Int32)), none] (pc2 := 85) rfl rfl dX11_sheet_82 ok_X6_clear ⟨fun _ => rfl, fun _ => Nat.le_of_ble_eq_true rfl⟩ rfl rv_83 wd_903 wd_904 wd_905 rfl (e_X6_clear_83 hq296) ?_
                              refine z_iconst (pc2 := 86) rfl dX11_sheet_85 lt_i_1 ?_
                              exact z_iret dX11_sheet_86 rfl rfl (fi_w h)
                          · replace h := ab_neg hi297 h
                            cases h
                  · replace h := ab_neg hc281 h
                    refine z_aload_n (pc2 := 61) rfl dX11_sheet_60 rfl ?_
                    refine z_iconst (pc2 := 62) rfl dX11_sheet_61 lt_i_1 ?_
                    obtain ⟨q298, hq298, h⟩ := ab_bnd h
                    refine z_callVi 8 [.int (1 : Int32)] [some (.ref 8), some (.int (1 : Int32))] (pc2 := 65) rfl rfl dX11_sheet_62 ok_X11_refuse ⟨fun _ => rfl, fun _ => Nat.le_of_ble_eq_true rfl⟩ rfl rv_8 wd_346 wd_348 wd_0 rfl (e_X11_refuse hq298) ?_
                    exact z_iret dX11_sheet_65 rfl rfl (fi_w h)
              · replace h := ab_neg hc263 h
                refine z_aload_n (pc2 := 45) rfl dX11_sheet_44 rfl ?_
                refine z_iconst (pc2 := 46) rfl dX11_sheet_45 lt_i_3 ?_
                obtain ⟨q299, hq299, h⟩ := ab_bnd h
                refine z_callVi 8 [.int (3 : Int32)] [some (.ref 8), some (.int (3 : Int32))] (pc2 := 49) rfl rfl dX11_sheet_46 ok_X11_refuse ⟨fun _ => rfl, fun _ => Nat.le_of_ble_eq_true rfl⟩ rfl rv_8 wd_346 wd_348 wd_0 rfl (e_X11_refuse hq299) ?_
                exact z_iret dX11_sheet_49 rfl rfl (fi_w h)
          · replace h := ab_neg hc226 h
            refine z_aload_n (pc2 := 31) rfl dX11_sheet_30 rfl ?_
            refine z_iconst (pc2 := 32) rfl dX11_sheet_31 lt_i_1 ?_
            obtain ⟨q300, hq300, h⟩ := ab_bnd h
            refine z_callVi 8 [.int (1 : Int32)] [some (.ref 8), some (.int (1 : Int32))] (pc2 := 35) rfl rfl dX11_sheet_32 ok_X11_refuse ⟨fun _ => rfl, fun _ => Nat.le_of_ble_eq_true rfl⟩ rfl rv_8 wd_346 wd_348 wd_0 rfl (e_X11_refuse hq300) ?_
            exact z_iret dX11_sheet_35 rfl rfl (fi_w h)
