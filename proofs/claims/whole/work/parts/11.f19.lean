def f_X11_told (a1 : Int32) (σ : ab_F) : Option (Int32 × ab_F) := (if a1 < (1 : Int32) then (f_X11_refuse (1 : Int32) σ).bind (fun q2 => (some (q2.1, q2.2))) else (if a1 ≤ (6 : Int32) then ab_ck (ab_ib a1 7) ((some ((σ 23 (a1).toNatClampNeg), σ))) else (f_X11_refuse (1 : Int32) σ).bind (fun q5 => (some (q5.1, q5.2)))))
set_option maxRecDepth 100000 in
set_option maxHeartbeats 4000000 in
theorem e_X11_told {sc : Nat × (Nat → Int32)} {r : Option Nat × Option Nat} {a1 : Int32} {σ : ab_F} {res : (Int32 × ab_F)} (h : f_X11_told a1 σ = some res) : ab_E mX11_told 1 sc 0 [some (.ref 8), some (.int a1)] [] (σ, r) (fun v S => v = some (.int res.1) ∧ S = (res.2, r)) := by
  unfold f_X11_told at h
  refine z_iload_n (pc2 := 1) rfl dX11_told_0 rfl ?_
  refine z_iconst (pc2 := 2) rfl dX11_told_1 lt_i_1 ?_
  refine z_icmp_lt (pc2 := 5) (tgt := 11) rfl dX11_told_2 (by decide) (fun hc1 => ?_) (fun hc1 => ?_)
  · replace h := ab_pos hc1 h
    refine z_aload_n (pc2 := 12) rfl dX11_told_11 rfl ?_
    refine z_iconst (pc2 := 13) rfl dX11_told_12 lt_i_1 ?_
    obtain ⟨q2, hq2, h⟩ := ab_bnd h
    refine z_callVi 8 [.int (1 : Int32)] [some (.ref 8), some (.int (1 : Int32))] (pc2 := 16) rfl rfl dX11_told_13 ok_X11_refuse ⟨fun _ => rfl, fun _ => Nat.le_of_ble_eq_true rfl⟩ rfl rv_8 wd_346 wd_348 wd_0 rfl (e_X11_refuse hq2) ?_
    exact z_iret dX11_told_16 rfl rfl (fi_w h)
  · replace h := ab_neg hc1 h
    refine z_iload_n (pc2 := 6) rfl dX11_told_5 rfl ?_
    refine z_bipush (pc2 := 8) rfl dX11_told_6 lt_b_6 ?_
    refine z_icmp_le (pc2 := 11) (tgt := 17) rfl dX11_told_8 (by decide) (fun hc3 => ?_) (fun hc3 => ?_)
    · replace h := ab_pos hc3 h
      refine z_aload_n (pc2 := 18) rfl dX11_told_17 rfl ?_
      refine z_getR 8 11 10 23 (pc2 := 21) rfl dX11_told_18 rfl rfl ff_11_10 wd_312 rfl ?_
      refine z_iload_n (pc2 := 22) rfl dX11_told_21 rfl ?_
      obtain ⟨hb4, h⟩ := ab_ck_e h
      refine z_iald 23 (pc2 := 23) (j := (a1).toNatClampNeg) rfl dX11_told_22 rfl rfl hb4 rfl ?_
      exact z_iret dX11_told_23 rfl rfl (fi_w h)
    · replace h := ab_neg hc3 h
      refine z_aload_n (pc2 := 12) rfl dX11_told_11 rfl ?_
      refine z_iconst (pc2 := 13) rfl dX11_told_12 lt_i_1 ?_
      obtain ⟨q5, hq5, h⟩ := ab_bnd h
      refine z_callVi 8 [.int (1 : Int32)] [some (.ref 8), some (.int (1 : Int32))] (pc2 := 16) rfl rfl dX11_told_13 ok_X11_refuse ⟨fun _ => rfl, fun _ => Nat.le_of_ble_eq_true rfl⟩ rfl rv_8 wd_346 wd_348 wd_0 rfl (e_X11_refuse hq5) ?_
      exact z_iret dX11_told_16 rfl rfl (fi_w h)
def f_X12_error (a1 : Int32) (σ : ab_F) : Option (Int32 × ab_F) := ab_ck (ab_ib a1 7) (ab_ck (ab_ib a1 7) (ab_lt (ab_u σ 89 (a1).toNatClampNeg ((σ 89 (a1).toNatClampNeg) + (1 : Int32))) (fun (s3 : ab_F) => (some (((-1000000000 : Int32) - a1), s3)))))
set_option maxRecDepth 100000 in
set_option maxHeartbeats 4000000 in
theorem e_X12_error {sc : Nat × (Nat → Int32)} {r : Option Nat × Option Nat} {a1 : Int32} {σ : ab_F} {res : (Int32 × ab_F)} (h : f_X12_error a1 σ = some res) : ab_E mX12_error 0 sc 0 [some (.ref 85), some (.int a1)] [] (σ, r) (fun v S => v = some (.int res.1) ∧ S = (res.2, r)) := by
  unfold f_X12_error at h
  refine z_aload_n (pc2 := 1) rfl dX12_error_0 rfl ?_
  refine z_getR 85 12 4 89 (pc2 := 4) rfl dX12_error_1 rfl rfl ff_12_4 wd_981 rfl ?_
  refine z_iload_n (pc2 := 5) rfl dX12_error_4 rfl ?_
  refine z_dup2 (pc2 := 6) rfl dX12_error_5 rfl rfl ?_
  obtain ⟨hb1, h⟩ := ab_ck_e h
  refine z_iald 89 (pc2 := 7) (j := (a1).toNatClampNeg) rfl dX12_error_6 rfl rfl hb1 rfl ?_
  refine z_iconst (pc2 := 8) rfl dX12_error_7 lt_i_1 ?_
  refine z_iadd (pc2 := 9) rfl dX12_error_8 ?_
  obtain ⟨hb2, h⟩ := ab_ck_e h
  refine z_iast 89 (pc2 := 10) (j := (a1).toNatClampNeg) rfl dX12_error_9 rfl rfl hb2 rfl ?_
  obtain ⟨s3, hs3, h⟩ := ab_lt_e h
  refine z_tops hs3 ?_
  refine z_ldc (pc2 := 12) rfl dX12_error_10 wd_1049 ?_
  refine z_iload_n (pc2 := 13) rfl dX12_error_12 rfl ?_
  refine z_isub (pc2 := 14) rfl dX12_error_13 ?_
  exact z_iret dX12_error_14 rfl rfl (fi_w h)
def f_X12_saves_L2 (K : ab_F → Option ab_F) : Nat → Int32 → ab_F → Option ab_F
  | 0, _, _ => none
  | n + 1, u1, σ => (if (116 : Int32) ≤ u1 then (K σ) else ab_ck (ab_ib u1 450) (ab_ck (ab_ib u1 116) (ab_lt (ab_u σ 88 (u1).toNatClampNeg (σ 86 (u1).toNatClampNeg)) (fun (s4 : ab_F) => ab_lt (u1 + (1 : Int32)) (fun x5 => (f_X12_saves_L2 K n x5 s4))))))
set_option maxRecDepth 100000 in
set_option maxHeartbeats 4000000 in
theorem e_X12_saves_L2 {sc : Nat × (Nat → Int32)} {r : Option Nat × Option Nat} {K : ab_F → Option ab_F} {res : ab_F} (hK : ∀ (σ : ab_F), K σ = some res → ab_E mX12_saves 0 sc 26 [none, none] [] (σ, r) (fun v S => v = none ∧ S = (res, r))) : ∀ (n : Nat) (u1 : Int32) (σ : ab_F), f_X12_saves_L2 K n u1 σ = some res → ab_E mX12_saves 0 sc 2 [some (.ref 85), some (.int u1)] [] (σ, r) (fun v S => v = none ∧ S = (res, r)) := by
  intro n
  induction n with
  | zero =>
    intro u1 σ h
    rw [f_X12_saves_L2] at h
    cases h
  | succ n ih =>
    intro u1 σ h
    rw [f_X12_saves_L2] at h
    refine z_iload_n (pc2 := 3) rfl dX12_saves_2 rfl ?_
    refine z_bipush (pc2 := 5) rfl dX12_saves_3 lt_b_116 ?_
    refine z_icmp_ge (pc2 := 8) (tgt := 26) rfl dX12_saves_5 (by decide) (fun hc1 => ?_) (fun hc1 => ?_)
    · replace h := ab_pos hc1 h
      refine z_fgt [false, false] (L2 := [none, none]) rfl ?_
      exact hK  _ h
    · replace h := ab_neg hc1 h
      refine z_aload_n (pc2 := 9) rfl dX12_saves_8 rfl ?_
      refine z_getR 85 12 2 88 (pc2 := 12) rfl dX12_saves_9 rfl rfl ff_12_2 wd_979 rfl ?_
      refine z_iload_n (pc2 := 13) rfl dX12_saves_12 rfl ?_
      refine z_aload_n (pc2 := 14) rfl dX12_saves_13 rfl ?_
      refine z_getR 85 12 0 86 (pc2 := 17) rfl dX12_saves_14 rfl rfl ff_12_0 wd_977 rfl ?_
      refine z_iload_n (pc2 := 18) rfl dX12_saves_17 rfl ?_
      obtain ⟨hb2, h⟩ := ab_ck_e h
      refine z_iald 86 (pc2 := 19) (j := (u1).toNatClampNeg) rfl dX12_saves_18 rfl rfl hb2 rfl ?_
      obtain ⟨hb3, h⟩ := ab_ck_e h
      refine z_iast 88 (pc2 := 20) (j := (u1).toNatClampNeg) rfl dX12_saves_19 rfl rfl hb3 rfl ?_
      obtain ⟨s4, hs4, h⟩ := ab_lt_e h
      refine z_tops hs4 ?_
      obtain ⟨x5, hxx5, h⟩ := ab_lt_e h
      refine z_iinc (pc2 := 23) (v := x5) (L2 := [some (.ref 85), some (.int x5)]) rfl dX12_saves_20 rfl (by rw [hxx5]; rfl) (by decide) rfl rfl ?_
      refine ab_goto (tgt := 2) dX12_saves_23 (by decide) ?_
      refine z_fgt [true, true] (L2 := [some (.ref 85), some (.int x5)]) rfl ?_
      exact ih _ _ h
def f_X12_saves (σ : ab_F) : Option ab_F := (f_X12_saves_L2 (fun (s6 : ab_F) => (some s6)) ab_fu (0 : Int32) σ)
set_option maxRecDepth 100000 in
set_option maxHeartbeats 4000000 in
theorem e_X12_saves {sc : Nat × (Nat → Int32)} {r : Option Nat × Option Nat} {σ : ab_F} {res : ab_F} (h : f_X12_saves σ = some res) : ab_E mX12_saves 0 sc 0 [some (.ref 85), none] [] (σ, r) (fun v S => v = none ∧ S = (res, r)) := by
  unfold f_X12_saves at h
  refine z_iconst (pc2 := 1) rfl dX12_saves_0 lt_i_0 ?_
  refine z_istore_n (pc2 := 2) (L2 := [some (.ref 85), some (.int (0 : Int32))]) rfl dX12_saves_1 (by decide) rfl rfl ?_
  refine z_fgt [true, true] (L2 := [some (.ref 85), some (.int (0 : Int32))]) rfl ?_
  refine e_X12_saves_L2 (fun s6 h => ?_) _ _ _ h
  exact z_vret dX12_saves_26 rfl (fv_w h)
def f_X12_putsBack_L2 (K : ab_F → Option ab_F) : Nat → Int32 → ab_F → Option ab_F
  | 0, _, _ => none
  | n + 1, u1, σ => (if (116 : Int32) ≤ u1 then (K σ) else ab_ck (ab_ib u1 116) (ab_ck (ab_ib u1 450) (ab_lt (ab_u σ 86 (u1).toNatClampNeg (σ 88 (u1).toNatClampNeg)) (fun (s4 : ab_F) => ab_lt (u1 + (1 : Int32)) (fun x5 => (f_X12_putsBack_L2 K n x5 s4))))))
set_option maxRecDepth 100000 in
set_option maxHeartbeats 4000000 in
theorem e_X12_putsBack_L2 {sc : Nat × (Nat → Int32)} {r : Option Nat × Option Nat} {K : ab_F → Option ab_F} {res : ab_F} (hK : ∀ (σ : ab_F), K σ = some res → ab_E mX12_putsBack 0 sc 26 [none, none] [] (σ, r) (fun v S => v = none ∧ S = (res, r))) : ∀ (n : Nat) (u1 : Int32) (σ : ab_F), f_X12_putsBack_L2 K n u1 σ = some res → ab_E mX12_putsBack 0 sc 2 [some (.ref 85), some (.int u1)] [] (σ, r) (fun v S => v = none ∧ S = (res, r)) := by
  intro n
  induction n with
  | zero =>
    intro u1 σ h
    rw [f_X12_putsBack_L2] at h
    cases h
  | succ n ih =>
    intro u1 σ h
    rw [f_X12_putsBack_L2] at h
    refine z_iload_n (pc2 := 3) rfl dX12_putsBack_2 rfl ?_
    refine z_bipush (pc2 := 5) rfl dX12_putsBack_3 lt_b_116 ?_
    refine z_icmp_ge (pc2 := 8) (tgt := 26) rfl dX12_putsBack_5 (by decide) (fun hc1 => ?_) (fun hc1 => ?_)
    · replace h := ab_pos hc1 h
      refine z_fgt [false, false] (L2 := [none, none]) rfl ?_
      exact hK  _ h
    · replace h := ab_neg hc1 h
      refine z_aload_n (pc2 := 9) rfl dX12_putsBack_8 rfl ?_
      refine z_getR 85 12 0 86 (pc2 := 12) rfl dX12_putsBack_9 rfl rfl ff_12_0 wd_977 rfl ?_
      refine z_iload_n (pc2 := 13) rfl dX12_putsBack_12 rfl ?_
      refine z_aload_n (pc2 := 14) rfl dX12_putsBack_13 rfl ?_
      refine z_getR 85 12 2 88 (pc2 := 17) rfl dX12_putsBack_14 rfl rfl ff_12_2 wd_979 rfl ?_
      refine z_iload_n (pc2 := 18) rfl dX12_putsBack_17 rfl ?_
      obtain ⟨hb2, h⟩ := ab_ck_e h
      refine z_iald 88 (pc2 := 19) (j := (u1).toNatClampNeg) rfl dX12_putsBack_18 rfl rfl hb2 rfl ?_
      obtain ⟨hb3, h⟩ := ab_ck_e h
      refine z_iast 86 (pc2 := 20) (j := (u1).toNatClampNeg) rfl dX12_putsBack_19 rfl rfl hb3 rfl ?_
      obtain ⟨s4, hs4, h⟩ := ab_lt_e h
      refine z_tops hs4 ?_
      obtain ⟨x5, hxx5, h⟩ := ab_lt_e h
      refine z_iinc (pc2 := 23) (v := x5) (L2 := [some (.ref 85), some (.int x5)]) rfl dX12_putsBack_20 rfl (by rw [hxx5]; rfl) (by decide) rfl rfl ?_
      refine ab_goto (tgt := 2) dX12_putsBack_23 (by decide) ?_
      refine z_fgt [true, true] (L2 := [some (.ref 85), some (.int x5)]) rfl ?_
      exact ih _ _ h
def f_X12_putsBack (σ : ab_F) : Option ab_F := (f_X12_putsBack_L2 (fun (s6 : ab_F) => (some s6)) ab_fu (0 : Int32) σ)
set_option maxRecDepth 100000 in
set_option maxHeartbeats 4000000 in
theorem e_X12_putsBack {sc : Nat × (Nat → Int32)} {r : Option Nat × Option Nat} {σ : ab_F} {res : ab_F} (h : f_X12_putsBack σ = some res) : ab_E mX12_putsBack 0 sc 0 [some (.ref 85), none] [] (σ, r) (fun v S => v = none ∧ S = (res, r)) := by
  unfold f_X12_putsBack at h
  refine z_iconst (pc2 := 1) rfl dX12_putsBack_0 lt_i_0 ?_
  refine z_istore_n (pc2 := 2) (L2 := [some (.ref 85), some (.int (0 : Int32))]) rfl dX12_putsBack_1 (by decide) rfl rfl ?_
  refine z_fgt [true, true] (L2 := [some (.ref 85), some (.int (0 : Int32))]) rfl ?_
  refine e_X12_putsBack_L2 (fun s6 h => ?_) _ _ _ h
  exact z_vret dX12_putsBack_26 rfl (fv_w h)
def f_X12_in (a0 : Int32) (a1 : Int32) (a2 : Int32) (σ : ab_F) : Option Bool := (if a0 < a1 then (some false) else (if a2 < a0 then (some false) else (some true)))
set_option maxRecDepth 100000 in
set_option maxHeartbeats 4000000 in
theorem e_X12_in {sc : Nat × (Nat → Int32)} {r : Option Nat × Option Nat} {a0 : Int32} {a1 : Int32} {a2 : Int32} {σ : ab_F} {res : Bool} (h : f_X12_in a0 a1 a2 σ = some res) : ab_E mX12_in 0 sc 0 [some (.int a0), some (.int a1), some (.int a2)] [] (σ, r) (fun v S => v = some (.int (ab_b res)) ∧ S = (σ, r)) := by
  unfold f_X12_in at h
  refine z_iload_n (pc2 := 1) rfl dX12_in_0 rfl ?_
  refine z_iload_n (pc2 := 2) rfl dX12_in_1 rfl ?_
  refine z_icmp_lt (pc2 := 5) (tgt := 14) rfl dX12_in_2 (by decide) (fun hc1 => ?_) (fun hc1 => ?_)
  · replace h := ab_pos hc1 h
    refine z_iconst (pc2 := 15) rfl dX12_in_14 lt_i_0 ?_
    exact z_iret dX12_in_15 rfl rfl (fz_p rfl h)
  · replace h := ab_neg hc1 h
    refine z_iload_n (pc2 := 6) rfl dX12_in_5 rfl ?_
    refine z_iload_n (pc2 := 7) rfl dX12_in_6 rfl ?_
    refine z_icmp_gt (pc2 := 10) (tgt := 14) rfl dX12_in_7 (by decide) (fun hc2 => ?_) (fun hc2 => ?_)
    · replace h := ab_pos hc2 h
      refine z_iconst (pc2 := 15) rfl dX12_in_14 lt_i_0 ?_
      exact z_iret dX12_in_15 rfl rfl (fz_p rfl h)
    · replace h := ab_neg hc2 h
      refine z_iconst (pc2 := 11) rfl dX12_in_10 lt_i_1 ?_
      refine ab_goto (tgt := 15) dX12_in_11 (by decide) ?_
      exact z_iret dX12_in_15 rfl rfl (fz_p rfl h)
def f_X12_isOne (a1 : Int32) (σ : ab_F) : Option Bool := (f_X12_in a1 (0 : Int32) ((σ 86 5) - (1 : Int32)) σ).bind (fun q1 => (some q1))
set_option maxRecDepth 100000 in
set_option maxHeartbeats 4000000 in
theorem e_X12_isOne {sc : Nat × (Nat → Int32)} {r : Option Nat × Option Nat} {a1 : Int32} {σ : ab_F} {res : Bool} (h : f_X12_isOne a1 σ = some res) : ab_E mX12_isOne 1 sc 0 [some (.ref 85), some (.int a1)] [] (σ, r) (fun v S => v = some (.int (ab_b res)) ∧ S = (σ, r)) := by
  unfold f_X12_isOne at h
  refine z_iload_n (pc2 := 1) rfl dX12_isOne_0 rfl ?_
  refine z_iconst (pc2 := 2) rfl dX12_isOne_1 lt_i_0 ?_
  refine z_aload_n (pc2 := 3) rfl dX12_isOne_2 rfl ?_
  refine z_getR 85 12 0 86 (pc2 := 6) rfl dX12_isOne_3 rfl rfl ff_12_0 wd_977 rfl ?_
  refine z_iconst (pc2 := 7) rfl dX12_isOne_6 lt_i_5 ?_
  refine z_iald 86 (pc2 := 8) (j := 5) rfl dX12_isOne_7 rfl rfl (by decide) (by decide) ?_
  refine z_iconst (pc2 := 9) rfl dX12_isOne_8 lt_i_1 ?_
  refine z_isub (pc2 := 10) rfl dX12_isOne_9 ?_
  obtain ⟨q1, hq1, h⟩ := ab_bnd h
  refine z_callSi [.int a1, .int (0 : Int32), .int ((σ 86 5) - (1 : Int32))] [some (.int a1), some (.int (0 : Int32)), some (.int ((σ 86 5) - (1 : Int32)))] (pc2 := 13) rfl rfl dX12_isOne_10 ok_X12_in ⟨fun _ => rfl, fun _ => Nat.le_of_ble_eq_true rfl⟩ rfl wd_1042 wd_1043 rfl (e_X12_in hq1) ?_
  exact z_iret dX12_isOne_13 rfl (ab_b_n _) (fz_p rfl h)
def f_X12_its (a1 : Int32) (a2 : Int32) (σ : ab_F) : Option Int32 := ab_ck (ab_ib (((76 : Int32) + ((5 : Int32) * a1)) + a2) 450) ((some (σ 86 ((((76 : Int32) + ((5 : Int32) * a1)) + a2)).toNatClampNeg)))
set_option maxRecDepth 100000 in
set_option maxHeartbeats 4000000 in
theorem e_X12_its {sc : Nat × (Nat → Int32)} {r : Option Nat × Option Nat} {a1 : Int32} {a2 : Int32} {σ : ab_F} {res : Int32} (h : f_X12_its a1 a2 σ = some res) : ab_E mX12_its 0 sc 0 [some (.ref 85), some (.int a1), some (.int a2)] [] (σ, r) (fun v S => v = some (.int res) ∧ S = (σ, r)) := by
  unfold f_X12_its at h
  refine z_aload_n (pc2 := 1) rfl dX12_its_0 rfl ?_
  refine z_getR 85 12 0 86 (pc2 := 4) rfl dX12_its_1 rfl rfl ff_12_0 wd_977 rfl ?_
  refine z_bipush (pc2 := 6) rfl dX12_its_4 lt_b_76 ?_
  refine z_iconst (pc2 := 7) rfl dX12_its_6 lt_i_5 ?_
  refine z_iload_n (pc2 := 8) rfl dX12_its_7 rfl ?_
  refine z_imul (pc2 := 9) rfl dX12_its_8 ?_
  refine z_iadd (pc2 := 10) rfl dX12_its_9 ?_
  refine z_iload_n (pc2 := 11) rfl dX12_its_10 rfl ?_
  refine z_iadd (pc2 := 12) rfl dX12_its_11 ?_
  obtain ⟨hb1, h⟩ := ab_ck_e h
  refine z_iald 86 (pc2 := 13) (j := ((((76 : Int32) + ((5 : Int32) * a1)) + a2)).toNatClampNeg) rfl dX12_its_12 rfl rfl hb1 rfl ?_
  exact z_iret dX12_its_13 rfl rfl (fi_p h)
def f_X12_lays1 (a1 : Int32) (a2 : Int32) (a3 : Int32) (σ : ab_F) : Option ab_F := ab_ck (ab_ib (((76 : Int32) + ((5 : Int32) * a1)) + a2) 450) (ab_lt (ab_u σ 86 ((((76 : Int32) + ((5 : Int32) * a1)) + a2)).toNatClampNeg a3) (fun (s2 : ab_F) => (some s2)))
set_option maxRecDepth 100000 in
set_option maxHeartbeats 4000000 in
theorem e_X12_lays1 {sc : Nat × (Nat → Int32)} {r : Option Nat × Option Nat} {a1 : Int32} {a2 : Int32} {a3 : Int32} {σ : ab_F} {res : ab_F} (h : f_X12_lays1 a1 a2 a3 σ = some res) : ab_E mX12_lays1 0 sc 0 [some (.ref 85), some (.int a1), some (.int a2), some (.int a3)] [] (σ, r) (fun v S => v = none ∧ S = (res, r)) := by
  unfold f_X12_lays1 at h
  refine z_aload_n (pc2 := 1) rfl dX12_lays1_0 rfl ?_
  refine z_getR 85 12 0 86 (pc2 := 4) rfl dX12_lays1_1 rfl rfl ff_12_0 wd_977 rfl ?_
  refine z_bipush (pc2 := 6) rfl dX12_lays1_4 lt_b_76 ?_
  refine z_iconst (pc2 := 7) rfl dX12_lays1_6 lt_i_5 ?_
  refine z_iload_n (pc2 := 8) rfl dX12_lays1_7 rfl ?_
  refine z_imul (pc2 := 9) rfl dX12_lays1_8 ?_
  refine z_iadd (pc2 := 10) rfl dX12_lays1_9 ?_
  refine z_iload_n (pc2 := 11) rfl dX12_lays1_10 rfl ?_
  refine z_iadd (pc2 := 12) rfl dX12_lays1_11 ?_
  refine z_iload_n (pc2 := 13) rfl dX12_lays1_12 rfl ?_
  obtain ⟨hb1, h⟩ := ab_ck_e h
  refine z_iast 86 (pc2 := 14) (j := ((((76 : Int32) + ((5 : Int32) * a1)) + a2)).toNatClampNeg) rfl dX12_lays1_13 rfl rfl hb1 rfl ?_
  obtain ⟨s2, hs2, h⟩ := ab_lt_e h
  refine z_tops hs2 ?_
  exact z_vret dX12_lays1_14 rfl (fv_w h)
def f_X12_change1 (a1 : Int32) (a2 : Int32) (σ : ab_F) : Option (Int32 × ab_F) := ab_ck (ab_ib a1 450) (ab_lt ((σ 86 (a1).toNatClampNeg)) (fun x2 => ab_ck (ab_ib a1 450) (ab_lt (ab_u σ 86 (a1).toNatClampNeg a2) (fun (s4 : ab_F) => (some (x2, s4))))))
set_option maxRecDepth 100000 in
set_option maxHeartbeats 4000000 in
theorem e_X12_change1 {sc : Nat × (Nat → Int32)} {r : Option Nat × Option Nat} {a1 : Int32} {a2 : Int32} {σ : ab_F} {res : (Int32 × ab_F)} (h : f_X12_change1 a1 a2 σ = some res) : ab_E mX12_change1 0 sc 0 [some (.ref 85), some (.int a1), some (.int a2), none] [] (σ, r) (fun v S => v = some (.int res.1) ∧ S = (res.2, r)) := by
  unfold f_X12_change1 at h
  refine z_aload_n (pc2 := 1) rfl dX12_change1_0 rfl ?_
  refine z_getR 85 12 0 86 (pc2 := 4) rfl dX12_change1_1 rfl rfl ff_12_0 wd_977 rfl ?_
  refine z_iload_n (pc2 := 5) rfl dX12_change1_4 rfl ?_
  obtain ⟨hb1, h⟩ := ab_ck_e h
  refine z_iald 86 (pc2 := 6) (j := (a1).toNatClampNeg) rfl dX12_change1_5 rfl rfl hb1 rfl ?_
  obtain ⟨x2, hxx2, h⟩ := ab_lt_e h
  refine z_top hxx2 ?_
  refine z_istore_n (pc2 := 7) (L2 := [some (.ref 85), some (.int a1), some (.int a2), some (.int x2)]) rfl dX12_change1_6 (by decide) rfl rfl ?_
  refine z_aload_n (pc2 := 8) rfl dX12_change1_7 rfl ?_
  refine z_getR 85 12 0 86 (pc2 := 11) rfl dX12_change1_8 rfl rfl ff_12_0 wd_977 rfl ?_
  refine z_iload_n (pc2 := 12) rfl dX12_change1_11 rfl ?_
  refine z_iload_n (pc2 := 13) rfl dX12_change1_12 rfl ?_
  obtain ⟨hb3, h⟩ := ab_ck_e h
  refine z_iast 86 (pc2 := 14) (j := (a1).toNatClampNeg) rfl dX12_change1_13 rfl rfl hb3 rfl ?_
  obtain ⟨s4, hs4, h⟩ := ab_lt_e h
  refine z_tops hs4 ?_
  refine z_iload_n (pc2 := 15) rfl dX12_change1_14 rfl ?_
  exact z_iret dX12_change1_15 rfl rfl (fi_w h)
def f_X12_feed_L38 (p1 : Int64) (p3 : Int32) (K : ab_F → Option (Int32 × ab_F)) : Nat → Int32 → ab_F → Option (Int32 × ab_F)
  | 0, _, _ => none
  | n + 1, u4, σ => (if p3 ≤ u4 then (K σ) else ab_ck (ab_ib ((366 : Int32) + (σ 86 3)) 450) (ab_lt (ab_u σ 86 (((366 : Int32) + (σ 86 3))).toNatClampNeg (((p1 >>> ((((8 : Int32) * u4)).toInt64 &&& 63)) &&& (255 : Int64))).toInt32) (fun (s6 : ab_F) => ab_lt (ab_u s6 86 3 ((s6 86 3) + (1 : Int32))) (fun (s7 : ab_F) => ab_lt (u4 + (1 : Int32)) (fun x8 => (f_X12_feed_L38 p1 p3 K n x8 s7))))))
set_option maxRecDepth 100000 in
set_option maxHeartbeats 4000000 in
theorem e_X12_feed_L38 {sc : Nat × (Nat → Int32)} {r : Option Nat × Option Nat} {p1 : Int64} {p3 : Int32} {K : ab_F → Option (Int32 × ab_F)} {res : (Int32 × ab_F)} (hK : ∀ (σ : ab_F), K σ = some res → ab_E mX12_feed 1 sc 87 [some (.ref 85), none, none, none, none] [] (σ, r) (fun v S => v = some (.int res.1) ∧ S = (res.2, r))) : ∀ (n : Nat) (u4 : Int32) (σ : ab_F), f_X12_feed_L38 p1 p3 K n u4 σ = some res → ab_E mX12_feed 1 sc 38 [some (.ref 85), some (.long p1), none, some (.int p3), some (.int u4)] [] (σ, r) (fun v S => v = some (.int res.1) ∧ S = (res.2, r)) := by
  intro n
  induction n with
  | zero =>
    intro u4 σ h
    rw [f_X12_feed_L38] at h
    cases h
  | succ n ih =>
    intro u4 σ h
    rw [f_X12_feed_L38] at h
    refine z_iload (pc2 := 40) rfl dX12_feed_38 rfl ?_
    refine z_iload_n (pc2 := 41) rfl dX12_feed_40 rfl ?_
    refine z_icmp_ge (pc2 := 44) (tgt := 87) rfl dX12_feed_41 (by decide) (fun hc4 => ?_) (fun hc4 => ?_)
    · replace h := ab_pos hc4 h
      refine z_fgt [true, false, false, false, false] (L2 := [some (.ref 85), none, none, none, none]) rfl ?_
      exact hK  _ h
    · replace h := ab_neg hc4 h
      refine z_aload_n (pc2 := 45) rfl dX12_feed_44 rfl ?_
      refine z_getR 85 12 0 86 (pc2 := 48) rfl dX12_feed_45 rfl rfl ff_12_0 wd_977 rfl ?_
      refine z_sipush (pc2 := 51) rfl dX12_feed_48 lt_s_366 ?_
      refine z_aload_n (pc2 := 52) rfl dX12_feed_51 rfl ?_
      refine z_getR 85 12 0 86 (pc2 := 55) rfl dX12_feed_52 rfl rfl ff_12_0 wd_977 rfl ?_
      refine z_iconst (pc2 := 56) rfl dX12_feed_55 lt_i_3 ?_
      refine z_iald 86 (pc2 := 57) (j := 3) rfl dX12_feed_56 rfl rfl (by decide) (by decide) ?_
      refine z_iadd (pc2 := 58) rfl dX12_feed_57 ?_
      refine z_lload_n (pc2 := 59) rfl dX12_feed_58 rfl ?_
      refine z_bipush (pc2 := 61) rfl dX12_feed_59 lt_b_8 ?_
      refine z_iload (pc2 := 63) rfl dX12_feed_61 rfl ?_
      refine z_imul (pc2 := 64) rfl dX12_feed_63 ?_
      refine z_lshr (pc2 := 65) rfl dX12_feed_64 ?_
      refine z_ldc2 (pc2 := 68) rfl dX12_feed_65 wd_1050 ?_
      refine z_land (pc2 := 69) rfl dX12_feed_68 ?_
      refine z_l2i (pc2 := 70) rfl dX12_feed_69 ?_
      obtain ⟨hb5, h⟩ := ab_ck_e h
      refine z_iast 86 (pc2 := 71) (j := (((366 : Int32) + (σ 86 3))).toNatClampNeg) rfl dX12_feed_70 rfl rfl hb5 rfl ?_
      obtain ⟨s6, hs6, h⟩ := ab_lt_e h
      refine z_tops hs6 ?_
      refine z_aload_n (pc2 := 72) rfl dX12_feed_71 rfl ?_
      refine z_getR 85 12 0 86 (pc2 := 75) rfl dX12_feed_72 rfl rfl ff_12_0 wd_977 rfl ?_
      refine z_iconst (pc2 := 76) rfl dX12_feed_75 lt_i_3 ?_
      refine z_dup2 (pc2 := 77) rfl dX12_feed_76 rfl rfl ?_
      refine z_iald 86 (pc2 := 78) (j := 3) rfl dX12_feed_77 rfl rfl (by decide) (by decide) ?_
      refine z_iconst (pc2 := 79) rfl dX12_feed_78 lt_i_1 ?_
      refine z_iadd (pc2 := 80) rfl dX12_feed_79 ?_
      refine z_iast 86 (pc2 := 81) (j := 3) rfl dX12_feed_80 rfl rfl (by decide) (by decide) ?_
      obtain ⟨s7, hs7, h⟩ := ab_lt_e h
      refine z_tops hs7 ?_
      obtain ⟨x8, hxx8, h⟩ := ab_lt_e h
      refine z_iinc (pc2 := 84) (v := x8) (L2 := [some (.ref 85), some (.long p1), none, some (.int p3), some (.int x8)]) rfl dX12_feed_81 rfl (by rw [hxx8]; rfl) (by decide) rfl rfl ?_
      refine ab_goto (tgt := 38) dX12_feed_84 (by decide) ?_
      refine z_fgt [true, true, false, true, true] (L2 := [some (.ref 85), some (.long p1), none, some (.int p3), some (.int x8)]) rfl ?_
      exact ih _ _ h
def f_X12_feed (a1 : Int64) (a2 : Int32) (σ : ab_F) : Option (Int32 × ab_F) := (f_X12_in a2 (1 : Int32) (8 : Int32) σ).bind (fun q1 => (if (ab_b q1) = 0 then (f_X12_error (1 : Int32) σ).bind (fun q11 => (some (q11.1, q11.2))) else (if ((σ 86 3) + a2) ≤ (60 : Int32) then (f_X12_feed_L38 a1 a2 (fun (s9 : ab_F) => (some ((s9 86 3), s9))) ab_fu (0 : Int32) σ) else (f_X12_error (4 : Int32) σ).bind (fun q10 => (some (q10.1, q10.2))))))
set_option maxRecDepth 100000 in
set_option maxHeartbeats 4000000 in
theorem e_X12_feed {sc : Nat × (Nat → Int32)} {r : Option Nat × Option Nat} {a1 : Int64} {a2 : Int32} {σ : ab_F} {res : (Int32 × ab_F)} (h : f_X12_feed a1 a2 σ = some res) : ab_E mX12_feed 1 sc 0 [some (.ref 85), some (.long a1), none, some (.int a2), none] [] (σ, r) (fun v S => v = some (.int res.1) ∧ S = (res.2, r)) := by
  unfold f_X12_feed at h
  refine z_iload_n (pc2 := 1) rfl dX12_feed_0 rfl ?_
  refine z_iconst (pc2 := 2) rfl dX12_feed_1 lt_i_1 ?_
  refine z_bipush (pc2 := 4) rfl dX12_feed_2 lt_b_8 ?_
  obtain ⟨q1, hq1, h⟩ := ab_bnd h
  refine z_callSi [.int a2, .int (1 : Int32), .int (8 : Int32)] [some (.int a2), some (.int (1 : Int32)), some (.int (8 : Int32))] (pc2 := 7) rfl rfl dX12_feed_4 ok_X12_in ⟨fun _ => rfl, fun _ => Nat.le_of_ble_eq_true rfl⟩ rfl wd_1042 wd_1043 rfl (e_X12_in hq1) ?_
  refine z_if_ne (pc2 := 10) (tgt := 16) rfl dX12_feed_7 (by decide) (fun hc2 => ?_) (fun hc2 => ?_)
  · replace h := ab_neg hc2 h
    refine z_aload_n (pc2 := 17) rfl dX12_feed_16 rfl ?_
    refine z_getR 85 12 0 86 (pc2 := 20) rfl dX12_feed_17 rfl rfl ff_12_0 wd_977 rfl ?_
    refine z_iconst (pc2 := 21) rfl dX12_feed_20 lt_i_3 ?_
    refine z_iald 86 (pc2 := 22) (j := 3) rfl dX12_feed_21 rfl rfl (by decide) (by decide) ?_
    refine z_iload_n (pc2 := 23) rfl dX12_feed_22 rfl ?_
    refine z_iadd (pc2 := 24) rfl dX12_feed_23 ?_
    refine z_bipush (pc2 := 26) rfl dX12_feed_24 lt_b_60 ?_
    refine z_icmp_le (pc2 := 29) (tgt := 35) rfl dX12_feed_26 (by decide) (fun hc3 => ?_) (fun hc3 => ?_)
    · replace h := ab_pos hc3 h
      refine z_iconst (pc2 := 36) rfl dX12_feed_35 lt_i_0 ?_
      refine z_istore (pc2 := 38) (L2 := [some (.ref 85), some (.long a1), none, some (.int a2), some (.int (0 : Int32))]) rfl dX12_feed_36 (by decide) rfl rfl ?_
      refine z_fgt [true, true, false, true, true] (L2 := [some (.ref 85), some (.long a1), none, some (.int a2), some (.int (0 : Int32))]) rfl ?_
      refine e_X12_feed_L38 (fun s9 h => ?_) _ _ _ h
      refine z_aload_n (pc2 := 88) rfl dX12_feed_87 rfl ?_
      refine z_getR 85 12 0 86 (pc2 := 91) rfl dX12_feed_88 rfl rfl ff_12_0 wd_977 rfl ?_
      refine z_iconst (pc2 := 92) rfl dX12_feed_91 lt_i_3 ?_
      refine z_iald 86 (pc2 := 93) (j := 3) rfl dX12_feed_92 rfl rfl (by decide) (by decide) ?_
      exact z_iret dX12_feed_93 rfl rfl (fi_w h)
    · replace h := ab_neg hc3 h
      refine z_aload_n (pc2 := 30) rfl dX12_feed_29 rfl ?_
      refine z_iconst (pc2 := 31) rfl dX12_feed_30 lt_i_4 ?_
      obtain ⟨q10, hq10, h⟩ := ab_bnd h
      refine z_callVi 85 [.int (4 : Int32)] [some (.ref 85), some (.int (4 : Int32))] (pc2 := 34) rfl rfl dX12_feed_31 ok_X12_error ⟨fun _ => rfl, fun _ => Nat.le_of_ble_eq_true rfl⟩ rfl rv_85 wd_1045 wd_1047 wd_16 rfl (e_X12_error hq10) ?_
      exact z_iret dX12_feed_34 rfl rfl (fi_w h)
  · replace h := ab_pos hc2 h
    refine z_aload_n (pc2 := 11) rfl dX12_feed_10 rfl ?_
    refine z_iconst (pc2 := 12) rfl dX12_feed_11 lt_i_1 ?_
    obtain ⟨q11, hq11, h⟩ := ab_bnd h
    refine z_callVi 85 [.int (1 : Int32)] [some (.ref 85), some (.int (1 : Int32))] (pc2 := 15) rfl rfl dX12_feed_12 ok_X12_error ⟨fun _ => rfl, fun _ => Nat.le_of_ble_eq_true rfl⟩ rfl rv_85 wd_1045 wd_1047 wd_16 rfl (e_X12_error hq11) ?_
    exact z_iret dX12_feed_15 rfl rfl (fi_w h)
def f_X12_look (σ : ab_F) : Option Int32 := (if (σ 86 3) ≤ (σ 85 5) then (some (-1 : Int32)) else ab_ck (ab_ib ((366 : Int32) + (σ 85 5)) 450) ((some (σ 86 (((366 : Int32) + (σ 85 5))).toNatClampNeg))))
set_option maxRecDepth 100000 in
set_option maxHeartbeats 4000000 in
theorem e_X12_look {sc : Nat × (Nat → Int32)} {r : Option Nat × Option Nat} {σ : ab_F} {res : Int32} (h : f_X12_look σ = some res) : ab_E mX12_look 0 sc 0 [some (.ref 85)] [] (σ, r) (fun v S => v = some (.int res) ∧ S = (σ, r)) := by
  unfold f_X12_look at h
  refine z_aload_n (pc2 := 1) rfl dX12_look_0 rfl ?_
  refine z_getI 85 12 5 (pc2 := 4) rfl dX12_look_1 rfl rfl ff_12_5 wd_982 ?_
  refine z_aload_n (pc2 := 5) rfl dX12_look_4 rfl ?_
  refine z_getR 85 12 0 86 (pc2 := 8) rfl dX12_look_5 rfl rfl ff_12_0 wd_977 rfl ?_
  refine z_iconst (pc2 := 9) rfl dX12_look_8 lt_i_3 ?_
  refine z_iald 86 (pc2 := 10) (j := 3) rfl dX12_look_9 rfl rfl (by decide) (by decide) ?_
  refine z_icmp_ge (pc2 := 13) (tgt := 29) rfl dX12_look_10 (by decide) (fun hc1 => ?_) (fun hc1 => ?_)
  · replace h := ab_pos hc1 h
    refine z_iconst (pc2 := 30) rfl dX12_look_29 lt_i_m1 ?_
    exact z_iret dX12_look_30 rfl rfl (fi_p h)
  · replace h := ab_neg hc1 h
    refine z_aload_n (pc2 := 14) rfl dX12_look_13 rfl ?_
    refine z_getR 85 12 0 86 (pc2 := 17) rfl dX12_look_14 rfl rfl ff_12_0 wd_977 rfl ?_
    refine z_sipush (pc2 := 20) rfl dX12_look_17 lt_s_366 ?_
    refine z_aload_n (pc2 := 21) rfl dX12_look_20 rfl ?_
    refine z_getI 85 12 5 (pc2 := 24) rfl dX12_look_21 rfl rfl ff_12_5 wd_982 ?_
    refine z_iadd (pc2 := 25) rfl dX12_look_24 ?_
    obtain ⟨hb2, h⟩ := ab_ck_e h
    refine z_iald 86 (pc2 := 26) (j := (((366 : Int32) + (σ 85 5))).toNatClampNeg) rfl dX12_look_25 rfl rfl hb2 rfl ?_
    refine ab_goto (tgt := 30) dX12_look_26 (by decide) ?_
    exact z_iret dX12_look_30 rfl rfl (fi_p h)
def f_X12_isName (a1 : Int32) (σ : ab_F) : Option Bool := (if (σ 85 8) = 0 then (if a1 = (121 : Int32) then (some true) else (if a1 = (107 : Int32) then (some true) else (if a1 = (100 : Int32) then (some true) else (some false)))) else (if a1 = (116 : Int32) then (some true) else (if a1 = (103 : Int32) then (some true) else (if a1 = (100 : Int32) then (some true) else (some false)))))
set_option maxRecDepth 100000 in
set_option maxHeartbeats 4000000 in
theorem e_X12_isName {sc : Nat × (Nat → Int32)} {r : Option Nat × Option Nat} {a1 : Int32} {σ : ab_F} {res : Bool} (h : f_X12_isName a1 σ = some res) : ab_E mX12_isName 0 sc 0 [some (.ref 85), some (.int a1), none] [] (σ, r) (fun v S => v = some (.int (ab_b res)) ∧ S = (σ, r)) := by
  unfold f_X12_isName at h
  refine z_aload_n (pc2 := 1) rfl dX12_isName_0 rfl ?_
  refine z_getI 85 12 8 (pc2 := 4) rfl dX12_isName_1 rfl rfl ff_12_8 wd_985 ?_
  refine z_if_ne (pc2 := 7) (tgt := 27) rfl dX12_isName_4 (by decide) (fun hc1 => ?_) (fun hc1 => ?_)
  · replace h := ab_neg hc1 h
    refine z_iload_n (pc2 := 28) rfl dX12_isName_27 rfl ?_
    refine z_bipush (pc2 := 30) rfl dX12_isName_28 lt_b_116 ?_
    refine z_icmp_eq (pc2 := 33) (tgt := 39) rfl dX12_isName_30 (by decide) (fun hc2 => ?_) (fun hc2 => ?_)
    · replace h := ab_pos hc2 h
      refine z_iconst (pc2 := 40) rfl dX12_isName_39 lt_i_1 ?_
      refine ab_goto (tgt := 44) dX12_isName_40 (by decide) ?_
      refine z_istore_n (pc2 := 45) (L2 := [some (.ref 85), some (.int a1), some (.int (1 : Int32))]) rfl dX12_isName_44 (by decide) rfl rfl ?_
      refine z_iload_n (pc2 := 46) rfl dX12_isName_45 rfl ?_
      refine z_if_ne (pc2 := 49) (tgt := 55) rfl dX12_isName_46 (by decide) (fun hc => ?_) (fun hc => ?_)
      · refine z_iconst (pc2 := 56) rfl dX12_isName_55 lt_i_1 ?_
        refine ab_goto (tgt := 60) dX12_isName_56 (by decide) ?_
        exact z_iret dX12_isName_60 rfl rfl (fz_p rfl h)
      · exact absurd hc (by decide)
    · replace h := ab_neg hc2 h
      refine z_iload_n (pc2 := 34) rfl dX12_isName_33 rfl ?_
      refine z_bipush (pc2 := 36) rfl dX12_isName_34 lt_b_103 ?_
      refine z_icmp_ne (pc2 := 39) (tgt := 43) rfl dX12_isName_36 (by decide) (fun hc3 => ?_) (fun hc3 => ?_)
      · replace h := ab_neg hc3 h
        refine z_iconst (pc2 := 44) rfl dX12_isName_43 lt_i_0 ?_
        refine z_istore_n (pc2 := 45) (L2 := [some (.ref 85), some (.int a1), some (.int (0 : Int32))]) rfl dX12_isName_44 (by decide) rfl rfl ?_
        refine z_iload_n (pc2 := 46) rfl dX12_isName_45 rfl ?_
        refine z_if_ne (pc2 := 49) (tgt := 55) rfl dX12_isName_46 (by decide) (fun hc => ?_) (fun hc => ?_)
        · exact absurd hc (by decide)
        · refine z_iload_n (pc2 := 50) rfl dX12_isName_49 rfl ?_
          refine z_bipush (pc2 := 52) rfl dX12_isName_50 lt_b_100 ?_
          refine z_icmp_ne (pc2 := 55) (tgt := 59) rfl dX12_isName_52 (by decide) (fun hc4 => ?_) (fun hc4 => ?_)
          · replace h := ab_neg hc4 h
            refine z_iconst (pc2 := 60) rfl dX12_isName_59 lt_i_0 ?_
            exact z_iret dX12_isName_60 rfl rfl (fz_p rfl h)
          · replace h := ab_pos hc4 h
            refine z_iconst (pc2 := 56) rfl dX12_isName_55 lt_i_1 ?_
            refine ab_goto (tgt := 60) dX12_isName_56 (by decide) ?_
            exact z_iret dX12_isName_60 rfl rfl (fz_p rfl h)
      · replace h := ab_pos hc3 h
        refine z_iconst (pc2 := 40) rfl dX12_isName_39 lt_i_1 ?_
        refine ab_goto (tgt := 44) dX12_isName_40 (by decide) ?_
        refine z_istore_n (pc2 := 45) (L2 := [some (.ref 85), some (.int a1), some (.int (1 : Int32))]) rfl dX12_isName_44 (by decide) rfl rfl ?_
        refine z_iload_n (pc2 := 46) rfl dX12_isName_45 rfl ?_
        refine z_if_ne (pc2 := 49) (tgt := 55) rfl dX12_isName_46 (by decide) (fun hc => ?_) (fun hc => ?_)
        · refine z_iconst (pc2 := 56) rfl dX12_isName_55 lt_i_1 ?_
          refine ab_goto (tgt := 60) dX12_isName_56 (by decide) ?_
          exact z_iret dX12_isName_60 rfl rfl (fz_p rfl h)
        · exact absurd hc (by decide)
  · replace h := ab_pos hc1 h
    refine z_iload_n (pc2 := 8) rfl dX12_isName_7 rfl ?_
    refine z_bipush (pc2 := 10) rfl dX12_isName_8 lt_b_121 ?_
    refine z_icmp_eq (pc2 := 13) (tgt := 19) rfl dX12_isName_10 (by decide) (fun hc5 => ?_) (fun hc5 => ?_)
    · replace h := ab_pos hc5 h
      refine z_iconst (pc2 := 20) rfl dX12_isName_19 lt_i_1 ?_
      refine ab_goto (tgt := 44) dX12_isName_20 (by decide) ?_
      refine z_istore_n (pc2 := 45) (L2 := [some (.ref 85), some (.int a1), some (.int (1 : Int32))]) rfl dX12_isName_44 (by decide) rfl rfl ?_
      refine z_iload_n (pc2 := 46) rfl dX12_isName_45 rfl ?_
      refine z_if_ne (pc2 := 49) (tgt := 55) rfl dX12_isName_46 (by decide) (fun hc => ?_) (fun hc => ?_)
      · refine z_iconst (pc2 := 56) rfl dX12_isName_55 lt_i_1 ?_
        refine ab_goto (tgt := 60) dX12_isName_56 (by decide) ?_
        exact z_iret dX12_isName_60 rfl rfl (fz_p rfl h)
      · exact absurd hc (by decide)
    · replace h := ab_neg hc5 h
      refine z_iload_n (pc2 := 14) rfl dX12_isName_13 rfl ?_
      refine z_bipush (pc2 := 16) rfl dX12_isName_14 lt_b_107 ?_
      refine z_icmp_ne (pc2 := 19) (tgt := 23) rfl dX12_isName_16 (by decide) (fun hc6 => ?_) (fun hc6 => ?_)
      · replace h := ab_neg hc6 h
        refine z_iconst (pc2 := 24) rfl dX12_isName_23 lt_i_0 ?_
        refine ab_goto (tgt := 44) dX12_isName_24 (by decide) ?_
        refine z_istore_n (pc2 := 45) (L2 := [some (.ref 85), some (.int a1), some (.int (0 : Int32))]) rfl dX12_isName_44 (by decide) rfl rfl ?_
        refine z_iload_n (pc2 := 46) rfl dX12_isName_45 rfl ?_
        refine z_if_ne (pc2 := 49) (tgt := 55) rfl dX12_isName_46 (by decide) (fun hc => ?_) (fun hc => ?_)
        · exact absurd hc (by decide)
        · refine z_iload_n (pc2 := 50) rfl dX12_isName_49 rfl ?_
          refine z_bipush (pc2 := 52) rfl dX12_isName_50 lt_b_100 ?_
          refine z_icmp_ne (pc2 := 55) (tgt := 59) rfl dX12_isName_52 (by decide) (fun hc7 => ?_) (fun hc7 => ?_)
          · replace h := ab_neg hc7 h
            refine z_iconst (pc2 := 60) rfl dX12_isName_59 lt_i_0 ?_
            exact z_iret dX12_isName_60 rfl rfl (fz_p rfl h)
          · replace h := ab_pos hc7 h
            refine z_iconst (pc2 := 56) rfl dX12_isName_55 lt_i_1 ?_
            refine ab_goto (tgt := 60) dX12_isName_56 (by decide) ?_
            exact z_iret dX12_isName_60 rfl rfl (fz_p rfl h)
      · replace h := ab_pos hc6 h
        refine z_iconst (pc2 := 20) rfl dX12_isName_19 lt_i_1 ?_
        refine ab_goto (tgt := 44) dX12_isName_20 (by decide) ?_
        refine z_istore_n (pc2 := 45) (L2 := [some (.ref 85), some (.int a1), some (.int (1 : Int32))]) rfl dX12_isName_44 (by decide) rfl rfl ?_
        refine z_iload_n (pc2 := 46) rfl dX12_isName_45 rfl ?_
        refine z_if_ne (pc2 := 49) (tgt := 55) rfl dX12_isName_46 (by decide) (fun hc => ?_) (fun hc => ?_)
        · refine z_iconst (pc2 := 56) rfl dX12_isName_55 lt_i_1 ?_
          refine ab_goto (tgt := 60) dX12_isName_56 (by decide) ?_
          exact z_iret dX12_isName_60 rfl rfl (fz_p rfl h)
        · exact absurd hc (by decide)
def f_X12_step1 (a1 : Int32) (a2 : Int32) (σ : ab_F) : Option ab_F := ab_ck (ab_ib ((2 : Int32) * (σ 85 7)) 124) (ab_lt (ab_u σ 90 (((2 : Int32) * (σ 85 7))).toNatClampNeg a1) (fun (s2 : ab_F) => ab_ck (ab_ib (((2 : Int32) * (s2 85 7)) + (1 : Int32)) 124) (ab_lt (ab_u s2 90 ((((2 : Int32) * (s2 85 7)) + (1 : Int32))).toNatClampNeg a2) (fun (s4 : ab_F) => ab_lt (ab_u s4 85 7 ((s4 85 7) + (1 : Int32))) (fun (s5 : ab_F) => (some s5))))))
set_option maxRecDepth 100000 in
set_option maxHeartbeats 4000000 in
theorem e_X12_step1 {sc : Nat × (Nat → Int32)} {r : Option Nat × Option Nat} {a1 : Int32} {a2 : Int32} {σ : ab_F} {res : ab_F} (h : f_X12_step1 a1 a2 σ = some res) : ab_E mX12_step1 0 sc 0 [some (.ref 85), some (.int a1), some (.int a2)] [] (σ, r) (fun v S => v = none ∧ S = (res, r)) := by
  unfold f_X12_step1 at h
  refine z_aload_n (pc2 := 1) rfl dX12_step1_0 rfl ?_
  refine z_getR 85 12 9 90 (pc2 := 4) rfl dX12_step1_1 rfl rfl ff_12_9 wd_986 rfl ?_
  refine z_iconst (pc2 := 5) rfl dX12_step1_4 lt_i_2 ?_
  refine z_aload_n (pc2 := 6) rfl dX12_step1_5 rfl ?_
  refine z_getI 85 12 7 (pc2 := 9) rfl dX12_step1_6 rfl rfl ff_12_7 wd_984 ?_
  refine z_imul (pc2 := 10) rfl dX12_step1_9 ?_
  refine z_iload_n (pc2 := 11) rfl dX12_step1_10 rfl ?_
  obtain ⟨hb1, h⟩ := ab_ck_e h
  refine z_iast 90 (pc2 := 12) (j := (((2 : Int32) * (σ 85 7))).toNatClampNeg) rfl dX12_step1_11 rfl rfl hb1 rfl ?_
  obtain ⟨s2, hs2, h⟩ := ab_lt_e h
  refine z_tops hs2 ?_
  refine z_aload_n (pc2 := 13) rfl dX12_step1_12 rfl ?_
  refine z_getR 85 12 9 90 (pc2 := 16) rfl dX12_step1_13 rfl rfl ff_12_9 wd_986 rfl ?_
  refine z_iconst (pc2 := 17) rfl dX12_step1_16 lt_i_2 ?_
  refine z_aload_n (pc2 := 18) rfl dX12_step1_17 rfl ?_
  refine z_getI 85 12 7 (pc2 := 21) rfl dX12_step1_18 rfl rfl ff_12_7 wd_984 ?_
  refine z_imul (pc2 := 22) rfl dX12_step1_21 ?_
  refine z_iconst (pc2 := 23) rfl dX12_step1_22 lt_i_1 ?_
  refine z_iadd (pc2 := 24) rfl dX12_step1_23 ?_
  refine z_iload_n (pc2 := 25) rfl dX12_step1_24 rfl ?_
  obtain ⟨hb3, h⟩ := ab_ck_e h
  refine z_iast 90 (pc2 := 26) (j := ((((2 : Int32) * (s2 85 7)) + (1 : Int32))).toNatClampNeg) rfl dX12_step1_25 rfl rfl hb3 rfl ?_
  obtain ⟨s4, hs4, h⟩ := ab_lt_e h
  refine z_tops hs4 ?_
  refine z_aload_n (pc2 := 27) rfl dX12_step1_26 rfl ?_
  refine z_dup (pc2 := 28) rfl dX12_step1_27 rfl ?_
  refine z_getI 85 12 7 (pc2 := 31) rfl dX12_step1_28 rfl rfl ff_12_7 wd_984 ?_
  refine z_iconst (pc2 := 32) rfl dX12_step1_31 lt_i_1 ?_
  refine z_iadd (pc2 := 33) rfl dX12_step1_32 ?_
  refine z_putI 85 12 7 (pc2 := 36) (ft := .int) rfl dX12_step1_33 rfl rfl ff_12_7 wd_984 rfl (by decide +kernel) rfl rfl ?_
  obtain ⟨s5, hs5, h⟩ := ab_lt_e h
  refine z_tops hs5 ?_
  exact z_vret dX12_step1_36 rfl (fv_w h)
def f_X12_opens (σ : ab_F) : Option (Bool × ab_F) := (if (σ 85 6) = (5 : Int32) then (some (false, σ)) else ab_lt (ab_u σ 85 6 ((σ 85 6) + (1 : Int32))) (fun (s2 : ab_F) => ab_lt (ab_u s2 85 5 ((s2 85 5) + (1 : Int32))) (fun (s3 : ab_F) => (some (true, s3)))))
set_option maxRecDepth 100000 in
set_option maxHeartbeats 4000000 in
theorem e_X12_opens {sc : Nat × (Nat → Int32)} {r : Option Nat × Option Nat} {σ : ab_F} {res : (Bool × ab_F)} (h : f_X12_opens σ = some res) : ab_E mX12_opens 0 sc 0 [some (.ref 85)] [] (σ, r) (fun v S => v = some (.int (ab_b res.1)) ∧ S = (res.2, r)) := by
  unfold f_X12_opens at h
  refine z_aload_n (pc2 := 1) rfl dX12_opens_0 rfl ?_
  refine z_getI 85 12 6 (pc2 := 4) rfl dX12_opens_1 rfl rfl ff_12_6 wd_983 ?_
  refine z_iconst (pc2 := 5) rfl dX12_opens_4 lt_i_5 ?_
  refine z_icmp_ne (pc2 := 8) (tgt := 10) rfl dX12_opens_5 (by decide) (fun hc1 => ?_) (fun hc1 => ?_)
  · replace h := ab_neg hc1 h
    refine z_aload_n (pc2 := 11) rfl dX12_opens_10 rfl ?_
    refine z_dup (pc2 := 12) rfl dX12_opens_11 rfl ?_
    refine z_getI 85 12 6 (pc2 := 15) rfl dX12_opens_12 rfl rfl ff_12_6 wd_983 ?_
    refine z_iconst (pc2 := 16) rfl dX12_opens_15 lt_i_1 ?_
    refine z_iadd (pc2 := 17) rfl dX12_opens_16 ?_
    refine z_putI 85 12 6 (pc2 := 20) (ft := .int) rfl dX12_opens_17 rfl rfl ff_12_6 wd_983 rfl (by decide +kernel) rfl rfl ?_
    obtain ⟨s2, hs2, h⟩ := ab_lt_e h
    refine z_tops hs2 ?_
    refine z_aload_n (pc2 := 21) rfl dX12_opens_20 rfl ?_
    refine z_dup (pc2 := 22) rfl dX12_opens_21 rfl ?_
    refine z_getI 85 12 5 (pc2 := 25) rfl dX12_opens_22 rfl rfl ff_12_5 wd_982 ?_
    refine z_iconst (pc2 := 26) rfl dX12_opens_25 lt_i_1 ?_
    refine z_iadd (pc2 := 27) rfl dX12_opens_26 ?_
    refine z_putI 85 12 5 (pc2 := 30) (ft := .int) rfl dX12_opens_27 rfl rfl ff_12_5 wd_982 rfl (by decide +kernel) rfl rfl ?_
    obtain ⟨s3, hs3, h⟩ := ab_lt_e h
    refine z_tops hs3 ?_
    refine z_iconst (pc2 := 31) rfl dX12_opens_30 lt_i_1 ?_
    exact z_iret dX12_opens_31 rfl rfl (fz_w rfl h)
  · replace h := ab_pos hc1 h
    refine z_iconst (pc2 := 9) rfl dX12_opens_8 lt_i_0 ?_
    exact z_iret dX12_opens_9 rfl rfl (fz_w rfl h)
def g_X12_whole_L9 (rc : Nat → ab_F → Option (Bool × ab_F)) (K : ab_F → Option (Bool × ab_F)) : Nat → ab_F → Option (Bool × ab_F)
  | 0, _ => none
  | n + 1, σ => (f_X12_look σ).bind (fun q3 => (if q3 = (124 : Int32) then ab_lt (ab_u σ 85 5 ((σ 85 5) + (1 : Int32))) (fun (s5 : ab_F) => (rc 1 s5).bind (fun q6 => (if (ab_b q6.1) = 0 then (some (false, q6.2)) else (f_X12_step1 (3 : Int32) (124 : Int32) q6.2).bind (fun q8 => (g_X12_whole_L9 rc K n q8))))) else (K σ)))
set_option maxRecDepth 100000 in
set_option maxHeartbeats 4000000 in
theorem eg_X12_whole_L9 {sc : Nat × (Nat → Int32)} {r : Option Nat × Option Nat} {n0 : Nat} {rc : Nat → ab_F → Option (Bool × ab_F)} (ih_X12_whole : ∀ (σ : ab_F) (res : (Bool × ab_F)), rc 0 σ = some res → ab_E mX12_whole (n0 + 8) sc 0 [some (.ref 85)] [] (σ, r) (fun v S => v = some (.int (ab_b res.1)) ∧ S = (res.2, r))) (ih_X12_both : ∀ (σ : ab_F) (res : (Bool × ab_F)), rc 1 σ = some res → ab_E mX12_both (n0 + 8) sc 0 [some (.ref 85)] [] (σ, r) (fun v S => v = some (.int (ab_b res.1)) ∧ S = (res.2, r))) (ih_X12_compared : ∀ (σ : ab_F) (res : (Bool × ab_F)), rc 2 σ = some res → ab_E mX12_compared (n0 + 8) sc 0 [some (.ref 85), none] [] (σ, r) (fun v S => v = some (.int (ab_b res.1)) ∧ S = (res.2, r))) (ih_X12_sum : ∀ (σ : ab_F) (res : (Bool × ab_F)), rc 3 σ = some res → ab_E mX12_sum (n0 + 8) sc 0 [some (.ref 85), none] [] (σ, r) (fun v S => v = some (.int (ab_b res.1)) ∧ S = (res.2, r))) (ih_X12_product : ∀ (σ : ab_F) (res : (Bool × ab_F)), rc 4 σ = some res → ab_E mX12_product (n0 + 8) sc 0 [some (.ref 85), none] [] (σ, r) (fun v S => v = some (.int (ab_b res.1)) ∧ S = (res.2, r))) (ih_X12_one : ∀ (σ : ab_F) (res : (Bool × ab_F)), rc 5 σ = some res → ab_E mX12_one (n0 + 8) sc 0 [some (.ref 85), none, none, none] [] (σ, r) (fun v S => v = some (.int (ab_b res.1)) ∧ S = (res.2, r))) {K : ab_F → Option (Bool × ab_F)} {res : (Bool × ab_F)} (hK : ∀ (σ : ab_F), K σ = some res → ab_E mX12_whole (n0 + 9) sc 47 [none] [] (σ, r) (fun v S => v = some (.int (ab_b res.1)) ∧ S = (res.2, r))) : ∀ (n : Nat) (σ : ab_F), g_X12_whole_L9 rc K n σ = some res → ab_E mX12_whole (n0 + 9) sc 9 [some (.ref 85)] [] (σ, r) (fun v S => v = some (.int (ab_b res.1)) ∧ S = (res.2, r)) := by
  intro n
  induction n with
  | zero =>
    intro σ h
    rw [g_X12_whole_L9] at h
    cases h
  | succ n ih =>
    intro σ h
    rw [g_X12_whole_L9] at h
    refine z_aload_n (pc2 := 10) rfl dX12_whole_9 rfl ?_
    obtain ⟨q3, hq3, h⟩ := ab_bnd h
    refine z_callVi 85 [] [some (.ref 85)] (pc2 := 13) rfl rfl dX12_whole_10 ok_X12_look ⟨fun _ => rfl, fun _ => Nat.le_of_ble_eq_true rfl⟩ (Nat.ble_eq_true_of_le (by omega)) rv_85 wd_1079 wd_1081 wd_23 rfl (e_X12_look hq3) ?_
    refine z_bipush (pc2 := 15) rfl dX12_whole_13 lt_b_124 ?_
    refine z_icmp_ne (pc2 := 18) (tgt := 47) rfl dX12_whole_15 (by decide) (fun hc4 => ?_) (fun hc4 => ?_)
    · replace h := ab_neg hc4 h
      refine z_fgt [false] (L2 := [none]) rfl ?_
      exact hK  _ h
    · replace h := ab_pos hc4 h
      refine z_aload_n (pc2 := 19) rfl dX12_whole_18 rfl ?_
      refine z_dup (pc2 := 20) rfl dX12_whole_19 rfl ?_
      refine z_getI 85 12 5 (pc2 := 23) rfl dX12_whole_20 rfl rfl ff_12_5 wd_982 ?_
      refine z_iconst (pc2 := 24) rfl dX12_whole_23 lt_i_1 ?_
      refine z_iadd (pc2 := 25) rfl dX12_whole_24 ?_
      refine z_putI 85 12 5 (pc2 := 28) (ft := .int) rfl dX12_whole_25 rfl rfl ff_12_5 wd_982 rfl (by decide +kernel) rfl rfl ?_
      obtain ⟨s5, hs5, h⟩ := ab_lt_e h
      refine z_tops hs5 ?_
      refine z_aload_n (pc2 := 29) rfl dX12_whole_28 rfl ?_
      obtain ⟨q6, hq6, h⟩ := ab_bnd h
      refine z_callVi 85 [] [some (.ref 85)] (pc2 := 32) rfl rfl dX12_whole_29 ok_X12_both ⟨fun _ => rfl, fun _ => Nat.le_of_ble_eq_true rfl⟩ (Nat.ble_eq_true_of_le (by omega)) rv_85 wd_1059 wd_1061 wd_18 rfl (ih_X12_both _ _ hq6) ?_
      refine z_if_ne (pc2 := 35) (tgt := 37) rfl dX12_whole_32 (by decide) (fun hc7 => ?_) (fun hc7 => ?_)
      · replace h := ab_neg hc7 h
        refine z_aload_n (pc2 := 38) rfl dX12_whole_37 rfl ?_
        refine z_iconst (pc2 := 39) rfl dX12_whole_38 lt_i_3 ?_
        refine z_bipush (pc2 := 41) rfl dX12_whole_39 lt_b_124 ?_
        obtain ⟨q8, hq8, h⟩ := ab_bnd h
        refine z_callVv 85 [.int (3 : Int32), .int (124 : Int32)] [some (.ref 85), some (.int (3 : Int32)), some (.int (124 : Int32))] (pc2 := 44) rfl rfl dX12_whole_41 ok_X12_step1 ⟨fun _ => rfl, fun _ => Nat.le_of_ble_eq_true rfl⟩ (Nat.ble_eq_true_of_le (by omega)) rv_85 wd_1087 wd_1089 wd_25 rfl (e_X12_step1 hq8) ?_
        refine ab_goto (tgt := 9) dX12_whole_44 (by decide) ?_
        refine z_fgt [true] (L2 := [some (.ref 85)]) rfl ?_
        exact ih  _ h
      · replace h := ab_pos hc7 h
        refine z_iconst (pc2 := 36) rfl dX12_whole_35 lt_i_0 ?_
        exact z_iret dX12_whole_36 rfl rfl (fz_w rfl h)
def g_X12_whole (rc : Nat → ab_F → Option (Bool × ab_F)) (σ : ab_F) : Option (Bool × ab_F) := (rc 1 σ).bind (fun q1 => (if (ab_b q1.1) = 0 then (some (false, q1.2)) else (g_X12_whole_L9 rc (fun (s9 : ab_F) => (some (true, s9))) ab_fu q1.2)))
set_option maxRecDepth 100000 in
set_option maxHeartbeats 4000000 in
theorem eg_X12_whole {sc : Nat × (Nat → Int32)} {r : Option Nat × Option Nat} {n0 : Nat} {rc : Nat → ab_F → Option (Bool × ab_F)} (ih_X12_whole : ∀ (σ : ab_F) (res : (Bool × ab_F)), rc 0 σ = some res → ab_E mX12_whole (n0 + 8) sc 0 [some (.ref 85)] [] (σ, r) (fun v S => v = some (.int (ab_b res.1)) ∧ S = (res.2, r))) (ih_X12_both : ∀ (σ : ab_F) (res : (Bool × ab_F)), rc 1 σ = some res → ab_E mX12_both (n0 + 8) sc 0 [some (.ref 85)] [] (σ, r) (fun v S => v = some (.int (ab_b res.1)) ∧ S = (res.2, r))) (ih_X12_compared : ∀ (σ : ab_F) (res : (Bool × ab_F)), rc 2 σ = some res → ab_E mX12_compared (n0 + 8) sc 0 [some (.ref 85), none] [] (σ, r) (fun v S => v = some (.int (ab_b res.1)) ∧ S = (res.2, r))) (ih_X12_sum : ∀ (σ : ab_F) (res : (Bool × ab_F)), rc 3 σ = some res → ab_E mX12_sum (n0 + 8) sc 0 [some (.ref 85), none] [] (σ, r) (fun v S => v = some (.int (ab_b res.1)) ∧ S = (res.2, r))) (ih_X12_product : ∀ (σ : ab_F) (res : (Bool × ab_F)), rc 4 σ = some res → ab_E mX12_product (n0 + 8) sc 0 [some (.ref 85), none] [] (σ, r) (fun v S => v = some (.int (ab_b res.1)) ∧ S = (res.2, r))) (ih_X12_one : ∀ (σ : ab_F) (res : (Bool × ab_F)), rc 5 σ = some res → ab_E mX12_one (n0 + 8) sc 0 [some (.ref 85), none, none, none] [] (σ, r) (fun v S => v = some (.int (ab_b res.1)) ∧ S = (res.2, r))) {σ : ab_F} {res : (Bool × ab_F)} (h : g_X12_whole rc σ = some res) : ab_E mX12_whole (n0 + 9) sc 0 [some (.ref 85)] [] (σ, r) (fun v S => v = some (.int (ab_b res.1)) ∧ S = (res.2, r)) := by
  unfold g_X12_whole at h
  refine z_aload_n (pc2 := 1) rfl dX12_whole_0 rfl ?_
  obtain ⟨q1, hq1, h⟩ := ab_bnd h
  refine z_callVi 85 [] [some (.ref 85)] (pc2 := 4) rfl rfl dX12_whole_1 ok_X12_both ⟨fun _ => rfl, fun _ => Nat.le_of_ble_eq_true rfl⟩ (Nat.ble_eq_true_of_le (by omega)) rv_85 wd_1059 wd_1061 wd_18 rfl (ih_X12_both _ _ hq1) ?_
  refine z_if_ne (pc2 := 7) (tgt := 9) rfl dX12_whole_4 (by decide) (fun hc2 => ?_) (fun hc2 => ?_)
  · replace h := ab_neg hc2 h
    refine z_fgt [true] (L2 := [some (.ref 85)]) rfl ?_
    refine eg_X12_whole_L9 ih_X12_whole ih_X12_both ih_X12_compared ih_X12_sum ih_X12_product ih_X12_one (fun s9 h => ?_) _ _ h
    refine z_iconst (pc2 := 48) rfl dX12_whole_47 lt_i_1 ?_
    exact z_iret dX12_whole_48 rfl rfl (fz_w rfl h)
  · replace h := ab_pos hc2 h
    refine z_iconst (pc2 := 8) rfl dX12_whole_7 lt_i_0 ?_
    exact z_iret dX12_whole_8 rfl rfl (fz_w rfl h)
def g_X12_both_L9 (rc : Nat → ab_F → Option (Bool × ab_F)) (K : ab_F → Option (Bool × ab_F)) : Nat → ab_F → Option (Bool × ab_F)
  | 0, _ => none
  | n + 1, σ => (f_X12_look σ).bind (fun q3 => (if q3 = (38 : Int32) then ab_lt (ab_u σ 85 5 ((σ 85 5) + (1 : Int32))) (fun (s5 : ab_F) => (rc 2 s5).bind (fun q6 => (if (ab_b q6.1) = 0 then (some (false, q6.2)) else (f_X12_step1 (3 : Int32) (38 : Int32) q6.2).bind (fun q8 => (g_X12_both_L9 rc K n q8))))) else (K σ)))
set_option maxRecDepth 100000 in
set_option maxHeartbeats 4000000 in
theorem eg_X12_both_L9 {sc : Nat × (Nat → Int32)} {r : Option Nat × Option Nat} {n0 : Nat} {rc : Nat → ab_F → Option (Bool × ab_F)} (ih_X12_whole : ∀ (σ : ab_F) (res : (Bool × ab_F)), rc 0 σ = some res → ab_E mX12_whole (n0 + 8) sc 0 [some (.ref 85)] [] (σ, r) (fun v S => v = some (.int (ab_b res.1)) ∧ S = (res.2, r))) (ih_X12_both : ∀ (σ : ab_F) (res : (Bool × ab_F)), rc 1 σ = some res → ab_E mX12_both (n0 + 8) sc 0 [some (.ref 85)] [] (σ, r) (fun v S => v = some (.int (ab_b res.1)) ∧ S = (res.2, r))) (ih_X12_compared : ∀ (σ : ab_F) (res : (Bool × ab_F)), rc 2 σ = some res → ab_E mX12_compared (n0 + 8) sc 0 [some (.ref 85), none] [] (σ, r) (fun v S => v = some (.int (ab_b res.1)) ∧ S = (res.2, r))) (ih_X12_sum : ∀ (σ : ab_F) (res : (Bool × ab_F)), rc 3 σ = some res → ab_E mX12_sum (n0 + 8) sc 0 [some (.ref 85), none] [] (σ, r) (fun v S => v = some (.int (ab_b res.1)) ∧ S = (res.2, r))) (ih_X12_product : ∀ (σ : ab_F) (res : (Bool × ab_F)), rc 4 σ = some res → ab_E mX12_product (n0 + 8) sc 0 [some (.ref 85), none] [] (σ, r) (fun v S => v = some (.int (ab_b res.1)) ∧ S = (res.2, r))) (ih_X12_one : ∀ (σ : ab_F) (res : (Bool × ab_F)), rc 5 σ = some res → ab_E mX12_one (n0 + 8) sc 0 [some (.ref 85), none, none, none] [] (σ, r) (fun v S => v = some (.int (ab_b res.1)) ∧ S = (res.2, r))) {K : ab_F → Option (Bool × ab_F)} {res : (Bool × ab_F)} (hK : ∀ (σ : ab_F), K σ = some res → ab_E mX12_both (n0 + 9) sc 47 [none] [] (σ, r) (fun v S => v = some (.int (ab_b res.1)) ∧ S = (res.2, r))) : ∀ (n : Nat) (σ : ab_F), g_X12_both_L9 rc K n σ = some res → ab_E mX12_both (n0 + 9) sc 9 [some (.ref 85)] [] (σ, r) (fun v S => v = some (.int (ab_b res.1)) ∧ S = (res.2, r)) := by
  intro n
  induction n with
  | zero =>
    intro σ h
    rw [g_X12_both_L9] at h
    cases h
  | succ n ih =>
    intro σ h
    rw [g_X12_both_L9] at h
    refine z_aload_n (pc2 := 10) rfl dX12_both_9 rfl ?_
    obtain ⟨q3, hq3, h⟩ := ab_bnd h
    refine z_callVi 85 [] [some (.ref 85)] (pc2 := 13) rfl rfl dX12_both_10 ok_X12_look ⟨fun _ => rfl, fun _ => Nat.le_of_ble_eq_true rfl⟩ (Nat.ble_eq_true_of_le (by omega)) rv_85 wd_1079 wd_1081 wd_23 rfl (e_X12_look hq3) ?_
    refine z_bipush (pc2 := 15) rfl dX12_both_13 lt_b_38 ?_
    refine z_icmp_ne (pc2 := 18) (tgt := 47) rfl dX12_both_15 (by decide) (fun hc4 => ?_) (fun hc4 => ?_)
    · replace h := ab_neg hc4 h
      refine z_fgt [false] (L2 := [none]) rfl ?_
      exact hK  _ h
    · replace h := ab_pos hc4 h
      refine z_aload_n (pc2 := 19) rfl dX12_both_18 rfl ?_
      refine z_dup (pc2 := 20) rfl dX12_both_19 rfl ?_
      refine z_getI 85 12 5 (pc2 := 23) rfl dX12_both_20 rfl rfl ff_12_5 wd_982 ?_
      refine z_iconst (pc2 := 24) rfl dX12_both_23 lt_i_1 ?_
      refine z_iadd (pc2 := 25) rfl dX12_both_24 ?_
      refine z_putI 85 12 5 (pc2 := 28) (ft := .int) rfl dX12_both_25 rfl rfl ff_12_5 wd_982 rfl (by decide +kernel) rfl rfl ?_
      obtain ⟨s5, hs5, h⟩ := ab_lt_e h
      refine z_tops hs5 ?_
      refine z_aload_n (pc2 := 29) rfl dX12_both_28 rfl ?_
      obtain ⟨q6, hq6, h⟩ := ab_bnd h
      refine z_callVi 85 [] [some (.ref 85), none] (pc2 := 32) rfl rfl dX12_both_29 ok_X12_compared ⟨fun _ => rfl, fun _ => Nat.le_of_ble_eq_true rfl⟩ (Nat.ble_eq_true_of_le (by omega)) rv_85 wd_1063 wd_1065 wd_19 rfl (ih_X12_compared _ _ hq6) ?_
      refine z_if_ne (pc2 := 35) (tgt := 37) rfl dX12_both_32 (by decide) (fun hc7 => ?_) (fun hc7 => ?_)
      · replace h := ab_neg hc7 h
        refine z_aload_n (pc2 := 38) rfl dX12_both_37 rfl ?_
        refine z_iconst (pc2 := 39) rfl dX12_both_38 lt_i_3 ?_
        refine z_bipush (pc2 := 41) rfl dX12_both_39 lt_b_38 ?_
        obtain ⟨q8, hq8, h⟩ := ab_bnd h
        refine z_callVv 85 [.int (3 : Int32), .int (38 : Int32)] [some (.ref 85), some (.int (3 : Int32)), some (.int (38 : Int32))] (pc2 := 44) rfl rfl dX12_both_41 ok_X12_step1 ⟨fun _ => rfl, fun _ => Nat.le_of_ble_eq_true rfl⟩ (Nat.ble_eq_true_of_le (by omega)) rv_85 wd_1087 wd_1089 wd_25 rfl (e_X12_step1 hq8) ?_
        refine ab_goto (tgt := 9) dX12_both_44 (by decide) ?_
        refine z_fgt [true] (L2 := [some (.ref 85)]) rfl ?_
        exact ih  _ h
      · replace h := ab_pos hc7 h
        refine z_iconst (pc2 := 36) rfl dX12_both_35 lt_i_0 ?_
        exact z_iret dX12_both_36 rfl rfl (fz_w rfl h)
def g_X12_both (rc : Nat → ab_F → Option (Bool × ab_F)) (σ : ab_F) : Option (Bool × ab_F) := (rc 2 σ).bind (fun q1 => (if (ab_b q1.1) = 0 then (some (false, q1.2)) else (g_X12_both_L9 rc (fun (s9 : ab_F) => (some (true, s9))) ab_fu q1.2)))
set_option maxRecDepth 100000 in
set_option maxHeartbeats 4000000 in
theorem eg_X12_both {sc : Nat × (Nat → Int32)} {r : Option Nat × Option Nat} {n0 : Nat} {rc : Nat → ab_F → Option (Bool × ab_F)} (ih_X12_whole : ∀ (σ : ab_F) (res : (Bool × ab_F)), rc 0 σ = some res → ab_E mX12_whole (n0 + 8) sc 0 [some (.ref 85)] [] (σ, r) (fun v S => v = some (.int (ab_b res.1)) ∧ S = (res.2, r))) (ih_X12_both : ∀ (σ : ab_F) (res : (Bool × ab_F)), rc 1 σ = some res → ab_E mX12_both (n0 + 8) sc 0 [some (.ref 85)] [] (σ, r) (fun v S => v = some (.int (ab_b res.1)) ∧ S = (res.2, r))) (ih_X12_compared : ∀ (σ : ab_F) (res : (Bool × ab_F)), rc 2 σ = some res → ab_E mX12_compared (n0 + 8) sc 0 [some (.ref 85), none] [] (σ, r) (fun v S => v = some (.int (ab_b res.1)) ∧ S = (res.2, r))) (ih_X12_sum : ∀ (σ : ab_F) (res : (Bool × ab_F)), rc 3 σ = some res → ab_E mX12_sum (n0 + 8) sc 0 [some (.ref 85), none] [] (σ, r) (fun v S => v = some (.int (ab_b res.1)) ∧ S = (res.2, r))) (ih_X12_product : ∀ (σ : ab_F) (res : (Bool × ab_F)), rc 4 σ = some res → ab_E mX12_product (n0 + 8) sc 0 [some (.ref 85), none] [] (σ, r) (fun v S => v = some (.int (ab_b res.1)) ∧ S = (res.2, r))) (ih_X12_one : ∀ (σ : ab_F) (res : (Bool × ab_F)), rc 5 σ = some res → ab_E mX12_one (n0 + 8) sc 0 [some (.ref 85), none, none, none] [] (σ, r) (fun v S => v = some (.int (ab_b res.1)) ∧ S = (res.2, r))) {σ : ab_F} {res : (Bool × ab_F)} (h : g_X12_both rc σ = some res) : ab_E mX12_both (n0 + 9) sc 0 [some (.ref 85)] [] (σ, r) (fun v S => v = some (.int (ab_b res.1)) ∧ S = (res.2, r)) := by
  unfold g_X12_both at h
  refine z_aload_n (pc2 := 1) rfl dX12_both_0 rfl ?_
  obtain ⟨q1, hq1, h⟩ := ab_bnd h
  refine z_callVi 85 [] [some (.ref 85), none] (pc2 := 4) rfl rfl dX12_both_1 ok_X12_compared ⟨fun _ => rfl, fun _ => Nat.le_of_ble_eq_true rfl⟩ (Nat.ble_eq_true_of_le (by omega)) rv_85 wd_1063 wd_1065 wd_19 rfl (ih_X12_compared _ _ hq1) ?_
  refine z_if_ne (pc2 := 7) (tgt := 9) rfl dX12_both_4 (by decide) (fun hc2 => ?_) (fun hc2 => ?_)
  · replace h := ab_neg hc2 h
    refine z_fgt [true] (L2 := [some (.ref 85)]) rfl ?_
    refine eg_X12_both_L9 ih_X12_whole ih_X12_both ih_X12_compared ih_X12_sum ih_X12_product ih_X12_one (fun s9 h => ?_) _ _ h
    refine z_iconst (pc2 := 48) rfl dX12_both_47 lt_i_1 ?_
    exact z_iret dX12_both_48 rfl rfl (fz_w rfl h)
  · replace h := ab_pos hc2 h
    refine z_iconst (pc2 := 8) rfl dX12_both_7 lt_i_0 ?_
    exact z_iret dX12_both_8 rfl rfl (fz_w rfl h)
def g_X12_compared (rc : Nat → ab_F → Option (Bool × ab_F)) (σ : ab_F) : Option (Bool × ab_F) := (rc 3 σ).bind (fun q1 => (if (ab_b q1.1) = 0 then (some (false, q1.2)) else (f_X12_look q1.2).bind (fun q3 => (if q3 = (60 : Int32) then ab_lt (ab_u q1.2 85 5 ((q1.2 85 5) + (1 : Int32))) (fun (s5 : ab_F) => (rc 3 s5).bind (fun q6 => (if (ab_b q6.1) = 0 then (some (false, q6.2)) else (f_X12_step1 (3 : Int32) q3 q6.2).bind (fun q8 => (some (true, q8)))))) else (if q3 = (61 : Int32) then ab_lt (ab_u q1.2 85 5 ((q1.2 85 5) + (1 : Int32))) (fun (s10 : ab_F) => (rc 3 s10).bind (fun q11 => (if (ab_b q11.1) = 0 then (some (false, q11.2)) else (f_X12_step1 (3 : Int32) q3 q11.2).bind (fun q13 => (some (true, q13)))))) else (if q3 = (62 : Int32) then ab_lt (ab_u q1.2 85 5 ((q1.2 85 5) + (1 : Int32))) (fun (s15 : ab_F) => (rc 3 s15).bind (fun q16 => (if (ab_b q16.1) = 0 then (some (false, q16.2)) else (f_X12_step1 (3 : Int32) q3 q16.2).bind (fun q18 => (some (true, q18)))))) else (some (true, q1.2))))))))
set_option maxRecDepth 100000 in
set_option maxHeartbeats 4000000 in
theorem eg_X12_compared {sc : Nat × (Nat → Int32)} {r : Option Nat × Option Nat} {n0 : Nat} {rc : Nat → ab_F → Option (Bool × ab_F)} (ih_X12_whole : ∀ (σ : ab_F) (res : (Bool × ab_F)), rc 0 σ = some res → ab_E mX12_whole (n0 + 8) sc 0 [some (.ref 85)] [] (σ, r) (fun v S => v = some (.int (ab_b res.1)) ∧ S = (res.2, r))) (ih_X12_both : ∀ (σ : ab_F) (res : (Bool × ab_F)), rc 1 σ = some res → ab_E mX12_both (n0 + 8) sc 0 [some (.ref 85)] [] (σ, r) (fun v S => v = some (.int (ab_b res.1)) ∧ S = (res.2, r))) (ih_X12_compared : ∀ (σ : ab_F) (res : (Bool × ab_F)), rc 2 σ = some res → ab_E mX12_compared (n0 + 8) sc 0 [some (.ref 85), none] [] (σ, r) (fun v S => v = some (.int (ab_b res.1)) ∧ S = (res.2, r))) (ih_X12_sum : ∀ (σ : ab_F) (res : (Bool × ab_F)), rc 3 σ = some res → ab_E mX12_sum (n0 + 8) sc 0 [some (.ref 85), none] [] (σ, r) (fun v S => v = some (.int (ab_b res.1)) ∧ S = (res.2, r))) (ih_X12_product : ∀ (σ : ab_F) (res : (Bool × ab_F)), rc 4 σ = some res → ab_E mX12_product (n0 + 8) sc 0 [some (.ref 85), none] [] (σ, r) (fun v S => v = some (.int (ab_b res.1)) ∧ S = (res.2, r))) (ih_X12_one : ∀ (σ : ab_F) (res : (Bool × ab_F)), rc 5 σ = some res → ab_E mX12_one (n0 + 8) sc 0 [some (.ref 85), none, none, none] [] (σ, r) (fun v S => v = some (.int (ab_b res.1)) ∧ S = (res.2, r))) {σ : ab_F} {res : (Bool × ab_F)} (h : g_X12_compared rc σ = some res) : ab_E mX12_compared (n0 + 9) sc 0 [some (.ref 85), none] [] (σ, r) (fun v S => v = some (.int (ab_b res.1)) ∧ S = (res.2, r)) := by
  unfold g_X12_compared at h
  refine z_aload_n (pc2 := 1) rfl dX12_compared_0 rfl ?_
  obtain ⟨q1, hq1, h⟩ := ab_bnd h
  refine z_callVi 85 [] [some (.ref 85), none] (pc2 := 4) rfl rfl dX12_compared_1 ok_X12_sum ⟨fun _ => rfl, fun _ => Nat.le_of_ble_eq_true rfl⟩ (Nat.ble_eq_true_of_le (by omega)) rv_85 wd_1067 wd_1069 wd_20 rfl (ih_X12_sum _ _ hq1) ?_
  refine z_if_ne (pc2 := 7) (tgt := 9) rfl dX12_compared_4 (by decide) (fun hc2 => ?_) (fun hc2 => ?_)
  · replace h := ab_neg hc2 h
    refine z_aload_n (pc2 := 10) rfl dX12_compared_9 rfl ?_
    obtain ⟨q3, hq3, h⟩ := ab_bnd h
    refine z_callVi 85 [] [some (.ref 85)] (pc2 := 13) rfl rfl dX12_compared_10 ok_X12_look ⟨fun _ => rfl, fun _ => Nat.le_of_ble_eq_true rfl⟩ (Nat.ble_eq_true_of_le (by omega)) rv_85 wd_1079 wd_1081 wd_23 rfl (e_X12_look hq3) ?_
    refine z_istore_n (pc2 := 14) (L2 := [some (.ref 85), some (.int q3)]) rfl dX12_compared_13 (by decide) rfl rfl ?_
    refine z_iload_n (pc2 := 15) rfl dX12_compared_14 rfl ?_
    refine z_bipush (pc2 := 17) rfl dX12_compared_15 lt_b_60 ?_
    refine z_icmp_eq (pc2 := 20) (tgt := 34) rfl dX12_compared_17 (by decide) (fun hc4 => ?_) (fun hc4 => ?_)
    · replace h := ab_pos hc4 h
      refine z_aload_n (pc2 := 35) rfl dX12_compared_34 rfl ?_
      refine z_dup (pc2 := 36) rfl dX12_compared_35 rfl ?_
      refine z_getI 85 12 5 (pc2 := 39) rfl dX12_compared_36 rfl rfl ff_12_5 wd_982 ?_
      refine z_iconst (pc2 := 40) rfl dX12_compared_39 lt_i_1 ?_
      refine z_iadd (pc2 := 41) rfl dX12_compared_40 ?_
      refine z_putI 85 12 5 (pc2 := 44) (ft := .int) rfl dX12_compared_41 rfl rfl ff_12_5 wd_982 rfl (by decide +kernel) rfl rfl ?_
      obtain ⟨s5, hs5, h⟩ := ab_lt_e h
      refine z_tops hs5 ?_
      refine z_aload_n (pc2 := 45) rfl dX12_compared_44 rfl ?_
      obtain ⟨q6, hq6, h⟩ := ab_bnd h
      refine z_callVi 85 [] [some (.ref 85), none] (pc2 := 48) rfl rfl dX12_compared_45 ok_X12_sum ⟨fun _ => rfl, fun _ => Nat.le_of_ble_eq_true rfl⟩ (Nat.ble_eq_true_of_le (by omega)) rv_85 wd_1067 wd_1069 wd_20 rfl (ih_X12_sum _ _ hq6) ?_
      refine z_if_ne (pc2 := 51) (tgt := 53) rfl dX12_compared_48 (by decide) (fun hc7 => ?_) (fun hc7 => ?_)
      · replace h := ab_neg hc7 h
        refine z_aload_n (pc2 := 54) rfl dX12_compared_53 rfl ?_
        refine z_iconst (pc2 := 55) rfl dX12_compared_54 lt_i_3 ?_
        refine z_iload_n (pc2 := 56) rfl dX12_compared_55 rfl ?_
        obtain ⟨q8, hq8, h⟩ := ab_bnd h
        refine z_callVv 85 [.int (3 : Int32), .int q3] [some (.ref 85), some (.int (3 : Int32)), some (.int q3)] (pc2 := 59) rfl rfl dX12_compared_56 ok_X12_step1 ⟨fun _ => rfl, fun _ => Nat.le_of_ble_eq_true rfl⟩ (Nat.ble_eq_true_of_le (by omega)) rv_85 wd_1087 wd_1089 wd_25 rfl (e_X12_step1 hq8) ?_
        refine z_iconst (pc2 := 60) rfl dX12_compared_59 lt_i_1 ?_
        exact z_iret dX12_compared_60 rfl rfl (fz_w rfl h)
      · replace h := ab_pos hc7 h
        refine z_iconst (pc2 := 52) rfl dX12_compared_51 lt_i_0 ?_
        exact z_iret dX12_compared_52 rfl rfl (fz_w rfl h)
    · replace h := ab_neg hc4 h
      refine z_iload_n (pc2 := 21) rfl dX12_compared_20 rfl ?_
      refine z_bipush (pc2 := 23) rfl dX12_compared_21 lt_b_61 ?_
      refine z_icmp_eq (pc2 := 26) (tgt := 34) rfl dX12_compared_23 (by decide) (fun hc9 => ?_) (fun hc9 => ?_)
      · replace h := ab_pos hc9 h
        refine z_aload_n (pc2 := 35) rfl dX12_compared_34 rfl ?_
        refine z_dup (pc2 := 36) rfl dX12_compared_35 rfl ?_
        refine z_getI 85 12 5 (pc2 := 39) rfl dX12_compared_36 rfl rfl ff_12_5 wd_982 ?_
        refine z_iconst (pc2 := 40) rfl dX12_compared_39 lt_i_1 ?_
        refine z_iadd (pc2 := 41) rfl dX12_compared_40 ?_
        refine z_putI 85 12 5 (pc2 := 44) (ft := .int) rfl dX12_compared_41 rfl rfl ff_12_5 wd_982 rfl (by decide +kernel) rfl rfl ?_
        obtain ⟨s10, hs10, h⟩ := ab_lt_e h
        refine z_tops hs10 ?_
        refine z_aload_n (pc2 := 45) rfl dX12_compared_44 rfl ?_
        obtain ⟨q11, hq11, h⟩ := ab_bnd h
        refine z_callVi 85 [] [some (.ref 85), none] (pc2 := 48) rfl rfl dX12_compared_45 ok_X12_sum ⟨fun _ => rfl, fun _ => Nat.le_of_ble_eq_true rfl⟩ (Nat.ble_eq_true_of_le (by omega)) rv_85 wd_1067 wd_1069 wd_20 rfl (ih_X12_sum _ _ hq11) ?_
        refine z_if_ne (pc2 := 51) (tgt := 53) rfl dX12_compared_48 (by decide) (fun hc12 => ?_) (fun hc12 => ?_)
        · replace h := ab_neg hc12 h
          refine z_aload_n (pc2 := 54) rfl dX12_compared_53 rfl ?_
          refine z_iconst (pc2 := 55) rfl dX12_compared_54 lt_i_3 ?_
          refine z_iload_n (pc2 := 56) rfl dX12_compared_55 rfl ?_
          obtain ⟨q13, hq13, h⟩ := ab_bnd h
          refine z_callVv 85 [.int (3 : Int32), .int q3] [some (.ref 85), some (.int (3 : Int32)), some (.int q3)] (pc2 := 59) rfl rfl dX12_compared_56 ok_X12_step1 ⟨fun _ => rfl, fun _ => Nat.le_of_ble_eq_true rfl⟩ (Nat.ble_eq_true_of_le (by omega)) rv_85 wd_1087 wd_1089 wd_25 rfl (e_X12_step1 hq13) ?_
          refine z_iconst (pc2 := 60) rfl dX12_compared_59 lt_i_1 ?_
          exact z_iret dX12_compared_60 rfl rfl (fz_w rfl h)
        · replace h := ab_pos hc12 h
          refine z_iconst (pc2 := 52) rfl dX12_compared_51 lt_i_0 ?_
          exact z_iret dX12_compared_52 rfl rfl (fz_w rfl h)
      · replace h := ab_neg hc9 h
        refine z_iload_n (pc2 := 27) rfl dX12_compared_26 rfl ?_
        refine z_bipush (pc2 := 29) rfl dX12_compared_27 lt_b_62 ?_
        refine z_icmp_eq (pc2 := 32) (tgt := 34) rfl dX12_compared_29 (by decide) (fun hc14 => ?_) (fun hc14 => ?_)
        · replace h := ab_pos hc14 h
          refine z_aload_n (pc2 := 35) rfl dX12_compared_34 rfl ?_
          refine z_dup (pc2 := 36) rfl dX12_compared_35 rfl ?_
          refine z_getI 85 12 5 (pc2 := 39) rfl dX12_compared_36 rfl rfl ff_12_5 wd_982 ?_
          refine z_iconst (pc2 := 40) rfl dX12_compared_39 lt_i_1 ?_
          refine z_iadd (pc2 := 41) rfl dX12_compared_40 ?_
          refine z_putI 85 12 5 (pc2 := 44) (ft := .int) rfl dX12_compared_41 rfl rfl ff_12_5 wd_982 rfl (by decide +kernel) rfl rfl ?_
          obtain ⟨s15, hs15, h⟩ := ab_lt_e h
          refine z_tops hs15 ?_
          refine z_aload_n (pc2 := 45) rfl dX12_compared_44 rfl ?_
          obtain ⟨q16, hq16, h⟩ := ab_bnd h
          refine z_callVi 85 [] [some (.ref 85), none] (pc2 := 48) rfl rfl dX12_compared_45 ok_X12_sum ⟨fun _ => rfl, fun _ => Nat.le_of_ble_eq_true rfl⟩ (Nat.ble_eq_true_of_le (by omega)) rv_85 wd_1067 wd_1069 wd_20 rfl (ih_X12_sum _ _ hq16) ?_
          refine z_if_ne (pc2 := 51) (tgt := 53) rfl dX12_compared_48 (by decide) (fun hc17 => ?_) (fun hc17 => ?_)
          · replace h := ab_neg hc17 h
            refine z_aload_n (pc2 := 54) rfl dX12_compared_53 rfl ?_
            refine z_iconst (pc2 := 55) rfl dX12_compared_54 lt_i_3 ?_
            refine z_iload_n (pc2 := 56) rfl dX12_compared_55 rfl ?_
            obtain ⟨q18, hq18, h⟩ := ab_bnd h
            refine z_callVv 85 [.int (3 : Int32), .int q3] [some (.ref 85), some (.int (3 : Int32)), some (.int q3)] (pc2 := 59) rfl rfl dX12_compared_56 ok_X12_step1 ⟨fun _ => rfl, fun _ => Nat.le_of_ble_eq_true rfl⟩ (Nat.ble_eq_true_of_le (by omega)) rv_85 wd_1087 wd_1089 wd_25 rfl (e_X12_step1 hq18) ?_
            refine z_iconst (pc2 := 60) rfl dX12_compared_59 lt_i_1 ?_
            exact z_iret dX12_compared_60 rfl rfl (fz_w rfl h)
          · replace h := ab_pos hc17 h
            refine z_iconst (pc2 := 52) rfl dX12_compared_51 lt_i_0 ?_
            exact z_iret dX12_compared_52 rfl rfl (fz_w rfl h)
        · replace h := ab_neg hc14 h
          refine z_iconst (pc2 := 33) rfl dX12_compared_32 lt_i_1 ?_
          exact z_iret dX12_compared_33 rfl rfl (fz_w rfl h)
  · replace h := ab_pos hc2 h
    refine z_iconst (pc2 := 8) rfl dX12_compared_7 lt_i_0 ?_
    exact z_iret dX12_compared_8 rfl rfl (fz_w rfl h)
