def f_J0_indexOf_0f7a4 (nm : Nat) (a1 : Int32) (σ : ab_F) : Option Int32 := (f_J0_indexOf_7cf53 nm a1 (0 : Int32) σ).bind (fun q1 => (some q1))
set_option maxRecDepth 100000 in
set_option maxHeartbeats 4000000 in
theorem e_J0_indexOf_0f7a4_5 {sc : Nat × (Nat → Int32)} {r : Option Nat × Option Nat} {a1 : Int32} {σ : ab_F} {res : Int32} (h : f_J0_indexOf_0f7a4 5 a1 σ = some res) : ab_E mJ0_indexOf_0f7a4 3 sc 0 [some (.ref 5), some (.int a1)] [] (σ, r) (fun v S => v = some (.int res) ∧ S = (σ, r)) := by
  unfold f_J0_indexOf_0f7a4 at h
  refine z_aload_n (pc2 := 1) rfl dJ0_indexOf_0f7a4_0 rfl ?_
  refine z_iload_n (pc2 := 2) rfl dJ0_indexOf_0f7a4_1 rfl ?_
  refine z_iconst (pc2 := 3) rfl dJ0_indexOf_0f7a4_2 lt_i_0 ?_
  obtain ⟨q1, hq1, h⟩ := ab_bnd h
  refine z_callVi 5 [.int a1, .int (0 : Int32)] [some (.ref 5), some (.int a1), some (.int (0 : Int32))] (pc2 := 6) rfl rfl dJ0_indexOf_0f7a4_3 ok_J0_indexOf_7cf53 ⟨fun _ => rfl, fun _ => Nat.le_of_ble_eq_true rfl⟩ rfl rv_5 wd_560 wd_561 wd_562 rfl (e_J0_indexOf_7cf53_5 hq1) ?_
  exact z_iret dJ0_indexOf_0f7a4_6 rfl rfl (fi_p h)
def f_X7_readNumber_L4 (nm : Nat) (K : Int32 → ab_F → Option ab_F) : Nat → Int32 → Int32 → ab_F → Option ab_F
  | 0, _, _, _ => none
  | n + 1, u1, u2, σ => (if (4 : Int32) ≤ u2 then (K u1 σ) else (f_X7_next nm σ).bind (fun q2 => (if q2 < (48 : Int32) then (K u1 σ) else (f_X7_next nm σ).bind (fun q4 => (if (57 : Int32) < q4 then (K u1 σ) else (f_X7_next nm σ).bind (fun q6 => ab_lt (((((10 : Int32) * u1) + q6) - (48 : Int32))) (fun x7 => ab_lt (ab_u σ 17 5 ((σ 17 5) + (1 : Int32))) (fun (s8 : ab_F) => ab_lt (u2 + (1 : Int32)) (fun x9 => (f_X7_readNumber_L4 nm K n x7 x9 s8))))))))))
set_option maxRecDepth 100000 in
set_option maxHeartbeats 4000000 in
theorem e_X7_readNumber_5_L4 {sc : Nat × (Nat → Int32)} {K : Int32 → ab_F → Option ab_F} {res : ab_F} (hK : ∀ (u1 : Int32) (σ : ab_F), K u1 σ = some res → ab_E mX7_readNumber 1 sc 56 [some (.ref 17), some (.int u1), none] [] (σ, (some 9, some 5)) (fun v S => v = none ∧ S = (res, (some 9, some 5)))) : ∀ (n : Nat) (u1 : Int32) (u2 : Int32) (σ : ab_F), f_X7_readNumber_L4 5 K n u1 u2 σ = some res → ab_E mX7_readNumber 1 sc 4 [some (.ref 17), some (.int u1), some (.int u2)] [] (σ, (some 9, some 5)) (fun v S => v = none ∧ S = (res, (some 9, some 5))) := by
  intro n
  induction n with
  | zero =>
    intro u1 u2 σ h
    rw [f_X7_readNumber_L4] at h
    cases h
  | succ n ih =>
    intro u1 u2 σ h
    rw [f_X7_readNumber_L4] at h
    refine z_iload_n (pc2 := 5) rfl dX7_readNumber_4 rfl ?_
    refine z_iconst (pc2 := 6) rfl dX7_readNumber_5 lt_i_4 ?_
    refine z_icmp_ge (pc2 := 9) (tgt := 56) rfl dX7_readNumber_6 (by decide) (fun hc1 => ?_) (fun hc1 => ?_)
    · replace h := ab_pos hc1 h
      refine z_fgt [true, true, false] (L2 := [some (.ref 17), some (.int u1), none]) rfl ?_
      exact hK _ _ h
    · replace h := ab_neg hc1 h
      refine z_aload_n (pc2 := 10) rfl dX7_readNumber_9 rfl ?_
      obtain ⟨q2, hq2, h⟩ := ab_bnd h
      refine z_callVi 17 [] [some (.ref 17)] (pc2 := 13) rfl rfl dX7_readNumber_10 ok_X7_next ⟨fun _ => rfl, fun _ => Nat.le_of_ble_eq_true rfl⟩ rfl rv_17 wd_544 wd_546 wd_4 rfl (e_X7_next_5 hq2) ?_
      refine z_bipush (pc2 := 15) rfl dX7_readNumber_13 lt_b_48 ?_
      refine z_icmp_lt (pc2 := 18) (tgt := 56) rfl dX7_readNumber_15 (by decide) (fun hc3 => ?_) (fun hc3 => ?_)
      · replace h := ab_pos hc3 h
        refine z_fgt [true, true, false] (L2 := [some (.ref 17), some (.int u1), none]) rfl ?_
        exact hK _ _ h
      · replace h := ab_neg hc3 h
        refine z_aload_n (pc2 := 19) rfl dX7_readNumber_18 rfl ?_
        obtain ⟨q4, hq4, h⟩ := ab_bnd h
        refine z_callVi 17 [] [some (.ref 17)] (pc2 := 22) rfl rfl dX7_readNumber_19 ok_X7_next ⟨fun _ => rfl, fun _ => Nat.le_of_ble_eq_true rfl⟩ rfl rv_17 wd_544 wd_546 wd_4 rfl (e_X7_next_5 hq4) ?_
        refine z_bipush (pc2 := 24) rfl dX7_readNumber_22 lt_b_57 ?_
        refine z_icmp_gt (pc2 := 27) (tgt := 56) rfl dX7_readNumber_24 (by decide) (fun hc5 => ?_) (fun hc5 => ?_)
        · replace h := ab_pos hc5 h
          refine z_fgt [true, true, false] (L2 := [some (.ref 17), some (.int u1), none]) rfl ?_
          exact hK _ _ h
        · replace h := ab_neg hc5 h
          refine z_bipush (pc2 := 29) rfl dX7_readNumber_27 lt_b_10 ?_
          refine z_iload_n (pc2 := 30) rfl dX7_readNumber_29 rfl ?_
          refine z_imul (pc2 := 31) rfl dX7_readNumber_30 ?_
          refine z_aload_n (pc2 := 32) rfl dX7_readNumber_31 rfl ?_
          obtain ⟨q6, hq6, h⟩ := ab_bnd h
          refine z_callVi 17 [] [some (.ref 17)] (pc2 := 35) rfl rfl dX7_readNumber_32 ok_X7_next ⟨fun _ => rfl, fun _ => Nat.le_of_ble_eq_true rfl⟩ rfl rv_17 wd_544 wd_546 wd_4 rfl (e_X7_next_5 hq6) ?_
          refine z_iadd (pc2 := 36) rfl dX7_readNumber_35 ?_
          refine z_bipush (pc2 := 38) rfl dX7_readNumber_36 lt_b_48 ?_
          refine z_isub (pc2 := 39) rfl dX7_readNumber_38 ?_
          obtain ⟨x7, hxx7, h⟩ := ab_lt_e h
          refine z_top hxx7 ?_
          refine z_istore_n (pc2 := 40) (L2 := [some (.ref 17), some (.int x7), some (.int u2)]) rfl dX7_readNumber_39 (by decide) rfl rfl ?_
          refine z_aload_n (pc2 := 41) rfl dX7_readNumber_40 rfl ?_
          refine z_dup (pc2 := 42) rfl dX7_readNumber_41 rfl ?_
          refine z_getI 17 7 5 (pc2 := 45) rfl dX7_readNumber_42 rfl rfl ff_7_5 wd_126 ?_
          refine z_iconst (pc2 := 46) rfl dX7_readNumber_45 lt_i_1 ?_
          refine z_iadd (pc2 := 47) rfl dX7_readNumber_46 ?_
          refine z_putI 17 7 5 (pc2 := 50) (ft := .int) rfl dX7_readNumber_47 rfl rfl ff_7_5 wd_126 rfl (by decide +kernel) rfl rfl ?_
          obtain ⟨s8, hs8, h⟩ := ab_lt_e h
          refine z_tops hs8 ?_
          obtain ⟨x9, hxx9, h⟩ := ab_lt_e h
          refine z_iinc (pc2 := 53) (v := x9) (L2 := [some (.ref 17), some (.int x7), some (.int x9)]) rfl dX7_readNumber_50 rfl (by rw [hxx9]; rfl) (by decide) rfl rfl ?_
          refine ab_goto (tgt := 4) dX7_readNumber_53 (by decide) ?_
          refine z_fgt [true, true, true] (L2 := [some (.ref 17), some (.int x7), some (.int x9)]) rfl ?_
          exact ih _ _ _ h
def f_X7_readNumber (nm : Nat) (σ : ab_F) : Option ab_F := (f_X7_readNumber_L4 nm (fun (k10 : Int32) (s11 : ab_F) => (f_X7_step nm k10 s11).bind (fun q12 => (some q12))) ab_fu (0 : Int32) (0 : Int32) σ)
set_option maxRecDepth 100000 in
set_option maxHeartbeats 4000000 in
theorem e_X7_readNumber_5 {sc : Nat × (Nat → Int32)} {σ : ab_F} {res : ab_F} (h : f_X7_readNumber 5 σ = some res) : ab_E mX7_readNumber 1 sc 0 [some (.ref 17), none, none] [] (σ, (some 9, some 5)) (fun v S => v = none ∧ S = (res, (some 9, some 5))) := by
  unfold f_X7_readNumber at h
  refine z_iconst (pc2 := 1) rfl dX7_readNumber_0 lt_i_0 ?_
  refine z_istore_n (pc2 := 2) (L2 := [some (.ref 17), some (.int (0 : Int32)), none]) rfl dX7_readNumber_1 (by decide) rfl rfl ?_
  refine z_iconst (pc2 := 3) rfl dX7_readNumber_2 lt_i_0 ?_
  refine z_istore_n (pc2 := 4) (L2 := [some (.ref 17), some (.int (0 : Int32)), some (.int (0 : Int32))]) rfl dX7_readNumber_3 (by decide) rfl rfl ?_
  refine z_fgt [true, true, true] (L2 := [some (.ref 17), some (.int (0 : Int32)), some (.int (0 : Int32))]) rfl ?_
  refine e_X7_readNumber_5_L4 (fun k10 s11 h => ?_) _ _ _ _ h
  refine z_aload_n (pc2 := 57) rfl dX7_readNumber_56 rfl ?_
  refine z_iload_n (pc2 := 58) rfl dX7_readNumber_57 rfl ?_
  obtain ⟨q12, hq12, h⟩ := ab_bnd h
  refine z_callVv 17 [.int k10] [some (.ref 17), some (.int k10)] (pc2 := 61) rfl rfl dX7_readNumber_58 ok_X7_step ⟨fun _ => rfl, fun _ => Nat.le_of_ble_eq_true rfl⟩ rfl rv_17 wd_552 wd_554 wd_6 rfl (e_X7_step_5 hq12) ?_
  exact z_vret dX7_readNumber_61 rfl (fv_w h)
def g_X7_readLevel_L39 (nm : Nat) (rc : Nat → Int32 → Int32 → ab_F → Option (Bool × ab_F)) (p1 : Int32) (p2 : Int32) (p3 : Int32) (K : ab_F → Option (Bool × ab_F)) : Nat → Int32 → ab_F → Option (Bool × ab_F)
  | 0, _, _ => none
  | n + 1, u4, σ => (if p3 ≤ u4 then (K σ) else (f_X7_next nm σ).bind (fun q6 => (f_X7_levelOf q6 σ).bind (fun q7 => (if q7 = p1 then (f_X7_next nm σ).bind (fun q9 => ab_lt (ab_u σ 17 5 ((σ 17 5) + (1 : Int32))) (fun (s10 : ab_F) => (rc 0 (p1 + (1 : Int32)) p2 s10).bind (fun q11 => (if (ab_b q11.1) = 0 then (some (false, q11.2)) else (f_X7_step nm (-q9) q11.2).bind (fun q13 => ab_lt (u4 + (1 : Int32)) (fun x14 => (g_X7_readLevel_L39 nm rc p1 p2 p3 K n x14 q13))))))) else (K σ)))))
set_option maxRecDepth 100000 in
set_option maxHeartbeats 4000000 in
theorem eg_X7_readLevel_5_L39 {sc : Nat × (Nat → Int32)} {n0 : Nat} {rc : Nat → Int32 → Int32 → ab_F → Option (Bool × ab_F)} (ih_X7_readLevel : ∀ (a1 : Int32) (a2 : Int32) (σ : ab_F) (res : (Bool × ab_F)), rc 0 a1 a2 σ = some res → ab_E mX7_readLevel (n0 + 8) sc 0 [some (.ref 17), some (.int a1), some (.int a2), none, none, none] [] (σ, (some 9, some 5)) (fun v S => v = some (.int (ab_b res.1)) ∧ S = (res.2, (some 9, some 5)))) (ih_X7_readUnit : ∀ (a1 : Int32) (z0 : Int32) (σ : ab_F) (res : (Bool × ab_F)), rc 1 a1 z0 σ = some res → ab_E mX7_readUnit (n0 + 8) sc 0 [some (.ref 17), some (.int a1), none, none, none] [] (σ, (some 9, some 5)) (fun v S => v = some (.int (ab_b res.1)) ∧ S = (res.2, (some 9, some 5)))) (ih_X7_readBracket : ∀ (a1 : Int32) (z0 : Int32) (σ : ab_F) (res : (Bool × ab_F)), rc 2 a1 z0 σ = some res → ab_E mX7_readBracket (n0 + 8) sc 0 [some (.ref 17), some (.int a1)] [] (σ, (some 9, some 5)) (fun v S => v = some (.int (ab_b res.1)) ∧ S = (res.2, (some 9, some 5)))) {p1 : Int32} {p2 : Int32} {p3 : Int32} {K : ab_F → Option (Bool × ab_F)} {res : (Bool × ab_F)} (hK : ∀ (σ : ab_F), K σ = some res → ab_E mX7_readLevel (n0 + 9) sc 98 [none, none, none, none, none, none] [] (σ, (some 9, some 5)) (fun v S => v = some (.int (ab_b res.1)) ∧ S = (res.2, (some 9, some 5)))) : ∀ (n : Nat) (u4 : Int32) (σ : ab_F), g_X7_readLevel_L39 5 rc p1 p2 p3 K n u4 σ = some res → ab_E mX7_readLevel (n0 + 9) sc 39 [some (.ref 17), some (.int p1), some (.int p2), some (.int p3), some (.int u4), none] [] (σ, (some 9, some 5)) (fun v S => v = some (.int (ab_b res.1)) ∧ S = (res.2, (some 9, some 5))) := by
  intro n
  induction n with
  | zero =>
    intro u4 σ h
    rw [g_X7_readLevel_L39] at h
    cases h
  | succ n ih =>
    intro u4 σ h
    rw [g_X7_readLevel_L39] at h
    refine z_iload (pc2 := 41) rfl dX7_readLevel_39 rfl ?_
    refine z_iload_n (pc2 := 42) rfl dX7_readLevel_41 rfl ?_
    refine z_icmp_ge (pc2 := 45) (tgt := 98) rfl dX7_readLevel_42 (by decide) (fun hc5 => ?_) (fun hc5 => ?_)
    · replace h := ab_pos hc5 h
      refine z_fgt [false, false, false, false, false, false] (L2 := [none, none, none, none, none, none]) rfl ?_
      exact hK  _ h
    · replace h := ab_neg hc5 h
      refine z_aload_n (pc2 := 46) rfl dX7_readLevel_45 rfl ?_
      obtain ⟨q6, hq6, h⟩ := ab_bnd h
      refine z_callVi 17 [] [some (.ref 17)] (pc2 := 49) rfl rfl dX7_readLevel_46 ok_X7_next ⟨fun _ => rfl, fun _ => Nat.le_of_ble_eq_true rfl⟩ (Nat.ble_eq_true_of_le (by omega)) rv_17 wd_544 wd_546 wd_4 rfl (e_X7_next_5 hq6) ?_
      obtain ⟨q7, hq7, h⟩ := ab_bnd h
      refine z_callSi [.int q6] [some (.int q6)] (pc2 := 52) rfl rfl dX7_readLevel_49 ok_X7_levelOf ⟨fun _ => rfl, fun _ => Nat.le_of_ble_eq_true rfl⟩ (Nat.ble_eq_true_of_le (by omega)) wd_642 wd_643 rfl (e_X7_levelOf hq7) ?_
      refine z_iload_n (pc2 := 53) rfl dX7_readLevel_52 rfl ?_
      refine z_icmp_ne (pc2 := 56) (tgt := 98) rfl dX7_readLevel_53 (by decide) (fun hc8 => ?_) (fun hc8 => ?_)
      · replace h := ab_neg hc8 h
        refine z_fgt [false, false, false, false, false, false] (L2 := [none, none, none, none, none, none]) rfl ?_
        exact hK  _ h
      · replace h := ab_pos hc8 h
        refine z_aload_n (pc2 := 57) rfl dX7_readLevel_56 rfl ?_
        obtain ⟨q9, hq9, h⟩ := ab_bnd h
        refine z_callVi 17 [] [some (.ref 17)] (pc2 := 60) rfl rfl dX7_readLevel_57 ok_X7_next ⟨fun _ => rfl, fun _ => Nat.le_of_ble_eq_true rfl⟩ (Nat.ble_eq_true_of_le (by omega)) rv_17 wd_544 wd_546 wd_4 rfl (e_X7_next_5 hq9) ?_
        refine z_istore (pc2 := 62) (L2 := [some (.ref 17), some (.int p1), some (.int p2), some (.int p3), some (.int u4), some (.int q9)]) rfl dX7_readLevel_60 (by decide) rfl rfl ?_
        refine z_aload_n (pc2 := 63) rfl dX7_readLevel_62 rfl ?_
        refine z_dup (pc2 := 64) rfl dX7_readLevel_63 rfl ?_
        refine z_getI 17 7 5 (pc2 := 67) rfl dX7_readLevel_64 rfl rfl ff_7_5 wd_126 ?_
        refine z_iconst (pc2 := 68) rfl dX7_readLevel_67 lt_i_1 ?_
        refine z_iadd (pc2 := 69) rfl dX7_readLevel_68 ?_
        refine z_putI 17 7 5 (pc2 := 72) (ft := .int) rfl dX7_readLevel_69 rfl rfl ff_7_5 wd_126 rfl (by decide +kernel) rfl rfl ?_
        obtain ⟨s10, hs10, h⟩ := ab_lt_e h
        refine z_tops hs10 ?_
        refine z_aload_n (pc2 := 73) rfl dX7_readLevel_72 rfl ?_
        refine z_iload_n (pc2 := 74) rfl dX7_readLevel_73 rfl ?_
        refine z_iconst (pc2 := 75) rfl dX7_readLevel_74 lt_i_1 ?_
        refine z_iadd (pc2 := 76) rfl dX7_readLevel_75 ?_
        refine z_iload_n (pc2 := 77) rfl dX7_readLevel_76 rfl ?_
        obtain ⟨q11, hq11, h⟩ := ab_bnd h
        refine z_callVi 17 [.int (p1 + (1 : Int32)), .int p2] [some (.ref 17), some (.int (p1 + (1 : Int32))), some (.int p2), none, none, none] (pc2 := 80) rfl rfl dX7_readLevel_77 ok_X7_readLevel ⟨fun _ => rfl, fun _ => Nat.le_of_ble_eq_true rfl⟩ (Nat.ble_eq_true_of_le (by omega)) rv_17 wd_536 wd_538 wd_2 rfl (ih_X7_readLevel _ _ _ _ hq11) ?_
        refine z_if_ne (pc2 := 83) (tgt := 85) rfl dX7_readLevel_80 (by decide) (fun hc12 => ?_) (fun hc12 => ?_)
        · replace h := ab_neg hc12 h
          refine z_aload_n (pc2 := 86) rfl dX7_readLevel_85 rfl ?_
          refine z_iload (pc2 := 88) rfl dX7_readLevel_86 rfl ?_
          refine z_ineg (pc2 := 89) rfl dX7_readLevel_88 ?_
          obtain ⟨q13, hq13, h⟩ := ab_bnd h
          refine z_callVv 17 [.int (-q9)] [some (.ref 17), some (.int (-q9))] (pc2 := 92) rfl rfl dX7_readLevel_89 ok_X7_step ⟨fun _ => rfl, fun _ => Nat.le_of_ble_eq_true rfl⟩ (Nat.ble_eq_true_of_le (by omega)) rv_17 wd_552 wd_554 wd_6 rfl (e_X7_step_5 hq13) ?_
          obtain ⟨x14, hxx14, h⟩ := ab_lt_e h
          refine z_iinc (pc2 := 95) (v := x14) (L2 := [some (.ref 17), some (.int p1), some (.int p2), some (.int p3), some (.int x14), some (.int q9)]) rfl dX7_readLevel_92 rfl (by rw [hxx14]; rfl) (by decide) rfl rfl ?_
          refine ab_goto (tgt := 39) dX7_readLevel_95 (by decide) ?_
          refine z_fgt [true, true, true, true, true, false] (L2 := [some (.ref 17), some (.int p1), some (.int p2), some (.int p3), some (.int x14), none]) rfl ?_
          exact ih _ _ h
        · replace h := ab_pos hc12 h
          refine z_iconst (pc2 := 84) rfl dX7_readLevel_83 lt_i_0 ?_
          exact z_iret dX7_readLevel_84 rfl rfl (fz_w rfl h)
def g_X7_readLevel (nm : Nat) (rc : Nat → Int32 → Int32 → ab_F → Option (Bool × ab_F)) (a1 : Int32) (a2 : Int32) (σ : ab_F) : Option (Bool × ab_F) := (if a1 < (5 : Int32) then (rc 0 (a1 + (1 : Int32)) a2 σ).bind (fun q2 => (if (ab_b q2.1) = 0 then (some (false, q2.2)) else (if a1 = (2 : Int32) then (g_X7_readLevel_L39 nm rc a1 a2 (1 : Int32) (fun (s16 : ab_F) => (some (true, s16))) ab_fu (0 : Int32) q2.2) else (g_X7_readLevel_L39 nm rc a1 a2 (60 : Int32) (fun (s15 : ab_F) => (some (true, s15))) ab_fu (0 : Int32) q2.2)))) else (rc 1 a2 0 σ).bind (fun q17 => (some (q17.1, q17.2))))
set_option maxRecDepth 100000 in
set_option maxHeartbeats 4000000 in
theorem eg_X7_readLevel_5 {sc : Nat × (Nat → Int32)} {n0 : Nat} {rc : Nat → Int32 → Int32 → ab_F → Option (Bool × ab_F)} (ih_X7_readLevel : ∀ (a1 : Int32) (a2 : Int32) (σ : ab_F) (res : (Bool × ab_F)), rc 0 a1 a2 σ = some res → ab_E mX7_readLevel (n0 + 8) sc 0 [some (.ref 17), some (.int a1), some (.int a2), none, none, none] [] (σ, (some 9, some 5)) (fun v S => v = some (.int (ab_b res.1)) ∧ S = (res.2, (some 9, some 5)))) (ih_X7_readUnit : ∀ (a1 : Int32) (z0 : Int32) (σ : ab_F) (res : (Bool × ab_F)), rc 1 a1 z0 σ = some res → ab_E mX7_readUnit (n0 + 8) sc 0 [some (.ref 17), some (.int a1), none, none, none] [] (σ, (some 9, some 5)) (fun v S => v = some (.int (ab_b res.1)) ∧ S = (res.2, (some 9, some 5)))) (ih_X7_readBracket : ∀ (a1 : Int32) (z0 : Int32) (σ : ab_F) (res : (Bool × ab_F)), rc 2 a1 z0 σ = some res → ab_E mX7_readBracket (n0 + 8) sc 0 [some (.ref 17), some (.int a1)] [] (σ, (some 9, some 5)) (fun v S => v = some (.int (ab_b res.1)) ∧ S = (res.2, (some 9, some 5)))) {a1 : Int32} {a2 : Int32} {σ : ab_F} {res : (Bool × ab_F)} (h : g_X7_readLevel 5 rc a1 a2 σ = some res) : ab_E mX7_readLevel (n0 + 9) sc 0 [some (.ref 17), some (.int a1), some (.int a2), none, none, none] [] (σ, (some 9, some 5)) (fun v S => v = some (.int (ab_b res.1)) ∧ S = (res.2, (some 9, some 5))) := by
  unfold g_X7_readLevel at h
  refine z_iload_n (pc2 := 1) rfl dX7_readLevel_0 rfl ?_
  refine z_iconst (pc2 := 2) rfl dX7_readLevel_1 lt_i_5 ?_
  refine z_icmp_lt (pc2 := 5) (tgt := 11) rfl dX7_readLevel_2 (by decide) (fun hc1 => ?_) (fun hc1 => ?_)
  · replace h := ab_pos hc1 h
    refine z_aload_n (pc2 := 12) rfl dX7_readLevel_11 rfl ?_
    refine z_iload_n (pc2 := 13) rfl dX7_readLevel_12 rfl ?_
    refine z_iconst (pc2 := 14) rfl dX7_readLevel_13 lt_i_1 ?_
    refine z_iadd (pc2 := 15) rfl dX7_readLevel_14 ?_
    refine z_iload_n (pc2 := 16) rfl dX7_readLevel_15 rfl ?_
    obtain ⟨q2, hq2, h⟩ := ab_bnd h
    refine z_callVi 17 [.int (a1 + (1 : Int32)), .int a2] [some (.ref 17), some (.int (a1 + (1 : Int32))), some (.int a2), none, none, none] (pc2 := 19) rfl rfl dX7_readLevel_16 ok_X7_readLevel ⟨fun _ => rfl, fun _ => Nat.le_of_ble_eq_true rfl⟩ (Nat.ble_eq_true_of_le (by omega)) rv_17 wd_536 wd_538 wd_2 rfl (ih_X7_readLevel _ _ _ _ hq2) ?_
    refine z_if_ne (pc2 := 22) (tgt := 24) rfl dX7_readLevel_19 (by decide) (fun hc3 => ?_) (fun hc3 => ?_)
    · replace h := ab_neg hc3 h
      refine z_iload_n (pc2 := 25) rfl dX7_readLevel_24 rfl ?_
      refine z_iconst (pc2 := 26) rfl dX7_readLevel_25 lt_i_2 ?_
      refine z_icmp_ne (pc2 := 29) (tgt := 33) rfl dX7_readLevel_26 (by decide) (fun hc4 => ?_) (fun hc4 => ?_)
      · replace h := ab_neg hc4 h
        refine z_bipush (pc2 := 35) rfl dX7_readLevel_33 lt_b_60 ?_
        refine z_istore_n (pc2 := 36) (L2 := [some (.ref 17), some (.int a1), some (.int a2), some (.int (60 : Int32)), none, none]) rfl dX7_readLevel_35 (by decide) rfl rfl ?_
        refine z_iconst (pc2 := 37) rfl dX7_readLevel_36 lt_i_0 ?_
        refine z_istore (pc2 := 39) (L2 := [some (.ref 17), some (.int a1), some (.int a2), some (.int (60 : Int32)), some (.int (0 : Int32)), none]) rfl dX7_readLevel_37 (by decide) rfl rfl ?_
        refine z_fgt [true, true, true, true, true, false] (L2 := [some (.ref 17), some (.int a1), some (.int a2), some (.int (60 : Int32)), some (.int (0 : Int32)), none]) rfl ?_
        refine eg_X7_readLevel_5_L39 ih_X7_readLevel ih_X7_readUnit ih_X7_readBracket (fun s15 h => ?_) _ _ _ h
        refine z_iconst (pc2 := 99) rfl dX7_readLevel_98 lt_i_1 ?_
        exact z_iret dX7_readLevel_99 rfl rfl (fz_w rfl h)
      · replace h := ab_pos hc4 h
        refine z_iconst (pc2 := 30) rfl dX7_readLevel_29 lt_i_1 ?_
        refine ab_goto (tgt := 35) dX7_readLevel_30 (by decide) ?_
        refine z_istore_n (pc2 := 36) (L2 := [some (.ref 17), some (.int a1), some (.int a2), some (.int (1 : Int32)), none, none]) rfl dX7_readLevel_35 (by decide) rfl rfl ?_
        refine z_iconst (pc2 := 37) rfl dX7_readLevel_36 lt_i_0 ?_
        refine z_istore (pc2 := 39) (L2 := [some (.ref 17), some (.int a1), some (.int a2), some (.int (1 : Int32)), some (.int (0 : Int32)), none]) rfl dX7_readLevel_37 (by decide) rfl rfl ?_
        refine z_fgt [true, true, true, true, true, false] (L2 := [some (.ref 17), some (.int a1), some (.int a2), some (.int (1 : Int32)), some (.int (0 : Int32)), none]) rfl ?_
        refine eg_X7_readLevel_5_L39 ih_X7_readLevel ih_X7_readUnit ih_X7_readBracket (fun s16 h => ?_) _ _ _ h
        refine z_iconst (pc2 := 99) rfl dX7_readLevel_98 lt_i_1 ?_
        exact z_iret dX7_readLevel_99 rfl rfl (fz_w rfl h)
    · replace h := ab_pos hc3 h
      refine z_iconst (pc2 := 23) rfl dX7_readLevel_22 lt_i_0 ?_
      exact z_iret dX7_readLevel_23 rfl rfl (fz_w rfl h)
  · replace h := ab_neg hc1 h
    refine z_aload_n (pc2 := 6) rfl dX7_readLevel_5 rfl ?_
    refine z_iload_n (pc2 := 7) rfl dX7_readLevel_6 rfl ?_
    obtain ⟨q17, hq17, h⟩ := ab_bnd h
    refine z_callVi 17 [.int a2] [some (.ref 17), some (.int a2), none, none, none] (pc2 := 10) rfl rfl dX7_readLevel_7 ok_X7_readUnit ⟨fun _ => rfl, fun _ => Nat.le_of_ble_eq_true rfl⟩ (Nat.ble_eq_true_of_le (by omega)) rv_17 wd_540 wd_542 wd_3 rfl (ih_X7_readUnit _ _ _ _ hq17) ?_
    exact z_iret dX7_readLevel_10 rfl (ab_b_n _) (fz_w rfl h)
def g_X7_readUnit (nm : Nat) (rc : Nat → Int32 → Int32 → ab_F → Option (Bool × ab_F)) (a1 : Int32) (σ : ab_F) : Option (Bool × ab_F) := (f_X7_next nm σ).bind (fun q1 => (if q1 < (48 : Int32) then (if 0 ≤ q1 then (f_J0_indexOf_0f7a4 nm ((q1).toUInt32 % 65536).toInt32 σ).bind (fun q4 => (if q4 < 0 then (if a1 < (5 : Int32) then (if q1 = (33 : Int32) then ab_lt (ab_u σ 17 5 ((σ 17 5) + (1 : Int32))) (fun (s11 : ab_F) => (rc 1 (a1 + (1 : Int32)) 0 s11).bind (fun q12 => (f_X7_step nm (-33 : Int32) q12.2).bind (fun q13 => (some (q12.1, q13))))) else (if q1 = (40 : Int32) then (rc 2 (a1 + (1 : Int32)) 0 σ).bind (fun q9 => (if (ab_b q9.1) = 0 then (some (false, q9.2)) else (some (true, q9.2)))) else (some (false, σ)))) else (some (false, σ))) else ab_lt (ab_u σ 17 5 ((σ 17 5) + (1 : Int32))) (fun (s14 : ab_F) => (f_X7_step nm ((-1 : Int32) - q4) s14).bind (fun q15 => (some (true, q15)))))) else (if a1 < (5 : Int32) then (if q1 = (33 : Int32) then ab_lt (ab_u σ 17 5 ((σ 17 5) + (1 : Int32))) (fun (s21 : ab_F) => (rc 1 (a1 + (1 : Int32)) 0 s21).bind (fun q22 => (f_X7_step nm (-33 : Int32) q22.2).bind (fun q23 => (some (q22.1, q23))))) else (if q1 = (40 : Int32) then (rc 2 (a1 + (1 : Int32)) 0 σ).bind (fun q19 => (if (ab_b q19.1) = 0 then (some (false, q19.2)) else (some (true, q19.2)))) else (some (false, σ)))) else (some (false, σ)))) else (if (57 : Int32) < q1 then (if 0 ≤ q1 then (f_J0_indexOf_0f7a4 nm ((q1).toUInt32 % 65536).toInt32 σ).bind (fun q26 => (if q26 < 0 then (if a1 < (5 : Int32) then (if q1 = (33 : Int32) then ab_lt (ab_u σ 17 5 ((σ 17 5) + (1 : Int32))) (fun (s33 : ab_F) => (rc 1 (a1 + (1 : Int32)) 0 s33).bind (fun q34 => (f_X7_step nm (-33 : Int32) q34.2).bind (fun q35 => (some (q34.1, q35))))) else (if q1 = (40 : Int32) then (rc 2 (a1 + (1 : Int32)) 0 σ).bind (fun q31 => (if (ab_b q31.1) = 0 then (some (false, q31.2)) else (some (true, q31.2)))) else (some (false, σ)))) else (some (false, σ))) else ab_lt (ab_u σ 17 5 ((σ 17 5) + (1 : Int32))) (fun (s36 : ab_F) => (f_X7_step nm ((-1 : Int32) - q26) s36).bind (fun q37 => (some (true, q37)))))) else (if a1 < (5 : Int32) then (if q1 = (33 : Int32) then ab_lt (ab_u σ 17 5 ((σ 17 5) + (1 : Int32))) (fun (s43 : ab_F) => (rc 1 (a1 + (1 : Int32)) 0 s43).bind (fun q44 => (f_X7_step nm (-33 : Int32) q44.2).bind (fun q45 => (some (q44.1, q45))))) else (if q1 = (40 : Int32) then (rc 2 (a1 + (1 : Int32)) 0 σ).bind (fun q41 => (if (ab_b q41.1) = 0 then (some (false, q41.2)) else (some (true, q41.2)))) else (some (false, σ)))) else (some (false, σ)))) else (f_X7_readNumber nm σ).bind (fun q46 => (some (true, q46))))))
set_option maxRecDepth 100000 in
set_option maxHeartbeats 4000000 in
theorem eg_X7_readUnit_5 {sc : Nat × (Nat → Int32)} {n0 : Nat} {rc : Nat → Int32 → Int32 → ab_F → Option (Bool × ab_F)} (ih_X7_readLevel : ∀ (a1 : Int32) (a2 : Int32) (σ : ab_F) (res : (Bool × ab_F)), rc 0 a1 a2 σ = some res → ab_E mX7_readLevel (n0 + 8) sc 0 [some (.ref 17), some (.int a1), some (.int a2), none, none, none] [] (σ, (some 9, some 5)) (fun v S => v = some (.int (ab_b res.1)) ∧ S = (res.2, (some 9, some 5)))) (ih_X7_readUnit : ∀ (a1 : Int32) (z0 : Int32) (σ : ab_F) (res : (Bool × ab_F)), rc 1 a1 z0 σ = some res → ab_E mX7_readUnit (n0 + 8) sc 0 [some (.ref 17), some (.int a1), none, none, none] [] (σ, (some 9, some 5)) (fun v S => v = some (.int (ab_b res.1)) ∧ S = (res.2, (some 9, some 5)))) (ih_X7_readBracket : ∀ (a1 : Int32) (z0 : Int32) (σ : ab_F) (res : (Bool × ab_F)), rc 2 a1 z0 σ = some res → ab_E mX7_readBracket (n0 + 8) sc 0 [some (.ref 17), some (.int a1)] [] (σ, (some 9, some 5)) (fun v S => v = some (.int (ab_b res.1)) ∧ S = (res.2, (some 9, some 5)))) {a1 : Int32} {σ : ab_F} {res : (Bool × ab_F)} (h : g_X7_readUnit 5 rc a1 σ = some res) : ab_E mX7_readUnit (n0 + 9) sc 0 [some (.ref 17), some (.int a1), none, none, none] [] (σ, (some 9, some 5)) (fun v S => v = some (.int (ab_b res.1)) ∧ S = (res.2, (some 9, some 5))) := by
  unfold g_X7_readUnit at h
  refine z_aload_n (pc2 := 1) rfl dX7_readUnit_0 rfl ?_
  obtain ⟨q1, hq1, h⟩ := ab_bnd h
  refine z_callVi 17 [] [some (.ref 17)] (pc2 := 4) rfl rfl dX7_readUnit_1 ok_X7_next ⟨fun _ => rfl, fun _ => Nat.le_of_ble_eq_true rfl⟩ (Nat.ble_eq_true_of_le (by omega)) rv_17 wd_544 wd_546 wd_4 rfl (e_X7_next_5 hq1) ?_
  refine z_istore_n (pc2 := 5) (L2 := [some (.ref 17), some (.int a1), some (.int q1), none, none]) rfl dX7_readUnit_4 (by decide) rfl rfl ?_
  refine z_iload_n (pc2 := 6) rfl dX7_readUnit_5 rfl ?_
  refine z_bipush (pc2 := 8) rfl dX7_readUnit_6 lt_b_48 ?_
  refine z_icmp_lt (pc2 := 11) (tgt := 23) rfl dX7_readUnit_8 (by decide) (fun hc2 => ?_) (fun hc2 => ?_)
  · replace h := ab_pos hc2 h
    refine z_iload_n (pc2 := 24) rfl dX7_readUnit_23 rfl ?_
    refine z_if_ge (pc2 := 27) (tgt := 31) rfl dX7_readUnit_24 (by decide) (fun hc3 => ?_) (fun hc3 => ?_)
    · replace h := ab_pos hc3 h
      refine z_aload_n (pc2 := 32) rfl dX7_readUnit_31 rfl ?_
      refine z_getR 17 7 4 5 (pc2 := 35) rfl dX7_readUnit_32 rfl rfl ff_7_4 wd_125 rfl ?_
      refine z_iload_n (pc2 := 36) rfl dX7_readUnit_35 rfl ?_
      refine z_i2c (pc2 := 37) rfl dX7_readUnit_36 ?_
      obtain ⟨q4, hq4, h⟩ := ab_bnd h
      refine z_callVi 5 [.int ((q1).toUInt32 % 65536).toInt32] [some (.ref 5), some (.int ((q1).toUInt32 % 65536).toInt32)] (pc2 := 40) rfl rfl dX7_readUnit_37 ok_J0_indexOf_0f7a4 ⟨fun _ => rfl, fun _ => Nat.le_of_ble_eq_true rfl⟩ (Nat.ble_eq_true_of_le (by omega)) rv_5 wd_556 wd_557 wd_558 rfl (e_J0_indexOf_0f7a4_5 hq4) ?_
      refine z_istore_n (pc2 := 41) (L2 := [some (.ref 17), some (.int a1), some (.int q1), some (.int q4), none]) rfl dX7_readUnit_40 (by decide) rfl rfl ?_
      refine z_iload_n (pc2 := 42) rfl dX7_readUnit_41 rfl ?_
      refine z_if_lt (pc2 := 45) (tgt := 64) rfl dX7_readUnit_42 (by decide) (fun hc5 => ?_) (fun hc5 => ?_)
      · replace h := ab_pos hc5 h
        refine z_iload_n (pc2 := 65) rfl dX7_readUnit_64 rfl ?_
        refine z_iconst (pc2 := 66) rfl dX7_readUnit_65 lt_i_5 ?_
        refine z_icmp_lt (pc2 := 69) (tgt := 71) rfl dX7_readUnit_66 (by decide) (fun hc6 => ?_) (fun hc6 => ?_)
        · replace h := ab_pos hc6 h
          refine z_iload_n (pc2 := 72) rfl dX7_readUnit_71 rfl ?_
          refine z_bipush (pc2 := 74) rfl dX7_readUnit_72 lt_b_33 ?_
          refine z_icmp_ne (pc2 := 77) (tgt := 105) rfl dX7_readUnit_74 (by decide) (fun hc7 => ?_) (fun hc7 => ?_)
          · replace h := ab_neg hc7 h
            refine z_iload_n (pc2 := 106) rfl dX7_readUnit_105 rfl ?_
            refine z_bipush (pc2 := 108) rfl dX7_readUnit_106 lt_b_40 ?_
            refine z_icmp_ne (pc2 := 111) (tgt := 125) rfl dX7_readUnit_108 (by decide) (fun hc8 => ?_) (fun hc8 => ?_)
            · replace h := ab_neg hc8 h
              refine z_iconst (pc2 := 126) rfl dX7_readUnit_125 lt_i_0 ?_
              exact z_iret dX7_readUnit_126 rfl rfl (fz_w rfl h)
            · replace h := ab_pos hc8 h
              refine z_aload_n (pc2 := 112) rfl dX7_readUnit_111 rfl ?_
              refine z_iload_n (pc2 := 113) rfl dX7_readUnit_112 rfl ?_
              refine z_iconst (pc2 := 114) rfl dX7_readUnit_113 lt_i_1 ?_
              refine z_iadd (pc2 := 115) rfl dX7_readUnit_114 ?_
              obtain ⟨q9, hq9, h⟩ := ab_bnd h
              refine z_callVi 17 [.int (a1 + (1 : Int32))] [some (.ref 17), some (.int (a1 + (1 : Int32)))] (pc2 := 118) rfl rfl dX7_readUnit_115 ok_X7_readBracket ⟨fun _ => rfl, fun _ => Nat.le_of_ble_eq_true rfl⟩ (Nat.ble_eq_true_of_le (by omega)) rv_17 wd_638 wd_640 wd_7 rfl (ih_X7_readBracket _ _ _ _ hq9) ?_
              refine z_if_eq (pc2 := 121) (tgt := 125) rfl dX7_readUnit_118 (by decide) (fun hc10 => ?_) (fun hc10 => ?_)
              · replace h := ab_pos hc10 h
                refine z_iconst (pc2 := 126) rfl dX7_readUnit_125 lt_i_0 ?_
                exact z_iret dX7_readUnit_126 rfl rfl (fz_w rfl h)
              · replace h := ab_neg hc10 h
                refine z_iconst (pc2 := 122) rfl dX7_readUnit_121 lt_i_1 ?_
                refine ab_goto (tgt := 126) dX7_readUnit_122 (by decide) ?_
                exact z_iret dX7_readUnit_126 rfl rfl (fz_w rfl h)
          · replace h := ab_pos hc7 h
            refine z_aload_n (pc2 := 78) rfl dX7_readUnit_77 rfl ?_
            refine z_dup (pc2 := 79) rfl dX7_readUnit_78 rfl ?_
            refine z_getI 17 7 5 (pc2 := 82) rfl dX7_readUnit_79 rfl rfl ff_7_5 wd_126 ?_
            refine z_iconst (pc2 := 83) rfl dX7_readUnit_82 lt_i_1 ?_
            refine z_iadd (pc2 := 84) rfl dX7_readUnit_83 ?_
            refine z_putI 17 7 5 (pc2 := 87) (ft := .int) rfl dX7_readUnit_84 rfl rfl ff_7_5 wd_126 rfl (by decide +kernel) rfl rfl ?_
            obtain ⟨s11, hs11, h⟩ := ab_lt_e h
            refine z_tops hs11 ?_
            refine z_aload_n (pc2 := 88) rfl dX7_readUnit_87 rfl ?_
            refine z_iload_n (pc2 := 89) rfl dX7_readUnit_88 rfl ?_
            refine z_iconst (pc2 := 90) rfl dX7_readUnit_89 lt_i_1 ?_
            refine z_iadd (pc2 := 91) rfl dX7_readUnit_90 ?_
            obtain ⟨q12, hq12, h⟩ := ab_bnd h
            refine z_callVi 17 [.int (a1 + (1 : Int32))] [some (.ref 17), some (.int (a1 + (1 : Int32))), none, none, none] (pc2 := 94) rfl rfl dX7_readUnit_91 ok_X7_readUnit ⟨fun _ => rfl, fun _ => Nat.le_of_ble_eq_true rfl⟩ (Nat.ble_eq_true_of_le (by omega)) rv_17 wd_540 wd_542 wd_3 rfl (ih_X7_readUnit _ _ _ _ hq12) ?_
            refine z_istore (pc2 := 96) (L2 := [some (.ref 17), some (.int a1), some (.int q1), some (.int q4), some (.int (ab_b q12.1))]) rfl dX7_readUnit_94 (by decide) rfl rfl ?_
            refine z_aload_n (pc2 := 97) rfl dX7_readUnit_96 rfl ?_
            refine z_bipush (pc2 := 99) rfl dX7_readUnit_97 lt_b_m33 ?_
            obtain ⟨q13, hq13, h⟩ := ab_bnd h
            refine z_callVv 17 [.int (-33 : Int32)] [some (.ref 17), some (.int (-33 : Int32))] (pc2 := 102) rfl rfl dX7_readUnit_99 ok_X7_step ⟨fun _ => rfl, fun _ => Nat.le_of_ble_eq_true rfl⟩ (Nat.ble_eq_true_of_le (by omega)) rv_17 wd_552 wd_554 wd_6 rfl (e_X7_step_5 hq13) ?_
            refine z_iload (pc2 := 104) rfl dX7_readUnit_102 rfl ?_
            exact z_iret dX7_readUnit_104 rfl (ab_b_n _) (fz_w rfl h)
        · replace h := ab_neg hc6 h
          refine z_iconst (pc2 := 70) rfl dX7_readUnit_69 lt_i_0 ?_
          exact z_iret dX7_readUnit_70 rfl rfl (fz_w rfl h)
      · replace h := ab_neg hc5 h
        refine z_aload_n (pc2 := 46) rfl dX7_readUnit_45 rfl ?_
        refine z_dup (pc2 := 47) rfl dX7_readUnit_46 rfl ?_
        refine z_getI 17 7 5 (pc2 := 50) rfl dX7_readUnit_47 rfl rfl ff_7_5 wd_126 ?_
        refine z_iconst (pc2 := 51) rfl dX7_readUnit_50 lt_i_1 ?_
        refine z_iadd (pc2 := 52) rfl dX7_readUnit_51 ?_
        refine z_putI 17 7 5 (pc2 := 55) (ft := .int) rfl dX7_readUnit_52 rfl rfl ff_7_5 wd_126 rfl (by decide +kernel) rfl rfl ?_
        obtain ⟨s14, hs14, h⟩ := ab_lt_e h
        refine z_tops hs14 ?_
        refine z_aload_n (pc2 := 56) rfl dX7_readUnit_55 rfl ?_
        refine z_iconst (pc2 := 57) rfl dX7_readUnit_56 lt_i_m1 ?_
        refine z_iload_n (pc2 := 58) rfl dX7_readUnit_57 rfl ?_
        refine z_isub (pc2 := 59) rfl dX7_readUnit_58 ?_
        obtain ⟨q15, hq15, h⟩ := ab_bnd h
        refine z_callVv 17 [.int ((-1 : Int32) - q4)] [some (.ref 17), some (.int ((-1 : Int32) - q4))] (pc2 := 62) rfl rfl dX7_readUnit_59 ok_X7_step ⟨fun _ => rfl, fun _ => Nat.le_of_ble_eq_true rfl⟩ (Nat.ble_eq_true_of_le (by omega)) rv_17 wd_552 wd_554 wd_6 rfl (e_X7_step_5 hq15) ?_
        refine z_iconst (pc2 := 63) rfl dX7_readUnit_62 lt_i_1 ?_
        exact z_iret dX7_readUnit_63 rfl rfl (fz_w rfl h)
    · replace h := ab_neg hc3 h
      refine z_iconst (pc2 := 28) rfl dX7_readUnit_27 lt_i_m1 ?_
      refine ab_goto (tgt := 40) dX7_readUnit_28 (by decide) ?_
      refine z_istore_n (pc2 := 41) (L2 := [some (.ref 17), some (.int a1), some (.int q1), some (.int (-1 : Int32)), none]) rfl dX7_readUnit_40 (by decide) rfl rfl ?_
      refine z_iload_n (pc2 := 42) rfl dX7_readUnit_41 rfl ?_
      refine z_if_lt (pc2 := 45) (tgt := 64) rfl dX7_readUnit_42 (by decide) (fun hc => ?_) (fun hc => ?_)
      · refine z_iload_n (pc2 := 65) rfl dX7_readUnit_64 rfl ?_
        refine z_iconst (pc2 := 66) rfl dX7_readUnit_65 lt_i_5 ?_
        refine z_icmp_lt (pc2 := 69) (tgt := 71) rfl dX7_readUnit_66 (by decide) (fun hc16 => ?_) (fun hc16 => ?_)
        · replace h := ab_pos hc16 h
          refine z_iload_n (pc2 := 72) rfl dX7_readUnit_71 rfl ?_
          refine z_bipush (pc2 := 74) rfl dX7_readUnit_72 lt_b_33 ?_
          refine z_icmp_ne (pc2 := 77) (tgt := 105) rfl dX7_readUnit_74 (by decide) (fun hc17 => ?_) (fun hc17 => ?_)
          · replace h := ab_neg hc17 h
            refine z_iload_n (pc2 := 106) rfl dX7_readUnit_105 rfl ?_
            refine z_bipush (pc2 := 108) rfl dX7_readUnit_106 lt_b_40 ?_
            refine z_icmp_ne (pc2 := 111) (tgt := 125) rfl dX7_readUnit_108 (by decide) (fun hc18 => ?_) (fun hc18 => ?_)
            · replace h := ab_neg hc18 h
              refine z_iconst (pc2 := 126) rfl dX7_readUnit_125 lt_i_0 ?_
              exact z_iret dX7_readUnit_126 rfl rfl (fz_w rfl h)
            · replace h := ab_pos hc18 h
              refine z_aload_n (pc2 := 112) rfl dX7_readUnit_111 rfl ?_
              refine z_iload_n (pc2 := 113) rfl dX7_readUnit_112 rfl ?_
              refine z_iconst (pc2 := 114) rfl dX7_readUnit_113 lt_i_1 ?_
              refine z_iadd (pc2 := 115) rfl dX7_readUnit_114 ?_
              obtain ⟨q19, hq19, h⟩ := ab_bnd h
              refine z_callVi 17 [.int (a1 + (1 : Int32))] [some (.ref 17), some (.int (a1 + (1 : Int32)))] (pc2 := 118) rfl rfl dX7_readUnit_115 ok_X7_readBracket ⟨fun _ => rfl, fun _ => Nat.le_of_ble_eq_true rfl⟩ (Nat.ble_eq_true_of_le (by omega)) rv_17 wd_638 wd_640 wd_7 rfl (ih_X7_readBracket _ _ _ _ hq19) ?_
              refine z_if_eq (pc2 := 121) (tgt := 125) rfl dX7_readUnit_118 (by decide) (fun hc20 => ?_) (fun hc20 => ?_)
              · replace h := ab_pos hc20 h
                refine z_iconst (pc2 := 126) rfl dX7_readUnit_125 lt_i_0 ?_
                exact z_iret dX7_readUnit_126 rfl rfl (fz_w rfl h)
              · replace h := ab_neg hc20 h
                refine z_iconst (pc2 := 122) rfl dX7_readUnit_121 lt_i_1 ?_
                refine ab_goto (tgt := 126) dX7_readUnit_122 (by decide) ?_
                exact z_iret dX7_readUnit_126 rfl rfl (fz_w rfl h)
          · replace h := ab_pos hc17 h
            refine z_aload_n (pc2 := 78) rfl dX7_readUnit_77 rfl ?_
            refine z_dup (pc2 := 79) rfl dX7_readUnit_78 rfl ?_
            refine z_getI 17 7 5 (pc2 := 82) rfl dX7_readUnit_79 rfl rfl ff_7_5 wd_126 ?_
            refine z_iconst (pc2 := 83) rfl dX7_readUnit_82 lt_i_1 ?_
            refine z_iadd (pc2 := 84) rfl dX7_readUnit_83 ?_
            refine z_putI 17 7 5 (pc2 := 87) (ft := .int) rfl dX7_readUnit_84 rfl rfl ff_7_5 wd_126 rfl (by decide +kernel) rfl rfl ?_
            obtain ⟨s21, hs21, h⟩ := ab_lt_e h
            refine z_tops hs21 ?_
            refine z_aload_n (pc2 := 88) rfl dX7_readUnit_87 rfl ?_
            refine z_iload_n (pc2 := 89) rfl dX7_readUnit_88 rfl ?_
            refine z_iconst (pc2 := 90) rfl dX7_readUnit_89 lt_i_1 ?_
            refine z_iadd (pc2 := 91) rfl dX7_readUnit_90 ?_
            obtain ⟨q22, hq22, h⟩ := ab_bnd h
            refine z_callVi 17 [.int (a1 + (1 : Int32))] [some (.ref 17), some (.int (a1 + (1 : Int32))), none, none, none] (pc2 := 94) rfl rfl dX7_readUnit_91 ok_X7_readUnit ⟨fun _ => rfl, fun _ => Nat.le_of_ble_eq_true rfl⟩ (Nat.ble_eq_true_of_le (by omega)) rv_17 wd_540 wd_542 wd_3 rfl (ih_X7_readUnit _ _ _ _ hq22) ?_
            refine z_istore (pc2 := 96) (L2 := [some (.ref 17), some (.int a1), some (.int q1), some (.int (-1 : Int32)), some (.int (ab_b q22.1))]) rfl dX7_readUnit_94 (by decide) rfl rfl ?_
            refine z_aload_n (pc2 := 97) rfl dX7_readUnit_96 rfl ?_
            refine z_bipush (pc2 := 99) rfl dX7_readUnit_97 lt_b_m33 ?_
            obtain ⟨q23, hq23, h⟩ := ab_bnd h
            refine z_callVv 17 [.int (-33 : Int32)] [some (.ref 17), some (.int (-33 : Int32))] (pc2 := 102) rfl rfl dX7_readUnit_99 ok_X7_step ⟨fun _ => rfl, fun _ => Nat.le_of_ble_eq_true rfl⟩ (Nat.ble_eq_true_of_le (by omega)) rv_17 wd_552 wd_554 wd_6 rfl (e_X7_step_5 hq23) ?_
            refine z_iload (pc2 := 104) rfl dX7_readUnit_102 rfl ?_
            exact z_iret dX7_readUnit_104 rfl (ab_b_n _) (fz_w rfl h)
        · replace h := ab_neg hc16 h
          refine z_iconst (pc2 := 70) rfl dX7_readUnit_69 lt_i_0 ?_
          exact z_iret dX7_readUnit_70 rfl rfl (fz_w rfl h)
      · exact absurd hc (by decide)
  · replace h := ab_neg hc2 h
    refine z_iload_n (pc2 := 12) rfl dX7_readUnit_11 rfl ?_
    refine z_bipush (pc2 := 14) rfl dX7_readUnit_12 lt_b_57 ?_
    refine z_icmp_gt (pc2 := 17) (tgt := 23) rfl dX7_readUnit_14 (by decide) (fun hc24 => ?_) (fun hc24 => ?_)
    · replace h := ab_pos hc24 h
      refine z_iload_n (pc2 := 24) rfl dX7_readUnit_23 rfl ?_
      refine z_if_ge (pc2 := 27) (tgt := 31) rfl dX7_readUnit_24 (by decide) (fun hc25 => ?_) (fun hc25 => ?_)
      · replace h := ab_pos hc25 h
        refine z_aload_n (pc2 := 32) rfl dX7_readUnit_31 rfl ?_
        refine z_getR 17 7 4 5 (pc2 := 35) rfl dX7_readUnit_32 rfl rfl ff_7_4 wd_125 rfl ?_
        refine z_iload_n (pc2 := 36) rfl dX7_readUnit_35 rfl ?_
        refine z_i2c (pc2 := 37) rfl dX7_readUnit_36 ?_
        obtain ⟨q26, hq26, h⟩ := ab_bnd h
        refine z_callVi 5 [.int ((q1).toUInt32 % 65536).toInt32] [some (.ref 5), some (.int ((q1).toUInt32 % 65536).toInt32)] (pc2 := 40) rfl rfl dX7_readUnit_37 ok_J0_indexOf_0f7a4 ⟨fun _ => rfl, fun _ => Nat.le_of_ble_eq_true rfl⟩ (Nat.ble_eq_true_of_le (by omega)) rv_5 wd_556 wd_557 wd_558 rfl (e_J0_indexOf_0f7a4_5 hq26) ?_
        refine z_istore_n (pc2 := 41) (L2 := [some (.ref 17), some (.int a1), some (.int q1), some (.int q26), none]) rfl dX7_readUnit_40 (by decide) rfl rfl ?_
        refine z_iload_n (pc2 := 42) rfl dX7_readUnit_41 rfl ?_
        refine z_if_lt (pc2 := 45) (tgt := 64) rfl dX7_readUnit_42 (by decide) (fun hc27 => ?_) (fun hc27 => ?_)
        · replace h := ab_pos hc27 h
          refine z_iload_n (pc2 := 65) rfl dX7_readUnit_64 rfl ?_
          refine z_iconst (pc2 := 66) rfl dX7_readUnit_65 lt_i_5 ?_
          refine z_icmp_lt (pc2 := 69) (tgt := 71) rfl dX7_readUnit_66 (by decide) (fun hc28 => ?_) (fun hc28 => ?_)
          · replace h := ab_pos hc28 h
            refine z_iload_n (pc2 := 72) rfl dX7_readUnit_71 rfl ?_
            refine z_bipush (pc2 := 74) rfl dX7_readUnit_72 lt_b_33 ?_
            refine z_icmp_ne (pc2 := 77) (tgt := 105) rfl dX7_readUnit_74 (by decide) (fun hc29 => ?_) (fun hc29 => ?_)
            · replace h := ab_neg hc29 h
              refine z_iload_n (pc2 := 106) rfl dX7_readUnit_105 rfl ?_
              refine z_bipush (pc2 := 108) rfl dX7_readUnit_106 lt_b_40 ?_
              refine z_icmp_ne (pc2 := 111) (tgt := 125) rfl dX7_readUnit_108 (by decide) (fun hc30 => ?_) (fun hc30 => ?_)
              · replace h := ab_neg hc30 h
                refine z_iconst (pc2 := 126) rfl dX7_readUnit_125 lt_i_0 ?_
                exact z_iret dX7_readUnit_126 rfl rfl (fz_w rfl h)
              · replace h := ab_pos hc30 h
                refine z_aload_n (pc2 := 112) rfl dX7_readUnit_111 rfl ?_
                refine z_iload_n (pc2 := 113) rfl dX7_readUnit_112 rfl ?_
                refine z_iconst (pc2 := 114) rfl dX7_readUnit_113 lt_i_1 ?_
                refine z_iadd (pc2 := 115) rfl dX7_readUnit_114 ?_
                obtain ⟨q31, hq31, h⟩ := ab_bnd h
                refine z_callVi 17 [.int (a1 + (1 : Int32))] [some (.ref 17), some (.int (a1 + (1 : Int32)))] (pc2 := 118) rfl rfl dX7_readUnit_115 ok_X7_readBracket ⟨fun _ => rfl, fun _ => Nat.le_of_ble_eq_true rfl⟩ (Nat.ble_eq_true_of_le (by omega)) rv_17 wd_638 wd_640 wd_7 rfl (ih_X7_readBracket _ _ _ _ hq31) ?_
                refine z_if_eq (pc2 := 121) (tgt := 125) rfl dX7_readUnit_118 (by decide) (fun hc32 => ?_) (fun hc32 => ?_)
                · replace h := ab_pos hc32 h
                  refine z_iconst (pc2 := 126) rfl dX7_readUnit_125 lt_i_0 ?_
                  exact z_iret dX7_readUnit_126 rfl rfl (fz_w rfl h)
                · replace h := ab_neg hc32 h
                  refine z_iconst (pc2 := 122) rfl dX7_readUnit_121 lt_i_1 ?_
                  refine ab_goto (tgt := 126) dX7_readUnit_122 (by decide) ?_
                  exact z_iret dX7_readUnit_126 rfl rfl (fz_w rfl h)
            · replace h := ab_pos hc29 h
              refine z_aload_n (pc2 := 78) rfl dX7_readUnit_77 rfl ?_
              refine z_dup (pc2 := 79) rfl dX7_readUnit_78 rfl ?_
              refine z_getI 17 7 5 (pc2 := 82) rfl dX7_readUnit_79 rfl rfl ff_7_5 wd_126 ?_
              refine z_iconst (pc2 := 83) rfl dX7_readUnit_82 lt_i_1 ?_
              refine z_iadd (pc2 := 84) rfl dX7_readUnit_83 ?_
              refine z_putI 17 7 5 (pc2 := 87) (ft := .int) rfl dX7_readUnit_84 rfl rfl ff_7_5 wd_126 rfl (by decide +kernel) rfl rfl ?_
              obtain ⟨s33, hs33, h⟩ := ab_lt_e h
              refine z_tops hs33 ?_
              refine z_aload_n (pc2 := 88) rfl dX7_readUnit_87 rfl ?_
              refine z_iload_n (pc2 := 89) rfl dX7_readUnit_88 rfl ?_
              refine z_iconst (pc2 := 90) rfl dX7_readUnit_89 lt_i_1 ?_
              refine z_iadd (pc2 := 91) rfl dX7_readUnit_90 ?_
              obtain ⟨q34, hq34, h⟩ := ab_bnd h
              refine z_callVi 17 [.int (a1 + (1 : Int32))] [some (.ref 17), some (.int (a1 + (1 : Int32))), none, none, none] (pc2 := 94) rfl rfl dX7_readUnit_91 ok_X7_readUnit ⟨fun _ => rfl, fun _ => Nat.le_of_ble_eq_true rfl⟩ (Nat.ble_eq_true_of_le (by omega)) rv_17 wd_540 wd_542 wd_3 rfl (ih_X7_readUnit _ _ _ _ hq34) ?_
              refine z_istore (pc2 := 96) (L2 := [some (.ref 17), some (.int a1), some (.int q1), some (.int q26), some (.int (ab_b q34.1))]) rfl dX7_readUnit_94 (by decide) rfl rfl ?_
              refine z_aload_n (pc2 := 97) rfl dX7_readUnit_96 rfl ?_
              refine z_bipush (pc2 := 99) rfl dX7_readUnit_97 lt_b_m33 ?_
              obtain ⟨q35, hq35, h⟩ := ab_bnd h
              refine z_callVv 17 [.int (-33 : Int32)] [some (.ref 17), some (.int (-33 : Int32))] (pc2 := 102) rfl rfl dX7_readUnit_99 ok_X7_step ⟨fun _ => rfl, fun _ => Nat.le_of_ble_eq_true rfl⟩ (Nat.ble_eq_true_of_le (by omega)) rv_17 wd_552 wd_554 wd_6 rfl (e_X7_step_5 hq35) ?_
              refine z_iload (pc2 := 104) rfl dX7_readUnit_102 rfl ?_
              exact z_iret dX7_readUnit_104 rfl (ab_b_n _) (fz_w rfl h)
          · replace h := ab_neg hc28 h
            refine z_iconst (pc2 := 70) rfl dX7_readUnit_69 lt_i_0 ?_
            exact z_iret dX7_readUnit_70 rfl rfl (fz_w rfl h)
        · replace h := ab_neg hc27 h
          refine z_aload_n (pc2 := 46) rfl dX7_readUnit_45 rfl ?_
          refine z_dup (pc2 := 47) rfl dX7_readUnit_46 rfl ?_
          refine z_getI 17 7 5 (pc2 := 50) rfl dX7_readUnit_47 rfl rfl ff_7_5 wd_126 ?_
          refine z_iconst (pc2 := 51) rfl dX7_readUnit_50 lt_i_1 ?_
          refine z_iadd (pc2 := 52) rfl dX7_readUnit_51 ?_
          refine z_putI 17 7 5 (pc2 := 55) (ft := .int) rfl dX7_readUnit_52 rfl rfl ff_7_5 wd_126 rfl (by decide +kernel) rfl rfl ?_
          obtain ⟨s36, hs36, h⟩ := ab_lt_e h
          refine z_tops hs36 ?_
          refine z_aload_n (pc2 := 56) rfl dX7_readUnit_55 rfl ?_
          refine z_iconst (pc2 := 57) rfl dX7_readUnit_56 lt_i_m1 ?_
          refine z_iload_n (pc2 := 58) rfl dX7_readUnit_57 rfl ?_
          refine z_isub (pc2 := 59) rfl dX7_readUnit_58 ?_
          obtain ⟨q37, hq37, h⟩ := ab_bnd h
          refine z_callVv 17 [.int ((-1 : Int32) - q26)] [some (.ref 17), some (.int ((-1 : Int32) - q26))] (pc2 := 62) rfl rfl dX7_readUnit_59 ok_X7_step ⟨fun _ => rfl, fun _ => Nat.le_of_ble_eq_true rfl⟩ (Nat.ble_eq_true_of_le (by omega)) rv_17 wd_552 wd_554 wd_6 rfl (e_X7_step_5 hq37) ?_
          refine z_iconst (pc2 := 63) rfl dX7_readUnit_62 lt_i_1 ?_
          exact z_iret dX7_readUnit_63 rfl rfl (fz_w rfl h)
      · replace h := ab_neg hc25 h
        refine z_iconst (pc2 := 28) rfl dX7_readUnit_27 lt_i_m1 ?_
        refine ab_goto (tgt := 40) dX7_readUnit_28 (by decide) ?_
        refine z_istore_n (pc2 := 41) (L2 := [some (.ref 17), some (.int a1), some (.int q1), some (.int (-1 : Int32)), none]) rfl dX7_readUnit_40 (by decide) rfl rfl ?_
        refine z_iload_n (pc2 := 42) rfl dX7_readUnit_41 rfl ?_
        refine z_if_lt (pc2 := 45) (tgt := 64) rfl dX7_readUnit_42 (by decide) (fun hc => ?_) (fun hc => ?_)
        · refine z_iload_n (pc2 := 65) rfl dX7_readUnit_64 rfl ?_
          refine z_iconst (pc2 := 66) rfl dX7_readUnit_65 lt_i_5 ?_
          refine z_icmp_lt (pc2 := 69) (tgt := 71) rfl dX7_readUnit_66 (by decide) (fun hc38 => ?_) (fun hc38 => ?_)
          · replace h := ab_pos hc38 h
            refine z_iload_n (pc2 := 72) rfl dX7_readUnit_71 rfl ?_
            refine z_bipush (pc2 := 74) rfl dX7_readUnit_72 lt_b_33 ?_
            refine z_icmp_ne (pc2 := 77) (tgt := 105) rfl dX7_readUnit_74 (by decide) (fun hc39 => ?_) (fun hc39 => ?_)
            · replace h := ab_neg hc39 h
              refine z_iload_n (pc2 := 106) rfl dX7_readUnit_105 rfl ?_
              refine z_bipush (pc2 := 108) rfl dX7_readUnit_106 lt_b_40 ?_
              refine z_icmp_ne (pc2 := 111) (tgt := 125) rfl dX7_readUnit_108 (by decide) (fun hc40 => ?_) (fun hc40 => ?_)
              · replace h := ab_neg hc40 h
                refine z_iconst (pc2 := 126) rfl dX7_readUnit_125 lt_i_0 ?_
                exact z_iret dX7_readUnit_126 rfl rfl (fz_w rfl h)
              · replace h := ab_pos hc40 h
                refine z_aload_n (pc2 := 112) rfl dX7_readUnit_111 rfl ?_
                refine z_iload_n (pc2 := 113) rfl dX7_readUnit_112 rfl ?_
                refine z_iconst (pc2 := 114) rfl dX7_readUnit_113 lt_i_1 ?_
                refine z_iadd (pc2 := 115) rfl dX7_readUnit_114 ?_
                obtain ⟨q41, hq41, h⟩ := ab_bnd h
                refine z_callVi 17 [.int (a1 + (1 : Int32))] [some (.ref 17), some (.int (a1 + (1 : Int32)))] (pc2 := 118) rfl rfl dX7_readUnit_115 ok_X7_readBracket ⟨fun _ => rfl, fun _ => Nat.le_of_ble_eq_true rfl⟩ (Nat.ble_eq_true_of_le (by omega)) rv_17 wd_638 wd_640 wd_7 rfl (ih_X7_readBracket _ _ _ _ hq41) ?_
                refine z_if_eq (pc2 := 121) (tgt := 125) rfl dX7_readUnit_118 (by decide) (fun hc42 => ?_) (fun hc42 => ?_)
                · replace h := ab_pos hc42 h
                  refine z_iconst (pc2 := 126) rfl dX7_readUnit_125 lt_i_0 ?_
                  exact z_iret dX7_readUnit_126 rfl rfl (fz_w rfl h)
                · replace h := ab_neg hc42 h
                  refine z_iconst (pc2 := 122) rfl dX7_readUnit_121 lt_i_1 ?_
                  refine ab_goto (tgt := 126) dX7_readUnit_122 (by decide) ?_
                  exact z_iret dX7_readUnit_126 rfl rfl (fz_w rfl h)
            · replace h := ab_pos hc39 h
              refine z_aload_n (pc2 := 78) rfl dX7_readUnit_77 rfl ?_
              refine z_dup (pc2 := 79) rfl dX7_readUnit_78 rfl ?_
              refine z_getI 17 7 5 (pc2 := 82) rfl dX7_readUnit_79 rfl rfl ff_7_5 wd_126 ?_
              refine z_iconst (pc2 := 83) rfl dX7_readUnit_82 lt_i_1 ?_
              refine z_iadd (pc2 := 84) rfl dX7_readUnit_83 ?_
              refine z_putI 17 7 5 (pc2 := 87) (ft := .int) rfl dX7_readUnit_84 rfl rfl ff_7_5 wd_126 rfl (by decide +kernel) rfl rfl ?_
              obtain ⟨s43, hs43, h⟩ := ab_lt_e h
              refine z_tops hs43 ?_
              refine z_aload_n (pc2 := 88) rfl dX7_readUnit_87 rfl ?_
              refine z_iload_n (pc2 := 89) rfl dX7_readUnit_88 rfl ?_
              refine z_iconst (pc2 := 90) rfl dX7_readUnit_89 lt_i_1 ?_
              refine z_iadd (pc2 := 91) rfl dX7_readUnit_90 ?_
              obtain ⟨q44, hq44, h⟩ := ab_bnd h
              refine z_callVi 17 [.int (a1 + (1 : Int32))] [some (.ref 17), some (.int (a1 + (1 : Int32))), none, none, none] (pc2 := 94) rfl rfl dX7_readUnit_91 ok_X7_readUnit ⟨fun _ => rfl, fun _ => Nat.le_of_ble_eq_true rfl⟩ (Nat.ble_eq_true_of_le (by omega)) rv_17 wd_540 wd_542 wd_3 rfl (ih_X7_readUnit _ _ _ _ hq44) ?_
              refine z_istore (pc2 := 96) (L2 := [some (.ref 17), some (.int a1), some (.int q1), some (.int (-1 : Int32)), some (.int (ab_b q44.1))]) rfl dX7_readUnit_94 (by decide) rfl rfl ?_
              refine z_aload_n (pc2 := 97) rfl dX7_readUnit_96 rfl ?_
              refine z_bipush (pc2 := 99) rfl dX7_readUnit_97 lt_b_m33 ?_
              obtain ⟨q45, hq45, h⟩ := ab_bnd h
              refine z_callVv 17 [.int (-33 : Int32)] [some (.ref 17), some (.int (-33 : Int32))] (pc2 := 102) rfl rfl dX7_readUnit_99 ok_X7_step ⟨fun _ => rfl, fun _ => Nat.le_of_ble_eq_true rfl⟩ (Nat.ble_eq_true_of_le (by omega)) rv_17 wd_552 wd_554 wd_6 rfl (e_X7_step_5 hq45) ?_
              refine z_iload (pc2 := 104) rfl dX7_readUnit_102 rfl ?_
              exact z_iret dX7_readUnit_104 rfl (ab_b_n _) (fz_w rfl h)
          · replace h := ab_neg hc38 h
            refine z_iconst (pc2 := 70) rfl dX7_readUnit_69 lt_i_0 ?_
            exact z_iret dX7_readUnit_70 rfl rfl (fz_w rfl h)
        · exact absurd hc (by decide)
    · replace h := ab_neg hc24 h
      refine z_aload_n (pc2 := 18) rfl dX7_readUnit_17 rfl ?_
      obtain ⟨q46, hq46, h⟩ := ab_bnd h
      refine z_callVv 17 [] [some (.ref 17), none, none] (pc2 := 21) rfl rfl dX7_readUnit_18 ok_X7_readNumber ⟨fun _ => rfl, fun _ => Nat.le_of_ble_eq_true rfl⟩ (Nat.ble_eq_true_of_le (by omega)) rv_17 wd_548 wd_550 wd_5 rfl (e_X7_readNumber_5 hq46) ?_
      refine z_iconst (pc2 := 22) rfl dX7_readUnit_21 lt_i_1 ?_
      exact z_iret dX7_readUnit_22 rfl rfl (fz_w rfl h)
def g_X7_readBracket (nm : Nat) (rc : Nat → Int32 → Int32 → ab_F → Option (Bool × ab_F)) (a1 : Int32) (σ : ab_F) : Option (Bool × ab_F) := ab_lt (ab_u σ 17 5 ((σ 17 5) + (1 : Int32))) (fun (s1 : ab_F) => (rc 0 (0 : Int32) a1 s1).bind (fun q2 => (if (ab_b q2.1) = 0 then (some (false, q2.2)) else (f_X7_next nm q2.2).bind (fun q4 => (if q4 = (41 : Int32) then ab_lt (ab_u q2.2 17 5 ((q2.2 17 5) + (1 : Int32))) (fun (s6 : ab_F) => (some (true, s6))) else (some (false, q2.2)))))))
set_option maxRecDepth 100000 in
set_option maxHeartbeats 4000000 in
theorem eg_X7_readBracket_5 {sc : Nat × (Nat → Int32)} {n0 : Nat} {rc : Nat → Int32 → Int32 → ab_F → Option (Bool × ab_F)} (ih_X7_readLevel : ∀ (a1 : Int32) (a2 : Int32) (σ : ab_F) (res : (Bool × ab_F)), rc 0 a1 a2 σ = some res → ab_E mX7_readLevel (n0 + 8) sc 0 [some (.ref 17), some (.int a1), some (.int a2), none, none, none] [] (σ, (some 9, some 5)) (fun v S => v = some (.int (ab_b res.1)) ∧ S = (res.2, (some 9, some 5)))) (ih_X7_readUnit : ∀ (a1 : Int32) (z0 : Int32) (σ : ab_F) (res : (Bool × ab_F)), rc 1 a1 z0 σ = some res → ab_E mX7_readUnit (n0 + 8) sc 0 [some (.ref 17), some (.int a1), none, none, none] [] (σ, (some 9, some 5)) (fun v S => v = some (.int (ab_b res.1)) ∧ S = (res.2, (some 9, some 5)))) (ih_X7_readBracket : ∀ (a1 : Int32) (z0 : Int32) (σ : ab_F) (res : (Bool × ab_F)), rc 2 a1 z0 σ = some res → ab_E mX7_readBracket (n0 + 8) sc 0 [some (.ref 17), some (.int a1)] [] (σ, (some 9, some 5)) (fun v S => v = some (.int (ab_b res.1)) ∧ S = (res.2, (some 9, some 5)))) {a1 : Int32} {σ : ab_F} {res : (Bool × ab_F)} (h : g_X7_readBracket 5 rc a1 σ = some res) : ab_E mX7_readBracket (n0 + 9) sc 0 [some (.ref 17), some (.int a1)] [] (σ, (some 9, some 5)) (fun v S => v = some (.int (ab_b res.1)) ∧ S = (res.2, (some 9, some 5))) := by
  unfold g_X7_readBracket at h
  refine z_aload_n (pc2 := 1) rfl dX7_readBracket_0 rfl ?_
  refine z_dup (pc2 := 2) rfl dX7_readBracket_1 rfl ?_
  refine z_getI 17 7 5 (pc2 := 5) rfl dX7_readBracket_2 rfl rfl ff_7_5 wd_126 ?_
  refine z_iconst (pc2 := 6) rfl dX7_readBracket_5 lt_i_1 ?_
  refine z_iadd (pc2 := 7) rfl dX7_readBracket_6 ?_
  refine z_putI 17 7 5 (pc2 := 10) (ft := .int) rfl dX7_readBracket_7 rfl rfl ff_7_5 wd_126 rfl (by decide +kernel) rfl rfl ?_
  obtain ⟨s1, hs1, h⟩ := ab_lt_e h
  refine z_tops hs1 ?_
  refine z_aload_n (pc2 := 11) rfl dX7_readBracket_10 rfl ?_
  refine z_iconst (pc2 := 12) rfl dX7_readBracket_11 lt_i_0 ?_
  refine z_iload_n (pc2 := 13) rfl dX7_readBracket_12 rfl ?_
  obtain ⟨q2, hq2, h⟩ := ab_bnd h
  refine z_callVi 17 [.int (0 : Int32), .int a1] [some (.ref 17), some (.int (0 : Int32)), some (.int a1), none, none, none] (pc2 := 16) rfl rfl dX7_readBracket_13 ok_X7_readLevel ⟨fun _ => rfl, fun _ => Nat.le_of_ble_eq_true rfl⟩ (Nat.ble_eq_true_of_le (by omega)) rv_17 wd_536 wd_538 wd_2 rfl (ih_X7_readLevel _ _ _ _ hq2) ?_
  refine z_if_eq (pc2 := 19) (tgt := 28) rfl dX7_readBracket_16 (by decide) (fun hc3 => ?_) (fun hc3 => ?_)
  · replace h := ab_pos hc3 h
    refine z_iconst (pc2 := 29) rfl dX7_readBracket_28 lt_i_0 ?_
    exact z_iret dX7_readBracket_29 rfl rfl (fz_w rfl h)
  · replace h := ab_neg hc3 h
    refine z_aload_n (pc2 := 20) rfl dX7_readBracket_19 rfl ?_
    obtain ⟨q4, hq4, h⟩ := ab_bnd h
    refine z_callVi 17 [] [some (.ref 17)] (pc2 := 23) rfl rfl dX7_readBracket_20 ok_X7_next ⟨fun _ => rfl, fun _ => Nat.le_of_ble_eq_true rfl⟩ (Nat.ble_eq_true_of_le (by omega)) rv_17 wd_544 wd_546 wd_4 rfl (e_X7_next_5 hq4) ?_
    refine z_bipush (pc2 := 25) rfl dX7_readBracket_23 lt_b_41 ?_
    refine z_icmp_eq (pc2 := 28) (tgt := 30) rfl dX7_readBracket_25 (by decide) (fun hc5 => ?_) (fun hc5 => ?_)
    · replace h := ab_pos hc5 h
      refine z_aload_n (pc2 := 31) rfl dX7_readBracket_30 rfl ?_
      refine z_dup (pc2 := 32) rfl dX7_readBracket_31 rfl ?_
      refine z_getI 17 7 5 (pc2 := 35) rfl dX7_readBracket_32 rfl rfl ff_7_5 wd_126 ?_
      refine z_iconst (pc2 := 36) rfl dX7_readBracket_35 lt_i_1 ?_
      refine z_iadd (pc2 := 37) rfl dX7_readBracket_36 ?_
      refine z_putI 17 7 5 (pc2 := 40) (ft := .int) rfl dX7_readBracket_37 rfl rfl ff_7_5 wd_126 rfl (by decide +kernel) rfl rfl ?_
      obtain ⟨s6, hs6, h⟩ := ab_lt_e h
      refine z_tops hs6 ?_
      refine z_iconst (pc2 := 41) rfl dX7_readBracket_40 lt_i_1 ?_
      exact z_iret dX7_readBracket_41 rfl rfl (fz_w rfl h)
    · replace h := ab_neg hc5 h
      refine z_iconst (pc2 := 29) rfl dX7_readBracket_28 lt_i_0 ?_
      exact z_iret dX7_readBracket_29 rfl rfl (fz_w rfl h)
def f_GA (nm : Nat) : Nat → Nat → Int32 → Int32 → ab_F → Option (Bool × ab_F)
  | 0, _, _, _, _ => none
  | n + 1, 0, a1, a2, σ => g_X7_readLevel nm (f_GA nm n) a1 a2 σ
  | n + 1, 1, a1, _, σ => g_X7_readUnit nm (f_GA nm n) a1 σ
  | n + 1, _, a1, _, σ => g_X7_readBracket nm (f_GA nm n) a1 σ
set_option maxRecDepth 100000 in
set_option maxHeartbeats 4000000 in
theorem e_GA_5 {sc : Nat × (Nat → Int32)} : ∀ n : Nat, (∀ (a1 : Int32) (a2 : Int32) (σ : ab_F) (res : (Bool × ab_F)), f_GA 5 n 0 a1 a2 σ = some res → ab_E mX7_readLevel (n + 8) sc 0 [some (.ref 17), some (.int a1), some (.int a2), none, none, none] [] (σ, (some 9, some 5)) (fun v S => v = some (.int (ab_b res.1)) ∧ S = (res.2, (some 9, some 5)))) ∧ (∀ (a1 : Int32) (z0 : Int32) (σ : ab_F) (res : (Bool × ab_F)), f_GA 5 n 1 a1 z0 σ = some res → ab_E mX7_readUnit (n + 8) sc 0 [some (.ref 17), some (.int a1), none, none, none] [] (σ, (some 9, some 5)) (fun v S => v = some (.int (ab_b res.1)) ∧ S = (res.2, (some 9, some 5)))) ∧ (∀ (a1 : Int32) (z0 : Int32) (σ : ab_F) (res : (Bool × ab_F)), f_GA 5 n 2 a1 z0 σ = some res → ab_E mX7_readBracket (n + 8) sc 0 [some (.ref 17), some (.int a1)] [] (σ, (some 9, some 5)) (fun v S => v = some (.int (ab_b res.1)) ∧ S = (res.2, (some 9, some 5)))) := by
  intro n
  induction n with
  | zero => refine ⟨?_, ?_, ?_⟩ <;> intros <;> rename_i h <;> simp only [f_GA] at h <;> cases h
  | succ n ih =>
    obtain ⟨i0, i1, i2⟩ := ih
    refine ⟨?_, ?_, ?_⟩
    · intro a1 a2 σ res h
      exact eg_X7_readLevel_5 (n0 := n) i0 i1 i2 (by simpa only [f_GA] using h)
    · intro a1 z0 σ res h
      exact eg_X7_readUnit_5 (n0 := n) i0 i1 i2 (by simpa only [f_GA] using h)
    · intro a1 z0 σ res h
      exact eg_X7_readBracket_5 (n0 := n) i0 i1 i2 (by simpa only [f_GA] using h)
theorem e_GA_5_X7_readLevel {sc : Nat × (Nat → Int32)} : ∀ (a1 : Int32) (a2 : Int32) (σ : ab_F) (res : (Bool × ab_F)), f_GA 5 100 0 a1 a2 σ = some res → ab_E mX7_readLevel 108 sc 0 [some (.ref 17), some (.int a1), some (.int a2), none, none, none] [] (σ, (some 9, some 5)) (fun v S => v = some (.int (ab_b res.1)) ∧ S = (res.2, (some 9, some 5))) := (e_GA_5 100).1
theorem e_GA_5_X7_readUnit {sc : Nat × (Nat → Int32)} : ∀ (a1 : Int32) (z0 : Int32) (σ : ab_F) (res : (Bool × ab_F)), f_GA 5 100 1 a1 z0 σ = some res → ab_E mX7_readUnit 108 sc 0 [some (.ref 17), some (.int a1), none, none, none] [] (σ, (some 9, some 5)) (fun v S => v = some (.int (ab_b res.1)) ∧ S = (res.2, (some 9, some 5))) := (e_GA_5 100).2.1
theorem e_GA_5_X7_readBracket {sc : Nat × (Nat → Int32)} : ∀ (a1 : Int32) (z0 : Int32) (σ : ab_F) (res : (Bool × ab_F)), f_GA 5 100 2 a1 z0 σ = some res → ab_E mX7_readBracket 108 sc 0 [some (.ref 17), some (.int a1)] [] (σ, (some 9, some 5)) (fun v S => v = some (.int (ab_b res.1)) ∧ S = (res.2, (some 9, some 5))) := (e_GA_5 100).2.2
def f_X7_read_9 (nm : Nat) (σ : ab_F) : Option (Int32 × ab_F) := ab_lt (ab_u σ 17 5 (0 : Int32)) (fun (s1 : ab_F) => ab_lt (ab_u s1 17 0 (0 : Int32)) (fun (s2 : ab_F) => (f_GA nm 100 0 (0 : Int32) (0 : Int32) s2).bind (fun q3 => (if (ab_b q3.1) = 0 then (some ((q3.2 17 5), q3.2)) else (if (q3.2 17 5) = (q3.2 9 1) then (some ((-1 : Int32), q3.2)) else (some ((q3.2 17 5), q3.2)))))))
set_option maxRecDepth 100000 in
set_option maxHeartbeats 4000000 in
theorem e_X7_read_9_5 {sc : Nat × (Nat → Int32)} {r : Option Nat × Option Nat} {σ : ab_F} {res : (Int32 × ab_F)} (h : f_X7_read_9 5 σ = some res) : ab_E mX7_read 109 sc 0 [some (.ref 17), some (.ref 9), some (.ref 5)] [] (σ, r) (fun v S => v = some (.int res.1) ∧ S = (res.2, (some 9, some 5))) := by
  unfold f_X7_read_9 at h
  refine z_aload_n (pc2 := 1) rfl dX7_read_0 rfl ?_
  refine z_aload_n (pc2 := 2) rfl dX7_read_1 rfl ?_
  refine z_putT 9 (pc2 := 5) (ft := .object "StiltParish$Row") rfl dX7_read_2 ff_7_3 wd_124 rfl (by decide +kernel) (fun _ => rfl) (fun _ => rfl) ?_
  refine z_aload_n (pc2 := 6) rfl dX7_read_5 rfl ?_
  refine z_aload_n (pc2 := 7) rfl dX7_read_6 rfl ?_
  refine z_putN 5 (pc2 := 10) (ft := .object "java/lang/String") rfl dX7_read_7 ff_7_4 wd_125 rfl (by decide +kernel) (fun _ => rfl) (fun _ => rfl) ?_
  refine z_aload_n (pc2 := 11) rfl dX7_read_10 rfl ?_
  refine z_iconst (pc2 := 12) rfl dX7_read_11 lt_i_0 ?_
  refine z_putI 17 7 5 (pc2 := 15) (ft := .int) rfl dX7_read_12 rfl rfl ff_7_5 wd_126 rfl (by decide +kernel) rfl rfl ?_
  obtain ⟨s1, hs1, h⟩ := ab_lt_e h
  refine z_tops hs1 ?_
  refine z_aload_n (pc2 := 16) rfl dX7_read_15 rfl ?_
  refine z_iconst (pc2 := 17) rfl dX7_read_16 lt_i_0 ?_
  refine z_putI 17 7 0 (pc2 := 20) (ft := .int) rfl dX7_read_17 rfl rfl ff_7_0 wd_119 rfl (by decide +kernel) rfl rfl ?_
  obtain ⟨s2, hs2, h⟩ := ab_lt_e h
  refine z_tops hs2 ?_
  refine z_aload_n (pc2 := 21) rfl dX7_read_20 rfl ?_
  refine z_iconst (pc2 := 22) rfl dX7_read_21 lt_i_0 ?_
  refine z_iconst (pc2 := 23) rfl dX7_read_22 lt_i_0 ?_
  obtain ⟨q3, hq3, h⟩ := ab_bnd h
  refine z_callVi 17 [.int (0 : Int32), .int (0 : Int32)] [some (.ref 17), some (.int (0 : Int32)), some (.int (0 : Int32)), none, none, none] (pc2 := 26) rfl rfl dX7_read_23 ok_X7_readLevel ⟨fun _ => rfl, fun _ => Nat.le_of_ble_eq_true rfl⟩ rfl rv_17 wd_536 wd_538 wd_2 rfl (e_GA_5_X7_readLevel _ _ _ _ hq3) ?_
  refine z_if_eq (pc2 := 29) (tgt := 47) rfl dX7_read_26 (by decide) (fun hc4 => ?_) (fun hc4 => ?_)
  · replace h := ab_pos hc4 h
    refine z_aload_n (pc2 := 48) rfl dX7_read_47 rfl ?_
    refine z_getI 17 7 5 (pc2 := 51) rfl dX7_read_48 rfl rfl ff_7_5 wd_126 ?_
    exact z_iret dX7_read_51 rfl rfl (fi_w h)
  · replace h := ab_neg hc4 h
    refine z_aload_n (pc2 := 30) rfl dX7_read_29 rfl ?_
    refine z_getI 17 7 5 (pc2 := 33) rfl dX7_read_30 rfl rfl ff_7_5 wd_126 ?_
    refine z_aload_n (pc2 := 34) rfl dX7_read_33 rfl ?_
    refine z_getR 17 7 3 9 (pc2 := 37) rfl dX7_read_34 rfl rfl ff_7_3 wd_124 rfl ?_
    refine z_getI 9 6 1 (pc2 := 40) rfl dX7_read_37 rfl rfl ff_6_1 wd_101 ?_
    refine z_icmp_ne (pc2 := 43) (tgt := 47) rfl dX7_read_40 (by decide) (fun hc5 => ?_) (fun hc5 => ?_)
    · replace h := ab_neg hc5 h
      refine z_aload_n (pc2 := 48) rfl dX7_read_47 rfl ?_
      refine z_getI 17 7 5 (pc2 := 51) rfl dX7_read_48 rfl rfl ff_7_5 wd_126 ?_
      exact z_iret dX7_read_51 rfl rfl (fi_w h)
    · replace h := ab_pos hc5 h
      refine z_iconst (pc2 := 44) rfl dX7_read_43 lt_i_m1 ?_
      refine ab_goto (tgt := 51) dX7_read_44 (by decide) ?_
      exact z_iret dX7_read_51 rfl rfl (fi_w h)
