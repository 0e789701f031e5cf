set_option maxRecDepth 100000 in
set_option maxHeartbeats 4000000 in
theorem eg_X7_readBracket_4 {sc : Nat × (Nat → Int32)} {n0 : Nat} {rc : Nat → Int32 → Int32 → ab_F → Option (Bool × ab_F)} (ih_X7_readLevel : ∀ (a1 : Int32) (a2 : Int32) (σ : ab_F) (res : (Bool × ab_F)), rc 0 a1 a2 σ = some res → ab_E mX7_readLevel (n0 + 8) sc 0 [some (.ref 17), some (.int a1), some (.int a2), none, none, none] [] (σ, (some 9, some 4)) (fun v S => v = some (.int (ab_b res.1)) ∧ S = (res.2, (some 9, some 4)))) (ih_X7_readUnit : ∀ (a1 : Int32) (z0 : Int32) (σ : ab_F) (res : (Bool × ab_F)), rc 1 a1 z0 σ = some res → ab_E mX7_readUnit (n0 + 8) sc 0 [some (.ref 17), some (.int a1), none, none, none] [] (σ, (some 9, some 4)) (fun v S => v = some (.int (ab_b res.1)) ∧ S = (res.2, (some 9, some 4)))) (ih_X7_readBracket : ∀ (a1 : Int32) (z0 : Int32) (σ : ab_F) (res : (Bool × ab_F)), rc 2 a1 z0 σ = some res → ab_E mX7_readBracket (n0 + 8) sc 0 [some (.ref 17), some (.int a1)] [] (σ, (some 9, some 4)) (fun v S => v = some (.int (ab_b res.1)) ∧ S = (res.2, (some 9, some 4)))) {a1 : Int32} {σ : ab_F} {res : (Bool × ab_F)} (h : g_X7_readBracket 4 rc a1 σ = some res) : ab_E mX7_readBracket (n0 + 9) sc 0 [some (.ref 17), some (.int a1)] [] (σ, (some 9, some 4)) (fun v S => v = some (.int (ab_b res.1)) ∧ S = (res.2, (some 9, some 4))) := by
  unfold g_X7_readBracket at h
  refine z_aload_n (pc2 := 1) rfl dX7_readBracket_0 rfl ?_
  refine z_dup (pc2 := 2) rfl dX7_readBracket_1 rfl ?_
  refine z_getI 17 7 5 (pc2 := 5) rfl dX7_readBracket_2 rfl rfl ff_7_5 wd_126 ?_
  refine z_iconst (pc2 := 6) rfl dX7_readBracket_5 lt_i_1 ?_
  refine z_iadd (pc2 := 7) rfl dX7_readBracket_6 ?_
  refine z_putI 17 7 5 (pc2 := 10) (ft := .int) rfl dX7_readBracket_7 rfl rfl ff_7_5 wd_126 rfl (by decide +kernel) rfl rfl ?_
  obtain ⟨s1, hs1, h⟩ := ab_lt_e h
  refine z_tops hs1 ?_
  refine z_aload_n (pc2 := 11) rfl dX7_readBracket_10 rfl ?_
  refine z_iconst (pc2 := 12) rfl dX7_readBracket_11 lt_i_0 ?_
  refine z_iload_n (pc2 := 13) rfl dX7_readBracket_12 rfl ?_
  obtain ⟨q2, hq2, h⟩ := ab_bnd h
  refine z_callVi 17 [.int (0 : Int32), .int a1] [some (.ref 17), some (.int (0 : Int32)), some (.int a1), none, none, none] (pc2 := 16) rfl rfl dX7_readBracket_13 ok_X7_readLevel ⟨fun _ => rfl, fun _ => Nat.le_of_ble_eq_true rfl⟩ (Nat.ble_eq_true_of_le (by omega)) rv_17 wd_536 wd_538 wd_2 rfl (ih_X7_readLevel _ _ _ _ hq2) ?_
  refine z_if_eq (pc2 := 19) (tgt := 28) rfl dX7_readBracket_16 (by decide) (fun hc3 => ?_) (fun hc3 => ?_)
  · replace h := ab_pos hc3 h
    refine z_iconst (pc2 := 29) rfl dX7_readBracket_28 lt_i_0 ?_
    exact z_iret dX7_readBracket_29 rfl rfl (fz_w rfl h)
  · replace h := ab_neg hc3 h
    refine z_aload_n (pc2 := 20) rfl dX7_readBracket_19 rfl ?_
    obtain ⟨q4, hq4, h⟩ := ab_bnd h
    refine z_callVi 17 [] [some (.ref 17)] (pc2 := 23) rfl rfl dX7_readBracket_20 ok_X7_next ⟨fun _ => rfl, fun _ => Nat.le_of_ble_eq_true rfl⟩ (Nat.ble_eq_true_of_le (by omega)) rv_17 wd_544 wd_546 wd_4 rfl (e_X7_next_4 hq4) ?_
    refine z_bipush (pc2 := 25) rfl dX7_readBracket_23 lt_b_41 ?_
    refine z_icmp_eq (pc2 := 28) (tgt := 30) rfl dX7_readBracket_25 (by decide) (fun hc5 => ?_) (fun hc5 => ?_)
    · replace h := ab_pos hc5 h
      refine z_aload_n (pc2 := 31) rfl dX7_readBracket_30 rfl ?_
      refine z_dup (pc2 := 32) rfl dX7_readBracket_31 rfl ?_
      refine z_getI 17 7 5 (pc2 := 35) rfl dX7_readBracket_32 rfl rfl ff_7_5 wd_126 ?_
      refine z_iconst (pc2 := 36) rfl dX7_readBracket_35 lt_i_1 ?_
      refine z_iadd (pc2 := 37) rfl dX7_readBracket_36 ?_
      refine z_putI 17 7 5 (pc2 := 40) (ft := .int) rfl dX7_readBracket_37 rfl rfl ff_7_5 wd_126 rfl (by decide +kernel) rfl rfl ?_
      obtain ⟨s6, hs6, h⟩ := ab_lt_e h
      refine z_tops hs6 ?_
      refine z_iconst (pc2 := 41) rfl dX7_readBracket_40 lt_i_1 ?_
      exact z_iret dX7_readBracket_41 rfl rfl (fz_w rfl h)
    · replace h := ab_neg hc5 h
      refine z_iconst (pc2 := 29) rfl dX7_readBracket_28 lt_i_0 ?_
      exact z_iret dX7_readBracket_29 rfl rfl (fz_w rfl h)
set_option maxRecDepth 100000 in
set_option maxHeartbeats 4000000 in
theorem e_GA_4 {sc : Nat × (Nat → Int32)} : ∀ n : Nat, (∀ (a1 : Int32) (a2 : Int32) (σ : ab_F) (res : (Bool × ab_F)), f_GA 4 n 0 a1 a2 σ = some res → ab_E mX7_readLevel (n + 8) sc 0 [some (.ref 17), some (.int a1), some (.int a2), none, none, none] [] (σ, (some 9, some 4)) (fun v S => v = some (.int (ab_b res.1)) ∧ S = (res.2, (some 9, some 4)))) ∧ (∀ (a1 : Int32) (z0 : Int32) (σ : ab_F) (res : (Bool × ab_F)), f_GA 4 n 1 a1 z0 σ = some res → ab_E mX7_readUnit (n + 8) sc 0 [some (.ref 17), some (.int a1), none, none, none] [] (σ, (some 9, some 4)) (fun v S => v = some (.int (ab_b res.1)) ∧ S = (res.2, (some 9, some 4)))) ∧ (∀ (a1 : Int32) (z0 : Int32) (σ : ab_F) (res : (Bool × ab_F)), f_GA 4 n 2 a1 z0 σ = some res → ab_E mX7_readBracket (n + 8) sc 0 [some (.ref 17), some (.int a1)] [] (σ, (some 9, some 4)) (fun v S => v = some (.int (ab_b res.1)) ∧ S = (res.2, (some 9, some 4)))) := by
  intro n
  induction n with
  | zero => refine ⟨?_, ?_, ?_⟩ <;> intros <;> rename_i h <;> simp only [f_GA] at h <;> cases h
  | succ n ih =>
    obtain ⟨i0, i1, i2⟩ := ih
    refine ⟨?_, ?_, ?_⟩
    · intro a1 a2 σ res h
      exact eg_X7_readLevel_4 (n0 := n) i0 i1 i2 (by simpa only [f_GA] using h)
    · intro a1 z0 σ res h
      exact eg_X7_readUnit_4 (n0 := n) i0 i1 i2 (by simpa only [f_GA] using h)
    · intro a1 z0 σ res h
      exact eg_X7_readBracket_4 (n0 := n) i0 i1 i2 (by simpa only [f_GA] using h)
theorem e_GA_4_X7_readLevel {sc : Nat × (Nat → Int32)} : ∀ (a1 : Int32) (a2 : Int32) (σ : ab_F) (res : (Bool × ab_F)), f_GA 4 100 0 a1 a2 σ = some res → ab_E mX7_readLevel 108 sc 0 [some (.ref 17), some (.int a1), some (.int a2), none, none, none] [] (σ, (some 9, some 4)) (fun v S => v = some (.int (ab_b res.1)) ∧ S = (res.2, (some 9, some 4))) := (e_GA_4 100).1
theorem e_GA_4_X7_readUnit {sc : Nat × (Nat → Int32)} : ∀ (a1 : Int32) (z0 : Int32) (σ : ab_F) (res : (Bool × ab_F)), f_GA 4 100 1 a1 z0 σ = some res → ab_E mX7_readUnit 108 sc 0 [some (.ref 17), some (.int a1), none, none, none] [] (σ, (some 9, some 4)) (fun v S => v = some (.int (ab_b res.1)) ∧ S = (res.2, (some 9, some 4))) := (e_GA_4 100).2.1
theorem e_GA_4_X7_readBracket {sc : Nat × (Nat → Int32)} : ∀ (a1 : Int32) (z0 : Int32) (σ : ab_F) (res : (Bool × ab_F)), f_GA 4 100 2 a1 z0 σ = some res → ab_E mX7_readBracket 108 sc 0 [some (.ref 17), some (.int a1)] [] (σ, (some 9, some 4)) (fun v S => v = some (.int (ab_b res.1)) ∧ S = (res.2, (some 9, some 4))) := (e_GA_4 100).2.2
set_option maxRecDepth 100000 in
set_option maxHeartbeats 4000000 in
theorem e_X7_read_9_4 {sc : Nat × (Nat → Int32)} {r : Option Nat × Option Nat} {σ : ab_F} {res : (Int32 × ab_F)} (h : f_X7_read_9 4 σ = some res) : ab_E mX7_read 109 sc 0 [some (.ref 17), some (.ref 9), some (.ref 4)] [] (σ, r) (fun v S => v = some (.int res.1) ∧ S = (res.2, (some 9, some 4))) := by
  unfold f_X7_read_9 at h
  refine z_aload_n (pc2 := 1) rfl dX7_read_0 rfl ?_
  refine z_aload_n (pc2 := 2) rfl dX7_read_1 rfl ?_
  refine z_putT 9 (pc2 := 5) (ft := .object "StiltParish$Row") rfl dX7_read_2 ff_7_3 wd_124 rfl (by decide +kernel) (fun _ => rfl) (fun _ => rfl) ?_
  refine z_aload_n (pc2 := 6) rfl dX7_read_5 rfl ?_
  refine z_aload_n (pc2 := 7) rfl dX7_read_6 rfl ?_
  refine z_putN 4 (pc2 := 10) (ft := .object "java/lang/String") rfl dX7_read_7 ff_7_4 wd_125 rfl (by decide +kernel) (fun _ => rfl) (fun _ => rfl) ?_
  refine z_aload_n (pc2 := 11) rfl dX7_read_10 rfl ?_
  refine z_iconst (pc2 := 12) rfl dX7_read_11 lt_i_0 ?_
  refine z_putI 17 7 5 (pc2 := 15) (ft := .int) rfl dX7_read_12 rfl rfl ff_7_5 wd_126 rfl (by decide +kernel) rfl rfl ?_
  obtain ⟨s1, hs1, h⟩ := ab_lt_e h
  refine z_tops hs1 ?_
  refine z_aload_n (pc2 := 16) rfl dX7_read_15 rfl ?_
  refine z_iconst (pc2 := 17) rfl dX7_read_16 lt_i_0 ?_
  refine z_putI 17 7 0 (pc2 := 20) (ft := .int) rfl dX7_read_17 rfl rfl ff_7_0 wd_119 rfl (by decide +kernel) rfl rfl ?_
  obtain ⟨s2, hs2, h⟩ := ab_lt_e h
  refine z_tops hs2 ?_
  refine z_aload_n (pc2 := 21) rfl dX7_read_20 rfl ?_
  refine z_iconst (pc2 := 22) rfl dX7_read_21 lt_i_0 ?_
  refine z_iconst (pc2 := 23) rfl dX7_read_22 lt_i_0 ?_
  obtain ⟨q3, hq3, h⟩ := ab_bnd h
  refine z_callVi 17 [.int (0 : Int32), .int (0 : Int32)] [some (.ref 17), some (.int (0 : Int32)), some (.int (0 : Int32)), none, none, none] (pc2 := 26) rfl rfl dX7_read_23 ok_X7_readLevel ⟨fun _ => rfl, fun _ => Nat.le_of_ble_eq_true rfl⟩ rfl rv_17 wd_536 wd_538 wd_2 rfl (e_GA_4_X7_readLevel _ _ _ _ hq3) ?_
  refine z_if_eq (pc2 := 29) (tgt := 47) rfl dX7_read_26 (by decide) (fun hc4 => ?_) (fun hc4 => ?_)
  · replace h := ab_pos hc4 h
    refine z_aload_n (pc2 := 48) rfl dX7_read_47 rfl ?_
    refine z_getI 17 7 5 (pc2 := 51) rfl dX7_read_48 rfl rfl ff_7_5 wd_126 ?_
    exact z_iret dX7_read_51 rfl rfl (fi_w h)
  · replace h := ab_neg hc4 h
    refine z_aload_n (pc2 := 30) rfl dX7_read_29 rfl ?_
    refine z_getI 17 7 5 (pc2 := 33) rfl dX7_read_30 rfl rfl ff_7_5 wd_126 ?_
    refine z_aload_n (pc2 := 34) rfl dX7_read_33 rfl ?_
    refine z_getR 17 7 3 9 (pc2 := 37) rfl dX7_read_34 rfl rfl ff_7_3 wd_124 rfl ?_
    refine z_getI 9 6 1 (pc2 := 40) rfl dX7_read_37 rfl rfl ff_6_1 wd_101 ?_
    refine z_icmp_ne (pc2 := 43) (tgt := 47) rfl dX7_read_40 (by decide) (fun hc5 => ?_) (fun hc5 => ?_)
    · replace h := ab_neg hc5 h
      refine z_aload_n (pc2 := 48) rfl dX7_read_47 rfl ?_
      refine z_getI 17 7 5 (pc2 := 51) rfl dX7_read_48 rfl rfl ff_7_5 wd_126 ?_
      exact z_iret dX7_read_51 rfl rfl (fi_w h)
    · replace h := ab_pos hc5 h
      refine z_iconst (pc2 := 44) rfl dX7_read_43 lt_i_m1 ?_
      refine ab_goto (tgt := 51) dX7_read_44 (by decide) ?_
      exact z_iret dX7_read_51 rfl rfl (fi_w h)
def f_X11_text (a1 : Int32) (σ : ab_F) : Option (Int32 × ab_F) := (f_X11_outside a1 (1 : Int32) σ).bind (fun q1 => (if (ab_b q1) = 0 then (if a1 = 0 then (f_X7_read_9 4 σ).bind (fun q13 => ab_lt (q13.1) (fun x14 => ab_lt (ab_u q13.2 9 1 (0 : Int32)) (fun (s15 : ab_F) => (if x14 < 0 then (f_X11_textOf a1 s15).bind (fun q17 => (if q17 = 32 then (f_X7_copyFrom_32 s15).bind (fun q18 => (some ((1 : Int32), q18))) else if q17 = 35 then (f_X7_copyFrom_35 s15).bind (fun q20 => (some ((1 : Int32), q20))) else none)) else (some (((-10 : Int32) - x14), s15)))))) else (f_X7_read_9 5 σ).bind (fun q4 => ab_lt (q4.1) (fun x5 => ab_lt (ab_u q4.2 9 1 (0 : Int32)) (fun (s6 : ab_F) => (if x5 < 0 then (f_X11_textOf a1 s6).bind (fun q8 => (if q8 = 32 then (f_X7_copyFrom_32 s6).bind (fun q9 => (some ((1 : Int32), q9))) else if q8 = 35 then (f_X7_copyFrom_35 s6).bind (fun q11 => (some ((1 : Int32), q11))) else none)) else (some (((-10 : Int32) - x5), s6))))))) else (f_X11_refuse (1 : Int32) σ).bind (fun q22 => (some (q22.1, q22.2)))))
set_option maxRecDepth 100000 in
set_option maxHeartbeats 4000000 in
theorem e_X11_text {sc : Nat × (Nat → Int32)} {r : Option Nat × Option Nat} {a1 : Int32} {σ : ab_F} {res : (Int32 × ab_F)} (h : f_X11_text a1 σ = some res) : ab_E mX11_text 110 sc 0 [some (.ref 8), some (.int a1), none] [] (σ, r) (fun v S => v = some (.int res.1) ∧ S.1 = res.2) := by
  unfold f_X11_text at h
  refine z_iload_n (pc2 := 1) rfl dX11_text_0 rfl ?_
  refine z_iconst (pc2 := 2) rfl dX11_text_1 lt_i_1 ?_
  obtain ⟨q1, hq1, h⟩ := ab_bnd h
  refine z_callSi [.int a1, .int (1 : Int32)] [some (.int a1), some (.int (1 : Int32))] (pc2 := 5) rfl rfl dX11_text_2 ok_X11_outside ⟨fun _ => rfl, fun _ => Nat.le_of_ble_eq_true rfl⟩ rfl wd_343 wd_344 rfl (e_X11_outside hq1) ?_
  refine z_if_eq (pc2 := 8) (tgt := 14) rfl dX11_text_5 (by decide) (fun hc2 => ?_) (fun hc2 => ?_)
  · replace h := ab_pos hc2 h
    refine z_aload_n (pc2 := 15) rfl dX11_text_14 rfl ?_
    refine z_getR 8 11 7 17 (pc2 := 18) rfl dX11_text_15 rfl rfl ff_11_7 wd_309 rfl ?_
    refine z_aload_n (pc2 := 19) rfl dX11_text_18 rfl ?_
    refine z_getR 8 11 3 9 (pc2 := 22) rfl dX11_text_19 rfl rfl ff_11_3 wd_305 rfl ?_
    refine z_iload_n (pc2 := 23) rfl dX11_text_22 rfl ?_
    refine z_if_ne (pc2 := 26) (tgt := 31) rfl dX11_text_23 (by decide) (fun hc3 => ?_) (fun hc3 => ?_)
    · replace h := ab_neg hc3 h
      refine z_ldcS (171, "tgd", 5, 7, 3) (pc2 := 33) rfl rfl dX11_text_31 (by decide) ?_
      obtain ⟨q4, hq4, h⟩ := ab_bnd h
      refine z_callVi 17 [.ref 9, .ref 5] [some (.ref 17), some (.ref 9), some (.ref 5)] (pc2 := 36) rfl rfl dX11_text_33 ok_X7_read ⟨fun _ => rfl, fun _ => Nat.le_of_ble_eq_true rfl⟩ rfl rv_17 wd_532 wd_533 wd_534 rfl (e_X7_read_9_5 hq4) ?_
      obtain ⟨x5, hxx5, h⟩ := ab_lt_e h
      refine z_top hxx5 ?_
      refine z_istore_n (pc2 := 37) (L2 := [some (.ref 8), some (.int a1), some (.int x5)]) rfl dX11_text_36 (by decide) rfl rfl ?_
      refine z_aload_n (pc2 := 38) rfl dX11_text_37 rfl ?_
      refine z_getR 8 11 3 9 (pc2 := 41) rfl dX11_text_38 rfl rfl ff_11_3 wd_305 rfl ?_
      refine z_iconst (pc2 := 42) rfl dX11_text_41 lt_i_0 ?_
      refine z_putI 9 6 1 (pc2 := 45) (ft := .int) rfl dX11_text_42 rfl rfl ff_6_1 wd_102 rfl (by decide +kernel) rfl rfl ?_
      obtain ⟨s6, hs6, h⟩ := ab_lt_e h
      refine z_tops hs6 ?_
      refine z_iload_n (pc2 := 46) rfl dX11_text_45 rfl ?_
      refine z_if_lt (pc2 := 49) (tgt := 54) rfl dX11_text_46 (by decide) (fun hc7 => ?_) (fun hc7 => ?_)
      · replace h := ab_pos hc7 h
        refine z_aload_n (pc2 := 55) rfl dX11_text_54 rfl ?_
        refine z_iload_n (pc2 := 56) rfl dX11_text_55 rfl ?_
        obtain ⟨q8, hq8, h⟩ := ab_bnd h
        refine z_callVr 8 [.int a1] [some (.ref 8), some (.int a1)] (pc2 := 59) rfl rfl dX11_text_56 ok_X11_textOf ⟨fun _ => rfl, fun _ => Nat.le_of_ble_eq_true rfl⟩ rfl rv_8 wd_645 wd_647 wd_8 rfl (e_X11_textOf hq8) ?_
        by_cases hi10 : q8 = 32
        · replace h := ab_pos hi10 h
          rw [hi10]
          refine z_aload_n (pc2 := 60) rfl dX11_text_59 rfl ?_
          refine z_getR 8 11 7 17 (pc2 := 63) rfl dX11_text_60 rfl rfl ff_11_7 wd_309 rfl ?_
          obtain ⟨q9, hq9, h⟩ := ab_bnd h
          refine z_callVv 32 [.ref 17] [some (.ref 32), some (.ref 17)] (pc2 := 66) rfl rfl dX11_text_63 ok_X7_copyFrom ⟨fun _ => rfl, fun _ => Nat.le_of_ble_eq_true rfl⟩ rfl rv_32 wd_649 wd_650 wd_651 rfl (e_X7_copyFrom_32 hq9) ?_
          refine z_iconst (pc2 := 67) rfl dX11_text_66 lt_i_1 ?_
          exact z_iret dX11_text_67 rfl rfl (fc_w h)
        · replace h := ab_neg hi10 h
          by_cases hi12 : q8 = 35
          · replace h := ab_pos hi12 h
            rw [hi12]
            refine z_aload_n (pc2 := 60) rfl dX11_text_59 rfl ?_
            refine z_getR 8 11 7 17 (pc2 := 63) rfl dX11_text_60 rfl rfl ff_11_7 wd_309 rfl ?_
            obtain ⟨q11, hq11, h⟩ := ab_bnd h
            refine z_callVv 35 [.ref 17] [some (.ref 35), some (.ref 17)] (pc2 := 66) rfl rfl dX11_text_63 ok_X7_copyFrom ⟨fun _ => rfl, fun _ => Nat.le_of_ble_eq_true rfl⟩ rfl rv_35 wd_649 wd_650 wd_651 rfl (e_X7_copyFrom_35 hq11) ?_
            refine z_iconst (pc2 := 67) rfl dX11_text_66 lt_i_1 ?_
            exact z_iret dX11_text_67 rfl rfl (fc_w h)
          · replace h := ab_neg hi12 h
            cases h
      · replace h := ab_neg hc7 h
        refine z_bipush (pc2 := 51) rfl dX11_text_49 lt_b_m10 ?_
        refine z_iload_n (pc2 := 52) rfl dX11_text_51 rfl ?_
        refine z_isub (pc2 := 53) rfl dX11_text_52 ?_
        exact z_iret dX11_text_53 rfl rfl (fc_w h)
    · replace h := ab_pos hc3 h
      refine z_ldcS (169, "ykd", 4, 6, 3) (pc2 := 28) rfl rfl dX11_text_26 (by decide) ?_
      refine ab_goto (tgt := 33) dX11_text_28 (by decide) ?_
      obtain ⟨q13, hq13, h⟩ := ab_bnd h
      refine z_callVi 17 [.ref 9, .ref 4] [some (.ref 17), some (.ref 9), some (.ref 4)] (pc2 := 36) rfl rfl dX11_text_33 ok_X7_read ⟨fun _ => rfl, fun _ => Nat.le_of_ble_eq_true rfl⟩ rfl rv_17 wd_532 wd_533 wd_534 rfl (e_X7_read_9_4 hq13) ?_
      obtain ⟨x14, hxx14, h⟩ := ab_lt_e h
      refine z_top hxx14 ?_
      refine z_istore_n (pc2 := 37) (L2 := [some (.ref 8), some (.int a1), some (.int x14)]) rfl dX11_text_36 (by decide) rfl rfl ?_
      refine z_aload_n (pc2 := 38) rfl dX11_text_37 rfl ?_
      refine z_getR 8 11 3 9 (pc2 := 41) rfl dX11_text_38 rfl rfl ff_11_3 wd_305 rfl ?_
      refine z_iconst (pc2 := 42) rfl dX11_text_41 lt_i_0 ?_
      refine z_putI 9 6 1 (pc2 := 45) (ft := .int) rfl dX11_text_42 rfl rfl ff_6_1 wd_102 rfl (by decide +kernel) rfl rfl ?_
      obtain ⟨s15, hs15, h⟩ := ab_lt_e h
      refine z_tops hs15 ?_
      refine z_iload_n (pc2 := 46) rfl dX11_text_45 rfl ?_
      refine z_if_lt (pc2 := 49) (tgt := 54) rfl dX11_text_46 (by decide) (fun hc16 => ?_) (fun hc16 => ?_)
      · replace h := ab_pos hc16 h
        refine z_aload_n (pc2 := 55) rfl dX11_text_54 rfl ?_
        refine z_iload_n (pc2 := 56) rfl dX11_text_55 rfl ?_
        obtain ⟨q17, hq17, h⟩ := ab_bnd h
        refine z_callVr 8 [.int a1] [some (.ref 8), some (.int a1)] (pc2 := 59) rfl rfl dX11_text_56 ok_X11_textOf ⟨fun _ => rfl, fun _ => Nat.le_of_ble_eq_true rfl⟩ rfl rv_8 wd_645 wd_647 wd_8 rfl (e_X11_textOf hq17) ?_
        by_cases hi19 : q17 = 32
        · replace h := ab_pos hi19 h
          rw [hi19]
          refine z_aload_n (pc2 := 60) rfl dX11_text_59 rfl ?_
          refine z_getR 8 11 7 17 (pc2 := 63) rfl dX11_text_60 rfl rfl ff_11_7 wd_309 rfl ?_
          obtain ⟨q18, hq18, h⟩ := ab_bnd h
          refine z_callVv 32 [.ref 17] [some (.ref 32), some (.ref 17)] (pc2 := 66) rfl rfl dX11_text_63 ok_X7_copyFrom ⟨fun _ => rfl, fun _ => Nat.le_of_ble_eq_true rfl⟩ rfl rv_32 wd_649 wd_650 wd_651 rfl (e_X7_copyFrom_32 hq18) ?_
          refine z_iconst (pc2 := 67) rfl dX11_text_66 lt_i_1 ?_
          exact z_iret dX11_text_67 rfl rfl (fc_w h)
        · replace h := ab_neg hi19 h
          by_cases hi21 : q17 = 35
          · replace h := ab_pos hi21 h
            rw [hi21]
            refine z_aload_n (pc2 := 60) rfl dX11_text_59 rfl ?_
            refine z_getR 8 11 7 17 (pc2 := 63) rfl dX11_text_60 rfl rfl ff_11_7 wd_309 rfl ?_
            obtain ⟨q20, hq20, h⟩ := ab_bnd h
            refine z_callVv 35 [.ref 17] [some (.ref 35), some (.ref 17)] (pc2 := 66) rfl rfl dX11_text_63 ok_X7_copyFrom ⟨fun _ => rfl, fun _ => Nat.le_of_ble_eq_true rfl⟩ rfl rv_35 wd_649 wd_650 wd_651 rfl (e_X7_copyFrom_35 hq20) ?_
            refine z_iconst (pc2 := 67) rfl dX11_text_66 lt_i_1 ?_
            exact z_iret dX11_text_67 rfl rfl (fc_w h)
          · replace h := ab_neg hi21 h
            cases h
      · replace h := ab_neg hc16 h
        refine z_bipush (pc2 := 51) rfl dX11_text_49 lt_b_m10 ?_
        refine z_iload_n (pc2 := 52) rfl dX11_text_51 rfl ?_
        refine z_isub (pc2 := 53) rfl dX11_text_52 ?_
        exact z_iret dX11_text_53 rfl rfl (fc_w h)
  · replace h := ab_neg hc2 h
    refine z_aload_n (pc2 := 9) rfl dX11_text_8 rfl ?_
    refine z_iconst (pc2 := 10) rfl dX11_text_9 lt_i_1 ?_
    obtain ⟨q22, hq22, h⟩ := ab_bnd h
    refine z_callVi 8 [.int (1 : Int32)] [some (.ref 8), some (.int (1 : Int32))] (pc2 := 13) rfl rfl dX11_text_10 ok_X11_refuse ⟨fun _ => rfl, fun _ => Nat.le_of_ble_eq_true rfl⟩ rfl rv_8 wd_346 wd_348 wd_0 rfl (e_X11_refuse hq22) ?_
    exact z_iret dX11_text_13 rfl rfl (fc_w h)
def f_X11_untell (a1 : Int32) (σ : ab_F) : Option (Int32 × ab_F) := (f_X11_outside a1 (1 : Int32) σ).bind (fun q1 => (if (ab_b q1) = 0 then (f_X11_textOf a1 σ).bind (fun q3 => (if q3 = 32 then (if (σ 32 0) ≤ 0 then ab_lt (ab_u σ 32 0 (0 : Int32)) (fun (s5 : ab_F) => (some ((0 : Int32), s5))) else ab_lt (ab_u σ 32 0 (0 : Int32)) (fun (s6 : ab_F) => (some ((1 : Int32), s6)))) else if q3 = 35 then (if (σ 35 0) ≤ 0 then ab_lt (ab_u σ 35 0 (0 : Int32)) (fun (s9 : ab_F) => (some ((0 : Int32), s9))) else ab_lt (ab_u σ 35 0 (0 : Int32)) (fun (s10 : ab_F) => (some ((1 : Int32), s10)))) else none)) else (f_X11_refuse (1 : Int32) σ).bind (fun q12 => (some (q12.1, q12.2)))))
set_option maxRecDepth 100000 in
set_option maxHeartbeats 4000000 in
theorem e_X11_untell {sc : Nat × (Nat → Int32)} {r : Option Nat × Option Nat} {a1 : Int32} {σ : ab_F} {res : (Int32 × ab_F)} (h : f_X11_untell a1 σ = some res) : ab_E mX11_untell 1 sc 0 [some (.ref 8), some (.int a1), none, none] [] (σ, r) (fun v S => v = some (.int res.1) ∧ S = (res.2, r)) := by
  unfold f_X11_untell at h
  refine z_iload_n (pc2 := 1) rfl dX11_untell_0 rfl ?_
  refine z_iconst (pc2 := 2) rfl dX11_untell_1 lt_i_1 ?_
  obtain ⟨q1, hq1, h⟩ := ab_bnd h
  refine z_callSi [.int a1, .int (1 : Int32)] [some (.int a1), some (.int (1 : Int32))] (pc2 := 5) rfl rfl dX11_untell_2 ok_X11_outside ⟨fun _ => rfl, fun _ => Nat.le_of_ble_eq_true rfl⟩ rfl wd_343 wd_344 rfl (e_X11_outside hq1) ?_
  refine z_if_eq (pc2 := 8) (tgt := 14) rfl dX11_untell_5 (by decide) (fun hc2 => ?_) (fun hc2 => ?_)
  · replace h := ab_pos hc2 h
    refine z_aload_n (pc2 := 15) rfl dX11_untell_14 rfl ?_
    refine z_iload_n (pc2 := 16) rfl dX11_untell_15 rfl ?_
    obtain ⟨q3, hq3, h⟩ := ab_bnd h
    refine z_callVr 8 [.int a1] [some (.ref 8), some (.int a1)] (pc2 := 19) rfl rfl dX11_untell_16 ok_X11_textOf ⟨fun _ => rfl, fun _ => Nat.le_of_ble_eq_true rfl⟩ rfl rv_8 wd_645 wd_647 wd_8 rfl (e_X11_textOf hq3) ?_
    by_cases hi7 : q3 = 32
    · replace h := ab_pos hi7 h
      rw [hi7]
      refine z_astore_n (pc2 := 20) (L2 := [some (.ref 8), some (.int a1), some (.ref 32), none]) rfl dX11_untell_19 (by decide) rfl rfl ?_
      refine z_aload_n (pc2 := 21) rfl dX11_untell_20 rfl ?_
      refine z_getI 32 7 0 (pc2 := 24) rfl dX11_untell_21 rfl rfl ff_7_0 wd_120 ?_
      refine z_if_le (pc2 := 27) (tgt := 31) rfl dX11_untell_24 (by decide) (fun hc4 => ?_) (fun hc4 => ?_)
      · replace h := ab_pos hc4 h
        refine z_iconst (pc2 := 32) rfl dX11_untell_31 lt_i_0 ?_
        refine z_istore_n (pc2 := 33) (L2 := [some (.ref 8), some (.int a1), some (.ref 32), some (.int (0 : Int32))]) rfl dX11_untell_32 (by decide) rfl rfl ?_
        refine z_aload_n (pc2 := 34) rfl dX11_untell_33 rfl ?_
        refine z_iconst (pc2 := 35) rfl dX11_untell_34 lt_i_0 ?_
        refine z_putI 32 7 0 (pc2 := 38) (ft := .int) rfl dX11_untell_35 rfl rfl ff_7_0 wd_120 rfl (by decide +kernel) rfl rfl ?_
        obtain ⟨s5, hs5, h⟩ := ab_lt_e h
        refine z_tops hs5 ?_
        refine z_iload_n (pc2 := 39) rfl dX11_untell_38 rfl ?_
        exact z_iret dX11_untell_39 rfl rfl (fi_w h)
      · replace h := ab_neg hc4 h
        refine z_iconst (pc2 := 28) rfl dX11_untell_27 lt_i_1 ?_
        refine ab_goto (tgt := 32) dX11_untell_28 (by decide) ?_
        refine z_istore_n (pc2 := 33) (L2 := [some (.ref 8), some (.int a1), some (.ref 32), some (.int (1 : Int32))]) rfl dX11_untell_32 (by decide) rfl rfl ?_
        refine z_aload_n (pc2 := 34) rfl dX11_untell_33 rfl ?_
        refine z_iconst (pc2 := 35) rfl dX11_untell_34 lt_i_0 ?_
        refine z_putI 32 7 0 (pc2 := 38) (ft := .int) rfl dX11_untell_35 rfl rfl ff_7_0 wd_120 rfl (by decide +kernel) rfl rfl ?_
        obtain ⟨s6, hs6, h⟩ := ab_lt_e h
        refine z_tops hs6 ?_
        refine z_iload_n (pc2 := 39) rfl dX11_untell_38 rfl ?_
        exact z_iret dX11_untell_39 rfl rfl (fi_w h)
    · replace h := ab_neg hi7 h
      by_cases hi11 : q3 = 35
      · replace h := ab_pos hi11 h
        rw [hi11]
        refine z_astore_n (pc2 := 20) (L2 := [some (.ref 8), some (.int a1), some (.ref 35), none]) rfl dX11_untell_19 (by decide) rfl rfl ?_
        refine z_aload_n (pc2 := 21) rfl dX11_untell_20 rfl ?_
        refine z_getI 35 7 0 (pc2 := 24) rfl dX11_untell_21 rfl rfl ff_7_0 wd_120 ?_
        refine z_if_le (pc2 := 27) (tgt := 31) rfl dX11_untell_24 (by decide) (fun hc8 => ?_) (fun hc8 => ?_)
        · replace h := ab_pos hc8 h
          refine z_iconst (pc2 := 32) rfl dX11_untell_31 lt_i_0 ?_
          refine z_istore_n (pc2 := 33) (L2 := [some (.ref 8), some (.int a1), some (.ref 35), some (.int (0 : Int32))]) rfl dX11_untell_32 (by decide) rfl rfl ?_
          refine z_aload_n (pc2 := 34) rfl dX11_untell_33 rfl ?_
          refine z_iconst (pc2 := 35) rfl dX11_untell_34 lt_i_0 ?_
          refine z_putI 35 7 0 (pc2 := 38) (ft := .int) rfl dX11_untell_35 rfl rfl ff_7_0 wd_120 rfl (by decide +kernel) rfl rfl ?_
          obtain ⟨s9, hs9, h⟩ := ab_lt_e h
          refine z_tops hs9 ?_
          refine z_iload_n (pc2 := 39) rfl dX11_untell_38 rfl ?_
          exact z_iret dX11_untell_39 rfl rfl (fi_w h)
        · replace h := ab_neg hc8 h
          refine z_iconst (pc2 := 28) rfl dX11_untell_27 lt_i_1 ?_
          refine ab_goto (tgt := 32) dX11_untell_28 (by decide) ?_
          refine z_istore_n (pc2 := 33) (L2 := [some (.ref 8), some (.int a1), some (.ref 35), some (.int (1 : Int32))]) rfl dX11_untell_32 (by decide) rfl rfl ?_
          refine z_aload_n (pc2 := 34) rfl dX11_untell_33 rfl ?_
          refine z_iconst (pc2 := 35) rfl dX11_untell_34 lt_i_0 ?_
          refine z_putI 35 7 0 (pc2 := 38) (ft := .int) rfl dX11_untell_35 rfl rfl ff_7_0 wd_120 rfl (by decide +kernel) rfl rfl ?_
          obtain ⟨s10, hs10, h⟩ := ab_lt_e h
          refine z_tops hs10 ?_
          refine z_iload_n (pc2 := 39) rfl dX11_untell_38 rfl ?_
          exact z_iret dX11_untell_39 rfl rfl (fi_w h)
      · replace h := ab_neg hi11 h
        cases h
  · replace h := ab_neg hc2 h
    refine z_aload_n (pc2 := 9) rfl dX11_untell_8 rfl ?_
    refine z_iconst (pc2 := 10) rfl dX11_untell_9 lt_i_1 ?_
    obtain ⟨q12, hq12, h⟩ := ab_bnd h
    refine z_callVi 8 [.int (1 : Int32)] [some (.ref 8), some (.int (1 : Int32))] (pc2 := 13) rfl rfl dX11_untell_10 ok_X11_refuse ⟨fun _ => rfl, fun _ => Nat.le_of_ble_eq_true rfl⟩ rfl rv_8 wd_346 wd_348 wd_0 rfl (e_X11_refuse hq12) ?_
    exact z_iret dX11_untell_13 rfl rfl (fi_w h)
def f_X11_law (a1 : Int32) (a2 : Int32) (a3 : Int32) (a4 : Int32) (σ : ab_F) : Option (Int32 × ab_F) := (f_X11_outside a1 (1 : Int32) σ).bind (fun q1 => (if (ab_b q1) = 0 then (if a1 = 0 then (f_X9_doesBy 38 a2 a3 a4 σ).bind (fun q5 => (some (q5.1, q5.2))) else (f_X9_madeBy 38 a2 a3 a4 σ).bind (fun q4 => (some (q4.1, q4.2)))) else (f_X11_refuse (1 : Int32) σ).bind (fun q6 => (some (q6.1, q6.2)))))
set_option maxRecDepth 100000 in
set_option maxHeartbeats 4000000 in
theorem e_X11_law {sc : Nat × (Nat → Int32)} {r : Option Nat × Option Nat} {a1 : Int32} {a2 : Int32} {a3 : Int32} {a4 : Int32} {σ : ab_F} {res : (Int32 × ab_F)} (h : f_X11_law a1 a2 a3 a4 σ = some res) : ab_E mX11_law 3 sc 0 [some (.ref 8), some (.int a1), some (.int a2), some (.int a3), some (.int a4)] [] (σ, r) (fun v S => v = some (.int res.1) ∧ S = (res.2, r)) := by
  unfold f_X11_law at h
  refine z_iload_n (pc2 := 1) rfl dX11_law_0 rfl ?_
  refine z_iconst (pc2 := 2) rfl dX11_law_1 lt_i_1 ?_
  obtain ⟨q1, hq1, h⟩ := ab_bnd h
  refine z_callSi [.int a1, .int (1 : Int32)] [some (.int a1), some (.int (1 : Int32))] (pc2 := 5) rfl rfl dX11_law_2 ok_X11_outside ⟨fun _ => rfl, fun _ => Nat.le_of_ble_eq_true rfl⟩ rfl wd_343 wd_344 rfl (e_X11_outside hq1) ?_
  refine z_if_eq (pc2 := 8) (tgt := 14) rfl dX11_law_5 (by decide) (fun hc2 => ?_) (fun hc2 => ?_)
  · replace h := ab_pos hc2 h
    refine z_iload_n (pc2 := 15) rfl dX11_law_14 rfl ?_
    refine z_if_ne (pc2 := 18) (tgt := 32) rfl dX11_law_15 (by decide) (fun hc3 => ?_) (fun hc3 => ?_)
    · replace h := ab_neg hc3 h
      refine z_aload_n (pc2 := 33) rfl dX11_law_32 rfl ?_
      refine z_getR 8 11 0 38 (pc2 := 36) rfl dX11_law_33 rfl rfl ff_11_0 wd_302 rfl ?_
      refine z_iload_n (pc2 := 37) rfl dX11_law_36 rfl ?_
      refine z_iload_n (pc2 := 38) rfl dX11_law_37 rfl ?_
      refine z_iload (pc2 := 40) rfl dX11_law_38 rfl ?_
      obtain ⟨q4, hq4, h⟩ := ab_bnd h
      refine z_callVi 38 [.int a2, .int a3, .int a4] [some (.ref 38), some (.int a2), some (.int a3), some (.int a4), none] (pc2 := 43) rfl rfl dX11_law_40 ok_X9_madeBy ⟨fun _ => rfl, fun _ => Nat.le_of_ble_eq_true rfl⟩ rfl rv_38 wd_666 wd_455 wd_456 rfl (e_X9_madeBy_38 hq4) ?_
      exact z_iret dX11_law_43 rfl rfl (fi_w h)
    · replace h := ab_pos hc3 h
      refine z_aload_n (pc2 := 19) rfl dX11_law_18 rfl ?_
      refine z_getR 8 11 0 38 (pc2 := 22) rfl dX11_law_19 rfl rfl ff_11_0 wd_302 rfl ?_
      refine z_iload_n (pc2 := 23) rfl dX11_law_22 rfl ?_
      refine z_iload_n (pc2 := 24) rfl dX11_law_23 rfl ?_
      refine z_iload (pc2 := 26) rfl dX11_law_24 rfl ?_
      obtain ⟨q5, hq5, h⟩ := ab_bnd h
      refine z_callVi 38 [.int a2, .int a3, .int a4] [some (.ref 38), some (.int a2), some (.int a3), some (.int a4)] (pc2 := 29) rfl rfl dX11_law_26 ok_X9_doesBy ⟨fun _ => rfl, fun _ => Nat.le_of_ble_eq_true rfl⟩ rfl rv_38 wd_665 wd_409 wd_410 rfl (e_X9_doesBy_38 hq5) ?_
      refine ab_goto (tgt := 43) dX11_law_29 (by decide) ?_
      exact z_iret dX11_law_43 rfl rfl (fi_w h)
  · replace h := ab_neg hc2 h
    refine z_aload_n (pc2 := 9) rfl dX11_law_8 rfl ?_
    refine z_iconst (pc2 := 10) rfl dX11_law_9 lt_i_1 ?_
    obtain ⟨q6, hq6, h⟩ := ab_bnd h
    refine z_callVi 8 [.int (1 : Int32)] [some (.ref 8), some (.int (1 : Int32))] (pc2 := 13) rfl rfl dX11_law_10 ok_X11_refuse ⟨fun _ => rfl, fun _ => Nat.le_of_ble_eq_true rfl⟩ rfl rv_8 wd_346 wd_348 wd_0 rfl (e_X11_refuse hq6) ?_
    exact z_iret dX11_law_13 rfl rfl (fi_w h)
def f_X9_flowFrom_L9 (w : Nat) (p1 : Int32) (σ : ab_F) (K : Int32 → Int32 → Option ab_F) : Nat → Int32 → Int32 → Int32 → Option ab_F
  | 0, _, _, _ => none
  | n + 1, u2, u3, u4 => (if (((4 : Int32) * p1) + (4 : Int32)) ≤ u4 then (K u2 u3) else ab_ck (ab_ib u4 64) (ab_lt ((ab_tab 1 (u4).toNatClampNeg)) (fun x4 => (if x4 < 0 then ab_lt (u4 + (1 : Int32)) (fun x6 => (f_X9_flowFrom_L9 w p1 σ K n u2 u3 x6)) else ab_ck (ab_ib x4 16) ((if (σ (w + 3) (x4).toNatClampNeg) = 0 then ab_ck (ab_ib x4 16) (ab_ck (ab_ib x4 16) (ab_lt (((σ (w + 1) (x4).toNatClampNeg) + (σ (w + 2) (x4).toNatClampNeg))) (fun x12 => (if u2 < 0 then ab_lt (u4 + (1 : Int32)) (fun x14 => (f_X9_flowFrom_L9 w p1 σ K n x4 x12 x14)) else (if u3 ≤ x12 then ab_lt (u4 + (1 : Int32)) (fun x16 => (f_X9_flowFrom_L9 w p1 σ K n u2 u3 x16)) else ab_lt (u4 + (1 : Int32)) (fun x17 => (f_X9_flowFrom_L9 w p1 σ K n x4 x12 x17))))))) else ab_lt (u4 + (1 : Int32)) (fun x9 => (f_X9_flowFrom_L9 w p1 σ K n u2 u3 x9))))))))
set_option maxRecDepth 100000 in
set_option maxHeartbeats 4000000 in
theorem e_X9_flowFrom_38_L9 {sc : Nat × (Nat → Int32)} {r : Option Nat × Option Nat} {p1 : Int32} {σ : ab_F} {K : Int32 → Int32 → Option ab_F} {res : ab_F} (hK : ∀ (u2 : Int32) (u3 : Int32), K u2 u3 = some res → ab_E mX9_flowFrom 1 sc 81 [some (.ref 38), some (.int p1), some (.int u2), some (.int u3), none, none, none] [] (σ, r) (fun v S => v = none ∧ S = (res, r))) : ∀ (n : Nat) (u2 : Int32) (u3 : Int32) (u4 : Int32), f_X9_flowFrom_L9 38 p1 σ K n u2 u3 u4 = some res → ab_E mX9_flowFrom 1 sc 9 [some (.ref 38), some (.int p1), some (.int u2), some (.int u3), some (.int u4), none, none] [] (σ, r) (fun v S => v = none ∧ S = (res, r)) := by
  intro n
  induction n with
  | zero =>
    intro u2 u3 u4 h
    rw [f_X9_flowFrom_L9] at h
    cases h
  | succ n ih =>
    intro u2 u3 u4 h
    rw [f_X9_flowFrom_L9] at h
    refine z_iload (pc2 := 11) rfl dX9_flowFrom_9 rfl ?_
    refine z_iconst (pc2 := 12) rfl dX9_flowFrom_11 lt_i_4 ?_
    refine z_iload_n (pc2 := 13) rfl dX9_flowFrom_12 rfl ?_
    refine z_imul (pc2 := 14) rfl dX9_flowFrom_13 ?_
    refine z_iconst (pc2 := 15) rfl dX9_flowFrom_14 lt_i_4 ?_
    refine z_iadd (pc2 := 16) rfl dX9_flowFrom_15 ?_
    refine z_icmp_ge (pc2 := 19) (tgt := 81) rfl dX9_flowFrom_16 (by decide) (fun hc2 => ?_) (fun hc2 => ?_)
    · replace h := ab_pos hc2 h
      refine z_fgt [true, true, true, true, false, false, false] (L2 := [some (.ref 38), some (.int p1), some (.int u2), some (.int u3), none, none, none]) rfl ?_
      exact hK _ _ h
    · replace h := ab_neg hc2 h
      refine z_getsB (pc2 := 22) rfl rfl dX9_flowFrom_19 ?_
      refine z_iload (pc2 := 24) rfl dX9_flowFrom_22 rfl ?_
      obtain ⟨hb3, h⟩ := ab_ck_e h
      refine z_tald (1, 64) (pc2 := 25) rfl dX9_flowFrom_24 (by decide) hb3 ?_
      obtain ⟨x4, hxx4, h⟩ := ab_lt_e h
      refine z_top hxx4 ?_
      refine z_istore (pc2 := 27) (L2 := [some (.ref 38), some (.int p1), some (.int u2), some (.int u3), some (.int u4), some (.int x4), none]) rfl dX9_flowFrom_25 (by decide) rfl rfl ?_
      refine z_iload (pc2 := 29) rfl dX9_flowFrom_27 rfl ?_
      refine z_if_lt (pc2 := 32) (tgt := 75) rfl dX9_flowFrom_29 (by decide) (fun hc5 => ?_) (fun hc5 => ?_)
      · replace h := ab_pos hc5 h
        obtain ⟨x6, hxx6, h⟩ := ab_lt_e h
        refine z_iinc (pc2 := 78) (v := x6) (L2 := [some (.ref 38), some (.int p1), some (.int u2), some (.int u3), some (.int x6), some (.int x4), none]) rfl dX9_flowFrom_75 rfl (by rw [hxx6]; rfl) (by decide) rfl rfl ?_
        refine ab_goto (tgt := 9) dX9_flowFrom_78 (by decide) ?_
        refine z_fgt [true, true, true, true, true, false, false] (L2 := [some (.ref 38), some (.int p1), some (.int u2), some (.int u3), some (.int x6), none, none]) rfl ?_
        exact ih _ _ _ h
      · replace h := ab_neg hc5 h
        refine z_aload_n (pc2 := 33) rfl dX9_flowFrom_32 rfl ?_
        refine z_getR 38 9 8 41 (pc2 := 36) rfl dX9_flowFrom_33 rfl rfl ff_9_8 wd_245 rfl ?_
        refine z_iload (pc2 := 38) rfl dX9_flowFrom_36 rfl ?_
        obtain ⟨hb7, h⟩ := ab_ck_e h
        refine z_iald 41 (pc2 := 39) (j := (x4).toNatClampNeg) rfl dX9_flowFrom_38 rfl rfl hb7 rfl ?_
        refine z_if_ne (pc2 := 42) (tgt := 75) rfl dX9_flowFrom_39 (by decide) (fun hc8 => ?_) (fun hc8 => ?_)
        · replace h := ab_neg hc8 h
          obtain ⟨x9, hxx9, h⟩ := ab_lt_e h
          refine z_iinc (pc2 := 78) (v := x9) (L2 := [some (.ref 38), some (.int p1), some (.int u2), some (.int u3), some (.int x9), some (.int x4), none]) rfl dX9_flowFrom_75 rfl (by rw [hxx9]; rfl) (by decide) rfl rfl ?_
          refine ab_goto (tgt := 9) dX9_flowFrom_78 (by decide) ?_
          refine z_fgt [true, true, true, true, true, false, false] (L2 := [some (.ref 38), some (.int p1), some (.int u2), some (.int u3), some (.int x9), none, none]) rfl ?_
          exact ih _ _ _ h
        · replace h := ab_pos hc8 h
          refine z_aload_n (pc2 := 43) rfl dX9_flowFrom_42 rfl ?_
          refine z_getR 38 9 6 39 (pc2 := 46) rfl dX9_flowFrom_43 rfl rfl ff_9_6 wd_241 rfl ?_
          refine z_iload (pc2 := 48) rfl dX9_flowFrom_46 rfl ?_
          obtain ⟨hb10, h⟩ := ab_ck_e h
          refine z_iald 39 (pc2 := 49) (j := (x4).toNatClampNeg) rfl dX9_flowFrom_48 rfl rfl hb10 rfl ?_
          refine z_aload_n (pc2 := 50) rfl dX9_flowFrom_49 rfl ?_
          refine z_getR 38 9 7 40 (pc2 := 53) rfl dX9_flowFrom_50 rfl rfl ff_9_7 wd_243 rfl ?_
          refine z_iload (pc2 := 55) rfl dX9_flowFrom_53 rfl ?_
          obtain ⟨hb11, h⟩ := ab_ck_e h
          refine z_iald 40 (pc2 := 56) (j := (x4).toNatClampNeg) rfl dX9_flowFrom_55 rfl rfl hb11 rfl ?_
          refine z_iadd (pc2 := 57) rfl dX9_flowFrom_56 ?_
          obtain ⟨x12, hxx12, h⟩ := ab_lt_e h
          refine z_top hxx12 ?_
          refine z_istore (pc2 := 59) (L2 := [some (.ref 38), some (.int p1), some (.int u2), some (.int u3), some (.int u4), some (.int x4), some (.int x12)]) rfl dX9_flowFrom_57 (by decide) rfl rfl ?_
          refine z_iload_n (pc2 := 60) rfl dX9_flowFrom_59 rfl ?_
          refine z_if_lt (pc2 := 63) (tgt := 69) rfl dX9_flowFrom_60 (by decide) (fun hc13 => ?_) (fun hc13 => ?_)
          · replace h := ab_pos hc13 h
            refine z_iload (pc2 := 71) rfl dX9_flowFrom_69 rfl ?_
            refine z_istore_n (pc2 := 72) (L2 := [some (.ref 38), some (.int p1), some (.int x4), some (.int u3), some (.int u4), some (.int x4), some (.int x12)]) rfl dX9_flowFrom_71 (by decide) rfl rfl ?_
            refine z_iload (pc2 := 74) rfl dX9_flowFrom_72 rfl ?_
            refine z_istore_n (pc2 := 75) (L2 := [some (.ref 38), some (.int p1), some (.int x4), some (.int x12), some (.int u4), some (.int x4), some (.int x12)]) rfl dX9_flowFrom_74 (by decide) rfl rfl ?_
            obtain ⟨x14, hxx14, h⟩ := ab_lt_e h
            refine z_iinc (pc2 := 78) (v := x14) (L2 := [some (.ref 38), some (.int p1), some (.int x4), some (.int x12), some (.int x14), some (.int x4), some (.int x12)]) rfl dX9_flowFrom_75 rfl (by rw [hxx14]; rfl) (by decide) rfl rfl ?_
            refine ab_goto (tgt := 9) dX9_flowFrom_78 (by decide) ?_
            refine z_fgt [true, true, true, true, true, false, false] (L2 := [some (.ref 38), some (.int p1), some (.int x4), some (.int x12), some (.int x14), none, none]) rfl ?_
            exact ih _ _ _ h
          · replace h := ab_neg hc13 h
            refine z_iload (pc2 := 65) rfl dX9_flowFrom_63 rfl ?_
            refine z_iload_n (pc2 := 66) rfl dX9_flowFrom_65 rfl ?_
            refine z_icmp_ge (pc2 := 69) (tgt := 75) rfl dX9_flowFrom_66 (by decide) (fun hc15 => ?_) (fun hc15 => ?_)
            · replace h := ab_pos hc15 h
              obtain ⟨x16, hxx16, h⟩ := ab_lt_e h
              refine z_iinc (pc2 := 78) (v := x16) (L2 := [some (.ref 38), some (.int p1), some (.int u2), some (.int u3), some (.int x16), some (.int x4), some (.int x12)]) rfl dX9_flowFrom_75 rfl (by rw [hxx16]; rfl) (by decide) rfl rfl ?_
              refine ab_goto (tgt := 9) dX9_flowFrom_78 (by decide) ?_
              refine z_fgt [true, true, true, true, true, false, false] (L2 := [some (.ref 38), some (.int p1), some (.int u2), some (.int u3), some (.int x16), none, none]) rfl ?_
              exact ih _ _ _ h
            · replace h := ab_neg hc15 h
              refine z_iload (pc2 := 71) rfl dX9_flowFrom_69 rfl ?_
              refine z_istore_n (pc2 := 72) (L2 := [some (.ref 38), some (.int p1), some (.int x4), some (.int u3), some (.int u4), some (.int x4), some (.int x12)]) rfl dX9_flowFrom_71 (by decide) rfl rfl ?_
              refine z_iload (pc2 := 74) rfl dX9_flowFrom_72 rfl ?_
              refine z_istore_n (pc2 := 75) (L2 := [some (.ref 38), some (.int p1), some (.int x4), some (.int x12), some (.int u4), some (.int x4), some (.int x12)]) rfl dX9_flowFrom_74 (by decide) rfl rfl ?_
              obtain ⟨x17, hxx17, h⟩ := ab_lt_e h
              refine z_iinc (pc2 := 78) (v := x17) (L2 := [some (.ref 38), some (.int p1), some (.int x4), some (.int x12), some (.int x17), some (.int x4), some (.int x12)]) rfl dX9_flowFrom_75 rfl (by rw [hxx17]; rfl) (by decide) rfl rfl ?_
              refine ab_goto (tgt := 9) dX9_flowFrom_78 (by decide) ?_
              refine z_fgt [true, true, true, true, true, false, false] (L2 := [some (.ref 38), some (.int p1), some (.int x4), some (.int x12), some (.int x17), none, none]) rfl ?_
              exact ih _ _ _ h
def f_X9_flowFrom (w : Nat) (a1 : Int32) (σ : ab_F) : Option ab_F := ab_lt (((4 : Int32) * a1)) (fun x1 => (f_X9_flowFrom_L9 w a1 σ (fun (k18 : Int32) (k19 : Int32) => (if k18 < 0 then (some σ) else (f_X9_level w a1 σ).bind (fun q21 => (if (q21 - k19) < (2 : Int32) then (some σ) else ab_ck (ab_ib k18 16) ((if (99 : Int32) ≤ (σ (w + 2) (k18).toNatClampNeg) then (some σ) else ab_ck (ab_ib a1 16) (ab_ck (ab_ib a1 16) (ab_lt (ab_u σ (w + 2) (a1).toNatClampNeg ((σ (w + 2) (a1).toNatClampNeg) - (1 : Int32))) (fun (s27 : ab_F) => ab_ck (ab_ib k18 16) (ab_ck (ab_ib k18 16) (ab_lt (ab_u s27 (w + 2) (k18).toNatClampNeg ((s27 (w + 2) (k18).toNatClampNeg) + (1 : Int32))) (fun (s30 : ab_F) => (some s30))))))))))))) ab_fu (-1 : Int32) (0 : Int32) x1))
set_option maxRecDepth 100000 in
set_option maxHeartbeats 4000000 in
theorem e_X9_flowFrom_38 {sc : Nat × (Nat → Int32)} {r : Option Nat × Option Nat} {a1 : Int32} {σ : ab_F} {res : ab_F} (h : f_X9_flowFrom 38 a1 σ = some res) : ab_E mX9_flowFrom 1 sc 0 [some (.ref 38), some (.int a1), none, none, none, none, none] [] (σ, r) (fun v S => v = none ∧ S = (res, r)) := by
  unfold f_X9_flowFrom at h
  refine z_iconst (pc2 := 1) rfl dX9_flowFrom_0 lt_i_m1 ?_
  refine z_istore_n (pc2 := 2) (L2 := [some (.ref 38), some (.int a1), some (.int (-1 : Int32)), none, none, none, none]) rfl dX9_flowFrom_1 (by decide) rfl rfl ?_
  refine z_iconst (pc2 := 3) rfl dX9_flowFrom_2 lt_i_0 ?_
  refine z_istore_n (pc2 := 4) (L2 := [some (.ref 38), some (.int a1), some (.int (-1 : Int32)), some (.int (0 : Int32)), none, none, none]) rfl dX9_flowFrom_3 (by decide) rfl rfl ?_
  refine z_iconst (pc2 := 5) rfl dX9_flowFrom_4 lt_i_4 ?_
  refine z_iload_n (pc2 := 6) rfl dX9_flowFrom_5 rfl ?_
  refine z_imul (pc2 := 7) rfl dX9_flowFrom_6 ?_
  obtain ⟨x1, hxx1, h⟩ := ab_lt_e h
  refine z_top hxx1 ?_
  refine z_istore (pc2 := 9) (L2 := [some (.ref 38), some (.int a1), some (.int (-1 : Int32)), some (.int (0 : Int32)), some (.int x1), none, none]) rfl dX9_flowFrom_7 (by decide) rfl rfl ?_
  refine z_fgt [true, true, true, true, true, false, false] (L2 := [some (.ref 38), some (.int a1), some (.int (-1 : Int32)), some (.int (0 : Int32)), some (.int x1), none, none]) rfl ?_
  refine e_X9_flowFrom_38_L9 (fun k18 k19 h => ?_) _ _ _ _ h
  refine z_iload_n (pc2 := 82) rfl dX9_flowFrom_81 rfl ?_
  refine z_if_lt (pc2 := 85) (tgt := 127) rfl dX9_flowFrom_82 (by decide) (fun hc20 => ?_) (fun hc20 => ?_)
  · replace h := ab_pos hc20 h
    exact z_vret dX9_flowFrom_127 rfl (fv_w h)
  · replace h := ab_neg hc20 h
    refine z_aload_n (pc2 := 86) rfl dX9_flowFrom_85 rfl ?_
    refine z_iload_n (pc2 := 87) rfl dX9_flowFrom_86 rfl ?_
    obtain ⟨q21, hq21, h⟩ := ab_bnd h
    refine z_callVi 38 [.int a1] [some (.ref 38), some (.int a1)] (pc2 := 90) rfl rfl dX9_flowFrom_87 ok_X9_level ⟨fun _ => rfl, fun _ => Nat.le_of_ble_eq_true rfl⟩ rfl rv_38 wd_689 wd_507 wd_508 rfl (e_X9_level_38 hq21) ?_
    refine z_iload_n (pc2 := 91) rfl dX9_flowFrom_90 rfl ?_
    refine z_isub (pc2 := 92) rfl dX9_flowFrom_91 ?_
    refine z_iconst (pc2 := 93) rfl dX9_flowFrom_92 lt_i_2 ?_
    refine z_icmp_lt (pc2 := 96) (tgt := 127) rfl dX9_flowFrom_93 (by decide) (fun hc22 => ?_) (fun hc22 => ?_)
    · replace h := ab_pos hc22 h
      exact z_vret dX9_flowFrom_127 rfl (fv_w h)
    · replace h := ab_neg hc22 h
      refine z_aload_n (pc2 := 97) rfl dX9_flowFrom_96 rfl ?_
      refine z_getR 38 9 7 40 (pc2 := 100) rfl dX9_flowFrom_97 rfl rfl ff_9_7 wd_243 rfl ?_
      refine z_iload_n (pc2 := 101) rfl dX9_flowFrom_100 rfl ?_
      obtain ⟨hb23, h⟩ := ab_ck_e h
      refine z_iald 40 (pc2 := 102) (j := (k18).toNatClampNeg) rfl dX9_flowFrom_101 rfl rfl hb23 rfl ?_
      refine z_bipush (pc2 := 104) rfl dX9_flowFrom_102 lt_b_99 ?_
      refine z_icmp_ge (pc2 := 107) (tgt := 127) rfl dX9_flowFrom_104 (by decide) (fun hc24 => ?_) (fun hc24 => ?_)
      · replace h := ab_pos hc24 h
        exact z_vret dX9_flowFrom_127 rfl (fv_w h)
      · replace h := ab_neg hc24 h
        refine z_aload_n (pc2 := 108) rfl dX9_flowFrom_107 rfl ?_
        refine z_getR 38 9 7 40 (pc2 := 111) rfl dX9_flowFrom_108 rfl rfl ff_9_7 wd_243 rfl ?_
        refine z_iload_n (pc2 := 112) rfl dX9_flowFrom_111 rfl ?_
        refine z_dup2 (pc2 := 113) rfl dX9_flowFrom_112 rfl rfl ?_
        obtain ⟨hb25, h⟩ := ab_ck_e h
        refine z_iald 40 (pc2 := 114) (j := (a1).toNatClampNeg) rfl dX9_flowFrom_113 rfl rfl hb25 rfl ?_
        refine z_iconst (pc2 := 115) rfl dX9_flowFrom_114 lt_i_1 ?_
        refine z_isub (pc2 := 116) rfl dX9_flowFrom_115 ?_
        obtain ⟨hb26, h⟩ := ab_ck_e h
        refine z_iast 40 (pc2 := 117) (j := (a1).toNatClampNeg) rfl dX9_flowFrom_116 rfl rfl hb26 rfl ?_
        obtain ⟨s27, hs27, h⟩ := ab_lt_e h
        refine z_tops hs27 ?_
        refine z_aload_n (pc2 := 118) rfl dX9_flowFrom_117 rfl ?_
        refine z_getR 38 9 7 40 (pc2 := 121) rfl dX9_flowFrom_118 rfl rfl ff_9_7 wd_243 rfl ?_
        refine z_iload_n (pc2 := 122) rfl dX9_flowFrom_121 rfl ?_
        refine z_dup2 (pc2 := 123) rfl dX9_flowFrom_122 rfl rfl ?_
        obtain ⟨hb28, h⟩ := ab_ck_e h
        refine z_iald 40 (pc2 := 124) (j := (k18).toNatClampNeg) rfl dX9_flowFrom_123 rfl rfl hb28 rfl ?_
        refine z_iconst (pc2 := 125) rfl dX9_flowFrom_124 lt_i_1 ?_
        refine z_iadd (pc2 := 126) rfl dX9_flowFrom_125 ?_
        obtain ⟨hb29, h⟩ := ab_ck_e h
        refine z_iast 40 (pc2 := 127) (j := (k18).toNatClampNeg) rfl dX9_flowFrom_126 rfl rfl hb29 rfl ?_
        obtain ⟨s30, hs30, h⟩ := ab_lt_e h
        refine z_tops hs30 ?_
        exact z_vret dX9_flowFrom_127 rfl (fv_w h)
def f_X9_waterRises_L45 (w : Nat) (p1 : Int32) (K : ab_F → Option ab_F) : Nat → Int32 → ab_F → Option ab_F
  | 0, _, _ => none
  | n + 1, u2, σ => (if (16 : Int32) ≤ u2 then (K σ) else ab_ck (ab_ib u2 16) ((if (σ (w + 2) (u2).toNatClampNeg) ≤ 0 then ab_lt (u2 + (1 : Int32)) (fun x10 => (f_X9_waterRises_L45 w p1 K n x10 σ)) else ab_ck (ab_ib u2 16) ((if (σ (w + 3) (u2).toNatClampNeg) = 0 then (f_X9_flowFrom w u2 σ).bind (fun q14 => ab_lt (u2 + (1 : Int32)) (fun x15 => (f_X9_waterRises_L45 w p1 K n x15 q14))) else ab_lt (u2 + (1 : Int32)) (fun x13 => (f_X9_waterRises_L45 w p1 K n x13 σ)))))))
set_option maxRecDepth 100000 in
set_option maxHeartbeats 4000000 in
theorem e_X9_waterRises_38_L45 {sc : Nat × (Nat → Int32)} {r : Option Nat × Option Nat} {p1 : Int32} {K : ab_F → Option ab_F} {res : ab_F} (hK : ∀ (σ : ab_F), K σ = some res → ab_E mX9_waterRises 2 sc 80 [some (.ref 38), some (.int p1), none] [] (σ, r) (fun v S => v = none ∧ S = (res, r))) : ∀ (n : Nat) (u2 : Int32) (σ : ab_F), f_X9_waterRises_L45 38 p1 K n u2 σ = some res → ab_E mX9_waterRises 2 sc 45 [some (.ref 38), some (.int p1), some (.int u2)] [] (σ, r) (fun v S => v = none ∧ S = (res, r)) := by
  intro n
  induction n with
  | zero =>
    intro u2 σ h
    rw [f_X9_waterRises_L45] at h
    cases h
  | succ n ih =>
    intro u2 σ h
    rw [f_X9_waterRises_L45] at h
    refine z_iload_n (pc2 := 46) rfl dX9_waterRises_45 rfl ?_
    refine z_bipush (pc2 := 48) rfl dX9_waterRises_46 lt_b_16 ?_
    refine z_icmp_ge (pc2 := 51) (tgt := 80) rfl dX9_waterRises_48 (by decide) (fun hc7 => ?_) (fun hc7 => ?_)
    · replace h := ab_pos hc7 h
      refine z_fgt [true, true, false] (L2 := [some (.ref 38), some (.int p1), none]) rfl ?_
      exact hK  _ h
    · replace h := ab_neg hc7 h
      refine z_aload_n (pc2 := 52) rfl dX9_waterRises_51 rfl ?_
      refine z_getR 38 9 7 40 (pc2 := 55) rfl dX9_waterRises_52 rfl rfl ff_9_7 wd_243 rfl ?_
      refine z_iload_n (pc2 := 56) rfl dX9_waterRises_55 rfl ?_
      obtain ⟨hb8, h⟩ := ab_ck_e h
      refine z_iald 40 (pc2 := 57) (j := (u2).toNatClampNeg) rfl dX9_waterRises_56 rfl rfl hb8 rfl ?_
      refine z_if_le (pc2 := 60) (tgt := 74) rfl dX9_waterRises_57 (by decide) (fun hc9 => ?_) (fun hc9 => ?_)
      · replace h := ab_pos hc9 h
        obtain ⟨x10, hxx10, h⟩ := ab_lt_e h
        refine z_iinc (pc2 := 77) (v := x10) (L2 := [some (.ref 38), some (.int p1), some (.int x10)]) rfl dX9_waterRises_74 rfl (by rw [hxx10]; rfl) (by decide) rfl rfl ?_
        refine ab_goto (tgt := 45) dX9_waterRises_77 (by decide) ?_
        refine z_fgt [true, true, true] (L2 := [some (.ref 38), some (.int p1), some (.int x10)]) rfl ?_
        exact ih _ _ h
      · replace h := ab_neg hc9 h
        refine z_aload_n (pc2 := 61) rfl dX9_waterRises_60 rfl ?_
        refine z_getR 38 9 8 41 (pc2 := 64) rfl dX9_waterRises_61 rfl rfl ff_9_8 wd_245 rfl ?_
        refine z_iload_n (pc2 := 65) rfl dX9_waterRises_64 rfl ?_
        obtain ⟨hb11, h⟩ := ab_ck_e h
        refine z_iald 41 (pc2 := 66) (j := (u2).toNatClampNeg) rfl dX9_waterRises_65 rfl rfl hb11 rfl ?_
        refine z_if_ne (pc2 := 69) (tgt := 74) rfl dX9_waterRises_66 (by decide) (fun hc12 => ?_) (fun hc12 => ?_)
        · replace h := ab_neg hc12 h
          obtain ⟨x13, hxx13, h⟩ := ab_lt_e h
          refine z_iinc (pc2 := 77) (v := x13) (L2 := [some (.ref 38), some (.int p1), some (.int x13)]) rfl dX9_waterRises_74 rfl (by rw [hxx13]; rfl) (by decide) rfl rfl ?_
          refine ab_goto (tgt := 45) dX9_waterRises_77 (by decide) ?_
          refine z_fgt [true, true, true] (L2 := [some (.ref 38), some (.int p1), some (.int x13)]) rfl ?_
          exact ih _ _ h
        · replace h := ab_pos hc12 h
          refine z_aload_n (pc2 := 70) rfl dX9_waterRises_69 rfl ?_
          refine z_iload_n (pc2 := 71) rfl dX9_waterRises_70 rfl ?_
          obtain ⟨q14, hq14, h⟩ := ab_bnd h
          refine z_callVv 38 [.int u2] [some (.ref 38), some (.int u2), none, none, none, none, none] (pc2 := 74) rfl rfl dX9_waterRises_71 ok_X9_flowFrom ⟨fun _ => rfl, fun _ => Nat.le_of_ble_eq_true rfl⟩ rfl rv_38 wd_683 wd_685 wd_10 rfl (e_X9_flowFrom_38 hq14) ?_
          obtain ⟨x15, hxx15, h⟩ := ab_lt_e h
          refine z_iinc (pc2 := 77) (v := x15) (L2 := [some (.ref 38), some (.int p1), some (.int x15)]) rfl dX9_waterRises_74 rfl (by rw [hxx15]; rfl) (by decide) rfl rfl ?_
          refine ab_goto (tgt := 45) dX9_waterRises_77 (by decide) ?_
          refine z_fgt [true, true, true] (L2 := [some (.ref 38), some (.int p1), some (.int x15)]) rfl ?_
          exact ih _ _ h
def f_X9_waterRises_L38 (w : Nat) (K : ab_F → Option ab_F) : Nat → Int32 → ab_F → Option ab_F
  | 0, _, _ => none
  | n + 1, u1, σ => (if (4 : Int32) ≤ u1 then (K σ) else (f_X9_waterRises_L45 w u1 (fun (s16 : ab_F) => ab_lt (u1 + (1 : Int32)) (fun x17 => (f_X9_waterRises_L38 w K n x17 s16))) ab_fu (0 : Int32) σ))
set_option maxRecDepth 100000 in
set_option maxHeartbeats 4000000 in
theorem e_X9_waterRises_38_L38 {sc : Nat × (Nat → Int32)} {r : Option Nat × Option Nat} {K : ab_F → Option ab_F} {res : ab_F} (hK : ∀ (σ : ab_F), K σ = some res → ab_E mX9_waterRises 2 sc 86 [none, none, none] [] (σ, r) (fun v S => v = none ∧ S = (res, r))) : ∀ (n : Nat) (u1 : Int32) (σ : ab_F), f_X9_waterRises_L38 38 K n u1 σ = some res → ab_E mX9_waterRises 2 sc 38 [some (.ref 38), some (.int u1), none] [] (σ, r) (fun v S => v = none ∧ S = (res, r)) := by
  intro n
  induction n with
  | zero =>
    intro u1 σ h
    rw [f_X9_waterRises_L38] at h
    cases h
  | succ n ih =>
    intro u1 σ h
    rw [f_X9_waterRises_L38] at h
    refine z_iload_n (pc2 := 39) rfl dX9_waterRises_38 rfl ?_
    refine z_iconst (pc2 := 40) rfl dX9_waterRises_39 lt_i_4 ?_
    refine z_icmp_ge (pc2 := 43) (tgt := 86) rfl dX9_waterRises_40 (by decide) (fun hc6 => ?_) (fun hc6 => ?_)
    · replace h := ab_pos hc6 h
      refine z_fgt [false, false, false] (L2 := [none, none, none]) rfl ?_
      exact hK  _ h
    · replace h := ab_neg hc6 h
      refine z_iconst (pc2 := 44) rfl dX9_waterRises_43 lt_i_0 ?_
      refine z_istore_n (pc2 := 45) (L2 := [some (.ref 38), some (.int u1), some (.int (0 : Int32))]) rfl dX9_waterRises_44 (by decide) rfl rfl ?_
      refine z_fgt [true, true, true] (L2 := [some (.ref 38), some (.int u1), some (.int (0 : Int32))]) rfl ?_
      refine e_X9_waterRises_38_L45 (fun s16 h => ?_) _ _ _ h
      obtain ⟨x17, hxx17, h⟩ := ab_lt_e h
      refine z_iinc (pc2 := 83) (v := x17) (L2 := [some (.ref 38), some (.int x17), none]) rfl dX9_waterRises_80 rfl (by rw [hxx17]; rfl) (by decide) rfl rfl ?_
      refine ab_goto (tgt := 38) dX9_waterRises_83 (by decide) ?_
      refine z_fgt [true, true, false] (L2 := [some (.ref 38), some (.int x17), none]) rfl ?_
      exact ih _ _ h
def f_X9_waterRises (w : Nat) (σ : ab_F) : Option ab_F := ab_ck (ab_ib (σ w 4) 16) (ab_ck (ab_ib ((σ w 3) - (σ w 3) / (6 : Int32) * (6 : Int32)) 6) ((f_J9_min_7cf53 (99 : Int32) ((σ (w + 2) ((σ w 4)).toNatClampNeg) + (σ (w + 5) (((σ w 3) - (σ w 3) / (6 : Int32) * (6 : Int32))).toNatClampNeg)) σ).bind (fun q3 => ab_ck (ab_ib (σ w 4) 16) (ab_lt (ab_u σ (w + 2) ((σ w 4)).toNatClampNeg q3) (fun (s5 : ab_F) => (f_X9_waterRises_L38 w (fun (s18 : ab_F) => (some s18)) ab_fu (0 : Int32) s5))))))
set_option maxRecDepth 100000 in
set_option maxHeartbeats 4000000 in
theorem e_X9_waterRises_38 {sc : Nat × (Nat → Int32)} {r : Option Nat × Option Nat} {σ : ab_F} {res : ab_F} (h : f_X9_waterRises 38 σ = some res) : ab_E mX9_waterRises 2 sc 0 [some (.ref 38), none, none] [] (σ, r) (fun v S => v = none ∧ S = (res, r)) := by
  unfold f_X9_waterRises at h
  refine z_aload_n (pc2 := 1) rfl dX9_waterRises_0 rfl ?_
  refine z_getR 38 9 7 40 (pc2 := 4) rfl dX9_waterRises_1 rfl rfl ff_9_7 wd_243 rfl ?_
  refine z_aload_n (pc2 := 5) rfl dX9_waterRises_4 rfl ?_
  refine z_getI 38 9 4 (pc2 := 8) rfl dX9_waterRises_5 rfl rfl ff_9_4 wd_237 ?_
  refine z_bipush (pc2 := 10) rfl dX9_waterRises_8 lt_b_99 ?_
  refine z_aload_n (pc2 := 11) rfl dX9_waterRises_10 rfl ?_
  refine z_getR 38 9 7 40 (pc2 := 14) rfl dX9_waterRises_11 rfl rfl ff_9_7 wd_243 rfl ?_
  refine z_aload_n (pc2 := 15) rfl dX9_waterRises_14 rfl ?_
  refine z_getI 38 9 4 (pc2 := 18) rfl dX9_waterRises_15 rfl rfl ff_9_4 wd_237 ?_
  obtain ⟨hb1, h⟩ := ab_ck_e h
  refine z_iald 40 (pc2 := 19) (j := ((σ 38 4)).toNatClampNeg) rfl dX9_waterRises_18 rfl rfl hb1 rfl ?_
  refine z_aload_n (pc2 := 20) rfl dX9_waterRises_19 rfl ?_
  refine z_getR 38 9 10 43 (pc2 := 23) rfl dX9_waterRises_20 rfl rfl ff_9_10 wd_248 rfl ?_
  refine z_aload_n (pc2 := 24) rfl dX9_waterRises_23 rfl ?_
  refine z_getI 38 9 3 (pc2 := 27) rfl dX9_waterRises_24 rfl rfl ff_9_3 wd_235 ?_
  refine z_bipush (pc2 := 29) rfl dX9_waterRises_27 lt_b_6 ?_
  refine z_irem (pc2 := 30) rfl dX9_waterRises_29 (by decide) ?_
  obtain ⟨hb2, h⟩ := ab_ck_e h
  refine z_iald 43 (pc2 := 31) (j := (((σ 38 3) - (σ 38 3) / (6 : Int32) * (6 : Int32))).toNatClampNeg) rfl dX9_waterRises_30 rfl rfl hb2 rfl ?_
  refine z_iadd (pc2 := 32) rfl dX9_waterRises_31 ?_
  obtain ⟨q3, hq3, h⟩ := ab_bnd h
  refine z_callSi [.int (99 : Int32), .int ((σ (38 + 2) ((σ 38 4)).toNatClampNeg) + (σ (38 + 5) (((σ 38 3) - (σ 38 3) / (6 : Int32) * (6 : Int32))).toNatClampNeg))] [some (.int (99 : Int32)), some (.int ((σ (38 + 2) ((σ 38 4)).toNatClampNeg) + (σ (38 + 5) (((σ 38 3) - (σ 38 3) / (6 : Int32) * (6 : Int32))).toNatClampNeg)))] (pc2 := 35) rfl rfl dX9_waterRises_32 ok_J9_min_7cf53 ⟨fun _ => rfl, fun _ => Nat.le_of_ble_eq_true rfl⟩ rfl wd_458 wd_459 rfl (e_J9_min_7cf53 hq3) ?_
  obtain ⟨hb4, h⟩ := ab_ck_e h
  refine z_iast 40 (pc2 := 36) (j := ((σ 38 4)).toNatClampNeg) rfl dX9_waterRises_35 rfl rfl hb4 rfl ?_
  obtain ⟨s5, hs5, h⟩ := ab_lt_e h
  refine z_tops hs5 ?_
  refine z_iconst (pc2 := 37) rfl dX9_waterRises_36 lt_i_0 ?_
  refine z_istore_n (pc2 := 38) (L2 := [some (.ref 38), some (.int (0 : Int32)), none]) rfl dX9_waterRises_37 (by decide) rfl rfl ?_
  refine z_fgt [true, true, false] (L2 := [some (.ref 38), some (.int (0 : Int32)), none]) rfl ?_
  refine e_X9_waterRises_38_L38 (fun s18 h => ?_) _ _ _ h
  exact z_vret dX9_waterRises_86 rfl (fv_w h)
def f_X9_highestBeside_L9 (w : Nat) (p1 : Int32) (σ : ab_F) (K : Int32 → Option Int32) : Nat → Int32 → Int32 → Int32 → Option Int32
  | 0, _, _, _ => none
  | n + 1, u2, u3, u4 => (if (((4 : Int32) * p1) + (4 : Int32)) ≤ u4 then (K u2) else ab_ck (ab_ib u4 64) (ab_lt ((ab_tab 1 (u4).toNatClampNeg)) (fun x4 => (if x4 < 0 then ab_lt (u4 + (1 : Int32)) (fun x6 => (f_X9_highestBeside_L9 w p1 σ K n u2 u3 x6)) else ab_ck (ab_ib x4 16) ((if (σ (w + 1) (x4).toNatClampNeg) ≤ u3 then ab_lt (u4 + (1 : Int32)) (fun x9 => (f_X9_highestBeside_L9 w p1 σ K n u2 u3 x9)) else ab_ck (ab_ib x4 16) (ab_lt ((σ (w + 1) (x4).toNatClampNeg)) (fun x11 => ab_lt (u4 + (1 : Int32)) (fun x12 => (f_X9_highestBeside_L9 w p1 σ K n x4 x11 x12))))))))))
set_option maxRecDepth 100000 in
set_option maxHeartbeats 4000000 in
theorem e_X9_highestBeside_38_L9 {sc : Nat × (Nat → Int32)} {r : Option Nat × Option Nat} {p1 : Int32} {σ : ab_F} {K : Int32 → Option Int32} {res : Int32} (hK : ∀ (u2 : Int32), K u2 = some res → ab_E mX9_highestBeside 0 sc 60 [none, none, some (.int u2), none, none, none] [] (σ, r) (fun v S => v = some (.int res) ∧ S = (σ, r))) : ∀ (n : Nat) (u2 : Int32) (u3 : Int32) (u4 : Int32), f_X9_highestBeside_L9 38 p1 σ K n u2 u3 u4 = some res → ab_E mX9_highestBeside 0 sc 9 [some (.ref 38), some (.int p1), some (.int u2), some (.int u3), some (.int u4), none] [] (σ, r) (fun v S => v = some (.int res) ∧ S = (σ, r)) := by
  intro n
  induction n with
  | zero =>
    intro u2 u3 u4 h
    rw [f_X9_highestBeside_L9] at h
    cases h
  | succ n ih =>
    intro u2 u3 u4 h
    rw [f_X9_highestBeside_L9] at h
    refine z_iload (pc2 := 11) rfl dX9_highestBeside_9 rfl ?_
    refine z_iconst (pc2 := 12) rfl dX9_highestBeside_11 lt_i_4 ?_
    refine z_iload_n (pc2 := 13) rfl dX9_highestBeside_12 rfl ?_
    refine z_imul (pc2 := 14) rfl dX9_highestBeside_13 ?_
    refine z_iconst (pc2 := 15) rfl dX9_highestBeside_14 lt_i_4 ?_
    refine z_iadd (pc2 := 16) rfl dX9_highestBeside_15 ?_
    refine z_icmp_ge (pc2 := 19) (tgt := 60) rfl dX9_highestBeside_16 (by decide) (fun hc2 => ?_) (fun hc2 => ?_)
    · replace h := ab_pos hc2 h
      refine z_fgt [false, false, true, false, false, false] (L2 := [none, none, some (.int u2), none, none, none]) rfl ?_
      exact hK _ h
    · replace h := ab_neg hc2 h
      refine z_getsB (pc2 := 22) rfl rfl dX9_highestBeside_19 ?_
      refine z_iload (pc2 := 24) rfl dX9_highestBeside_22 rfl ?_
      obtain ⟨hb3, h⟩ := ab_ck_e h
      refine z_tald (1, 64) (pc2 := 25) rfl dX9_highestBeside_24 (by decide) hb3 ?_
      obtain ⟨x4, hxx4, h⟩ := ab_lt_e h
      refine z_top hxx4 ?_
      refine z_istore (pc2 := 27) (L2 := [some (.ref 38), some (.int p1), some (.int u2), some (.int u3), some (.int u4), some (.int x4)]) rfl dX9_highestBeside_25 (by decide) rfl rfl ?_
      refine z_iload (pc2 := 29) rfl dX9_highestBeside_27 rfl ?_
      refine z_if_lt (pc2 := 32) (tgt := 54) rfl dX9_highestBeside_29 (by decide) (fun hc5 => ?_) (fun hc5 => ?_)
      · replace h := ab_pos hc5 h
        obtain ⟨x6, hxx6, h⟩ := ab_lt_e h
        refine z_iinc (pc2 := 57) (v := x6) (L2 := [some (.ref 38), some (.int p1), some (.int u2), some (.int u3), some (.int x6), some (.int x4)]) rfl dX9_highestBeside_54 rfl (by rw [hxx6]; rfl) (by decide) rfl rfl ?_
        refine ab_goto (tgt := 9) dX9_highestBeside_57 (by decide) ?_
        refine z_fgt [true, true, true, true, true, false] (L2 := [some (.ref 38), some (.int p1), some (.int u2), some (.int u3), some (.int x6), none]) rfl ?_
        exact ih _ _ _ h
      · replace h := ab_neg hc5 h
        refine z_aload_n (pc2 := 33) rfl dX9_highestBeside_32 rfl ?_
        refine z_getR 38 9 6 39 (pc2 := 36) rfl dX9_highestBeside_33 rfl rfl ff_9_6 wd_241 rfl ?_
        refine z_iload (pc2 := 38) rfl dX9_highestBeside_36 rfl ?_
        obtain ⟨hb7, h⟩ := ab_ck_e h
        refine z_iald 39 (pc2 := 39) (j := (x4).toNatClampNeg) rfl dX9_highestBeside_38 rfl rfl hb7 rfl ?_
        refine z_iload_n (pc2 := 40) rfl dX9_highestBeside_39 rfl ?_
        refine z_icmp_le (pc2 := 43) (tgt := 54) rfl dX9_highestBeside_40 (by decide) (fun hc8 => ?_) (fun hc8 => ?_)
        · replace h := ab_pos hc8 h
          obtain ⟨x9, hxx9, h⟩ := ab_lt_e h
          refine z_iinc (pc2 := 57) (v := x9) (L2 := [some (.ref 38), some (.int p1), some (.int u2), some (.int u3), some (.int x9), some (.int x4)]) rfl dX9_highestBeside_54 rfl (by rw [hxx9]; rfl) (by decide) rfl rfl ?_
          refine ab_goto (tgt := 9) dX9_highestBeside_57 (by decide) ?_
          refine z_fgt [true, true, true, true, true, false] (L2 := [some (.ref 38), some (.int p1), some (.int u2), some (.int u3), some (.int x9), none]) rfl ?_
          exact ih _ _ _ h
        · replace h := ab_neg hc8 h
          refine z_iload (pc2 := 45) rfl dX9_highestBeside_43 rfl ?_
          refine z_istore_n (pc2 := 46) (L2 := [some (.ref 38), some (.int p1), some (.int x4), some (.int u3), some (.int u4), some (.int x4)]) rfl dX9_highestBeside_45 (by decide) rfl rfl ?_
          refine z_aload_n (pc2 := 47) rfl dX9_highestBeside_46 rfl ?_
          refine z_getR 38 9 6 39 (pc2 := 50) rfl dX9_highestBeside_47 rfl rfl ff_9_6 wd_241 rfl ?_
          refine z_iload (pc2 := 52) rfl dX9_highestBeside_50 rfl ?_
          obtain ⟨hb10, h⟩ := ab_ck_e h
          refine z_iald 39 (pc2 := 53) (j := (x4).toNatClampNeg) rfl dX9_highestBeside_52 rfl rfl hb10 rfl ?_
          obtain ⟨x11, hxx11, h⟩ := ab_lt_e h
          refine z_top hxx11 ?_
          refine z_istore_n (pc2 := 54) (L2 := [some (.ref 38), some (.int p1), some (.int x4), some (.int x11), some (.int u4), some (.int x4)]) rfl dX9_highestBeside_53 (by decide) rfl rfl ?_
          obtain ⟨x12, hxx12, h⟩ := ab_lt_e h
          refine z_iinc (pc2 := 57) (v := x12) (L2 := [some (.ref 38), some (.int p1), some (.int x4), some (.int x11), some (.int x12), some (.int x4)]) rfl dX9_highestBeside_54 rfl (by rw [hxx12]; rfl) (by decide) rfl rfl ?_
          refine ab_goto (tgt := 9) dX9_highestBeside_57 (by decide) ?_
          refine z_fgt [true, true, true, true, true, false] (L2 := [some (.ref 38), some (.int p1), some (.int x4), some (.int x11), some (.int x12), none]) rfl ?_
          exact ih _ _ _ h
