def f_X12_check (σ : ab_F) : Option (Int32 × ab_F) := ab_lt ((σ 86 4)) (fun x1 => ab_lt (ab_u σ 86 4 (0 : Int32)) (fun (s2 : ab_F) => (f_X12_check_L16 x1 (fun (s10 : ab_F) => (some ((0 : Int32), s10))) ab_fu (0 : Int32) s2)))
set_option maxRecDepth 100000 in
set_option maxHeartbeats 4000000 in
theorem e_X12_check {sc : Nat × (Nat → Int32)} {r : Option Nat × Option Nat} {σ : ab_F} {res : (Int32 × ab_F)} (h : f_X12_check σ = some res) : ab_E mX12_check 4 sc 0 [some (.ref 85), none, none] [] (σ, r) (fun v S => v = some (.int res.1) ∧ S = (res.2, r)) := by
  unfold f_X12_check at h
  refine z_aload_n (pc2 := 1) rfl dX12_check_0 rfl ?_
  refine z_getR 85 12 0 86 (pc2 := 4) rfl dX12_check_1 rfl rfl ff_12_0 wd_977 rfl ?_
  refine z_iconst (pc2 := 5) rfl dX12_check_4 lt_i_4 ?_
  refine z_iald 86 (pc2 := 6) (j := 4) rfl dX12_check_5 rfl rfl (by decide) (by decide) ?_
  obtain ⟨x1, hxx1, h⟩ := ab_lt_e h
  refine z_top hxx1 ?_
  refine z_istore_n (pc2 := 7) (L2 := [some (.ref 85), some (.int x1), none]) rfl dX12_check_6 (by decide) rfl rfl ?_
  refine z_aload_n (pc2 := 8) rfl dX12_check_7 rfl ?_
  refine z_getR 85 12 0 86 (pc2 := 11) rfl dX12_check_8 rfl rfl ff_12_0 wd_977 rfl ?_
  refine z_iconst (pc2 := 12) rfl dX12_check_11 lt_i_4 ?_
  refine z_iconst (pc2 := 13) rfl dX12_check_12 lt_i_0 ?_
  refine z_iast 86 (pc2 := 14) (j := 4) rfl dX12_check_13 rfl rfl (by decide) (by decide) ?_
  obtain ⟨s2, hs2, h⟩ := ab_lt_e h
  refine z_tops hs2 ?_
  refine z_iconst (pc2 := 15) rfl dX12_check_14 lt_i_0 ?_
  refine z_istore_n (pc2 := 16) (L2 := [some (.ref 85), some (.int x1), some (.int (0 : Int32))]) rfl dX12_check_15 (by decide) rfl rfl ?_
  refine z_fgt [true, true, true] (L2 := [some (.ref 85), some (.int x1), some (.int (0 : Int32))]) rfl ?_
  refine e_X12_check_L16 (fun s10 h => ?_) _ _ _ h
  refine z_iconst (pc2 := 58) rfl dX12_check_57 lt_i_0 ?_
  exact z_iret dX12_check_58 rfl rfl (fi_w h)
def f_X12_wetNow_L4 (σ : ab_F) (K : Int32 → Option Int32) : Nat → Int32 → Int32 → Option Int32
  | 0, _, _ => none
  | n + 1, u1, u2 => (if (σ 86 5) ≤ u2 then (K u1) else (f_X12_isWet u2 σ).bind (fun q2 => (if (ab_b q2) = 0 then ab_lt ((u1 ||| (0 : Int32))) (fun x4 => ab_lt (u2 + (1 : Int32)) (fun x5 => (f_X12_wetNow_L4 σ K n x4 x5))) else ab_lt ((u1 ||| ((1 : Int32) <<< (u2 &&& 31)))) (fun x6 => ab_lt (u2 + (1 : Int32)) (fun x7 => (f_X12_wetNow_L4 σ K n x6 x7))))))
set_option maxRecDepth 100000 in
set_option maxHeartbeats 4000000 in
theorem e_X12_wetNow_L4 {sc : Nat × (Nat → Int32)} {r : Option Nat × Option Nat} {σ : ab_F} {K : Int32 → Option Int32} {res : Int32} (hK : ∀ (u1 : Int32), K u1 = some res → ab_E mX12_wetNow 2 sc 38 [none, some (.int u1), none] [] (σ, r) (fun v S => v = some (.int res) ∧ S = (σ, r))) : ∀ (n : Nat) (u1 : Int32) (u2 : Int32), f_X12_wetNow_L4 σ K n u1 u2 = some res → ab_E mX12_wetNow 2 sc 4 [some (.ref 85), some (.int u1), some (.int u2)] [] (σ, r) (fun v S => v = some (.int res) ∧ S = (σ, r)) := by
  intro n
  induction n with
  | zero =>
    intro u1 u2 h
    rw [f_X12_wetNow_L4] at h
    cases h
  | succ n ih =>
    intro u1 u2 h
    rw [f_X12_wetNow_L4] at h
    refine z_iload_n (pc2 := 5) rfl dX12_wetNow_4 rfl ?_
    refine z_aload_n (pc2 := 6) rfl dX12_wetNow_5 rfl ?_
    refine z_getR 85 12 0 86 (pc2 := 9) rfl dX12_wetNow_6 rfl rfl ff_12_0 wd_977 rfl ?_
    refine z_iconst (pc2 := 10) rfl dX12_wetNow_9 lt_i_5 ?_
    refine z_iald 86 (pc2 := 11) (j := 5) rfl dX12_wetNow_10 rfl rfl (by decide) (by decide) ?_
    refine z_icmp_ge (pc2 := 14) (tgt := 38) rfl dX12_wetNow_11 (by decide) (fun hc1 => ?_) (fun hc1 => ?_)
    · replace h := ab_pos hc1 h
      refine z_fgt [false, true, false] (L2 := [none, some (.int u1), none]) rfl ?_
      exact hK _ h
    · replace h := ab_neg hc1 h
      refine z_iload_n (pc2 := 15) rfl dX12_wetNow_14 rfl ?_
      refine z_aload_n (pc2 := 16) rfl dX12_wetNow_15 rfl ?_
      refine z_iload_n (pc2 := 17) rfl dX12_wetNow_16 rfl ?_
      obtain ⟨q2, hq2, h⟩ := ab_bnd h
      refine z_callVi 85 [.int u2] [some (.ref 85), some (.int u2)] (pc2 := 20) rfl rfl dX12_wetNow_17 ok_X12_isWet ⟨fun _ => rfl, fun _ => Nat.le_of_ble_eq_true rfl⟩ rfl rv_85 wd_1125 wd_1127 wd_30 rfl (e_X12_isWet hq2) ?_
      refine z_if_eq (pc2 := 23) (tgt := 29) rfl dX12_wetNow_20 (by decide) (fun hc3 => ?_) (fun hc3 => ?_)
      · replace h := ab_pos hc3 h
        refine z_iconst (pc2 := 30) rfl dX12_wetNow_29 lt_i_0 ?_
        refine z_ior (pc2 := 31) rfl dX12_wetNow_30 ?_
        obtain ⟨x4, hxx4, h⟩ := ab_lt_e h
        refine z_top hxx4 ?_
        refine z_istore_n (pc2 := 32) (L2 := [some (.ref 85), some (.int x4), some (.int u2)]) rfl dX12_wetNow_31 (by decide) rfl rfl ?_
        obtain ⟨x5, hxx5, h⟩ := ab_lt_e h
        refine z_iinc (pc2 := 35) (v := x5) (L2 := [some (.ref 85), some (.int x4), some (.int x5)]) rfl dX12_wetNow_32 rfl (by rw [hxx5]; rfl) (by decide) rfl rfl ?_
        refine ab_goto (tgt := 4) dX12_wetNow_35 (by decide) ?_
        refine z_fgt [true, true, true] (L2 := [some (.ref 85), some (.int x4), some (.int x5)]) rfl ?_
        exact ih _ _ h
      · replace h := ab_neg hc3 h
        refine z_iconst (pc2 := 24) rfl dX12_wetNow_23 lt_i_1 ?_
        refine z_iload_n (pc2 := 25) rfl dX12_wetNow_24 rfl ?_
        refine z_ishl (pc2 := 26) rfl dX12_wetNow_25 ?_
        refine ab_goto (tgt := 30) dX12_wetNow_26 (by decide) ?_
        refine z_ior (pc2 := 31) rfl dX12_wetNow_30 ?_
        obtain ⟨x6, hxx6, h⟩ := ab_lt_e h
        refine z_top hxx6 ?_
        refine z_istore_n (pc2 := 32) (L2 := [some (.ref 85), some (.int x6), some (.int u2)]) rfl dX12_wetNow_31 (by decide) rfl rfl ?_
        obtain ⟨x7, hxx7, h⟩ := ab_lt_e h
        refine z_iinc (pc2 := 35) (v := x7) (L2 := [some (.ref 85), some (.int x6), some (.int x7)]) rfl dX12_wetNow_32 rfl (by rw [hxx7]; rfl) (by decide) rfl rfl ?_
        refine ab_goto (tgt := 4) dX12_wetNow_35 (by decide) ?_
        refine z_fgt [true, true, true] (L2 := [some (.ref 85), some (.int x6), some (.int x7)]) rfl ?_
        exact ih _ _ h
def f_X12_wetNow (σ : ab_F) : Option Int32 := (f_X12_wetNow_L4 σ (fun (k8 : Int32) => (some k8)) ab_fu (0 : Int32) (0 : Int32))
set_option maxRecDepth 100000 in
set_option maxHeartbeats 4000000 in
theorem e_X12_wetNow {sc : Nat × (Nat → Int32)} {r : Option Nat × Option Nat} {σ : ab_F} {res : Int32} (h : f_X12_wetNow σ = some res) : ab_E mX12_wetNow 2 sc 0 [some (.ref 85), none, none] [] (σ, r) (fun v S => v = some (.int res) ∧ S = (σ, r)) := by
  unfold f_X12_wetNow at h
  refine z_iconst (pc2 := 1) rfl dX12_wetNow_0 lt_i_0 ?_
  refine z_istore_n (pc2 := 2) (L2 := [some (.ref 85), some (.int (0 : Int32)), none]) rfl dX12_wetNow_1 (by decide) rfl rfl ?_
  refine z_iconst (pc2 := 3) rfl dX12_wetNow_2 lt_i_0 ?_
  refine z_istore_n (pc2 := 4) (L2 := [some (.ref 85), some (.int (0 : Int32)), some (.int (0 : Int32))]) rfl dX12_wetNow_3 (by decide) rfl rfl ?_
  refine z_fgt [true, true, true] (L2 := [some (.ref 85), some (.int (0 : Int32)), some (.int (0 : Int32))]) rfl ?_
  refine e_X12_wetNow_L4 (fun k8 h => ?_) _ _ _ h
  refine z_iload_n (pc2 := 39) rfl dX12_wetNow_38 rfl ?_
  exact z_iret dX12_wetNow_39 rfl rfl (fi_p h)
def f_X12_waterAll_L4 (σ : ab_F) (K : Int32 → Option Int32) : Nat → Int32 → Int32 → Option Int32
  | 0, _, _ => none
  | n + 1, u1, u2 => (if (16 : Int32) ≤ u2 then (K u1) else ab_ck (ab_ib ((28 : Int32) + u2) 450) (ab_lt ((u1 + (σ 86 (((28 : Int32) + u2)).toNatClampNeg))) (fun x3 => ab_lt (u2 + (1 : Int32)) (fun x4 => (f_X12_waterAll_L4 σ K n x3 x4)))))
set_option maxRecDepth 100000 in
set_option maxHeartbeats 4000000 in
theorem e_X12_waterAll_L4 {sc : Nat × (Nat → Int32)} {r : Option Nat × Option Nat} {σ : ab_F} {K : Int32 → Option Int32} {res : Int32} (hK : ∀ (u1 : Int32), K u1 = some res → ab_E mX12_waterAll 0 sc 28 [none, some (.int u1), none] [] (σ, r) (fun v S => v = some (.int res) ∧ S = (σ, r))) : ∀ (n : Nat) (u1 : Int32) (u2 : Int32), f_X12_waterAll_L4 σ K n u1 u2 = some res → ab_E mX12_waterAll 0 sc 4 [some (.ref 85), some (.int u1), some (.int u2)] [] (σ, r) (fun v S => v = some (.int res) ∧ S = (σ, r)) := by
  intro n
  induction n with
  | zero =>
    intro u1 u2 h
    rw [f_X12_waterAll_L4] at h
    cases h
  | succ n ih =>
    intro u1 u2 h
    rw [f_X12_waterAll_L4] at h
    refine z_iload_n (pc2 := 5) rfl dX12_waterAll_4 rfl ?_
    refine z_bipush (pc2 := 7) rfl dX12_waterAll_5 lt_b_16 ?_
    refine z_icmp_ge (pc2 := 10) (tgt := 28) rfl dX12_waterAll_7 (by decide) (fun hc1 => ?_) (fun hc1 => ?_)
    · replace h := ab_pos hc1 h
      refine z_fgt [false, true, false] (L2 := [none, some (.int u1), none]) rfl ?_
      exact hK _ h
    · replace h := ab_neg hc1 h
      refine z_iload_n (pc2 := 11) rfl dX12_waterAll_10 rfl ?_
      refine z_aload_n (pc2 := 12) rfl dX12_waterAll_11 rfl ?_
      refine z_getR 85 12 0 86 (pc2 := 15) rfl dX12_waterAll_12 rfl rfl ff_12_0 wd_977 rfl ?_
      refine z_bipush (pc2 := 17) rfl dX12_waterAll_15 lt_b_28 ?_
      refine z_iload_n (pc2 := 18) rfl dX12_waterAll_17 rfl ?_
      refine z_iadd (pc2 := 19) rfl dX12_waterAll_18 ?_
      obtain ⟨hb2, h⟩ := ab_ck_e h
      refine z_iald 86 (pc2 := 20) (j := (((28 : Int32) + u2)).toNatClampNeg) rfl dX12_waterAll_19 rfl rfl hb2 rfl ?_
      refine z_iadd (pc2 := 21) rfl dX12_waterAll_20 ?_
      obtain ⟨x3, hxx3, h⟩ := ab_lt_e h
      refine z_top hxx3 ?_
      refine z_istore_n (pc2 := 22) (L2 := [some (.ref 85), some (.int x3), some (.int u2)]) rfl dX12_waterAll_21 (by decide) rfl rfl ?_
      obtain ⟨x4, hxx4, h⟩ := ab_lt_e h
      refine z_iinc (pc2 := 25) (v := x4) (L2 := [some (.ref 85), some (.int x3), some (.int x4)]) rfl dX12_waterAll_22 rfl (by rw [hxx4]; rfl) (by decide) rfl rfl ?_
      refine ab_goto (tgt := 4) dX12_waterAll_25 (by decide) ?_
      refine z_fgt [true, true, true] (L2 := [some (.ref 85), some (.int x3), some (.int x4)]) rfl ?_
      exact ih _ _ h
def f_X12_waterAll (σ : ab_F) : Option Int32 := (f_X12_waterAll_L4 σ (fun (k5 : Int32) => (some k5)) ab_fu (0 : Int32) (0 : Int32))
set_option maxRecDepth 100000 in
set_option maxHeartbeats 4000000 in
theorem e_X12_waterAll {sc : Nat × (Nat → Int32)} {r : Option Nat × Option Nat} {σ : ab_F} {res : Int32} (h : f_X12_waterAll σ = some res) : ab_E mX12_waterAll 0 sc 0 [some (.ref 85), none, none] [] (σ, r) (fun v S => v = some (.int res) ∧ S = (σ, r)) := by
  unfold f_X12_waterAll at h
  refine z_iconst (pc2 := 1) rfl dX12_waterAll_0 lt_i_0 ?_
  refine z_istore_n (pc2 := 2) (L2 := [some (.ref 85), some (.int (0 : Int32)), none]) rfl dX12_waterAll_1 (by decide) rfl rfl ?_
  refine z_iconst (pc2 := 3) rfl dX12_waterAll_2 lt_i_0 ?_
  refine z_istore_n (pc2 := 4) (L2 := [some (.ref 85), some (.int (0 : Int32)), some (.int (0 : Int32))]) rfl dX12_waterAll_3 (by decide) rfl rfl ?_
  refine z_fgt [true, true, true] (L2 := [some (.ref 85), some (.int (0 : Int32)), some (.int (0 : Int32))]) rfl ?_
  refine e_X12_waterAll_L4 (fun k5 h => ?_) _ _ _ h
  refine z_iload_n (pc2 := 29) rfl dX12_waterAll_28 rfl ?_
  exact z_iret dX12_waterAll_29 rfl rfl (fi_p h)
def f_X12_count (a1 : Int32) (σ : ab_F) : Option (Int32 × ab_F) := (if a1 = (0 : Int32) then (some ((σ 86 5), σ)) else if a1 = (1 : Int32) then (some ((σ 86 0), σ)) else if a1 = (2 : Int32) then (some ((σ 86 1), σ)) else if a1 = (3 : Int32) then (f_X12_waterAll σ).bind (fun q5 => (some (q5, σ))) else if a1 = (4 : Int32) then (f_X12_wetNow σ).bind (fun q7 => (some (q7, σ))) else if a1 = (5 : Int32) then (f_X12_knownNow σ).bind (fun q9 => (some (q9, σ))) else if a1 = (6 : Int32) then (f_X12_downNow σ).bind (fun q11 => (some (q11, σ))) else if a1 = (7 : Int32) then (some ((σ 86 3), σ)) else if a1 = (8 : Int32) then (some ((σ 86 4), σ)) else if a1 = (9 : Int32) then (some ((σ 85 12), σ)) else if a1 = (10 : Int32) then (some ((σ 86 2), σ)) else (f_X12_error (1 : Int32) σ).bind (fun q16 => (some (q16.1, q16.2))))
set_option maxRecDepth 100000 in
set_option maxHeartbeats 4000000 in
theorem e_X12_count {sc : Nat × (Nat → Int32)} {r : Option Nat × Option Nat} {a1 : Int32} {σ : ab_F} {res : (Int32 × ab_F)} (h : f_X12_count a1 σ = some res) : ab_E mX12_count 3 sc 0 [some (.ref 85), some (.int a1)] [] (σ, r) (fun v S => v = some (.int res.1) ∧ S = (res.2, r)) := by
  unfold f_X12_count at h
  refine z_iload_n (pc2 := 1) rfl dX12_count_0 rfl ?_
  by_cases hc1 : a1 = (0 : Int32)
  · replace h := ab_pos hc1 h
    refine ab_tsIn (tgt := 60) dX12_count_1 (by rw [hc1]; decide) (by rw [hc1]; decide) (by rw [hc1]; rfl) (by decide) ?_
    refine z_aload_n (pc2 := 61) rfl dX12_count_60 rfl ?_
    refine z_getR 85 12 0 86 (pc2 := 64) rfl dX12_count_61 rfl rfl ff_12_0 wd_977 rfl ?_
    refine z_iconst (pc2 := 65) rfl dX12_count_64 lt_i_5 ?_
    refine z_iald 86 (pc2 := 66) (j := 5) rfl dX12_count_65 rfl rfl (by decide) (by decide) ?_
    exact z_iret dX12_count_66 rfl rfl (fi_w h)
  · replace h := ab_neg hc1 h
    by_cases hc2 : a1 = (1 : Int32)
    · replace h := ab_pos hc2 h
      refine ab_tsIn (tgt := 67) dX12_count_1 (by rw [hc2]; decide) (by rw [hc2]; decide) (by rw [hc2]; rfl) (by decide) ?_
      refine z_aload_n (pc2 := 68) rfl dX12_count_67 rfl ?_
      refine z_getR 85 12 0 86 (pc2 := 71) rfl dX12_count_68 rfl rfl ff_12_0 wd_977 rfl ?_
      refine z_iconst (pc2 := 72) rfl dX12_count_71 lt_i_0 ?_
      refine z_iald 86 (pc2 := 73) (j := 0) rfl dX12_count_72 rfl rfl (by decide) (by decide) ?_
      exact z_iret dX12_count_73 rfl rfl (fi_w h)
    · replace h := ab_neg hc2 h
      by_cases hc3 : a1 = (2 : Int32)
      · replace h := ab_pos hc3 h
        refine ab_tsIn (tgt := 74) dX12_count_1 (by rw [hc3]; decide) (by rw [hc3]; decide) (by rw [hc3]; rfl) (by decide) ?_
        refine z_aload_n (pc2 := 75) rfl dX12_count_74 rfl ?_
        refine z_getR 85 12 0 86 (pc2 := 78) rfl dX12_count_75 rfl rfl ff_12_0 wd_977 rfl ?_
        refine z_iconst (pc2 := 79) rfl dX12_count_78 lt_i_1 ?_
        refine z_iald 86 (pc2 := 80) (j := 1) rfl dX12_count_79 rfl rfl (by decide) (by decide) ?_
        exact z_iret dX12_count_80 rfl rfl (fi_w h)
      · replace h := ab_neg hc3 h
        by_cases hc4 : a1 = (3 : Int32)
        · replace h := ab_pos hc4 h
          refine ab_tsIn (tgt := 81) dX12_count_1 (by rw [hc4]; decide) (by rw [hc4]; decide) (by rw [hc4]; rfl) (by decide) ?_
          refine z_aload_n (pc2 := 82) rfl dX12_count_81 rfl ?_
          obtain ⟨q5, hq5, h⟩ := ab_bnd h
          refine z_callVi 85 [] [some (.ref 85), none, none] (pc2 := 85) rfl rfl dX12_count_82 ok_X12_waterAll ⟨fun _ => rfl, fun _ => Nat.le_of_ble_eq_true rfl⟩ rfl rv_85 wd_1409 wd_1411 wd_59 rfl (e_X12_waterAll hq5) ?_
          exact z_iret dX12_count_85 rfl rfl (fi_w h)
        · replace h := ab_neg hc4 h
          by_cases hc6 : a1 = (4 : Int32)
          · replace h := ab_pos hc6 h
            refine ab_tsIn (tgt := 86) dX12_count_1 (by rw [hc6]; decide) (by rw [hc6]; decide) (by rw [hc6]; rfl) (by decide) ?_
            refine z_aload_n (pc2 := 87) rfl dX12_count_86 rfl ?_
            obtain ⟨q7, hq7, h⟩ := ab_bnd h
            refine z_callVi 85 [] [some (.ref 85), none, none] (pc2 := 90) rfl rfl dX12_count_87 ok_X12_wetNow ⟨fun _ => rfl, fun _ => Nat.le_of_ble_eq_true rfl⟩ rfl rv_85 wd_1413 wd_1415 wd_60 rfl (e_X12_wetNow hq7) ?_
            exact z_iret dX12_count_90 rfl rfl (fi_w h)
          · replace h := ab_neg hc6 h
            by_cases hc8 : a1 = (5 : Int32)
            · replace h := ab_pos hc8 h
              refine ab_tsIn (tgt := 91) dX12_count_1 (by rw [hc8]; decide) (by rw [hc8]; decide) (by rw [hc8]; rfl) (by decide) ?_
              refine z_aload_n (pc2 := 92) rfl dX12_count_91 rfl ?_
              obtain ⟨q9, hq9, h⟩ := ab_bnd h
              refine z_callVi 85 [] [some (.ref 85), none, none] (pc2 := 95) rfl rfl dX12_count_92 ok_X12_knownNow ⟨fun _ => rfl, fun _ => Nat.le_of_ble_eq_true rfl⟩ rfl rv_85 wd_1247 wd_1249 wd_46 rfl (e_X12_knownNow hq9) ?_
              exact z_iret dX12_count_95 rfl rfl (fi_w h)
            · replace h := ab_neg hc8 h
              by_cases hc10 : a1 = (6 : Int32)
              · replace h := ab_pos hc10 h
                refine ab_tsIn (tgt := 96) dX12_count_1 (by rw [hc10]; decide) (by rw [hc10]; decide) (by rw [hc10]; rfl) (by decide) ?_
                refine z_aload_n (pc2 := 97) rfl dX12_count_96 rfl ?_
                obtain ⟨q11, hq11, h⟩ := ab_bnd h
                refine z_callVi 85 [] [some (.ref 85), none, none] (pc2 := 100) rfl rfl dX12_count_97 ok_X12_downNow ⟨fun _ => rfl, fun _ => Nat.le_of_ble_eq_true rfl⟩ rfl rv_85 wd_1144 wd_1146 wd_34 rfl (e_X12_downNow hq11) ?_
                exact z_iret dX12_count_100 rfl rfl (fi_w h)
              · replace h := ab_neg hc10 h
                by_cases hc12 : a1 = (7 : Int32)
                · replace h := ab_pos hc12 h
                  refine ab_tsIn (tgt := 101) dX12_count_1 (by rw [hc12]; decide) (by rw [hc12]; decide) (by rw [hc12]; rfl) (by decide) ?_
                  refine z_aload_n (pc2 := 102) rfl dX12_count_101 rfl ?_
                  refine z_getR 85 12 0 86 (pc2 := 105) rfl dX12_count_102 rfl rfl ff_12_0 wd_977 rfl ?_
                  refine z_iconst (pc2 := 106) rfl dX12_count_105 lt_i_3 ?_
                  refine z_iald 86 (pc2 := 107) (j := 3) rfl dX12_count_106 rfl rfl (by decide) (by decide) ?_
                  exact z_iret dX12_count_107 rfl rfl (fi_w h)
                · replace h := ab_neg hc12 h
                  by_cases hc13 : a1 = (8 : Int32)
                  · replace h := ab_pos hc13 h
                    refine ab_tsIn (tgt := 108) dX12_count_1 (by rw [hc13]; decide) (by rw [hc13]; decide) (by rw [hc13]; rfl) (by decide) ?_
                    refine z_aload_n (pc2 := 109) rfl dX12_count_108 rfl ?_
                    refine z_getR 85 12 0 86 (pc2 := 112) rfl dX12_count_109 rfl rfl ff_12_0 wd_977 rfl ?_
                    refine z_iconst (pc2 := 113) rfl dX12_count_112 lt_i_4 ?_
                    refine z_iald 86 (pc2 := 114) (j := 4) rfl dX12_count_113 rfl rfl (by decide) (by decide) ?_
                    exact z_iret dX12_count_114 rfl rfl (fi_w h)
                  · replace h := ab_neg hc13 h
                    by_cases hc14 : a1 = (9 : Int32)
                    · replace h := ab_pos hc14 h
                      refine ab_tsIn (tgt := 115) dX12_count_1 (by rw [hc14]; decide) (by rw [hc14]; decide) (by rw [hc14]; rfl) (by decide) ?_
                      refine z_aload_n (pc2 := 116) rfl dX12_count_115 rfl ?_
                      refine z_getI 85 12 12 (pc2 := 119) rfl dX12_count_116 rfl rfl ff_12_12 wd_989 ?_
                      exact z_iret dX12_count_119 rfl rfl (fi_w h)
                    · replace h := ab_neg hc14 h
                      by_cases hc15 : a1 = (10 : Int32)
                      · replace h := ab_pos hc15 h
                        refine ab_tsIn (tgt := 120) dX12_count_1 (by rw [hc15]; decide) (by rw [hc15]; decide) (by rw [hc15]; rfl) (by decide) ?_
                        refine z_aload_n (pc2 := 121) rfl dX12_count_120 rfl ?_
                        refine z_getR 85 12 0 86 (pc2 := 124) rfl dX12_count_121 rfl rfl ff_12_0 wd_977 rfl ?_
                        refine z_iconst (pc2 := 125) rfl dX12_count_124 lt_i_2 ?_
                        refine z_iald 86 (pc2 := 126) (j := 2) rfl dX12_count_125 rfl rfl (by decide) (by decide) ?_
                        exact z_iret dX12_count_126 rfl rfl (fi_w h)
                      · replace h := ab_neg hc15 h
                        have thc1 := ab_ne_toInt (k := 0) hc1 (by decide)
                        have thc2 := ab_ne_toInt (k := 1) hc2 (by decide)
                        have thc3 := ab_ne_toInt (k := 2) hc3 (by decide)
                        have thc4 := ab_ne_toInt (k := 3) hc4 (by decide)
                        have thc6 := ab_ne_toInt (k := 4) hc6 (by decide)
                        have thc8 := ab_ne_toInt (k := 5) hc8 (by decide)
                        have thc10 := ab_ne_toInt (k := 6) hc10 (by decide)
                        have thc12 := ab_ne_toInt (k := 7) hc12 (by decide)
                        have thc13 := ab_ne_toInt (k := 8) hc13 (by decide)
                        have thc14 := ab_ne_toInt (k := 9) hc14 (by decide)
                        have thc15 := ab_ne_toInt (k := 10) hc15 (by decide)
                        refine ab_tsOut (tgt := 127) dX12_count_1 (by omega) (by decide) ?_
                        refine z_aload_n (pc2 := 128) rfl dX12_count_127 rfl ?_
                        refine z_iconst (pc2 := 129) rfl dX12_count_128 lt_i_1 ?_
                        obtain ⟨q16, hq16, h⟩ := ab_bnd h
                        refine z_callVi 85 [.int (1 : Int32)] [some (.ref 85), some (.int (1 : Int32))] (pc2 := 132) rfl rfl dX12_count_129 ok_X12_error ⟨fun _ => rfl, fun _ => Nat.le_of_ble_eq_true rfl⟩ rfl rv_85 wd_1045 wd_1047 wd_16 rfl (e_X12_error hq16) ?_
                        exact z_iret dX12_count_132 rfl rfl (fi_w h)
def f_X12_told (a1 : Int32) (σ : ab_F) : Option (Int32 × ab_F) := (f_X12_in a1 (1 : Int32) (6 : Int32) σ).bind (fun q1 => (if (ab_b q1) = 0 then (f_X12_error (1 : Int32) σ).bind (fun q3 => (some (q3.1, q3.2))) else ab_ck (ab_ib a1 7) ((some ((σ 89 (a1).toNatClampNeg), σ)))))
set_option maxRecDepth 100000 in
set_option maxHeartbeats 4000000 in
theorem e_X12_told {sc : Nat × (Nat → Int32)} {r : Option Nat × Option Nat} {a1 : Int32} {σ : ab_F} {res : (Int32 × ab_F)} (h : f_X12_told a1 σ = some res) : ab_E mX12_told 1 sc 0 [some (.ref 85), some (.int a1)] [] (σ, r) (fun v S => v = some (.int res.1) ∧ S = (res.2, r)) := by
  unfold f_X12_told at h
  refine z_iload_n (pc2 := 1) rfl dX12_told_0 rfl ?_
  refine z_iconst (pc2 := 2) rfl dX12_told_1 lt_i_1 ?_
  refine z_bipush (pc2 := 4) rfl dX12_told_2 lt_b_6 ?_
  obtain ⟨q1, hq1, h⟩ := ab_bnd h
  refine z_callSi [.int a1, .int (1 : Int32), .int (6 : Int32)] [some (.int a1), some (.int (1 : Int32)), some (.int (6 : Int32))] (pc2 := 7) rfl rfl dX12_told_4 ok_X12_in ⟨fun _ => rfl, fun _ => Nat.le_of_ble_eq_true rfl⟩ rfl wd_1042 wd_1043 rfl (e_X12_in hq1) ?_
  refine z_if_eq (pc2 := 10) (tgt := 19) rfl dX12_told_7 (by decide) (fun hc2 => ?_) (fun hc2 => ?_)
  · replace h := ab_pos hc2 h
    refine z_aload_n (pc2 := 20) rfl dX12_told_19 rfl ?_
    refine z_iconst (pc2 := 21) rfl dX12_told_20 lt_i_1 ?_
    obtain ⟨q3, hq3, h⟩ := ab_bnd h
    refine z_callVi 85 [.int (1 : Int32)] [some (.ref 85), some (.int (1 : Int32))] (pc2 := 24) rfl rfl dX12_told_21 ok_X12_error ⟨fun _ => rfl, fun _ => Nat.le_of_ble_eq_true rfl⟩ rfl rv_85 wd_1045 wd_1047 wd_16 rfl (e_X12_error hq3) ?_
    exact z_iret dX12_told_24 rfl rfl (fi_w h)
  · replace h := ab_neg hc2 h
    refine z_aload_n (pc2 := 11) rfl dX12_told_10 rfl ?_
    refine z_getR 85 12 4 89 (pc2 := 14) rfl dX12_told_11 rfl rfl ff_12_4 wd_981 rfl ?_
    refine z_iload_n (pc2 := 15) rfl dX12_told_14 rfl ?_
    obtain ⟨hb4, h⟩ := ab_ck_e h
    refine z_iald 89 (pc2 := 16) (j := (a1).toNatClampNeg) rfl dX12_told_15 rfl rfl hb4 rfl ?_
    refine ab_goto (tgt := 24) dX12_told_16 (by decide) ?_
    exact z_iret dX12_told_24 rfl rfl (fi_w h)
