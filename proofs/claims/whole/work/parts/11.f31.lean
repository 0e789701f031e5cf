def f_X12_check (σ : ab_F) : Option (Int32 × ab_F) := ab_lt ((σ 86 4)) (fun x1 => ab_lt (ab_u σ 86 4 (0 : Int32)) (fun (s2 : ab_F) => (f_X12_check_L16 x1 (fun (s10 : ab_F) => (some ((0 : Int32), s10))) ab_fu (0 : Int32) s2)))
set_option maxRecDepth 100000 in
set_option maxHeartbeats 4000000 in
theorem e_X12_check {sc : Nat × (Nat → Int32)} {r : Option Nat × Option Nat} {σ : ab_F} {res : (Int32 × ab_F)} (h : f_X12_check σ = some res) : ab_E mX12_check 4 sc 0 [some (.ref 85), none, none] [] (σ, r) (fun v S => v = some (.int res.1) ∧ S = (res.2, r)) := by
  unfold f_X12_check at h
  refine z_aload_n (pc2 := 1) rfl dX12_check_0 rfl ?_
  refine z_getR 85 12 0 86 (pc2 := 4) rfl dX12_check_1 rfl rfl ff_12_0 wd_977 rfl ?_
  refine z_iconst (pc2 := 5) rfl dX12_check_4 lt_i_4 ?_
  refine z_iald 86 (pc2 := 6) (j := 4) rfl dX12_check_5 rfl rfl (by decide) (by decide) ?_
  obtain ⟨x1, hxx1, h⟩ := ab_lt_e h
  refine z_top hxx1 ?_
  refine z_istore_n (pc2 := 7) (L2 := [some (.ref 85), some (.int x1), none]) rfl dX12_check_6 (by decide) rfl rfl ?_
  refine z_aload_n (pc2 := 8) rfl dX12_check_7 rfl ?_
  refine z_getR 85 12 0 86 (pc2 := 11) rfl dX12_check_8 rfl rfl ff_12_0 wd_977 rfl ?_
  refine z_iconst (pc2 := 12) rfl dX12_check_11 lt_i_4 ?_
  refine z_iconst (pc2 := 13) rfl dX12_check_12 lt_i_0 ?_
  refine z_iast 86 (pc2 := 14) (j := 4) rfl dX12_check_13 rfl rfl (by decide) (by decide) ?_
  obtain ⟨s2, hs2, h⟩ := ab_lt_e h
  refine z_tops hs2 ?_
  refine z_iconst (pc2 := 15) rfl dX12_check_14 lt_i_0 ?_
  refine z_istore_n (pc2 := 16) (L2 := [some (.ref 85), some (.int x1), some (.int (0 : Int32))]) rfl dX12_check_15 (by decide) rfl rfl ?_
  refine z_fgt [true, true, true] (L2 := [some (.ref 85), some (.int x1), some (.int (0 : Int32))]) rfl ?_
  refine e_X12_check_L16 (fun s10 h => ?_) _ _ _ h
  refine z_iconst (pc2 := 58) rfl dX12_check_57 lt_i_0 ?_
  exact z_iret dX12_check_58 rfl rfl (fi_w h)
def f_X12_wetNow_L4 (σ : ab_F) (K : Int32 → Option Int32) : Nat → Int32 → Int32 → Option Int32
  | 0, _, _ => none
  | n + 1, u1, u2 => (if (σ 86 5) ≤ u2 then (K u1) else (f_X12_isWet u2 σ).bind (fun q2 => (if (ab_b q2) = 0 then ab_lt ((u1 ||| (0 : Int32))) (fun x4 => ab_lt (u2 + (1 : Int32)) (fun x5 => (f_X12_wetNow_L4 σ K n x4 x5))) else ab_lt ((u1 ||| ((1 : Int32) <<< (u2 &&& 31)))) (fun x6 => ab_lt (u2 + (1 : Int32)) (fun x7 => (f_X12_wetNow_L4 σ K n x6 x7))))))
set_option maxRecDepth 100000 in
set_option maxHeartbeats 4000000 in
theorem e_X12_wetNow_L4 {sc : Nat × (Nat → Int32)} {r : Option Nat × Option Nat} {σ : ab_F} {K : Int32 → Option Int32} {res : Int32} (hK : ∀ (u1 : Int32), K u1 = some res → ab_E mX12_wetNow 2 sc 38 [none, some (.int u1), none] [] (σ, r) (fun v S => v = some (.int res) ∧ S = (σ, r))) : ∀ (n : Nat) (u1 : Int32) (u2 : Int32), f_X12_wetNow_L4 σ K n u1 u2 = some res → ab_E mX12_wetNow 2 sc 4 [some (.ref 85), some (.int u1), some (.int u2)] [] (σ, r) (fun v S => v = some (.int res) ∧ S = (σ, r)) := by
  intro n
  induction n with
  | zero =>
    intro u1 u2 h
    rw [f_X12_wetNow_L4] at h
    cases h
  | succ n ih =>
    intro u1 u2 h
    rw [f_X12_wetNow_L4] at h
    refine z_iload_n (pc2 := 5) rfl dX12_wetNow_4 rfl ?_
    refine z_aload_n (pc2 := 6) rfl dX12_wetNow_5 rfl ?_
    refine z_getR 85 12 0 86 (pc2 := 9) rfl dX12_wetNow_6 rfl rfl ff_12_0 wd_977 rfl ?_
    refine z_iconst (pc2 := 10) rfl dX12_wetNow_9 lt_i_5 ?_
    refine z_iald 86 (pc2 := 11) (j := 5) rfl dX12_wetNow_10 rfl rfl (by decide) (by decide) ?_
    refine z_icmp_ge (pc2 := 14) (tgt := 38) rfl dX12_wetNow_11 (by decide) (fun hc1 => ?_) (fun hc1 => ?_)
    · replace h := ab_pos hc1 h
      refine z_fgt [false, true, false] (L2 := [none, some (.int u1), none]) rfl ?_
      exact hK _ h
    · replace h := ab_neg hc1 h
      refine z_iload_n (pc2 := 15) rfl dX12_wetNow_14 rfl ?_
      refine z_aload_n (pc2 := 16) rfl dX12_wetNow_15 rfl ?_
      refine z_iload_n (pc2 := 17) rfl dX12_wetNow_16 rfl ?_
      obtain ⟨q2, hq2, h⟩ := ab_bnd h
      refine z_callVi 85 [.int u2] [some (.ref 85), some (.int u2)] (pc2 := 20) rfl rfl dX12_wetNow_17 ok_X12_isWet ⟨fun _ => rfl, fun _ => Nat.le_of_ble_eq_true rfl⟩ rfl rv_85 wd_1125 wd_1127 wd_30 rfl (e_X12_isWet hq2) ?_
      refine z_if_eq (pc2 := 23) (tgt := 29) rfl dX12_wetNow_20 (by decide) (fun hc3 => ?_) (fun hc3 => ?_)
      · replace h := ab_pos hc3 h
        refine z_iconst (pc2 := 30) rfl dX12_wetNow_29 lt_i_0 ?_
        refine z_ior (pc2 := 31) rfl dX12_wetNow_30 ?_
        obtain ⟨x4, hxx4, h⟩ := ab_lt_e h
        refine z_top hxx4 ?_
        refine z_istore_n (pc2 := 32) (L2 := [some (.ref 85), some (.int x4), some (.int u2)]) rfl dX12_wetNow_31 (by decide) rfl rfl ?_
        obtain ⟨x5, hxx5, h⟩ := ab_lt_e h
        refine z_iinc (pc2 := 35) (v := x5) (L2 := [some (.ref 85), some (.int x4), some (.int x5)]) rfl dX12_wetNow_32 rfl (by rw [hxx5]; rfl) (by decide) rfl rfl ?_
        refine ab_goto (tgt := 4) dX12_wetNow_35 (by decide) ?_
        refine z_fgt [true, true, true] (L2 := [some (.ref 85), some (.int x4), some (.int x5)]) rfl ?_
        exact ih _ _ h
      · replace h := ab_neg hc3 h
        refine z_iconst (pc2 := 24) rfl dX12_wetNow_23 lt_i_1 ?_
        refine z_iload_n (pc2 := 25) rfl dX12_wetNow_24 rfl ?_
        refine z_ishl (pc2 := 26) rfl dX12_wetNow_25 ?_
        refine ab_goto (tgt := 30) dX12_wetNow_26 (by decide) ?_
        refine z_ior (pc2 := 31) rfl dX12_wetNow_30 ?_
        obtain ⟨x6, hxx6, h⟩ := ab_lt_e h
        refine z_top hxx6 ?_
        refine z_istore_n (pc2 := 32) (L2 := [some (.ref 85), some (.int x6), some (.int u2)]) rfl dX12_wetNow_31 (by decide) rfl rfl ?_
        obtain ⟨x7, hxx7, h⟩ := ab_lt_e h
        refine z_iinc (pc2 := 35) (v := x7) (L2 := [some (.ref 85), some (.int x6), some (.int x7)]) rfl dX12_wetNow_32 rfl (by rw [hxx7]; rfl) (by decide) rfl rfl ?_
        refine ab_goto (tgt := 4) dX12_wetNow_35 (by decide) ?_
        refine z_fgt [true, true, true] (L2 := [some (.ref 85), some (.int x6), some (.int x7)]) rfl ?_
        exact ih _ _ h
def f_X12_wetNow (σ : ab_F) : Option Int32 := (f_X12_wetNow_L4 σ (fun (k8 : Int32) => (some k8)) ab_fu (0 : Int32) (0 : Int32))
set_option maxRecDepth 100000 in
set_option maxHeartbeats 4000000 in
theorem e_X12_wetNow {sc : Nat × (Nat → Int32)} {r : Option Nat × Option Nat} {σ : ab_F} {res : Int32} (h : f_X12_wetNow σ = some res) : ab_E mX12_wetNow 2 sc 0 [some (.ref 85), none, none] [] (σ, r) (fun v S => v = some (.int res) ∧ S = (σ, r)) := by
  unfold f_X12_wetNow at h
  refine z_iconst (pc2 := 1) rfl dX12_wetNow_0 lt_i_0 ?_
  refine z_istore_n (pc2 := 2) (L2 := [some (.ref 85), some (.int (0 : Int32)), none]) rfl dX12_wetNow_1 (by decide) rfl rfl ?_
  refine z_iconst (pc2 := 3) rfl dX12_wetNow_2 lt_i_0 ?_
  refine z_istore_n (pc2 := 4) (L2 := [some (.ref 85), some (.int (0 : Int32)), some (.int (0 : Int32))]) rfl dX12_wetNow_3 (by decide) rfl rfl ?_
  refine z_fgt [true, true, true] (L2 := [some (.ref 85), some (.int (0 : Int32)), some (.int (0 : Int32))]) rfl ?_
  refine e_X12_wetNow_L4 (fun k8 h => ?_) _ _ _ h
  refine z_iload_n (pc2 := 39) rfl dX12_wetNow_38 rfl ?_
  exact z_iret dX12_wetNow_39 rfl rfl (fi_p h)
def f_X12_waterAll_L4 (σ : ab_F) (K : Int32 → Option Int32) : Nat → Int32 → Int32 → Option Int32
  | 0, _, _ => none
  | n + 1, u1, u2 => (if (16 : Int32) ≤ u2 then (K u1) else ab_ck (ab_ib ((28 : Int32) + u2) 450) (ab_lt ((u1 + (σ 86 (((28 : Int32) + u2)).toNatClampNeg))) (fun x3 => ab_lt (u2 + (1 : Int32)) (fun x4 => (f_X12_waterAll_L4 σ K n x3 x4)))))
set_option maxRecDepth 100000 in
set_option maxHeartbeats 4000000 in
theorem e_X12_waterAll_L4 {sc : Nat × (Nat → Int32)} {r : Option Nat × Option Nat} {σ : ab_F} {K : Int32 → Option Int32} {res : Int32} (hK : ∀ (u1 : Int32), K u1 = some res → ab_E mX12_waterAll 0 sc 28 [none, some (.int u1), none] [] (σ, r) (fun v S => v = some (.int res) ∧ S = (σ, r))) : ∀ (n : Nat) (u1 : Int32) (u2 : Int32), f_X12_waterAll_L4 σ K n u1 u2 = some res → ab_E mX12_waterAll 0 sc 4 [some (.ref 85), some (.int u1), some (.int u2)] [] (σ, r) (fun v S => v = some (.int res) ∧ S = (σ, r)) := by
  intro n
  induction n with
  | zero =>
    intro u1 u2 h
    rw [f_X12_waterAll_L4] at h
    cases h
  | succ n ih =>
    intro u1 u2 h
    rw [f_X12_waterAll_L4] at h
    refine z_iload_n (pc2 := 5) rfl dX12_waterAll_4 rfl ?_
    refine z_bipush (pc2 := 7) rfl dX12_waterAll_5 lt_b_16 ?_
    refine z_icmp_ge (pc2 := 10) (tgt := 28) rfl dX12_waterAll_7 (by decide) (fun hc1 => ?_) (fun hc1 => ?_)
    · replace h := ab_pos hc1 h
      refine z_fgt [false, true, false] (L2 := [none, some (.int u1), none]) rfl ?_
      exact hK _ h
    · replace h := ab_neg hc1 h
      refine z_iload_n (pc2 := 11) rfl dX12_waterAll_10 rfl ?_
      refine z_aload_n (pc2 := 12) rfl dX12_waterAll_11 rfl ?_
      refine z_getR 85 12 0 86 (pc2 := 15) rfl dX12_waterAll_12 rfl rfl ff_12_0 wd_977 rfl ?_
      refine z_bipush (pc2 := 17) rfl dX12_waterAll_15 lt_b_28 ?_
      refine z_iload_n (pc2 := 18) rfl dX12_waterAll_17 rfl ?_
      refine z_iadd (pc2 := 19) rfl dX12_waterAll_18 ?_
      obtain ⟨hb2, h⟩ := ab_ck_e h
      refine z_iald 86 (pc2 := 20) (j := (((28 : Int32) + u2)).toNatClampNeg) rfl dX12_waterAll_19 rfl rfl hb2 rfl ?_
      refine z_iadd (pc2 := 21) rfl dX12_waterAll_20 ?_
      obtain ⟨x3, hxx3, h⟩ := ab_lt_e h
      refine z_top hxx3 ?_
      refine z_istore_n (pc2 := 22) (L2 := [some (.ref 85), some (.int x3), some (.int u2)]) rfl dX12_waterAll_21 (by decide) rfl rfl ?_
      obtain ⟨x4, hxx4, h⟩ := ab_lt_e h
      refine z_iinc (pc2 := 25) (v := x4) (L2 := [some (.ref 85), some (.int x3), some (.int x4)]) rfl dX12_waterAll_22 rfl (by rw [hxx4]; rfl) (by decide) rfl rfl ?_
      refine ab_goto (tgt := 4) dX12_waterAll_25 (by decide) ?_
      refine z_fgt [true, true, true] (L2 := [some (.ref 85), some (.int x3), some (.int x4)]) rfl ?_
      exact ih _ _ h
def f_X12_waterAll (σ : ab_F) : Option Int32 := (f_X12_waterAll_L4 σ (fun (k5 : Int32) => (some k5)) ab_fu (0 : Int32) (0 : Int32))
set_option maxRecDepth 100000 in
set_option maxHeartbeats 4000000 in
theorem e_X12_waterAll {sc : Nat × (Nat → Int32)} {r : Option Nat × Option Nat} {σ : ab_F} {res : Int32} (h : f_X12_waterAll σ = some res) : ab_E mX12_waterAll 0 sc 0 [some (.ref 85), none, none] [] (σ, r) (fun v S => v = some (.int res) ∧ S = (σ, r)) := by
  unfold f_X12_waterAll at h
  refine z_iconst (pc2 := 1) rfl dX12_waterAll_0 lt_i_0 ?_
  refine z_istore_n (pc2 := 2) (L2 := [some (.ref 85), some (.int (0 : Int32)), none]) rfl dX12_waterAll_1 (by decide) rfl rfl ?_
  refine z_iconst (pc2 := 3) rfl dX12_waterAll_2 lt_i_0 ?_
  refine z_istore_n (pc2 := 4) (L2 := [some (.ref 85), some (.int (0 : Int32)), some (.int (0 : Int32))]) rfl dX12_waterAll_3 (by decide) rfl rfl ?_
  refine z_fgt [true, true, true] (L2 := [some (.ref 85), some (.int (0 : Int32)), some (.int (0 : Int32))]) rfl ?_
  refine e_X12_waterAll_L4 (fun k5 h => ?_) _ _ _ h
  refine z_iload_n (pc2 := 29) rfl dX12_waterAll_28 rfl ?_
  exact z_iret dX12_waterAll_29 rfl rfl (fi_p h)
def f_X12_count (a1 : Int32) (σ : ab_F) : Option (Int32 × ab_F) := (if a1 = (0 : Int32) then (some ((σ 86 5), σ)) else if a1 = (1 : Int32) then (some ((σ 86 0), σ)) else if a1 = (2 : Int32) then (some ((σ 86 1), σ)) else if a1 = (3 : Int32) then (f_X12_waterAll σ).bind (fun q5 => (some (q5, σ))) else if a1 = (4 : Int32) then (f_X12_wetNow σ).bind (fun q7 => (some (q7, σ))) else if a1 = (5 : Int32) then (f_X12_knownNow σ).bind (fun q9 => (some (q9, σ))) else if a1 = (6 : Int32) then (f_X12_downNow σ).bind (fun q11 => (some (q11, σ))) else if a1 = (7 : Int32) then (some ((σ 86 3), σ)) else if a1 = (8 : Int32) then (some ((σ 86 4), σ)) else if a1 = (9 : Int32) then (some ((σ 85 12), σ)) else if a1 = (10 : Int32) then (some ((σ 86 2), σ)) else (f_X12_error (1 : Int32) σ).bind (fun q16 => (some (q16.1, q16.2))))
set_option maxRecDepth 100000 in
set_option maxHeartbeats 4000000 in
theorem e_X12_count {sc : Nat × (Nat → Int32)} {r : Option Nat × Option Nat} {a1 : Int32} {σ : ab_F} {res : (Int32 × ab_F)} (h : f_X12_count a1 σ = some res) : ab_E mX12_count 3 sc 0 [some (.ref 85), some (.int a1)] [] (σ, r) (fun v S => v = some (.int res.1) ∧ S = (res.2, r)) := by
  unfold f_X12_count at h
  refine z_iload_n (pc2 := 1) rfl dX12_count_0 rfl ?_
  by_cases hc1 : a1 = (0 : Int32)
  · replace h := ab_pos hc1 h
    refine ab_tsIn (tgt := 60) dX12_count_1 (by rw [hc1]; decide) (by rw [hc1]; decide) (by rw [hc1]; rfl) (by decide) ?_
    refine z_aload_n (pc2 := 61) rfl dX12_count_60 rfl ?_
    refine z_getR 85 12 0 86 (pc2 := 64) rfl dX12_count_61 rfl rfl ff_12_0 wd_977 rfl ?_
    refine z_iconst (pc2 := 65) rfl dX12_count_64 lt_i_5 ?_
    refine z_iald 86 (pc2 := 66) (j := 5) rfl dX12_count_65 rfl rfl (by decide) (by decide) ?_
    exact z_iret dX12_count_66 rfl rfl (fi_w h)
  · replace h := ab_neg hc1 h
    by_cases hc2 : a1 = (1 : Int32)
    · replace h := ab_pos hc2 h
      refine ab_tsIn (tgt := 67) dX12_count_1 (by rw [hc2]; decide) (by rw [hc2]; decide) (by rw [hc2]; rfl) (by decide) ?_
      refine z_aload_n (pc2 := 68) rfl dX12_count_67 rfl ?_
      refine z_getR 85 12 0 86 (pc2 := 71) rfl dX12_count_68 rfl rfl ff_12_0 wd_977 rfl ?_
      refine z_iconst (pc2 := 72) rfl dX12_count_71 lt_i_0 ?_
      refine z_iald 86 (pc2 := 73) (j := 0) rfl dX12_count_72 rfl rfl (by decide) (by decide) ?_
      exact z_iret dX12_count_73 rfl rfl (fi_w h)
    · replace h := ab_neg hc2 h
      by_cases hc3 : a1 = (2 : Int32)
      · replace h := ab_pos hc3 h
        refine ab_tsIn (tgt := 74) dX12_count_1 (by rw [hc3]; decide) (by rw [hc3]; decide) (by rw [hc3]; rfl) (by decide) ?_
        refine z_aload_n (pc2 := 75) rfl dX12_count_74 rfl ?_
        refine z_getR 85 12 0 86 (pc2 := 78) rfl dX12_count_75 rfl rfl ff_12_0 wd_977 rfl ?_
        refine z_iconst (pc2 := 79) rfl dX12_count_78 lt_i_1 ?_
        refine z_iald 86 (pc2 := 80) (j := 1) rfl dX12_count_79 rfl rfl (by decide) (by decide) ?_
        exact z_iret dX12_count_80 rfl rfl (fi_w h)
      · replace h := ab_neg hc3 h
        by_cases hc4 : a1 = (3 : Int32)
        · replace h := ab_pos hc4 h
          refine ab_tsIn (tgt := 81) dX12_count_1 (by rw [hc4]; decide) (by rw [hc4]; decide) (by rw [hc4]; rfl) (by decide) ?_
          refine z_aload_n (pc2 := 82) rfl dX12_count_81 rfl ?_
          obtain ⟨q5, hq5, h⟩ := ab_bnd h
          refine z_callVi 85 [] [some (.ref 85), none, none] (pc2 := 85) rfl rfl dX12_count_82 ok_X12_waterAll ⟨fun _ => rfl, fun _ => Nat.le_of_ble_eq_true rfl⟩ rfl rv_85 wd_1409 wd_1411 wd_59 rfl (e_X12_waterAll hq5) ?_
          exact z_iret dX12_count_85 rfl rfl (fi_w h)
        · replace h := ab_neg hc4 h
          by_cases hc6 : a1 = (4 : Int32)
          · replace h := ab_pos hc6 h
            refine ab_tsIn (tgt := 86) dX12_count_1 (by rw [hc6]; decide) (by rw [hc6]; decide) (by rw [hc6]; rfl) (by decide) ?_
            refine z_aload_n (pc2 := 87) rfl dX12_count_86 rfl ?_
            obtain ⟨q7, hq7, h⟩ := ab_bnd h
            refine z_callVi 85 [] [some (.ref 85), none, none] (pc2 := 90) rfl rfl dX12_count_87 ok_X12_wetNow ⟨fun _ => rfl, fun _ => Nat.le_of_ble_eq_true rfl⟩ rfl rv_85 wd_1413 wd_1415 wd_60 rfl (e_X12_wetNow hq7) ?_
            exact z_iret dX12_count_90 rfl rfl (fi_w h)
          · replace h := ab_neg hc6 h
            by_cases hc8 : a1 = (5 : Int32)
            · replace h := ab_pos hc8 h
              refine ab_tsIn (tgt := 91) dX12_count_1 (by rw [hc8]; decide) (by rw [hc8]; decide) (by rw [hc8]; rfl) (by decide) ?_
              refine z_aload_n (pc2 := 92) rfl dX12_count_91 rfl ?_
              obtain ⟨q9, hq9, h⟩ := ab_bnd h
              refine z_callVi 85 [] [some (.ref 85), none, none] (pc2 := 95) rfl rfl dX12_count_92 ok_X12_knownNow ⟨fun _ => rfl, fun _ => Nat.le_of_ble_eq_true rfl⟩ rfl rv_85 wd_1247 wd_1249 wd_46 rfl (e_X12_knownNow hq9) ?_
              exact z_iret dX12_count_95 rfl rfl (fi_w h)
            · replace h := ab_neg hc8 h
              by_cases hc10 : a1 = (6 : Int32)
              · replace h := ab_pos hc10 h
                refine ab_tsIn (tgt := 96) dX12_count_1 (by rw [hc10]; decide) (by rw [hc10]; decide) (by rw [hc10]; rfl) (by decide) ?_
                refine z_aload_n (pc2 := 97) rfl dX12_count_96 rfl ?_
                obtain ⟨q11, hq11, h⟩ := ab_bnd h
                refine z_callVi 85 [] [some (.ref 85), none, none] (pc2 := 100) rfl rfl dX12_count_97 ok_X12_downNow ⟨fun _ => rfl, fun _ => Nat.le_of_ble_eq_true rfl⟩ rfl rv_85 wd_1144 wd_1146 wd_34 rfl (e_X12_downNow hq11) ?_
                exact z_iret dX12_count_100 rfl rfl (fi_w h)
              · replace h := ab_neg hc10 h
                by_cases hc12 : a1 = (7 : Int32)
                · replace h := ab_pos hc12 h
                  refine ab_tsIn (tgt := 101) dX12_count_1 (by rw [hc12]; decide) (by rw [hc12]; decide) (by rw [hc12]; rfl) (by decide) ?_
                  refine z_aload_n (pc2 := 102) rfl dX12_count_101 rfl ?_
                  refine z_getR 85 12 0 86 (pc2 := 105) rfl dX12_count_102 rfl rfl ff_12_0 wd_977 rfl ?_
                  refine z_iconst (pc2 := 106) rfl dX12_count_105 lt_i_3 ?_
                  refine z_iald 86 (pc2 := 107) (j := 3) rfl dX12_count_106 rfl rfl (by decide) (by decide) ?_
                  exact z_iret dX12_count_107 rfl rfl (fi_w h)
                · replace h := ab_neg hc12 h
                  by_cases hc13 : a1 = (8 : Int32)
                  · replace h := ab_pos hc13 h
                    refine ab_tsIn (tgt := 108) dX12_count_1 (by rw [hc13]; decide) (by rw [hc13]; decide) (by rw [hc13]; rfl) (by decide) ?_
                    refine z_aload_n (pc2 := 109) rfl dX12_count_108 rfl ?_
                    refine z_getR 85 12 0 86 (pc2 := 112) rfl dX12_count_109 rfl rfl ff_12_0 wd_977 rfl ?_
                    refine z_iconst (pc2 := 113) rfl dX12_count_112 lt_i_4 ?_
                    refine z_iald 86 (pc2 := 114) (j := 4) rfl dX12_count_113 rfl rfl (by decide) (by decide) ?_
                    exact z_iret dX12_count_114 rfl rfl (fi_w h)
                  · replace h := ab_neg hc13 h
                    by_cases hc14 : a1 = (9 : Int32)
                    · replace h := ab_pos hc14 h
                      refine ab_tsIn (tgt := 115) dX12_count_1 (by rw [hc14]; decide) (by rw [hc14]; decide) (by rw [hc14]; rfl) (by decide) ?_
                      refine z_aload_n (pc2 := 116) rfl dX12_count_115 rfl ?_
                      refine z_getI 85 12 12 (pc2 := 119) rfl dX12_count_116 rfl rfl ff_12_12 wd_989 ?_
                      exact z_iret dX12_count_119 rfl rfl (fi_w h)
                    · replace h := ab_neg hc14 h
                      by_cases hc15 : a1 = (10 : Int32)
                      · replace h := ab_pos hc15 h
                        refine ab_tsIn (tgt := 120) dX12_count_1 (by rw [hc15]; decide) (by rw [hc15]; decide) (by rw [hc15]; rfl) (by decide) ?_
                        refine z_aload_n (pc2 := 121) rfl dX12_count_120 rfl ?_
                        refine z_getR 85 12 0 86 (pc2 := 124) rfl dX12_count_121 rfl rfl ff_12_0 wd_977 rfl ?_
                        refine z_iconst (pc2 := 125) rfl dX12_count_124 lt_i_2 ?_
                        refine z_iald 86 (pc2 := 126) (j := 2) rfl dX12_count_125 rfl rfl (by decide) (by decide) ?_
                        exact z_iret dX12_count_126 rfl rfl (fi_w h)
                      · replace h := ab_neg hc15 h
                        have thc1 := ab_ne_toInt (k := 0) hc1 (by decide)
                        have thc2 := ab_ne_toInt (k := 1) hc2 (by decide)
                        have thc3 := ab_ne_toInt (k := 2) hc3 (by decide)
                        have thc4 := ab_ne_toInt (k := 3) hc4 (by decide)
                        have thc6 := ab_ne_toInt (k := 4) hc6 (by decide)
                        have thc8 := ab_ne_toInt (k := 5) hc8 (by decide)
                        have thc10 := ab_ne_toInt (k := 6) hc10 (by decide)
                        have thc12 := ab_ne_toInt (k := 7) hc12 (by decide)
                        have thc13 := ab_ne_toInt (k := 8) hc13 (by decide)
                        have thc14 := ab_ne_toInt (k := 9) hc14 (by decide)
                        have thc15 := ab_ne_toInt (k := 10) hc15 (by decide)
                        refine ab_tsOut (tgt := 127) dX12_count_1 (by omega) (by decide) ?_
                        refine z_aload_n (pc2 := 128) rfl dX12_count_127 rfl ?_
                        refine z_iconst (pc2 := 129) rfl dX12_count_128 lt_i_1 ?_
                        obtain ⟨q16, hq16, h⟩ := ab_bnd h
                        refine z_callVi 85 [.int (1 : Int32)] [some (.ref 85), some (.int (1 : Int32))] (pc2 := 132) rfl rfl dX12_count_129 ok_X12_error ⟨fun _ => rfl, fun _ => Nat.le_of_ble_eq_true rfl⟩ rfl rv_85 wd_1045 wd_1047 wd_16 rfl (e_X12_error hq16) ?_
                        exact z_iret dX12_count_132 rfl rfl (fi_w h)
def f_X12_told (a1 : Int32) (σ : ab_F) : Option (Int32 × ab_F) := (f_X12_in a1 (1 : Int32) (6 : Int32) σ).bind (fun q1 => (if (ab_b q1) = 0 then (f_X12_error (1 : Int32) σ).bind (fun q3 => (some (q3.1, q3.2))) else ab_ck (ab_ib a1 7) ((some ((σ 89 (a1).toNatClampNeg), σ)))))
set_option maxRecDepth 100000 in
set_option maxHeartbeats 4000000 in
theorem e_X12_told {sc : Nat × (Nat → Int32)} {r : Option Nat × Option Nat} {a1 : Int32} {σ : ab_F} {res : (Int32 × ab_F)} (h : f_X12_told a1 σ = some res) : ab_E mX12_told 1 sc 0 [some (.ref 85), some (.int a1)] [] (σ, r) (fun v S => v = some (.int res.1) ∧ S = (res.2, r)) := by
  unfold f_X12_told at h
  refine z_iload_n (pc2 := 1) rfl dX12_told_0 rfl ?_
  refine z_iconst (pc2 := 2) rfl dX12_told_1 lt_i_1 ?_
  refine z_bipush (pc2 := 4) rfl dX12_told_2 lt_b_6 ?_
  obtain ⟨q1, hq1, h⟩ := ab_bnd h
  refine z_callSi [.int a1, .int (1 : Int32), .int (6 : Int32)] [some (.int a1), some (.int (1 : Int32)), some (.int (6 : Int32))] (pc2 := 7) rfl rfl dX12_told_4 ok_X12_in ⟨fun _ => rfl, fun _ => Nat.le_of_ble_eq_true rfl⟩ rfl wd_1042 wd_1043 rfl (e_X12_in hq1) ?_
  refine z_if_eq (pc2 := 10) (tgt := 19) rfl dX12_told_7 (by decide) (fun hc2 => ?_) (fun hc2 => ?_)
  · replace h := ab_pos hc2 h
    refine z_aload_n (pc2 := 20) rfl dX12_told_19 rfl ?_
    refine z_iconst (pc2 := 21) rfl dX12_told_20 lt_i_1 ?_
    obtain ⟨q3, hq3, h⟩ := ab_bnd h
    refine z_callVi 85 [.int (1 : Int32)] [some (.ref 85), some (.int (1 : Int32))] (pc2 := 24) rfl rfl dX12_told_21 ok_X12_error ⟨fun _ => rfl, fun _ => Nat.le_of_ble_eq_true rfl⟩ rfl rv_85 wd_1045 wd_1047 wd_16 rfl (e_X12_error hq3) ?_
    exact z_iret dX12_told_24 rfl rfl (fi_w h)
  · replace h := ab_neg hc2 h
    refine z_aload_n (pc2 := 11) rfl dX12_told_10 rfl ?_
    refine z_getR 85 12 4 89 (pc2 := 14) rfl dX12_told_11 rfl rfl ff_12_4 wd_981 rfl ?_
    refine z_iload_n (pc2 := 15) rfl dX12_told_14 rfl ?_
    obtain ⟨hb4, h⟩ := ab_ck_e h
    refine z_iald 89 (pc2 := 16) (j := (a1).toNatClampNeg) rfl dX12_told_15 rfl rfl hb4 rfl ?_
    refine ab_goto (tgt := 24) dX12_told_16 (by decide) ?_
    exact z_iret dX12_told_24 rfl rfl (fi_w h)
def f_law_L18 (sc : Nat × (Nat → Int32)) (K : ab_F → Option Bool) : Nat → Int32 → ab_F → Option Bool
  | 0, _, _ => none
  | n + 1, u3, σ => (if ((Int32.ofNat sc.1) - (6 : Int32)) < u3 then (K σ) else ab_ck (ab_ib u3 sc.1) ((if ((sc.2 (u3).toNatClampNeg) &&& (63 : Int32)) = (0 : Int32) then ab_ck (ab_ib (u3 + (1 : Int32)) sc.1) (ab_ck (ab_ib (u3 + (2 : Int32)) sc.1) ((f_X11_one (sc.2 ((u3 + (1 : Int32))).toNatClampNeg) (sc.2 ((u3 + (2 : Int32))).toNatClampNeg) σ).bind (fun q6 => ab_ck (ab_ib (u3 + (1 : Int32)) sc.1) (ab_ck (ab_ib (u3 + (2 : Int32)) sc.1) ((f_X12_one_ (sc.2 ((u3 + (1 : Int32))).toNatClampNeg) (sc.2 ((u3 + (2 : Int32))).toNatClampNeg) q6.2).bind (fun q9 => (if q6.1 = q9.1 then ab_lt (u3 + (6 : Int32)) (fun x11 => (f_law_L18 sc K n x11 q9.2)) else (some false)))))))) else if ((sc.2 (u3).toNatClampNeg) &&& (63 : Int32)) = (1 : Int32) then ab_ck (ab_ib (u3 + (1 : Int32)) sc.1) (ab_ck (ab_ib (u3 + (2 : Int32)) sc.1) ((f_X11_oneIs (sc.2 ((u3 + (1 : Int32))).toNatClampNeg) (sc.2 ((u3 + (2 : Int32))).toNatClampNeg) σ).bind (fun q15 => ab_ck (ab_ib (u3 + (1 : Int32)) sc.1) (ab_ck (ab_ib (u3 + (2 : Int32)) sc.1) ((f_X12_oneIs (sc.2 ((u3 + (1 : Int32))).toNatClampNeg) (sc.2 ((u3 + (2 : Int32))).toNatClampNeg) q15.2).bind (fun q18 => (if q15.1 = q18.1 then ab_lt (u3 + (6 : Int32)) (fun x20 => (f_law_L18 sc K n x20 q18.2)) else (some false)))))))) else if ((sc.2 (u3).toNatClampNeg) &&& (63 : Int32)) = (2 : Int32) then ab_ck (ab_ib (u3 + (1 : Int32)) sc.1) (ab_ck (ab_ib (u3 + (2 : Int32)) sc.1) ((f_X11_become (sc.2 ((u3 + (1 : Int32))).toNatClampNeg) (sc.2 ((u3 + (2 : Int32))).toNatClampNeg) σ).bind (fun q24 => ab_ck (ab_ib (u3 + (1 : Int32)) sc.1) (ab_ck (ab_ib (u3 + (2 : Int32)) sc.1) ((f_X12_become (sc.2 ((u3 + (1 : Int32))).toNatClampNeg) (sc.2 ((u3 + (2 : Int32))).toNatClampNeg) q24.2).bind (fun q27 => (if q24.1 = q27.1 then ab_lt (u3 + (6 : Int32)) (fun x29 => (f_law_L18 sc K n x29 q27.2)) else (some false)))))))) else if ((sc.2 (u3).toNatClampNeg) &&& (63 : Int32)) = (3 : Int32) then ab_ck (ab_ib (u3 + (1 : Int32)) sc.1) (ab_ck (ab_ib (u3 + (2 : Int32)) sc.1) ((f_X11_as (sc.2 ((u3 + (1 : Int32))).toNatClampNeg) (sc.2 ((u3 + (2 : Int32))).toNatClampNeg) σ).bind (fun q33 => ab_ck (ab_ib (u3 + (1 : Int32)) sc.1) (ab_ck (ab_ib (u3 + (2 : Int32)) sc.1) ((f_X12_as (sc.2 ((u3 + (1 : Int32))).toNatClampNeg) (sc.2 ((u3 + (2 : Int32))).toNatClampNeg) q33.2).bind (fun q36 => (if q33.1 = q36.1 then ab_lt (u3 + (6 : Int32)) (fun x38 => (f_law_L18 sc K n x38 q36.2)) else (some false)))))))) else if ((sc.2 (u3).toNatClampNeg) &&& (63 : Int32)) = (4 : Int32) then ab_ck (ab_ib (u3 + (1 : Int32)) sc.1) (ab_ck (ab_ib (u3 + (2 : Int32)) sc.1) (ab_ck (ab_ib (u3 + (3 : Int32)) sc.1) ((f_X11_set (sc.2 ((u3 + (1 : Int32))).toNatClampNeg) (sc.2 ((u3 + (2 : Int32))).toNatClampNeg) (sc.2 ((u3 + (3 : Int32))).toNatClampNeg) σ).bind (fun q43 => ab_ck (ab_ib (u3 + (1 : Int32)) sc.1) (ab_ck (ab_ib (u3 + (2 : Int32)) sc.1) (ab_ck (ab_ib (u3 + (3 : Int32)) sc.1) ((f_X12_set (sc.2 ((u3 + (1 : Int32))).toNatClampNeg) (sc.2 ((u3 + (2 : Int32))).toNatClampNeg) (sc.2 ((u3 + (3 : Int32))).toNatClampNeg) q43.2).bind (fun q47 => (if q43.1 = q47.1 then ab_lt (u3 + (6 : Int32)) (fun x49 => (f_law_L18 sc K n x49 q47.2)) else (some false)))))))))) else if ((sc.2 (u3).toNatClampNeg) &&& (63 : Int32)) = (5 : Int32) then ab_ck (ab_ib (u3 + (1 : Int32)) sc.1) ((f_X11_cut (sc.2 ((u3 + (1 : Int32))).toNatClampNeg) σ).bind (fun q52 => ab_ck (ab_ib (u3 + (1 : Int32)) sc.1) ((f_X12_cut (sc.2 ((u3 + (1 : Int32))).toNatClampNeg) q52.2).bind (fun q54 => (if q52.1 = q54.1 then ab_lt (u3 + (6 : Int32)) (fun x56 => (f_law_L18 sc K n x56 q54.2)) else (some false)))))) else if ((sc.2 (u3).toNatClampNeg) &&& (63 : Int32)) = (6 : Int32) then ab_ck (ab_ib (u3 + (1 : Int32)) sc.1) (ab_ck (ab_ib (u3 + (2 : Int32)) sc.1) (ab_ck (ab_ib (u3 + (3 : Int32)) sc.1) ((f_X11_land (sc.2 ((u3 + (1 : Int32))).toNatClampNeg) (sc.2 ((u3 + (2 : Int32))).toNatClampNeg) (sc.2 ((u3 + (3 : Int32))).toNatClampNeg) σ).bind (fun q61 => ab_ck (ab_ib (u3 + (1 : Int32)) sc.1) (ab_ck (ab_ib (u3 + (2 : Int32)) sc.1) (ab_ck (ab_ib (u3 + (3 : Int32)) sc.1) ((f_X12_land (sc.2 ((u3 + (1 : Int32))).toNatClampNeg) (sc.2 ((u3 + (2 : Int32))).toNatClampNeg) (sc.2 ((u3 + (3 : Int32))).toNatClampNeg) q61.2).bind (fun q65 => (if q61.1 = q65.1 then ab_lt (u3 + (6 : Int32)) (fun x67 => (f_law_L18 sc K n x67 q65.2)) else (some false)))))))))) else if ((sc.2 (u3).toNatClampNeg) &&& (63 : Int32)) = (7 : Int32) then ab_ck (ab_ib (u3 + (1 : Int32)) sc.1) (ab_ck (ab_ib (u3 + (2 : Int32)) sc.1) ((f_X11_landIs (sc.2 ((u3 + (1 : Int32))).toNatClampNeg) (sc.2 ((u3 + (2 : Int32))).toNatClampNeg) σ).bind (fun q71 => ab_ck (ab_ib (u3 + (1 : Int32)) sc.1) (ab_ck (ab_ib (u3 + (2 : Int32)) sc.1) ((f_X12_landIs (sc.2 ((u3 + (1 : Int32))).toNatClampNeg) (sc.2 ((u3 + (2 : Int32))).toNatClampNeg) q71.2).bind (fun q74 => (if q71.1 = q74.1 then ab_lt (u3 + (6 : Int32)) (fun x76 => (f_law_L18 sc K n x76 q74.2)) else (some false)))))))) else if ((sc.2 (u3).toNatClampNeg) &&& (63 : Int32)) = (8 : Int32) then ab_ck (ab_ib (u3 + (1 : Int32)) sc.1) (ab_ck (ab_ib (u3 + (2 : Int32)) sc.1) ((f_X11_rises (sc.2 ((u3 + (1 : Int32))).toNatClampNeg) (sc.2 ((u3 + (2 : Int32))).toNatClampNeg) σ).bind (fun q80 => ab_ck (ab_ib (u3 + (1 : Int32)) sc.1) (ab_ck (ab_ib (u3 + (2 : Int32)) sc.1) ((f_X12_rises (sc.2 ((u3 + (1 : Int32))).toNatClampNeg) (sc.2 ((u3 + (2 : Int32))).toNatClampNeg) q80.2).bind (fun q83 => (if q80.1 = q83.1 then ab_lt (u3 + (6 : Int32)) (fun x85 => (f_law_L18 sc K n x85 q83.2)) else (some false)))))))) else if ((sc.2 (u3).toNatClampNeg) &&& (63 : Int32)) = (9 : Int32) then ab_ck (ab_ib (u3 + (1 : Int32)) sc.1) ((f_X11_springs (sc.2 ((u3 + (1 : Int32))).toNatClampNeg) σ).bind (fun q88 => ab_ck (ab_ib (u3 + (1 : Int32)) sc.1) ((f_X12_springs (sc.2 ((u3 + (1 : Int32))).toNatClampNeg) q88.2).bind (fun q90 => (if q88.1 = q90.1 then ab_lt (u3 + (6 : Int32)) (fun x92 => (f_law_L18 sc K n x92 q90.2)) else (some false)))))) else if ((sc.2 (u3).toNatClampNeg) &&& (63 : Int32)) = (10 : Int32) then ab_ck (ab_ib (u3 + (1 : Int32)) sc.1) (ab_ck (ab_ib (u3 + (2 : Int32)) sc.1) (ab_ck (ab_ib (u3 + (3 : Int32)) sc.1) ((f_X11_feed ((((sc.2 ((u3 + (1 : Int32))).toNatClampNeg)).toInt64 <<< (((32 : Int32)).toInt64 &&& 63)) ||| (((sc.2 ((u3 + (2 : Int32))).toNatClampNeg)).toInt64 &&& (4294967295 : Int64))) (sc.2 ((u3 + (3 : Int32))).toNatClampNeg) σ).bind (fun q97 => ab_ck (ab_ib (u3 + (1 : Int32)) sc.1) (ab_ck (ab_ib (u3 + (2 : Int32)) sc.1) (ab_ck (ab_ib (u3 + (3 : Int32)) sc.1) ((f_X12_feed ((((sc.2 ((u3 + (1 : Int32))).toNatClampNeg)).toInt64 <<< (((32 : Int32)).toInt64 &&& 63)) ||| (((sc.2 ((u3 + (2 : Int32))).toNatClampNeg)).toInt64 &&& (4294967295 : Int64))) (sc.2 ((u3 + (3 : Int32))).toNatClampNeg) q97.2).bind (fun q101 => (if q97.1 = q101.1 then ab_lt (u3 + (6 : Int32)) (fun x103 => (f_law_L18 sc K n x103 q101.2)) else (some false)))))))))) else if ((sc.2 (u3).toNatClampNeg) &&& (63 : Int32)) = (11 : Int32) then ab_ck (ab_ib (u3 + (1 : Int32)) sc.1) ((f_X11_text (sc.2 ((u3 + (1 : Int32))).toNatClampNeg) σ).bind (fun q106 => ab_ck (ab_ib (u3 + (1 : Int32)) sc.1) ((f_X12_text (sc.2 ((u3 + (1 : Int32))).toNatClampNeg) q106.2).bind (fun q108 => (if q106.1 = q108.1 then ab_lt (u3 + (6 : Int32)) (fun x110 => (f_law_L18 sc K n x110 q108.2)) else (some false)))))) else if ((sc.2 (u3).toNatClampNeg) &&& (63 : Int32)) = (12 : Int32) then ab_ck (ab_ib (u3 + (1 : Int32)) sc.1) ((f_X11_untell (sc.2 ((u3 + (1 : Int32))).toNatClampNeg) σ).bind (fun q113 => ab_ck (ab_ib (u3 + (1 : Int32)) sc.1) ((f_X12_untell (sc.2 ((u3 + (1 : Int32))).toNatClampNeg) q113.2).bind (fun q115 => (if q113.1 = q115.1 then ab_lt (u3 + (6 : Int32)) (fun x117 => (f_law_L18 sc K n x117 q115.2)) else (some false)))))) else if ((sc.2 (u3).toNatClampNeg) &&& (63 : Int32)) = (13 : Int32) then ab_ck (ab_ib (u3 + (1 : Int32)) sc.1) (ab_ck (ab_ib (u3 + (2 : Int32)) sc.1) (ab_ck (ab_ib (u3 + (3 : Int32)) sc.1) (ab_ck (ab_ib (u3 + (4 : Int32)) sc.1) ((f_X11_law (sc.2 ((u3 + (1 : Int32))).toNatClampNeg) (sc.2 ((u3 + (2 : Int32))).toNatClampNeg) (sc.2 ((u3 + (3 : Int32))).toNatClampNeg) (sc.2 ((u3 + (4 : Int32))).toNatClampNeg) σ).bind (fun q123 => ab_ck (ab_ib (u3 + (1 : Int32)) sc.1) (ab_ck (ab_ib (u3 + (2 : Int32)) sc.1) (ab_ck (ab_ib (u3 + (3 : Int32)) sc.1) (ab_ck (ab_ib (u3 + (4 : Int32)) sc.1) ((f_X12_law (sc.2 ((u3 + (1 : Int32))).toNatClampNeg) (sc.2 ((u3 + (2 : Int32))).toNatClampNeg) (sc.2 ((u3 + (3 : Int32))).toNatClampNeg) (sc.2 ((u3 + (4 : Int32))).toNatClampNeg) q123.2).bind (fun q128 => (if q123.1 = q128.1 then ab_lt (u3 + (6 : Int32)) (fun x130 => (f_law_L18 sc K n x130 q128.2)) else (some false)))))))))))) else if ((sc.2 (u3).toNatClampNeg) &&& (63 : Int32)) = (14 : Int32) then ab_ck (ab_ib (u3 + (1 : Int32)) sc.1) ((f_X11_days (sc.2 ((u3 + (1 : Int32))).toNatClampNeg) σ).bind (fun q133 => ab_ck (ab_ib (u3 + (1 : Int32)) sc.1) ((f_X12_days (sc.2 ((u3 + (1 : Int32))).toNatClampNeg) q133.2).bind (fun q135 => (if q133.1 = q135.1 then ab_lt (u3 + (6 : Int32)) (fun x137 => (f_law_L18 sc K n x137 q135.2)) else (some false)))))) else if ((sc.2 (u3).toNatClampNeg) &&& (63 : Int32)) = (15 : Int32) then ab_ck (ab_ib (u3 + (1 : Int32)) sc.1) ((f_X11_loose (sc.2 ((u3 + (1 : Int32))).toNatClampNeg) σ).bind (fun q140 => ab_ck (ab_ib (u3 + (1 : Int32)) sc.1) ((f_X12_loose (sc.2 ((u3 + (1 : Int32))).toNatClampNeg) q140.2).bind (fun q142 => (if q140.1 = q142.1 then ab_lt (u3 + (6 : Int32)) (fun x144 => (f_law_L18 sc K n x144 q142.2)) else (some false)))))) else if ((sc.2 (u3).toNatClampNeg) &&& (63 : Int32)) = (16 : Int32) then ab_ck (ab_ib (u3 + (1 : Int32)) sc.1) ((f_X11_day (sc.2 ((u3 + (1 : Int32))).toNatClampNeg) σ).bind (fun q147 => ab_ck (ab_ib (u3 + (1 : Int32)) sc.1) ((f_X12_day (sc.2 ((u3 + (1 : Int32))).toNatClampNeg) q147.2).bind (fun q149 => (if q147.1 = q149.1 then ab_lt (u3 + (6 : Int32)) (fun x151 => (f_law_L18 sc K n x151 q149.2)) else (some false)))))) else if ((sc.2 (u3).toNatClampNeg) &&& (63 : Int32)) = (17 : Int32) then ab_ck (ab_ib (u3 + (1 : Int32)) sc.1) ((f_X11_seed (sc.2 ((u3 + (1 : Int32))).toNatClampNeg) σ).bind (fun q154 => ab_ck (ab_ib (u3 + (1 : Int32)) sc.1) ((f_X12_seed (sc.2 ((u3 + (1 : Int32))).toNatClampNeg) q154.2).bind (fun q156 => (if q154.1 = q156.1 then ab_lt (u3 + (6 : Int32)) (fun x158 => (f_law_L18 sc K n x158 q156.2)) else (some false)))))) else if ((sc.2 (u3).toNatClampNeg) &&& (63 : Int32)) = (18 : Int32) then ab_ck (ab_ib (u3 + (1 : Int32)) sc.1) (ab_ck (ab_ib (u3 + (2 : Int32)) sc.1) ((f_X11_then (sc.2 ((u3 + (1 : Int32))).toNatClampNeg) (sc.2 ((u3 + (2 : Int32))).toNatClampNeg) σ).bind (fun q162 => ab_ck (ab_ib (u3 + (1 : Int32)) sc.1) (ab_ck (ab_ib (u3 + (2 : Int32)) sc.1) ((f_X12_then (sc.2 ((u3 + (1 : Int32))).toNatClampNeg) (sc.2 ((u3 + (2 : Int32))).toNatClampNeg) q162.2).bind (fun q165 => (if q162.1 = q165.1 then ab_lt (u3 + (6 : Int32)) (fun x167 => (f_law_L18 sc K n x167 q165.2)) else (some false)))))))) else if ((sc.2 (u3).toNatClampNeg) &&& (63 : Int32)) = (19 : Int32) then ab_ck (ab_ib (u3 + (1 : Int32)) sc.1) (ab_ck (ab_ib (u3 + (2 : Int32)) sc.1) ((f_X11_learns (sc.2 ((u3 + (1 : Int32))).toNatClampNeg) (sc.2 ((u3 + (2 : Int32))).toNatClampNeg) σ).bind (fun q171 => ab_ck (ab_ib (u3 + (1 : Int32)) sc.1) (ab_ck (ab_ib (u3 + (2 : Int32)) sc.1) ((f_X12_learns (sc.2 ((u3 + (1 : Int32))).toNatClampNeg) (sc.2 ((u3 + (2 : Int32))).toNatClampNeg) q171.2).bind (fun q174 => (if q171.1 = q174.1 then ab_lt (u3 + (6 : Int32)) (fun x176 => (f_law_L18 sc K n x176 q174.2)) else (some false)))))))) else if ((sc.2 (u3).toNatClampNeg) &&& (63 : Int32)) = (20 : Int32) then ab_ck (ab_ib (u3 + (1 : Int32)) sc.1) ((f_X11_soonest (sc.2 ((u3 + (1 : Int32))).toNatClampNeg) σ).bind (fun q179 => ab_ck (ab_ib (u3 + (1 : Int32)) sc.1) ((f_X12_soonest (sc.2 ((u3 + (1 : Int32))).toNatClampNeg) q179.2).bind (fun q181 => (if q179.1 = q181.1 then ab_lt (u3 + (6 : Int32)) (fun x183 => (f_law_L18 sc K n x183 q181.2)) else (some false)))))) else if ((sc.2 (u3).toNatClampNeg) &&& (63 : Int32)) = (21 : Int32) then ab_ck (ab_ib (u3 + (1 : Int32)) sc.1) (ab_ck (ab_ib (u3 + (2 : Int32)) sc.1) ((f_X11_stiltsFor (sc.2 ((u3 + (1 : Int32))).toNatClampNeg) (sc.2 ((u3 + (2 : Int32))).toNatClampNeg) σ).bind (fun q187 => ab_ck (ab_ib (u3 + (1 : Int32)) sc.1) (ab_ck (ab_ib (u3 + (2 : Int32)) sc.1) ((f_X12_stiltsFor (sc.2 ((u3 + (1 : Int32))).toNatClampNeg) (sc.2 ((u3 + (2 : Int32))).toNatClampNeg) q187.2).bind (fun q190 => (if q187.1 = q190.1 then ab_lt (u3 + (6 : Int32)) (fun x192 => (f_law_L18 sc K n x192 q190.2)) else (some false)))))))) else if ((sc.2 (u3).toNatClampNeg) &&& (63 : Int32)) = (22 : Int32) then ab_ck (ab_ib (u3 + (1 : Int32)) sc.1) (ab_ck (ab_ib (u3 + (2 : Int32)) sc.1) (ab_ck (ab_ib (u3 + (3 : Int32)) sc.1) ((f_X11_wallFor (sc.2 ((u3 + (1 : Int32))).toNatClampNeg) (sc.2 ((u3 + (2 : Int32))).toNatClampNeg) (sc.2 ((u3 + (3 : Int32))).toNatClampNeg) σ).bind (fun q197 => ab_ck (ab_ib (u3 + (1 : Int32)) sc.1) (ab_ck (ab_ib (u3 + (2 : Int32)) sc.1) (ab_ck (ab_ib (u3 + (3 : Int32)) sc.1) ((f_X12_wallFor (sc.2 ((u3 + (1 : Int32))).toNatClampNeg) (sc.2 ((u3 + (2 : Int32))).toNatClampNeg) (sc.2 ((u3 + (3 : Int32))).toNatClampNeg) q197.2).bind (fun q201 => (if q197.1 = q201.1 then ab_lt (u3 + (6 : Int32)) (fun x203 => (f_law_L18 sc K n x203 q201.2)) else (some false)))))))))) else if ((sc.2 (u3).toNatClampNeg) &&& (63 : Int32)) = (23 : Int32) then ab_ck (ab_ib (u3 + (1 : Int32)) sc.1) (ab_ck (ab_ib (u3 + (2 : Int32)) sc.1) ((f_X11_springFor (sc.2 ((u3 + (1 : Int32))).toNatClampNeg) (sc.2 ((u3 + (2 : Int32))).toNatClampNeg) σ).bind (fun q207 => ab_ck (ab_ib (u3 + (1 : Int32)) sc.1) (ab_ck (ab_ib (u3 + (2 : Int32)) sc.1) ((f_X12_springFor (sc.2 ((u3 + (1 : Int32))).toNatClampNeg) (sc.2 ((u3 + (2 : Int32))).toNatClampNeg) q207.2).bind (fun q210 => (if q207.1 = q210.1 then ab_lt (u3 + (6 : Int32)) (fun x212 => (f_law_L18 sc K n x212 q210.2)) else (some false)))))))) else if ((sc.2 (u3).toNatClampNeg) &&& (63 : Int32)) = (24 : Int32) then ab_ck (ab_ib (u3 + (1 : Int32)) sc.1) (ab_ck (ab_ib (u3 + (2 : Int32)) sc.1) ((f_X11_walk (sc.2 ((u3 + (1 : Int32))).toNatClampNeg) (sc.2 ((u3 + (2 : Int32))).toNatClampNeg) σ).bind (fun q216 => ab_ck (ab_ib (u3 + (1 : Int32)) sc.1) (ab_ck (ab_ib (u3 + (2 : Int32)) sc.1) ((f_X12_walk (sc.2 ((u3 + (1 : Int32))).toNatClampNeg) (sc.2 ((u3 + (2 : Int32))).toNatClampNeg) q216.2).bind (fun q219 => (if q216.1 = q219.1 then ab_lt (u3 + (6 : Int32)) (fun x221 => (f_law_L18 sc K n x221 q219.2)) else (some false)))))))) else if ((sc.2 (u3).toNatClampNeg) &&& (63 : Int32)) = (25 : Int32) then ab_ck (ab_ib (u3 + (1 : Int32)) sc.1) ((f_X11_council (sc.2 ((u3 + (1 : Int32))).toNatClampNeg) σ).bind (fun q224 => ab_ck (ab_ib (u3 + (1 : Int32)) sc.1) ((f_X12_council (sc.2 ((u3 + (1 : Int32))).toNatClampNeg) q224.2).bind (fun q226 => (if q224.1 = q226.1 then ab_lt (u3 + (6 : Int32)) (fun x228 => (f_law_L18 sc K n x228 q226.2)) else (some false)))))) else if ((sc.2 (u3).toNatClampNeg) &&& (63 : Int32)) = (26 : Int32) then ab_ck (ab_ib (u3 + (1 : Int32)) sc.1) (ab_ck (ab_ib (u3 + (2 : Int32)) sc.1) (ab_ck (ab_ib (u3 + (3 : Int32)) sc.1) ((f_X11_odds (sc.2 ((u3 + (1 : Int32))).toNatClampNeg) (sc.2 ((u3 + (2 : Int32))).toNatClampNeg) (sc.2 ((u3 + (3 : Int32))).toNatClampNeg) σ).bind (fun q233 => ab_ck (ab_ib (u3 + (1 : Int32)) sc.1) (ab_ck (ab_ib (u3 + (2 : Int32)) sc.1) (ab_ck (ab_ib (u3 + (3 : Int32)) sc.1) ((f_X12_odds (sc.2 ((u3 + (1 : Int32))).toNatClampNeg) (sc.2 ((u3 + (2 : Int32))).toNatClampNeg) (sc.2 ((u3 + (3 : Int32))).toNatClampNeg) q233.2).bind (fun q237 => (if q233.1 = q237.1 then ab_lt (u3 + (6 : Int32)) (fun x239 => (f_law_L18 sc K n x239 q237.2)) else (some false)))))))))) else if ((sc.2 (u3).toNatClampNeg) &&& (63 : Int32)) = (27 : Int32) then ab_ck (ab_ib (u3 + (1 : Int32)) sc.1) (ab_ck (ab_ib (u3 + (2 : Int32)) sc.1) (ab_ck (ab_ib (u3 + (3 : Int32)) sc.1) ((f_X11_fits (sc.2 ((u3 + (1 : Int32))).toNatClampNeg) (sc.2 ((u3 + (2 : Int32))).toNatClampNeg) (sc.2 ((u3 + (3 : Int32))).toNatClampNeg) σ).bind (fun q244 => ab_ck (ab_ib (u3 + (1 : Int32)) sc.1) (ab_ck (ab_ib (u3 + (2 : Int32)) sc.1) (ab_ck (ab_ib (u3 + (3 : Int32)) sc.1) ((f_X12_fits (sc.2 ((u3 + (1 : Int32))).toNatClampNeg) (sc.2 ((u3 + (2 : Int32))).toNatClampNeg) (sc.2 ((u3 + (3 : Int32))).toNatClampNeg) q244.2).bind (fun q248 => (if q244.1 = q248.1 then ab_lt (u3 + (6 : Int32)) (fun x250 => (f_law_L18 sc K n x250 q248.2)) else (some false)))))))))) else if ((sc.2 (u3).toNatClampNeg) &&& (63 : Int32)) = (28 : Int32) then ab_ck (ab_ib (u3 + (1 : Int32)) sc.1) (ab_ck (ab_ib (u3 + (2 : Int32)) sc.1) (ab_ck (ab_ib (u3 + (3 : Int32)) sc.1) ((f_X11_voice (sc.2 ((u3 + (1 : Int32))).toNatClampNeg) (sc.2 ((u3 + (2 : Int32))).toNatClampNeg) (sc.2 ((u3 + (3 : Int32))).toNatClampNeg) σ).bind (fun q255 => ab_ck (ab_ib (u3 + (1 : Int32)) sc.1) (ab_ck (ab_ib (u3 + (2 : Int32)) sc.1) (ab_ck (ab_ib (u3 + (3 : Int32)) sc.1) ((f_X12_voice (sc.2 ((u3 + (1 : Int32))).toNatClampNeg) (sc.2 ((u3 + (2 : Int32))).toNatClampNeg) (sc.2 ((u3 + (3 : Int32))).toNatClampNeg) q255.2).bind (fun q259 => (if q255.1 = q259.1 then ab_lt (u3 + (6 : Int32)) (fun x261 => (f_law_L18 sc K n x261 q259.2)) else (some false)))))))))) else if ((sc.2 (u3).toNatClampNeg) &&& (63 : Int32)) = (29 : Int32) then ab_ck (ab_ib (u3 + (1 : Int32)) sc.1) ((f_X11_body (sc.2 ((u3 + (1 : Int32))).toNatClampNeg) σ).bind (fun q264 => ab_ck (ab_ib (u3 + (1 : Int32)) sc.1) ((f_X12_body (sc.2 ((u3 + (1 : Int32))).toNatClampNeg) q264.2).bind (fun q266 => (if q264.1 = q266.1 then ab_lt (u3 + (6 : Int32)) (fun x268 => (f_law_L18 sc K n x268 q266.2)) else (some false)))))) else if ((sc.2 (u3).toNatClampNeg) &&& (63 : Int32)) = (30 : Int32) then ab_ck (ab_ib (u3 + (1 : Int32)) sc.1) (ab_ck (ab_ib (u3 + (2 : Int32)) sc.1) (ab_ck (ab_ib (u3 + (3 : Int32)) sc.1) ((f_X11_sheet (sc.2 ((u3 + (1 : Int32))).toNatClampNeg) (sc.2 ((u3 + (2 : Int32))).toNatClampNeg) (sc.2 ((u3 + (3 : Int32))).toNatClampNeg) σ).bind (fun q273 => ab_ck (ab_ib (u3 + (1 : Int32)) sc.1) (ab_ck (ab_ib (u3 + (2 : Int32)) sc.1) (ab_ck (ab_ib (u3 + (3 : Int32)) sc.1) ((f_X12_sheet (sc.2 ((u3 + (1 : Int32))).toNatClampNeg) (sc.2 ((u3 + (2 : Int32))).toNatClampNeg) (sc.2 ((u3 + (3 : Int32))).toNatClampNeg) q273.2).bind (fun q277 => (if q273.1 = q277.1 then ab_lt (u3 + (6 : Int32)) (fun x279 => (f_law_L18 sc K n x279 q277.2)) else (some false)))))))))) else if ((sc.2 (u3).toNatClampNeg) &&& (63 : Int32)) = (31 : Int32) then ab_ck (ab_ib (u3 + (1 : Int32)) sc.1) (ab_ck (ab_ib (u3 + (2 : Int32)) sc.1) (ab_ck (ab_ib (u3 + (3 : Int32)) sc.1) ((f_X11_put (sc.2 ((u3 + (1 : Int32))).toNatClampNeg) (sc.2 ((u3 + (2 : Int32))).toNatClampNeg) (sc.2 ((u3 + (3 : Int32))).toNatClampNeg) σ).bind (fun q284 => ab_ck (ab_ib (u3 + (1 : Int32)) sc.1) (ab_ck (ab_ib (u3 + (2 : Int32)) sc.1) (ab_ck (ab_ib (u3 + (3 : Int32)) sc.1) ((f_X12_put (sc.2 ((u3 + (1 : Int32))).toNatClampNeg) (sc.2 ((u3 + (2 : Int32))).toNatClampNeg) (sc.2 ((u3 + (3 : Int32))).toNatClampNeg) q284.2).bind (fun q288 => (if q284.1 = q288.1 then ab_lt (u3 + (6 : Int32)) (fun x290 => (f_law_L18 sc K n x290 q288.2)) else (some false)))))))))) else if ((sc.2 (u3).toNatClampNeg) &&& (63 : Int32)) = (32 : Int32) then ab_ck (ab_ib (u3 + (1 : Int32)) sc.1) (ab_ck (ab_ib (u3 + (2 : Int32)) sc.1) (ab_ck (ab_ib (u3 + (3 : Int32)) sc.1) (ab_ck (ab_ib (u3 + (4 : Int32)) sc.1) (ab_ck (ab_ib (u3 + (5 : Int32)) sc.1) ((f_X11_move (sc.2 ((u3 + (1 : Int32))).toNatClampNeg) (sc.2 ((u3 + (2 : Int32))).toNatClampNeg) (sc.2 ((u3 + (3 : Int32))).toNatClampNeg) (sc.2 ((u3 + (4 : Int32))).toNatClampNeg) (sc.2 ((u3 + (5 : Int32))).toNatClampNeg) σ).bind (fun q297 => ab_ck (ab_ib (u3 + (1 : Int32)) sc.1) (ab_ck (ab_ib (u3 + (2 : Int32)) sc.1) (ab_ck (ab_ib (u3 + (3 : Int32)) sc.1) (ab_ck (ab_ib (u3 + (4 : Int32)) sc.1) (ab_ck (ab_ib (u3 + (5 : Int32)) sc.1) ((f_X12_move (sc.2 ((u3 + (1 : Int32))).toNatClampNeg) (sc.2 ((u3 + (2 : Int32))).toNatClampNeg) (sc.2 ((u3 + (3 : Int32))).toNatClampNeg) (sc.2 ((u3 + (4 : Int32))).toNatClampNeg) (sc.2 ((u3 + (5 : Int32))).toNatClampNeg) q297.2).bind (fun q303 => (if q297.1 = q303.1 then ab_lt (u3 + (6 : Int32)) (fun x305 => (f_law_L18 sc K n x305 q303.2)) else (some false)))))))))))))) else if ((sc.2 (u3).toNatClampNeg) &&& (63 : Int32)) = (33 : Int32) then ab_ck (ab_ib (u3 + (1 : Int32)) sc.1) ((f_X11_grounds (sc.2 ((u3 + (1 : Int32))).toNatClampNeg) σ).bind (fun q308 => ab_ck (ab_ib (u3 + (1 : Int32)) sc.1) ((f_X12_grounds (sc.2 ((u3 + (1 : Int32))).toNatClampNeg) q308.2).bind (fun q310 => (if q308.1 = q310.1 then ab_lt (u3 + (6 : Int32)) (fun x312 => (f_law_L18 sc K n x312 q310.2)) else (some false)))))) else if ((sc.2 (u3).toNatClampNeg) &&& (63 : Int32)) = (34 : Int32) then ab_ck (ab_ib (u3 + (1 : Int32)) sc.1) ((f_X11_judge (sc.2 ((u3 + (1 : Int32))).toNatClampNeg) σ).bind (fun q315 => ab_ck (ab_ib (u3 + (1 : Int32)) sc.1) ((f_X12_judge (sc.2 ((u3 + (1 : Int32))).toNatClampNeg) q315.2).bind (fun q317 => (if q315.1 = q317.1 then ab_lt (u3 + (6 : Int32)) (fun x319 => (f_law_L18 sc K n x319 q317.2)) else (some false)))))) else if ((sc.2 (u3).toNatClampNeg) &&& (63 : Int32)) = (35 : Int32) then (f_X11_image σ).bind (fun q321 => (f_X12_image q321.2).bind (fun q322 => (if q321.1 = q322.1 then ab_lt (u3 + (6 : Int32)) (fun x324 => (f_law_L18 sc K n x324 q322.2)) else (some false)))) else if ((sc.2 (u3).toNatClampNeg) &&& (63 : Int32)) = (36 : Int32) then (f_X11_restore σ).bind (fun q326 => (f_X12_restore q326.2).bind (fun q327 => (if q326.1 = q327.1 then ab_lt (u3 + (6 : Int32)) (fun x329 => (f_law_L18 sc K n x329 q327.2)) else (some false)))) else if ((sc.2 (u3).toNatClampNeg) &&& (63 : Int32)) = (37 : Int32) then ab_ck (ab_ib (u3 + (1 : Int32)) sc.1) ((f_X11_tell (sc.2 ((u3 + (1 : Int32))).toNatClampNeg) σ).bind (fun q332 => ab_ck (ab_ib (u3 + (1 : Int32)) sc.1) ((f_X12_tell (sc.2 ((u3 + (1 : Int32))).toNatClampNeg) q332.2).bind (fun q334 => (if q332.1 = q334.1 then ab_lt (u3 + (6 : Int32)) (fun x336 => (f_law_L18 sc K n x336 q334.2)) else (some false)))))) else if ((sc.2 (u3).toNatClampNeg) &&& (63 : Int32)) = (38 : Int32) then (f_X11_check σ).bind (fun q338 => (f_X12_check q338.2).bind (fun q339 => (if q338.1 = q339.1 then ab_lt (u3 + (6 : Int32)) (fun x341 => (f_law_L18 sc K n x341 q339.2)) else (some false)))) else if ((sc.2 (u3).toNatClampNeg) &&& (63 : Int32)) = (39 : Int32) then ab_ck (ab_ib (u3 + (1 : Int32)) sc.1) ((f_X11_count (sc.2 ((u3 + (1 : Int32))).toNatClampNeg) σ).bind (fun q344 => ab_ck (ab_ib (u3 + (1 : Int32)) sc.1) ((f_X12_count (sc.2 ((u3 + (1 : Int32))).toNatClampNeg) q344.2).bind (fun q346 => (if q344.1 = q346.1 then ab_lt (u3 + (6 : Int32)) (fun x348 => (f_law_L18 sc K n x348 q346.2)) else (some false)))))) else if ((sc.2 (u3).toNatClampNeg) &&& (63 : Int32)) = (40 : Int32) then ab_ck (ab_ib (u3 + (1 : Int32)) sc.1) ((f_X11_told (sc.2 ((u3 + (1 : Int32))).toNatClampNeg) σ).bind (fun q351 => ab_ck (ab_ib (u3 + (1 : Int32)) sc.1) ((f_X12_told (sc.2 ((u3 + (1 : Int32))).toNatClampNeg) q351.2).bind (fun q353 => (if q351.1 = q353.1 then ab_lt (u3 + (6 : Int32)) (fun x355 => (f_law_L18 sc K n x355 q353.2)) else (some false)))))) else ab_lt (u3 + (6 : Int32)) (fun x356 => (f_law_L18 sc K n x356 σ)))))
set_option maxRecDepth 100000 in
set_option maxHeartbeats 4000000 in
theorem e_law_L18 {sc : Nat × (Nat → Int32)} {K : ab_F → Option Bool} {res : Bool} (hK : ∀ (σ : ab_F) (r : Option Nat × Option Nat), K σ = some res → ab_E mL_law 111 sc 1511 [none, none, none, none] [] (σ, r) (fun v S => v = some (.int (ab_b res)))) : ∀ (n : Nat) (u3 : Int32) (σ : ab_F) (r : Option Nat × Option Nat), f_law_L18 sc K n u3 σ = some res → ab_E mL_law 111 sc 18 [some (.ref 0), some (.ref 8), some (.ref 85), some (.int u3)] [] (σ, r) (fun v S => v = some (.int (ab_b res))) := by
  intro n
  induction n with
  | zero =>
    intro u3 σ r h
    rw [f_law_L18] at h
    cases h
  | succ n ih =>
    intro u3 σ r h
    rw [f_law_L18] at h
    refine z_iload_n (pc2 := 19) rfl dL_law_18 rfl ?_
    refine z_aload_n (pc2 := 20) rfl dL_law_19 rfl ?_
    refine z_salen (pc2 := 21) rfl dL_law_20 ?_
    refine z_bipush (pc2 := 23) rfl dL_law_21 lt_b_6 ?_
    refine z_isub (pc2 := 24) rfl dL_law_23 ?_
    refine z_icmp_gt (pc2 := 27) (tgt := 1511) rfl dL_law_24 (by decide) (fun hc1 => ?_) (fun hc1 => ?_)
    · replace h := ab_pos hc1 h
      refine z_fgt [false, false, false, false] (L2 := [none, none, none, none]) rfl ?_
      exact hK _ _ h
    · replace h := ab_neg hc1 h
      refine z_aload_n (pc2 := 28) rfl dL_law_27 rfl ?_
      refine z_iload_n (pc2 := 29) rfl dL_law_28 rfl ?_
      obtain ⟨hb2, h⟩ := ab_ck_e h
      refine z_sald (pc2 := 30) rfl dL_law_29 hb2 ?_
      refine z_bipush (pc2 := 32) rfl dL_law_30 lt_b_63 ?_
      refine z_iand (pc2 := 33) rfl dL_law_32 ?_
      by_cases hc3 : ((sc.2 (u3).toNatClampNeg) &&& (63 : Int32)) = (0 : Int32)
      · replace h := ab_pos hc3 h
        refine ab_tsIn (tgt := 212) dL_law_33 (by rw [hc3]; decide) (by rw [hc3]; decide) (by rw [hc3]; rfl) (by decide) ?_
        refine z_aload_n (pc2 := 213) rfl dL_law_212 rfl ?_
        refine z_aload_n (pc2 := 214) rfl dL_law_213 rfl ?_
        refine z_iload_n (pc2 := 215) rfl dL_law_214 rfl ?_
        refine z_iconst (pc2 := 216) rfl dL_law_215 lt_i_1 ?_
        refine z_iadd (pc2 := 217) rfl dL_law_216 ?_
        obtain ⟨hb4, h⟩ := ab_ck_e h
        refine z_sald (pc2 := 218) rfl dL_law_217 hb4 ?_
        refine z_aload_n (pc2 := 219) rfl dL_law_218 rfl ?_
        refine z_iload_n (pc2 := 220) rfl dL_law_219 rfl ?_
        refine z_iconst (pc2 := 221) rfl dL_law_220 lt_i_2 ?_
        refine z_iadd (pc2 := 222) rfl dL_law_221 ?_
        obtain ⟨hb5, h⟩ := ab_ck_e h
        refine z_sald (pc2 := 223) rfl dL_law_222 hb5 ?_
        obtain ⟨q6, hq6, h⟩ := ab_bnd h
        refine z_callVi 8 [.int (sc.2 ((u3 + (1 : Int32))).toNatClampNeg), .int (sc.2 ((u3 + (2 : Int32))).toNatClampNeg)] [some (.ref 8), some (.int (sc.2 ((u3 + (1 : Int32))).toNatClampNeg)), some (.int (sc.2 ((u3 + (2 : Int32))).toNatClampNeg))] (pc2 := 226) rfl rfl dL_law_223 ok_X11_one ⟨fun _ => rfl, fun _ => Nat.le_of_ble_eq_true rfl⟩ rfl rv_8 wd_339 wd_340 wd_341 rfl (e_X11_one hq6) ?_
        refine z_aload_n (pc2 := 227) rfl dL_law_226 rfl ?_
        refine z_aload_n (pc2 := 228) rfl dL_law_227 rfl ?_
        refine z_iload_n (pc2 := 229) rfl dL_law_228 rfl ?_
        refine z_iconst (pc2 := 230) rfl dL_law_229 lt_i_1 ?_
        refine z_iadd (pc2 := 231) rfl dL_law_230 ?_
        obtain ⟨hb7, h⟩ := ab_ck_e h
        refine z_sald (pc2 := 232) rfl dL_law_231 hb7 ?_
        refine z_aload_n (pc2 := 233) rfl dL_law_232 rfl ?_
        refine z_iload_n (pc2 := 234) rfl dL_law_233 rfl ?_
        refine z_iconst (pc2 := 235) rfl dL_law_234 lt_i_2 ?_
        refine z_iadd (pc2 := 236) rfl dL_law_235 ?_
        obtain ⟨hb8, h⟩ := ab_ck_e h
        refine z_sald (pc2 := 237) rfl dL_law_236 hb8 ?_
        obtain ⟨q9, hq9, h⟩ := ab_bnd h
        refine z_callVi 85 [.int (sc.2 ((u3 + (1 : Int32))).toNatClampNeg), .int (sc.2 ((u3 + (2 : Int32))).toNatClampNeg)] [some (.ref 85), some (.int (sc.2 ((u3 + (1 : Int32))).toNatClampNeg)), some (.int (sc.2 ((u3 + (2 : Int32))).toNatClampNeg)), none] (pc2 := 240) rfl rfl dL_law_237 ok_X12_one_ ⟨fun _ => rfl, fun _ => Nat.le_of_ble_eq_true rfl⟩ rfl rv_85 wd_1103 wd_1104 wd_1105 rfl (e_X12_one_ hq9) ?_
        refine z_icmp_eq (pc2 := 243) (tgt := 1505) rfl dL_law_240 (by decide) (fun hc10 => ?_) (fun hc10 => ?_)
        · replace h := ab_pos hc10 h
          obtain ⟨x11, hxx11, h⟩ := ab_lt_e h
          refine z_iinc (pc2 := 1508) (v := x11) (L2 := [some (.ref 0), some (.ref 8), some (.ref 85), some (.int x11)]) rfl dL_law_1505 rfl (by rw [hxx11]; rfl) (by decide) rfl rfl ?_
          refine ab_goto (tgt := 18) dL_law_1508 (by decide) ?_
          refine z_fgt [true, true, true, true] (L2 := [some (.ref 0), some (.ref 8), some (.ref 85), some (.int x11)]) rfl ?_
          exact ih _ _ _ h
        · replace h := ab_neg hc10 h
          refine z_iconst (pc2 := 244) rfl dL_law_243 lt_i_0 ?_
          exact z_iret dL_law_244 rfl rfl (fl_z rfl h)
      · replace h := ab_neg hc3 h
        by_cases hc12 : ((sc.2 (u3).toNatClampNeg) &&& (63 : Int32)) = (1 : Int32)
        · replace h := ab_pos hc12 h
          refine ab_tsIn (tgt := 245) dL_law_33 (by rw [hc12]; decide) (by rw [hc12]; decide) (by rw [hc12]; rfl) (by decide) ?_
          refine z_aload_n (pc2 := 246) rfl dL_law_245 rfl ?_
          refine z_aload_n (pc2 := 247) rfl dL_law_246 rfl ?_
          refine z_iload_n (pc2 := 248) rfl dL_law_247 rfl ?_
          refine z_iconst (pc2 := 249) rfl dL_law_248 lt_i_1 ?_
          refine z_iadd (pc2 := 250) rfl dL_law_249 ?_
          obtain ⟨hb13, h⟩ := ab_ck_e h
          refine z_sald (pc2 := 251) rfl dL_law_250 hb13 ?_
          refine z_aload_n (pc2 := 252) rfl dL_law_251 rfl ?_
          refine z_iload_n (pc2 := 253) rfl dL_law_252 rfl ?_
          refine z_iconst (pc2 := 254) rfl dL_law_253 lt_i_2 ?_
          refine z_iadd (pc2 := 255) rfl dL_law_254 ?_
          obtain ⟨hb14, h⟩ := ab_ck_e h
          refine z_sald (pc2 := 256) rfl dL_law_255 hb14 ?_
          obtain ⟨q15, hq15, h⟩ := ab_bnd h
          refine z_callVi 8 [.int (sc.2 ((u3 + (1 : Int32))).toNatClampNeg), .int (sc.2 ((u3 + (2 : Int32))).toNatClampNeg)] [some (.ref 8), some (.int (sc.2 ((u3 + (1 : Int32))).toNatClampNeg)), some (.int (sc.2 ((u3 + (2 : Int32))).toNatClampNeg))] (pc2 := 259) rfl rfl dL_law_256 ok_X11_oneIs ⟨fun _ => rfl, fun _ => Nat.le_of_ble_eq_true rfl⟩ rfl rv_8 wd_355 wd_356 wd_357 rfl (e_X11_oneIs hq15) ?_
          refine z_aload_n (pc2 := 260) rfl dL_law_259 rfl ?_
          refine z_aload_n (pc2 := 261) rfl dL_law_260 rfl ?_
          refine z_iload_n (pc2 := 262) rfl dL_law_261 rfl ?_
          refine z_iconst (pc2 := 263) rfl dL_law_262 lt_i_1 ?_
          refine z_iadd (pc2 := 264) rfl dL_law_263 ?_
          obtain ⟨hb16, h⟩ := ab_ck_e h
          refine z_sald (pc2 := 265) rfl dL_law_264 hb16 ?_
          refine z_aload_n (pc2 := 266) rfl dL_law_265 rfl ?_
          refine z_iload_n (pc2 := 267) rfl dL_law_266 rfl ?_
          refine z_iconst (pc2 := 268) rfl dL_law_267 lt_i_2 ?_
          refine z_iadd (pc2 := 269) rfl dL_law_268 ?_
          obtain ⟨hb17, h⟩ := ab_ck_e h
          refine z_sald (pc2 := 270) rfl dL_law_269 hb17 ?_
          obtain ⟨q18, hq18, h⟩ := ab_bnd h
          refine z_callVi 85 [.int (sc.2 ((u3 + (1 : Int32))).toNatClampNeg), .int (sc.2 ((u3 + (2 : Int32))).toNatClampNeg)] [some (.ref 85), some (.int (sc.2 ((u3 + (1 : Int32))).toNatClampNeg)), some (.int (sc.2 ((u3 + (2 : Int32))).toNatClampNeg))] (pc2 := 273) rfl rfl dL_law_270 ok_X12_oneIs ⟨fun _ => rfl, fun _ => Nat.le_of_ble_eq_true rfl⟩ rfl rv_85 wd_1117 wd_1118 wd_1119 rfl (e_X12_oneIs hq18) ?_
          refine z_icmp_eq (pc2 := 276) (tgt := 1505) rfl dL_law_273 (by decide) (fun hc19 => ?_) (fun hc19 => ?_)
          · replace h := ab_pos hc19 h
            obtain ⟨x20, hxx20, h⟩ := ab_lt_e h
            refine z_iinc (pc2 := 1508) (v := x20) (L2 := [some (.ref 0), some (.ref 8), some (.ref 85), some (.int x20)]) rfl dL_law_1505 rfl (by rw [hxx20]; rfl) (by decide) rfl rfl ?_
            refine ab_goto (tgt := 18) dL_law_1508 (by decide) ?_
            refine z_fgt [true, true, true, true] (L2 := [some (.ref 0), some (.ref 8), some (.ref 85), some (.int x20)]) rfl ?_
            exact ih _ _ _ h
          · replace h := ab_neg hc19 h
            refine z_iconst (pc2 := 277) rfl dL_law_276 lt_i_0 ?_
            exact z_iret dL_law_277 rfl rfl (fl_z rfl h)
        · replace h := ab_neg hc12 h
          by_cases hc21 : ((sc.2 (u3).toNatClampNeg) &&& (63 : Int32)) = (2 : Int32)
          · replace h := ab_pos hc21 h
            refine ab_tsIn (tgt := 278) dL_law_33 (by rw [hc21]; decide) (by rw [hc21]; decide) (by rw [hc21]; rfl) (by decide) ?_
            refine z_aload_n (pc2 := 279) rfl dL_law_278 rfl ?_
            refine z_aload_n (pc2 := 280) rfl dL_law_279 rfl ?_
            refine z_iload_n (pc2 := 281) rfl dL_law_280 rfl ?_
            refine z_iconst (pc2 := 282) rfl dL_law_281 lt_i_1 ?_
            refine z_iadd (pc2 := 283) rfl dL_law_282 ?_
            obtain ⟨hb22, h⟩ := ab_ck_e h
            refine z_sald (pc2 := 284) rfl dL_law_283 hb22 ?_
            refine z_aload_n (pc2 := 285) rfl dL_law_284 rfl ?_
            refine z_iload_n (pc2 := 286) rfl dL_law_285 rfl ?_
            refine z_iconst (pc2 := 287) rfl dL_law_286 lt_i_2 ?_
            refine z_iadd (pc2 := 288) rfl dL_law_287 ?_
            obtain ⟨hb23, h⟩ := ab_ck_e h
            refine z_sald (pc2 := 289) rfl dL_law_288 hb23 ?_
            obtain ⟨q24, hq24, h⟩ := ab_bnd h
            refine z_callVi 8 [.int (sc.2 ((u3 + (1 : Int32))).toNatClampNeg), .int (sc.2 ((u3 + (2 : Int32))).toNatClampNeg)] [some (.ref 8), some (.int (sc.2 ((u3 + (1 : Int32))).toNatClampNeg)), some (.int (sc.2 ((u3 + (2 : Int32))).toNatClampNeg)), none] (pc2 := 292) rfl rfl dL_law_289 ok_X11_become ⟨fun _ => rfl, fun _ => Nat.le_of_ble_eq_true rfl⟩ rfl rv_8 wd_464 wd_465 wd_466 rfl (e_X11_become hq24) ?_
            refine z_aload_n (pc2 := 293) rfl dL_law_292 rfl ?_
            refine z_aload_n (pc2 := 294) rfl dL_law_293 rfl ?_
            refine z_iload_n (pc2 := 295) rfl dL_law_294 rfl ?_
            refine z_iconst (pc2 := 296) rfl dL_law_295 lt_i_1 ?_
            refine z_iadd (pc2 := 297) rfl dL_law_296 ?_
            obtain ⟨hb25, h⟩ := ab_ck_e h
            refine z_sald (pc2 := 298) rfl dL_law_297 hb25 ?_
            refine z_aload_n (pc2 := 299) rfl dL_law_298 rfl ?_
            refine z_iload_n (pc2 := 300) rfl dL_law_299 rfl ?_
            refine z_iconst (pc2 := 301) rfl dL_law_300 lt_i_2 ?_
            refine z_iadd (pc2 := 302) rfl dL_law_301 ?_
            obtain ⟨hb26, h⟩ := ab_ck_e h
            refine z_sald (pc2 := 303) rfl dL_law_302 hb26 ?_
            obtain ⟨q27, hq27, h⟩ := ab_bnd h
            refine z_callVi 85 [.int (sc.2 ((u3 + (1 : Int32))).toNatClampNeg), .int (sc.2 ((u3 + (2 : Int32))).toNatClampNeg)] [some (.ref 85), some (.int (sc.2 ((u3 + (1 : Int32))).toNatClampNeg)), some (.int (sc.2 ((u3 + (2 : Int32))).toNatClampNeg)), none] (pc2 := 306) rfl rfl dL_law_303 ok_X12_become ⟨fun _ => rfl, fun _ => Nat.le_of_ble_eq_true rfl⟩ rfl rv_85 wd_1173 wd_1174 wd_1175 rfl (e_X12_become hq27) ?_
            refine z_icmp_eq (pc2 := 309) (tgt := 1505) rfl dL_law_306 (by decide) (fun hc28 => ?_) (fun hc28 => ?_)
            · replace h := ab_pos hc28 h
              obtain ⟨x29, hxx29, h⟩ := ab_lt_e h
              refine z_iinc (pc2 := 1508) (v := x29) (L2 := [some (.ref 0), some (.ref 8), some (.ref 85), some (.int x29)]) rfl dL_law_1505 rfl (by rw [hxx29]; rfl) (by decide) rfl rfl ?_
              refine ab_goto (tgt := 18) dL_law_1508 (by decide) ?_
              refine z_fgt [true, true, true, true] (L2 := [some (.ref 0), some (.ref 8), some (.ref 85), some (.int x29)]) rfl ?_
              exact ih _ _ _ h
            · replace h := ab_neg hc28 h
              refine z_iconst (pc2 := 310) rfl dL_law_309 lt_i_0 ?_
              exact z_iret dL_law_310 rfl rfl (fl_z rfl h)
          · replace h := ab_neg hc21 h
            by_cases hc30 : ((sc.2 (u3).toNatClampNeg) &&& (63 : Int32)) = (3 : Int32)
            · replace h := ab_pos hc30 h
              refine ab_tsIn (tgt := 311) dL_law_33 (by rw [hc30]; decide) (by rw [hc30]; decide) (by rw [hc30]; rfl) (by decide) ?_
              refine z_aload_n (pc2 := 312) rfl dL_law_311 rfl ?_
              refine z_aload_n (pc2 := 313) rfl dL_law_312 rfl ?_
              refine z_iload_n (pc2 := 314) rfl dL_law_313 rfl ?_
              refine z_iconst (pc2 := 315) rfl dL_law_314 lt_i_1 ?_
              refine z_iadd (pc2 := 316) rfl dL_law_315 ?_
              obtain ⟨hb31, h⟩ := ab_ck_e h
              refine z_sald (pc2 := 317) rfl dL_law_316 hb31 ?_
              refine z_aload_n (pc2 := 318) rfl dL_law_317 rfl ?_
              refine z_iload_n (pc2 := 319) rfl dL_law_318 rfl ?_
              refine z_iconst (pc2 := 320) rfl dL_law_319 lt_i_2 ?_
              refine z_iadd (pc2 := 321) rfl dL_law_320 ?_
              obtain ⟨hb32, h⟩ := ab_ck_e h
              refine z_sald (pc2 := 322) rfl dL_law_321 hb32 ?_
              obtain ⟨q33, hq33, h⟩ := ab_bnd h
              refine z_callVi 8 [.int (sc.2 ((u3 + (1 : Int32))).toNatClampNeg), .int (sc.2 ((u3 + (2 : Int32))).toNatClampNeg)] [some (.ref 8), some (.int (sc.2 ((u3 + (1 : Int32))).toNatClampNeg)), some (.int (sc.2 ((u3 + (2 : Int32))).toNatClampNeg))] (pc2 := 325) rfl rfl dL_law_322 ok_X11_as ⟨fun _ => rfl, fun _ => Nat.le_of_ble_eq_true rfl⟩ rfl rv_8 wd_468 wd_469 wd_470 rfl (e_X11_as hq33) ?_
              refine z_aload_n (pc2 := 326) rfl dL_law_325 rfl ?_
              refine z_aload_n (pc2 := 327) rfl dL_law_326 rfl ?_
              refine z_iload_n (pc2 := 328) rfl dL_law_327 rfl ?_
              refine z_iconst (pc2 := 329) rfl dL_law_328 lt_i_1 ?_
              refine z_iadd (pc2 := 330) rfl dL_law_329 ?_
              obtain ⟨hb34, h⟩ := ab_ck_e h
              refine z_sald (pc2 := 331) rfl dL_law_330 hb34 ?_
              refine z_aload_n (pc2 := 332) rfl dL_law_331 rfl ?_
              refine z_iload_n (pc2 := 333) rfl dL_law_332 rfl ?_
              refine z_iconst (pc2 := 334) rfl dL_law_333 lt_i_2 ?_
              refine z_iadd (pc2 := 335) rfl dL_law_334 ?_
              obtain ⟨hb35, h⟩ := ab_ck_e h
              refine z_sald (pc2 := 336) rfl dL_law_335 hb35 ?_
              obtain ⟨q36, hq36, h⟩ := ab_bnd h
              refine z_callVi 85 [.int (sc.2 ((u3 + (1 : Int32))).toNatClampNeg), .int (sc.2 ((u3 + (2 : Int32))).toNatClampNeg)] [some (.ref 85), some (.int (sc.2 ((u3 + (1 : Int32))).toNatClampNeg)), some (.int (sc.2 ((u3 + (2 : Int32))).toNatClampNeg)), none, none] (pc2 := 339) rfl rfl dL_law_336 ok_X12_as ⟨fun _ => rfl, fun _ => Nat.le_of_ble_eq_true rfl⟩ rfl rv_85 wd_1177 wd_1178 wd_1179 rfl (e_X12_as hq36) ?_
              refine z_icmp_eq (pc2 := 342) (tgt := 1505) rfl dL_law_339 (by decide) (fun hc37 => ?_) (fun hc37 => ?_)
              · replace h := ab_pos hc37 h
                obtain ⟨x38, hxx38, h⟩ := ab_lt_e h
                refine z_iinc (pc2 := 1508) (v := x38) (L2 := [some (.ref 0), some (.ref 8), some (.ref 85), some (.int x38)]) rfl dL_law_1505 rfl (by rw [hxx38]; rfl) (by decide) rfl rfl ?_
                refine ab_goto (tgt := 18) dL_law_1508 (by decide) ?_
                refine z_fgt [true, true, true, true] (L2 := [some (.ref 0), some (.ref 8), some (.ref 85), some (.int x38)]) rfl ?_
                exact ih _ _ _ h
              · replace h := ab_neg hc37 h
                refine z_iconst (pc2 := 343) rfl dL_law_342 lt_i_0 ?_
                exact z_iret dL_law_343 rfl rfl (fl_z rfl h)
            · replace h := ab_neg hc30 h
              by_cases hc39 : ((sc.2 (u3).toNatClampNeg) &&& (63 : Int32)) = (4 : Int32)
              · replace h := ab_pos hc39 h
                refine ab_tsIn (tgt := 344) dL_law_33 (by rw [hc39]; decide) (by rw [hc39]; decide) (by rw [hc39]; rfl) (by decide) ?_
                refine z_aload_n (pc2 := 345) rfl dL_law_344 rfl ?_
                refine z_aload_n (pc2 := 346) rfl dL_law_345 rfl ?_
                refine z_iload_n (pc2 := 347) rfl dL_law_346 rfl ?_
                refine z_iconst (pc2 := 348) rfl dL_law_347 lt_i_1 ?_
                refine z_iadd (pc2 := 349) rfl dL_law_348 ?_
                obtain ⟨hb40, h⟩ := ab_ck_e h
                refine z_sald (pc2 := 350) rfl dL_law_349 hb40 ?_
                refine z_aload_n (pc2 := 351) rfl dL_law_350 rfl ?_
                refine z_iload_n (pc2 := 352) rfl dL_law_351 rfl ?_
                refine z_iconst (pc2 := 353) rfl dL_law_352 lt_i_2 ?_
                refine z_iadd (pc2 := 354) rfl dL_law_353 ?_
                obtain ⟨hb41, h⟩ := ab_ck_e h
                refine z_sald (pc2 := 355) rfl dL_law_354 hb41 ?_
                refine z_aload_n (pc2 := 356) rfl dL_law_355 rfl ?_
                refine z_iload_n (pc2 := 357) rfl dL_law_356 rfl ?_
                refine z_iconst (pc2 := 358) rfl dL_law_357 lt_i_3 ?_
                refine z_iadd (pc2 := 359) rfl dL_law_358 ?_
                obtain ⟨hb42, h⟩ := ab_ck_e h
                refine z_sald (pc2 := 360) rfl dL_law_359 hb42 ?_
                obtain ⟨q43, hq43, h⟩ := ab_bnd h
                refine z_callVi 8 [.int (sc.2 ((u3 + (1 : Int32))).toNatClampNeg), .int (sc.2 ((u3 + (2 : Int32))).toNatClampNeg), .int (sc.2 ((u3 + (3 : Int32))).toNatClampNeg)] [some (.ref 8), some (.int (sc.2 ((u3 + (1 : Int32))).toNatClampNeg)), some (.int (sc.2 ((u3 + (2 : Int32))).toNatClampNeg)), some (.int (sc.2 ((u3 + (3 : Int32))).toNatClampNeg))] (pc2 := 363) rfl rfl dL_law_360 ok_X11_set ⟨fun _ => rfl, fun _ => Nat.le_of_ble_eq_true rfl⟩ rfl rv_8 wd_475 wd_476 wd_477 rfl (e_X11_set hq43) ?_
                refine z_aload_n (pc2 := 364) rfl dL_law_363 rfl ?_
                refine z_aload_n (pc2 := 365) rfl dL_law_364 rfl ?_
                refine z_iload_n (pc2 := 366) rfl dL_law_365 rfl ?_
                refine z_iconst (pc2 := 367) rfl dL_law_366 lt_i_1 ?_
                refine z_iadd (pc2 := 368) rfl dL_law_367 ?_
                obtain ⟨hb44, h⟩ := ab_ck_e h
                refine z_sald (pc2 := 369) rfl dL_law_368 hb44 ?_
                refine z_aload_n (pc2 := 370) rfl dL_law_369 rfl ?_
                refine z_iload_n (pc2 := 371) rfl dL_law_370 rfl ?_
                refine z_iconst (pc2 := 372) rfl dL_law_371 lt_i_2 ?_
                refine z_iadd (pc2 := 373) rfl dL_law_372 ?_
                obtain ⟨hb45, h⟩ := ab_ck_e h
                refine z_sald (pc2 := 374) rfl dL_law_373 hb45 ?_
                refine z_aload_n (pc2 := 375) rfl dL_law_374 rfl ?_
                refine z_iload_n (pc2 := 376) rfl dL_law_375 rfl ?_
                refine z_iconst (pc2 := 377) rfl dL_law_376 lt_i_3 ?_
                refine z_iadd (pc2 := 378) rfl dL_law_377 ?_
                obtain ⟨hb46, h⟩ := ab_ck_e h
                refine z_sald (pc2 := 379) rfl dL_law_378 hb46 ?_
                obtain ⟨q47, hq47, h⟩ := ab_bnd h
                refine z_callVi 85 [.int (sc.2 ((u3 + (1 : Int32))).toNatClampNeg), .int (sc.2 ((u3 + (2 : Int32))).toNatClampNeg), .int (sc.2 ((u3 + (3 : Int32))).toNatClampNeg)] [some (.ref 85), some (.int (sc.2 ((u3 + (1 : Int32))).toNatClampNeg)), some (.int (sc.2 ((u3 + (2 : Int32))).toNatClampNeg)), some (.int (sc.2 ((u3 + (3 : Int32))).toNatClampNeg)), none, none] (pc2 := 382) rfl rfl dL_law_379 ok_X12_set ⟨fun _ => rfl, fun _ => Nat.le_of_ble_eq_true rfl⟩ rfl rv_85 wd_1184 wd_1185 wd_1186 rfl (e_X12_set hq47) ?_
                refine z_icmp_eq (pc2 := 385) (tgt := 1505) rfl dL_law_382 (by decide) (fun hc48 => ?_) (fun hc48 => ?_)
                · replace h := ab_pos hc48 h
                  obtain ⟨x49, hxx49, h⟩ := ab_lt_e h
                  refine z_iinc (pc2 := 1508) (v := x49) (L2 := [some (.ref 0), some (.ref 8), some (.ref 85), some (.int x49)]) rfl dL_law_1505 rfl (by rw [hxx49]; rfl) (by decide) rfl rfl ?_
                  refine ab_goto (tgt := 18) dL_law_1508 (by decide) ?_
                  refine z_fgt [true, true, true, true] (L2 := [some (.ref 0), some (.ref 8), some (.ref 85), some (.int x49)]) rfl ?_
                  exact ih _ _ _ h
                · replace h := ab_neg hc48 h
                  refine z_iconst (pc2 := 386) rfl dL_law_385 lt_i_0 ?_
                  exact z_iret dL_law_386 rfl rfl (fl_z rfl h)
              · replace h := ab_neg hc39 h
                by_cases hc50 : ((sc.2 (u3).toNatClampNeg) &&& (63 : Int32)) = (5 : Int32)
                · replace h := ab_pos hc50 h
                  refine ab_tsIn (tgt := 387) dL_law_33 (by rw [hc50]; decide) (by rw [hc50]; decide) (by rw [hc50]; rfl) (by decide) ?_
                  refine z_aload_n (pc2 := 388) rfl dL_law_387 rfl ?_
                  refine z_aload_n (pc2 := 389) rfl dL_law_388 rfl ?_
                  refine z_iload_n (pc2 := 390) rfl dL_law_389 rfl ?_
                  refine z_iconst (pc2 := 391) rfl dL_law_390 lt_i_1 ?_
                  refine z_iadd (pc2 := 392) rfl dL_law_391 ?_
                  obtain ⟨hb51, h⟩ := ab_ck_e h
                  refine z_sald (pc2 := 393) rfl dL_law_392 hb51 ?_
                  obtain ⟨q52, hq52, h⟩ := ab_bnd h
                  refine z_callVi 8 [.int (sc.2 ((u3 + (1 : Int32))).toNatClampNeg)] [some (.ref 8), some (.int (sc.2 ((u3 + (1 : Int32))).toNatClampNeg))] (pc2 := 396) rfl rfl dL_law_393 ok_X11_cut ⟨fun _ => rfl, fun _ => Nat.le_of_ble_eq_true rfl⟩ rfl rv_8 wd_488 wd_489 wd_490 rfl (e_X11_cut hq52) ?_
                  refine z_aload_n (pc2 := 397) rfl dL_law_396 rfl ?_
                  refine z_aload_n (pc2 := 398) rfl dL_law_397 rfl ?_
                  refine z_iload_n (pc2 := 399) rfl dL_law_398 rfl ?_
                  refine z_iconst (pc2 := 400) rfl dL_law_399 lt_i_1 ?_
                  refine z_iadd (pc2 := 401) rfl dL_law_400 ?_
                  obtain ⟨hb53, h⟩ := ab_ck_e h
                  refine z_sald (pc2 := 402) rfl dL_law_401 hb53 ?_
                  obtain ⟨q54, hq54, h⟩ := ab_bnd h
                  refine z_callVi 85 [.int (sc.2 ((u3 + (1 : Int32))).toNatClampNeg)] [some (.ref 85), some (.int (sc.2 ((u3 + (1 : Int32))).toNatClampNeg))] (pc2 := 405) rfl rfl dL_law_402 ok_X12_cut ⟨fun _ => rfl, fun _ => Nat.le_of_ble_eq_true rfl⟩ rfl rv_85 wd_1192 wd_1193 wd_1194 rfl (e_X12_cut hq54) ?_
                  refine z_icmp_eq (pc2 := 408) (tgt := 1505) rfl dL_law_405 (by decide) (fun hc55 => ?_) (fun hc55 => ?_)
                  · replace h := ab_pos hc55 h
                    obtain ⟨x56, hxx56, h⟩ := ab_lt_e h
                    refine z_iinc (pc2 := 1508) (v := x56) (L2 := [some (.ref 0), some (.ref 8), some (.ref 85), some (.int x56)]) rfl dL_law_1505 rfl (by rw [hxx56]; rfl) (by decide) rfl rfl ?_
                    refine ab_goto (tgt := 18) dL_law_1508 (by decide) ?_
                    refine z_fgt [true, true, true, true] (L2 := [some (.ref 0), some (.ref 8), some (.ref 85), some (.int x56)]) rfl ?_
                    exact ih _ _ _ h
                  · replace h := ab_neg hc55 h
                    refine z_iconst (pc2 := 409) rfl dL_law_408 lt_i_0 ?_
                    exact z_iret dL_law_409 rfl rfl (fl_z rfl h)
                · replace h := ab_neg hc50 h
                  by_cases hc57 : ((sc.2 (u3).toNatClampNeg) &&& (63 : Int32)) = (6 : Int32)
                  · replace h := ab_pos hc57 h
                    refine ab_tsIn (tgt := 410) dL_law_33 (by rw [hc57]; decide) (by rw [hc57]; decide) (by rw [hc57]; rfl) (by decide) ?_
                    refine z_aload_n (pc2 := 411) rfl dL_law_410 rfl ?_
                    refine z_aload_n (pc2 := 412) rfl dL_law_411 rfl ?_
                    refine z_iload_n (pc2 := 413) rfl dL_law_412 rfl ?_
                    refine z_iconst (pc2 := 414) rfl dL_law_413 lt_i_1 ?_
                    refine z_iadd (pc2 := 415) rfl dL_law_414 ?_
                    obtain ⟨hb58, h⟩ := ab_ck_e h
                    refine z_sald (pc2 := 416) rfl dL_law_415 hb58 ?_
                    refine z_aload_n (pc2 := 417) rfl dL_law_416 rfl ?_
                    refine z_iload_n (pc2 := 418) rfl dL_law_417 rfl ?_
                    refine z_iconst (pc2 := 419) rfl dL_law_418 lt_i_2 ?_
                    refine z_iadd (pc2 := 420) rfl dL_law_419 ?_
                    obtain ⟨hb59, h⟩ := ab_ck_e h
                    refine z_sald (pc2 := 421) rfl dL_law_420 hb59 ?_
                    refine z_aload_n (pc2 := 422) rfl dL_law_421 rfl ?_
                    refine z_iload_n (pc2 := 423) rfl dL_law_422 rfl ?_
                    refine z_iconst (pc2 := 424) rfl dL_law_423 lt_i_3 ?_
                    refine z_iadd (pc2 := 425) rfl dL_law_424 ?_
                    obtain ⟨hb60, h⟩ := ab_ck_e h
                    refine z_sald (pc2 := 426) rfl dL_law_425 hb60 ?_
                    obtain ⟨q61, hq61, h⟩ := ab_bnd h
                    refine z_callVi 8 [.int (sc.2 ((u3 + (1 : Int32))).toNatClampNeg), .int (sc.2 ((u3 + (2 : Int32))).toNatClampNeg), .int (sc.2 ((u3 + (3 : Int32))).toNatClampNeg)] [some (.ref 8), some (.int (sc.2 ((u3 + (1 : Int32))).toNatClampNeg)), some (.int (sc.2 ((u3 + (2 : Int32))).toNatClampNeg)), some (.int (sc.2 ((u3 + (3 : Int32))).toNatClampNeg))] (pc2 := 429) rfl rfl dL_law_426 ok_X11_land ⟨fun _ => rfl, fun _ => Nat.le_of_ble_eq_true rfl⟩ rfl rv_8 wd_492 wd_493 wd_494 rfl (e_X11_land hq61) ?_
                    refine z_aload_n (pc2 := 430) rfl dL_law_429 rfl ?_
                    refine z_aload_n (pc2 := 431) rfl dL_law_430 rfl ?_
                    refine z_iload_n (pc2 := 432) rfl dL_law_431 rfl ?_
                    refine z_iconst (pc2 := 433) rfl dL_law_432 lt_i_1 ?_
                    refine z_iadd (pc2 := 434) rfl dL_law_433 ?_
                    obtain ⟨hb62, h⟩ := ab_ck_e h
                    refine z_sald (pc2 := 435) rfl dL_law_434 hb62 ?_
                    refine z_aload_n (pc2 := 436) rfl dL_law_435 rfl ?_
                    refine z_iload_n (pc2 := 437) rfl dL_law_436 rfl ?_
                    refine z_iconst (pc2 := 438) rfl dL_law_437 lt_i_2 ?_
                    refine z_iadd (pc2 := 439) rfl dL_law_438 ?_
                    obtain ⟨hb63, h⟩ := ab_ck_e h
                    refine z_sald (pc2 := 440) rfl dL_law_439 hb63 ?_
                    refine z_aload_n (pc2 := 441) rfl dL_law_440 rfl ?_
                    refine z_iload_n (pc2 := 442) rfl dL_law_441 rfl ?_
                    refine z_iconst (pc2 := 443) rfl dL_law_442 lt_i_3 ?_
                    refine z_iadd (pc2 := 444) rfl dL_law_443 ?_
                    obtain ⟨hb64, h⟩ := ab_ck_e h
                    refine z_sald (pc2 := 445) rfl dL_law_444 hb64 ?_
                    obtain ⟨q65, hq65, h⟩ := ab_bnd h
                    refine z_callVi 85 [.int (sc.2 ((u3 + (1 : Int32))).toNatClampNeg), .int (sc.2 ((u3 + (2 : Int32))).toNatClampNeg), .int (sc.2 ((u3 + (3 : Int32))).toNatClampNeg)] [some (.ref 85), some (.int (sc.2 ((u3 + (1 : Int32))).toNatClampNeg)), some (.int (sc.2 ((u3 + (2 : Int32))).toNatClampNeg)), some (.int (sc.2 ((u3 + (3 : Int32))).toNatClampNeg)), none, none] (pc2 := 448) rfl rfl dL_law_445 ok_X12_land ⟨fun _ => rfl, fun _ => Nat.le_of_ble_eq_true rfl⟩ rfl rv_85 wd_1196 wd_1197 wd_1198 rfl (e_X12_land hq65) ?_
                    refine z_icmp_eq (pc2 := 451) (tgt := 1505) rfl dL_law_448 (by decide) (fun hc66 => ?_) (fun hc66 => ?_)
                    · replace h := ab_pos hc66 h
                      obtain ⟨x67, hxx67, h⟩ := ab_lt_e h
                      refine z_iinc (pc2 := 1508) (v := x67) (L2 := [some (.ref 0), some (.ref 8), some (.ref 85), some (.int x67)]) rfl dL_law_1505 rfl (by rw [hxx67]; rfl) (by decide) rfl rfl ?_
                      refine ab_goto (tgt := 18) dL_law_1508 (by decide) ?_
                      refine z_fgt [true, true, true, true] (L2 := [some (.ref 0), some (.ref 8), some (.ref 85), some (.int x67)]) rfl ?_
                      exact ih _ _ _ h
                    · replace h := ab_neg hc66 h
                      refine z_iconst (pc2 := 452) rfl dL_law_451 lt_i_0 ?_
                      exact z_iret dL_law_452 rfl rfl (fl_z rfl h)
                  · replace h := ab_neg hc57 h
                    by_cases hc68 : ((sc.2 (u3).toNatClampNeg) &&& (63 : Int32)) = (7 : Int32)
                    · replace h := ab_pos hc68 h
                      refine ab_tsIn (tgt := 453) dL_law_33 (by rw [hc68]; decide) (by rw [hc68]; decide) (by rw [hc68]; rfl) (by decide) ?_
                      refine z_aload_n (pc2 := 454) rfl dL_law_453 rfl ?_
                      refine z_aload_n (pc2 := 455) rfl dL_law_454 rfl ?_
                      refine z_iload_n (pc2 := 456) rfl dL_law_455 rfl ?_
                      refine z_iconst (pc2 := 457) rfl dL_law_456 lt_i_1 ?_
                      refine z_iadd (pc2 := 458) rfl dL_law_457 ?_
                      obtain ⟨hb69, h⟩ := ab_ck_e h
                      refine z_sald (pc2 := 459) rfl dL_law_458 hb69 ?_
                      refine z_aload_n (pc2 := 460) rfl dL_law_459 rfl ?_
                      refine z_iload_n (pc2 := 461) rfl dL_law_460 rfl ?_
                      refine z_iconst (pc2 := 462) rfl dL_law_461 lt_i_2 ?_
                      refine z_iadd (pc2 := 463) rfl dL_law_462 ?_
                      obtain ⟨hb70, h⟩ := ab_ck_e h
                      refine z_sald (pc2 := 464) rfl dL_law_463 hb70 ?_
                      obtain ⟨q71, hq71, h⟩ := ab_bnd h
                      refine z_callVi 8 [.int (sc.2 ((u3 + (1 : Int32))).toNatClampNeg), .int (sc.2 ((u3 + (2 : Int32))).toNatClampNeg)] [some (.ref 8), some (.int (sc.2 ((u3 + (1 : Int32))).toNatClampNeg)), some (.int (sc.2 ((u3 + (2 : Int32))).toNatClampNeg))] (pc2 := 467) rfl rfl dL_law_464 ok_X11_landIs ⟨fun _ => rfl, fun _ => Nat.le_of_ble_eq_true rfl⟩ rfl rv_8 wd_502 wd_503 wd_504 rfl (e_X11_landIs hq71) ?_
                      refine z_aload_n (pc2 := 468) rfl dL_law_467 rfl ?_
                      refine z_aload_n (pc2 := 469) rfl dL_law_468 rfl ?_
                      refine z_iload_n (pc2 := 470) rfl dL_law_469 rfl ?_
                      refine z_iconst (pc2 := 471) rfl dL_law_470 lt_i_1 ?_
                      refine z_iadd (pc2 := 472) rfl dL_law_471 ?_
                      obtain ⟨hb72, h⟩ := ab_ck_e h
                      refine z_sald (pc2 := 473) rfl dL_law_472 hb72 ?_
                      refine z_aload_n (pc2 := 474) rfl dL_law_473 rfl ?_
                      refine z_iload_n (pc2 := 475) rfl dL_law_474 rfl ?_
                      refine z_iconst (pc2 := 476) rfl dL_law_475 lt_i_2 ?_
                      refine z_iadd (pc2 := 477) rfl dL_law_476 ?_
                      obtain ⟨hb73, h⟩ := ab_ck_e h
                      refine z_sald (pc2 := 478) rfl dL_law_477 hb73 ?_
                      obtain ⟨q74, hq74, h⟩ := ab_bnd h
                      refine z_callVi 85 [.int (sc.2 ((u3 + (1 : Int32))).toNatClampNeg), .int (sc.2 ((u3 + (2 : Int32))).toNatClampNeg)] [some (.ref 85), some (.int (sc.2 ((u3 + (1 : Int32))).toNatClampNeg)), some (.int (sc.2 ((u3 + (2 : Int32))).toNatClampNeg))] (pc2 := 481) rfl rfl dL_law_478 ok_X12_landIs ⟨fun _ => rfl, fun _ => Nat.le_of_ble_eq_true rfl⟩ rfl rv_85 wd_1200 wd_1201 wd_1202 rfl (e_X12_landIs hq74) ?_
                      refine z_icmp_eq (pc2 := 484) (tgt := 1505) rfl dL_law_481 (by decide) (fun hc75 => ?_) (fun hc75 => ?_)
                      · replace h := ab_pos hc75 h
                        obtain ⟨x76, hxx76, h⟩ := ab_lt_e h
                        refine z_iinc (pc2 := 1508) (v := x76) (L2 := [some (.ref 0), some (.ref 8), some (.ref 85), some (.int x76)]) rfl dL_law_1505 rfl (by rw [hxx76]; rfl) (by decide) rfl rfl ?_
                        refine ab_goto (tgt := 18) dL_law_1508 (by decide) ?_
                        refine z_fgt [true, true, true, true] (L2 := [some (.ref 0), some (.ref 8), some (.ref 85), some (.int x76)]) rfl ?_
                        exact ih _ _ _ h
                      · replace h := ab_neg hc75 h
                        refine z_iconst (pc2 := 485) rfl dL_law_484 lt_i_0 ?_
                        exact z_iret dL_law_485 rfl rfl (fl_z rfl h)
                    · replace h := ab_neg hc68 h
                      by_cases hc77 : ((sc.2 (u3).toNatClampNeg) &&& (63 : Int32)) = (8 : Int32)
                      · replace h := ab_pos hc77 h
                        refine ab_tsIn (tgt := 486) dL_law_33 (by rw [hc77]; decide) (by rw [hc77]; decide) (by rw [hc77]; rfl) (by decide) ?_
                        refine z_aload_n (pc2 := 487) rfl dL_law_486 rfl ?_
                        refine z_aload_n (pc2 := 488) rfl dL_law_487 rfl ?_
                        refine z_iload_n (pc2 := 489) rfl dL_law_488 rfl ?_
                        refine z_iconst (pc2 := 490) rfl dL_law_489 lt_i_1 ?_
                        refine z_iadd (pc2 := 491) rfl dL_law_490 ?_
                        obtain ⟨hb78, h⟩ := ab_ck_e h
                        refine z_sald (pc2 := 492) rfl dL_law_491 hb78 ?_
                        refine z_aload_n (pc2 := 493) rfl dL_law_492 rfl ?_
                        refine z_iload_n (pc2 := 494) rfl dL_law_493 rfl ?_
                        refine z_iconst (pc2 := 495) rfl dL_law_494 lt_i_2 ?_
                        refine z_iadd (pc2 := 496) rfl dL_law_495 ?_
                        obtain ⟨hb79, h⟩ := ab_ck_e h
                        refine z_sald (pc2 := 497) rfl dL_law_496 hb79 ?_
                        obtain ⟨q80, hq80, h⟩ := ab_bnd h
                        refine z_callVi 8 [.int (sc.2 ((u3 + (1 : Int32))).toNatClampNeg), .int (sc.2 ((u3 + (2 : Int32))).toNatClampNeg)] [some (.ref 8), some (.int (sc.2 ((u3 + (1 : Int32))).toNatClampNeg)), some (.int (sc.2 ((u3 + (2 : Int32))).toNatClampNeg))] (pc2 := 500) rfl rfl dL_law_497 ok_X11_rises ⟨fun _ => rfl, fun _ => Nat.le_of_ble_eq_true rfl⟩ rfl rv_8 wd_510 wd_511 wd_512 rfl (e_X11_rises hq80) ?_
                        refine z_aload_n (pc2 := 501) rfl dL_law_500 rfl ?_
                        refine z_aload_n (pc2 := 502) rfl dL_law_501 rfl ?_
                        refine z_iload_n (pc2 := 503) rfl dL_law_502 rfl ?_
                        refine z_iconst (pc2 := 504) rfl dL_law_503 lt_i_1 ?_
                        refine z_iadd (pc2 := 505) rfl dL_law_504 ?_
                        obtain ⟨hb81, h⟩ := ab_ck_e h
                        refine z_sald (pc2 := 506) rfl dL_law_505 hb81 ?_
                        refine z_aload_n (pc2 := 507) rfl dL_law_506 rfl ?_
                        refine z_iload_n (pc2 := 508) rfl dL_law_507 rfl ?_
                        refine z_iconst (pc2 := 509) rfl dL_law_508 lt_i_2 ?_
                        refine z_iadd (pc2 := 510) rfl dL_law_509 ?_
                        obtain ⟨hb82, h⟩ := ab_ck_e h
                        refine z_sald (pc2 := 511) rfl dL_law_510 hb82 ?_
                        obtain ⟨q83, hq83, h⟩ := ab_bnd h
                        refine z_callVi 85 [.int (sc.2 ((u3 + (1 : Int32))).toNatClampNeg), .int (sc.2 ((u3 + (2 : Int32))).toNatClampNeg)] [some (.ref 85), some (.int (sc.2 ((u3 + (1 : Int32))).toNatClampNeg)), some (.int (sc.2 ((u3 + (2 : Int32))).toNatClampNeg))] (pc2 := 514) rfl rfl dL_law_511 ok_X12_rises ⟨fun _ => rfl, fun _ => Nat.le_of_ble_eq_true rfl⟩ rfl rv_85 wd_1208 wd_1209 wd_1210 rfl (e_X12_rises hq83) ?_
                        refine z_icmp_eq (pc2 := 517) (tgt := 1505) rfl dL_law_514 (by decide) (fun hc84 => ?_) (fun hc84 => ?_)
                        · replace h := ab_pos hc84 h
                          obtain ⟨x85, hxx85, h⟩ := ab_lt_e h
                          refine z_iinc (pc2 := 1508) (v := x85) (L2 := [some (.ref 0), some (.ref 8), some (.ref 85), some (.int x85)]) rfl dL_law_1505 rfl (by rw [hxx85]; rfl) (by decide) rfl rfl ?_
                          refine ab_goto (tgt := 18) dL_law_1508 (by decide) ?_
                          refine z_fgt [true, true, true, true] (L2 := [some (.ref 0), some (.ref 8), some (.ref 85), some (.int x85)]) rfl ?_
                          exact ih _ _ _ h
                        · replace h := ab_neg hc84 h
                          refine z_iconst (pc2 := 518) rfl dL_law_517 lt_i_0 ?_
                          exact z_iret dL_law_518 rfl rfl (fl_z rfl h)
                      · replace h := ab_neg hc77 h
                        by_cases hc86 : ((sc.2 (u3).toNatClampNeg) &&& (63 : Int32)) = (9 : Int32)
                        · replace h := ab_pos hc86 h
                          refine ab_tsIn (tgt := 519) dL_law_33 (by rw [hc86]; decide) (by rw [hc86]; decide) (by rw [hc86]; rfl) (by decide) ?_
                          refine z_aload_n (pc2 := 520) rfl dL_law_519 rfl ?_
                          refine z_aload_n (pc2 := 521) rfl dL_law_520 rfl ?_
                          refine z_iload_n (pc2 := 522) rfl dL_law_521 rfl ?_
                          refine z_iconst (pc2 := 523) rfl dL_law_522 lt_i_1 ?_
                          refine z_iadd (pc2 := 524) rfl dL_law_523 ?_
                          obtain ⟨hb87, h⟩ := ab_ck_e h
                          refine z_sald (pc2 := 525) rfl dL_law_524 hb87 ?_
                          obtain ⟨q88, hq88, h⟩ := ab_bnd h
                          refine z_callVi 8 [.int (sc.2 ((u3 + (1 : Int32))).toNatClampNeg)] [some (.ref 8), some (.int (sc.2 ((u3 + (1 : Int32))).toNatClampNeg)), none] (pc2 := 528) rfl rfl dL_law_525 ok_X11_springs ⟨fun _ => rfl, fun _ => Nat.le_of_ble_eq_true rfl⟩ rfl rv_8 wd_514 wd_515 wd_516 rfl (e_X11_springs hq88) ?_
                          refine z_aload_n (pc2 := 529) rfl dL_law_528 rfl ?_
                          refine z_aload_n (pc2 := 530) rfl dL_law_529 rfl ?_
                          refine z_iload_n (pc2 := 531) rfl dL_law_530 rfl ?_
                          refine z_iconst (pc2 := 532) rfl dL_law_531 lt_i_1 ?_
                          refine z_iadd (pc2 := 533) rfl dL_law_532 ?_
                          obtain ⟨hb89, h⟩ := ab_ck_e h
                          refine z_sald (pc2 := 534) rfl dL_law_533 hb89 ?_
                          obtain ⟨q90, hq90, h⟩ := ab_bnd h
                          refine z_callVi 85 [.int (sc.2 ((u3 + (1 : Int32))).toNatClampNeg)] [some (.ref 85), some (.int (sc.2 ((u3 + (1 : Int32))).toNatClampNeg))] (pc2 := 537) rfl rfl dL_law_534 ok_X12_springs ⟨fun _ => rfl, fun _ => Nat.le_of_ble_eq_true rfl⟩ rfl rv_85 wd_1212 wd_1213 wd_1214 rfl (e_X12_springs hq90) ?_
                          refine z_icmp_eq (pc2 := 540) (tgt := 1505) rfl dL_law_537 (by decide) (fun hc91 => ?_) (fun hc91 => ?_)
                          · replace h := ab_pos hc91 h
                            obtain ⟨x92, hxx92, h⟩ := ab_lt_e h
                            refine z_iinc (pc2 := 1508) (v := x92) (L2 := [some (.ref 0), some (.ref 8), some (.ref 85), some (.int x92)]) rfl dL_law_1505 rfl (by rw [hxx92]; rfl) (by decide) rfl rfl ?_
                            refine ab_goto (tgt := 18) dL_law_1508 (by decide) ?_
                            refine z_fgt [true, true, true, true] (L2 := [some (.ref 0), some (.ref 8), some (.ref 85), some (.int x92)]) rfl ?_
                            exact ih _ _ _ h
                          · replace h := ab_neg hc91 h
                            refine z_iconst (pc2 := 541) rfl dL_law_540 lt_i_0 ?_
                            exact z_iret dL_law_541 rfl rfl (fl_z rfl h)
                        · replace h := ab_neg hc86 h
                          by_cases hc93 : ((sc.2 (u3).toNatClampNeg) &&& (63 : Int32)) = (10 : Int32)
                          · replace h := ab_pos hc93 h
                            refine ab_tsIn (tgt := 542) dL_law_33 (by rw [hc93]; decide) (by rw [hc93]; decide) (by rw [hc93]; rfl) (by decide) ?_
                            refine z_aload_n (pc2 := 543) rfl dL_law_542 rfl ?_
                            refine z_aload_n (pc2 := 544) rfl dL_law_543 rfl ?_
                            refine z_iload_n (pc2 := 545) rfl dL_law_544 rfl ?_
                            refine z_iconst (pc2 := 546) rfl dL_law_545 lt_i_1 ?_
                            refine z_iadd (pc2 := 547) rfl dL_law_546 ?_
                            obtain ⟨hb94, h⟩ := ab_ck_e h
                            refine z_sald (pc2 := 548) rfl dL_law_547 hb94 ?_
                            refine z_i2l (pc2 := 549) rfl dL_law_548 ?_
                            refine z_bipush (pc2 := 551) rfl dL_law_549 lt_b_32 ?_
                            refine z_lshl (pc2 := 552) rfl dL_law_551 ?_
                            refine z_aload_n (pc2 := 553) rfl dL_law_552 rfl ?_
                            refine z_iload_n (pc2 := 554) rfl dL_law_553 rfl ?_
                            refine z_iconst (pc2 := 555) rfl dL_law_554 lt_i_2 ?_
                            refine z_iadd (pc2 := 556) rfl dL_law_555 ?_
                            obtain ⟨hb95, h⟩ := ab_ck_e h
                            refine z_sald (pc2 := 557) rfl dL_law_556 hb95 ?_
                            refine z_i2l (pc2 := 558) rfl dL_law_557 ?_
                            refine z_ldc2 (pc2 := 561) rfl dL_law_558 wd_1421 ?_
                            refine z_land (pc2 := 562) rfl dL_law_561 ?_
                            refine z_lor (pc2 := 563) rfl dL_law_562 ?_
                            refine z_aload_n (pc2 := 564) rfl dL_law_563 rfl ?_
                            refine z_iload_n (pc2 := 565) rfl dL_law_564 rfl ?_
                            refine z_iconst (pc2 := 566) rfl dL_law_565 lt_i_3 ?_
                            refine z_iadd (pc2 := 567) rfl dL_law_566 ?_
                            obtain ⟨hb96, h⟩ := ab_ck_e h
                            refine z_sald (pc2 := 568) rfl dL_law_567 hb96 ?_
                            obtain ⟨q97, hq97, h⟩ := ab_bnd h
                            refine z_callVi 8 [.long ((((sc.2 ((u3 + (1 : Int32))).toNatClampNeg)).toInt64 <<< (((32 : Int32)).toInt64 &&& 63)) ||| (((sc.2 ((u3 + (2 : Int32))).toNatClampNeg)).toInt64 &&& (4294967295 : Int64))), .int (sc.2 ((u3 + (3 : Int32))).toNatClampNeg)] [some (.ref 8), some (.long ((((sc.2 ((u3 + (1 : Int32))).toNatClampNeg)).toInt64 <<< (((32 : Int32)).toInt64 &&& 63)) ||| (((sc.2 ((u3 + (2 : Int32))).toNatClampNeg)).toInt64 &&& (4294967295 : Int64)))), none, some (.int (sc.2 ((u3 + (3 : Int32))).toNatClampNeg)), none] (pc2 := 571) rfl rfl dL_law_568 ok_X11_feed ⟨fun _ => rfl, fun _ => Nat.le_of_ble_eq_true rfl⟩ rfl rv_8 wd_518 wd_519 wd_520 rfl (e_X11_feed hq97) ?_
                            refine z_aload_n (pc2 := 572) rfl dL_law_571 rfl ?_
                            refine z_aload_n (pc2 := 573) rfl dL_law_572 rfl ?_
                            refine z_iload_n (pc2 := 574) rfl dL_law_573 rfl ?_
                            refine z_iconst (pc2 := 575) rfl dL_law_574 lt_i_1 ?_
                            refine z_iadd (pc2 := 576) rfl dL_law_575 ?_
                            obtain ⟨hb98, h⟩ := ab_ck_e h
                            refine z_sald (pc2 := 577) rfl dL_law_576 hb98 ?_
                            refine z_i2l (pc2 := 578) rfl dL_law_577 ?_
                            refine z_bipush (pc2 := 580) rfl dL_law_578 lt_b_32 ?_
                            refine z_lshl (pc2 := 581) rfl dL_law_580 ?_
                            refine z_aload_n (pc2 := 582) rfl dL_law_581 rfl ?_
                            refine z_iload_n (pc2 := 583) rfl dL_law_582 rfl ?_
                            refine z_iconst (pc2 := 584) rfl dL_law_583 lt_i_2 ?_
                            refine z_iadd (pc2 := 585) rfl dL_law_584 ?_
                            obtain ⟨hb99, h⟩ := ab_ck_e h
                            refine z_sald (pc2 := 586) rfl dL_law_585 hb99 ?_
                            refine z_i2l (pc2 := 587) rfl dL_law_586 ?_
                            refine z_ldc2 (pc2 := 590) rfl dL_law_587 wd_1421 ?_
                            refine z_land (pc2 := 591) rfl dL_law_590 ?_
                            refine z_lor (pc2 := 592) rfl dL_law_591 ?_
                            refine z_aload_n (pc2 := 593) rfl dL_law_592 rfl ?_
                            refine z_iload_n (pc2 := 594) rfl dL_law_593 rfl ?_
                            refine z_iconst (pc2 := 595) rfl dL_law_594 lt_i_3 ?_
                            refine z_iadd (pc2 := 596) rfl dL_law_595 ?_
                            obtain ⟨hb100, h⟩ := ab_ck_e h
                            refine z_sald (pc2 := 597) rfl dL_law_596 hb100 ?_
                            obtain ⟨q101, hq101, h⟩ := ab_bnd h
                            refine z_callVi 85 [.long ((((sc.2 ((u3 + (1 : Int32))).toNatClampNeg)).toInt64 <<< (((32 : Int32)).toInt64 &&& 63)) ||| (((sc.2 ((u3 + (2 : Int32))).toNatClampNeg)).toInt64 &&& (4294967295 : Int64))), .int (sc.2 ((u3 + (3 : Int32))).toNatClampNeg)] [some (.ref 85), some (.long ((((sc.2 ((u3 + (1 : Int32))).toNatClampNeg)).toInt64 <<< (((32 : Int32)).toInt64 &&& 63)) ||| (((sc.2 ((u3 + (2 : Int32))).toNatClampNeg)).toInt64 &&& (4294967295 : Int64)))), none, some (.int (sc.2 ((u3 + (3 : Int32))).toNatClampNeg)), none] (pc2 := 600) rfl rfl dL_law_597 ok_X12_feed ⟨fun _ => rfl, fun _ => Nat.le_of_ble_eq_true rfl⟩ rfl rv_85 wd_1038 wd_1039 wd_1040 rfl (e_X12_feed hq101) ?_
                            refine z_icmp_eq (pc2 := 603) (tgt := 1505) rfl dL_law_600 (by decide) (fun hc102 => ?_) (fun hc102 => ?_)
                            · replace h := ab_pos hc102 h
                              obtain ⟨x103, hxx103, h⟩ := ab_lt_e h
                              refine z_iinc (pc2 := 1508) (v := x103) (L2 := [some (.ref 0), some (.ref 8), some (.ref 85), some (.int x103)]) rfl dL_law_1505 rfl (by rw [hxx103]; rfl) (by decide) rfl rfl ?_
                              refine ab_goto (tgt := 18) dL_law_1508 (by decide) ?_
                              refine z_fgt [true, true, true, true] (L2 := [some (.ref 0), some (.ref 8), some (.ref 85), some (.int x103)]) rfl ?_
                              exact ih _ _ _ h
                            · replace h := ab_neg hc102 h
                              refine z_iconst (pc2 := 604) rfl dL_law_603 lt_i_0 ?_
                              exact z_iret dL_law_604 rfl rfl (fl_z rfl h)
                          · replace h := ab_neg hc93 h
                            by_cases hc104 : ((sc.2 (u3).toNatClampNeg) &&& (63 : Int32)) = (11 : Int32)
                            · replace h := ab_pos hc104 h
                              refine ab_tsIn (tgt := 605) dL_law_33 (by rw [hc104]; decide) (by rw [hc104]; decide) (by rw [hc104]; rfl) (by decide) ?_
                              refine z_aload_n (pc2 := 606) rfl dL_law_605 rfl ?_
                              refine z_aload_n (pc2 := 607) rfl dL_law_606 rfl ?_
                              refine z_iload_n (pc2 := 608) rfl dL_law_607 rfl ?_
                              refine z_iconst (pc2 := 609) rfl dL_law_608 lt_i_1 ?_
                              refine z_iadd (pc2 := 610) rfl dL_law_609 ?_
                              obtain ⟨hb105, h⟩ := ab_ck_e h
                              refine z_sald (pc2 := 611) rfl dL_law_610 hb105 ?_
                              obtain ⟨q106, hq106, h⟩ := ab_bnd h
                              refine z_callVc 8 [.int (sc.2 ((u3 + (1 : Int32))).toNatClampNeg)] [some (.ref 8), some (.int (sc.2 ((u3 + (1 : Int32))).toNatClampNeg)), none] (pc2 := 614) rfl rfl dL_law_611 ok_X11_text ⟨fun _ => rfl, fun _ => Nat.le_of_ble_eq_true rfl⟩ rfl rv_8 wd_526 wd_527 wd_528 rfl (e_X11_text hq106) (fun r => ?_)
                              refine z_aload_n (pc2 := 615) rfl dL_law_614 rfl ?_
                              refine z_aload_n (pc2 := 616) rfl dL_law_615 rfl ?_
                              refine z_iload_n (pc2 := 617) rfl dL_law_616 rfl ?_
                              refine z_iconst (pc2 := 618) rfl dL_law_617 lt_i_1 ?_
                              refine z_iadd (pc2 := 619) rfl dL_law_618 ?_
                              obtain ⟨hb107, h⟩ := ab_ck_e h
                              refine z_sald (pc2 := 620) rfl dL_law_619 hb107 ?_
                              obtain ⟨q108, hq108, h⟩ := ab_bnd h
                              refine z_callVi 85 [.int (sc.2 ((u3 + (1 : Int32))).toNatClampNeg)] [some (.ref 85), some (.int (sc.2 ((u3 + (1 : Int32))).toNatClampNeg)), none, none, none] (pc2 := 623) rfl rfl dL_law_620 ok_X12_text ⟨fun _ => rfl, fun _ => Nat.le_of_ble_eq_true rfl⟩ rfl rv_85 wd_1051 wd_1052 wd_1053 rfl (e_X12_text hq108) ?_
                              refine z_icmp_eq (pc2 := 626) (tgt := 1505) rfl dL_law_623 (by decide) (fun hc109 => ?_) (fun hc109 => ?_)
                              · replace h := ab_pos hc109 h
                                obtain ⟨x110, hxx110, h⟩ := ab_lt_e h
                                refine z_iinc (pc2 := 1508) (v := x110) (L2 := [some (.ref 0), some (.ref 8), some (.ref 85), some (.int x110)]) rfl dL_law_1505 rfl (by rw [hxx110]; rfl) (by decide) rfl rfl ?_
                                refine ab_goto (tgt := 18) dL_law_1508 (by decide) ?_
                                refine z_fgt [true, true, true, true] (L2 := [some (.ref 0), some (.ref 8), some (.ref 85), some (.int x110)]) rfl ?_
                                exact ih _ _ _ h
                              · replace h := ab_neg hc109 h
                                refine z_iconst (pc2 := 627) rfl dL_law_626 lt_i_0 ?_
                                exact z_iret dL_law_627 rfl rfl (fl_z rfl h)
                            · replace h := ab_neg hc104 h
                              by_cases hc111 : ((sc.2 (u3).toNatClampNeg) &&& (63 : Int32)) = (12 : Int32)
                              · replace h := ab_pos hc111 h
                                refine ab_tsIn (tgt := 628) dL_law_33 (by rw [hc111]; decide) (by rw [hc111]; decide) (by rw [hc111]; rfl) (by decide) ?_
                                refine z_aload_n (pc2 := 629) rfl dL_law_628 rfl ?_
                                refine z_aload_n (pc2 := 630) rfl dL_law_629 rfl ?_
                                refine z_iload_n (pc2 := 631) rfl dL_law_630 rfl ?_
                                refine z_iconst (pc2 := 632) rfl dL_law_631 lt_i_1 ?_
                                refine z_iadd (pc2 := 633) rfl dL_law_632 ?_
                                obtain ⟨hb112, h⟩ := ab_ck_e h
                                refine z_sald (pc2 := 634) rfl dL_law_633 hb112 ?_
                                obtain ⟨q113, hq113, h⟩ := ab_bnd h
                                refine z_callVi 8 [.int (sc.2 ((u3 + (1 : Int32))).toNatClampNeg)] [some (.ref 8), some (.int (sc.2 ((u3 + (1 : Int32))).toNatClampNeg)), none, none] (pc2 := 637) rfl rfl dL_law_634 ok_X11_untell ⟨fun _ => rfl, fun _ => Nat.le_of_ble_eq_true rfl⟩ rfl rv_8 wd_657 wd_658 wd_659 rfl (e_X11_untell hq113) ?_
                                refine z_aload_n (pc2 := 638) rfl dL_law_637 rfl ?_
                                refine z_aload_n (pc2 := 639) rfl dL_law_638 rfl ?_
                                refine z_iload_n (pc2 := 640) rfl dL_law_639 rfl ?_
                                refine z_iconst (pc2 := 641) rfl dL_law_640 lt_i_1 ?_
                                refine z_iadd (pc2 := 642) rfl dL_law_641 ?_
                                obtain ⟨hb114, h⟩ := ab_ck_e h
                                refine z_sald (pc2 := 643) rfl dL_law_642 hb114 ?_
                                obtain ⟨q115, hq115, h⟩ := ab_bnd h
                                refine z_callVi 85 [.int (sc.2 ((u3 + (1 : Int32))).toNatClampNeg)] [some (.ref 85), some (.int (sc.2 ((u3 + (1 : Int32))).toNatClampNeg)), none] (pc2 := 646) rfl rfl dL_law_643 ok_X12_untell ⟨fun _ => rfl, fun _ => Nat.le_of_ble_eq_true rfl⟩ rfl rv_85 wd_1095 wd_1096 wd_1097 rfl (e_X12_untell hq115) ?_
                                refine z_icmp_eq (pc2 := 649) (tgt := 1505) rfl dL_law_646 (by decide) (fun hc116 => ?_) (fun hc116 => ?_)
                                · replace h := ab_pos hc116 h
                                  obtain ⟨x117, hxx117, h⟩ := ab_lt_e h
                                  refine z_iinc (pc2 := 1508) (v := x117) (L2 := [some (.ref 0), some (.ref 8), some (.ref 85), some (.int x117)]) rfl dL_law_1505 rfl (by rw [hxx117]; rfl) (by decide) rfl rfl ?_
                                  refine ab_goto (tgt := 18) dL_law_1508 (by decide) ?_
                                  refine z_fgt [true, true, true, true] (L2 := [some (.ref 0), some (.ref 8), some (.ref 85), some (.int x117)]) rfl ?_
                                  exact ih _ _ _ h
                                · replace h := ab_neg hc116 h
                                  refine z_iconst (pc2 := 650) rfl dL_law_649 lt_i_0 ?_
                                  exact z_iret dL_law_650 rfl rfl (fl_z rfl h)
                              · replace h := ab_neg hc111 h
                                by_cases hc118 : ((sc.2 (u3).toNatClampNeg) &&& (63 : Int32)) = (13 : Int32)
                                · replace h := ab_pos hc118 h
                                  refine ab_tsIn (tgt := 651) dL_law_33 (by rw [hc118]; decide) (by rw [hc118]; decide) (by rw [hc118]; rfl) (by decide) ?_
                                  refine z_aload_n (pc2 := 652) rfl dL_law_651 rfl ?_
                                  refine z_aload_n (pc2 := 653) rfl dL_law_652 rfl ?_
                                  refine z_iload_n (pc2 := 654) rfl dL_law_653 rfl ?_
                                  refine z_iconst (pc2 := 655) rfl dL_law_654 lt_i_1 ?_
                                  refine z_iadd (pc2 := 656) rfl dL_law_655 ?_
                                  obtain ⟨hb119, h⟩ := ab_ck_e h
                                  refine z_sald (pc2 := 657) rfl dL_law_656 hb119 ?_
                                  refine z_aload_n (pc2 := 658) rfl dL_law_657 rfl ?_
                                  refine z_iload_n (pc2 := 659) rfl dL_law_658 rfl ?_
                                  refine z_iconst (pc2 := 660) rfl dL_law_659 lt_i_2 ?_
                                  refine z_iadd (pc2 := 661) rfl dL_law_660 ?_
                                  obtain ⟨hb120, h⟩ := ab_ck_e h
                                  refine z_sald (pc2 := 662) rfl dL_law_661 hb120 ?_
                                  refine z_aload_n (pc2 := 663) rfl dL_law_662 rfl ?_
                                  refine z_iload_n (pc2 := 664) rfl dL_law_663 rfl ?_
                                  refine z_iconst (pc2 := 665) rfl dL_law_664 lt_i_3 ?_
                                  refine z_iadd (pc2 := 666) rfl dL_law_665 ?_
                                  obtain ⟨hb121, h⟩ := ab_ck_e h
                                  refine z_sald (pc2 := 667) rfl dL_law_666 hb121 ?_
                                  refine z_aload_n (pc2 := 668) rfl dL_law_667 rfl ?_
                                  refine z_iload_n (pc2 := 669) rfl dL_law_668 rfl ?_
                                  refine z_iconst (pc2 := 670) rfl dL_law_669 lt_i_4 ?_
                                  refine z_iadd (pc2 := 671) rfl dL_law_670 ?_
                                  obtain ⟨hb122, h⟩ := ab_ck_e h
                                  refine z_sald (pc2 := 672) rfl dL_law_671 hb122 ?_
                                  obtain ⟨q123, hq123, h⟩ := ab_bnd h
                                  refine z_callVi 8 [.int (sc.2 ((u3 + (1 : Int32))).toNatClampNeg), .int (sc.2 ((u3 + (2 : Int32))).toNatClampNeg), .int (sc.2 ((u3 + (3 : Int32))).toNatClampNeg), .int (sc.2 ((u3 + (4 : Int32))).toNatClampNeg)] [some (.ref 8), some (.int (sc.2 ((u3 + (1 : Int32))).toNatClampNeg)), some (.int (sc.2 ((u3 + (2 : Int32))).toNatClampNeg)), some (.int (sc.2 ((u3 + (3 : Int32))).toNatClampNeg)), some (.int (sc.2 ((u3 + (4 : Int32))).toNatClampNeg))] (pc2 := 675) rfl rfl dL_law_672 ok_X11_law ⟨fun _ => rfl, fun _ => Nat.le_of_ble_eq_true rfl⟩ rfl rv_8 wd_661 wd_662 wd_663 rfl (e_X11_law hq123) ?_
                                  refine z_aload_n (pc2 := 676) rfl dL_law_675 rfl ?_
                                  refine z_aload_n (pc2 := 677) rfl dL_law_676 rfl ?_
                                  refine z_iload_n (pc2 := 678) rfl dL_law_677 rfl ?_
                                  refine z_iconst (pc2 := 679) rfl dL_law_678 lt_i_1 ?_
                                  refine z_iadd (pc2 := 680) rfl dL_law_679 ?_
                                  obtain ⟨hb124, h⟩ := ab_ck_e h
                                  refine z_sald (pc2 := 681) rfl dL_law_680 hb124 ?_
                                  refine z_aload_n (pc2 := 682) rfl dL_law_681 rfl ?_
                                  refine z_iload_n (pc2 := 683) rfl dL_law_682 rfl ?_
                                  refine z_iconst (pc2 := 684) rfl dL_law_683 lt_i_2 ?_
                                  refine z_iadd (pc2 := 685) rfl dL_law_684 ?_
                                  obtain ⟨hb125, h⟩ := ab_ck_e h
                                  refine z_sald (pc2 := 686) rfl dL_law_685 hb125 ?_
                                  refine z_aload_n (pc2 := 687) rfl dL_law_686 rfl ?_
                                  refine z_iload_n (pc2 := 688) rfl dL_law_687 rfl ?_
                                  refine z_iconst (pc2 := 689) rfl dL_law_688 lt_i_3 ?_
                                  refine z_iadd (pc2 := 690) rfl dL_law_689 ?_
                                  obtain ⟨hb126, h⟩ := ab_ck_e h
                                  refine z_sald (pc2 := 691) rfl dL_law_690 hb126 ?_
                                  refine z_aload_n (pc2 := 692) rfl dL_law_691 rfl ?_
                                  refine z_iload_n (pc2 := 693) rfl dL_law_692 rfl ?_
                                  refine z_iconst (pc2 := 694) rfl dL_law_693 lt_i_4 ?_
                                  refine z_iadd (pc2 := 695) rfl dL_law_694 ?_
                                  obtain ⟨hb127, h⟩ := ab_ck_e h
                                  refine z_sald (pc2 := 696) rfl dL_law_695 hb127 ?_
                                  obtain ⟨q128, hq128, h⟩ := ab_bnd h
                                  refine z_callVi 85 [.int (sc.2 ((u3 + (1 : Int32))).toNatClampNeg), .int (sc.2 ((u3 + (2 : Int32))).toNatClampNeg), .int (sc.2 ((u3 + (3 : Int32))).toNatClampNeg), .int (sc.2 ((u3 + (4 : Int32))).toNatClampNeg)] [some (.ref 85), some (.int (sc.2 ((u3 + (1 : Int32))).toNatClampNeg)), some (.int (sc.2 ((u3 + (2 : Int32))).toNatClampNeg)), some (.int (sc.2 ((u3 + (3 : Int32))).toNatClampNeg)), some (.int (sc.2 ((u3 + (4 : Int32))).toNatClampNeg))] (pc2 := 699) rfl rfl dL_law_696 ok_X12_law ⟨fun _ => rfl, fun _ => Nat.le_of_ble_eq_true rfl⟩ rfl rv_85 wd_1216 wd_1217 wd_1218 rfl (e_X12_law hq128) ?_
                                  refine z_icmp_eq (pc2 := 702) (tgt := 1505) rfl dL_law_699 (by decide) (fun hc129 => ?_) (fun hc129 => ?_)
                                  · replace h := ab_pos hc129 h
                                    obtain ⟨x130, hxx130, h⟩ := ab_lt_e h
                                    refine z_iinc (pc2 := 1508) (v := x130) (L2 := [some (.ref 0), some (.ref 8), some (.ref 85), some (.int x130)]) rfl dL_law_1505 rfl (by rw [hxx130]; rfl) (by decide) rfl rfl ?_
                                    refine ab_goto (tgt := 18) dL_law_1508 (by decide) ?_
                                    refine z_fgt [true, true, true, true] (L2 := [some (.ref 0), some (.ref 8), some (.ref 85), some (.int x130)]) rfl ?_
                                    exact ih _ _ _ h
                                  · replace h := ab_neg hc129 h
                                    refine z_iconst (pc2 := 703) rfl dL_law_702 lt_i_0 ?_
                                    exact z_iret dL_law_703 rfl rfl (fl_z rfl h)
                                · replace h := ab_neg hc118 h
                                  by_cases hc131 : ((sc.2 (u3).toNatClampNeg) &&& (63 : Int32)) = (14 : Int32)
                                  · replace h := ab_pos hc131 h
                                    refine ab_tsIn (tgt := 704) dL_law_33 (by rw [hc131]; decide) (by rw [hc131]; decide) (by rw [hc131]; rfl) (by decide) ?_
                                    refine z_aload_n (pc2 := 705) rfl dL_law_704 rfl ?_
                                    refine z_aload_n (pc2 := 706) rfl dL_law_705 rfl ?_
                                    refine z_iload_n (pc2 := 707) rfl dL_law_706 rfl ?_
                                    refine z_iconst (pc2 := 708) rfl dL_law_707 lt_i_1 ?_
                                    refine z_iadd (pc2 := 709) rfl dL_law_708 ?_
                                    obtain ⟨hb132, h⟩ := ab_ck_e h
                                    refine z_sald (pc2 := 710) rfl dL_law_709 hb132 ?_
                                    obtain ⟨q133, hq133, h⟩ := ab_bnd h
                                    refine z_callVi 8 [.int (sc.2 ((u3 + (1 : Int32))).toNatClampNeg)] [some (.ref 8), some (.int (sc.2 ((u3 + (1 : Int32))).toNatClampNeg))] (pc2 := 713) rfl rfl dL_law_710 ok_X11_days ⟨fun _ => rfl, fun _ => Nat.le_of_ble_eq_true rfl⟩ rfl rv_8 wd_667 wd_668 wd_669 rfl (e_X11_days hq133) ?_
                                    refine z_aload_n (pc2 := 714) rfl dL_law_713 rfl ?_
                                    refine z_aload_n (pc2 := 715) rfl dL_law_714 rfl ?_
                                    refine z_iload_n (pc2 := 716) rfl dL_law_715 rfl ?_
                                    refine z_iconst (pc2 := 717) rfl dL_law_716 lt_i_1 ?_
                                    refine z_iadd (pc2 := 718) rfl dL_law_717 ?_
                                    obtain ⟨hb134, h⟩ := ab_ck_e h
                                    refine z_sald (pc2 := 719) rfl dL_law_718 hb134 ?_
                                    obtain ⟨q135, hq135, h⟩ := ab_bnd h
                                    refine z_callVi 85 [.int (sc.2 ((u3 + (1 : Int32))).toNatClampNeg)] [some (.ref 85), some (.int (sc.2 ((u3 + (1 : Int32))).toNatClampNeg))] (pc2 := 722) rfl rfl dL_law_719 ok_X12_days ⟨fun _ => rfl, fun _ => Nat.le_of_ble_eq_true rfl⟩ rfl rv_85 wd_1220 wd_1221 wd_1222 rfl (e_X12_days hq135) ?_
                                    refine z_icmp_eq (pc2 := 725) (tgt := 1505) rfl dL_law_722 (by decide) (fun hc136 => ?_) (fun hc136 => ?_)
                                    · replace h := ab_pos hc136 h
                                      obtain ⟨x137, hxx137, h⟩ := ab_lt_e h
                                      refine z_iinc (pc2 := 1508) (v := x137) (L2 := [some (.ref 0), some (.ref 8), some (.ref 85), some (.int x137)]) rfl dL_law_1505 rfl (by rw [hxx137]; rfl) (by decide) rfl rfl ?_
                                      refine ab_goto (tgt := 18) dL_law_1508 (by decide) ?_
                                      refine z_fgt [true, true, true, true] (L2 := [some (.ref 0), some (.ref 8), some (.ref 85), some (.int x137)]) rfl ?_
                                      exact ih _ _ _ h
                                    · replace h := ab_neg hc136 h
                                      refine z_iconst (pc2 := 726) rfl dL_law_725 lt_i_0 ?_
                                      exact z_iret dL_law_726 rfl rfl (fl_z rfl h)
                                  · replace h := ab_neg hc131 h
                                    by_cases hc138 : ((sc.2 (u3).toNatClampNeg) &&& (63 : Int32)) = (15 : Int32)
                                    · replace h := ab_pos hc138 h
                                      refine ab_tsIn (tgt := 727) dL_law_33 (by rw [hc138]; decide) (by rw [hc138]; decide) (by rw [hc138]; rfl) (by decide) ?_
                                      refine z_aload_n (pc2 := 728) rfl dL_law_727 rfl ?_
                                      refine z_aload_n (pc2 := 729) rfl dL_law_728 rfl ?_
                                      refine z_iload_n (pc2 := 730) rfl dL_law_729 rfl ?_
                                      refine z_iconst (pc2 := 731) rfl dL_law_730 lt_i_1 ?_
                                      refine z_iadd (pc2 := 732) rfl dL_law_731 ?_
                                      obtain ⟨hb139, h⟩ := ab_ck_e h
                                      refine z_sald (pc2 := 733) rfl dL_law_732 hb139 ?_
                                      obtain ⟨q140, hq140, h⟩ := ab_bnd h
                                      refine z_callVi 8 [.int (sc.2 ((u3 + (1 : Int32))).toNatClampNeg)] [some (.ref 8), some (.int (sc.2 ((u3 + (1 : Int32))).toNatClampNeg)), none] (pc2 := 736) rfl rfl dL_law_733 ok_X11_loose ⟨fun _ => rfl, fun _ => Nat.le_of_ble_eq_true rfl⟩ rfl rv_8 wd_708 wd_709 wd_710 rfl (e_X11_loose hq140) ?_
                                      refine z_aload_n (pc2 := 737) rfl dL_law_736 rfl ?_
                                      refine z_aload_n (pc2 := 738) rfl dL_law_737 rfl ?_
                                      refine z_iload_n (pc2 := 739) rfl dL_law_738 rfl ?_
                                      refine z_iconst (pc2 := 740) rfl dL_law_739 lt_i_1 ?_
                                      refine z_iadd (pc2 := 741) rfl dL_law_740 ?_
                                      obtain ⟨hb141, h⟩ := ab_ck_e h
                                      refine z_sald (pc2 := 742) rfl dL_law_741 hb141 ?_
                                      obtain ⟨q142, hq142, h⟩ := ab_bnd h
                                      refine z_callVi 85 [.int (sc.2 ((u3 + (1 : Int32))).toNatClampNeg)] [some (.ref 85), some (.int (sc.2 ((u3 + (1 : Int32))).toNatClampNeg)), none] (pc2 := 745) rfl rfl dL_law_742 ok_X12_loose ⟨fun _ => rfl, fun _ => Nat.le_of_ble_eq_true rfl⟩ rfl rv_85 wd_1251 wd_1252 wd_1253 rfl (e_X12_loose hq142) ?_
                                      refine z_icmp_eq (pc2 := 748) (tgt := 1505) rfl dL_law_745 (by decide) (fun hc143 => ?_) (fun hc143 => ?_)
                                      · replace h := ab_pos hc143 h
                                        obtain ⟨x144, hxx144, h⟩ := ab_lt_e h
                                        refine z_iinc (pc2 := 1508) (v := x144) (L2 := [some (.ref 0), some (.ref 8), some (.ref 85), some (.int x144)]) rfl dL_law_1505 rfl (by rw [hxx144]; rfl) (by decide) rfl rfl ?_
                                        refine ab_goto (tgt := 18) dL_law_1508 (by decide) ?_
                                        refine z_fgt [true, true, true, true] (L2 := [some (.ref 0), some (.ref 8), some (.ref 85), some (.int x144)]) rfl ?_
                                        exact ih _ _ _ h
                                      · replace h := ab_neg hc143 h
                                        refine z_iconst (pc2 := 749) rfl dL_law_748 lt_i_0 ?_
                                        exact z_iret dL_law_749 rfl rfl (fl_z rfl h)
                                    · replace h := ab_neg hc138 h
                                      by_cases hc145 : ((sc.2 (u3).toNatClampNeg) &&& (63 : Int32)) = (16 : Int32)
                                      · replace h := ab_pos hc145 h
                                        refine ab_tsIn (tgt := 750) dL_law_33 (by rw [hc145]; decide) (by rw [hc145]; decide) (by rw [hc145]; rfl) (by decide) ?_
                                        refine z_aload_n (pc2 := 751) rfl dL_law_750 rfl ?_
                                        refine z_aload_n (pc2 := 752) rfl dL_law_751 rfl ?_
                                        refine z_iload_n (pc2 := 753) rfl dL_law_752 rfl ?_
                                        refine z_iconst (pc2 := 754) rfl dL_law_753 lt_i_1 ?_
                                        refine z_iadd (pc2 := 755) rfl dL_law_754 ?_
                                        obtain ⟨hb146, h⟩ := ab_ck_e h
                                        refine z_sald (pc2 := 756) rfl dL_law_755 hb146 ?_
                                        obtain ⟨q147, hq147, h⟩ := ab_bnd h
                                        refine z_callVi 8 [.int (sc.2 ((u3 + (1 : Int32))).toNatClampNeg)] [some (.ref 8), some (.int (sc.2 ((u3 + (1 : Int32))).toNatClampNeg)), none] (pc2 := 759) rfl rfl dL_law_756 ok_X11_day ⟨fun _ => rfl, fun _ => Nat.le_of_ble_eq_true rfl⟩ rfl rv_8 wd_722 wd_723 wd_724 rfl (e_X11_day hq147) ?_
                                        refine z_aload_n (pc2 := 760) rfl dL_law_759 rfl ?_
                                        refine z_aload_n (pc2 := 761) rfl dL_law_760 rfl ?_
                                        refine z_iload_n (pc2 := 762) rfl dL_law_761 rfl ?_
                                        refine z_iconst (pc2 := 763) rfl dL_law_762 lt_i_1 ?_
                                        refine z_iadd (pc2 := 764) rfl dL_law_763 ?_
                                        obtain ⟨hb148, h⟩ := ab_ck_e h
                                        refine z_sald (pc2 := 765) rfl dL_law_764 hb148 ?_
                                        obtain ⟨q149, hq149, h⟩ := ab_bnd h
                                        refine z_callVi 85 [.int (sc.2 ((u3 + (1 : Int32))).toNatClampNeg)] [some (.ref 85), some (.int (sc.2 ((u3 + (1 : Int32))).toNatClampNeg))] (pc2 := 768) rfl rfl dL_law_765 ok_X12_day ⟨fun _ => rfl, fun _ => Nat.le_of_ble_eq_true rfl⟩ rfl rv_85 wd_1260 wd_1261 wd_1262 rfl (e_X12_day hq149) ?_
                                        refine z_icmp_eq (pc2 := 771) (tgt := 1505) rfl dL_law_768 (by decide) (fun hc150 => ?_) (fun hc150 => ?_)
                                        · replace h := ab_pos hc150 h
                                          obtain ⟨x151, hxx151, h⟩ := ab_lt_e h
                                          refine z_iinc (pc2 := 1508) (v := x151) (L2 := [some (.ref 0), some (.ref 8), some (.ref 85), some (.int x151)]) rfl dL_law_1505 rfl (by rw [hxx151]; rfl) (by decide) rfl rfl ?_
                                          refine ab_goto (tgt := 18) dL_law_1508 (by decide) ?_
                                          refine z_fgt [true, true, true, true] (L2 := [some (.ref 0), some (.ref 8), some (.ref 85), some (.int x151)]) rfl ?_
                                          exact ih _ _ _ h
                                        · replace h := ab_neg hc150 h
                                          refine z_iconst (pc2 := 772) rfl dL_law_771 lt_i_0 ?_
                                          exact z_iret dL_law_772 rfl rfl (fl_z rfl h)
                                      · replace h := ab_neg hc145 h
                                        by_cases hc152 : ((sc.2 (u3).toNatClampNeg) &&& (63 : Int32)) = (17 : Int32)
                                        · replace h := ab_pos hc152 h
                                          refine ab_tsIn (tgt := 773) dL_law_33 (by rw [hc152]; decide) (by rw [hc152]; decide) (by rw [hc152]; rfl) (by decide) ?_
                                          refine z_aload_n (pc2 := 774) rfl dL_law_773 rfl ?_
                                          refine z_aload_n (pc2 := 775) rfl dL_law_774 rfl ?_
                                          refine z_iload_n (pc2 := 776) rfl dL_law_775 rfl ?_
                                          refine z_iconst (pc2 := 777) rfl dL_law_776 lt_i_1 ?_
                                          refine z_iadd (pc2 := 778) rfl dL_law_777 ?_
                                          obtain ⟨hb153, h⟩ := ab_ck_e h
                                          refine z_sald (pc2 := 779) rfl dL_law_778 hb153 ?_
                                          obtain ⟨q154, hq154, h⟩ := ab_bnd h
                                          refine z_callVi 8 [.int (sc.2 ((u3 + (1 : Int32))).toNatClampNeg)] [some (.ref 8), some (.int (sc.2 ((u3 + (1 : Int32))).toNatClampNeg)), none] (pc2 := 782) rfl rfl dL_law_779 ok_X11_seed ⟨fun _ => rfl, fun _ => Nat.le_of_ble_eq_true rfl⟩ rfl rv_8 wd_726 wd_727 wd_728 rfl (e_X11_seed hq154) ?_
                                          refine z_aload_n (pc2 := 783) rfl dL_law_782 rfl ?_
                                          refine z_aload_n (pc2 := 784) rfl dL_law_783 rfl ?_
                                          refine z_iload_n (pc2 := 785) rfl dL_law_784 rfl ?_
                                          refine z_iconst (pc2 := 786) rfl dL_law_785 lt_i_1 ?_
                                          refine z_iadd (pc2 := 787) rfl dL_law_786 ?_
                                          obtain ⟨hb155, h⟩ := ab_ck_e h
                                          refine z_sald (pc2 := 788) rfl dL_law_787 hb155 ?_
                                          obtain ⟨q156, hq156, h⟩ := ab_bnd h
                                          refine z_callVi 85 [.int (sc.2 ((u3 + (1 : Int32))).toNatClampNeg)] [some (.ref 85), some (.int (sc.2 ((u3 + (1 : Int32))).toNatClampNeg))] (pc2 := 791) rfl rfl dL_law_788 ok_X12_seed ⟨fun _ => rfl, fun _ => Nat.le_of_ble_eq_true rfl⟩ rfl rv_85 wd_1264 wd_1265 wd_1266 rfl (e_X12_seed hq156) ?_
                                          refine z_icmp_eq (pc2 := 794) (tgt := 1505) rfl dL_law_791 (by decide) (fun hc157 => ?_) (fun hc157 => ?_)
                                          · replace h := ab_pos hc157 h
                                            obtain ⟨x158, hxx158, h⟩ := ab_lt_e h
                                            refine z_iinc (pc2 := 1508) (v := x158) (L2 := [some (.ref 0), some (.ref 8), some (.ref 85), some (.int x158)]) rfl dL_law_1505 rfl (by rw [hxx158]; rfl) (by decide) rfl rfl ?_
                                            refine ab_goto (tgt := 18) dL_law_1508 (by decide) ?_
                                            refine z_fgt [true, true, true, true] (L2 := [some (.ref 0), some (.ref 8), some (.ref 85), some (.int x158)]) rfl ?_
                                            exact ih _ _ _ h
                                          · replace h := ab_neg hc157 h
                                            refine z_iconst (pc2 := 795) rfl dL_law_794 lt_i_0 ?_
                                            exact z_iret dL_law_795 rfl rfl (fl_z rfl h)
                                        · replace h := ab_neg hc152 h
                                          by_cases hc159 : ((sc.2 (u3).toNatClampNeg) &&& (63 : Int32)) = (18 : Int32)
                                          · replace h := ab_pos hc159 h
                                            refine ab_tsIn (tgt := 796) dL_law_33 (by rw [hc159]; decide) (by rw [hc159]; decide) (by rw [hc159]; rfl) (by decide) ?_
                                            refine z_aload_n (pc2 := 797) rfl dL_law_796 rfl ?_
                                            refine z_aload_n (pc2 := 798) rfl dL_law_797 rfl ?_
                                            refine z_iload_n (pc2 := 799) rfl dL_law_798 rfl ?_
                                            refine z_iconst (pc2 := 800) rfl dL_law_799 lt_i_1 ?_
                                            refine z_iadd (pc2 := 801) rfl dL_law_800 ?_
                                            obtain ⟨hb160, h⟩ := ab_ck_e h
                                            refine z_sald (pc2 := 802) rfl dL_law_801 hb160 ?_
                                            refine z_aload_n (pc2 := 803) rfl dL_law_802 rfl ?_
                                            refine z_iload_n (pc2 := 804) rfl dL_law_803 rfl ?_
                                            refine z_iconst (pc2 := 805) rfl dL_law_804 lt_i_2 ?_
                                            refine z_iadd (pc2 := 806) rfl dL_law_805 ?_
                                            obtain ⟨hb161, h⟩ := ab_ck_e h
                                            refine z_sald (pc2 := 807) rfl dL_law_806 hb161 ?_
                                            obtain ⟨q162, hq162, h⟩ := ab_bnd h
                                            refine z_callVi 8 [.int (sc.2 ((u3 + (1 : Int32))).toNatClampNeg), .int (sc.2 ((u3 + (2 : Int32))).toNatClampNeg)] [some (.ref 8), some (.int (sc.2 ((u3 + (1 : Int32))).toNatClampNeg)), some (.int (sc.2 ((u3 + (2 : Int32))).toNatClampNeg))] (pc2 := 810) rfl rfl dL_law_807 ok_X11_then ⟨fun _ => rfl, fun _ => Nat.le_of_ble_eq_true rfl⟩ rfl rv_8 wd_730 wd_731 wd_732 rfl (e_X11_then hq162) ?_
                                            refine z_aload_n (pc2 := 811) rfl dL_law_810 rfl ?_
                                            refine z_aload_n (pc2 := 812) rfl dL_law_811 rfl ?_
                                            refine z_iload_n (pc2 := 813) rfl dL_law_812 rfl ?_
                                            refine z_iconst (pc2 := 814) rfl dL_law_813 lt_i_1 ?_
                                            refine z_iadd (pc2 := 815) rfl dL_law_814 ?_
                                            obtain ⟨hb163, h⟩ := ab_ck_e h
                                            refine z_sald (pc2 := 816) rfl dL_law_815 hb163 ?_
                                            refine z_aload_n (pc2 := 817) rfl dL_law_816 rfl ?_
                                            refine z_iload_n (pc2 := 818) rfl dL_law_817 rfl ?_
                                            refine z_iconst (pc2 := 819) rfl dL_law_818 lt_i_2 ?_
                                            refine z_iadd (pc2 := 820) rfl dL_law_819 ?_
                                            obtain ⟨hb164, h⟩ := ab_ck_e h
                                            refine z_sald (pc2 := 821) rfl dL_law_820 hb164 ?_
                                            obtain ⟨q165, hq165, h⟩ := ab_bnd h
                                            refine z_callVi 85 [.int (sc.2 ((u3 + (1 : Int32))).toNatClampNeg), .int (sc.2 ((u3 + (2 : Int32))).toNatClampNeg)] [some (.ref 85), some (.int (sc.2 ((u3 + (1 : Int32))).toNatClampNeg)), some (.int (sc.2 ((u3 + (2 : Int32))).toNatClampNeg))] (pc2 := 824) rfl rfl dL_law_821 ok_X12_then ⟨fun _ => rfl, fun _ => Nat.le_of_ble_eq_true rfl⟩ rfl rv_85 wd_1268 wd_1269 wd_1270 rfl (e_X12_then hq165) ?_
                                            refine z_icmp_eq (pc2 := 827) (tgt := 1505) rfl dL_law_824 (by decide) (fun hc166 => ?_) (fun hc166 => ?_)
                                            · replace h := ab_pos hc166 h
                                              obtain ⟨x167, hxx167, h⟩ := ab_lt_e h
                                              refine z_iinc (pc2 := 1508) (v := x167) (L2 := [some (.ref 0), some (.ref 8), some (.ref 85), some (.int x167)]) rfl dL_law_1505 rfl (by rw [hxx167]; rfl) (by decide) rfl rfl ?_
                                              refine ab_goto (tgt := 18) dL_law_1508 (by decide) ?_
                                              refine z_fgt [true, true, true, true] (L2 := [some (.ref 0), some (.ref 8), some (.ref 85), some (.int x167)]) rfl ?_
                                              exact ih _ _ _ h
                                            · replace h := ab_neg hc166 h
                                              refine z_iconst (pc2 := 828) rfl dL_law_827 lt_i_0 ?_
                                              exact z_iret dL_law_828 rfl rfl (fl_z rfl h)
                                          · replace h := ab_neg hc159 h
                                            by_cases hc168 : ((sc.2 (u3).toNatClampNeg) &&& (63 : Int32)) = (19 : Int32)
                                            · replace h := ab_pos hc168 h
                                              refine ab_tsIn (tgt := 829) dL_law_33 (by rw [hc168]; decide) (by rw [hc168]; decide) (by rw [hc168]; rfl) (by decide) ?_
                                              refine z_aload_n (pc2 := 830) rfl dL_law_829 rfl ?_
                                              refine z_aload_n (pc2 := 831) rfl dL_law_830 rfl ?_
                                              refine z_iload_n (pc2 := 832) rfl dL_law_831 rfl ?_
                                              refine z_iconst (pc2 := 833) rfl dL_law_832 lt_i_1 ?_
                                              refine z_iadd (pc2 := 834) rfl dL_law_833 ?_
                                              obtain ⟨hb169, h⟩ := ab_ck_e h
                                              refine z_sald (pc2 := 835) rfl dL_law_834 hb169 ?_
                                              refine z_aload_n (pc2 := 836) rfl dL_law_835 rfl ?_
                                              refine z_iload_n (pc2 := 837) rfl dL_law_836 rfl ?_
                                              refine z_iconst (pc2 := 838) rfl dL_law_837 lt_i_2 ?_
                                              refine z_iadd (pc2 := 839) rfl dL_law_838 ?_
                                              obtain ⟨hb170, h⟩ := ab_ck_e h
                                              refine z_sald (pc2 := 840) rfl dL_law_839 hb170 ?_
                                              obtain ⟨q171, hq171, h⟩ := ab_bnd h
                                              refine z_callVi 8 [.int (sc.2 ((u3 + (1 : Int32))).toNatClampNeg), .int (sc.2 ((u3 + (2 : Int32))).toNatClampNeg)] [some (.ref 8), some (.int (sc.2 ((u3 + (1 : Int32))).toNatClampNeg)), some (.int (sc.2 ((u3 + (2 : Int32))).toNatClampNeg))] (pc2 := 843) rfl rfl dL_law_840 ok_X11_learns ⟨fun _ => rfl, fun _ => Nat.le_of_ble_eq_true rfl⟩ rfl rv_8 wd_743 wd_744 wd_745 rfl (e_X11_learns hq171) ?_
                                              refine z_aload_n (pc2 := 844) rfl dL_law_843 rfl ?_
                                              refine z_aload_n (pc2 := 845) rfl dL_law_844 rfl ?_
                                              refine z_iload_n (pc2 := 846) rfl dL_law_845 rfl ?_
                                              refine z_iconst (pc2 := 847) rfl dL_law_846 lt_i_1 ?_
                                              refine z_iadd (pc2 := 848) rfl dL_law_847 ?_
                                              obtain ⟨hb172, h⟩ := ab_ck_e h
                                              refine z_sald (pc2 := 849) rfl dL_law_848 hb172 ?_
                                              refine z_aload_n (pc2 := 850) rfl dL_law_849 rfl ?_
                                              refine z_iload_n (pc2 := 851) rfl dL_law_850 rfl ?_
                                              refine z_iconst (pc2 := 852) rfl dL_law_851 lt_i_2 ?_
                                              refine z_iadd (pc2 := 853) rfl dL_law_852 ?_
                                              obtain ⟨hb173, h⟩ := ab_ck_e h
                                              refine z_sald (pc2 := 854) rfl dL_law_853 hb173 ?_
                                              obtain ⟨q174, hq174, h⟩ := ab_bnd h
                                              refine z_callVi 85 [.int (sc.2 ((u3 + (1 : Int32))).toNatClampNeg), .int (sc.2 ((u3 + (2 : Int32))).toNatClampNeg)] [some (.ref 85), some (.int (sc.2 ((u3 + (1 : Int32))).toNatClampNeg)), some (.int (sc.2 ((u3 + (2 : Int32))).toNatClampNeg))] (pc2 := 857) rfl rfl dL_law_854 ok_X12_learns ⟨fun _ => rfl, fun _ => Nat.le_of_ble_eq_true rfl⟩ rfl rv_85 wd_1284 wd_1285 wd_1286 rfl (e_X12_learns hq174) ?_
                                              refine z_icmp_eq (pc2 := 860) (tgt := 1505) rfl dL_law_857 (by decide) (fun hc175 => ?_) (fun hc175 => ?_)
                                              · replace h := ab_pos hc175 h
                                                obtain ⟨x176, hxx176, h⟩ := ab_lt_e h
                                                refine z_iinc (pc2 := 1508) (v := x176) (L2 := [some (.ref 0), some (.ref 8), some (.ref 85), some (.int x176)]) rfl dL_law_1505 rfl (by rw [hxx176]; rfl) (by decide) rfl rfl ?_
                                                refine ab_goto (tgt := 18) dL_law_1508 (by decide) ?_
                                                refine z_fgt [true, true, true, true] (L2 := [some (.ref 0), some (.ref 8), some (.ref 85), some (.int x176)]) rfl ?_
                                                exact ih _ _ _ h
                                              · replace h := ab_neg hc175 h
                                                refine z_iconst (pc2 := 861) rfl dL_law_860 lt_i_0 ?_
                                                exact z_iret dL_law_861 rfl rfl (fl_z rfl h)
                                            · replace h := ab_neg hc168 h
                                              by_cases hc177 : ((sc.2 (u3).toNatClampNeg) &&& (63 : Int32)) = (20 : Int32)
                                              · replace h := ab_pos hc177 h
                                                refine ab_tsIn (tgt := 862) dL_law_33 (by rw [hc177]; decide) (by rw [hc177]; decide) (by rw [hc177]; rfl) (by decide) ?_
                                                refine z_aload_n (pc2 := 863) rfl dL_law_862 rfl ?_
                                                refine z_aload_n (pc2 := 864) rfl dL_law_863 rfl ?_
                                                refine z_iload_n (pc2 := 865) rfl dL_law_864 rfl ?_
                                                refine z_iconst (pc2 := 866) rfl dL_law_865 lt_i_1 ?_
                                                refine z_iadd (pc2 := 867) rfl dL_law_866 ?_
                                                obtain ⟨hb178, h⟩ := ab_ck_e h
                                                refine z_sald (pc2 := 868) rfl dL_law_867 hb178 ?_
                                                obtain ⟨q179, hq179, h⟩ := ab_bnd h
                                                refine z_callVi 8 [.int (sc.2 ((u3 + (1 : Int32))).toNatClampNeg)] [some (.ref 8), some (.int (sc.2 ((u3 + (1 : Int32))).toNatClampNeg)), none] (pc2 := 871) rfl rfl dL_law_868 ok_X11_soonest ⟨fun _ => rfl, fun _ => Nat.le_of_ble_eq_true rfl⟩ rfl rv_8 wd_747 wd_748 wd_749 rfl (e_X11_soonest hq179) ?_
                                                refine z_aload_n (pc2 := 872) rfl dL_law_871 rfl ?_
                                                refine z_aload_n (pc2 := 873) rfl dL_law_872 rfl ?_
                                                refine z_iload_n (pc2 := 874) rfl dL_law_873 rfl ?_
                                                refine z_iconst (pc2 := 875) rfl dL_law_874 lt_i_1 ?_
                                                refine z_iadd (pc2 := 876) rfl dL_law_875 ?_
                                                obtain ⟨hb180, h⟩ := ab_ck_e h
                                                refine z_sald (pc2 := 877) rfl dL_law_876 hb180 ?_
                                                obtain ⟨q181, hq181, h⟩ := ab_bnd h
                                                refine z_callVi 85 [.int (sc.2 ((u3 + (1 : Int32))).toNatClampNeg)] [some (.ref 85), some (.int (sc.2 ((u3 + (1 : Int32))).toNatClampNeg)), none] (pc2 := 880) rfl rfl dL_law_877 ok_X12_soonest ⟨fun _ => rfl, fun _ => Nat.le_of_ble_eq_true rfl⟩ rfl rv_85 wd_1288 wd_1289 wd_1290 rfl (e_X12_soonest hq181) ?_
                                                refine z_icmp_eq (pc2 := 883) (tgt := 1505) rfl dL_law_880 (by decide) (fun hc182 => ?_) (fun hc182 => ?_)
                                                · replace h := ab_pos hc182 h
                                                  obtain ⟨x183, hxx183, h⟩ := ab_lt_e h
                                                  refine z_iinc (pc2 := 1508) (v := x183) (L2 := [some (.ref 0), some (.ref 8), some (.ref 85), some (.int x183)]) rfl dL_law_1505 rfl (by rw [hxx183]; rfl) (by decide) rfl rfl ?_
                                                  refine ab_goto (tgt := 18) dL_law_1508 (by decide) ?_
                                                  refine z_fgt [true, true, true, true] (L2 := [some (.ref 0), some (.ref 8), some (.ref 85), some (.int x183)]) rfl ?_
                                                  exact ih _ _ _ h
                                                · replace h := ab_neg hc182 h
                                                  refine z_iconst (pc2 := 884) rfl dL_law_883 lt_i_0 ?_
                                                  exact z_iret dL_law_884 rfl rfl (fl_z rfl h)
                                              · replace h := ab_neg hc177 h
                                                by_cases hc184 : ((sc.2 (u3).toNatClampNeg) &&& (63 : Int32)) = (21 : Int32)
                                                · replace h := ab_pos hc184 h
                                                  refine ab_tsIn (tgt := 885) dL_law_33 (by rw [hc184]; decide) (by rw [hc184]; decide) (by rw [hc184]; rfl) (by decide) ?_
                                                  refine z_aload_n (pc2 := 886) rfl dL_law_885 rfl ?_
                                                  refine z_aload_n (pc2 := 887) rfl dL_law_886 rfl ?_
                                                  refine z_iload_n (pc2 := 888) rfl dL_law_887 rfl ?_
                                                  refine z_iconst (pc2 := 889) rfl dL_law_888 lt_i_1 ?_
                                                  refine z_iadd (pc2 := 890) rfl dL_law_889 ?_
                                                  obtain ⟨hb185, h⟩ := ab_ck_e h
                                                  refine z_sald (pc2 := 891) rfl dL_law_890 hb185 ?_
                                                  refine z_aload_n (pc2 := 892) rfl dL_law_891 rfl ?_
                                                  refine z_iload_n (pc2 := 893) rfl dL_law_892 rfl ?_
                                                  refine z_iconst (pc2 := 894) rfl dL_law_893 lt_i_2 ?_
                                                  refine z_iadd (pc2 := 895) rfl dL_law_894 ?_
                                                  obtain ⟨hb186, h⟩ := ab_ck_e h
                                                  refine z_sald (pc2 := 896) rfl dL_law_895 hb186 ?_
                                                  obtain ⟨q187, hq187, h⟩ := ab_bnd h
                                                  refine z_callVi 8 [.int (sc.2 ((u3 + (1 : Int32))).toNatClampNeg), .int (sc.2 ((u3 + (2 : Int32))).toNatClampNeg)] [some (.ref 8), some (.int (sc.2 ((u3 + (1 : Int32))).toNatClampNeg)), some (.int (sc.2 ((u3 + (2 : Int32))).toNatClampNeg)), none] (pc2 := 899) rfl rfl dL_law_896 ok_X11_stiltsFor ⟨fun _ => rfl, fun _ => Nat.le_of_ble_eq_true rfl⟩ rfl rv_8 wd_751 wd_752 wd_753 rfl (e_X11_stiltsFor hq187) ?_
                                                  refine z_aload_n (pc2 := 900) rfl dL_law_899 rfl ?_
                                                  refine z_aload_n (pc2 := 901) rfl dL_law_900 rfl ?_
                                                  refine z_iload_n (pc2 := 902) rfl dL_law_901 rfl ?_
                                                  refine z_iconst (pc2 := 903) rfl dL_law_902 lt_i_1 ?_
                                                  refine z_iadd (pc2 := 904) rfl dL_law_903 ?_
                                                  obtain ⟨hb188, h⟩ := ab_ck_e h
                                                  refine z_sald (pc2 := 905) rfl dL_law_904 hb188 ?_
                                                  refine z_aload_n (pc2 := 906) rfl dL_law_905 rfl ?_
                                                  refine z_iload_n (pc2 := 907) rfl dL_law_906 rfl ?_
                                                  refine z_iconst (pc2 := 908) rfl dL_law_907 lt_i_2 ?_
                                                  refine z_iadd (pc2 := 909) rfl dL_law_908 ?_
                                                  obtain ⟨hb189, h⟩ := ab_ck_e h
                                                  refine z_sald (pc2 := 910) rfl dL_law_909 hb189 ?_
                                                  obtain ⟨q190, hq190, h⟩ := ab_bnd h
                                                  refine z_callVi 85 [.int (sc.2 ((u3 + (1 : Int32))).toNatClampNeg), .int (sc.2 ((u3 + (2 : Int32))).toNatClampNeg)] [some (.ref 85), some (.int (sc.2 ((u3 + (1 : Int32))).toNatClampNeg)), some (.int (sc.2 ((u3 + (2 : Int32))).toNatClampNeg)), none, none, none] (pc2 := 913) rfl rfl dL_law_910 ok_X12_stiltsFor ⟨fun _ => rfl, fun _ => Nat.le_of_ble_eq_true rfl⟩ rfl rv_85 wd_1292 wd_1293 wd_1294 rfl (e_X12_stiltsFor hq190) ?_
                                                  refine z_icmp_eq (pc2 := 916) (tgt := 1505) rfl dL_law_913 (by decide) (fun hc191 => ?_) (fun hc191 => ?_)
                                                  · replace h := ab_pos hc191 h
                                                    obtain ⟨x192, hxx192, h⟩ := ab_lt_e h
                                                    refine z_iinc (pc2 := 1508) (v := x192) (L2 := [some (.ref 0), some (.ref 8), some (.ref 85), some (.int x192)]) rfl dL_law_1505 rfl (by rw [hxx192]; rfl) (by decide) rfl rfl ?_
                                                    refine ab_goto (tgt := 18) dL_law_1508 (by decide) ?_
                                                    refine z_fgt [true, true, true, true] (L2 := [some (.ref 0), some (.ref 8), some (.ref 85), some (.int x192)]) rfl ?_
                                                    exact ih _ _ _ h
                                                  · replace h := ab_neg hc191 h
                                                    refine z_iconst (pc2 := 917) rfl dL_law_916 lt_i_0 ?_
                                                    exact z_iret dL_law_917 rfl rfl (fl_z rfl h)
                                                · replace h := ab_neg hc184 h
                                                  by_cases hc193 : ((sc.2 (u3).toNatClampNeg) &&& (63 : Int32)) = (22 : Int32)
                                                  · replace h := ab_pos hc193 h
                                                    refine ab_tsIn (tgt := 918) dL_law_33 (by rw [hc193]; decide) (by rw [hc193]; decide) (by rw [hc193]; rfl) (by decide) ?_
                                                    refine z_aload_n (pc2 := 919) rfl dL_law_918 rfl ?_
                                                    refine z_aload_n (pc2 := 920) rfl dL_law_919 rfl ?_
                                                    refine z_iload_n (pc2 := 921) rfl dL_law_920 rfl ?_
                                                    refine z_iconst (pc2 := 922) rfl dL_law_921 lt_i_1 ?_
                                                    refine z_iadd (pc2 := 923) rfl dL_law_922 ?_
                                                    obtain ⟨hb194, h⟩ := ab_ck_e h
                                                    refine z_sald (pc2 := 924) rfl dL_law_923 hb194 ?_
                                                    refine z_aload_n (pc2 := 925) rfl dL_law_924 rfl ?_
                                                    refine z_iload_n (pc2 := 926) rfl dL_law_925 rfl ?_
                                                    refine z_iconst (pc2 := 927) rfl dL_law_926 lt_i_2 ?_
                                                    refine z_iadd (pc2 := 928) rfl dL_law_927 ?_
                                                    obtain ⟨hb195, h⟩ := ab_ck_e h
                                                    refine z_sald (pc2 := 929) rfl dL_law_928 hb195 ?_
                                                    refine z_aload_n (pc2 := 930) rfl dL_law_929 rfl ?_
                                                    refine z_iload_n (pc2 := 931) rfl dL_law_930 rfl ?_
                                                    refine z_iconst (pc2 := 932) rfl dL_law_931 lt_i_3 ?_
                                                    refine z_iadd (pc2 := 933) rfl dL_law_932 ?_
                                                    obtain ⟨hb196, h⟩ := ab_ck_e h
                                                    refine z_sald (pc2 := 934) rfl dL_law_933 hb196 ?_
                                                    obtain ⟨q197, hq197, h⟩ := ab_bnd h
                                                    refine z_callVi 8 [.int (sc.2 ((u3 + (1 : Int32))).toNatClampNeg), .int (sc.2 ((u3 + (2 : Int32))).toNatClampNeg), .int (sc.2 ((u3 + (3 : Int32))).toNatClampNeg)] [some (.ref 8), some (.int (sc.2 ((u3 + (1 : Int32))).toNatClampNeg)), some (.int (sc.2 ((u3 + (2 : Int32))).toNatClampNeg)), some (.int (sc.2 ((u3 + (3 : Int32))).toNatClampNeg)), none, none, none] (pc2 := 937) rfl rfl dL_law_934 ok_X11_wallFor ⟨fun _ => rfl, fun _ => Nat.le_of_ble_eq_true rfl⟩ rfl rv_8 wd_759 wd_760 wd_761 rfl (e_X11_wallFor hq197) ?_
                                                    refine z_aload_n (pc2 := 938) rfl dL_law_937 rfl ?_
                                                    refine z_aload_n (pc2 := 939) rfl dL_law_938 rfl ?_
                                                    refine z_iload_n (pc2 := 940) rfl dL_law_939 rfl ?_
                                                    refine z_iconst (pc2 := 941) rfl dL_law_940 lt_i_1 ?_
                                                    refine z_iadd (pc2 := 942) rfl dL_law_941 ?_
                                                    obtain ⟨hb198, h⟩ := ab_ck_e h
                                                    refine z_sald (pc2 := 943) rfl dL_law_942 hb198 ?_
                                                    refine z_aload_n (pc2 := 944) rfl dL_law_943 rfl ?_
                                                    refine z_iload_n (pc2 := 945) rfl dL_law_944 rfl ?_
                                                    refine z_iconst (pc2 := 946) rfl dL_law_945 lt_i_2 ?_
                                                    refine z_iadd (pc2 := 947) rfl dL_law_946 ?_
                                                    obtain ⟨hb199, h⟩ := ab_ck_e h
                                                    refine z_sald (pc2 := 948) rfl dL_law_947 hb199 ?_
                                                    refine z_aload_n (pc2 := 949) rfl dL_law_948 rfl ?_
                                                    refine z_iload_n (pc2 := 950) rfl dL_law_949 rfl ?_
                                                    refine z_iconst (pc2 := 951) rfl dL_law_950 lt_i_3 ?_
                                                    refine z_iadd (pc2 := 952) rfl dL_law_951 ?_
                                                    obtain ⟨hb200, h⟩ := ab_ck_e h
                                                    refine z_sald (pc2 := 953) rfl dL_law_952 hb200 ?_
                                                    obtain ⟨q201, hq201, h⟩ := ab_bnd h
                                                    refine z_callVi 85 [.int (sc.2 ((u3 + (1 : Int32))).toNatClampNeg), .int (sc.2 ((u3 + (2 : Int32))).toNatClampNeg), .int (sc.2 ((u3 + (3 : Int32))).toNatClampNeg)] [some (.ref 85), some (.int (sc.2 ((u3 + (1 : Int32))).toNatClampNeg)), some (.int (sc.2 ((u3 + (2 : Int32))).toNatClampNeg)), some (.int (sc.2 ((u3 + (3 : Int32))).toNatClampNeg)), none, none, none, none] (pc2 := 956) rfl rfl dL_law_953 ok_X12_wallFor ⟨fun _ => rfl, fun _ => Nat.le_of_ble_eq_true rfl⟩ rfl rv_85 wd_1296 wd_1297 wd_1298 rfl (e_X12_wallFor hq201) ?_
                                                    refine z_icmp_eq (pc2 := 959) (tgt := 1505) rfl dL_law_956 (by decide) (fun hc202 => ?_) (fun hc202 => ?_)
                                                    · replace h := ab_pos hc202 h
                                                      obtain ⟨x203, hxx203, h⟩ := ab_lt_e h
                                                      refine z_iinc (pc2 := 1508) (v := x203) (L2 := [some (.ref 0), some (.ref 8), some (.ref 85), some (.int x203)]) rfl dL_law_1505 rfl (by rw [hxx203]; rfl) (by decide) rfl rfl ?_
                                                      refine ab_goto (tgt := 18) dL_law_1508 (by decide) ?_
                                                      refine z_fgt [true, true, true, true] (L2 := [some (.ref 0), some (.ref 8), some (.ref 85), some (.int x203)]) rfl ?_
                                                      exact ih _ _ _ h
                                                    · replace h := ab_neg hc202 h
                                                      refine z_iconst (pc2 := 960) rfl dL_law_959 lt_i_0 ?_
                                                      exact z_iret dL_law_960 rfl rfl (fl_z rfl h)
                                                  · replace h := ab_neg hc193 h
                                                    by_cases hc204 : ((sc.2 (u3).toNatClampNeg) &&& (63 : Int32)) = (23 : Int32)
                                                    · replace h := ab_pos hc204 h
                                                      refine ab_tsIn (tgt := 961) dL_law_33 (by rw [hc204]; decide) (by rw [hc204]; decide) (by rw [hc204]; rfl) (by decide) ?_
                                                      refine z_aload_n (pc2 := 962) rfl dL_law_961 rfl ?_
                                                      refine z_aload_n (pc2 := 963) rfl dL_law_962 rfl ?_
                                                      refine z_iload_n (pc2 := 964) rfl dL_law_963 rfl ?_
                                                      refine z_iconst (pc2 := 965) rfl dL_law_964 lt_i_1 ?_
                                                      refine z_iadd (pc2 := 966) rfl dL_law_965 ?_
                                                      obtain ⟨hb205, h⟩ := ab_ck_e h
                                                      refine z_sald (pc2 := 967) rfl dL_law_966 hb205 ?_
                                                      refine z_aload_n (pc2 := 968) rfl dL_law_967 rfl ?_
                                                      refine z_iload_n (pc2 := 969) rfl dL_law_968 rfl ?_
                                                      refine z_iconst (pc2 := 970) rfl dL_law_969 lt_i_2 ?_
                                                      refine z_iadd (pc2 := 971) rfl dL_law_970 ?_
                                                      obtain ⟨hb206, h⟩ := ab_ck_e h
                                                      refine z_sald (pc2 := 972) rfl dL_law_971 hb206 ?_
                                                      obtain ⟨q207, hq207, h⟩ := ab_bnd h
                                                      refine z_callVi 8 [.int (sc.2 ((u3 + (1 : Int32))).toNatClampNeg), .int (sc.2 ((u3 + (2 : Int32))).toNatClampNeg)] [some (.ref 8), some (.int (sc.2 ((u3 + (1 : Int32))).toNatClampNeg)), some (.int (sc.2 ((u3 + (2 : Int32))).toNatClampNeg)), none, none, none, none] (pc2 := 975) rfl rfl dL_law_972 ok_X11_springFor ⟨fun _ => rfl, fun _ => Nat.le_of_ble_eq_true rfl⟩ rfl rv_8 wd_763 wd_764 wd_765 rfl (e_X11_springFor hq207) ?_
                                                      refine z_aload_n (pc2 := 976) rfl dL_law_975 rfl ?_
                                                      refine z_aload_n (pc2 := 977) rfl dL_law_976 rfl ?_
                                                      refine z_iload_n (pc2 := 978) rfl dL_law_977 rfl ?_
                                                      refine z_iconst (pc2 := 979) rfl dL_law_978 lt_i_1 ?_
                                                      refine z_iadd (pc2 := 980) rfl dL_law_979 ?_
                                                      obtain ⟨hb208, h⟩ := ab_ck_e h
                                                      refine z_sald (pc2 := 981) rfl dL_law_980 hb208 ?_
                                                      refine z_aload_n (pc2 := 982) rfl dL_law_981 rfl ?_
                                                      refine z_iload_n (pc2 := 983) rfl dL_law_982 rfl ?_
                                                      refine z_iconst (pc2 := 984) rfl dL_law_983 lt_i_2 ?_
                                                      refine z_iadd (pc2 := 985) rfl dL_law_984 ?_
                                                      obtain ⟨hb209, h⟩ := ab_ck_e h
                                                      refine z_sald (pc2 := 986) rfl dL_law_985 hb209 ?_
                                                      obtain ⟨q210, hq210, h⟩ := ab_bnd h
                                                      refine z_callVi 85 [.int (sc.2 ((u3 + (1 : Int32))).toNatClampNeg), .int (sc.2 ((u3 + (2 : Int32))).toNatClampNeg)] [some (.ref 85), some (.int (sc.2 ((u3 + (1 : Int32))).toNatClampNeg)), some (.int (sc.2 ((u3 + (2 : Int32))).toNatClampNeg)), none, none, none, none] (pc2 := 989) rfl rfl dL_law_986 ok_X12_springFor ⟨fun _ => rfl, fun _ => Nat.le_of_ble_eq_true rfl⟩ rfl rv_85 wd_1300 wd_1301 wd_1302 rfl (e_X12_springFor hq210) ?_
                                                      refine z_icmp_eq (pc2 := 992) (tgt := 1505) rfl dL_law_989 (by decide) (fun hc211 => ?_) (fun hc211 => ?_)
                                                      · replace h := ab_pos hc211 h
                                                        obtain ⟨x212, hxx212, h⟩ := ab_lt_e h
                                                        refine z_iinc (pc2 := 1508) (v := x212) (L2 := [some (.ref 0), some (.ref 8), some (.ref 85), some (.int x212)]) rfl dL_law_1505 rfl (by rw [hxx212]; rfl) (by decide) rfl rfl ?_
                                                        refine ab_goto (tgt := 18) dL_law_1508 (by decide) ?_
                                                        refine z_fgt [true, true, true, true] (L2 := [some (.ref 0), some (.ref 8), some (.ref 85), some (.int x212)]) rfl ?_
                                                        exact ih _ _ _ h
                                                      · replace h := ab_neg hc211 h
                                                        refine z_iconst (pc2 := 993) rfl dL_law_992 lt_i_0 ?_
                                                        exact z_iret dL_law_993 rfl rfl (fl_z rfl h)
                                                    · replace h := ab_neg hc204 h
                                                      by_cases hc213 : ((sc.2 (u3).toNatClampNeg) &&& (63 : Int32)) = (24 : Int32)
                                                      · replace h := ab_pos hc213 h
                                                        refine ab_tsIn (tgt := 994) dL_law_33 (by rw [hc213]; decide) (by rw [hc213]; decide) (by rw [hc213]; rfl) (by decide) ?_
                                                        refine z_aload_n (pc2 := 995) rfl dL_law_994 rfl ?_
                                                        refine z_aload_n (pc2 := 996) rfl dL_law_995 rfl ?_
                                                        refine z_iload_n (pc2 := 997) rfl dL_law_996 rfl ?_
                                                        refine z_iconst (pc2 := 998) rfl dL_law_997 lt_i_1 ?_
                                                        refine z_iadd (pc2 := 999) rfl dL_law_998 ?_
                                                        obtain ⟨hb214, h⟩ := ab_ck_e h
                                                        refine z_sald (pc2 := 1000) rfl dL_law_999 hb214 ?_
                                                        refine z_aload_n (pc2 := 1001) rfl dL_law_1000 rfl ?_
                                                        refine z_iload_n (pc2 := 1002) rfl dL_law_1001 rfl ?_
                                                        refine z_iconst (pc2 := 1003) rfl dL_law_1002 lt_i_2 ?_
                                                        refine z_iadd (pc2 := 1004) rfl dL_law_1003 ?_
                                                        obtain ⟨hb215, h⟩ := ab_ck_e h
                                                        refine z_sald (pc2 := 1005) rfl dL_law_1004 hb215 ?_
                                                        obtain ⟨q216, hq216, h⟩ := ab_bnd h
                                                        refine z_callVi 8 [.int (sc.2 ((u3 + (1 : Int32))).toNatClampNeg), .int (sc.2 ((u3 + (2 : Int32))).toNatClampNeg)] [some (.ref 8), some (.int (sc.2 ((u3 + (1 : Int32))).toNatClampNeg)), some (.int (sc.2 ((u3 + (2 : Int32))).toNatClampNeg)), none, none, none] (pc2 := 1008) rfl rfl dL_law_1005 ok_X11_walk ⟨fun _ => rfl, fun _ => Nat.le_of_ble_eq_true rfl⟩ rfl rv_8 wd_768 wd_769 wd_770 rfl (e_X11_walk hq216) ?_
                                                        refine z_aload_n (pc2 := 1009) rfl dL_law_1008 rfl ?_
                                                        refine z_aload_n (pc2 := 1010) rfl dL_law_1009 rfl ?_
                                                        refine z_iload_n (pc2 := 1011) rfl dL_law_1010 rfl ?_
                                                        refine z_iconst (pc2 := 1012) rfl dL_law_1011 lt_i_1 ?_
                                                        refine z_iadd (pc2 := 1013) rfl dL_law_1012 ?_
                                                        obtain ⟨hb217, h⟩ := ab_ck_e h
                                                        refine z_sald (pc2 := 1014) rfl dL_law_1013 hb217 ?_
                                                        refine z_aload_n (pc2 := 1015) rfl dL_law_1014 rfl ?_
                                                        refine z_iload_n (pc2 := 1016) rfl dL_law_1015 rfl ?_
                                                        refine z_iconst (pc2 := 1017) rfl dL_law_1016 lt_i_2 ?_
                                                        refine z_iadd (pc2 := 1018) rfl dL_law_1017 ?_
                                                        obtain ⟨hb218, h⟩ := ab_ck_e h
                                                        refine z_sald (pc2 := 1019) rfl dL_law_1018 hb218 ?_
                                                        obtain ⟨q219, hq219, h⟩ := ab_bnd h
                                                        refine z_callVi 85 [.int (sc.2 ((u3 + (1 : Int32))).toNatClampNeg), .int (sc.2 ((u3 + (2 : Int32))).toNatClampNeg)] [some (.ref 85), some (.int (sc.2 ((u3 + (1 : Int32))).toNatClampNeg)), some (.int (sc.2 ((u3 + (2 : Int32))).toNatClampNeg)), none, none, none, none, none, none] (pc2 := 1022) rfl rfl dL_law_1019 ok_X12_walk ⟨fun _ => rfl, fun _ => Nat.le_of_ble_eq_true rfl⟩ rfl rv_85 wd_1304 wd_1305 wd_1306 rfl (e_X12_walk hq219) ?_
                                                        refine z_icmp_eq (pc2 := 1025) (tgt := 1505) rfl dL_law_1022 (by decide) (fun hc220 => ?_) (fun hc220 => ?_)
                                                        · replace h := ab_pos hc220 h
                                                          obtain ⟨x221, hxx221, h⟩ := ab_lt_e h
                                                          refine z_iinc (pc2 := 1508) (v := x221) (L2 := [some (.ref 0), some (.ref 8), some (.ref 85), some (.int x221)]) rfl dL_law_1505 rfl (by rw [hxx221]; rfl) (by decide) rfl rfl ?_
                                                          refine ab_goto (tgt := 18) dL_law_1508 (by decide) ?_
                                                          refine z_fgt [true, true, true, true] (L2 := [some (.ref 0), some (.ref 8), some (.ref 85), some (.int x221)]) rfl ?_
                                                          exact ih _ _ _ h
                                                        · replace h := ab_neg hc220 h
                                                          refine z_iconst (pc2 := 1026) rfl dL_law_1025 lt_i_0 ?_
                                                          exact z_iret dL_law_1026 rfl rfl (fl_z rfl h)
                                                      · replace h := ab_neg hc213 h
                                                        by_cases hc222 : ((sc.2 (u3).toNatClampNeg) &&& (63 : Int32)) = (25 : Int32)
                                                        · replace h := ab_pos hc222 h
                                                          refine ab_tsIn (tgt := 1027) dL_law_33 (by rw [hc222]; decide) (by rw [hc222]; decide) (by rw [hc222]; rfl) (by decide) ?_
                                                          refine z_aload_n (pc2 := 1028) rfl dL_law_1027 rfl ?_
                                                          refine z_aload_n (pc2 := 1029) rfl dL_law_1028 rfl ?_
                                                          refine z_iload_n (pc2 := 1030) rfl dL_law_1029 rfl ?_
                                                          refine z_iconst (pc2 := 1031) rfl dL_law_1030 lt_i_1 ?_
                                                          refine z_iadd (pc2 := 1032) rfl dL_law_1031 ?_
                                                          obtain ⟨hb223, h⟩ := ab_ck_e h
                                                          refine z_sald (pc2 := 1033) rfl dL_law_1032 hb223 ?_
                                                          obtain ⟨q224, hq224, h⟩ := ab_bnd h
                                                          refine z_callVi 8 [.int (sc.2 ((u3 + (1 : Int32))).toNatClampNeg)] [some (.ref 8), some (.int (sc.2 ((u3 + (1 : Int32))).toNatClampNeg)), none, none, none, none] (pc2 := 1036) rfl rfl dL_law_1033 ok_X11_council ⟨fun _ => rfl, fun _ => Nat.le_of_ble_eq_true rfl⟩ rfl rv_8 wd_781 wd_782 wd_783 rfl (e_X11_council hq224) ?_
                                                          refine z_aload_n (pc2 := 1037) rfl dL_law_1036 rfl ?_
                                                          refine z_aload_n (pc2 := 1038) rfl dL_law_1037 rfl ?_
                                                          refine z_iload_n (pc2 := 1039) rfl dL_law_1038 rfl ?_
                                                          refine z_iconst (pc2 := 1040) rfl dL_law_1039 lt_i_1 ?_
                                                          refine z_iadd (pc2 := 1041) rfl dL_law_1040 ?_
                                                          obtain ⟨hb225, h⟩ := ab_ck_e h
                                                          refine z_sald (pc2 := 1042) rfl dL_law_1041 hb225 ?_
                                                          obtain ⟨q226, hq226, h⟩ := ab_bnd h
                                                          refine z_callVi 85 [.int (sc.2 ((u3 + (1 : Int32))).toNatClampNeg)] [some (.ref 85), some (.int (sc.2 ((u3 + (1 : Int32))).toNatClampNeg)), none, none, none, none] (pc2 := 1045) rfl rfl dL_law_1042 ok_X12_council ⟨fun _ => rfl, fun _ => Nat.le_of_ble_eq_true rfl⟩ rfl rv_85 wd_1308 wd_1309 wd_1310 rfl (e_X12_council hq226) ?_
                                                          refine z_icmp_eq (pc2 := 1048) (tgt := 1505) rfl dL_law_1045 (by decide) (fun hc227 => ?_) (fun hc227 => ?_)
                                                          · replace h := ab_pos hc227 h
                                                            obtain ⟨x228, hxx228, h⟩ := ab_lt_e h
                                                            refine z_iinc (pc2 := 1508) (v := x228) (L2 := [some (.ref 0), some (.ref 8), some (.ref 85), some (.int x228)]) rfl dL_law_1505 rfl (by rw [hxx228]; rfl) (by decide) rfl rfl ?_
                                                            refine ab_goto (tgt := 18) dL_law_1508 (by decide) ?_
                                                            refine z_fgt [true, true, true, true] (L2 := [some (.ref 0), some (.ref 8), some (.ref 85), some (.int x228)]) rfl ?_
                                                            exact ih _ _ _ h
                                                          · replace h := ab_neg hc227 h
                                                            refine z_iconst (pc2 := 1049) rfl dL_law_1048 lt_i_0 ?_
                                                            exact z_iret dL_law_1049 rfl rfl (fl_z rfl h)
                                                        · replace h := ab_neg hc222 h
                                                          by_cases hc229 : ((sc.2 (u3).toNatClampNeg) &&& (63 : Int32)) = (26 : Int32)
                                                          · replace h := ab_pos hc229 h
                                                            refine ab_tsIn (tgt := 1050) dL_law_33 (by rw [hc229]; decide) (by rw [hc229]; decide) (by rw [hc229]; rfl) (by decide) ?_
                                                            refine z_aload_n (pc2 := 1051) rfl dL_law_1050 rfl ?_
                                                            refine z_aload_n (pc2 := 1052) rfl dL_law_1051 rfl ?_
                                                            refine z_iload_n (pc2 := 1053) rfl dL_law_1052 rfl ?_
                                                            refine z_iconst (pc2 := 1054) rfl dL_law_1053 lt_i_1 ?_
                                                            refine z_iadd (pc2 := 1055) rfl dL_law_1054 ?_
                                                            obtain ⟨hb230, h⟩ := ab_ck_e h
                                                            refine z_sald (pc2 := 1056) rfl dL_law_1055 hb230 ?_
                                                            refine z_aload_n (pc2 := 1057) rfl dL_law_1056 rfl ?_
                                                            refine z_iload_n (pc2 := 1058) rfl dL_law_1057 rfl ?_
                                                            refine z_iconst (pc2 := 1059) rfl dL_law_1058 lt_i_2 ?_
                                                            refine z_iadd (pc2 := 1060) rfl dL_law_1059 ?_
                                                            obtain ⟨hb231, h⟩ := ab_ck_e h
                                                            refine z_sald (pc2 := 1061) rfl dL_law_1060 hb231 ?_
                                                            refine z_aload_n (pc2 := 1062) rfl dL_law_1061 rfl ?_
                                                            refine z_iload_n (pc2 := 1063) rfl dL_law_1062 rfl ?_
                                                            refine z_iconst (pc2 := 1064) rfl dL_law_1063 lt_i_3 ?_
                                                            refine z_iadd (pc2 := 1065) rfl dL_law_1064 ?_
                                                            obtain ⟨hb232, h⟩ := ab_ck_e h
                                                            refine z_sald (pc2 := 1066) rfl dL_law_1065 hb232 ?_
                                                            obtain ⟨q233, hq233, h⟩ := ab_bnd h
                                                            refine z_callVi 8 [.int (sc.2 ((u3 + (1 : Int32))).toNatClampNeg), .int (sc.2 ((u3 + (2 : Int32))).toNatClampNeg), .int (sc.2 ((u3 + (3 : Int32))).toNatClampNeg)] [some (.ref 8), some (.int (sc.2 ((u3 + (1 : Int32))).toNatClampNeg)), some (.int (sc.2 ((u3 + (2 : Int32))).toNatClampNeg)), some (.int (sc.2 ((u3 + (3 : Int32))).toNatClampNeg)), none, none] (pc2 := 1069) rfl rfl dL_law_1066 ok_X11_odds ⟨fun _ => rfl, fun _ => Nat.le_of_ble_eq_true rfl⟩ rfl rv_8 wd_786 wd_787 wd_788 rfl (e_X11_odds hq233) ?_
                                                            refine z_aload_n (pc2 := 1070) rfl dL_law_1069 rfl ?_
                                                            refine z_aload_n (pc2 := 1071) rfl dL_law_1070 rfl ?_
                                                            refine z_iload_n (pc2 := 1072) rfl dL_law_1071 rfl ?_
                                                            refine z_iconst (pc2 := 1073) rfl dL_law_1072 lt_i_1 ?_
                                                            refine z_iadd (pc2 := 1074) rfl dL_law_1073 ?_
                                                            obtain ⟨hb234, h⟩ := ab_ck_e h
                                                            refine z_sald (pc2 := 1075) rfl dL_law_1074 hb234 ?_
                                                            refine z_aload_n (pc2 := 1076) rfl dL_law_1075 rfl ?_
                                                            refine z_iload_n (pc2 := 1077) rfl dL_law_1076 rfl ?_
                                                            refine z_iconst (pc2 := 1078) rfl dL_law_1077 lt_i_2 ?_
                                                            refine z_iadd (pc2 := 1079) rfl dL_law_1078 ?_
                                                            obtain ⟨hb235, h⟩ := ab_ck_e h
                                                            refine z_sald (pc2 := 1080) rfl dL_law_1079 hb235 ?_
                                                            refine z_aload_n (pc2 := 1081) rfl dL_law_1080 rfl ?_
                                                            refine z_iload_n (pc2 := 1082) rfl dL_law_1081 rfl ?_
                                                            refine z_iconst (pc2 := 1083) rfl dL_law_1082 lt_i_3 ?_
                                                            refine z_iadd (pc2 := 1084) rfl dL_law_1083 ?_
                                                            obtain ⟨hb236, h⟩ := ab_ck_e h
                                                            refine z_sald (pc2 := 1085) rfl dL_law_1084 hb236 ?_
                                                            obtain ⟨q237, hq237, h⟩ := ab_bnd h
                                                            refine z_callVi 85 [.int (sc.2 ((u3 + (1 : Int32))).toNatClampNeg), .int (sc.2 ((u3 + (2 : Int32))).toNatClampNeg), .int (sc.2 ((u3 + (3 : Int32))).toNatClampNeg)] [some (.ref 85), some (.int (sc.2 ((u3 + (1 : Int32))).toNatClampNeg)), some (.int (sc.2 ((u3 + (2 : Int32))).toNatClampNeg)), some (.int (sc.2 ((u3 + (3 : Int32))).toNatClampNeg)), none, none] (pc2 := 1088) rfl rfl dL_law_1085 ok_X12_odds ⟨fun _ => rfl, fun _ => Nat.le_of_ble_eq_true rfl⟩ rfl rv_85 wd_1312 wd_1313 wd_1314 rfl (e_X12_odds hq237) ?_
                                                            refine z_icmp_eq (pc2 := 1091) (tgt := 1505) rfl dL_law_1088 (by decide) (fun hc238 => ?_) (fun hc238 => ?_)
                                                            · replace h := ab_pos hc238 h
                                                              obtain ⟨x239, hxx239, h⟩ := ab_lt_e h
                                                              refine z_iinc (pc2 := 1508) (v := x239) (L2 := [some (.ref 0), some (.ref 8), some (.ref 85), some (.int x239)]) rfl dL_law_1505 rfl (by rw [hxx239]; rfl) (by decide) rfl rfl ?_
                                                              refine ab_goto (tgt := 18) dL_law_1508 (by decide) ?_
                                                              refine z_fgt [true, true, true, true] (L2 := [some (.ref 0), some (.ref 8), some (.ref 85), some (.int x239)]) rfl ?_
                                                              exact ih _ _ _ h
                                                            · replace h := ab_neg hc238 h
                                                              refine z_iconst (pc2 := 1092) rfl dL_law_1091 lt_i_0 ?_
                                                              exact z_iret dL_law_1092 rfl rfl (fl_z rfl h)
                                                          · replace h := ab_neg hc229 h
                                                            by_cases hc240 : ((sc.2 (u3).toNatClampNeg) &&& (63 : Int32)) = (27 : Int32)
                                                            · replace h := ab_pos hc240 h
                                                              refine ab_tsIn (tgt := 1093) dL_law_33 (by rw [hc240]; decide) (by rw [hc240]; decide) (by rw [hc240]; rfl) (by decide) ?_
                                                              refine z_aload_n (pc2 := 1094) rfl dL_law_1093 rfl ?_
                                                              refine z_aload_n (pc2 := 1095) rfl dL_law_1094 rfl ?_
                                                              refine z_iload_n (pc2 := 1096) rfl dL_law_1095 rfl ?_
                                                              refine z_iconst (pc2 := 1097) rfl dL_law_1096 lt_i_1 ?_
                                                              refine z_iadd (pc2 := 1098) rfl dL_law_1097 ?_
                                                              obtain ⟨hb241, h⟩ := ab_ck_e h
                                                              refine z_sald (pc2 := 1099) rfl dL_law_1098 hb241 ?_
                                                              refine z_aload_n (pc2 := 1100) rfl dL_law_1099 rfl ?_
                                                              refine z_iload_n (pc2 := 1101) rfl dL_law_1100 rfl ?_
                                                              refine z_iconst (pc2 := 1102) rfl dL_law_1101 lt_i_2 ?_
                                                              refine z_iadd (pc2 := 1103) rfl dL_law_1102 ?_
                                                              obtain ⟨hb242, h⟩ := ab_ck_e h
                                                              refine z_sald (pc2 := 1104) rfl dL_law_1103 hb242 ?_
                                                              refine z_aload_n (pc2 := 1105) rfl dL_law_1104 rfl ?_
                                                              refine z_iload_n (pc2 := 1106) rfl dL_law_1105 rfl ?_
                                                              refine z_iconst (pc2 := 1107) rfl dL_law_1106 lt_i_3 ?_
                                                              refine z_iadd (pc2 := 1108) rfl dL_law_1107 ?_
                                                              obtain ⟨hb243, h⟩ := ab_ck_e h
                                                              refine z_sald (pc2 := 1109) rfl dL_law_1108 hb243 ?_
                                                              obtain ⟨q244, hq244, h⟩ := ab_bnd h
                                                              refine z_callVi 8 [.int (sc.2 ((u3 + (1 : Int32))).toNatClampNeg), .int (sc.2 ((u3 + (2 : Int32))).toNatClampNeg), .int (sc.2 ((u3 + (3 : Int32))).toNatClampNeg)] [some (.ref 8), some (.int (sc.2 ((u3 + (1 : Int32))).toNatClampNeg)), some (.int (sc.2 ((u3 + (2 : Int32))).toNatClampNeg)), some (.int (sc.2 ((u3 + (3 : Int32))).toNatClampNeg)), none, none] (pc2 := 1112) rfl rfl dL_law_1109 ok_X11_fits ⟨fun _ => rfl, fun _ => Nat.le_of_ble_eq_true rfl⟩ rfl rv_8 wd_790 wd_791 wd_792 rfl (e_X11_fits hq244) ?_
                                                              refine z_aload_n (pc2 := 1113) rfl dL_law_1112 rfl ?_
                                                              refine z_aload_n (pc2 := 1114) rfl dL_law_1113 rfl ?_
                                                              refine z_iload_n (pc2 := 1115) rfl dL_law_1114 rfl ?_
                                                              refine z_iconst (pc2 := 1116) rfl dL_law_1115 lt_i_1 ?_
                                                              refine z_iadd (pc2 := 1117) rfl dL_law_1116 ?_
                                                              obtain ⟨hb245, h⟩ := ab_ck_e h
                                                              refine z_sald (pc2 := 1118) rfl dL_law_1117 hb245 ?_
                                                              refine z_aload_n (pc2 := 1119) rfl dL_law_1118 rfl ?_
                                                              refine z_iload_n (pc2 := 1120) rfl dL_law_1119 rfl ?_
                                                              refine z_iconst (pc2 := 1121) rfl dL_law_1120 lt_i_2 ?_
                                                              refine z_iadd (pc2 := 1122) rfl dL_law_1121 ?_
                                                              obtain ⟨hb246, h⟩ := ab_ck_e h
                                                              refine z_sald (pc2 := 1123) rfl dL_law_1122 hb246 ?_
                                                              refine z_aload_n (pc2 := 1124) rfl dL_law_1123 rfl ?_
                                                              refine z_iload_n (pc2 := 1125) rfl dL_law_1124 rfl ?_
                                                              refine z_iconst (pc2 := 1126) rfl dL_law_1125 lt_i_3 ?_
                                                              refine z_iadd (pc2 := 1127) rfl dL_law_1126 ?_
                                                              obtain ⟨hb247, h⟩ := ab_ck_e h
                                                              refine z_sald (pc2 := 1128) rfl dL_law_1127 hb247 ?_
                                                              obtain ⟨q248, hq248, h⟩ := ab_bnd h
                                                              refine z_callVi 85 [.int (sc.2 ((u3 + (1 : Int32))).toNatClampNeg), .int (sc.2 ((u3 + (2 : Int32))).toNatClampNeg), .int (sc.2 ((u3 + (3 : Int32))).toNatClampNeg)] [some (.ref 85), some (.int (sc.2 ((u3 + (1 : Int32))).toNatClampNeg)), some (.int (sc.2 ((u3 + (2 : Int32))).toNatClampNeg)), some (.int (sc.2 ((u3 + (3 : Int32))).toNatClampNeg)), none, none, none, none] (pc2 := 1131) rfl rfl dL_law_1128 ok_X12_fits ⟨fun _ => rfl, fun _ => Nat.le_of_ble_eq_true rfl⟩ rfl rv_85 wd_1319 wd_1320 wd_1321 rfl (e_X12_fits hq248) ?_
                                                              refine z_icmp_eq (pc2 := 1134) (tgt := 1505) rfl dL_law_1131 (by decide) (fun hc249 => ?_) (fun hc249 => ?_)
                                                              · replace h := ab_pos hc249 h
                                                                obtain ⟨x250, hxx250, h⟩ := ab_lt_e h
                                                                refine z_iinc (pc2 := 1508) (v := x250) (L2 := [some (.ref 0), some (.ref 8), some (.ref 85), some (.int x250)]) rfl dL_law_1505 rfl (by rw [hxx250]; rfl) (by decide) rfl rfl ?_
                                                                refine ab_goto (tgt := 18) dL_law_1508 (by decide) ?_
                                                                refine z_fgt [true, true, true, true] (L2 := [some (.ref 0), some (.ref 8), some (.ref 85), some (.int x250)]) rfl ?_
                                                                exact ih _ _ _ h
                                                              · replace h := ab_neg hc249 h
                                                                refine z_iconst (pc2 := 1135) rfl dL_law_1134 lt_i_0 ?_
                                                                exact z_iret dL_law_1135 rfl rfl (fl_z rfl h)
                                                            · replace h := ab_neg hc240 h
                                                              by_cases hc251 : ((sc.2 (u3).toNatClampNeg) &&& (63 : Int32)) = (28 : Int32)
                                                              · replace h := ab_pos hc251 h
                                                                refine ab_tsIn (tgt := 1136) dL_law_33 (by rw [hc251]; decide) (by rw [hc251]; decide) (by rw [hc251]; rfl) (by decide) ?_
                                                                refine z_aload_n (pc2 := 1137) rfl dL_law_1136 rfl ?_
                                                                refine z_aload_n (pc2 := 1138) rfl dL_law_1137 rfl ?_
                                                                refine z_iload_n (pc2 := 1139) rfl dL_law_1138 rfl ?_
                                                                refine z_iconst (pc2 := 1140) rfl dL_law_1139 lt_i_1 ?_
                                                                refine z_iadd (pc2 := 1141) rfl dL_law_1140 ?_
                                                                obtain ⟨hb252, h⟩ := ab_ck_e h
                                                                refine z_sald (pc2 := 1142) rfl dL_law_1141 hb252 ?_
                                                                refine z_aload_n (pc2 := 1143) rfl dL_law_1142 rfl ?_
                                                                refine z_iload_n (pc2 := 1144) rfl dL_law_1143 rfl ?_
                                                                refine z_iconst (pc2 := 1145) rfl dL_law_1144 lt_i_2 ?_
                                                                refine z_iadd (pc2 := 1146) rfl dL_law_1145 ?_
                                                                obtain ⟨hb253, h⟩ := ab_ck_e h
                                                                refine z_sald (pc2 := 1147) rfl dL_law_1146 hb253 ?_
                                                                refine z_aload_n (pc2 := 1148) rfl dL_law_1147 rfl ?_
                                                                refine z_iload_n (pc2 := 1149) rfl dL_law_1148 rfl ?_
                                                                refine z_iconst (pc2 := 1150) rfl dL_law_1149 lt_i_3 ?_
                                                                refine z_iadd (pc2 := 1151) rfl dL_law_1150 ?_
                                                                obtain ⟨hb254, h⟩ := ab_ck_e h
                                                                refine z_sald (pc2 := 1152) rfl dL_law_1151 hb254 ?_
                                                                obtain ⟨q255, hq255, h⟩ := ab_bnd h
                                                                refine z_callVi 8 [.int (sc.2 ((u3 + (1 : Int32))).toNatClampNeg), .int (sc.2 ((u3 + (2 : Int32))).toNatClampNeg), .int (sc.2 ((u3 + (3 : Int32))).toNatClampNeg)] [some (.ref 8), some (.int (sc.2 ((u3 + (1 : Int32))).toNatClampNeg)), some (.int (sc.2 ((u3 + (2 : Int32))).toNatClampNeg)), some (.int (sc.2 ((u3 + (3 : Int32))).toNatClampNeg)), none, none] (pc2 := 1155) rfl rfl dL_law_1152 ok_X11_voice ⟨fun _ => rfl, fun _ => Nat.le_of_ble_eq_true rfl⟩ rfl rv_8 wd_798 wd_799 wd_800 rfl (e_X11_voice hq255) ?_
                                                                refine z_aload_n (pc2 := 1156) rfl dL_law_1155 rfl ?_
                                                                refine z_aload_n (pc2 := 1157) rfl dL_law_1156 rfl ?_
                                                                refine z_iload_n (pc2 := 1158) rfl dL_law_1157 rfl ?_
                                                                refine z_iconst (pc2 := 1159) rfl dL_law_1158 lt_i_1 ?_
                                                                refine z_iadd (pc2 := 1160) rfl dL_law_1159 ?_
                                                                obtain ⟨hb256, h⟩ := ab_ck_e h
                                                                refine z_sald (pc2 := 1161) rfl dL_law_1160 hb256 ?_
                                                                refine z_aload_n (pc2 := 1162) rfl dL_law_1161 rfl ?_
                                                                refine z_iload_n (pc2 := 1163) rfl dL_law_1162 rfl ?_
                                                                refine z_iconst (pc2 := 1164) rfl dL_law_1163 lt_i_2 ?_
                                                                refine z_iadd (pc2 := 1165) rfl dL_law_1164 ?_
                                                                obtain ⟨hb257, h⟩ := ab_ck_e h
                                                                refine z_sald (pc2 := 1166) rfl dL_law_1165 hb257 ?_
                                                                refine z_aload_n (pc2 := 1167) rfl dL_law_1166 rfl ?_
                                                                refine z_iload_n (pc2 := 1168) rfl dL_law_1167 rfl ?_
                                                                refine z_iconst (pc2 := 1169) rfl dL_law_1168 lt_i_3 ?_
                                                                refine z_iadd (pc2 := 1170) rfl dL_law_1169 ?_
                                                                obtain ⟨hb258, h⟩ := ab_ck_e h
                                                                refine z_sald (pc2 := 1171) rfl dL_law_1170 hb258 ?_
                                                                obtain ⟨q259, hq259, h⟩ := ab_bnd h
                                                                refine z_callVi 85 [.int (sc.2 ((u3 + (1 : Int32))).toNatClampNeg), .int (sc.2 ((u3 + (2 : Int32))).toNatClampNeg), .int (sc.2 ((u3 + (3 : Int32))).toNatClampNeg)] [some (.ref 85), some (.int (sc.2 ((u3 + (1 : Int32))).toNatClampNeg)), some (.int (sc.2 ((u3 + (2 : Int32))).toNatClampNeg)), some (.int (sc.2 ((u3 + (3 : Int32))).toNatClampNeg)), none, none] (pc2 := 1174) rfl rfl dL_law_1171 ok_X12_voice ⟨fun _ => rfl, fun _ => Nat.le_of_ble_eq_true rfl⟩ rfl rv_85 wd_1326 wd_1327 wd_1328 rfl (e_X12_voice hq259) ?_
                                                                refine z_icmp_eq (pc2 := 1177) (tgt := 1505) rfl dL_law_1174 (by decide) (fun hc260 => ?_) (fun hc260 => ?_)
                                                                · replace h := ab_pos hc260 h
                                                                  obtain ⟨x261, hxx261, h⟩ := ab_lt_e h
                                                                  refine z_iinc (pc2 := 1508) (v := x261) (L2 := [some (.ref 0), some (.ref 8), some (.ref 85), some (.int x261)]) rfl dL_law_1505 rfl (by rw [hxx261]; rfl) (by decide) rfl rfl ?_
                                                                  refine ab_goto (tgt := 18) dL_law_1508 (by decide) ?_
                                                                  refine z_fgt [true, true, true, true] (L2 := [some (.ref 0), some (.ref 8), some (.ref 85), some (.int x261)]) rfl ?_
                                                                  exact ih _ _ _ h
                                                                · replace h := ab_neg hc260 h
                                                                  refine z_iconst (pc2 := 1178) rfl dL_law_1177 lt_i_0 ?_
                                                                  exact z_iret dL_law_1178 rfl rfl (fl_z rfl h)
                                                              · replace h := ab_neg hc251 h
                                                                by_cases hc262 : ((sc.2 (u3).toNatClampNeg) &&& (63 : Int32)) = (29 : Int32)
                                                                · replace h := ab_pos hc262 h
                                                                  refine ab_tsIn (tgt := 1179) dL_law_33 (by rw [hc262]; decide) (by rw [hc262]; decide) (by rw [hc262]; rfl) (by decide) ?_
                                                                  refine z_aload_n (pc2 := 1180) rfl dL_law_1179 rfl ?_
                                                                  refine z_aload_n (pc2 := 1181) rfl dL_law_1180 rfl ?_
                                                                  refine z_iload_n (pc2 := 1182) rfl dL_law_1181 rfl ?_
                                                                  refine z_iconst (pc2 := 1183) rfl dL_law_1182 lt_i_1 ?_
                                                                  refine z_iadd (pc2 := 1184) rfl dL_law_1183 ?_
                                                                  obtain ⟨hb263, h⟩ := ab_ck_e h
                                                                  refine z_sald (pc2 := 1185) rfl dL_law_1184 hb263 ?_
                                                                  obtain ⟨q264, hq264, h⟩ := ab_bnd h
                                                                  refine z_callVi 8 [.int (sc.2 ((u3 + (1 : Int32))).toNatClampNeg)] [some (.ref 8), some (.int (sc.2 ((u3 + (1 : Int32))).toNatClampNeg))] (pc2 := 1188) rfl rfl dL_law_1185 ok_X11_body ⟨fun _ => rfl, fun _ => Nat.le_of_ble_eq_true rfl⟩ rfl rv_8 wd_895 wd_896 wd_897 rfl (e_X11_body hq264) ?_
                                                                  refine z_aload_n (pc2 := 1189) rfl dL_law_1188 rfl ?_
                                                                  refine z_aload_n (pc2 := 1190) rfl dL_law_1189 rfl ?_
                                                                  refine z_iload_n (pc2 := 1191) rfl dL_law_1190 rfl ?_
                                                                  refine z_iconst (pc2 := 1192) rfl dL_law_1191 lt_i_1 ?_
                                                                  refine z_iadd (pc2 := 1193) rfl dL_law_1192 ?_
                                                                  obtain ⟨hb265, h⟩ := ab_ck_e h
                                                                  refine z_sald (pc2 := 1194) rfl dL_law_1193 hb265 ?_
                                                                  obtain ⟨q266, hq266, h⟩ := ab_bnd h
                                                                  refine z_callVi 85 [.int (sc.2 ((u3 + (1 : Int32))).toNatClampNeg)] [some (.ref 85), some (.int (sc.2 ((u3 + (1 : Int32))).toNatClampNeg))] (pc2 := 1197) rfl rfl dL_law_1194 ok_X12_body ⟨fun _ => rfl, fun _ => Nat.le_of_ble_eq_true rfl⟩ rfl rv_85 wd_1358 wd_1359 wd_1360 rfl (e_X12_body hq266) ?_
                                                                  refine z_icmp_eq (pc2 := 1200) (tgt := 1505) rfl dL_law_1197 (by decide) (fun hc267 => ?_) (fun hc267 => ?_)
                                                                  · replace h := ab_pos hc267 h
                                                                    obtain ⟨x268, hxx268, h⟩ := ab_lt_e h
                                                                    refine z_iinc (pc2 := 1508) (v := x268) (L2 := [some (.ref 0), some (.ref 8), some (.ref 85), some (.int x268)]) rfl dL_law_1505 rfl (by rw [hxx268]; rfl) (by decide) rfl rfl ?_
                                                                    refine ab_goto (tgt := 18) dL_law_1508 (by decide) ?_
                                                                    refine z_fgt [true, true, true, true] (L2 := [some (.ref 0), some (.ref 8), some (.ref 85), some (.int x268)]) rfl ?_
                                                                    exact ih _ _ _ h
                                                                  · replace h := ab_neg hc267 h
                                                                    refine z_iconst (pc2 := 1201) rfl dL_law_1200 lt_i_0 ?_
                                                                    exact z_iret dL_law_1201 rfl rfl (fl_z rfl h)
                                                                · replace h := ab_neg hc262 h
                                                                  by_cases hc269 : ((sc.2 (u3).toNatClampNeg) &&& (63 : Int32)) = (30 : Int32)
                                                                  · replace h := ab_pos hc269 h
                                                                    refine ab_tsIn (tgt := 1202) dL_law_33 (by rw [hc269]; decide) (by rw [hc269]; decide) (by rw [hc269]; rfl) (by decide) ?_
                                                                    refine z_aload_n (pc2 := 1203) rfl dL_law_1202 rfl ?_
                                                                    refine z_aload_n (pc2 := 1204) rfl dL_law_1203 rfl ?_
                                                                    refine z_iload_n (pc2 := 1205) rfl dL_law_1204 rfl ?_
                                                                    refine z_iconst (pc2 := 1206) rfl dL_law_1205 lt_i_1 ?_
                                                                    refine z_iadd (pc2 := 1207) rfl dL_law_1206 ?_
                                                                    obtain ⟨hb270, h⟩ := ab_ck_e h
                                                                    refine z_sald (pc2 := 1208) rfl dL_law_1207 hb270 ?_
                                                                    refine z_aload_n (pc2 := 1209) rfl dL_law_1208 rfl ?_
                                                                    refine z_iload_n (pc2 := 1210) rfl dL_law_1209 rfl ?_
                                                                    refine z_iconst (pc2 := 1211) rfl dL_law_1210 lt_i_2 ?_
                                                                    refine z_iadd (pc2 := 1212) rfl dL_law_1211 ?_
                                                                    obtain ⟨hb271, h⟩ := ab_ck_e h
                                                                    refine z_sald (pc2 := 1213) rfl dL_law_1212 hb271 ?_
                                                                    refine z_aload_n (pc2 := 1214) rfl dL_law_1213 rfl ?_
                                                                    refine z_iload_n (pc2 := 1215) rfl dL_law_1214 rfl ?_
                                                                    refine z_iconst (pc2 := 1216) rfl dL_law_1215 lt_i_3 ?_
                                                                    refine z_iadd (pc2 := 1217) rfl dL_law_1216 ?_
                                                                    obtain ⟨hb272, h⟩ := ab_ck_e h
                                                                    refine z_sald (pc2 := 1218) rfl dL_law_1217 hb272 ?_
                                                                    obtain ⟨q273, hq273, h⟩ := ab_bnd h
                                                                    refine z_callVi 8 [.int (sc.2 ((u3 + (1 : Int32))).toNatClampNeg), .int (sc.2 ((u3 + (2 : Int32))).toNatClampNeg), .int (sc.2 ((u3 + (3 : Int32))).toNatClampNeg)] [some (.ref 8), some (.int (sc.2 ((u3 + (1 : Int32))).toNatClampNeg)), some (.int (sc.2 ((u3 + (2 : Int32))).toNatClampNeg)), some (.int (sc.2 ((u3 + (3 : Int32))).toNatClampNeg))] (pc2 := 1221) rfl rfl dL_law_1218 ok_X11_sheet ⟨fun _ => rfl, fun _ => Nat.le_of_ble_eq_true rfl⟩ rfl rv_8 wd_899 wd_900 wd_901 rfl (e_X11_sheet hq273) ?_
                                                                    refine z_aload_n (pc2 := 1222) rfl dL_law_1221 rfl ?_
                                                                    refine z_aload_n (pc2 := 1223) rfl dL_law_1222 rfl ?_
                                                                    refine z_iload_n (pc2 := 1224) rfl dL_law_1223 rfl ?_
                                                                    refine z_iconst (pc2 := 1225) rfl dL_law_1224 lt_i_1 ?_
                                                                    refine z_iadd (pc2 := 1226) rfl dL_law_1225 ?_
                                                                    obtain ⟨hb274, h⟩ := ab_ck_e h
                                                                    refine z_sald (pc2 := 1227) rfl dL_law_1226 hb274 ?_
                                                                    refine z_aload_n (pc2 := 1228) rfl dL_law_1227 rfl ?_
                                                                    refine z_iload_n (pc2 := 1229) rfl dL_law_1228 rfl ?_
                                                                    refine z_iconst (pc2 := 1230) rfl dL_law_1229 lt_i_2 ?_
                                                                    refine z_iadd (pc2 := 1231) rfl dL_law_1230 ?_
                                                                    obtain ⟨hb275, h⟩ := ab_ck_e h
                                                                    refine z_sald (pc2 := 1232) rfl dL_law_1231 hb275 ?_
                                                                    refine z_aload_n (pc2 := 1233) rfl dL_law_1232 rfl ?_
                                                                    refine z_iload_n (pc2 := 1234) rfl dL_law_1233 rfl ?_
                                                                    refine z_iconst (pc2 := 1235) rfl dL_law_1234 lt_i_3 ?_
                                                                    refine z_iadd (pc2 := 1236) rfl dL_law_1235 ?_
                                                                    obtain ⟨hb276, h⟩ := ab_ck_e h
                                                                    refine z_sald (pc2 := 1237) rfl dL_law_1236 hb276 ?_
                                                                    obtain ⟨q277, hq277, h⟩ := ab_bnd h
                                                                    refine z_callVi 85 [.int (sc.2 ((u3 + (1 : Int32))).toNatClampNeg), .int (sc.2 ((u3 + (2 : Int32))).toNatClampNeg), .int (sc.2 ((u3 + (3 : Int32))).toNatClampNeg)] [some (.ref 85), some (.int (sc.2 ((u3 + (1 : Int32))).toNatClampNeg)), some (.int (sc.2 ((u3 + (2 : Int32))).toNatClampNeg)), some (.int (sc.2 ((u3 + (3 : Int32))).toNatClampNeg)), none] (pc2 := 1240) rfl rfl dL_law_1237 ok_X12_sheet ⟨fun _ => rfl, fun _ => Nat.le_of_ble_eq_true rfl⟩ rfl rv_85 wd_1362 wd_1363 wd_1364 rfl (e_X12_sheet hq277) ?_
                                                                    refine z_icmp_eq (pc2 := 1243) (tgt := 1505) rfl dL_law_1240 (by decide) (fun hc278 => ?_) (fun hc278 => ?_)
                                                                    · replace h := ab_pos hc278 h
                                                                      obtain ⟨x279, hxx279, h⟩ := ab_lt_e h
                                                                      refine z_iinc (pc2 := 1508) (v := x279) (L2 := [some (.ref 0), some (.ref 8), some (.ref 85), some (.int x279)]) rfl dL_law_1505 rfl (by rw [hxx279]; rfl) (by decide) rfl rfl ?_
                                                                      refine ab_goto (tgt := 18) dL_law_1508 (by decide) ?_
                                                                      refine z_fgt [true, true, true, true] (L2 := [some (.ref 0), some (.ref 8), some (.ref 85), some (.int x279)]) rfl ?_
                                                                      exact ih _ _ _ h
                                                                    · replace h := ab_neg hc278 h
                                                                      refine z_iconst (pc2 := 1244) rfl dL_law_1243 lt_i_0 ?_
                                                                      exact z_iret dL_law_1244 rfl rfl (fl_z rfl h)
                                                                  · replace h := ab_neg hc269 h
                                                                    by_cases hc280 : ((sc.2 (u3).toNatClampNeg) &&& (63 : Int32)) = (31 : Int32)
                                                                    · replace h := ab_pos hc280 h
                                                                      refine ab_tsIn (tgt := 1245) dL_law_33 (by rw [hc280]; decide) (by rw [hc280]; decide) (by rw [hc280]; rfl) (by decide) ?_
                                                                      refine z_aload_n (pc2 := 1246) rfl dL_law_1245 rfl ?_
                                                                      refine z_aload_n (pc2 := 1247) rfl dL_law_1246 rfl ?_
                                                                      refine z_iload_n (pc2 := 1248) rfl dL_law_1247 rfl ?_
                                                                      refine z_iconst (pc2 := 1249) rfl dL_law_1248 lt_i_1 ?_
                                                                      refine z_iadd (pc2 := 1250) rfl dL_law_1249 ?_
                                                                      obtain ⟨hb281, h⟩ := ab_ck_e h
                                                                      refine z_sald (pc2 := 1251) rfl dL_law_1250 hb281 ?_
                                                                      refine z_aload_n (pc2 := 1252) rfl dL_law_1251 rfl ?_
                                                                      refine z_iload_n (pc2 := 1253) rfl dL_law_1252 rfl ?_
                                                                      refine z_iconst (pc2 := 1254) rfl dL_law_1253 lt_i_2 ?_
                                                                      refine z_iadd (pc2 := 1255) rfl dL_law_1254 ?_
                                                                      obtain ⟨hb282, h⟩ := ab_ck_e h
                                                                      refine z_sald (pc2 := 1256) rfl dL_law_1255 hb282 ?_
                                                                      refine z_aload_n (pc2 := 1257) rfl dL_law_1256 rfl ?_
                                                                      refine z_iload_n (pc2 := 1258) rfl dL_law_1257 rfl ?_
                                                                      refine z_iconst (pc2 := 1259) rfl dL_law_1258 lt_i_3 ?_
                                                                      refine z_iadd (pc2 := 1260) rfl dL_law_1259 ?_
                                                                      obtain ⟨hb283, h⟩ := ab_ck_e h
                                                                      refine z_sald (pc2 := 1261) rfl dL_law_1260 hb283 ?_
                                                                      obtain ⟨q284, hq284, h⟩ := ab_bnd h
                                                                      refine z_callVi 8 [.int (sc.2 ((u3 + (1 : Int32))).toNatClampNeg), .int (sc.2 ((u3 + (2 : Int32))).toNatClampNeg), .int (sc.2 ((u3 + (3 : Int32))).toNatClampNeg)] [some (.ref 8), some (.int (sc.2 ((u3 + (1 : Int32))).toNatClampNeg)), some (.int (sc.2 ((u3 + (2 : Int32))).toNatClampNeg)), some (.int (sc.2 ((u3 + (3 : Int32))).toNatClampNeg)), none] (pc2 := 1264) rfl rfl dL_law_1261 ok_X11_put ⟨fun _ => rfl, fun _ => Nat.le_of_ble_eq_true rfl⟩ rfl rv_8 wd_907 wd_908 wd_909 rfl (e_X11_put hq284) ?_
                                                                      refine z_aload_n (pc2 := 1265) rfl dL_law_1264 rfl ?_
                                                                      refine z_aload_n (pc2 := 1266) rfl dL_law_1265 rfl ?_
                                                                      refine z_iload_n (pc2 := 1267) rfl dL_law_1266 rfl ?_
                                                                      refine z_iconst (pc2 := 1268) rfl dL_law_1267 lt_i_1 ?_
                                                                      refine z_iadd (pc2 := 1269) rfl dL_law_1268 ?_
                                                                      obtain ⟨hb285, h⟩ := ab_ck_e h
                                                                      refine z_sald (pc2 := 1270) rfl dL_law_1269 hb285 ?_
                                                                      refine z_aload_n (pc2 := 1271) rfl dL_law_1270 rfl ?_
                                                                      refine z_iload_n (pc2 := 1272) rfl dL_law_1271 rfl ?_
                                                                      refine z_iconst (pc2 := 1273) rfl dL_law_1272 lt_i_2 ?_
                                                                      refine z_iadd (pc2 := 1274) rfl dL_law_1273 ?_
                                                                      obtain ⟨hb286, h⟩ := ab_ck_e h
                                                                      refine z_sald (pc2 := 1275) rfl dL_law_1274 hb286 ?_
                                                                      refine z_aload_n (pc2 := 1276) rfl dL_law_1275 rfl ?_
                                                                      refine z_iload_n (pc2 := 1277) rfl dL_law_1276 rfl ?_
                                                                      refine z_iconst (pc2 := 1278) rfl dL_law_1277 lt_i_3 ?_
                                                                      refine z_iadd (pc2 := 1279) rfl dL_law_1278 ?_
                                                                      obtain ⟨hb287, h⟩ := ab_ck_e h
                                                                      refine z_sald (pc2 := 1280) rfl dL_law_1279 hb287 ?_
                                                                      obtain ⟨q288, hq288, h⟩ := ab_bnd h
                                                                      refine z_callVi 85 [.int (sc.2 ((u3 + (1 : Int32))).toNatClampNeg), .int (sc.2 ((u3 + (2 : Int32))).toNatClampNeg), .int (sc.2 ((u3 + (3 : Int32))).toNatClampNeg)] [some (.ref 85), some (.int (sc.2 ((u3 + (1 : Int32))).toNatClampNeg)), some (.int (sc.2 ((u3 + (2 : Int32))).toNatClampNeg)), some (.int (sc.2 ((u3 + (3 : Int32))).toNatClampNeg)), none] (pc2 := 1283) rfl rfl dL_law_1280 ok_X12_put ⟨fun _ => rfl, fun _ => Nat.le_of_ble_eq_true rfl⟩ rfl rv_85 wd_1366 wd_1367 wd_1368 rfl (e_X12_put hq288) ?_
                                                                      refine z_icmp_eq (pc2 := 1286) (tgt := 1505) rfl dL_law_1283 (by decide) (fun hc289 => ?_) (fun hc289 => ?_)
                                                                      · replace h := ab_pos hc289 h
                                                                        obtain ⟨x290, hxx290, h⟩ := ab_lt_e h
                                                                        refine z_iinc (pc2 := 1508) (v := x290) (L2 := [some (.ref 0), some (.ref 8), some (.ref 85), some (.int x290)]) rfl dL_law_1505 rfl (by rw [hxx290]; rfl) (by decide) rfl rfl ?_
                                                                        refine ab_goto (tgt := 18) dL_law_1508 (by decide) ?_
                                                                        refine z_fgt [true, true, true, true] (L2 := [some (.ref 0), some (.ref 8), some (.ref 85), some (.int x290)]) rfl ?_
                                                                        exact ih _ _ _ h
                                                                      · replace h := ab_neg hc289 h
                                                                        refine z_iconst (pc2 := 1287) rfl dL_law_1286 lt_i_0 ?_
                                                                        exact z_iret dL_law_1287 rfl rfl (fl_z rfl h)
                                                                    · replace h := ab_neg hc280 h
                                                                      by_cases hc291 : ((sc.2 (u3).toNatClampNeg) &&& (63 : Int32)) = (32 : Int32)
                                                                      · replace h := ab_pos hc291 h
                                                                        refine ab_tsIn (tgt := 1288) dL_law_33 (by rw [hc291]; decide) (by rw [hc291]; decide) (by rw [hc291]; rfl) (by decide) ?_
                                                                        refine z_aload_n (pc2 := 1289) rfl dL_law_1288 rfl ?_
                                                                        refine z_aload_n (pc2 := 1290) rfl dL_law_1289 rfl ?_
                                                                        refine z_iload_n (pc2 := 1291) rfl dL_law_1290 rfl ?_
                                                                        refine z_iconst (pc2 := 1292) rfl dL_law_1291 lt_i_1 ?_
                                                                        refine z_iadd (pc2 := 1293) rfl dL_law_1292 ?_
                                                                        obtain ⟨hb292, h⟩ := ab_ck_e h
                                                                        refine z_sald (pc2 := 1294) rfl dL_law_1293 hb292 ?_
                                                                        refine z_aload_n (pc2 := 1295) rfl dL_law_1294 rfl ?_
                                                                        refine z_iload_n (pc2 := 1296) rfl dL_law_1295 rfl ?_
                                                                        refine z_iconst (pc2 := 1297) rfl dL_law_1296 lt_i_2 ?_
                                                                        refine z_iadd (pc2 := 1298) rfl dL_law_1297 ?_
                                                                        obtain ⟨hb293, h⟩ := ab_ck_e h
                                                                        refine z_sald (pc2 := 1299) rfl dL_law_1298 hb293 ?_
                                                                        refine z_aload_n (pc2 := 1300) rfl dL_law_1299 rfl ?_
                                                                        refine z_iload_n (pc2 := 1301) rfl dL_law_1300 rfl ?_
                                                                        refine z_iconst (pc2 := 1302) rfl dL_law_1301 lt_i_3 ?_
                                                                        refine z_iadd (pc2 := 1303) rfl dL_law_1302 ?_
                                                                        obtain ⟨hb294, h⟩ := ab_ck_e h
                                                                        refine z_sald (pc2 := 1304) rfl dL_law_1303 hb294 ?_
                                                                        refine z_aload_n (pc2 := 1305) rfl dL_law_1304 rfl ?_
                                                                        refine z_iload_n (pc2 := 1306) rfl dL_law_1305 rfl ?_
                                                                        refine z_iconst (pc2 := 1307) rfl dL_law_1306 lt_i_4 ?_
                                                                        refine z_iadd (pc2 := 1308) rfl dL_law_1307 ?_
                                                                        obtain ⟨hb295, h⟩ := ab_ck_e h
                                                                        refine z_sald (pc2 := 1309) rfl dL_law_1308 hb295 ?_
                                                                        refine z_aload_n (pc2 := 1310) rfl dL_law_1309 rfl ?_
                                                                        refine z_iload_n (pc2 := 1311) rfl dL_law_1310 rfl ?_
                                                                        refine z_iconst (pc2 := 1312) rfl dL_law_1311 lt_i_5 ?_
                                                                        refine z_iadd (pc2 := 1313) rfl dL_law_1312 ?_
                                                                        obtain ⟨hb296, h⟩ := ab_ck_e h
                                                                        refine z_sald (pc2 := 1314) rfl dL_law_1313 hb296 ?_
                                                                        obtain ⟨q297, hq297, h⟩ := ab_bnd h
                                                                        refine z_callVi 8 [.int (sc.2 ((u3 + (1 : Int32))).toNatClampNeg), .int (sc.2 ((u3 + (2 : Int32))).toNatClampNeg), .int (sc.2 ((u3 + (3 : Int32))).toNatClampNeg), .int (sc.2 ((u3 + (4 : Int32))).toNatClampNeg), .int (sc.2 ((u3 + (5 : Int32))).toNatClampNeg)] [some (.ref 8), some (.int (sc.2 ((u3 + (1 : Int32))).toNatClampNeg)), some (.int (sc.2 ((u3 + (2 : Int32))).toNatClampNeg)), some (.int (sc.2 ((u3 + (3 : Int32))).toNatClampNeg)), some (.int (sc.2 ((u3 + (4 : Int32))).toNatClampNeg)), some (.int (sc.2 ((u3 + (5 : Int32))).toNatClampNeg)), none, none] (pc2 := 1317) rfl rfl dL_law_1314 ok_X11_move ⟨fun _ => rfl, fun _ => Nat.le_of_ble_eq_true rfl⟩ rfl rv_8 wd_915 wd_916 wd_917 rfl (e_X11_move hq297) ?_
                                                                        refine z_aload_n (pc2 := 1318) rfl dL_law_1317 rfl ?_
                                                                        refine z_aload_n (pc2 := 1319) rfl dL_law_1318 rfl ?_
                                                                        refine z_iload_n (pc2 := 1320) rfl dL_law_1319 rfl ?_
                                                                        refine z_iconst (pc2 := 1321) rfl dL_law_1320 lt_i_1 ?_
                                                                        refine z_iadd (pc2 := 1322) rfl dL_law_1321 ?_
                                                                        obtain ⟨hb298, h⟩ := ab_ck_e h
                                                                        refine z_sald (pc2 := 1323) rfl dL_law_1322 hb298 ?_
                                                                        refine z_aload_n (pc2 := 1324) rfl dL_law_1323 rfl ?_
                                                                        refine z_iload_n (pc2 := 1325) rfl dL_law_1324 rfl ?_
                                                                        refine z_iconst (pc2 := 1326) rfl dL_law_1325 lt_i_2 ?_
                                                                        refine z_iadd (pc2 := 1327) rfl dL_law_1326 ?_
                                                                        obtain ⟨hb299, h⟩ := ab_ck_e h
                                                                        refine z_sald (pc2 := 1328) rfl dL_law_1327 hb299 ?_
                                                                        refine z_aload_n (pc2 := 1329) rfl dL_law_1328 rfl ?_
                                                                        refine z_iload_n (pc2 := 1330) rfl dL_law_1329 rfl ?_
                                                                        refine z_iconst (pc2 := 1331) rfl dL_law_1330 lt_i_3 ?_
                                                                        refine z_iadd (pc2 := 1332) rfl dL_law_1331 ?_
                                                                        obtain ⟨hb300, h⟩ := ab_ck_e h
                                                                        refine z_sald (pc2 := 1333) rfl dL_law_1332 hb300 ?_
                                                                        refine z_aload_n (pc2 := 1334) rfl dL_law_1333 rfl ?_
                                                                        refine z_iload_n (pc2 := 1335) rfl dL_law_1334 rfl ?_
                                                                        refine z_iconst (pc2 := 1336) rfl dL_law_1335 lt_i_4 ?_
                                                                        refine z_iadd (pc2 := 1337) rfl dL_law_1336 ?_
                                                                        obtain ⟨hb301, h⟩ := ab_ck_e h
                                                                        refine z_sald (pc2 := 1338) rfl dL_law_1337 hb301 ?_
                                                                        refine z_aload_n (pc2 := 1339) rfl dL_law_1338 rfl ?_
                                                                        refine z_iload_n (pc2 := 1340) rfl dL_law_1339 rfl ?_
                                                                        refine z_iconst (pc2 := 1341) rfl dL_law_1340 lt_i_5 ?_
                                                                        refine z_iadd (pc2 := 1342) rfl dL_law_1341 ?_
                                                                        obtain ⟨hb302, h⟩ := ab_ck_e h
                                                                        refine z_sald (pc2 := 1343) rfl dL_law_1342 hb302 ?_
                                                                        obtain ⟨q303, hq303, h⟩ := ab_bnd h
                                                                        refine z_callVi 85 [.int (sc.2 ((u3 + (1 : Int32))).toNatClampNeg), .int (sc.2 ((u3 + (2 : Int32))).toNatClampNeg), .int (sc.2 ((u3 + (3 : Int32))).toNatClampNeg), .int (sc.2 ((u3 + (4 : Int32))).toNatClampNeg), .int (sc.2 ((u3 + (5 : Int32))).toNatClampNeg)] [some (.ref 85), some (.int (sc.2 ((u3 + (1 : Int32))).toNatClampNeg)), some (.int (sc.2 ((u3 + (2 : Int32))).toNatClampNeg)), some (.int (sc.2 ((u3 + (3 : Int32))).toNatClampNeg)), some (.int (sc.2 ((u3 + (4 : Int32))).toNatClampNeg)), some (.int (sc.2 ((u3 + (5 : Int32))).toNatClampNeg)), none] (pc2 := 1346) rfl rfl dL_law_1343 ok_X12_move ⟨fun _ => rfl, fun _ => Nat.le_of_ble_eq_true rfl⟩ rfl rv_85 wd_1370 wd_1371 wd_1372 rfl (e_X12_move hq303) ?_
                                                                        refine z_icmp_eq (pc2 := 1349) (tgt := 1505) rfl dL_law_1346 (by decide) (fun hc304 => ?_) (fun hc304 => ?_)
                                                                        · replace h := ab_pos hc304 h
                                                                          obtain ⟨x305, hxx305, h⟩ := ab_lt_e h
                                                                          refine z_iinc (pc2 := 1508) (v := x305) (L2 := [some (.ref 0), some (.ref 8), some (.ref 85), some (.int x305)]) rfl dL_law_1505 rfl (by rw [hxx305]; rfl) (by decide) rfl rfl ?_
                                                                          refine ab_goto (tgt := 18) dL_law_1508 (by decide) ?_
                                                                          refine z_fgt [true, true, true, true] (L2 := [some (.ref 0), some (.ref 8), some (.ref 85), some (.int x305)]) rfl ?_
                                                                          exact ih _ _ _ h
                                                                        · replace h := ab_neg hc304 h
                                                                          refine z_iconst (pc2 := 1350) rfl dL_law_1349 lt_i_0 ?_
                                                                          exact z_iret dL_law_1350 rfl rfl (fl_z rfl h)
                                                                      · replace h := ab_neg hc291 h
                                                                        by_cases hc306 : ((sc.2 (u3).toNatClampNeg) &&& (63 : Int32)) = (33 : Int32)
                                                                        · replace h := ab_pos hc306 h
                                                                          refine ab_tsIn (tgt := 1351) dL_law_33 (by rw [hc306]; decide) (by rw [hc306]; decide) (by rw [hc306]; rfl) (by decide) ?_
                                                                          refine z_aload_n (pc2 := 1352) rfl dL_law_1351 rfl ?_
                                                                          refine z_aload_n (pc2 := 1353) rfl dL_law_1352 rfl ?_
                                                                          refine z_iload_n (pc2 := 1354) rfl dL_law_1353 rfl ?_
                                                                          refine z_iconst (pc2 := 1355) rfl dL_law_1354 lt_i_1 ?_
                                                                          refine z_iadd (pc2 := 1356) rfl dL_law_1355 ?_
                                                                          obtain ⟨hb307, h⟩ := ab_ck_e h
                                                                          refine z_sald (pc2 := 1357) rfl dL_law_1356 hb307 ?_
                                                                          obtain ⟨q308, hq308, h⟩ := ab_bnd h
                                                                          refine z_callVi 8 [.int (sc.2 ((u3 + (1 : Int32))).toNatClampNeg)] [some (.ref 8), some (.int (sc.2 ((u3 + (1 : Int32))).toNatClampNeg)), none, none] (pc2 := 1360) rfl rfl dL_law_1357 ok_X11_grounds ⟨fun _ => rfl, fun _ => Nat.le_of_ble_eq_true rfl⟩ rfl rv_8 wd_920 wd_921 wd_922 rfl (e_X11_grounds hq308) ?_
                                                                          refine z_aload_n (pc2 := 1361) rfl dL_law_1360 rfl ?_
                                                                          refine z_aload_n (pc2 := 1362) rfl dL_law_1361 rfl ?_
                                                                          refine z_iload_n (pc2 := 1363) rfl dL_law_1362 rfl ?_
                                                                          refine z_iconst (pc2 := 1364) rfl dL_law_1363 lt_i_1 ?_
                                                                          refine z_iadd (pc2 := 1365) rfl dL_law_1364 ?_
                                                                          obtain ⟨hb309, h⟩ := ab_ck_e h
                                                                          refine z_sald (pc2 := 1366) rfl dL_law_1365 hb309 ?_
                                                                          obtain ⟨q310, hq310, h⟩ := ab_bnd h
                                                                          refine z_callVi 85 [.int (sc.2 ((u3 + (1 : Int32))).toNatClampNeg)] [some (.ref 85), some (.int (sc.2 ((u3 + (1 : Int32))).toNatClampNeg)), none, none] (pc2 := 1369) rfl rfl dL_law_1366 ok_X12_grounds ⟨fun _ => rfl, fun _ => Nat.le_of_ble_eq_true rfl⟩ rfl rv_85 wd_1374 wd_1375 wd_1376 rfl (e_X12_grounds hq310) ?_
                                                                          refine z_icmp_eq (pc2 := 1372) (tgt := 1505) rfl dL_law_1369 (by decide) (fun hc311 => ?_) (fun hc311 => ?_)
                                                                          · replace h := ab_pos hc311 h
                                                                            obtain ⟨x312, hxx312, h⟩ := ab_lt_e h
                                                                            refine z_iinc (pc2 := 1508) (v := x312) (L2 := [some (.ref 0), some (.ref 8), some (.ref 85), some (.int x312)]) rfl dL_law_1505 rfl (by rw [hxx312]; rfl) (by decide) rfl rfl ?_
                                                                            refine ab_goto (tgt := 18) dL_law_1508 (by decide) ?_
                                                                            refine z_fgt [true, true, true, true] (L2 := [some (.ref 0), some (.ref 8), some (.ref 85), some (.int x312)]) rfl ?_
                                                                            exact ih _ _ _ h
                                                                          · replace h := ab_neg hc311 h
                                                                            refine z_iconst (pc2 := 1373) rfl dL_law_1372 lt_i_0 ?_
                                                                            exact z_iret dL_law_1373 rfl rfl (fl_z rfl h)
                                                                        · replace h := ab_neg hc306 h
                                                                          by_cases hc313 : ((sc.2 (u3).toNatClampNeg) &&& (63 : Int32)) = (34 : Int32)
                                                                          · replace h := ab_pos hc313 h
                                                                            refine ab_tsIn (tgt := 1374) dL_law_33 (by rw [hc313]; decide) (by rw [hc313]; decide) (by rw [hc313]; rfl) (by decide) ?_
                                                                            refine z_aload_n (pc2 := 1375) rfl dL_law_1374 rfl ?_
                                                                            refine z_aload_n (pc2 := 1376) rfl dL_law_1375 rfl ?_
                                                                            refine z_iload_n (pc2 := 1377) rfl dL_law_1376 rfl ?_
                                                                            refine z_iconst (pc2 := 1378) rfl dL_law_1377 lt_i_1 ?_
                                                                            refine z_iadd (pc2 := 1379) rfl dL_law_1378 ?_
                                                                            obtain ⟨hb314, h⟩ := ab_ck_e h
                                                                            refine z_sald (pc2 := 1380) rfl dL_law_1379 hb314 ?_
                                                                            obtain ⟨q315, hq315, h⟩ := ab_bnd h
                                                                            refine z_callVi 8 [.int (sc.2 ((u3 + (1 : Int32))).toNatClampNeg)] [some (.ref 8), some (.int (sc.2 ((u3 + (1 : Int32))).toNatClampNeg)), none, none] (pc2 := 1383) rfl rfl dL_law_1380 ok_X11_judge ⟨fun _ => rfl, fun _ => Nat.le_of_ble_eq_true rfl⟩ rfl rv_8 wd_924 wd_925 wd_926 rfl (e_X11_judge hq315) ?_
                                                                            refine z_aload_n (pc2 := 1384) rfl dL_law_1383 rfl ?_
                                                                            refine z_aload_n (pc2 := 1385) rfl dL_law_1384 rfl ?_
                                                                            refine z_iload_n (pc2 := 1386) rfl dL_law_1385 rfl ?_
                                                                            refine z_iconst (pc2 := 1387) rfl dL_law_1386 lt_i_1 ?_
                                                                            refine z_iadd (pc2 := 1388) rfl dL_law_1387 ?_
                                                                            obtain ⟨hb316, h⟩ := ab_ck_e h
                                                                            refine z_sald (pc2 := 1389) rfl dL_law_1388 hb316 ?_
                                                                            obtain ⟨q317, hq317, h⟩ := ab_bnd h
                                                                            refine z_callVi 85 [.int (sc.2 ((u3 + (1 : Int32))).toNatClampNeg)] [some (.ref 85), some (.int (sc.2 ((u3 + (1 : Int32))).toNatClampNeg)), none, none] (pc2 := 1392) rfl rfl dL_law_1389 ok_X12_judge ⟨fun _ => rfl, fun _ => Nat.le_of_ble_eq_true rfl⟩ rfl rv_85 wd_1382 wd_1383 wd_1384 rfl (e_X12_judge hq317) ?_
                                                                            refine z_icmp_eq (pc2 := 1395) (tgt := 1505) rfl dL_law_1392 (by decide) (fun hc318 => ?_) (fun hc318 => ?_)
                                                                            · replace h := ab_pos hc318 h
                                                                              obtain ⟨x319, hxx319, h⟩ := ab_lt_e h
                                                                              refine z_iinc (pc2 := 1508) (v := x319) (L2 := [some (.ref 0), some (.ref 8), some (.ref 85), some (.int x319)]) rfl dL_law_1505 rfl (by rw [hxx319]; rfl) (by decide) rfl rfl ?_
                                                                              refine ab_goto (tgt := 18) dL_law_1508 (by decide) ?_
                                                                              refine z_fgt [true, true, true, true] (L2 := [some (.ref 0), some (.ref 8), some (.ref 85), some (.int x319)]) rfl ?_
                                                                              exact ih _ _ _ h
                                                                            · replace h := ab_neg hc318 h
                                                                              refine z_iconst (pc2 := 1396) rfl dL_law_1395 lt_i_0 ?_
                                                                              exact z_iret dL_law_1396 rfl rfl (fl_z rfl h)
                                                                          · replace h := ab_neg hc313 h
                                                                            by_cases hc320 : ((sc.2 (u3).toNatClampNeg) &&& (63 : Int32)) = (35 : Int32)
                                                                            · replace h := ab_pos hc320 h
                                                                              refine ab_tsIn (tgt := 1397) dL_law_33 (by rw [hc320]; decide) (by rw [hc320]; decide) (by rw [hc320]; rfl) (by decide) ?_
                                                                              refine z_aload_n (pc2 := 1398) rfl dL_law_1397 rfl ?_
                                                                              obtain ⟨q321, hq321, h⟩ := ab_bnd h
                                                                              refine z_callVi 8 [] [some (.ref 8)] (pc2 := 1401) rfl rfl dL_law_1398 ok_X11_image ⟨fun _ => rfl, fun _ => Nat.le_of_ble_eq_true rfl⟩ rfl rv_8 wd_928 wd_929 wd_930 rfl (e_X11_image hq321) ?_
                                                                              refine z_aload_n (pc2 := 1402) rfl dL_law_1401 rfl ?_
                                                                              obtain ⟨q322, hq322, h⟩ := ab_bnd h
                                                                              refine z_callVi 85 [] [some (.ref 85)] (pc2 := 1405) rfl rfl dL_law_1402 ok_X12_image ⟨fun _ => rfl, fun _ => Nat.le_of_ble_eq_true rfl⟩ rfl rv_85 wd_1386 wd_1387 wd_1388 rfl (e_X12_image hq322) ?_
                                                                              refine z_icmp_eq (pc2 := 1408) (tgt := 1505) rfl dL_law_1405 (by decide) (fun hc323 => ?_) (fun hc323 => ?_)
                                                                              · replace h := ab_pos hc323 h
                                                                                obtain ⟨x324, hxx324, h⟩ := ab_lt_e h
                                                                                refine z_iinc (pc2 := 1508) (v := x324) (L2 := [some (.ref 0), some (.ref 8), some (.ref 85), some (.int x324)]) rfl dL_law_1505 rfl (by rw [hxx324]; rfl) (by decide) rfl rfl ?_
                                                                                refine ab_goto (tgt := 18) dL_law_1508 (by decide) ?_
                                                                                refine z_fgt [true, true, true, true] (L2 := [some (.ref 0), some (.ref 8), some (.ref 85), some (.int x324)]) rfl ?_
                                                                                exact ih _ _ _ h
                                                                              · replace h := ab_neg hc323 h
                                                                                refine z_iconst (pc2 := 1409) rfl dL_law_1408 lt_i_0 ?_
                                                                                exact z_iret dL_law_1409 rfl rfl (fl_z rfl h)
                                                                            · replace h := ab_neg hc320 h
                                                                              by_cases hc325 : ((sc.2 (u3).toNatClampNeg) &&& (63 : Int32)) = (36 : Int32)
                                                                              · replace h := ab_pos hc325 h
                                                                                refine ab_tsIn (tgt := 1410) dL_law_33 (by rw [hc325]; decide) (by rw [hc325]; decide) (by rw [hc325]; rfl) (by decide) ?_
                                                                                refine z_aload_n (pc2 := 1411) rfl dL_law_1410 rfl ?_
                                                                                obtain ⟨q326, hq326, h⟩ := ab_bnd h
                                                                                refine z_callVi 8 [] [some (.ref 8)] (pc2 := 1414) rfl rfl dL_law_1411 ok_X11_restore ⟨fun _ => rfl, fun _ => Nat.le_of_ble_eq_true rfl⟩ rfl rv_8 wd_942 wd_943 wd_944 rfl (e_X11_restore hq326) ?_
                                                                                refine z_aload_n (pc2 := 1415) rfl dL_law_1414 rfl ?_
                                                                                obtain ⟨q327, hq327, h⟩ := ab_bnd h
                                                                                refine z_callVi 85 [] [some (.ref 85)] (pc2 := 1418) rfl rfl dL_law_1415 ok_X12_restore ⟨fun _ => rfl, fun _ => Nat.le_of_ble_eq_true rfl⟩ rfl rv_85 wd_1393 wd_1394 wd_1395 rfl (e_X12_restore hq327) ?_
                                                                                refine z_icmp_eq (pc2 := 1421) (tgt := 1505) rfl dL_law_1418 (by decide) (fun hc328 => ?_) (fun hc328 => ?_)
                                                                                · replace h := ab_pos hc328 h
                                                                                  obtain ⟨x329, hxx329, h⟩ := ab_lt_e h
                                                                                  refine z_iinc (pc2 := 1508) (v := x329) (L2 := [some (.ref 0), some (.ref 8), some (.ref 85), some (.int x329)]) rfl dL_law_1505 rfl (by rw [hxx329]; rfl) (by decide) rfl rfl ?_
                                                                                  refine ab_goto (tgt := 18) dL_law_1508 (by decide) ?_
                                                                                  refine z_fgt [true, true, true, true] (L2 := [some (.ref 0), some (.ref 8), some (.ref 85), some (.int x329)]) rfl ?_
                                                                                  exact ih _ _ _ h
                                                                                · replace h := ab_neg hc328 h
                                                                                  refine z_iconst (pc2 := 1422) rfl dL_law_1421 lt_i_0 ?_
                                                                                  exact z_iret dL_law_1422 rfl rfl (fl_z rfl h)
                                                                              · replace h := ab_neg hc325 h
                                                                                by_cases hc330 : ((sc.2 (u3).toNatClampNeg) &&& (63 : Int32)) = (37 : Int32)
                                                                                · replace h := ab_pos hc330 h
                                                                                  refine ab_tsIn (tgt := 1423) dL_law_33 (by rw [hc330]; decide) (by rw [hc330]; decide) (by rw [hc330]; rfl) (by decide) ?_
                                                                                  refine z_aload_n (pc2 := 1424) rfl dL_law_1423 rfl ?_
                                                                                  refine z_aload_n (pc2 := 1425) rfl dL_law_1424 rfl ?_
                                                                                  refine z_iload_n (pc2 := 1426) rfl dL_law_1425 rfl ?_
                                                                                  refine z_iconst (pc2 := 1427) rfl dL_law_1426 lt_i_1 ?_
                                                                                  refine z_iadd (pc2 := 1428) rfl dL_law_1427 ?_
                                                                                  obtain ⟨hb331, h⟩ := ab_ck_e h
                                                                                  refine z_sald (pc2 := 1429) rfl dL_law_1428 hb331 ?_
                                                                                  obtain ⟨q332, hq332, h⟩ := ab_bnd h
                                                                                  refine z_callVi 8 [.int (sc.2 ((u3 + (1 : Int32))).toNatClampNeg)] [some (.ref 8), some (.int (sc.2 ((u3 + (1 : Int32))).toNatClampNeg))] (pc2 := 1432) rfl rfl dL_law_1429 ok_X11_tell ⟨fun _ => rfl, fun _ => Nat.le_of_ble_eq_true rfl⟩ rfl rv_8 wd_946 wd_947 wd_948 rfl (e_X11_tell hq332) ?_
                                                                                  refine z_aload_n (pc2 := 1433) rfl dL_law_1432 rfl ?_
                                                                                  refine z_aload_n (pc2 := 1434) rfl dL_law_1433 rfl ?_
                                                                                  refine z_iload_n (pc2 := 1435) rfl dL_law_1434 rfl ?_
                                                                                  refine z_iconst (pc2 := 1436) rfl dL_law_1435 lt_i_1 ?_
                                                                                  refine z_iadd (pc2 := 1437) rfl dL_law_1436 ?_
                                                                                  obtain ⟨hb333, h⟩ := ab_ck_e h
                                                                                  refine z_sald (pc2 := 1438) rfl dL_law_1437 hb333 ?_
                                                                                  obtain ⟨q334, hq334, h⟩ := ab_bnd h
                                                                                  refine z_callVi 85 [.int (sc.2 ((u3 + (1 : Int32))).toNatClampNeg)] [some (.ref 85), some (.int (sc.2 ((u3 + (1 : Int32))).toNatClampNeg))] (pc2 := 1441) rfl rfl dL_law_1438 ok_X12_tell ⟨fun _ => rfl, fun _ => Nat.le_of_ble_eq_true rfl⟩ rfl rv_85 wd_1397 wd_1398 wd_1399 rfl (e_X12_tell hq334) ?_
                                                                                  refine z_icmp_eq (pc2 := 1444) (tgt := 1505) rfl dL_law_1441 (by decide) (fun hc335 => ?_) (fun hc335 => ?_)
                                                                                  · replace h := ab_pos hc335 h
                                                                                    obtain ⟨x336, hxx336, h⟩ := ab_lt_e h
                                                                                    refine z_iinc (pc2 := 1508) (v := x336) (L2 := [some (.ref 0), some (.ref 8), some (.ref 85), some (.int x336)]) rfl dL_law_1505 rfl (by rw [hxx336]; rfl) (by decide) rfl rfl ?_
                                                                                    refine ab_goto (tgt := 18) dL_law_1508 (by decide) ?_
                                                                                    refine z_fgt [true, true, true, true] (L2 := [some (.ref 0), some (.ref 8), some (.ref 85), some (.int x336)]) rfl ?_
                                                                                    exact ih _ _ _ h
                                                                                  · replace h := ab_neg hc335 h
                                                                                    refine z_iconst (pc2 := 1445) rfl dL_law_1444 lt_i_0 ?_
                                                                                    exact z_iret dL_law_1445 rfl rfl (fl_z rfl h)
                                                                                · replace h := ab_neg hc330 h
                                                                                  by_cases hc337 : ((sc.2 (u3).toNatClampNeg) &&& (63 : Int32)) = (38 : Int32)
                                                                                  · replace h := ab_pos hc337 h
                                                                                    refine ab_tsIn (tgt := 1446) dL_law_33 (by rw [hc337]; decide) (by rw [hc337]; decide) (by rw [hc337]; rfl) (by decide) ?_
                                                                                    refine z_aload_n (pc2 := 1447) rfl dL_law_1446 rfl ?_
                                                                                    obtain ⟨q338, hq338, h⟩ := ab_bnd h
                                                                                    refine z_callVi 8 [] [some (.ref 8), none, none] (pc2 := 1450) rfl rfl dL_law_1447 ok_X11_check ⟨fun _ => rfl, fun _ => Nat.le_of_ble_eq_true rfl⟩ rfl rv_8 wd_950 wd_951 wd_952 rfl (e_X11_check hq338) ?_
                                                                                    refine z_aload_n (pc2 := 1451) rfl dL_law_1450 rfl ?_
                                                                                    obtain ⟨q339, hq339, h⟩ := ab_bnd h
                                                                                    refine z_callVi 85 [] [some (.ref 85), none, none] (pc2 := 1454) rfl rfl dL_law_1451 ok_X12_check ⟨fun _ => rfl, fun _ => Nat.le_of_ble_eq_true rfl⟩ rfl rv_85 wd_1401 wd_1402 wd_1403 rfl (e_X12_check hq339) ?_
                                                                                    refine z_icmp_eq (pc2 := 1457) (tgt := 1505) rfl dL_law_1454 (by decide) (fun hc340 => ?_) (fun hc340 => ?_)
                                                                                    · replace h := ab_pos hc340 h
                                                                                      obtain ⟨x341, hxx341, h⟩ := ab_lt_e h
                                                                                      refine z_iinc (pc2 := 1508) (v := x341) (L2 := [some (.ref 0), some (.ref 8), some (.ref 85), some (.int x341)]) rfl dL_law_1505 rfl (by rw [hxx341]; rfl) (by decide) rfl rfl ?_
                                                                                      refine ab_goto (tgt := 18) dL_law_1508 (by decide) ?_
                                                                                      refine z_fgt [true, true, true, true] (L2 := [some (.ref 0), some (.ref 8), some (.ref 85), some (.int x341)]) rfl ?_
                                                                                      exact ih _ _ _ h
                                                                                    · replace h := ab_neg hc340 h
                                                                                      refine z_iconst (pc2 := 1458) rfl dL_law_1457 lt_i_0 ?_
                                                                                      exact z_iret dL_law_1458 rfl rfl (fl_z rfl h)
                                                                                  · replace h := ab_neg hc337 h
                                                                                    by_cases hc342 : ((sc.2 (u3).toNatClampNeg) &&& (63 : Int32)) = (39 : Int32)
                                                                                    · replace h := ab_pos hc342 h
                                                                                      refine ab_tsIn (tgt := 1459) dL_law_33 (by rw [hc342]; decide) (by rw [hc342]; decide) (by rw [hc342]; rfl) (by decide) ?_
                                                                                      refine z_aload_n (pc2 := 1460) rfl dL_law_1459 rfl ?_
                                                                                      refine z_aload_n (pc2 := 1461) rfl dL_law_1460 rfl ?_
                                                                                      refine z_iload_n (pc2 := 1462) rfl dL_law_1461 rfl ?_
                                                                                      refine z_iconst (pc2 := 1463) rfl dL_law_1462 lt_i_1 ?_
                                                                                      refine z_iadd (pc2 := 1464) rfl dL_law_1463 ?_
                                                                                      obtain ⟨hb343, h⟩ := ab_ck_e h
                                                                                      refine z_sald (pc2 := 1465) rfl dL_law_1464 hb343 ?_
                                                                                      obtain ⟨q344, hq344, h⟩ := ab_bnd h
                                                                                      refine z_callVi 8 [.int (sc.2 ((u3 + (1 : Int32))).toNatClampNeg)] [some (.ref 8), some (.int (sc.2 ((u3 + (1 : Int32))).toNatClampNeg))] (pc2 := 1468) rfl rfl dL_law_1465 ok_X11_count ⟨fun _ => rfl, fun _ => Nat.le_of_ble_eq_true rfl⟩ rfl rv_8 wd_954 wd_955 wd_956 rfl (e_X11_count hq344) ?_
                                                                                      refine z_aload_n (pc2 := 1469) rfl dL_law_1468 rfl ?_
                                                                                      refine z_aload_n (pc2 := 1470) rfl dL_law_1469 rfl ?_
                                                                                      refine z_iload_n (pc2 := 1471) rfl dL_law_1470 rfl ?_
                                                                                      refine z_iconst (pc2 := 1472) rfl dL_law_1471 lt_i_1 ?_
                                                                                      refine z_iadd (pc2 := 1473) rfl dL_law_1472 ?_
                                                                                      obtain ⟨hb345, h⟩ := ab_ck_e h
                                                                                      refine z_sald (pc2 := 1474) rfl dL_law_1473 hb345 ?_
                                                                                      obtain ⟨q346, hq346, h⟩ := ab_bnd h
                                                                                      refine z_callVi 85 [.int (sc.2 ((u3 + (1 : Int32))).toNatClampNeg)] [some (.ref 85), some (.int (sc.2 ((u3 + (1 : Int32))).toNatClampNeg))] (pc2 := 1477) rfl rfl dL_law_1474 ok_X12_count ⟨fun _ => rfl, fun _ => Nat.le_of_ble_eq_true rfl⟩ rfl rv_85 wd_1405 wd_1406 wd_1407 rfl (e_X12_count hq346) ?_
                                                                                      refine z_icmp_eq (pc2 := 1480) (tgt := 1505) rfl dL_law_1477 (by decide) (fun hc347 => ?_) (fun hc347 => ?_)
                                                                                      · replace h := ab_pos hc347 h
                                                                                        obtain ⟨x348, hxx348, h⟩ := ab_lt_e h
                                                                                        refine z_iinc (pc2 := 1508) (v := x348) (L2 := [some (.ref 0), some (.ref 8), some (.ref 85), some (.int x348)]) rfl dL_law_1505 rfl (by rw [hxx348]; rfl) (by decide) rfl rfl ?_
                                                                                        refine ab_goto (tgt := 18) dL_law_1508 (by decide) ?_
                                                                                        refine z_fgt [true, true, true, true] (L2 := [some (.ref 0), some (.ref 8), some (.ref 85), some (.int x348)]) rfl ?_
                                                                                        exact ih _ _ _ h
                                                                                      · replace h := ab_neg hc347 h
                                                                                        refine z_iconst (pc2 := 1481) rfl dL_law_1480 lt_i_0 ?_
                                                                                        exact z_iret dL_law_1481 rfl rfl (fl_z rfl h)
                                                                                    · replace h := ab_neg hc342 h
                                                                                      by_cases hc349 : ((sc.2 (u3).toNatClampNeg) &&& (63 : Int32)) = (40 : Int32)
                                                                                      · replace h := ab_pos hc349 h
                                                                                        refine ab_tsIn (tgt := 1482) dL_law_33 (by rw [hc349]; decide) (by rw [hc349]; decide) (by rw [hc349]; rfl) (by decide) ?_
                                                                                        refine z_aload_n (pc2 := 1483) rfl dL_law_1482 rfl ?_
                                                                                        refine z_aload_n (pc2 := 1484) rfl dL_law_1483 rfl ?_
                                                                                        refine z_iload_n (pc2 := 1485) rfl dL_law_1484 rfl ?_
                                                                                        refine z_iconst (pc2 := 1486) rfl dL_law_1485 lt_i_1 ?_
                                                                                        refine z_iadd (pc2 := 1487) rfl dL_law_1486 ?_
                                                                                        obtain ⟨hb350, h⟩ := ab_ck_e h
                                                                                        refine z_sald (pc2 := 1488) rfl dL_law_1487 hb350 ?_
                                                                                        obtain ⟨q351, hq351, h⟩ := ab_bnd h
                                                                                        refine z_callVi 8 [.int (sc.2 ((u3 + (1 : Int32))).toNatClampNeg)] [some (.ref 8), some (.int (sc.2 ((u3 + (1 : Int32))).toNatClampNeg))] (pc2 := 1491) rfl rfl dL_law_1488 ok_X11_told ⟨fun _ => rfl, fun _ => Nat.le_of_ble_eq_true rfl⟩ rfl rv_8 wd_967 wd_968 wd_969 rfl (e_X11_told hq351) ?_
                                                                                        refine z_aload_n (pc2 := 1492) rfl dL_law_1491 rfl ?_
                                                                                        refine z_aload_n (pc2 := 1493) rfl dL_law_1492 rfl ?_
                                                                                        refine z_iload_n (pc2 := 1494) rfl dL_law_1493 rfl ?_
                                                                                        refine z_iconst (pc2 := 1495) rfl dL_law_1494 lt_i_1 ?_
                                                                                        refine z_iadd (pc2 := 1496) rfl dL_law_1495 ?_
                                                                                        obtain ⟨hb352, h⟩ := ab_ck_e h
                                                                                        refine z_sald (pc2 := 1497) rfl dL_law_1496 hb352 ?_
                                                                                        obtain ⟨q353, hq353, h⟩ := ab_bnd h
                                                                                        refine z_callVi 85 [.int (sc.2 ((u3 + (1 : Int32))).toNatClampNeg)] [some (.ref 85), some (.int (sc.2 ((u3 + (1 : Int32))).toNatClampNeg))] (pc2 := 1500) rfl rfl dL_law_1497 ok_X12_told ⟨fun _ => rfl, fun _ => Nat.le_of_ble_eq_true rfl⟩ rfl rv_85 wd_1417 wd_1418 wd_1419 rfl (e_X12_told hq353) ?_
                                                                                        refine z_icmp_eq (pc2 := 1503) (tgt := 1505) rfl dL_law_1500 (by decide) (fun hc354 => ?_) (fun hc354 => ?_)
                                                                                        · replace h := ab_pos hc354 h
                                                                                          obtain ⟨x355, hxx355, h⟩ := ab_lt_e h
                                                                                          refine z_iinc (pc2 := 1508) (v := x355) (L2 := [some (.ref 0), some (.ref 8), some (.ref 85), some (.int x355)]) rfl dL_law_1505 rfl (by rw [hxx355]; rfl) (by decide) rfl rfl ?_
                                                                                          refine ab_goto (tgt := 18) dL_law_1508 (by decide) ?_
                                                                                          refine z_fgt [true, true, true, true] (L2 := [some (.ref 0), some (.ref 8), some (.ref 85), some (.int x355)]) rfl ?_
                                                                                          exact ih _ _ _ h
                                                                                        · replace h := ab_neg hc354 h
                                                                                          refine z_iconst (pc2 := 1504) rfl dL_law_1503 lt_i_0 ?_
                                                                                          exact z_iret dL_law_1504 rfl rfl (fl_z rfl h)
                                                                                      · replace h := ab_neg hc349 h
                                                                                        have thc3 := ab_ne_toInt (k := 0) hc3 (by decide)
                                                                                        have thc12 := ab_ne_toInt (k := 1) hc12 (by decide)
                                                                                        have thc21 := ab_ne_toInt (k := 2) hc21 (by decide)
                                                                                        have thc30 := ab_ne_toInt (k := 3) hc30 (by decide)
                                                                                        have thc39 := ab_ne_toInt (k := 4) hc39 (by decide)
                                                                                        have thc50 := ab_ne_toInt (k := 5) hc50 (by decide)
                                                                                        have thc57 := ab_ne_toInt (k := 6) hc57 (by decide)
                                                                                        have thc68 := ab_ne_toInt (k := 7) hc68 (by decide)
                                                                                        have thc77 := ab_ne_toInt (k := 8) hc77 (by decide)
                                                                                        have thc86 := ab_ne_toInt (k := 9) hc86 (by decide)
                                                                                        have thc93 := ab_ne_toInt (k := 10) hc93 (by decide)
                                                                                        have thc104 := ab_ne_toInt (k := 11) hc104 (by decide)
                                                                                        have thc111 := ab_ne_toInt (k := 12) hc111 (by decide)
                                                                                        have thc118 := ab_ne_toInt (k := 13) hc118 (by decide)
                                                                                        have thc131 := ab_ne_toInt (k := 14) hc131 (by decide)
                                                                                        have thc138 := ab_ne_toInt (k := 15) hc138 (by decide)
                                                                                        have thc145 := ab_ne_toInt (k := 16) hc145 (by decide)
                                                                                        have thc152 := ab_ne_toInt (k := 17) hc152 (by decide)
                                                                                        have thc159 := ab_ne_toInt (k := 18) hc159 (by decide)
                                                                                        have thc168 := ab_ne_toInt (k := 19) hc168 (by decide)
                                                                                        have thc177 := ab_ne_toInt (k := 20) hc177 (by decide)
                                                                                        have thc184 := ab_ne_toInt (k := 21) hc184 (by decide)
                                                                                        have thc193 := ab_ne_toInt (k := 22) hc193 (by decide)
                                                                                        have thc204 := ab_ne_toInt (k := 23) hc204 (by decide)
                                                                                        have thc213 := ab_ne_toInt (k := 24) hc213 (by decide)
                                                                                        have thc222 := ab_ne_toInt (k := 25) hc222 (by decide)
                                                                                        have thc229 := ab_ne_toInt (k := 26) hc229 (by decide)
                                                                                        have thc240 := ab_ne_toInt (k := 27) hc240 (by decide)
                                                                                        have thc251 := ab_ne_toInt (k := 28) hc251 (by decide)
                                                                                        have thc262 := ab_ne_toInt (k := 29) hc262 (by decide)
                                                                                        have thc269 := ab_ne_toInt (k := 30) hc269 (by decide)
                                                                                        have thc280 := ab_ne_toInt (k := 31) hc280 (by decide)
                                                                                        have thc291 := ab_ne_toInt (k := 32) hc291 (by decide)
                                                                                        have thc306 := ab_ne_toInt (k := 33) hc306 (by decide)
                                                                                        have thc313 := ab_ne_toInt (k := 34) hc313 (by decide)
                                                                                        have thc320 := ab_ne_toInt (k := 35) hc320 (by decide)
                                                                                        have thc325 := ab_ne_toInt (k := 36) hc325 (by decide)
                                                                                        have thc330 := ab_ne_toInt (k := 37) hc330 (by decide)
                                                                                        have thc337 := ab_ne_toInt (k := 38) hc337 (by decide)
                                                                                        have thc342 := ab_ne_toInt (k := 39) hc342 (by decide)
                                                                                        have thc349 := ab_ne_toInt (k := 40) hc349 (by decide)
                                                                                        refine ab_tsOut (tgt := 1505) dL_law_33 (by omega) (by decide) ?_
                                                                                        obtain ⟨x356, hxx356, h⟩ := ab_lt_e h
                                                                                        refine z_iinc (pc2 := 1508) (v := x356) (L2 := [some (.ref 0), some (.ref 8), some (.ref 85), some (.int x356)]) rfl dL_law_1505 rfl (by rw [hxx356]; rfl) (by decide) rfl rfl ?_
                                                                                        refine ab_goto (tgt := 18) dL_law_1508 (by decide) ?_
                                                                                        refine z_fgt [true, true, true, true] (L2 := [some (.ref 0), some (.ref 8), some (.ref 85), some (.int x356)]) rfl ?_
                                                                                        exact ih _ _ _ h
