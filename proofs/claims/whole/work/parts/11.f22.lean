def f_X12_worked (a1 : Int32) (σ : ab_F) : Option (Int32 × ab_F) := ab_lt (((116 : Int32) + ((125 : Int32) * a1))) (fun x1 => (f_X12_worked_L13 x1 (fun (s46 : ab_F) => (some ((s46 92 0), s46))) ab_fu (0 : Int32) (0 : Int32) σ))
set_option maxRecDepth 100000 in
set_option maxHeartbeats 4000000 in
theorem e_X12_worked {sc : Nat × (Nat → Int32)} {r : Option Nat × Option Nat} {a1 : Int32} {σ : ab_F} {res : (Int32 × ab_F)} (h : f_X12_worked a1 σ = some res) : ab_E mX12_worked 1 sc 0 [some (.ref 85), some (.int a1), none, none, none, none, none] [] (σ, r) (fun v S => v = some (.int res.1) ∧ S = (res.2, r)) := by
  unfold f_X12_worked at h
  refine z_bipush (pc2 := 2) rfl dX12_worked_0 lt_b_116 ?_
  refine z_bipush (pc2 := 4) rfl dX12_worked_2 lt_b_125 ?_
  refine z_iload_n (pc2 := 5) rfl dX12_worked_4 rfl ?_
  refine z_imul (pc2 := 6) rfl dX12_worked_5 ?_
  refine z_iadd (pc2 := 7) rfl dX12_worked_6 ?_
  obtain ⟨x1, hxx1, h⟩ := ab_lt_e h
  refine z_top hxx1 ?_
  refine z_istore_n (pc2 := 8) (L2 := [some (.ref 85), some (.int a1), some (.int x1), none, none, none, none]) rfl dX12_worked_7 (by decide) rfl rfl ?_
  refine z_iconst (pc2 := 9) rfl dX12_worked_8 lt_i_0 ?_
  refine z_istore_n (pc2 := 10) (L2 := [some (.ref 85), some (.int a1), some (.int x1), some (.int (0 : Int32)), none, none, none]) rfl dX12_worked_9 (by decide) rfl rfl ?_
  refine z_iconst (pc2 := 11) rfl dX12_worked_10 lt_i_0 ?_
  refine z_istore (pc2 := 13) (L2 := [some (.ref 85), some (.int a1), some (.int x1), some (.int (0 : Int32)), some (.int (0 : Int32)), none, none]) rfl dX12_worked_11 (by decide) rfl rfl ?_
  refine z_fgt [true, false, true, true, true, false, false] (L2 := [some (.ref 85), none, some (.int x1), some (.int (0 : Int32)), some (.int (0 : Int32)), none, none]) rfl ?_
  refine e_X12_worked_L13 (fun s46 h => ?_) _ _ _ _ h
  refine z_aload_n (pc2 := 164) rfl dX12_worked_163 rfl ?_
  refine z_getR 85 12 11 92 (pc2 := 167) rfl dX12_worked_164 rfl rfl ff_12_11 wd_988 rfl ?_
  refine z_iconst (pc2 := 168) rfl dX12_worked_167 lt_i_0 ?_
  refine z_iald 92 (pc2 := 169) (j := 0) rfl dX12_worked_168 rfl rfl (by decide) (by decide) ?_
  exact z_iret dX12_worked_169 rfl rfl (fi_w h)
def f_X12_downNow_L4 (σ : ab_F) (K : Int32 → Option Int32) : Nat → Int32 → Int32 → Option Int32
  | 0, _, _ => none
  | n + 1, u1, u2 => (if (σ 86 5) ≤ u2 then (K u1) else (f_X12_its u2 (3 : Int32) σ).bind (fun q2 => (if q2 = 0 then ab_lt ((u1 + (1 : Int32))) (fun x6 => ab_lt (u2 + (1 : Int32)) (fun x7 => (f_X12_downNow_L4 σ K n x6 x7))) else ab_lt ((u1 + (0 : Int32))) (fun x4 => ab_lt (u2 + (1 : Int32)) (fun x5 => (f_X12_downNow_L4 σ K n x4 x5))))))
set_option maxRecDepth 100000 in
set_option maxHeartbeats 4000000 in
theorem e_X12_downNow_L4 {sc : Nat × (Nat → Int32)} {r : Option Nat × Option Nat} {σ : ab_F} {K : Int32 → Option Int32} {res : Int32} (hK : ∀ (u1 : Int32), K u1 = some res → ab_E mX12_downNow 1 sc 37 [none, some (.int u1), none] [] (σ, r) (fun v S => v = some (.int res) ∧ S = (σ, r))) : ∀ (n : Nat) (u1 : Int32) (u2 : Int32), f_X12_downNow_L4 σ K n u1 u2 = some res → ab_E mX12_downNow 1 sc 4 [some (.ref 85), some (.int u1), some (.int u2)] [] (σ, r) (fun v S => v = some (.int res) ∧ S = (σ, r)) := by
  intro n
  induction n with
  | zero =>
    intro u1 u2 h
    rw [f_X12_downNow_L4] at h
    cases h
  | succ n ih =>
    intro u1 u2 h
    rw [f_X12_downNow_L4] at h
    refine z_iload_n (pc2 := 5) rfl dX12_downNow_4 rfl ?_
    refine z_aload_n (pc2 := 6) rfl dX12_downNow_5 rfl ?_
    refine z_getR 85 12 0 86 (pc2 := 9) rfl dX12_downNow_6 rfl rfl ff_12_0 wd_977 rfl ?_
    refine z_iconst (pc2 := 10) rfl dX12_downNow_9 lt_i_5 ?_
    refine z_iald 86 (pc2 := 11) (j := 5) rfl dX12_downNow_10 rfl rfl (by decide) (by decide) ?_
    refine z_icmp_ge (pc2 := 14) (tgt := 37) rfl dX12_downNow_11 (by decide) (fun hc1 => ?_) (fun hc1 => ?_)
    · replace h := ab_pos hc1 h
      refine z_fgt [false, true, false] (L2 := [none, some (.int u1), none]) rfl ?_
      exact hK _ h
    · replace h := ab_neg hc1 h
      refine z_iload_n (pc2 := 15) rfl dX12_downNow_14 rfl ?_
      refine z_aload_n (pc2 := 16) rfl dX12_downNow_15 rfl ?_
      refine z_iload_n (pc2 := 17) rfl dX12_downNow_16 rfl ?_
      refine z_iconst (pc2 := 18) rfl dX12_downNow_17 lt_i_3 ?_
      obtain ⟨q2, hq2, h⟩ := ab_bnd h
      refine z_callVi 85 [.int u2, .int (3 : Int32)] [some (.ref 85), some (.int u2), some (.int (3 : Int32))] (pc2 := 21) rfl rfl dX12_downNow_18 ok_X12_its ⟨fun _ => rfl, fun _ => Nat.le_of_ble_eq_true rfl⟩ rfl rv_85 wd_1129 wd_1131 wd_31 rfl (e_X12_its hq2) ?_
      refine z_if_ne (pc2 := 24) (tgt := 28) rfl dX12_downNow_21 (by decide) (fun hc3 => ?_) (fun hc3 => ?_)
      · replace h := ab_neg hc3 h
        refine z_iconst (pc2 := 29) rfl dX12_downNow_28 lt_i_0 ?_
        refine z_iadd (pc2 := 30) rfl dX12_downNow_29 ?_
        obtain ⟨x4, hxx4, h⟩ := ab_lt_e h
        refine z_top hxx4 ?_
        refine z_istore_n (pc2 := 31) (L2 := [some (.ref 85), some (.int x4), some (.int u2)]) rfl dX12_downNow_30 (by decide) rfl rfl ?_
        obtain ⟨x5, hxx5, h⟩ := ab_lt_e h
        refine z_iinc (pc2 := 34) (v := x5) (L2 := [some (.ref 85), some (.int x4), some (.int x5)]) rfl dX12_downNow_31 rfl (by rw [hxx5]; rfl) (by decide) rfl rfl ?_
        refine ab_goto (tgt := 4) dX12_downNow_34 (by decide) ?_
        refine z_fgt [true, true, true] (L2 := [some (.ref 85), some (.int x4), some (.int x5)]) rfl ?_
        exact ih _ _ h
      · replace h := ab_pos hc3 h
        refine z_iconst (pc2 := 25) rfl dX12_downNow_24 lt_i_1 ?_
        refine ab_goto (tgt := 29) dX12_downNow_25 (by decide) ?_
        refine z_iadd (pc2 := 30) rfl dX12_downNow_29 ?_
        obtain ⟨x6, hxx6, h⟩ := ab_lt_e h
        refine z_top hxx6 ?_
        refine z_istore_n (pc2 := 31) (L2 := [some (.ref 85), some (.int x6), some (.int u2)]) rfl dX12_downNow_30 (by decide) rfl rfl ?_
        obtain ⟨x7, hxx7, h⟩ := ab_lt_e h
        refine z_iinc (pc2 := 34) (v := x7) (L2 := [some (.ref 85), some (.int x6), some (.int x7)]) rfl dX12_downNow_31 rfl (by rw [hxx7]; rfl) (by decide) rfl rfl ?_
        refine ab_goto (tgt := 4) dX12_downNow_34 (by decide) ?_
        refine z_fgt [true, true, true] (L2 := [some (.ref 85), some (.int x6), some (.int x7)]) rfl ?_
        exact ih _ _ h
def f_X12_downNow (σ : ab_F) : Option Int32 := (f_X12_downNow_L4 σ (fun (k8 : Int32) => (some k8)) ab_fu (0 : Int32) (0 : Int32))
set_option maxRecDepth 100000 in
set_option maxHeartbeats 4000000 in
theorem e_X12_downNow {sc : Nat × (Nat → Int32)} {r : Option Nat × Option Nat} {σ : ab_F} {res : Int32} (h : f_X12_downNow σ = some res) : ab_E mX12_downNow 1 sc 0 [some (.ref 85), none, none] [] (σ, r) (fun v S => v = some (.int res) ∧ S = (σ, r)) := by
  unfold f_X12_downNow at h
  refine z_iconst (pc2 := 1) rfl dX12_downNow_0 lt_i_0 ?_
  refine z_istore_n (pc2 := 2) (L2 := [some (.ref 85), some (.int (0 : Int32)), none]) rfl dX12_downNow_1 (by decide) rfl rfl ?_
  refine z_iconst (pc2 := 3) rfl dX12_downNow_2 lt_i_0 ?_
  refine z_istore_n (pc2 := 4) (L2 := [some (.ref 85), some (.int (0 : Int32)), some (.int (0 : Int32))]) rfl dX12_downNow_3 (by decide) rfl rfl ?_
  refine z_fgt [true, true, true] (L2 := [some (.ref 85), some (.int (0 : Int32)), some (.int (0 : Int32))]) rfl ?_
  refine e_X12_downNow_L4 (fun k8 h => ?_) _ _ _ h
  refine z_iload_n (pc2 := 38) rfl dX12_downNow_37 rfl ?_
  exact z_iret dX12_downNow_38 rfl rfl (fi_p h)
def f_X12_ones_L4 (σ : ab_F) (K : Int32 → Option Int32) : Nat → Int32 → Int32 → Option Int32
  | 0, _, _ => none
  | n + 1, u1, u2 => (if u2 = 0 then (K u1) else ab_lt (u1 + (1 : Int32)) (fun x2 => ab_lt ((u2 &&& (u2 - (1 : Int32)))) (fun x3 => (f_X12_ones_L4 σ K n x2 x3))))
set_option maxRecDepth 100000 in
set_option maxHeartbeats 4000000 in
theorem e_X12_ones_L4 {sc : Nat × (Nat → Int32)} {r : Option Nat × Option Nat} {σ : ab_F} {K : Int32 → Option Int32} {res : Int32} (hK : ∀ (u1 : Int32), K u1 = some res → ab_E mX12_ones 0 sc 20 [none, some (.int u1), none] [] (σ, r) (fun v S => v = some (.int res) ∧ S = (σ, r))) : ∀ (n : Nat) (u1 : Int32) (u2 : Int32), f_X12_ones_L4 σ K n u1 u2 = some res → ab_E mX12_ones 0 sc 4 [none, some (.int u1), some (.int u2)] [] (σ, r) (fun v S => v = some (.int res) ∧ S = (σ, r)) := by
  intro n
  induction n with
  | zero =>
    intro u1 u2 h
    rw [f_X12_ones_L4] at h
    cases h
  | succ n ih =>
    intro u1 u2 h
    rw [f_X12_ones_L4] at h
    refine z_iload_n (pc2 := 5) rfl dX12_ones_4 rfl ?_
    refine z_if_eq (pc2 := 8) (tgt := 20) rfl dX12_ones_5 (by decide) (fun hc1 => ?_) (fun hc1 => ?_)
    · replace h := ab_pos hc1 h
      refine z_fgt [false, true, false] (L2 := [none, some (.int u1), none]) rfl ?_
      exact hK _ h
    · replace h := ab_neg hc1 h
      obtain ⟨x2, hxx2, h⟩ := ab_lt_e h
      refine z_iinc (pc2 := 11) (v := x2) (L2 := [none, some (.int x2), some (.int u2)]) rfl dX12_ones_8 rfl (by rw [hxx2]; rfl) (by decide) rfl rfl ?_
      refine z_iload_n (pc2 := 12) rfl dX12_ones_11 rfl ?_
      refine z_iload_n (pc2 := 13) rfl dX12_ones_12 rfl ?_
      refine z_iconst (pc2 := 14) rfl dX12_ones_13 lt_i_1 ?_
      refine z_isub (pc2 := 15) rfl dX12_ones_14 ?_
      refine z_iand (pc2 := 16) rfl dX12_ones_15 ?_
      obtain ⟨x3, hxx3, h⟩ := ab_lt_e h
      refine z_top hxx3 ?_
      refine z_istore_n (pc2 := 17) (L2 := [none, some (.int x2), some (.int x3)]) rfl dX12_ones_16 (by decide) rfl rfl ?_
      refine ab_goto (tgt := 4) dX12_ones_17 (by decide) ?_
      refine z_fgt [false, true, true] (L2 := [none, some (.int x2), some (.int x3)]) rfl ?_
      exact ih _ _ h
def f_X12_ones (a0 : Int32) (σ : ab_F) : Option Int32 := (f_X12_ones_L4 σ (fun (k4 : Int32) => (some k4)) ab_fu (0 : Int32) a0)
set_option maxRecDepth 100000 in
set_option maxHeartbeats 4000000 in
theorem e_X12_ones {sc : Nat × (Nat → Int32)} {r : Option Nat × Option Nat} {a0 : Int32} {σ : ab_F} {res : Int32} (h : f_X12_ones a0 σ = some res) : ab_E mX12_ones 0 sc 0 [some (.int a0), none, none] [] (σ, r) (fun v S => v = some (.int res) ∧ S = (σ, r)) := by
  unfold f_X12_ones at h
  refine z_iconst (pc2 := 1) rfl dX12_ones_0 lt_i_0 ?_
  refine z_istore_n (pc2 := 2) (L2 := [some (.int a0), some (.int (0 : Int32)), none]) rfl dX12_ones_1 (by decide) rfl rfl ?_
  refine z_iload_n (pc2 := 3) rfl dX12_ones_2 rfl ?_
  refine z_istore_n (pc2 := 4) (L2 := [some (.int a0), some (.int (0 : Int32)), some (.int a0)]) rfl dX12_ones_3 (by decide) rfl rfl ?_
  refine z_fgt [false, true, true] (L2 := [none, some (.int (0 : Int32)), some (.int a0)]) rfl ?_
  refine e_X12_ones_L4 (fun k4 h => ?_) _ _ _ h
  refine z_iload_n (pc2 := 21) rfl dX12_ones_20 rfl ?_
  exact z_iret dX12_ones_21 rfl rfl (fi_p h)
def f_X12_actsOf (a1 : Int32) (σ : ab_F) : Option Int32 := (f_X12_its a1 (4 : Int32) σ).bind (fun q1 => (f_X12_ones q1 σ).bind (fun q2 => (if q2 ≤ (3 : Int32) then (f_X12_its a1 (0 : Int32) σ).bind (fun q4 => (if q4 = (1 : Int32) then (some (3 : Int32)) else if q4 = (2 : Int32) then (some (1 : Int32)) else if q4 = (3 : Int32) then (some (0 : Int32)) else if q4 = (4 : Int32) then (if ((σ 86 0) - (σ 86 0) / (2 : Int32) * (2 : Int32)) = 0 then (some (3 : Int32)) else (some (1 : Int32))) else if q4 = (5 : Int32) then (f_X12_downNow σ).bind (fun q11 => (if q11 ≤ (1 : Int32) then (some (1 : Int32)) else (some (2 : Int32)))) else if q4 = (6 : Int32) then (f_X12_its a1 (1 : Int32) σ).bind (fun q14 => (if q14 ≤ (4 : Int32) then (some (0 : Int32)) else (some (2 : Int32)))) else (some (1 : Int32)))) else (f_X12_its a1 (0 : Int32) σ).bind (fun q16 => (if q16 = (1 : Int32) then (some (3 : Int32)) else if q16 = (2 : Int32) then (some (2 : Int32)) else if q16 = (3 : Int32) then (some (0 : Int32)) else if q16 = (4 : Int32) then (if ((σ 86 0) - (σ 86 0) / (2 : Int32) * (2 : Int32)) = 0 then (some (3 : Int32)) else (some (1 : Int32))) else if q16 = (5 : Int32) then (f_X12_downNow σ).bind (fun q23 => (if q23 ≤ (1 : Int32) then (some (2 : Int32)) else (some (2 : Int32)))) else if q16 = (6 : Int32) then (f_X12_its a1 (1 : Int32) σ).bind (fun q26 => (if q26 ≤ (4 : Int32) then (some (0 : Int32)) else (some (2 : Int32)))) else (some (1 : Int32)))))))
set_option maxRecDepth 100000 in
set_option maxHeartbeats 4000000 in
theorem e_X12_actsOf {sc : Nat × (Nat → Int32)} {r : Option Nat × Option Nat} {a1 : Int32} {σ : ab_F} {res : Int32} (h : f_X12_actsOf a1 σ = some res) : ab_E mX12_actsOf 2 sc 0 [some (.ref 85), some (.int a1), none] [] (σ, r) (fun v S => v = some (.int res) ∧ S = (σ, r)) := by
  unfold f_X12_actsOf at h
  refine z_aload_n (pc2 := 1) rfl dX12_actsOf_0 rfl ?_
  refine z_iload_n (pc2 := 2) rfl dX12_actsOf_1 rfl ?_
  refine z_iconst (pc2 := 3) rfl dX12_actsOf_2 lt_i_4 ?_
  obtain ⟨q1, hq1, h⟩ := ab_bnd h
  refine z_callVi 85 [.int a1, .int (4 : Int32)] [some (.ref 85), some (.int a1), some (.int (4 : Int32))] (pc2 := 6) rfl rfl dX12_actsOf_3 ok_X12_its ⟨fun _ => rfl, fun _ => Nat.le_of_ble_eq_true rfl⟩ rfl rv_85 wd_1129 wd_1131 wd_31 rfl (e_X12_its hq1) ?_
  obtain ⟨q2, hq2, h⟩ := ab_bnd h
  refine z_callSi [.int q1] [some (.int q1), none, none] (pc2 := 9) rfl rfl dX12_actsOf_6 ok_X12_ones ⟨fun _ => rfl, fun _ => Nat.le_of_ble_eq_true rfl⟩ rfl wd_1141 wd_1142 rfl (e_X12_ones hq2) ?_
  refine z_iconst (pc2 := 10) rfl dX12_actsOf_9 lt_i_3 ?_
  refine z_icmp_le (pc2 := 13) (tgt := 17) rfl dX12_actsOf_10 (by decide) (fun hc3 => ?_) (fun hc3 => ?_)
  · replace h := ab_pos hc3 h
    refine z_iconst (pc2 := 18) rfl dX12_actsOf_17 lt_i_1 ?_
    refine z_istore_n (pc2 := 19) (L2 := [some (.ref 85), some (.int a1), some (.int (1 : Int32))]) rfl dX12_actsOf_18 (by decide) rfl rfl ?_
    refine z_aload_n (pc2 := 20) rfl dX12_actsOf_19 rfl ?_
    refine z_iload_n (pc2 := 21) rfl dX12_actsOf_20 rfl ?_
    refine z_iconst (pc2 := 22) rfl dX12_actsOf_21 lt_i_0 ?_
    obtain ⟨q4, hq4, h⟩ := ab_bnd h
    refine z_callVi 85 [.int a1, .int (0 : Int32)] [some (.ref 85), some (.int a1), some (.int (0 : Int32))] (pc2 := 25) rfl rfl dX12_actsOf_22 ok_X12_its ⟨fun _ => rfl, fun _ => Nat.le_of_ble_eq_true rfl⟩ rfl rv_85 wd_1129 wd_1131 wd_31 rfl (e_X12_its hq4) ?_
    by_cases hc5 : q4 = (1 : Int32)
    · replace h := ab_pos hc5 h
      refine ab_tsIn (tgt := 64) dX12_actsOf_25 (by rw [hc5]; decide) (by rw [hc5]; decide) (by rw [hc5]; rfl) (by decide) ?_
      refine z_iconst (pc2 := 65) rfl dX12_actsOf_64 lt_i_3 ?_
      exact z_iret dX12_actsOf_65 rfl rfl (fi_p h)
    · replace h := ab_neg hc5 h
      by_cases hc6 : q4 = (2 : Int32)
      · replace h := ab_pos hc6 h
        refine ab_tsIn (tgt := 66) dX12_actsOf_25 (by rw [hc6]; decide) (by rw [hc6]; decide) (by rw [hc6]; rfl) (by decide) ?_
        refine z_iload_n (pc2 := 67) rfl dX12_actsOf_66 rfl ?_
        exact z_iret dX12_actsOf_67 rfl rfl (fi_p h)
      · replace h := ab_neg hc6 h
        by_cases hc7 : q4 = (3 : Int32)
        · replace h := ab_pos hc7 h
          refine ab_tsIn (tgt := 68) dX12_actsOf_25 (by rw [hc7]; decide) (by rw [hc7]; decide) (by rw [hc7]; rfl) (by decide) ?_
          refine z_iconst (pc2 := 69) rfl dX12_actsOf_68 lt_i_0 ?_
          exact z_iret dX12_actsOf_69 rfl rfl (fi_p h)
        · replace h := ab_neg hc7 h
          by_cases hc8 : q4 = (4 : Int32)
          · replace h := ab_pos hc8 h
            refine ab_tsIn (tgt := 70) dX12_actsOf_25 (by rw [hc8]; decide) (by rw [hc8]; decide) (by rw [hc8]; rfl) (by decide) ?_
            refine z_aload_n (pc2 := 71) rfl dX12_actsOf_70 rfl ?_
            refine z_getR 85 12 0 86 (pc2 := 74) rfl dX12_actsOf_71 rfl rfl ff_12_0 wd_977 rfl ?_
            refine z_iconst (pc2 := 75) rfl dX12_actsOf_74 lt_i_0 ?_
            refine z_iald 86 (pc2 := 76) (j := 0) rfl dX12_actsOf_75 rfl rfl (by decide) (by decide) ?_
            refine z_iconst (pc2 := 77) rfl dX12_actsOf_76 lt_i_2 ?_
            refine z_irem (pc2 := 78) rfl dX12_actsOf_77 (by decide) ?_
            refine z_if_ne (pc2 := 81) (tgt := 85) rfl dX12_actsOf_78 (by decide) (fun hc9 => ?_) (fun hc9 => ?_)
            · replace h := ab_neg hc9 h
              refine z_iconst (pc2 := 86) rfl dX12_actsOf_85 lt_i_1 ?_
              exact z_iret dX12_actsOf_86 rfl rfl (fi_p h)
            · replace h := ab_pos hc9 h
              refine z_iconst (pc2 := 82) rfl dX12_actsOf_81 lt_i_3 ?_
              refine ab_goto (tgt := 86) dX12_actsOf_82 (by decide) ?_
              exact z_iret dX12_actsOf_86 rfl rfl (fi_p h)
          · replace h := ab_neg hc8 h
            by_cases hc10 : q4 = (5 : Int32)
            · replace h := ab_pos hc10 h
              refine ab_tsIn (tgt := 87) dX12_actsOf_25 (by rw [hc10]; decide) (by rw [hc10]; decide) (by rw [hc10]; rfl) (by decide) ?_
              refine z_aload_n (pc2 := 88) rfl dX12_actsOf_87 rfl ?_
              obtain ⟨q11, hq11, h⟩ := ab_bnd h
              refine z_callVi 85 [] [some (.ref 85), none, none] (pc2 := 91) rfl rfl dX12_actsOf_88 ok_X12_downNow ⟨fun _ => rfl, fun _ => Nat.le_of_ble_eq_true rfl⟩ rfl rv_85 wd_1144 wd_1146 wd_34 rfl (e_X12_downNow hq11) ?_
              refine z_iconst (pc2 := 92) rfl dX12_actsOf_91 lt_i_1 ?_
              refine z_icmp_le (pc2 := 95) (tgt := 99) rfl dX12_actsOf_92 (by decide) (fun hc12 => ?_) (fun hc12 => ?_)
              · replace h := ab_pos hc12 h
                refine z_iload_n (pc2 := 100) rfl dX12_actsOf_99 rfl ?_
                exact z_iret dX12_actsOf_100 rfl rfl (fi_p h)
              · replace h := ab_neg hc12 h
                refine z_iconst (pc2 := 96) rfl dX12_actsOf_95 lt_i_2 ?_
                refine ab_goto (tgt := 100) dX12_actsOf_96 (by decide) ?_
                exact z_iret dX12_actsOf_100 rfl rfl (fi_p h)
            · replace h := ab_neg hc10 h
              by_cases hc13 : q4 = (6 : Int32)
              · replace h := ab_pos hc13 h
                refine ab_tsIn (tgt := 101) dX12_actsOf_25 (by rw [hc13]; decide) (by rw [hc13]; decide) (by rw [hc13]; rfl) (by decide) ?_
                refine z_aload_n (pc2 := 102) rfl dX12_actsOf_101 rfl ?_
                refine z_iload_n (pc2 := 103) rfl dX12_actsOf_102 rfl ?_
                refine z_iconst (pc2 := 104) rfl dX12_actsOf_103 lt_i_1 ?_
                obtain ⟨q14, hq14, h⟩ := ab_bnd h
                refine z_callVi 85 [.int a1, .int (1 : Int32)] [some (.ref 85), some (.int a1), some (.int (1 : Int32))] (pc2 := 107) rfl rfl dX12_actsOf_104 ok_X12_its ⟨fun _ => rfl, fun _ => Nat.le_of_ble_eq_true rfl⟩ rfl rv_85 wd_1129 wd_1131 wd_31 rfl (e_X12_its hq14) ?_
                refine z_iconst (pc2 := 108) rfl dX12_actsOf_107 lt_i_4 ?_
                refine z_icmp_le (pc2 := 111) (tgt := 115) rfl dX12_actsOf_108 (by decide) (fun hc15 => ?_) (fun hc15 => ?_)
                · replace h := ab_pos hc15 h
                  refine z_iconst (pc2 := 116) rfl dX12_actsOf_115 lt_i_0 ?_
                  exact z_iret dX12_actsOf_116 rfl rfl (fi_p h)
                · replace h := ab_neg hc15 h
                  refine z_iconst (pc2 := 112) rfl dX12_actsOf_111 lt_i_2 ?_
                  refine ab_goto (tgt := 116) dX12_actsOf_112 (by decide) ?_
                  exact z_iret dX12_actsOf_116 rfl rfl (fi_p h)
              · replace h := ab_neg hc13 h
                have thc5 := ab_ne_toInt (k := 1) hc5 (by decide)
                have thc6 := ab_ne_toInt (k := 2) hc6 (by decide)
                have thc7 := ab_ne_toInt (k := 3) hc7 (by decide)
                have thc8 := ab_ne_toInt (k := 4) hc8 (by decide)
                have thc10 := ab_ne_toInt (k := 5) hc10 (by decide)
                have thc13 := ab_ne_toInt (k := 6) hc13 (by decide)
                refine ab_tsOut (tgt := 117) dX12_actsOf_25 (by omega) (by decide) ?_
                refine z_iconst (pc2 := 118) rfl dX12_actsOf_117 lt_i_1 ?_
                exact z_iret dX12_actsOf_118 rfl rfl (fi_p h)
  · replace h := ab_neg hc3 h
    refine z_iconst (pc2 := 14) rfl dX12_actsOf_13 lt_i_2 ?_
    refine ab_goto (tgt := 18) dX12_actsOf_14 (by decide) ?_
    refine z_istore_n (pc2 := 19) (L2 := [some (.ref 85), some (.int a1), some (.int (2 : Int32))]) rfl dX12_actsOf_18 (by decide) rfl rfl ?_
    refine z_aload_n (pc2 := 20) rfl dX12_actsOf_19 rfl ?_
    refine z_iload_n (pc2 := 21) rfl dX12_actsOf_20 rfl ?_
    refine z_iconst (pc2 := 22) rfl dX12_actsOf_21 lt_i_0 ?_
    obtain ⟨q16, hq16, h⟩ := ab_bnd h
    refine z_callVi 85 [.int a1, .int (0 : Int32)] [some (.ref 85), some (.int a1), some (.int (0 : Int32))] (pc2 := 25) rfl rfl dX12_actsOf_22 ok_X12_its ⟨fun _ => rfl, fun _ => Nat.le_of_ble_eq_true rfl⟩ rfl rv_85 wd_1129 wd_1131 wd_31 rfl (e_X12_its hq16) ?_
    by_cases hc17 : q16 = (1 : Int32)
    · replace h := ab_pos hc17 h
      refine ab_tsIn (tgt := 64) dX12_actsOf_25 (by rw [hc17]; decide) (by rw [hc17]; decide) (by rw [hc17]; rfl) (by decide) ?_
      refine z_iconst (pc2 := 65) rfl dX12_actsOf_64 lt_i_3 ?_
      exact z_iret dX12_actsOf_65 rfl rfl (fi_p h)
    · replace h := ab_neg hc17 h
      by_cases hc18 : q16 = (2 : Int32)
      · replace h := ab_pos hc18 h
        refine ab_tsIn (tgt := 66) dX12_actsOf_25 (by rw [hc18]; decide) (by rw [hc18]; decide) (by rw [hc18]; rfl) (by decide) ?_
        refine z_iload_n (pc2 := 67) rfl dX12_actsOf_66 rfl ?_
        exact z_iret dX12_actsOf_67 rfl rfl (fi_p h)
      · replace h := ab_neg hc18 h
        by_cases hc19 : q16 = (3 : Int32)
        · replace h := ab_pos hc19 h
          refine ab_tsIn (tgt := 68) dX12_actsOf_25 (by rw [hc19]; decide) (by rw [hc19]; decide) (by rw [hc19]; rfl) (by decide) ?_
          refine z_iconst (pc2 := 69) rfl dX12_actsOf_68 lt_i_0 ?_
          exact z_iret dX12_actsOf_69 rfl rfl (fi_p h)
        · replace h := ab_neg hc19 h
          by_cases hc20 : q16 = (4 : Int32)
          · replace h := ab_pos hc20 h
            refine ab_tsIn (tgt := 70) dX12_actsOf_25 (by rw [hc20]; decide) (by rw [hc20]; decide) (by rw [hc20]; rfl) (by decide) ?_
            refine z_aload_n (pc2 := 71) rfl dX12_actsOf_70 rfl ?_
            refine z_getR 85 12 0 86 (pc2 := 74) rfl dX12_actsOf_71 rfl rfl ff_12_0 wd_977 rfl ?_
            refine z_iconst (pc2 := 75) rfl dX12_actsOf_74 lt_i_0 ?_
            refine z_iald 86 (pc2 := 76) (j := 0) rfl dX12_actsOf_75 rfl rfl (by decide) (by decide) ?_
            refine z_iconst (pc2 := 77) rfl dX12_actsOf_76 lt_i_2 ?_
            refine z_irem (pc2 := 78) rfl dX12_actsOf_77 (by decide) ?_
            refine z_if_ne (pc2 := 81) (tgt := 85) rfl dX12_actsOf_78 (by decide) (fun hc21 => ?_) (fun hc21 => ?_)
            · replace h := ab_neg hc21 h
              refine z_iconst (pc2 := 86) rfl dX12_actsOf_85 lt_i_1 ?_
              exact z_iret dX12_actsOf_86 rfl rfl (fi_p h)
            · replace h := ab_pos hc21 h
              refine z_iconst (pc2 := 82) rfl dX12_actsOf_81 lt_i_3 ?_
              refine ab_goto (tgt := 86) dX12_actsOf_82 (by decide) ?_
              exact z_iret dX12_actsOf_86 rfl rfl (fi_p h)
          · replace h := ab_neg hc20 h
            by_cases hc22 : q16 = (5 : Int32)
            · replace h := ab_pos hc22 h
              refine ab_tsIn (tgt := 87) dX12_actsOf_25 (by rw [hc22]; decide) (by rw [hc22]; decide) (by rw [hc22]; rfl) (by decide) ?_
              refine z_aload_n (pc2 := 88) rfl dX12_actsOf_87 rfl ?_
              obtain ⟨q23, hq23, h⟩ := ab_bnd h
              refine z_callVi 85 [] [some (.ref 85), none, none] (pc2 := 91) rfl rfl dX12_actsOf_88 ok_X12_downNow ⟨fun _ => rfl, fun _ => Nat.le_of_ble_eq_true rfl⟩ rfl rv_85 wd_1144 wd_1146 wd_34 rfl (e_X12_downNow hq23) ?_
              refine z_iconst (pc2 := 92) rfl dX12_actsOf_91 lt_i_1 ?_
              refine z_icmp_le (pc2 := 95) (tgt := 99) rfl dX12_actsOf_92 (by decide) (fun hc24 => ?_) (fun hc24 => ?_)
              · replace h := ab_pos hc24 h
                refine z_iload_n (pc2 := 100) rfl dX12_actsOf_99 rfl ?_
                exact z_iret dX12_actsOf_100 rfl rfl (fi_p h)
              · replace h := ab_neg hc24 h
                refine z_iconst (pc2 := 96) rfl dX12_actsOf_95 lt_i_2 ?_
                refine ab_goto (tgt := 100) dX12_actsOf_96 (by decide) ?_
                exact z_iret dX12_actsOf_100 rfl rfl (fi_p h)
            · replace h := ab_neg hc22 h
              by_cases hc25 : q16 = (6 : Int32)
              · replace h := ab_pos hc25 h
                refine ab_tsIn (tgt := 101) dX12_actsOf_25 (by rw [hc25]; decide) (by rw [hc25]; decide) (by rw [hc25]; rfl) (by decide) ?_
                refine z_aload_n (pc2 := 102) rfl dX12_actsOf_101 rfl ?_
                refine z_iload_n (pc2 := 103) rfl dX12_actsOf_102 rfl ?_
                refine z_iconst (pc2 := 104) rfl dX12_actsOf_103 lt_i_1 ?_
                obtain ⟨q26, hq26, h⟩ := ab_bnd h
                refine z_callVi 85 [.int a1, .int (1 : Int32)] [some (.ref 85), some (.int a1), some (.int (1 : Int32))] (pc2 := 107) rfl rfl dX12_actsOf_104 ok_X12_its ⟨fun _ => rfl, fun _ => Nat.le_of_ble_eq_true rfl⟩ rfl rv_85 wd_1129 wd_1131 wd_31 rfl (e_X12_its hq26) ?_
                refine z_iconst (pc2 := 108) rfl dX12_actsOf_107 lt_i_4 ?_
                refine z_icmp_le (pc2 := 111) (tgt := 115) rfl dX12_actsOf_108 (by decide) (fun hc27 => ?_) (fun hc27 => ?_)
                · replace h := ab_pos hc27 h
                  refine z_iconst (pc2 := 116) rfl dX12_actsOf_115 lt_i_0 ?_
                  exact z_iret dX12_actsOf_116 rfl rfl (fi_p h)
                · replace h := ab_neg hc27 h
                  refine z_iconst (pc2 := 112) rfl dX12_actsOf_111 lt_i_2 ?_
                  refine ab_goto (tgt := 116) dX12_actsOf_112 (by decide) ?_
                  exact z_iret dX12_actsOf_116 rfl rfl (fi_p h)
              · replace h := ab_neg hc25 h
                have thc17 := ab_ne_toInt (k := 1) hc17 (by decide)
                have thc18 := ab_ne_toInt (k := 2) hc18 (by decide)
                have thc19 := ab_ne_toInt (k := 3) hc19 (by decide)
                have thc20 := ab_ne_toInt (k := 4) hc20 (by decide)
                have thc22 := ab_ne_toInt (k := 5) hc22 (by decide)
                have thc25 := ab_ne_toInt (k := 6) hc25 (by decide)
                refine ab_tsOut (tgt := 117) dX12_actsOf_25 (by omega) (by decide) ?_
                refine z_iconst (pc2 := 118) rfl dX12_actsOf_117 lt_i_1 ?_
                exact z_iret dX12_actsOf_118 rfl rfl (fi_p h)
def f_X12_tallOf (a1 : Int32) (σ : ab_F) : Option Int32 := (f_X12_its a1 (1 : Int32) σ).bind (fun q1 => ab_lt (((6 : Int32) - (q1 / (2 : Int32)))) (fun x2 => (f_X12_its a1 (0 : Int32) σ).bind (fun q3 => (if q3 = (1 : Int32) then (some (8 : Int32)) else if q3 = (2 : Int32) then (some x2) else if q3 = (3 : Int32) then (some (0 : Int32)) else if q3 = (4 : Int32) then (some ((8 : Int32) + q1)) else if q3 = (5 : Int32) then (some (x2 / (2 : Int32))) else if q3 = (6 : Int32) then (f_X12_its a1 (4 : Int32) σ).bind (fun q10 => (f_X12_ones q10 σ).bind (fun q11 => (some q11))) else (some (6 : Int32))))))
set_option maxRecDepth 100000 in
set_option maxHeartbeats 4000000 in
theorem e_X12_tallOf {sc : Nat × (Nat → Int32)} {r : Option Nat × Option Nat} {a1 : Int32} {σ : ab_F} {res : Int32} (h : f_X12_tallOf a1 σ = some res) : ab_E mX12_tallOf 1 sc 0 [some (.ref 85), some (.int a1), none, none] [] (σ, r) (fun v S => v = some (.int res) ∧ S = (σ, r)) := by
  unfold f_X12_tallOf at h
  refine z_aload_n (pc2 := 1) rfl dX12_tallOf_0 rfl ?_
  refine z_iload_n (pc2 := 2) rfl dX12_tallOf_1 rfl ?_
  refine z_iconst (pc2 := 3) rfl dX12_tallOf_2 lt_i_1 ?_
  obtain ⟨q1, hq1, h⟩ := ab_bnd h
  refine z_callVi 85 [.int a1, .int (1 : Int32)] [some (.ref 85), some (.int a1), some (.int (1 : Int32))] (pc2 := 6) rfl rfl dX12_tallOf_3 ok_X12_its ⟨fun _ => rfl, fun _ => Nat.le_of_ble_eq_true rfl⟩ rfl rv_85 wd_1129 wd_1131 wd_31 rfl (e_X12_its hq1) ?_
  refine z_istore_n (pc2 := 7) (L2 := [some (.ref 85), some (.int a1), some (.int q1), none]) rfl dX12_tallOf_6 (by decide) rfl rfl ?_
  refine z_bipush (pc2 := 9) rfl dX12_tallOf_7 lt_b_6 ?_
  refine z_iload_n (pc2 := 10) rfl dX12_tallOf_9 rfl ?_
  refine z_iconst (pc2 := 11) rfl dX12_tallOf_10 lt_i_2 ?_
  refine z_idiv (pc2 := 12) rfl dX12_tallOf_11 (by decide) ?_
  refine z_isub (pc2 := 13) rfl dX12_tallOf_12 ?_
  obtain ⟨x2, hxx2, h⟩ := ab_lt_e h
  refine z_top hxx2 ?_
  refine z_istore_n (pc2 := 14) (L2 := [some (.ref 85), some (.int a1), some (.int q1), some (.int x2)]) rfl dX12_tallOf_13 (by decide) rfl rfl ?_
  refine z_aload_n (pc2 := 15) rfl dX12_tallOf_14 rfl ?_
  refine z_iload_n (pc2 := 16) rfl dX12_tallOf_15 rfl ?_
  refine z_iconst (pc2 := 17) rfl dX12_tallOf_16 lt_i_0 ?_
  obtain ⟨q3, hq3, h⟩ := ab_bnd h
  refine z_callVi 85 [.int a1, .int (0 : Int32)] [some (.ref 85), some (.int a1), some (.int (0 : Int32))] (pc2 := 20) rfl rfl dX12_tallOf_17 ok_X12_its ⟨fun _ => rfl, fun _ => Nat.le_of_ble_eq_true rfl⟩ rfl rv_85 wd_1129 wd_1131 wd_31 rfl (e_X12_its hq3) ?_
  by_cases hc4 : q3 = (1 : Int32)
  · replace h := ab_pos hc4 h
    refine ab_tsIn (tgt := 60) dX12_tallOf_20 (by rw [hc4]; decide) (by rw [hc4]; decide) (by rw [hc4]; rfl) (by decide) ?_
    refine z_bipush (pc2 := 62) rfl dX12_tallOf_60 lt_b_8 ?_
    exact z_iret dX12_tallOf_62 rfl rfl (fi_p h)
  · replace h := ab_neg hc4 h
    by_cases hc5 : q3 = (2 : Int32)
    · replace h := ab_pos hc5 h
      refine ab_tsIn (tgt := 63) dX12_tallOf_20 (by rw [hc5]; decide) (by rw [hc5]; decide) (by rw [hc5]; rfl) (by decide) ?_
      refine z_iload_n (pc2 := 64) rfl dX12_tallOf_63 rfl ?_
      exact z_iret dX12_tallOf_64 rfl rfl (fi_p h)
    · replace h := ab_neg hc5 h
      by_cases hc6 : q3 = (3 : Int32)
      · replace h := ab_pos hc6 h
        refine ab_tsIn (tgt := 65) dX12_tallOf_20 (by rw [hc6]; decide) (by rw [hc6]; decide) (by rw [hc6]; rfl) (by decide) ?_
        refine z_iconst (pc2 := 66) rfl dX12_tallOf_65 lt_i_0 ?_
        exact z_iret dX12_tallOf_66 rfl rfl (fi_p h)
      · replace h := ab_neg hc6 h
        by_cases hc7 : q3 = (4 : Int32)
        · replace h := ab_pos hc7 h
          refine ab_tsIn (tgt := 67) dX12_tallOf_20 (by rw [hc7]; decide) (by rw [hc7]; decide) (by rw [hc7]; rfl) (by decide) ?_
          refine z_bipush (pc2 := 69) rfl dX12_tallOf_67 lt_b_8 ?_
          refine z_iload_n (pc2 := 70) rfl dX12_tallOf_69 rfl ?_
          refine z_iadd (pc2 := 71) rfl dX12_tallOf_70 ?_
          exact z_iret dX12_tallOf_71 rfl rfl (fi_p h)
        · replace h := ab_neg hc7 h
          by_cases hc8 : q3 = (5 : Int32)
          · replace h := ab_pos hc8 h
            refine ab_tsIn (tgt := 72) dX12_tallOf_20 (by rw [hc8]; decide) (by rw [hc8]; decide) (by rw [hc8]; rfl) (by decide) ?_
            refine z_iload_n (pc2 := 73) rfl dX12_tallOf_72 rfl ?_
            refine z_iconst (pc2 := 74) rfl dX12_tallOf_73 lt_i_2 ?_
            refine z_idiv (pc2 := 75) rfl dX12_tallOf_74 (by decide) ?_
            exact z_iret dX12_tallOf_75 rfl rfl (fi_p h)
          · replace h := ab_neg hc8 h
            by_cases hc9 : q3 = (6 : Int32)
            · replace h := ab_pos hc9 h
              refine ab_tsIn (tgt := 76) dX12_tallOf_20 (by rw [hc9]; decide) (by rw [hc9]; decide) (by rw [hc9]; rfl) (by decide) ?_
              refine z_aload_n (pc2 := 77) rfl dX12_tallOf_76 rfl ?_
              refine z_iload_n (pc2 := 78) rfl dX12_tallOf_77 rfl ?_
              refine z_iconst (pc2 := 79) rfl dX12_tallOf_78 lt_i_4 ?_
              obtain ⟨q10, hq10, h⟩ := ab_bnd h
              refine z_callVi 85 [.int a1, .int (4 : Int32)] [some (.ref 85), some (.int a1), some (.int (4 : Int32))] (pc2 := 82) rfl rfl dX12_tallOf_79 ok_X12_its ⟨fun _ => rfl, fun _ => Nat.le_of_ble_eq_true rfl⟩ rfl rv_85 wd_1129 wd_1131 wd_31 rfl (e_X12_its hq10) ?_
              obtain ⟨q11, hq11, h⟩ := ab_bnd h
              refine z_callSi [.int q10] [some (.int q10), none, none] (pc2 := 85) rfl rfl dX12_tallOf_82 ok_X12_ones ⟨fun _ => rfl, fun _ => Nat.le_of_ble_eq_true rfl⟩ rfl wd_1141 wd_1142 rfl (e_X12_ones hq11) ?_
              exact z_iret dX12_tallOf_85 rfl rfl (fi_p h)
            · replace h := ab_neg hc9 h
              have thc4 := ab_ne_toInt (k := 1) hc4 (by decide)
              have thc5 := ab_ne_toInt (k := 2) hc5 (by decide)
              have thc6 := ab_ne_toInt (k := 3) hc6 (by decide)
              have thc7 := ab_ne_toInt (k := 4) hc7 (by decide)
              have thc8 := ab_ne_toInt (k := 5) hc8 (by decide)
              have thc9 := ab_ne_toInt (k := 6) hc9 (by decide)
              refine ab_tsOut (tgt := 86) dX12_tallOf_20 (by omega) (by decide) ?_
              refine z_bipush (pc2 := 88) rfl dX12_tallOf_86 lt_b_6 ?_
              exact z_iret dX12_tallOf_88 rfl rfl (fi_p h)
def f_X12_held (a0 : Int32) (a1 : Int32) (a2 : Int32) (σ : ab_F) : Option Int32 := (if a1 ≤ a0 then (if a0 ≤ a2 then (some a0) else (some a2)) else (some a1))
set_option maxRecDepth 100000 in
set_option maxHeartbeats 4000000 in
theorem e_X12_held {sc : Nat × (Nat → Int32)} {r : Option Nat × Option Nat} {a0 : Int32} {a1 : Int32} {a2 : Int32} {σ : ab_F} {res : Int32} (h : f_X12_held a0 a1 a2 σ = some res) : ab_E mX12_held 0 sc 0 [some (.int a0), some (.int a1), some (.int a2)] [] (σ, r) (fun v S => v = some (.int res) ∧ S = (σ, r)) := by
  unfold f_X12_held at h
  refine z_iload_n (pc2 := 1) rfl dX12_held_0 rfl ?_
  refine z_iload_n (pc2 := 2) rfl dX12_held_1 rfl ?_
  refine z_icmp_ge (pc2 := 5) (tgt := 9) rfl dX12_held_2 (by decide) (fun hc1 => ?_) (fun hc1 => ?_)
  · replace h := ab_pos hc1 h
    refine z_iload_n (pc2 := 10) rfl dX12_held_9 rfl ?_
    refine z_iload_n (pc2 := 11) rfl dX12_held_10 rfl ?_
    refine z_icmp_le (pc2 := 14) (tgt := 18) rfl dX12_held_11 (by decide) (fun hc2 => ?_) (fun hc2 => ?_)
    · replace h := ab_pos hc2 h
      refine z_iload_n (pc2 := 19) rfl dX12_held_18 rfl ?_
      exact z_iret dX12_held_19 rfl rfl (fi_p h)
    · replace h := ab_neg hc2 h
      refine z_iload_n (pc2 := 15) rfl dX12_held_14 rfl ?_
      refine ab_goto (tgt := 19) dX12_held_15 (by decide) ?_
      exact z_iret dX12_held_19 rfl rfl (fi_p h)
  · replace h := ab_neg hc1 h
    refine z_iload_n (pc2 := 6) rfl dX12_held_5 rfl ?_
    refine ab_goto (tgt := 19) dX12_held_6 (by decide) ?_
    exact z_iret dX12_held_19 rfl rfl (fi_p h)
def f_X12_restOf (a0 : Int32) (σ : ab_F) : Option Int32 := ab_lt ((a0 - a0 / (4 : Int32) * (4 : Int32))) (fun x1 => (if 0 ≤ x1 then (some x1) else (some (x1 + (4 : Int32)))))
set_option maxRecDepth 100000 in
set_option maxHeartbeats 4000000 in
theorem e_X12_restOf {sc : Nat × (Nat → Int32)} {r : Option Nat × Option Nat} {a0 : Int32} {σ : ab_F} {res : Int32} (h : f_X12_restOf a0 σ = some res) : ab_E mX12_restOf 0 sc 0 [some (.int a0), none] [] (σ, r) (fun v S => v = some (.int res) ∧ S = (σ, r)) := by
  unfold f_X12_restOf at h
  refine z_iload_n (pc2 := 1) rfl dX12_restOf_0 rfl ?_
  refine z_iconst (pc2 := 2) rfl dX12_restOf_1 lt_i_4 ?_
  refine z_irem (pc2 := 3) rfl dX12_restOf_2 (by decide) ?_
  obtain ⟨x1, hxx1, h⟩ := ab_lt_e h
  refine z_top hxx1 ?_
  refine z_istore_n (pc2 := 4) (L2 := [some (.int a0), some (.int x1)]) rfl dX12_restOf_3 (by decide) rfl rfl ?_
  refine z_iload_n (pc2 := 5) rfl dX12_restOf_4 rfl ?_
  refine z_if_ge (pc2 := 8) (tgt := 14) rfl dX12_restOf_5 (by decide) (fun hc2 => ?_) (fun hc2 => ?_)
  · replace h := ab_pos hc2 h
    refine z_iload_n (pc2 := 15) rfl dX12_restOf_14 rfl ?_
    exact z_iret dX12_restOf_15 rfl rfl (fi_p h)
  · replace h := ab_neg hc2 h
    refine z_iload_n (pc2 := 9) rfl dX12_restOf_8 rfl ?_
    refine z_iconst (pc2 := 10) rfl dX12_restOf_9 lt_i_4 ?_
    refine z_iadd (pc2 := 11) rfl dX12_restOf_10 ?_
    refine ab_goto (tgt := 15) dX12_restOf_11 (by decide) ?_
    exact z_iret dX12_restOf_15 rfl rfl (fi_p h)
def f_X12_givenBy (a1 : Int32) (a2 : Int32) (a3 : Int32) (a4 : Int32) (σ : ab_F) : Option (Int32 × ab_F) := (if a1 = 0 then ab_lt (ab_u σ 91 121 a2) (fun (s28 : ab_F) => (if a1 = 0 then ab_lt (ab_u s28 91 107 a3) (fun (s42 : ab_F) => ab_lt (ab_u s42 91 100 a4) (fun (s43 : ab_F) => (f_X12_hasText a1 s43).bind (fun q44 => (if (ab_b q44) = 0 then (if a1 = 0 then (f_X12_restOf a2 s43).bind (fun q48 => (some (q48, s43))) else (f_X12_held a2 (0 : Int32) (20 : Int32) s43).bind (fun q47 => (some (q47, s43)))) else (f_X12_worked a1 s43).bind (fun q49 => ab_lt (q49.1) (fun x50 => (if a1 = 0 then (f_X12_restOf x50 q49.2).bind (fun q53 => (some (q53, q49.2))) else (f_X12_held x50 (0 : Int32) (20 : Int32) q49.2).bind (fun q52 => (some (q52, q49.2)))))))))) else ab_lt (ab_u s28 91 103 a3) (fun (s30 : ab_F) => ab_lt (ab_u s30 91 100 a4) (fun (s31 : ab_F) => (f_X12_hasText a1 s31).bind (fun q32 => (if (ab_b q32) = 0 then (if a1 = 0 then (f_X12_restOf a2 s31).bind (fun q36 => (some (q36, s31))) else (f_X12_held a2 (0 : Int32) (20 : Int32) s31).bind (fun q35 => (some (q35, s31)))) else (f_X12_worked a1 s31).bind (fun q37 => ab_lt (q37.1) (fun x38 => (if a1 = 0 then (f_X12_restOf x38 q37.2).bind (fun q41 => (some (q41, q37.2))) else (f_X12_held x38 (0 : Int32) (20 : Int32) q37.2).bind (fun q40 => (some (q40, q37.2)))))))))))) else ab_lt (ab_u σ 91 116 a2) (fun (s2 : ab_F) => (if a1 = 0 then ab_lt (ab_u s2 91 107 a3) (fun (s16 : ab_F) => ab_lt (ab_u s16 91 100 a4) (fun (s17 : ab_F) => (f_X12_hasText a1 s17).bind (fun q18 => (if (ab_b q18) = 0 then (if a1 = 0 then (f_X12_restOf a2 s17).bind (fun q22 => (some (q22, s17))) else (f_X12_held a2 (0 : Int32) (20 : Int32) s17).bind (fun q21 => (some (q21, s17)))) else (f_X12_worked a1 s17).bind (fun q23 => ab_lt (q23.1) (fun x24 => (if a1 = 0 then (f_X12_restOf x24 q23.2).bind (fun q27 => (some (q27, q23.2))) else (f_X12_held x24 (0 : Int32) (20 : Int32) q23.2).bind (fun q26 => (some (q26, q23.2)))))))))) else ab_lt (ab_u s2 91 103 a3) (fun (s4 : ab_F) => ab_lt (ab_u s4 91 100 a4) (fun (s5 : ab_F) => (f_X12_hasText a1 s5).bind (fun q6 => (if (ab_b q6) = 0 then (if a1 = 0 then (f_X12_restOf a2 s5).bind (fun q10 => (some (q10, s5))) else (f_X12_held a2 (0 : Int32) (20 : Int32) s5).bind (fun q9 => (some (q9, s5)))) else (f_X12_worked a1 s5).bind (fun q11 => ab_lt (q11.1) (fun x12 => (if a1 = 0 then (f_X12_restOf x12 q11.2).bind (fun q15 => (some (q15, q11.2))) else (f_X12_held x12 (0 : Int32) (20 : Int32) q11.2).bind (fun q14 => (some (q14, q11.2)))))))))))))
set_option maxRecDepth 100000 in
set_option maxHeartbeats 4000000 in
theorem e_X12_givenBy {sc : Nat × (Nat → Int32)} {r : Option Nat × Option Nat} {a1 : Int32} {a2 : Int32} {a3 : Int32} {a4 : Int32} {σ : ab_F} {res : (Int32 × ab_F)} (h : f_X12_givenBy a1 a2 a3 a4 σ = some res) : ab_E mX12_givenBy 2 sc 0 [some (.ref 85), some (.int a1), some (.int a2), some (.int a3), some (.int a4), none] [] (σ, r) (fun v S => v = some (.int res.1) ∧ S = (res.2, r)) := by
  unfold f_X12_givenBy at h
  refine z_aload_n (pc2 := 1) rfl dX12_givenBy_0 rfl ?_
  refine z_getR 85 12 10 91 (pc2 := 4) rfl dX12_givenBy_1 rfl rfl ff_12_10 wd_987 rfl ?_
  refine z_iload_n (pc2 := 5) rfl dX12_givenBy_4 rfl ?_
  refine z_if_ne (pc2 := 8) (tgt := 13) rfl dX12_givenBy_5 (by decide) (fun hc1 => ?_) (fun hc1 => ?_)
  · replace h := ab_neg hc1 h
    refine z_bipush (pc2 := 15) rfl dX12_givenBy_13 lt_b_116 ?_
    refine z_iload_n (pc2 := 16) rfl dX12_givenBy_15 rfl ?_
    refine z_iast 91 (pc2 := 17) (j := 116) rfl dX12_givenBy_16 rfl rfl (by decide) (by decide) ?_
    obtain ⟨s2, hs2, h⟩ := ab_lt_e h
    refine z_tops hs2 ?_
    refine z_aload_n (pc2 := 18) rfl dX12_givenBy_17 rfl ?_
    refine z_getR 85 12 10 91 (pc2 := 21) rfl dX12_givenBy_18 rfl rfl ff_12_10 wd_987 rfl ?_
    refine z_iload_n (pc2 := 22) rfl dX12_givenBy_21 rfl ?_
    refine z_if_ne (pc2 := 25) (tgt := 30) rfl dX12_givenBy_22 (by decide) (fun hc3 => ?_) (fun hc3 => ?_)
    · replace h := ab_neg hc3 h
      refine z_bipush (pc2 := 32) rfl dX12_givenBy_30 lt_b_103 ?_
      refine z_iload_n (pc2 := 33) rfl dX12_givenBy_32 rfl ?_
      refine z_iast 91 (pc2 := 34) (j := 103) rfl dX12_givenBy_33 rfl rfl (by decide) (by decide) ?_
      obtain ⟨s4, hs4, h⟩ := ab_lt_e h
      refine z_tops hs4 ?_
      refine z_aload_n (pc2 := 35) rfl dX12_givenBy_34 rfl ?_
      refine z_getR 85 12 10 91 (pc2 := 38) rfl dX12_givenBy_35 rfl rfl ff_12_10 wd_987 rfl ?_
      refine z_bipush (pc2 := 40) rfl dX12_givenBy_38 lt_b_100 ?_
      refine z_iload (pc2 := 42) rfl dX12_givenBy_40 rfl ?_
      refine z_iast 91 (pc2 := 43) (j := 100) rfl dX12_givenBy_42 rfl rfl (by decide) (by decide) ?_
      obtain ⟨s5, hs5, h⟩ := ab_lt_e h
      refine z_tops hs5 ?_
      refine z_aload_n (pc2 := 44) rfl dX12_givenBy_43 rfl ?_
      refine z_iload_n (pc2 := 45) rfl dX12_givenBy_44 rfl ?_
      obtain ⟨q6, hq6, h⟩ := ab_bnd h
      refine z_callVi 85 [.int a1] [some (.ref 85), some (.int a1)] (pc2 := 48) rfl rfl dX12_givenBy_45 ok_X12_hasText ⟨fun _ => rfl, fun _ => Nat.le_of_ble_eq_true rfl⟩ rfl rv_85 wd_1099 wd_1101 wd_27 rfl (e_X12_hasText hq6) ?_
      refine z_if_eq (pc2 := 51) (tgt := 59) rfl dX12_givenBy_48 (by decide) (fun hc7 => ?_) (fun hc7 => ?_)
      · replace h := ab_pos hc7 h
        refine z_iload_n (pc2 := 60) rfl dX12_givenBy_59 rfl ?_
        refine z_istore (pc2 := 62) (L2 := [some (.ref 85), some (.int a1), some (.int a2), some (.int a3), some (.int a4), some (.int a2)]) rfl dX12_givenBy_60 (by decide) rfl rfl ?_
        refine z_iload_n (pc2 := 63) rfl dX12_givenBy_62 rfl ?_
        refine z_if_ne (pc2 := 66) (tgt := 74) rfl dX12_givenBy_63 (by decide) (fun hc8 => ?_) (fun hc8 => ?_)
        · replace h := ab_neg hc8 h
          refine z_iload (pc2 := 76) rfl dX12_givenBy_74 rfl ?_
          refine z_iconst (pc2 := 77) rfl dX12_givenBy_76 lt_i_0 ?_
          refine z_bipush (pc2 := 79) rfl dX12_givenBy_77 lt_b_20 ?_
          obtain ⟨q9, hq9, h⟩ := ab_bnd h
          refine z_callSi [.int a2, .int (0 : Int32), .int (20 : Int32)] [some (.int a2), some (.int (0 : Int32)), some (.int (20 : Int32))] (pc2 := 82) rfl rfl dX12_givenBy_79 ok_X12_held ⟨fun _ => rfl, fun _ => Nat.le_of_ble_eq_true rfl⟩ rfl wd_1162 wd_1163 rfl (e_X12_held hq9) ?_
          exact z_iret dX12_givenBy_82 rfl rfl (fi_w h)
        · replace h := ab_pos hc8 h
          refine z_iload (pc2 := 68) rfl dX12_givenBy_66 rfl ?_
          obtain ⟨q10, hq10, h⟩ := ab_bnd h
          refine z_callSi [.int a2] [some (.int a2), none] (pc2 := 71) rfl rfl dX12_givenBy_68 ok_X12_restOf ⟨fun _ => rfl, fun _ => Nat.le_of_ble_eq_true rfl⟩ rfl wd_1159 wd_1160 rfl (e_X12_restOf hq10) ?_
          refine ab_goto (tgt := 82) dX12_givenBy_71 (by decide) ?_
          exact z_iret dX12_givenBy_82 rfl rfl (fi_w h)
      · replace h := ab_neg hc7 h
        refine z_aload_n (pc2 := 52) rfl dX12_givenBy_51 rfl ?_
        refine z_iload_n (pc2 := 53) rfl dX12_givenBy_52 rfl ?_
        obtain ⟨q11, hq11, h⟩ := ab_bnd h
        refine z_callVi 85 [.int a1] [some (.ref 85), some (.int a1), none, none, none, none, none] (pc2 := 56) rfl rfl dX12_givenBy_53 ok_X12_worked ⟨fun _ => rfl, fun _ => Nat.le_of_ble_eq_true rfl⟩ rfl rv_85 wd_1152 wd_1154 wd_36 rfl (e_X12_worked hq11) ?_
        refine ab_goto (tgt := 60) dX12_givenBy_56 (by decide) ?_
        obtain ⟨x12, hxx12, h⟩ := ab_lt_e h
        refine z_top hxx12 ?_
        refine z_istore (pc2 := 62) (L2 := [some (.ref 85), some (.int a1), some (.int a2), some (.int a3), some (.int a4), some (.int x12)]) rfl dX12_givenBy_60 (by decide) rfl rfl ?_
        refine z_iload_n (pc2 := 63) rfl dX12_givenBy_62 rfl ?_
        refine z_if_ne (pc2 := 66) (tgt := 74) rfl dX12_givenBy_63 (by decide) (fun hc13 => ?_) (fun hc13 => ?_)
        · replace h := ab_neg hc13 h
          refine z_iload (pc2 := 76) rfl dX12_givenBy_74 rfl ?_
          refine z_iconst (pc2 := 77) rfl dX12_givenBy_76 lt_i_0 ?_
          refine z_bipush (pc2 := 79) rfl dX12_givenBy_77 lt_b_20 ?_
          obtain ⟨q14, hq14, h⟩ := ab_bnd h
          refine z_callSi [.int x12, .int (0 : Int32), .int (20 : Int32)] [some (.int x12), some (.int (0 : Int32)), some (.int (20 : Int32))] (pc2 := 82) rfl rfl dX12_givenBy_79 ok_X12_held ⟨fun _ => rfl, fun _ => Nat.le_of_ble_eq_true rfl⟩ rfl wd_1162 wd_1163 rfl (e_X12_held hq14) ?_
          exact z_iret dX12_givenBy_82 rfl rfl (fi_w h)
        · replace h := ab_pos hc13 h
          refine z_iload (pc2 := 68) rfl dX12_givenBy_66 rfl ?_
          obtain ⟨q15, hq15, h⟩ := ab_bnd h
          refine z_callSi [.int x12] [some (.int x12), none] (pc2 := 71) rfl rfl dX12_givenBy_68 ok_X12_restOf ⟨fun _ => rfl, fun _ => Nat.le_of_ble_eq_true rfl⟩ rfl wd_1159 wd_1160 rfl (e_X12_restOf hq15) ?_
          refine ab_goto (tgt := 82) dX12_givenBy_71 (by decide) ?_
          exact z_iret dX12_givenBy_82 rfl rfl (fi_w h)
    · replace h := ab_pos hc3 h
      refine z_bipush (pc2 := 27) rfl dX12_givenBy_25 lt_b_107 ?_
      refine ab_goto (tgt := 32) dX12_givenBy_27 (by decide) ?_
      refine z_iload_n (pc2 := 33) rfl dX12_givenBy_32 rfl ?_
      refine z_iast 91 (pc2 := 34) (j := 107) rfl dX12_givenBy_33 rfl rfl (by decide) (by decide) ?_
      obtain ⟨s16, hs16, h⟩ := ab_lt_e h
      refine z_tops hs16 ?_
      refine z_aload_n (pc2 := 35) rfl dX12_givenBy_34 rfl ?_
      refine z_getR 85 12 10 91 (pc2 := 38) rfl dX12_givenBy_35 rfl rfl ff_12_10 wd_987 rfl ?_
      refine z_bipush (pc2 := 40) rfl dX12_givenBy_38 lt_b_100 ?_
      refine z_iload (pc2 := 42) rfl dX12_givenBy_40 rfl ?_
      refine z_iast 91 (pc2 := 43) (j := 100) rfl dX12_givenBy_42 rfl rfl (by decide) (by decide) ?_
      obtain ⟨s17, hs17, h⟩ := ab_lt_e h
      refine z_tops hs17 ?_
      refine z_aload_n (pc2 := 44) rfl dX12_givenBy_43 rfl ?_
      refine z_iload_n (pc2 := 45) rfl dX12_givenBy_44 rfl ?_
      obtain ⟨q18, hq18, h⟩ := ab_bnd h
      refine z_callVi 85 [.int a1] [some (.ref 85), some (.int a1)] (pc2 := 48) rfl rfl dX12_givenBy_45 ok_X12_hasText ⟨fun _ => rfl, fun _ => Nat.le_of_ble_eq_true rfl⟩ rfl rv_85 wd_1099 wd_1101 wd_27 rfl (e_X12_hasText hq18) ?_
      refine z_if_eq (pc2 := 51) (tgt := 59) rfl dX12_givenBy_48 (by decide) (fun hc19 => ?_) (fun hc19 => ?_)
      · replace h := ab_pos hc19 h
        refine z_iload_n (pc2 := 60) rfl dX12_givenBy_59 rfl ?_
        refine z_istore (pc2 := 62) (L2 := [some (.ref 85), some (.int a1), some (.int a2), some (.int a3), some (.int a4), some (.int a2)]) rfl dX12_givenBy_60 (by decide) rfl rfl ?_
        refine z_iload_n (pc2 := 63) rfl dX12_givenBy_62 rfl ?_
        refine z_if_ne (pc2 := 66) (tgt := 74) rfl dX12_givenBy_63 (by decide) (fun hc20 => ?_) (fun hc20 => ?_)
        · replace h := ab_neg hc20 h
          refine z_iload (pc2 := 76) rfl dX12_givenBy_74 rfl ?_
          refine z_iconst (pc2 := 77) rfl dX12_givenBy_76 lt_i_0 ?_
          refine z_bipush (pc2 := 79) rfl dX12_givenBy_77 lt_b_20 ?_
          obtain ⟨q21, hq21, h⟩ := ab_bnd h
          refine z_callSi [.int a2, .int (0 : Int32), .int (20 : Int32)] [some (.int a2), some (.int (0 : Int32)), some (.int (20 : Int32))] (pc2 := 82) rfl rfl dX12_givenBy_79 ok_X12_held ⟨fun _ => rfl, fun _ => Nat.le_of_ble_eq_true rfl⟩ rfl wd_1162 wd_1163 rfl (e_X12_held hq21) ?_
          exact z_iret dX12_givenBy_82 rfl rfl (fi_w h)
        · replace h := ab_pos hc20 h
          refine z_iload (pc2 := 68) rfl dX12_givenBy_66 rfl ?_
          obtain ⟨q22, hq22, h⟩ := ab_bnd h
          refine z_callSi [.int a2] [some (.int a2), none] (pc2 := 71) rfl rfl dX12_givenBy_68 ok_X12_restOf ⟨fun _ => rfl, fun _ => Nat.le_of_ble_eq_true rfl⟩ rfl wd_1159 wd_1160 rfl (e_X12_restOf hq22) ?_
          refine ab_goto (tgt := 82) dX12_givenBy_71 (by decide) ?_
          exact z_iret dX12_givenBy_82 rfl rfl (fi_w h)
      · replace h := ab_neg hc19 h
        refine z_aload_n (pc2 := 52) rfl dX12_givenBy_51 rfl ?_
        refine z_iload_n (pc2 := 53) rfl dX12_givenBy_52 rfl ?_
        obtain ⟨q23, hq23, h⟩ := ab_bnd h
        refine z_callVi 85 [.int a1] [some (.ref 85), some (.int a1), none, none, none, none, none] (pc2 := 56) rfl rfl dX12_givenBy_53 ok_X12_worked ⟨fun _ => rfl, fun _ => Nat.le_of_ble_eq_true rfl⟩ rfl rv_85 wd_1152 wd_1154 wd_36 rfl (e_X12_worked hq23) ?_
        refine ab_goto (tgt := 60) dX12_givenBy_56 (by decide) ?_
        obtain ⟨x24, hxx24, h⟩ := ab_lt_e h
        refine z_top hxx24 ?_
        refine z_istore (pc2 := 62) (L2 := [some (.ref 85), some (.int a1), some (.int a2), some (.int a3), some (.int a4), some (.int x24)]) rfl dX12_givenBy_60 (by decide) rfl rfl ?_
        refine z_iload_n (pc2 := 63) rfl dX12_givenBy_62 rfl ?_
        refine z_if_ne (pc2 := 66) (tgt := 74) rfl dX12_givenBy_63 (by decide) (fun hc25 => ?_) (fun hc25 => ?_)
        · replace h := ab_neg hc25 h
          refine z_iload (pc2 := 76) rfl dX12_givenBy_74 rfl ?_
          refine z_iconst (pc2 := 77) rfl dX12_givenBy_76 lt_i_0 ?_
          refine z_bipush (pc2 := 79) rfl dX12_givenBy_77 lt_b_20 ?_
          obtain ⟨q26, hq26, h⟩ := ab_bnd h
          refine z_callSi [.int x24, .int (0 : Int32), .int (20 : Int32)] [some (.int x24), some (.int (0 : Int32)), some (.int (20 : Int32))] (pc2 := 82) rfl rfl dX12_givenBy_79 ok_X12_held ⟨fun _ => rfl, fun _ => Nat.le_of_ble_eq_true rfl⟩ rfl wd_1162 wd_1163 rfl (e_X12_held hq26) ?_
          exact z_iret dX12_givenBy_82 rfl rfl (fi_w h)
        · replace h := ab_pos hc25 h
          refine z_iload (pc2 := 68) rfl dX12_givenBy_66 rfl ?_
          obtain ⟨q27, hq27, h⟩ := ab_bnd h
          refine z_callSi [.int x24] [some (.int x24), none] (pc2 := 71) rfl rfl dX12_givenBy_68 ok_X12_restOf ⟨fun _ => rfl, fun _ => Nat.le_of_ble_eq_true rfl⟩ rfl wd_1159 wd_1160 rfl (e_X12_restOf hq27) ?_
          refine ab_goto (tgt := 82) dX12_givenBy_71 (by decide) ?_
          exact z_iret dX12_givenBy_82 rfl rfl (fi_w h)
  · replace h := ab_pos hc1 h
    refine z_bipush (pc2 := 10) rfl dX12_givenBy_8 lt_b_121 ?_
    refine ab_goto (tgt := 15) dX12_givenBy_10 (by decide) ?_
    refine z_iload_n (pc2 := 16) rfl dX12_givenBy_15 rfl ?_
    refine z_iast 91 (pc2 := 17) (j := 121) rfl dX12_givenBy_16 rfl rfl (by decide) (by decide) ?_
    obtain ⟨s28, hs28, h⟩ := ab_lt_e h
    refine z_tops hs28 ?_
    refine z_aload_n (pc2 := 18) rfl dX12_givenBy_17 rfl ?_
    refine z_getR 85 12 10 91 (pc2 := 21) rfl dX12_givenBy_18 rfl rfl ff_12_10 wd_987 rfl ?_
    refine z_iload_n (pc2 := 22) rfl dX12_givenBy_21 rfl ?_
    refine z_if_ne (pc2 := 25) (tgt := 30) rfl dX12_givenBy_22 (by decide) (fun hc29 => ?_) (fun hc29 => ?_)
    · replace h := ab_neg hc29 h
      refine z_bipush (pc2 := 32) rfl dX12_givenBy_30 lt_b_103 ?_
      refine z_iload_n (pc2 := 33) rfl dX12_givenBy_32 rfl ?_
      refine z_iast 91 (pc2 := 34) (j := 103) rfl dX12_givenBy_33 rfl rfl (by decide) (by decide) ?_
      obtain ⟨s30, hs30, h⟩ := ab_lt_e h
      refine z_tops hs30 ?_
      refine z_aload_n (pc2 := 35) rfl dX12_givenBy_34 rfl ?_
      refine z_getR 85 12 10 91 (pc2 := 38) rfl dX12_givenBy_35 rfl rfl ff_12_10 wd_987 rfl ?_
      refine z_bipush (pc2 := 40) rfl dX12_givenBy_38 lt_b_100 ?_
      refine z_iload (pc2 := 42) rfl dX12_givenBy_40 rfl ?_
      refine z_iast 91 (pc2 := 43) (j := 100) rfl dX12_givenBy_42 rfl rfl (by decide) (by decide) ?_
      obtain ⟨s31, hs31, h⟩ := ab_lt_e h
      refine z_tops hs31 ?_
      refine z_aload_n (pc2 := 44) rfl dX12_givenBy_43 rfl ?_
      refine z_iload_n (pc2 := 45) rfl dX12_givenBy_44 rfl ?_
      obtain ⟨q32, hq32, h⟩ := ab_bnd h
      refine z_callVi 85 [.int a1] [some (.ref 85), some (.int a1)] (pc2 := 48) rfl rfl dX12_givenBy_45 ok_X12_hasText ⟨fun _ => rfl, fun _ => Nat.le_of_ble_eq_true rfl⟩ rfl rv_85 wd_1099 wd_1101 wd_27 rfl (e_X12_hasText hq32) ?_
      refine z_if_eq (pc2 := 51) (tgt := 59) rfl dX12_givenBy_48 (by decide) (fun hc33 => ?_) (fun hc33 => ?_)
      · replace h := ab_pos hc33 h
        refine z_iload_n (pc2 := 60) rfl dX12_givenBy_59 rfl ?_
        refine z_istore (pc2 := 62) (L2 := [some (.ref 85), some (.int a1), some (.int a2), some (.int a3), some (.int a4), some (.int a2)]) rfl dX12_givenBy_60 (by decide) rfl rfl ?_
        refine z_iload_n (pc2 := 63) rfl dX12_givenBy_62 rfl ?_
        refine z_if_ne (pc2 := 66) (tgt := 74) rfl dX12_givenBy_63 (by decide) (fun hc34 => ?_) (fun hc34 => ?_)
        · replace h := ab_neg hc34 h
          refine z_iload (pc2 := 76) rfl dX12_givenBy_74 rfl ?_
          refine z_iconst (pc2 := 77) rfl dX12_givenBy_76 lt_i_0 ?_
          refine z_bipush (pc2 := 79) rfl dX12_givenBy_77 lt_b_20 ?_
          obtain ⟨q35, hq35, h⟩ := ab_bnd h
          refine z_callSi [.int a2, .int (0 : Int32), .int (20 : Int32)] [some (.int a2), some (.int (0 : Int32)), some (.int (20 : Int32))] (pc2 := 82) rfl rfl dX12_givenBy_79 ok_X12_held ⟨fun _ => rfl, fun _ => Nat.le_of_ble_eq_true rfl⟩ rfl wd_1162 wd_1163 rfl (e_X12_held hq35) ?_
          exact z_iret dX12_givenBy_82 rfl rfl (fi_w h)
        · replace h := ab_pos hc34 h
          refine z_iload (pc2 := 68) rfl dX12_givenBy_66 rfl ?_
          obtain ⟨q36, hq36, h⟩ := ab_bnd h
          refine z_callSi [.int a2] [some (.int a2), none] (pc2 := 71) rfl rfl dX12_givenBy_68 ok_X12_restOf ⟨fun _ => rfl, fun _ => Nat.le_of_ble_eq_true rfl⟩ rfl wd_1159 wd_1160 rfl (e_X12_restOf hq36) ?_
          refine ab_goto (tgt := 82) dX12_givenBy_71 (by decide) ?_
          exact z_iret dX12_givenBy_82 rfl rfl (fi_w h)
      · replace h := ab_neg hc33 h
        refine z_aload_n (pc2 := 52) rfl dX12_givenBy_51 rfl ?_
        refine z_iload_n (pc2 := 53) rfl dX12_givenBy_52 rfl ?_
        obtain ⟨q37, hq37, h⟩ := ab_bnd h
        refine z_callVi 85 [.int a1] [some (.ref 85), some (.int a1), none, none, none, none, none] (pc2 := 56) rfl rfl dX12_givenBy_53 ok_X12_worked ⟨fun _ => rfl, fun _ => Nat.le_of_ble_eq_true rfl⟩ rfl rv_85 wd_1152 wd_1154 wd_36 rfl (e_X12_worked hq37) ?_
        refine ab_goto (tgt := 60) dX12_givenBy_56 (by decide) ?_
        obtain ⟨x38, hxx38, h⟩ := ab_lt_e h
        refine z_top hxx38 ?_
        refine z_istore (pc2 := 62) (L2 := [some (.ref 85), some (.int a1), some (.int a2), some (.int a3), some (.int a4), some (.int x38)]) rfl dX12_givenBy_60 (by decide) rfl rfl ?_
        refine z_iload_n (pc2 := 63) rfl dX12_givenBy_62 rfl ?_
        refine z_if_ne (pc2 := 66) (tgt := 74) rfl dX12_givenBy_63 (by decide) (fun hc39 => ?_) (fun hc39 => ?_)
        · replace h := ab_neg hc39 h
          refine z_iload (pc2 := 76) rfl dX12_givenBy_74 rfl ?_
          refine z_iconst (pc2 := 77) rfl dX12_givenBy_76 lt_i_0 ?_
          refine z_bipush (pc2 := 79) rfl dX12_givenBy_77 lt_b_20 ?_
          obtain ⟨q40, hq40, h⟩ := ab_bnd h
          refine z_callSi [.int x38, .int (0 : Int32), .int (20 : Int32)] [some (.int x38), some (.int (0 : Int32)), some (.int (20 : Int32))] (pc2 := 82) rfl rfl dX12_givenBy_79 ok_X12_held ⟨fun _ => rfl, fun _ => Nat.le_of_ble_eq_true rfl⟩ rfl wd_1162 wd_1163 rfl (e_X12_held hq40) ?_
          exact z_iret dX12_givenBy_82 rfl rfl (fi_w h)
        · replace h := ab_pos hc39 h
          refine z_iload (pc2 := 68) rfl dX12_givenBy_66 rfl ?_
          obtain ⟨q41, hq41, h⟩ := ab_bnd h
          refine z_callSi [.int x38] [some (.int x38), none] (pc2 := 71) rfl rfl dX12_givenBy_68 ok_X12_restOf ⟨fun _ => rfl, fun _ => Nat.le_of_ble_eq_true rfl⟩ rfl wd_1159 wd_1160 rfl (e_X12_restOf hq41) ?_
          refine ab_goto (tgt := 82) dX12_givenBy_71 (by decide) ?_
          exact z_iret dX12_givenBy_82 rfl rfl (fi_w h)
    · replace h := ab_pos hc29 h
      refine z_bipush (pc2 := 27) rfl dX12_givenBy_25 lt_b_107 ?_
      refine ab_goto (tgt := 32) dX12_givenBy_27 (by decide) ?_
      refine z_iload_n (pc2 := 33) rfl dX12_givenBy_32 rfl ?_
      refine z_iast 91 (pc2 := 34) (j := 107) rfl dX12_givenBy_33 rfl rfl (by decide) (by decide) ?_
      obtain ⟨s42, hs42, h⟩ := ab_lt_e h
      refine z_tops hs42 ?_
      refine z_aload_n (pc2 := 35) rfl dX12_givenBy_34 rfl ?_
      refine z_getR 85 12 10 91 (pc2 := 38) rfl dX12_givenBy_35 rfl rfl ff_12_10 wd_987 rfl ?_
      refine z_bipush (pc2 := 40) rfl dX12_givenBy_38 lt_b_100 ?_
      refine z_iload (pc2 := 42) rfl dX12_givenBy_40 rfl ?_
      refine z_iast 91 (pc2 := 43) (j := 100) rfl dX12_givenBy_42 rfl rfl (by decide) (by decide) ?_
      obtain ⟨s43, hs43, h⟩ := ab_lt_e h
      refine z_tops hs43 ?_
      refine z_aload_n (pc2 := 44) rfl dX12_givenBy_43 rfl ?_
      refine z_iload_n (pc2 := 45) rfl dX12_givenBy_44 rfl ?_
      obtain ⟨q44, hq44, h⟩ := ab_bnd h
      refine z_callVi 85 [.int a1] [some (.ref 85), some (.int a1)] (pc2 := 48) rfl rfl dX12_givenBy_45 ok_X12_hasText ⟨fun _ => rfl, fun _ => Nat.le_of_ble_eq_true rfl⟩ rfl rv_85 wd_1099 wd_1101 wd_27 rfl (e_X12_hasText hq44) ?_
      refine z_if_eq (pc2 := 51) (tgt := 59) rfl dX12_givenBy_48 (by decide) (fun hc45 => ?_) (fun hc45 => ?_)
      · replace h := ab_pos hc45 h
        refine z_iload_n (pc2 := 60) rfl dX12_givenBy_59 rfl ?_
        refine z_istore (pc2 := 62) (L2 := [some (.ref 85), some (.int a1), some (.int a2), some (.int a3), some (.int a4), some (.int a2)]) rfl dX12_givenBy_60 (by decide) rfl rfl ?_
        refine z_iload_n (pc2 := 63) rfl dX12_givenBy_62 rfl ?_
        refine z_if_ne (pc2 := 66) (tgt := 74) rfl dX12_givenBy_63 (by decide) (fun hc46 => ?_) (fun hc46 => ?_)
        · replace h := ab_neg hc46 h
          refine z_iload (pc2 := 76) rfl dX12_givenBy_74 rfl ?_
          refine z_iconst (pc2 := 77) rfl dX12_givenBy_76 lt_i_0 ?_
          refine z_bipush (pc2 := 79) rfl dX12_givenBy_77 lt_b_20 ?_
          obtain ⟨q47, hq47, h⟩ := ab_bnd h
          refine z_callSi [.int a2, .int (0 : Int32), .int (20 : Int32)] [some (.int a2), some (.int (0 : Int32)), some (.int (20 : Int32))] (pc2 := 82) rfl rfl dX12_givenBy_79 ok_X12_held ⟨fun _ => rfl, fun _ => Nat.le_of_ble_eq_true rfl⟩ rfl wd_1162 wd_1163 rfl (e_X12_held hq47) ?_
          exact z_iret dX12_givenBy_82 rfl rfl (fi_w h)
        · replace h := ab_pos hc46 h
          refine z_iload (pc2 := 68) rfl dX12_givenBy_66 rfl ?_
          obtain ⟨q48, hq48, h⟩ := ab_bnd h
          refine z_callSi [.int a2] [some (.int a2), none] (pc2 := 71) rfl rfl dX12_givenBy_68 ok_X12_restOf ⟨fun _ => rfl, fun _ => Nat.le_of_ble_eq_true rfl⟩ rfl wd_1159 wd_1160 rfl (e_X12_restOf hq48) ?_
          refine ab_goto (tgt := 82) dX12_givenBy_71 (by decide) ?_
          exact z_iret dX12_givenBy_82 rfl rfl (fi_w h)
      · replace h := ab_neg hc45 h
        refine z_aload_n (pc2 := 52) rfl dX12_givenBy_51 rfl ?_
        refine z_iload_n (pc2 := 53) rfl dX12_givenBy_52 rfl ?_
        obtain ⟨q49, hq49, h⟩ := ab_bnd h
        refine z_callVi 85 [.int a1] [some (.ref 85), some (.int a1), none, none, none, none, none] (pc2 := 56) rfl rfl dX12_givenBy_53 ok_X12_worked ⟨fun _ => rfl, fun _ => Nat.le_of_ble_eq_true rfl⟩ rfl rv_85 wd_1152 wd_1154 wd_36 rfl (e_X12_worked hq49) ?_
        refine ab_goto (tgt := 60) dX12_givenBy_56 (by decide) ?_
        obtain ⟨x50, hxx50, h⟩ := ab_lt_e h
        refine z_top hxx50 ?_
        refine z_istore (pc2 := 62) (L2 := [some (.ref 85), some (.int a1), some (.int a2), some (.int a3), some (.int a4), some (.int x50)]) rfl dX12_givenBy_60 (by decide) rfl rfl ?_
        refine z_iload_n (pc2 := 63) rfl dX12_givenBy_62 rfl ?_
        refine z_if_ne (pc2 := 66) (tgt := 74) rfl dX12_givenBy_63 (by decide) (fun hc51 => ?_) (fun hc51 => ?_)
        · replace h := ab_neg hc51 h
          refine z_iload (pc2 := 76) rfl dX12_givenBy_74 rfl ?_
          refine z_iconst (pc2 := 77) rfl dX12_givenBy_76 lt_i_0 ?_
          refine z_bipush (pc2 := 79) rfl dX12_givenBy_77 lt_b_20 ?_
          obtain ⟨q52, hq52, h⟩ := ab_bnd h
          refine z_callSi [.int x50, .int (0 : Int32), .int (20 : Int32)] [some (.int x50), some (.int (0 : Int32)), some (.int (20 : Int32))] (pc2 := 82) rfl rfl dX12_givenBy_79 ok_X12_held ⟨fun _ => rfl, fun _ => Nat.le_of_ble_eq_true rfl⟩ rfl wd_1162 wd_1163 rfl (e_X12_held hq52) ?_
          exact z_iret dX12_givenBy_82 rfl rfl (fi_w h)
        · replace h := ab_pos hc51 h
          refine z_iload (pc2 := 68) rfl dX12_givenBy_66 rfl ?_
          obtain ⟨q53, hq53, h⟩ := ab_bnd h
          refine z_callSi [.int x50] [some (.int x50), none] (pc2 := 71) rfl rfl dX12_givenBy_68 ok_X12_restOf ⟨fun _ => rfl, fun _ => Nat.le_of_ble_eq_true rfl⟩ rfl wd_1159 wd_1160 rfl (e_X12_restOf hq53) ?_
          refine ab_goto (tgt := 82) dX12_givenBy_71 (by decide) ?_
          exact z_iret dX12_givenBy_82 rfl rfl (fi_w h)
def f_X12_doesNow (a1 : Int32) (σ : ab_F) : Option (Int32 × ab_F) := (f_X12_actsOf a1 σ).bind (fun q1 => (f_X12_its a1 (4 : Int32) σ).bind (fun q2 => (f_X12_ones q2 σ).bind (fun q3 => (f_X12_givenBy (0 : Int32) q1 q3 ((σ 86 0) - (σ 86 0) / (8 : Int32) * (8 : Int32)) σ).bind (fun q4 => (some (q4.1, q4.2))))))
