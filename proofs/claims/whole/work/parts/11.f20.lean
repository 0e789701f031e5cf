def g_X12_sum_L9 (rc : Nat → ab_F → Option (Bool × ab_F)) (K : ab_F → Option (Bool × ab_F)) : Nat → ab_F → Option (Bool × ab_F)
  | 0, _ => none
  | n + 1, σ => (f_X12_look σ).bind (fun q3 => (if q3 = (43 : Int32) then (f_X12_look σ).bind (fun q5 => ab_lt (ab_u σ 85 5 ((σ 85 5) + (1 : Int32))) (fun (s6 : ab_F) => (rc 4 s6).bind (fun q7 => (if (ab_b q7.1) = 0 then (some (false, q7.2)) else (f_X12_step1 (3 : Int32) q5 q7.2).bind (fun q9 => (g_X12_sum_L9 rc K n q9)))))) else (f_X12_look σ).bind (fun q10 => (if q10 = (45 : Int32) then (f_X12_look σ).bind (fun q12 => ab_lt (ab_u σ 85 5 ((σ 85 5) + (1 : Int32))) (fun (s13 : ab_F) => (rc 4 s13).bind (fun q14 => (if (ab_b q14.1) = 0 then (some (false, q14.2)) else (f_X12_step1 (3 : Int32) q12 q14.2).bind (fun q16 => (g_X12_sum_L9 rc K n q16)))))) else (K σ)))))
set_option maxRecDepth 100000 in
set_option maxHeartbeats 4000000 in
theorem eg_X12_sum_L9 {sc : Nat × (Nat → Int32)} {r : Option Nat × Option Nat} {n0 : Nat} {rc : Nat → ab_F → Option (Bool × ab_F)} (ih_X12_whole : ∀ (σ : ab_F) (res : (Bool × ab_F)), rc 0 σ = some res → ab_E mX12_whole (n0 + 8) sc 0 [some (.ref 85)] [] (σ, r) (fun v S => v = some (.int (ab_b res.1)) ∧ S = (res.2, r))) (ih_X12_both : ∀ (σ : ab_F) (res : (Bool × ab_F)), rc 1 σ = some res → ab_E mX12_both (n0 + 8) sc 0 [some (.ref 85)] [] (σ, r) (fun v S => v = some (.int (ab_b res.1)) ∧ S = (res.2, r))) (ih_X12_compared : ∀ (σ : ab_F) (res : (Bool × ab_F)), rc 2 σ = some res → ab_E mX12_compared (n0 + 8) sc 0 [some (.ref 85), none] [] (σ, r) (fun v S => v = some (.int (ab_b res.1)) ∧ S = (res.2, r))) (ih_X12_sum : ∀ (σ : ab_F) (res : (Bool × ab_F)), rc 3 σ = some res → ab_E mX12_sum (n0 + 8) sc 0 [some (.ref 85), none] [] (σ, r) (fun v S => v = some (.int (ab_b res.1)) ∧ S = (res.2, r))) (ih_X12_product : ∀ (σ : ab_F) (res : (Bool × ab_F)), rc 4 σ = some res → ab_E mX12_product (n0 + 8) sc 0 [some (.ref 85), none] [] (σ, r) (fun v S => v = some (.int (ab_b res.1)) ∧ S = (res.2, r))) (ih_X12_one : ∀ (σ : ab_F) (res : (Bool × ab_F)), rc 5 σ = some res → ab_E mX12_one (n0 + 8) sc 0 [some (.ref 85), none, none, none] [] (σ, r) (fun v S => v = some (.int (ab_b res.1)) ∧ S = (res.2, r))) {K : ab_F → Option (Bool × ab_F)} {res : (Bool × ab_F)} (hK : ∀ (σ : ab_F), K σ = some res → ab_E mX12_sum (n0 + 9) sc 60 [none, none] [] (σ, r) (fun v S => v = some (.int (ab_b res.1)) ∧ S = (res.2, r))) : ∀ (n : Nat) (σ : ab_F), g_X12_sum_L9 rc K n σ = some res → ab_E mX12_sum (n0 + 9) sc 9 [some (.ref 85), none] [] (σ, r) (fun v S => v = some (.int (ab_b res.1)) ∧ S = (res.2, r)) := by
  intro n
  induction n with
  | zero =>
    intro σ h
    rw [g_X12_sum_L9] at h
    cases h
  | succ n ih =>
    intro σ h
    rw [g_X12_sum_L9] at h
    refine z_aload_n (pc2 := 10) rfl dX12_sum_9 rfl ?_
    obtain ⟨q3, hq3, h⟩ := ab_bnd h
    refine z_callVi 85 [] [some (.ref 85)] (pc2 := 13) rfl rfl dX12_sum_10 ok_X12_look ⟨fun _ => rfl, fun _ => Nat.le_of_ble_eq_true rfl⟩ (Nat.ble_eq_true_of_le (by omega)) rv_85 wd_1079 wd_1081 wd_23 rfl (e_X12_look hq3) ?_
    refine z_bipush (pc2 := 15) rfl dX12_sum_13 lt_b_43 ?_
    refine z_icmp_eq (pc2 := 18) (tgt := 27) rfl dX12_sum_15 (by decide) (fun hc4 => ?_) (fun hc4 => ?_)
    · replace h := ab_pos hc4 h
      refine z_aload_n (pc2 := 28) rfl dX12_sum_27 rfl ?_
      obtain ⟨q5, hq5, h⟩ := ab_bnd h
      refine z_callVi 85 [] [some (.ref 85)] (pc2 := 31) rfl rfl dX12_sum_28 ok_X12_look ⟨fun _ => rfl, fun _ => Nat.le_of_ble_eq_true rfl⟩ (Nat.ble_eq_true_of_le (by omega)) rv_85 wd_1079 wd_1081 wd_23 rfl (e_X12_look hq5) ?_
      refine z_istore_n (pc2 := 32) (L2 := [some (.ref 85), some (.int q5)]) rfl dX12_sum_31 (by decide) rfl rfl ?_
      refine z_aload_n (pc2 := 33) rfl dX12_sum_32 rfl ?_
      refine z_dup (pc2 := 34) rfl dX12_sum_33 rfl ?_
      refine z_getI 85 12 5 (pc2 := 37) rfl dX12_sum_34 rfl rfl ff_12_5 wd_982 ?_
      refine z_iconst (pc2 := 38) rfl dX12_sum_37 lt_i_1 ?_
      refine z_iadd (pc2 := 39) rfl dX12_sum_38 ?_
      refine z_putI 85 12 5 (pc2 := 42) (ft := .int) rfl dX12_sum_39 rfl rfl ff_12_5 wd_982 rfl (by decide +kernel) rfl rfl ?_
      obtain ⟨s6, hs6, h⟩ := ab_lt_e h
      refine z_tops hs6 ?_
      refine z_aload_n (pc2 := 43) rfl dX12_sum_42 rfl ?_
      obtain ⟨q7, hq7, h⟩ := ab_bnd h
      refine z_callVi 85 [] [some (.ref 85), none] (pc2 := 46) rfl rfl dX12_sum_43 ok_X12_product ⟨fun _ => rfl, fun _ => Nat.le_of_ble_eq_true rfl⟩ (Nat.ble_eq_true_of_le (by omega)) rv_85 wd_1071 wd_1073 wd_21 rfl (ih_X12_product _ _ hq7) ?_
      refine z_if_ne (pc2 := 49) (tgt := 51) rfl dX12_sum_46 (by decide) (fun hc8 => ?_) (fun hc8 => ?_)
      · replace h := ab_neg hc8 h
        refine z_aload_n (pc2 := 52) rfl dX12_sum_51 rfl ?_
        refine z_iconst (pc2 := 53) rfl dX12_sum_52 lt_i_3 ?_
        refine z_iload_n (pc2 := 54) rfl dX12_sum_53 rfl ?_
        obtain ⟨q9, hq9, h⟩ := ab_bnd h
        refine z_callVv 85 [.int (3 : Int32), .int q5] [some (.ref 85), some (.int (3 : Int32)), some (.int q5)] (pc2 := 57) rfl rfl dX12_sum_54 ok_X12_step1 ⟨fun _ => rfl, fun _ => Nat.le_of_ble_eq_true rfl⟩ (Nat.ble_eq_true_of_le (by omega)) rv_85 wd_1087 wd_1089 wd_25 rfl (e_X12_step1 hq9) ?_
        refine ab_goto (tgt := 9) dX12_sum_57 (by decide) ?_
        refine z_fgt [true, false] (L2 := [some (.ref 85), none]) rfl ?_
        exact ih  _ h
      · replace h := ab_pos hc8 h
        refine z_iconst (pc2 := 50) rfl dX12_sum_49 lt_i_0 ?_
        exact z_iret dX12_sum_50 rfl rfl (fz_w rfl h)
    · replace h := ab_neg hc4 h
      refine z_aload_n (pc2 := 19) rfl dX12_sum_18 rfl ?_
      obtain ⟨q10, hq10, h⟩ := ab_bnd h
      refine z_callVi 85 [] [some (.ref 85)] (pc2 := 22) rfl rfl dX12_sum_19 ok_X12_look ⟨fun _ => rfl, fun _ => Nat.le_of_ble_eq_true rfl⟩ (Nat.ble_eq_true_of_le (by omega)) rv_85 wd_1079 wd_1081 wd_23 rfl (e_X12_look hq10) ?_
      refine z_bipush (pc2 := 24) rfl dX12_sum_22 lt_b_45 ?_
      refine z_icmp_ne (pc2 := 27) (tgt := 60) rfl dX12_sum_24 (by decide) (fun hc11 => ?_) (fun hc11 => ?_)
      · replace h := ab_neg hc11 h
        refine z_fgt [false, false] (L2 := [none, none]) rfl ?_
        exact hK  _ h
      · replace h := ab_pos hc11 h
        refine z_aload_n (pc2 := 28) rfl dX12_sum_27 rfl ?_
        obtain ⟨q12, hq12, h⟩ := ab_bnd h
        refine z_callVi 85 [] [some (.ref 85)] (pc2 := 31) rfl rfl dX12_sum_28 ok_X12_look ⟨fun _ => rfl, fun _ => Nat.le_of_ble_eq_true rfl⟩ (Nat.ble_eq_true_of_le (by omega)) rv_85 wd_1079 wd_1081 wd_23 rfl (e_X12_look hq12) ?_
        refine z_istore_n (pc2 := 32) (L2 := [some (.ref 85), some (.int q12)]) rfl dX12_sum_31 (by decide) rfl rfl ?_
        refine z_aload_n (pc2 := 33) rfl dX12_sum_32 rfl ?_
        refine z_dup (pc2 := 34) rfl dX12_sum_33 rfl ?_
        refine z_getI 85 12 5 (pc2 := 37) rfl dX12_sum_34 rfl rfl ff_12_5 wd_982 ?_
        refine z_iconst (pc2 := 38) rfl dX12_sum_37 lt_i_1 ?_
        refine z_iadd (pc2 := 39) rfl dX12_sum_38 ?_
        refine z_putI 85 12 5 (pc2 := 42) (ft := .int) rfl dX12_sum_39 rfl rfl ff_12_5 wd_982 rfl (by decide +kernel) rfl rfl ?_
        obtain ⟨s13, hs13, h⟩ := ab_lt_e h
        refine z_tops hs13 ?_
        refine z_aload_n (pc2 := 43) rfl dX12_sum_42 rfl ?_
        obtain ⟨q14, hq14, h⟩ := ab_bnd h
        refine z_callVi 85 [] [some (.ref 85), none] (pc2 := 46) rfl rfl dX12_sum_43 ok_X12_product ⟨fun _ => rfl, fun _ => Nat.le_of_ble_eq_true rfl⟩ (Nat.ble_eq_true_of_le (by omega)) rv_85 wd_1071 wd_1073 wd_21 rfl (ih_X12_product _ _ hq14) ?_
        refine z_if_ne (pc2 := 49) (tgt := 51) rfl dX12_sum_46 (by decide) (fun hc15 => ?_) (fun hc15 => ?_)
        · replace h := ab_neg hc15 h
          refine z_aload_n (pc2 := 52) rfl dX12_sum_51 rfl ?_
          refine z_iconst (pc2 := 53) rfl dX12_sum_52 lt_i_3 ?_
          refine z_iload_n (pc2 := 54) rfl dX12_sum_53 rfl ?_
          obtain ⟨q16, hq16, h⟩ := ab_bnd h
          refine z_callVv 85 [.int (3 : Int32), .int q12] [some (.ref 85), some (.int (3 : Int32)), some (.int q12)] (pc2 := 57) rfl rfl dX12_sum_54 ok_X12_step1 ⟨fun _ => rfl, fun _ => Nat.le_of_ble_eq_true rfl⟩ (Nat.ble_eq_true_of_le (by omega)) rv_85 wd_1087 wd_1089 wd_25 rfl (e_X12_step1 hq16) ?_
          refine ab_goto (tgt := 9) dX12_sum_57 (by decide) ?_
          refine z_fgt [true, false] (L2 := [some (.ref 85), none]) rfl ?_
          exact ih  _ h
        · replace h := ab_pos hc15 h
          refine z_iconst (pc2 := 50) rfl dX12_sum_49 lt_i_0 ?_
          exact z_iret dX12_sum_50 rfl rfl (fz_w rfl h)
def g_X12_sum (rc : Nat → ab_F → Option (Bool × ab_F)) (σ : ab_F) : Option (Bool × ab_F) := (rc 4 σ).bind (fun q1 => (if (ab_b q1.1) = 0 then (some (false, q1.2)) else (g_X12_sum_L9 rc (fun (s17 : ab_F) => (some (true, s17))) ab_fu q1.2)))
set_option maxRecDepth 100000 in
set_option maxHeartbeats 4000000 in
theorem eg_X12_sum {sc : Nat × (Nat → Int32)} {r : Option Nat × Option Nat} {n0 : Nat} {rc : Nat → ab_F → Option (Bool × ab_F)} (ih_X12_whole : ∀ (σ : ab_F) (res : (Bool × ab_F)), rc 0 σ = some res → ab_E mX12_whole (n0 + 8) sc 0 [some (.ref 85)] [] (σ, r) (fun v S => v = some (.int (ab_b res.1)) ∧ S = (res.2, r))) (ih_X12_both : ∀ (σ : ab_F) (res : (Bool × ab_F)), rc 1 σ = some res → ab_E mX12_both (n0 + 8) sc 0 [some (.ref 85)] [] (σ, r) (fun v S => v = some (.int (ab_b res.1)) ∧ S = (res.2, r))) (ih_X12_compared : ∀ (σ : ab_F) (res : (Bool × ab_F)), rc 2 σ = some res → ab_E mX12_compared (n0 + 8) sc 0 [some (.ref 85), none] [] (σ, r) (fun v S => v = some (.int (ab_b res.1)) ∧ S = (res.2, r))) (ih_X12_sum : ∀ (σ : ab_F) (res : (Bool × ab_F)), rc 3 σ = some res → ab_E mX12_sum (n0 + 8) sc 0 [some (.ref 85), none] [] (σ, r) (fun v S => v = some (.int (ab_b res.1)) ∧ S = (res.2, r))) (ih_X12_product : ∀ (σ : ab_F) (res : (Bool × ab_F)), rc 4 σ = some res → ab_E mX12_product (n0 + 8) sc 0 [some (.ref 85), none] [] (σ, r) (fun v S => v = some (.int (ab_b res.1)) ∧ S = (res.2, r))) (ih_X12_one : ∀ (σ : ab_F) (res : (Bool × ab_F)), rc 5 σ = some res → ab_E mX12_one (n0 + 8) sc 0 [some (.ref 85), none, none, none] [] (σ, r) (fun v S => v = some (.int (ab_b res.1)) ∧ S = (res.2, r))) {σ : ab_F} {res : (Bool × ab_F)} (h : g_X12_sum rc σ = some res) : ab_E mX12_sum (n0 + 9) sc 0 [some (.ref 85), none] [] (σ, r) (fun v S => v = some (.int (ab_b res.1)) ∧ S = (res.2, r)) := by
  unfold g_X12_sum at h
  refine z_aload_n (pc2 := 1) rfl dX12_sum_0 rfl ?_
  obtain ⟨q1, hq1, h⟩ := ab_bnd h
  refine z_callVi 85 [] [some (.ref 85), none] (pc2 := 4) rfl rfl dX12_sum_1 ok_X12_product ⟨fun _ => rfl, fun _ => Nat.le_of_ble_eq_true rfl⟩ (Nat.ble_eq_true_of_le (by omega)) rv_85 wd_1071 wd_1073 wd_21 rfl (ih_X12_product _ _ hq1) ?_
  refine z_if_ne (pc2 := 7) (tgt := 9) rfl dX12_sum_4 (by decide) (fun hc2 => ?_) (fun hc2 => ?_)
  · replace h := ab_neg hc2 h
    refine z_fgt [true, false] (L2 := [some (.ref 85), none]) rfl ?_
    refine eg_X12_sum_L9 ih_X12_whole ih_X12_both ih_X12_compared ih_X12_sum ih_X12_product ih_X12_one (fun s17 h => ?_) _ _ h
    refine z_iconst (pc2 := 61) rfl dX12_sum_60 lt_i_1 ?_
    exact z_iret dX12_sum_61 rfl rfl (fz_w rfl h)
  · replace h := ab_pos hc2 h
    refine z_iconst (pc2 := 8) rfl dX12_sum_7 lt_i_0 ?_
    exact z_iret dX12_sum_8 rfl rfl (fz_w rfl h)
def g_X12_product_L9 (rc : Nat → ab_F → Option (Bool × ab_F)) (K : ab_F → Option (Bool × ab_F)) : Nat → ab_F → Option (Bool × ab_F)
  | 0, _ => none
  | n + 1, σ => (f_X12_look σ).bind (fun q3 => (if q3 = (42 : Int32) then (f_X12_look σ).bind (fun q5 => ab_lt (ab_u σ 85 5 ((σ 85 5) + (1 : Int32))) (fun (s6 : ab_F) => (rc 5 s6).bind (fun q7 => (if (ab_b q7.1) = 0 then (some (false, q7.2)) else (f_X12_step1 (3 : Int32) q5 q7.2).bind (fun q9 => (g_X12_product_L9 rc K n q9)))))) else (f_X12_look σ).bind (fun q10 => (if q10 = (47 : Int32) then (f_X12_look σ).bind (fun q12 => ab_lt (ab_u σ 85 5 ((σ 85 5) + (1 : Int32))) (fun (s13 : ab_F) => (rc 5 s13).bind (fun q14 => (if (ab_b q14.1) = 0 then (some (false, q14.2)) else (f_X12_step1 (3 : Int32) q12 q14.2).bind (fun q16 => (g_X12_product_L9 rc K n q16)))))) else (f_X12_look σ).bind (fun q17 => (if q17 = (37 : Int32) then (f_X12_look σ).bind (fun q19 => ab_lt (ab_u σ 85 5 ((σ 85 5) + (1 : Int32))) (fun (s20 : ab_F) => (rc 5 s20).bind (fun q21 => (if (ab_b q21.1) = 0 then (some (false, q21.2)) else (f_X12_step1 (3 : Int32) q19 q21.2).bind (fun q23 => (g_X12_product_L9 rc K n q23)))))) else (K σ)))))))
set_option maxRecDepth 100000 in
set_option maxHeartbeats 4000000 in
theorem eg_X12_product_L9 {sc : Nat × (Nat → Int32)} {r : Option Nat × Option Nat} {n0 : Nat} {rc : Nat → ab_F → Option (Bool × ab_F)} (ih_X12_whole : ∀ (σ : ab_F) (res : (Bool × ab_F)), rc 0 σ = some res → ab_E mX12_whole (n0 + 8) sc 0 [some (.ref 85)] [] (σ, r) (fun v S => v = some (.int (ab_b res.1)) ∧ S = (res.2, r))) (ih_X12_both : ∀ (σ : ab_F) (res : (Bool × ab_F)), rc 1 σ = some res → ab_E mX12_both (n0 + 8) sc 0 [some (.ref 85)] [] (σ, r) (fun v S => v = some (.int (ab_b res.1)) ∧ S = (res.2, r))) (ih_X12_compared : ∀ (σ : ab_F) (res : (Bool × ab_F)), rc 2 σ = some res → ab_E mX12_compared (n0 + 8) sc 0 [some (.ref 85), none] [] (σ, r) (fun v S => v = some (.int (ab_b res.1)) ∧ S = (res.2, r))) (ih_X12_sum : ∀ (σ : ab_F) (res : (Bool × ab_F)), rc 3 σ = some res → ab_E mX12_sum (n0 + 8) sc 0 [some (.ref 85), none] [] (σ, r) (fun v S => v = some (.int (ab_b res.1)) ∧ S = (res.2, r))) (ih_X12_product : ∀ (σ : ab_F) (res : (Bool × ab_F)), rc 4 σ = some res → ab_E mX12_product (n0 + 8) sc 0 [some (.ref 85), none] [] (σ, r) (fun v S => v = some (.int (ab_b res.1)) ∧ S = (res.2, r))) (ih_X12_one : ∀ (σ : ab_F) (res : (Bool × ab_F)), rc 5 σ = some res → ab_E mX12_one (n0 + 8) sc 0 [some (.ref 85), none, none, none] [] (σ, r) (fun v S => v = some (.int (ab_b res.1)) ∧ S = (res.2, r))) {K : ab_F → Option (Bool × ab_F)} {res : (Bool × ab_F)} (hK : ∀ (σ : ab_F), K σ = some res → ab_E mX12_product (n0 + 9) sc 69 [none, none] [] (σ, r) (fun v S => v = some (.int (ab_b res.1)) ∧ S = (res.2, r))) : ∀ (n : Nat) (σ : ab_F), g_X12_product_L9 rc K n σ = some res → ab_E mX12_product (n0 + 9) sc 9 [some (.ref 85), none] [] (σ, r) (fun v S => v = some (.int (ab_b res.1)) ∧ S = (res.2, r)) := by
  intro n
  induction n with
  | zero =>
    intro σ h
    rw [g_X12_product_L9] at h
    cases h
  | succ n ih =>
    intro σ h
    rw [g_X12_product_L9] at h
    refine z_aload_n (pc2 := 10) rfl dX12_product_9 rfl ?_
    obtain ⟨q3, hq3, h⟩ := ab_bnd h
    refine z_callVi 85 [] [some (.ref 85)] (pc2 := 13) rfl rfl dX12_product_10 ok_X12_look ⟨fun _ => rfl, fun _ => Nat.le_of_ble_eq_true rfl⟩ (Nat.ble_eq_true_of_le (by omega)) rv_85 wd_1079 wd_1081 wd_23 rfl (e_X12_look hq3) ?_
    refine z_bipush (pc2 := 15) rfl dX12_product_13 lt_b_42 ?_
    refine z_icmp_eq (pc2 := 18) (tgt := 36) rfl dX12_product_15 (by decide) (fun hc4 => ?_) (fun hc4 => ?_)
    · replace h := ab_pos hc4 h
      refine z_aload_n (pc2 := 37) rfl dX12_product_36 rfl ?_
      obtain ⟨q5, hq5, h⟩ := ab_bnd h
      refine z_callVi 85 [] [some (.ref 85)] (pc2 := 40) rfl rfl dX12_product_37 ok_X12_look ⟨fun _ => rfl, fun _ => Nat.le_of_ble_eq_true rfl⟩ (Nat.ble_eq_true_of_le (by omega)) rv_85 wd_1079 wd_1081 wd_23 rfl (e_X12_look hq5) ?_
      refine z_istore_n (pc2 := 41) (L2 := [some (.ref 85), some (.int q5)]) rfl dX12_product_40 (by decide) rfl rfl ?_
      refine z_aload_n (pc2 := 42) rfl dX12_product_41 rfl ?_
      refine z_dup (pc2 := 43) rfl dX12_product_42 rfl ?_
      refine z_getI 85 12 5 (pc2 := 46) rfl dX12_product_43 rfl rfl ff_12_5 wd_982 ?_
      refine z_iconst (pc2 := 47) rfl dX12_product_46 lt_i_1 ?_
      refine z_iadd (pc2 := 48) rfl dX12_product_47 ?_
      refine z_putI 85 12 5 (pc2 := 51) (ft := .int) rfl dX12_product_48 rfl rfl ff_12_5 wd_982 rfl (by decide +kernel) rfl rfl ?_
      obtain ⟨s6, hs6, h⟩ := ab_lt_e h
      refine z_tops hs6 ?_
      refine z_aload_n (pc2 := 52) rfl dX12_product_51 rfl ?_
      obtain ⟨q7, hq7, h⟩ := ab_bnd h
      refine z_callVi 85 [] [some (.ref 85), none, none, none] (pc2 := 55) rfl rfl dX12_product_52 ok_X12_one ⟨fun _ => rfl, fun _ => Nat.le_of_ble_eq_true rfl⟩ (Nat.ble_eq_true_of_le (by omega)) rv_85 wd_1075 wd_1077 wd_22 rfl (ih_X12_one _ _ hq7) ?_
      refine z_if_ne (pc2 := 58) (tgt := 60) rfl dX12_product_55 (by decide) (fun hc8 => ?_) (fun hc8 => ?_)
      · replace h := ab_neg hc8 h
        refine z_aload_n (pc2 := 61) rfl dX12_product_60 rfl ?_
        refine z_iconst (pc2 := 62) rfl dX12_product_61 lt_i_3 ?_
        refine z_iload_n (pc2 := 63) rfl dX12_product_62 rfl ?_
        obtain ⟨q9, hq9, h⟩ := ab_bnd h
        refine z_callVv 85 [.int (3 : Int32), .int q5] [some (.ref 85), some (.int (3 : Int32)), some (.int q5)] (pc2 := 66) rfl rfl dX12_product_63 ok_X12_step1 ⟨fun _ => rfl, fun _ => Nat.le_of_ble_eq_true rfl⟩ (Nat.ble_eq_true_of_le (by omega)) rv_85 wd_1087 wd_1089 wd_25 rfl (e_X12_step1 hq9) ?_
        refine ab_goto (tgt := 9) dX12_product_66 (by decide) ?_
        refine z_fgt [true, false] (L2 := [some (.ref 85), none]) rfl ?_
        exact ih  _ h
      · replace h := ab_pos hc8 h
        refine z_iconst (pc2 := 59) rfl dX12_product_58 lt_i_0 ?_
        exact z_iret dX12_product_59 rfl rfl (fz_w rfl h)
    · replace h := ab_neg hc4 h
      refine z_aload_n (pc2 := 19) rfl dX12_product_18 rfl ?_
      obtain ⟨q10, hq10, h⟩ := ab_bnd h
      refine z_callVi 85 [] [some (.ref 85)] (pc2 := 22) rfl rfl dX12_product_19 ok_X12_look ⟨fun _ => rfl, fun _ => Nat.le_of_ble_eq_true rfl⟩ (Nat.ble_eq_true_of_le (by omega)) rv_85 wd_1079 wd_1081 wd_23 rfl (e_X12_look hq10) ?_
      refine z_bipush (pc2 := 24) rfl dX12_product_22 lt_b_47 ?_
      refine z_icmp_eq (pc2 := 27) (tgt := 36) rfl dX12_product_24 (by decide) (fun hc11 => ?_) (fun hc11 => ?_)
      · replace h := ab_pos hc11 h
        refine z_aload_n (pc2 := 37) rfl dX12_product_36 rfl ?_
        obtain ⟨q12, hq12, h⟩ := ab_bnd h
        refine z_callVi 85 [] [some (.ref 85)] (pc2 := 40) rfl rfl dX12_product_37 ok_X12_look ⟨fun _ => rfl, fun _ => Nat.le_of_ble_eq_true rfl⟩ (Nat.ble_eq_true_of_le (by omega)) rv_85 wd_1079 wd_1081 wd_23 rfl (e_X12_look hq12) ?_
        refine z_istore_n (pc2 := 41) (L2 := [some (.ref 85), some (.int q12)]) rfl dX12_product_40 (by decide) rfl rfl ?_
        refine z_aload_n (pc2 := 42) rfl dX12_product_41 rfl ?_
        refine z_dup (pc2 := 43) rfl dX12_product_42 rfl ?_
        refine z_getI 85 12 5 (pc2 := 46) rfl dX12_product_43 rfl rfl ff_12_5 wd_982 ?_
        refine z_iconst (pc2 := 47) rfl dX12_product_46 lt_i_1 ?_
        refine z_iadd (pc2 := 48) rfl dX12_product_47 ?_
        refine z_putI 85 12 5 (pc2 := 51) (ft := .int) rfl dX12_product_48 rfl rfl ff_12_5 wd_982 rfl (by decide +kernel) rfl rfl ?_
        obtain ⟨s13, hs13, h⟩ := ab_lt_e h
        refine z_tops hs13 ?_
        refine z_aload_n (pc2 := 52) rfl dX12_product_51 rfl ?_
        obtain ⟨q14, hq14, h⟩ := ab_bnd h
        refine z_callVi 85 [] [some (.ref 85), none, none, none] (pc2 := 55) rfl rfl dX12_product_52 ok_X12_one ⟨fun _ => rfl, fun _ => Nat.le_of_ble_eq_true rfl⟩ (Nat.ble_eq_true_of_le (by omega)) rv_85 wd_1075 wd_1077 wd_22 rfl (ih_X12_one _ _ hq14) ?_
        refine z_if_ne (pc2 := 58) (tgt := 60) rfl dX12_product_55 (by decide) (fun hc15 => ?_) (fun hc15 => ?_)
        · replace h := ab_neg hc15 h
          refine z_aload_n (pc2 := 61) rfl dX12_product_60 rfl ?_
          refine z_iconst (pc2 := 62) rfl dX12_product_61 lt_i_3 ?_
          refine z_iload_n (pc2 := 63) rfl dX12_product_62 rfl ?_
          obtain ⟨q16, hq16, h⟩ := ab_bnd h
          refine z_callVv 85 [.int (3 : Int32), .int q12] [some (.ref 85), some (.int (3 : Int32)), some (.int q12)] (pc2 := 66) rfl rfl dX12_product_63 ok_X12_step1 ⟨fun _ => rfl, fun _ => Nat.le_of_ble_eq_true rfl⟩ (Nat.ble_eq_true_of_le (by omega)) rv_85 wd_1087 wd_1089 wd_25 rfl (e_X12_step1 hq16) ?_
          refine ab_goto (tgt := 9) dX12_product_66 (by decide) ?_
          refine z_fgt [true, false] (L2 := [some (.ref 85), none]) rfl ?_
          exact ih  _ h
        · replace h := ab_pos hc15 h
          refine z_iconst (pc2 := 59) rfl dX12_product_58 lt_i_0 ?_
          exact z_iret dX12_product_59 rfl rfl (fz_w rfl h)
      · replace h := ab_neg hc11 h
        refine z_aload_n (pc2 := 28) rfl dX12_product_27 rfl ?_
        obtain ⟨q17, hq17, h⟩ := ab_bnd h
        refine z_callVi 85 [] [some (.ref 85)] (pc2 := 31) rfl rfl dX12_product_28 ok_X12_look ⟨fun _ => rfl, fun _ => Nat.le_of_ble_eq_true rfl⟩ (Nat.ble_eq_true_of_le (by omega)) rv_85 wd_1079 wd_1081 wd_23 rfl (e_X12_look hq17) ?_
        refine z_bipush (pc2 := 33) rfl dX12_product_31 lt_b_37 ?_
        refine z_icmp_ne (pc2 := 36) (tgt := 69) rfl dX12_product_33 (by decide) (fun hc18 => ?_) (fun hc18 => ?_)
        · replace h := ab_neg hc18 h
          refine z_fgt [false, false] (L2 := [none, none]) rfl ?_
          exact hK  _ h
        · replace h := ab_pos hc18 h
          refine z_aload_n (pc2 := 37) rfl dX12_product_36 rfl ?_
          obtain ⟨q19, hq19, h⟩ := ab_bnd h
          refine z_callVi 85 [] [some (.ref 85)] (pc2 := 40) rfl rfl dX12_product_37 ok_X12_look ⟨fun _ => rfl, fun _ => Nat.le_of_ble_eq_true rfl⟩ (Nat.ble_eq_true_of_le (by omega)) rv_85 wd_1079 wd_1081 wd_23 rfl (e_X12_look hq19) ?_
          refine z_istore_n (pc2 := 41) (L2 := [some (.ref 85), some (.int q19)]) rfl dX12_product_40 (by decide) rfl rfl ?_
          refine z_aload_n (pc2 := 42) rfl dX12_product_41 rfl ?_
          refine z_dup (pc2 := 43) rfl dX12_product_42 rfl ?_
          refine z_getI 85 12 5 (pc2 := 46) rfl dX12_product_43 rfl rfl ff_12_5 wd_982 ?_
          refine z_iconst (pc2 := 47) rfl dX12_product_46 lt_i_1 ?_
          refine z_iadd (pc2 := 48) rfl dX12_product_47 ?_
          refine z_putI 85 12 5 (pc2 := 51) (ft := .int) rfl dX12_product_48 rfl rfl ff_12_5 wd_982 rfl (by decide +kernel) rfl rfl ?_
          obtain ⟨s20, hs20, h⟩ := ab_lt_e h
          refine z_tops hs20 ?_
          refine z_aload_n (pc2 := 52) rfl dX12_product_51 rfl ?_
          obtain ⟨q21, hq21, h⟩ := ab_bnd h
          refine z_callVi 85 [] [some (.ref 85), none, none, none] (pc2 := 55) rfl rfl dX12_product_52 ok_X12_one ⟨fun _ => rfl, fun _ => Nat.le_of_ble_eq_true rfl⟩ (Nat.ble_eq_true_of_le (by omega)) rv_85 wd_1075 wd_1077 wd_22 rfl (ih_X12_one _ _ hq21) ?_
          refine z_if_ne (pc2 := 58) (tgt := 60) rfl dX12_product_55 (by decide) (fun hc22 => ?_) (fun hc22 => ?_)
          · replace h := ab_neg hc22 h
            refine z_aload_n (pc2 := 61) rfl dX12_product_60 rfl ?_
            refine z_iconst (pc2 := 62) rfl dX12_product_61 lt_i_3 ?_
            refine z_iload_n (pc2 := 63) rfl dX12_product_62 rfl ?_
            obtain ⟨q23, hq23, h⟩ := ab_bnd h
            refine z_callVv 85 [.int (3 : Int32), .int q19] [some (.ref 85), some (.int (3 : Int32)), some (.int q19)] (pc2 := 66) rfl rfl dX12_product_63 ok_X12_step1 ⟨fun _ => rfl, fun _ => Nat.le_of_ble_eq_true rfl⟩ (Nat.ble_eq_true_of_le (by omega)) rv_85 wd_1087 wd_1089 wd_25 rfl (e_X12_step1 hq23) ?_
            refine ab_goto (tgt := 9) dX12_product_66 (by decide) ?_
            refine z_fgt [true, false] (L2 := [some (.ref 85), none]) rfl ?_
            exact ih  _ h
          · replace h := ab_pos hc22 h
            refine z_iconst (pc2 := 59) rfl dX12_product_58 lt_i_0 ?_
            exact z_iret dX12_product_59 rfl rfl (fz_w rfl h)
def g_X12_product (rc : Nat → ab_F → Option (Bool × ab_F)) (σ : ab_F) : Option (Bool × ab_F) := (rc 5 σ).bind (fun q1 => (if (ab_b q1.1) = 0 then (some (false, q1.2)) else (g_X12_product_L9 rc (fun (s24 : ab_F) => (some (true, s24))) ab_fu q1.2)))
set_option maxRecDepth 100000 in
set_option maxHeartbeats 4000000 in
theorem eg_X12_product {sc : Nat × (Nat → Int32)} {r : Option Nat × Option Nat} {n0 : Nat} {rc : Nat → ab_F → Option (Bool × ab_F)} (ih_X12_whole : ∀ (σ : ab_F) (res : (Bool × ab_F)), rc 0 σ = some res → ab_E mX12_whole (n0 + 8) sc 0 [some (.ref 85)] [] (σ, r) (fun v S => v = some (.int (ab_b res.1)) ∧ S = (res.2, r))) (ih_X12_both : ∀ (σ : ab_F) (res : (Bool × ab_F)), rc 1 σ = some res → ab_E mX12_both (n0 + 8) sc 0 [some (.ref 85)] [] (σ, r) (fun v S => v = some (.int (ab_b res.1)) ∧ S = (res.2, r))) (ih_X12_compared : ∀ (σ : ab_F) (res : (Bool × ab_F)), rc 2 σ = some res → ab_E mX12_compared (n0 + 8) sc 0 [some (.ref 85), none] [] (σ, r) (fun v S => v = some (.int (ab_b res.1)) ∧ S = (res.2, r))) (ih_X12_sum : ∀ (σ : ab_F) (res : (Bool × ab_F)), rc 3 σ = some res → ab_E mX12_sum (n0 + 8) sc 0 [some (.ref 85), none] [] (σ, r) (fun v S => v = some (.int (ab_b res.1)) ∧ S = (res.2, r))) (ih_X12_product : ∀ (σ : ab_F) (res : (Bool × ab_F)), rc 4 σ = some res → ab_E mX12_product (n0 + 8) sc 0 [some (.ref 85), none] [] (σ, r) (fun v S => v = some (.int (ab_b res.1)) ∧ S = (res.2, r))) (ih_X12_one : ∀ (σ : ab_F) (res : (Bool × ab_F)), rc 5 σ = some res → ab_E mX12_one (n0 + 8) sc 0 [some (.ref 85), none, none, none] [] (σ, r) (fun v S => v = some (.int (ab_b res.1)) ∧ S = (res.2, r))) {σ : ab_F} {res : (Bool × ab_F)} (h : g_X12_product rc σ = some res) : ab_E mX12_product (n0 + 9) sc 0 [some (.ref 85), none] [] (σ, r) (fun v S => v = some (.int (ab_b res.1)) ∧ S = (res.2, r)) := by
  unfold g_X12_product at h
  refine z_aload_n (pc2 := 1) rfl dX12_product_0 rfl ?_
  obtain ⟨q1, hq1, h⟩ := ab_bnd h
  refine z_callVi 85 [] [some (.ref 85), none, none, none] (pc2 := 4) rfl rfl dX12_product_1 ok_X12_one ⟨fun _ => rfl, fun _ => Nat.le_of_ble_eq_true rfl⟩ (Nat.ble_eq_true_of_le (by omega)) rv_85 wd_1075 wd_1077 wd_22 rfl (ih_X12_one _ _ hq1) ?_
  refine z_if_ne (pc2 := 7) (tgt := 9) rfl dX12_product_4 (by decide) (fun hc2 => ?_) (fun hc2 => ?_)
  · replace h := ab_neg hc2 h
    refine z_fgt [true, false] (L2 := [some (.ref 85), none]) rfl ?_
    refine eg_X12_product_L9 ih_X12_whole ih_X12_both ih_X12_compared ih_X12_sum ih_X12_product ih_X12_one (fun s24 h => ?_) _ _ h
    refine z_iconst (pc2 := 70) rfl dX12_product_69 lt_i_1 ?_
    exact z_iret dX12_product_70 rfl rfl (fz_w rfl h)
  · replace h := ab_pos hc2 h
    refine z_iconst (pc2 := 8) rfl dX12_product_7 lt_i_0 ?_
    exact z_iret dX12_product_8 rfl rfl (fz_w rfl h)
def g_X12_one_L46 (rc : Nat → ab_F → Option (Bool × ab_F)) (K : Int32 → ab_F → Option (Bool × ab_F)) : Nat → Int32 → Int32 → ab_F → Option (Bool × ab_F)
  | 0, _, _, _ => none
  | n + 1, u2, u3, σ => (if (4 : Int32) ≤ u3 then (K u2 σ) else (f_X12_look σ).bind (fun q23 => (f_X12_in q23 (48 : Int32) (57 : Int32) σ).bind (fun q24 => (if (ab_b q24) = 0 then (K u2 σ) else (f_X12_look σ).bind (fun q26 => ab_lt (((((10 : Int32) * u2) + q26) - (48 : Int32))) (fun x27 => ab_lt (ab_u σ 85 5 ((σ 85 5) + (1 : Int32))) (fun (s28 : ab_F) => ab_lt (u3 + (1 : Int32)) (fun x29 => (g_X12_one_L46 rc K n x27 x29 s28)))))))))
set_option maxRecDepth 100000 in
set_option maxHeartbeats 4000000 in
theorem eg_X12_one_L46 {sc : Nat × (Nat → Int32)} {r : Option Nat × Option Nat} {n0 : Nat} {rc : Nat → ab_F → Option (Bool × ab_F)} (ih_X12_whole : ∀ (σ : ab_F) (res : (Bool × ab_F)), rc 0 σ = some res → ab_E mX12_whole (n0 + 8) sc 0 [some (.ref 85)] [] (σ, r) (fun v S => v = some (.int (ab_b res.1)) ∧ S = (res.2, r))) (ih_X12_both : ∀ (σ : ab_F) (res : (Bool × ab_F)), rc 1 σ = some res → ab_E mX12_both (n0 + 8) sc 0 [some (.ref 85)] [] (σ, r) (fun v S => v = some (.int (ab_b res.1)) ∧ S = (res.2, r))) (ih_X12_compared : ∀ (σ : ab_F) (res : (Bool × ab_F)), rc 2 σ = some res → ab_E mX12_compared (n0 + 8) sc 0 [some (.ref 85), none] [] (σ, r) (fun v S => v = some (.int (ab_b res.1)) ∧ S = (res.2, r))) (ih_X12_sum : ∀ (σ : ab_F) (res : (Bool × ab_F)), rc 3 σ = some res → ab_E mX12_sum (n0 + 8) sc 0 [some (.ref 85), none] [] (σ, r) (fun v S => v = some (.int (ab_b res.1)) ∧ S = (res.2, r))) (ih_X12_product : ∀ (σ : ab_F) (res : (Bool × ab_F)), rc 4 σ = some res → ab_E mX12_product (n0 + 8) sc 0 [some (.ref 85), none] [] (σ, r) (fun v S => v = some (.int (ab_b res.1)) ∧ S = (res.2, r))) (ih_X12_one : ∀ (σ : ab_F) (res : (Bool × ab_F)), rc 5 σ = some res → ab_E mX12_one (n0 + 8) sc 0 [some (.ref 85), none, none, none] [] (σ, r) (fun v S => v = some (.int (ab_b res.1)) ∧ S = (res.2, r))) {K : Int32 → ab_F → Option (Bool × ab_F)} {res : (Bool × ab_F)} (hK : ∀ (u2 : Int32) (σ : ab_F), K u2 σ = some res → ab_E mX12_one (n0 + 9) sc 94 [some (.ref 85), none, some (.int u2), none] [] (σ, r) (fun v S => v = some (.int (ab_b res.1)) ∧ S = (res.2, r))) : ∀ (n : Nat) (u2 : Int32) (u3 : Int32) (σ : ab_F), g_X12_one_L46 rc K n u2 u3 σ = some res → ab_E mX12_one (n0 + 9) sc 46 [some (.ref 85), none, some (.int u2), some (.int u3)] [] (σ, r) (fun v S => v = some (.int (ab_b res.1)) ∧ S = (res.2, r)) := by
  intro n
  induction n with
  | zero =>
    intro u2 u3 σ h
    rw [g_X12_one_L46] at h
    cases h
  | succ n ih =>
    intro u2 u3 σ h
    rw [g_X12_one_L46] at h
    refine z_iload_n (pc2 := 47) rfl dX12_one_46 rfl ?_
    refine z_iconst (pc2 := 48) rfl dX12_one_47 lt_i_4 ?_
    refine z_icmp_ge (pc2 := 51) (tgt := 94) rfl dX12_one_48 (by decide) (fun hc22 => ?_) (fun hc22 => ?_)
    · replace h := ab_pos hc22 h
      refine z_fgt [true, false, true, false] (L2 := [some (.ref 85), none, some (.int u2), none]) rfl ?_
      exact hK _ _ h
    · replace h := ab_neg hc22 h
      refine z_aload_n (pc2 := 52) rfl dX12_one_51 rfl ?_
      obtain ⟨q23, hq23, h⟩ := ab_bnd h
      refine z_callVi 85 [] [some (.ref 85)] (pc2 := 55) rfl rfl dX12_one_52 ok_X12_look ⟨fun _ => rfl, fun _ => Nat.le_of_ble_eq_true rfl⟩ (Nat.ble_eq_true_of_le (by omega)) rv_85 wd_1079 wd_1081 wd_23 rfl (e_X12_look hq23) ?_
      refine z_bipush (pc2 := 57) rfl dX12_one_55 lt_b_48 ?_
      refine z_bipush (pc2 := 59) rfl dX12_one_57 lt_b_57 ?_
      obtain ⟨q24, hq24, h⟩ := ab_bnd h
      refine z_callSi [.int q23, .int (48 : Int32), .int (57 : Int32)] [some (.int q23), some (.int (48 : Int32)), some (.int (57 : Int32))] (pc2 := 62) rfl rfl dX12_one_59 ok_X12_in ⟨fun _ => rfl, fun _ => Nat.le_of_ble_eq_true rfl⟩ (Nat.ble_eq_true_of_le (by omega)) wd_1042 wd_1043 rfl (e_X12_in hq24) ?_
      refine z_if_eq (pc2 := 65) (tgt := 94) rfl dX12_one_62 (by decide) (fun hc25 => ?_) (fun hc25 => ?_)
      · replace h := ab_pos hc25 h
        refine z_fgt [true, false, true, false] (L2 := [some (.ref 85), none, some (.int u2), none]) rfl ?_
        exact hK _ _ h
      · replace h := ab_neg hc25 h
        refine z_bipush (pc2 := 67) rfl dX12_one_65 lt_b_10 ?_
        refine z_iload_n (pc2 := 68) rfl dX12_one_67 rfl ?_
        refine z_imul (pc2 := 69) rfl dX12_one_68 ?_
        refine z_aload_n (pc2 := 70) rfl dX12_one_69 rfl ?_
        obtain ⟨q26, hq26, h⟩ := ab_bnd h
        refine z_callVi 85 [] [some (.ref 85)] (pc2 := 73) rfl rfl dX12_one_70 ok_X12_look ⟨fun _ => rfl, fun _ => Nat.le_of_ble_eq_true rfl⟩ (Nat.ble_eq_true_of_le (by omega)) rv_85 wd_1079 wd_1081 wd_23 rfl (e_X12_look hq26) ?_
        refine z_iadd (pc2 := 74) rfl dX12_one_73 ?_
        refine z_bipush (pc2 := 76) rfl dX12_one_74 lt_b_48 ?_
        refine z_isub (pc2 := 77) rfl dX12_one_76 ?_
        obtain ⟨x27, hxx27, h⟩ := ab_lt_e h
        refine z_top hxx27 ?_
        refine z_istore_n (pc2 := 78) (L2 := [some (.ref 85), none, some (.int x27), some (.int u3)]) rfl dX12_one_77 (by decide) rfl rfl ?_
        refine z_aload_n (pc2 := 79) rfl dX12_one_78 rfl ?_
        refine z_dup (pc2 := 80) rfl dX12_one_79 rfl ?_
        refine z_getI 85 12 5 (pc2 := 83) rfl dX12_one_80 rfl rfl ff_12_5 wd_982 ?_
        refine z_iconst (pc2 := 84) rfl dX12_one_83 lt_i_1 ?_
        refine z_iadd (pc2 := 85) rfl dX12_one_84 ?_
        refine z_putI 85 12 5 (pc2 := 88) (ft := .int) rfl dX12_one_85 rfl rfl ff_12_5 wd_982 rfl (by decide +kernel) rfl rfl ?_
        obtain ⟨s28, hs28, h⟩ := ab_lt_e h
        refine z_tops hs28 ?_
        obtain ⟨x29, hxx29, h⟩ := ab_lt_e h
        refine z_iinc (pc2 := 91) (v := x29) (L2 := [some (.ref 85), none, some (.int x27), some (.int x29)]) rfl dX12_one_88 rfl (by rw [hxx29]; rfl) (by decide) rfl rfl ?_
        refine ab_goto (tgt := 46) dX12_one_91 (by decide) ?_
        refine z_fgt [true, false, true, true] (L2 := [some (.ref 85), none, some (.int x27), some (.int x29)]) rfl ?_
        exact ih _ _ _ h
def g_X12_one (rc : Nat → ab_F → Option (Bool × ab_F)) (σ : ab_F) : Option (Bool × ab_F) := (f_X12_look σ).bind (fun q1 => (f_X12_isName q1 σ).bind (fun q2 => (if (ab_b q2) = 0 then (f_X12_in q1 (48 : Int32) (57 : Int32) σ).bind (fun q4 => (if (ab_b q4) = 0 then (if q1 = (33 : Int32) then (f_X12_opens σ).bind (fun q16 => (if (ab_b q16.1) = 0 then (some (false, q16.2)) else (rc 5 q16.2).bind (fun q18 => (if (ab_b q18.1) = 0 then (some (false, q18.2)) else ab_lt (ab_u q18.2 85 6 ((q18.2 85 6) - (1 : Int32))) (fun (s20 : ab_F) => (f_X12_step1 (2 : Int32) (0 : Int32) s20).bind (fun q21 => (some (true, q21)))))))) else (if q1 = (40 : Int32) then (f_X12_opens σ).bind (fun q8 => (if (ab_b q8.1) = 0 then (some (false, q8.2)) else (rc 0 q8.2).bind (fun q10 => (if (ab_b q10.1) = 0 then (some (false, q10.2)) else (f_X12_look q10.2).bind (fun q12 => (if q12 = (41 : Int32) then ab_lt (ab_u q10.2 85 5 ((q10.2 85 5) + (1 : Int32))) (fun (s14 : ab_F) => ab_lt (ab_u s14 85 6 ((s14 85 6) - (1 : Int32))) (fun (s15 : ab_F) => (some (true, s15)))) else (some (false, q10.2)))))))) else (some (false, σ)))) else (g_X12_one_L46 rc (fun (k30 : Int32) (s31 : ab_F) => (f_X12_step1 (0 : Int32) k30 s31).bind (fun q32 => (some (true, q32)))) ab_fu (0 : Int32) (0 : Int32) σ))) else ab_lt (ab_u σ 85 5 ((σ 85 5) + (1 : Int32))) (fun (s33 : ab_F) => (f_X12_step1 (1 : Int32) q1 s33).bind (fun q34 => (some (true, q34)))))))
set_option maxRecDepth 100000 in
set_option maxHeartbeats 4000000 in
theorem eg_X12_one {sc : Nat × (Nat → Int32)} {r : Option Nat × Option Nat} {n0 : Nat} {rc : Nat → ab_F → Option (Bool × ab_F)} (ih_X12_whole : ∀ (σ : ab_F) (res : (Bool × ab_F)), rc 0 σ = some res → ab_E mX12_whole (n0 + 8) sc 0 [some (.ref 85)] [] (σ, r) (fun v S => v = some (.int (ab_b res.1)) ∧ S = (res.2, r))) (ih_X12_both : ∀ (σ : ab_F) (res : (Bool × ab_F)), rc 1 σ = some res → ab_E mX12_both (n0 + 8) sc 0 [some (.ref 85)] [] (σ, r) (fun v S => v = some (.int (ab_b res.1)) ∧ S = (res.2, r))) (ih_X12_compared : ∀ (σ : ab_F) (res : (Bool × ab_F)), rc 2 σ = some res → ab_E mX12_compared (n0 + 8) sc 0 [some (.ref 85), none] [] (σ, r) (fun v S => v = some (.int (ab_b res.1)) ∧ S = (res.2, r))) (ih_X12_sum : ∀ (σ : ab_F) (res : (Bool × ab_F)), rc 3 σ = some res → ab_E mX12_sum (n0 + 8) sc 0 [some (.ref 85), none] [] (σ, r) (fun v S => v = some (.int (ab_b res.1)) ∧ S = (res.2, r))) (ih_X12_product : ∀ (σ : ab_F) (res : (Bool × ab_F)), rc 4 σ = some res → ab_E mX12_product (n0 + 8) sc 0 [some (.ref 85), none] [] (σ, r) (fun v S => v = some (.int (ab_b res.1)) ∧ S = (res.2, r))) (ih_X12_one : ∀ (σ : ab_F) (res : (Bool × ab_F)), rc 5 σ = some res → ab_E mX12_one (n0 + 8) sc 0 [some (.ref 85), none, none, none] [] (σ, r) (fun v S => v = some (.int (ab_b res.1)) ∧ S = (res.2, r))) {σ : ab_F} {res : (Bool × ab_F)} (h : g_X12_one rc σ = some res) : ab_E mX12_one (n0 + 9) sc 0 [some (.ref 85), none, none, none] [] (σ, r) (fun v S => v = some (.int (ab_b res.1)) ∧ S = (res.2, r)) := by
  unfold g_X12_one at h
  refine z_aload_n (pc2 := 1) rfl dX12_one_0 rfl ?_
  obtain ⟨q1, hq1, h⟩ := ab_bnd h
  refine z_callVi 85 [] [some (.ref 85)] (pc2 := 4) rfl rfl dX12_one_1 ok_X12_look ⟨fun _ => rfl, fun _ => Nat.le_of_ble_eq_true rfl⟩ (Nat.ble_eq_true_of_le (by omega)) rv_85 wd_1079 wd_1081 wd_23 rfl (e_X12_look hq1) ?_
  refine z_istore_n (pc2 := 5) (L2 := [some (.ref 85), some (.int q1), none, none]) rfl dX12_one_4 (by decide) rfl rfl ?_
  refine z_aload_n (pc2 := 6) rfl dX12_one_5 rfl ?_
  refine z_iload_n (pc2 := 7) rfl dX12_one_6 rfl ?_
  obtain ⟨q2, hq2, h⟩ := ab_bnd h
  refine z_callVi 85 [.int q1] [some (.ref 85), some (.int q1), none] (pc2 := 10) rfl rfl dX12_one_7 ok_X12_isName ⟨fun _ => rfl, fun _ => Nat.le_of_ble_eq_true rfl⟩ (Nat.ble_eq_true_of_le (by omega)) rv_85 wd_1083 wd_1085 wd_24 rfl (e_X12_isName hq2) ?_
  refine z_if_eq (pc2 := 13) (tgt := 31) rfl dX12_one_10 (by decide) (fun hc3 => ?_) (fun hc3 => ?_)
  · replace h := ab_pos hc3 h
    refine z_iload_n (pc2 := 32) rfl dX12_one_31 rfl ?_
    refine z_bipush (pc2 := 34) rfl dX12_one_32 lt_b_48 ?_
    refine z_bipush (pc2 := 36) rfl dX12_one_34 lt_b_57 ?_
    obtain ⟨q4, hq4, h⟩ := ab_bnd h
    refine z_callSi [.int q1, .int (48 : Int32), .int (57 : Int32)] [some (.int q1), some (.int (48 : Int32)), some (.int (57 : Int32))] (pc2 := 39) rfl rfl dX12_one_36 ok_X12_in ⟨fun _ => rfl, fun _ => Nat.le_of_ble_eq_true rfl⟩ (Nat.ble_eq_true_of_le (by omega)) wd_1042 wd_1043 rfl (e_X12_in hq4) ?_
    refine z_if_eq (pc2 := 42) (tgt := 102) rfl dX12_one_39 (by decide) (fun hc5 => ?_) (fun hc5 => ?_)
    · replace h := ab_pos hc5 h
      refine z_iload_n (pc2 := 103) rfl dX12_one_102 rfl ?_
      refine z_bipush (pc2 := 105) rfl dX12_one_103 lt_b_33 ?_
      refine z_icmp_ne (pc2 := 108) (tgt := 142) rfl dX12_one_105 (by decide) (fun hc6 => ?_) (fun hc6 => ?_)
      · replace h := ab_neg hc6 h
        refine z_iload_n (pc2 := 143) rfl dX12_one_142 rfl ?_
        refine z_bipush (pc2 := 145) rfl dX12_one_143 lt_b_40 ?_
        refine z_icmp_ne (pc2 := 148) (tgt := 171) rfl dX12_one_145 (by decide) (fun hc7 => ?_) (fun hc7 => ?_)
        · replace h := ab_neg hc7 h
          refine z_iconst (pc2 := 172) rfl dX12_one_171 lt_i_0 ?_
          exact z_iret dX12_one_172 rfl rfl (fz_w rfl h)
        · replace h := ab_pos hc7 h
          refine z_aload_n (pc2 := 149) rfl dX12_one_148 rfl ?_
          obtain ⟨q8, hq8, h⟩ := ab_bnd h
          refine z_callVi 85 [] [some (.ref 85)] (pc2 := 152) rfl rfl dX12_one_149 ok_X12_opens ⟨fun _ => rfl, fun _ => Nat.le_of_ble_eq_true rfl⟩ (Nat.ble_eq_true_of_le (by omega)) rv_85 wd_1091 wd_1093 wd_26 rfl (e_X12_opens hq8) ?_
          refine z_if_eq (pc2 := 155) (tgt := 171) rfl dX12_one_152 (by decide) (fun hc9 => ?_) (fun hc9 => ?_)
          · replace h := ab_pos hc9 h
            refine z_iconst (pc2 := 172) rfl dX12_one_171 lt_i_0 ?_
            exact z_iret dX12_one_172 rfl rfl (fz_w rfl h)
          · replace h := ab_neg hc9 h
            refine z_aload_n (pc2 := 156) rfl dX12_one_155 rfl ?_
            obtain ⟨q10, hq10, h⟩ := ab_bnd h
            refine z_callVi 85 [] [some (.ref 85)] (pc2 := 159) rfl rfl dX12_one_156 ok_X12_whole ⟨fun _ => rfl, fun _ => Nat.le_of_ble_eq_true rfl⟩ (Nat.ble_eq_true_of_le (by omega)) rv_85 wd_1055 wd_1057 wd_17 rfl (ih_X12_whole _ _ hq10) ?_
            refine z_if_eq (pc2 := 162) (tgt := 171) rfl dX12_one_159 (by decide) (fun hc11 => ?_) (fun hc11 => ?_)
            · replace h := ab_pos hc11 h
              refine z_iconst (pc2 := 172) rfl dX12_one_171 lt_i_0 ?_
              exact z_iret dX12_one_172 rfl rfl (fz_w rfl h)
            · replace h := ab_neg hc11 h
              refine z_aload_n (pc2 := 163) rfl dX12_one_162 rfl ?_
              obtain ⟨q12, hq12, h⟩ := ab_bnd h
              refine z_callVi 85 [] [some (.ref 85)] (pc2 := 166) rfl rfl dX12_one_163 ok_X12_look ⟨fun _ => rfl, fun _ => Nat.le_of_ble_eq_true rfl⟩ (Nat.ble_eq_true_of_le (by omega)) rv_85 wd_1079 wd_1081 wd_23 rfl (e_X12_look hq12) ?_
              refine z_bipush (pc2 := 168) rfl dX12_one_166 lt_b_41 ?_
              refine z_icmp_eq (pc2 := 171) (tgt := 173) rfl dX12_one_168 (by decide) (fun hc13 => ?_) (fun hc13 => ?_)
              · replace h := ab_pos hc13 h
                refine z_aload_n (pc2 := 174) rfl dX12_one_173 rfl ?_
                refine z_dup (pc2 := 175) rfl dX12_one_174 rfl ?_
                refine z_getI 85 12 5 (pc2 := 178) rfl dX12_one_175 rfl rfl ff_12_5 wd_982 ?_
                refine z_iconst (pc2 := 179) rfl dX12_one_178 lt_i_1 ?_
                refine z_iadd (pc2 := 180) rfl dX12_one_179 ?_
                refine z_putI 85 12 5 (pc2 := 183) (ft := .int) rfl dX12_one_180 rfl rfl ff_12_5 wd_982 rfl (by decide +kernel) rfl rfl ?_
                obtain ⟨s14, hs14, h⟩ := ab_lt_e h
                refine z_tops hs14 ?_
                refine z_aload_n (pc2 := 184) rfl dX12_one_183 rfl ?_
                refine z_dup (pc2 := 185) rfl dX12_one_184 rfl ?_
                refine z_getI 85 12 6 (pc2 := 188) rfl dX12_one_185 rfl rfl ff_12_6 wd_983 ?_
                refine z_iconst (pc2 := 189) rfl dX12_one_188 lt_i_1 ?_
                refine z_isub (pc2 := 190) rfl dX12_one_189 ?_
                refine z_putI 85 12 6 (pc2 := 193) (ft := .int) rfl dX12_one_190 rfl rfl ff_12_6 wd_983 rfl (by decide +kernel) rfl rfl ?_
                obtain ⟨s15, hs15, h⟩ := ab_lt_e h
                refine z_tops hs15 ?_
                refine z_iconst (pc2 := 194) rfl dX12_one_193 lt_i_1 ?_
                exact z_iret dX12_one_194 rfl rfl (fz_w rfl h)
              · replace h := ab_neg hc13 h
                refine z_iconst (pc2 := 172) rfl dX12_one_171 lt_i_0 ?_
                exact z_iret dX12_one_172 rfl rfl (fz_w rfl h)
      · replace h := ab_pos hc6 h
        refine z_aload_n (pc2 := 109) rfl dX12_one_108 rfl ?_
        obtain ⟨q16, hq16, h⟩ := ab_bnd h
        refine z_callVi 85 [] [some (.ref 85)] (pc2 := 112) rfl rfl dX12_one_109 ok_X12_opens ⟨fun _ => rfl, fun _ => Nat.le_of_ble_eq_true rfl⟩ (Nat.ble_eq_true_of_le (by omega)) rv_85 wd_1091 wd_1093 wd_26 rfl (e_X12_opens hq16) ?_
        refine z_if_eq (pc2 := 115) (tgt := 122) rfl dX12_one_112 (by decide) (fun hc17 => ?_) (fun hc17 => ?_)
        · replace h := ab_pos hc17 h
          refine z_iconst (pc2 := 123) rfl dX12_one_122 lt_i_0 ?_
          exact z_iret dX12_one_123 rfl rfl (fz_w rfl h)
        · replace h := ab_neg hc17 h
          refine z_aload_n (pc2 := 116) rfl dX12_one_115 rfl ?_
          obtain ⟨q18, hq18, h⟩ := ab_bnd h
          refine z_callVi 85 [] [some (.ref 85), none, none, none] (pc2 := 119) rfl rfl dX12_one_116 ok_X12_one ⟨fun _ => rfl, fun _ => Nat.le_of_ble_eq_true rfl⟩ (Nat.ble_eq_true_of_le (by omega)) rv_85 wd_1075 wd_1077 wd_22 rfl (ih_X12_one _ _ hq18) ?_
          refine z_if_ne (pc2 := 122) (tgt := 124) rfl dX12_one_119 (by decide) (fun hc19 => ?_) (fun hc19 => ?_)
          · replace h := ab_neg hc19 h
            refine z_aload_n (pc2 := 125) rfl dX12_one_124 rfl ?_
            refine z_dup (pc2 := 126) rfl dX12_one_125 rfl ?_
            refine z_getI 85 12 6 (pc2 := 129) rfl dX12_one_126 rfl rfl ff_12_6 wd_983 ?_
            refine z_iconst (pc2 := 130) rfl dX12_one_129 lt_i_1 ?_
            refine z_isub (pc2 := 131) rfl dX12_one_130 ?_
            refine z_putI 85 12 6 (pc2 := 134) (ft := .int) rfl dX12_one_131 rfl rfl ff_12_6 wd_983 rfl (by decide +kernel) rfl rfl ?_
            obtain ⟨s20, hs20, h⟩ := ab_lt_e h
            refine z_tops hs20 ?_
            refine z_aload_n (pc2 := 135) rfl dX12_one_134 rfl ?_
            refine z_iconst (pc2 := 136) rfl dX12_one_135 lt_i_2 ?_
            refine z_iconst (pc2 := 137) rfl dX12_one_136 lt_i_0 ?_
            obtain ⟨q21, hq21, h⟩ := ab_bnd h
            refine z_callVv 85 [.int (2 : Int32), .int (0 : Int32)] [some (.ref 85), some (.int (2 : Int32)), some (.int (0 : Int32))] (pc2 := 140) rfl rfl dX12_one_137 ok_X12_step1 ⟨fun _ => rfl, fun _ => Nat.le_of_ble_eq_true rfl⟩ (Nat.ble_eq_true_of_le (by omega)) rv_85 wd_1087 wd_1089 wd_25 rfl (e_X12_step1 hq21) ?_
            refine z_iconst (pc2 := 141) rfl dX12_one_140 lt_i_1 ?_
            exact z_iret dX12_one_141 rfl rfl (fz_w rfl h)
          · replace h := ab_pos hc19 h
            refine z_iconst (pc2 := 123) rfl dX12_one_122 lt_i_0 ?_
            exact z_iret dX12_one_123 rfl rfl (fz_w rfl h)
    · replace h := ab_neg hc5 h
      refine z_iconst (pc2 := 43) rfl dX12_one_42 lt_i_0 ?_
      refine z_istore_n (pc2 := 44) (L2 := [some (.ref 85), some (.int q1), some (.int (0 : Int32)), none]) rfl dX12_one_43 (by decide) rfl rfl ?_
      refine z_iconst (pc2 := 45) rfl dX12_one_44 lt_i_0 ?_
      refine z_istore_n (pc2 := 46) (L2 := [some (.ref 85), some (.int q1), some (.int (0 : Int32)), some (.int (0 : Int32))]) rfl dX12_one_45 (by decide) rfl rfl ?_
      refine z_fgt [true, false, true, true] (L2 := [some (.ref 85), none, some (.int (0 : Int32)), some (.int (0 : Int32))]) rfl ?_
      refine eg_X12_one_L46 ih_X12_whole ih_X12_both ih_X12_compared ih_X12_sum ih_X12_product ih_X12_one (fun k30 s31 h => ?_) _ _ _ _ h
      refine z_aload_n (pc2 := 95) rfl dX12_one_94 rfl ?_
      refine z_iconst (pc2 := 96) rfl dX12_one_95 lt_i_0 ?_
      refine z_iload_n (pc2 := 97) rfl dX12_one_96 rfl ?_
      obtain ⟨q32, hq32, h⟩ := ab_bnd h
      refine z_callVv 85 [.int (0 : Int32), .int k30] [some (.ref 85), some (.int (0 : Int32)), some (.int k30)] (pc2 := 100) rfl rfl dX12_one_97 ok_X12_step1 ⟨fun _ => rfl, fun _ => Nat.le_of_ble_eq_true rfl⟩ (Nat.ble_eq_true_of_le (by omega)) rv_85 wd_1087 wd_1089 wd_25 rfl (e_X12_step1 hq32) ?_
      refine z_iconst (pc2 := 101) rfl dX12_one_100 lt_i_1 ?_
      exact z_iret dX12_one_101 rfl rfl (fz_w rfl h)
  · replace h := ab_neg hc3 h
    refine z_aload_n (pc2 := 14) rfl dX12_one_13 rfl ?_
    refine z_dup (pc2 := 15) rfl dX12_one_14 rfl ?_
    refine z_getI 85 12 5 (pc2 := 18) rfl dX12_one_15 rfl rfl ff_12_5 wd_982 ?_
    refine z_iconst (pc2 := 19) rfl dX12_one_18 lt_i_1 ?_
    refine z_iadd (pc2 := 20) rfl dX12_one_19 ?_
    refine z_putI 85 12 5 (pc2 := 23) (ft := .int) rfl dX12_one_20 rfl rfl ff_12_5 wd_982 rfl (by decide +kernel) rfl rfl ?_
    obtain ⟨s33, hs33, h⟩ := ab_lt_e h
    refine z_tops hs33 ?_
    refine z_aload_n (pc2 := 24) rfl dX12_one_23 rfl ?_
    refine z_iconst (pc2 := 25) rfl dX12_one_24 lt_i_1 ?_
    refine z_iload_n (pc2 := 26) rfl dX12_one_25 rfl ?_
    obtain ⟨q34, hq34, h⟩ := ab_bnd h
    refine z_callVv 85 [.int (1 : Int32), .int q1] [some (.ref 85), some (.int (1 : Int32)), some (.int q1)] (pc2 := 29) rfl rfl dX12_one_26 ok_X12_step1 ⟨fun _ => rfl, fun _ => Nat.le_of_ble_eq_true rfl⟩ (Nat.ble_eq_true_of_le (by omega)) rv_85 wd_1087 wd_1089 wd_25 rfl (e_X12_step1 hq34) ?_
    refine z_iconst (pc2 := 30) rfl dX12_one_29 lt_i_1 ?_
    exact z_iret dX12_one_30 rfl rfl (fz_w rfl h)
def f_GB : Nat → Nat → ab_F → Option (Bool × ab_F)
  | 0, _, _ => none
  | n + 1, 0, σ => g_X12_whole (f_GB n) σ
  | n + 1, 1, σ => g_X12_both (f_GB n) σ
  | n + 1, 2, σ => g_X12_compared (f_GB n) σ
  | n + 1, 3, σ => g_X12_sum (f_GB n) σ
  | n + 1, 4, σ => g_X12_product (f_GB n) σ
  | n + 1, _, σ => g_X12_one (f_GB n) σ
set_option maxRecDepth 100000 in
set_option maxHeartbeats 4000000 in
theorem e_GB {sc : Nat × (Nat → Int32)} {r : Option Nat × Option Nat} : ∀ n : Nat, (∀ (σ : ab_F) (res : (Bool × ab_F)), f_GB n 0 σ = some res → ab_E mX12_whole (n + 8) sc 0 [some (.ref 85)] [] (σ, r) (fun v S => v = some (.int (ab_b res.1)) ∧ S = (res.2, r))) ∧ (∀ (σ : ab_F) (res : (Bool × ab_F)), f_GB n 1 σ = some res → ab_E mX12_both (n + 8) sc 0 [some (.ref 85)] [] (σ, r) (fun v S => v = some (.int (ab_b res.1)) ∧ S = (res.2, r))) ∧ (∀ (σ : ab_F) (res : (Bool × ab_F)), f_GB n 2 σ = some res → ab_E mX12_compared (n + 8) sc 0 [some (.ref 85), none] [] (σ, r) (fun v S => v = some (.int (ab_b res.1)) ∧ S = (res.2, r))) ∧ (∀ (σ : ab_F) (res : (Bool × ab_F)), f_GB n 3 σ = some res → ab_E mX12_sum (n + 8) sc 0 [some (.ref 85), none] [] (σ, r) (fun v S => v = some (.int (ab_b res.1)) ∧ S = (res.2, r))) ∧ (∀ (σ : ab_F) (res : (Bool × ab_F)), f_GB n 4 σ = some res → ab_E mX12_product (n + 8) sc 0 [some (.ref 85), none] [] (σ, r) (fun v S => v = some (.int (ab_b res.1)) ∧ S = (res.2, r))) ∧ (∀ (σ : ab_F) (res : (Bool × ab_F)), f_GB n 5 σ = some res → ab_E mX12_one (n + 8) sc 0 [some (.ref 85), none, none, none] [] (σ, r) (fun v S => v = some (.int (ab_b res.1)) ∧ S = (res.2, r))) := by
  intro n
  induction n with
  | zero => refine ⟨?_, ?_, ?_, ?_, ?_, ?_⟩ <;> intros <;> rename_i h <;> simp only [f_GB] at h <;> cases h
  | succ n ih =>
    obtain ⟨i0, i1, i2, i3, i4, i5⟩ := ih
    refine ⟨?_, ?_, ?_, ?_, ?_, ?_⟩
    · intro  σ res h
      exact eg_X12_whole (n0 := n) i0 i1 i2 i3 i4 i5 (by simpa only [f_GB] using h)
    · intro  σ res h
      exact eg_X12_both (n0 := n) i0 i1 i2 i3 i4 i5 (by simpa only [f_GB] using h)
    · intro  σ res h
      exact eg_X12_compared (n0 := n) i0 i1 i2 i3 i4 i5 (by simpa only [f_GB] using h)
    · intro  σ res h
      exact eg_X12_sum (n0 := n) i0 i1 i2 i3 i4 i5 (by simpa only [f_GB] using h)
    · intro  σ res h
      exact eg_X12_product (n0 := n) i0 i1 i2 i3 i4 i5 (by simpa only [f_GB] using h)
    · intro  σ res h
      exact eg_X12_one (n0 := n) i0 i1 i2 i3 i4 i5 (by simpa only [f_GB] using h)
theorem e_GB_X12_whole {sc : Nat × (Nat → Int32)} {r : Option Nat × Option Nat} : ∀ (σ : ab_F) (res : (Bool × ab_F)), f_GB 100 0 σ = some res → ab_E mX12_whole 108 sc 0 [some (.ref 85)] [] (σ, r) (fun v S => v = some (.int (ab_b res.1)) ∧ S = (res.2, r)) := (e_GB 100).1
theorem e_GB_X12_both {sc : Nat × (Nat → Int32)} {r : Option Nat × Option Nat} : ∀ (σ : ab_F) (res : (Bool × ab_F)), f_GB 100 1 σ = some res → ab_E mX12_both 108 sc 0 [some (.ref 85)] [] (σ, r) (fun v S => v = some (.int (ab_b res.1)) ∧ S = (res.2, r)) := (e_GB 100).2.1
theorem e_GB_X12_compared {sc : Nat × (Nat → Int32)} {r : Option Nat × Option Nat} : ∀ (σ : ab_F) (res : (Bool × ab_F)), f_GB 100 2 σ = some res → ab_E mX12_compared 108 sc 0 [some (.ref 85), none] [] (σ, r) (fun v S => v = some (.int (ab_b res.1)) ∧ S = (res.2, r)) := (e_GB 100).2.2.1
theorem e_GB_X12_sum {sc : Nat × (Nat → Int32)} {r : Option Nat × Option Nat} : ∀ (σ : ab_F) (res : (Bool × ab_F)), f_GB 100 3 σ = some res → ab_E mX12_sum 108 sc 0 [some (.ref 85), none] [] (σ, r) (fun v S => v = some (.int (ab_b res.1)) ∧ S = (res.2, r)) := (e_GB 100).2.2.2.1
theorem e_GB_X12_product {sc : Nat × (Nat → Int32)} {r : Option Nat × Option Nat} : ∀ (σ : ab_F) (res : (Bool × ab_F)), f_GB 100 4 σ = some res → ab_E mX12_product 108 sc 0 [some (.ref 85), none] [] (σ, r) (fun v S => v = some (.int (ab_b res.1)) ∧ S = (res.2, r)) := (e_GB 100).2.2.2.2.1
theorem e_GB_X12_one {sc : Nat × (Nat → Int32)} {r : Option Nat × Option Nat} : ∀ (σ : ab_F) (res : (Bool × ab_F)), f_GB 100 5 σ = some res → ab_E mX12_one 108 sc 0 [some (.ref 85), none, none, none] [] (σ, r) (fun v S => v = some (.int (ab_b res.1)) ∧ S = (res.2, r)) := (e_GB 100).2.2.2.2.2
def f_X12_hasText (a1 : Int32) (σ : ab_F) : Option Bool := ab_ck (ab_ib ((116 : Int32) + ((125 : Int32) * a1)) 450) ((if (σ 86 (((116 : Int32) + ((125 : Int32) * a1))).toNatClampNeg) ≤ 0 then (some false) else (some true)))
set_option maxRecDepth 100000 in
set_option maxHeartbeats 4000000 in
theorem e_X12_hasText {sc : Nat × (Nat → Int32)} {r : Option Nat × Option Nat} {a1 : Int32} {σ : ab_F} {res : Bool} (h : f_X12_hasText a1 σ = some res) : ab_E mX12_hasText 0 sc 0 [some (.ref 85), some (.int a1)] [] (σ, r) (fun v S => v = some (.int (ab_b res)) ∧ S = (σ, r)) := by
  unfold f_X12_hasText at h
  refine z_aload_n (pc2 := 1) rfl dX12_hasText_0 rfl ?_
  refine z_getR 85 12 0 86 (pc2 := 4) rfl dX12_hasText_1 rfl rfl ff_12_0 wd_977 rfl ?_
  refine z_bipush (pc2 := 6) rfl dX12_hasText_4 lt_b_116 ?_
  refine z_bipush (pc2 := 8) rfl dX12_hasText_6 lt_b_125 ?_
  refine z_iload_n (pc2 := 9) rfl dX12_hasText_8 rfl ?_
  refine z_imul (pc2 := 10) rfl dX12_hasText_9 ?_
  refine z_iadd (pc2 := 11) rfl dX12_hasText_10 ?_
  obtain ⟨hb1, h⟩ := ab_ck_e h
  refine z_iald 86 (pc2 := 12) (j := (((116 : Int32) + ((125 : Int32) * a1))).toNatClampNeg) rfl dX12_hasText_11 rfl rfl hb1 rfl ?_
  refine z_if_le (pc2 := 15) (tgt := 19) rfl dX12_hasText_12 (by decide) (fun hc2 => ?_) (fun hc2 => ?_)
  · replace h := ab_pos hc2 h
    refine z_iconst (pc2 := 20) rfl dX12_hasText_19 lt_i_0 ?_
    exact z_iret dX12_hasText_20 rfl rfl (fz_p rfl h)
  · replace h := ab_neg hc2 h
    refine z_iconst (pc2 := 16) rfl dX12_hasText_15 lt_i_1 ?_
    refine ab_goto (tgt := 20) dX12_hasText_16 (by decide) ?_
    exact z_iret dX12_hasText_20 rfl rfl (fz_p rfl h)
def f_X12_text_L101 (p3 : Int32) (K : ab_F → Option (Int32 × ab_F)) : Nat → Int32 → ab_F → Option (Int32 × ab_F)
  | 0, _, _ => none
  | n + 1, u4, σ => (if ((2 : Int32) * (σ 85 7)) ≤ u4 then (K σ) else ab_ck (ab_ib u4 124) (ab_ck (ab_ib ((p3 + (1 : Int32)) + u4) 450) (ab_lt (ab_u σ 86 (((p3 + (1 : Int32)) + u4)).toNatClampNeg (σ 90 (u4).toNatClampNeg)) (fun (s19 : ab_F) => ab_lt (u4 + (1 : Int32)) (fun x20 => (f_X12_text_L101 p3 K n x20 s19))))))
set_option maxRecDepth 100000 in
set_option maxHeartbeats 4000000 in
theorem e_X12_text_L101 {sc : Nat × (Nat → Int32)} {r : Option Nat × Option Nat} {p3 : Int32} {K : ab_F → Option (Int32 × ab_F)} {res : (Int32 × ab_F)} (hK : ∀ (σ : ab_F), K σ = some res → ab_E mX12_text 109 sc 136 [none, none, none, none, none] [] (σ, r) (fun v S => v = some (.int res.1) ∧ S = (res.2, r))) : ∀ (n : Nat) (u4 : Int32) (σ : ab_F), f_X12_text_L101 p3 K n u4 σ = some res → ab_E mX12_text 109 sc 101 [some (.ref 85), none, none, some (.int p3), some (.int u4)] [] (σ, r) (fun v S => v = some (.int res.1) ∧ S = (res.2, r)) := by
  intro n
  induction n with
  | zero =>
    intro u4 σ h
    rw [f_X12_text_L101] at h
    cases h
  | succ n ih =>
    intro u4 σ h
    rw [f_X12_text_L101] at h
    refine z_iload (pc2 := 103) rfl dX12_text_101 rfl ?_
    refine z_iconst (pc2 := 104) rfl dX12_text_103 lt_i_2 ?_
    refine z_aload_n (pc2 := 105) rfl dX12_text_104 rfl ?_
    refine z_getI 85 12 7 (pc2 := 108) rfl dX12_text_105 rfl rfl ff_12_7 wd_984 ?_
    refine z_imul (pc2 := 109) rfl dX12_text_108 ?_
    refine z_icmp_ge (pc2 := 112) (tgt := 136) rfl dX12_text_109 (by decide) (fun hc16 => ?_) (fun hc16 => ?_)
    · replace h := ab_pos hc16 h
      refine z_fgt [false, false, false, false, false] (L2 := [none, none, none, none, none]) rfl ?_
      exact hK  _ h
    · replace h := ab_neg hc16 h
      refine z_aload_n (pc2 := 113) rfl dX12_text_112 rfl ?_
      refine z_getR 85 12 0 86 (pc2 := 116) rfl dX12_text_113 rfl rfl ff_12_0 wd_977 rfl ?_
      refine z_iload_n (pc2 := 117) rfl dX12_text_116 rfl ?_
      refine z_iconst (pc2 := 118) rfl dX12_text_117 lt_i_1 ?_
      refine z_iadd (pc2 := 119) rfl dX12_text_118 ?_
      refine z_iload (pc2 := 121) rfl dX12_text_119 rfl ?_
      refine z_iadd (pc2 := 122) rfl dX12_text_121 ?_
      refine z_aload_n (pc2 := 123) rfl dX12_text_122 rfl ?_
      refine z_getR 85 12 9 90 (pc2 := 126) rfl dX12_text_123 rfl rfl ff_12_9 wd_986 rfl ?_
      refine z_iload (pc2 := 128) rfl dX12_text_126 rfl ?_
      obtain ⟨hb17, h⟩ := ab_ck_e h
      refine z_iald 90 (pc2 := 129) (j := (u4).toNatClampNeg) rfl dX12_text_128 rfl rfl hb17 rfl ?_
      obtain ⟨hb18, h⟩ := ab_ck_e h
      refine z_iast 86 (pc2 := 130) (j := (((p3 + (1 : Int32)) + u4)).toNatClampNeg) rfl dX12_text_129 rfl rfl hb18 rfl ?_
      obtain ⟨s19, hs19, h⟩ := ab_lt_e h
      refine z_tops hs19 ?_
      obtain ⟨x20, hxx20, h⟩ := ab_lt_e h
      refine z_iinc (pc2 := 133) (v := x20) (L2 := [some (.ref 85), none, none, some (.int p3), some (.int x20)]) rfl dX12_text_130 rfl (by rw [hxx20]; rfl) (by decide) rfl rfl ?_
      refine ab_goto (tgt := 101) dX12_text_133 (by decide) ?_
      refine z_fgt [true, false, false, true, true] (L2 := [some (.ref 85), none, none, some (.int p3), some (.int x20)]) rfl ?_
      exact ih _ _ h
def f_X12_text (a1 : Int32) (σ : ab_F) : Option (Int32 × ab_F) := (f_X12_in a1 (0 : Int32) (1 : Int32) σ).bind (fun q1 => (if (ab_b q1) = 0 then (f_X12_error (1 : Int32) σ).bind (fun q22 => (some (q22.1, q22.2))) else ab_lt (ab_u σ 85 8 a1) (fun (s3 : ab_F) => ab_lt (ab_u s3 85 5 (0 : Int32)) (fun (s4 : ab_F) => ab_lt (ab_u s4 85 6 (0 : Int32)) (fun (s5 : ab_F) => ab_lt (ab_u s5 85 7 (0 : Int32)) (fun (s6 : ab_F) => (f_GB 100 0 s6).bind (fun q7 => (if (ab_b q7.1) = 0 then ab_lt (ab_u q7.2 86 3 (0 : Int32)) (fun (s9 : ab_F) => (some (((-10 : Int32) - (s9 85 5)), s9))) else (if (q7.2 85 5) = (q7.2 86 3) then ab_lt (ab_u q7.2 86 3 (0 : Int32)) (fun (s12 : ab_F) => ab_lt (((116 : Int32) + ((125 : Int32) * a1))) (fun x13 => ab_ck (ab_ib x13 450) (ab_lt (ab_u s12 86 (x13).toNatClampNeg (s12 85 7)) (fun (s15 : ab_F) => (f_X12_text_L101 x13 (fun (s21 : ab_F) => (some ((1 : Int32), s21))) ab_fu (0 : Int32) s15))))) else ab_lt (ab_u q7.2 86 3 (0 : Int32)) (fun (s11 : ab_F) => (some (((-10 : Int32) - (s11 85 5)), s11))))))))))))
set_option maxRecDepth 100000 in
set_option maxHeartbeats 4000000 in
theorem e_X12_text {sc : Nat × (Nat → Int32)} {r : Option Nat × Option Nat} {a1 : Int32} {σ : ab_F} {res : (Int32 × ab_F)} (h : f_X12_text a1 σ = some res) : ab_E mX12_text 109 sc 0 [some (.ref 85), some (.int a1), none, none, none] [] (σ, r) (fun v S => v = some (.int res.1) ∧ S = (res.2, r)) := by
  unfold f_X12_text at h
  refine z_iload_n (pc2 := 1) rfl dX12_text_0 rfl ?_
  refine z_iconst (pc2 := 2) rfl dX12_text_1 lt_i_0 ?_
  refine z_iconst (pc2 := 3) rfl dX12_text_2 lt_i_1 ?_
  obtain ⟨q1, hq1, h⟩ := ab_bnd h
  refine z_callSi [.int a1, .int (0 : Int32), .int (1 : Int32)] [some (.int a1), some (.int (0 : Int32)), some (.int (1 : Int32))] (pc2 := 6) rfl rfl dX12_text_3 ok_X12_in ⟨fun _ => rfl, fun _ => Nat.le_of_ble_eq_true rfl⟩ rfl wd_1042 wd_1043 rfl (e_X12_in hq1) ?_
  refine z_if_ne (pc2 := 9) (tgt := 15) rfl dX12_text_6 (by decide) (fun hc2 => ?_) (fun hc2 => ?_)
  · replace h := ab_neg hc2 h
    refine z_aload_n (pc2 := 16) rfl dX12_text_15 rfl ?_
    refine z_iload_n (pc2 := 17) rfl dX12_text_16 rfl ?_
    refine z_putI 85 12 8 (pc2 := 20) (ft := .int) rfl dX12_text_17 rfl rfl ff_12_8 wd_985 rfl (by decide +kernel) rfl rfl ?_
    obtain ⟨s3, hs3, h⟩ := ab_lt_e h
    refine z_tops hs3 ?_
    refine z_aload_n (pc2 := 21) rfl dX12_text_20 rfl ?_
    refine z_iconst (pc2 := 22) rfl dX12_text_21 lt_i_0 ?_
    refine z_putI 85 12 5 (pc2 := 25) (ft := .int) rfl dX12_text_22 rfl rfl ff_12_5 wd_982 rfl (by decide +kernel) rfl rfl ?_
    obtain ⟨s4, hs4, h⟩ := ab_lt_e h
    refine z_tops hs4 ?_
    refine z_aload_n (pc2 := 26) rfl dX12_text_25 rfl ?_
    refine z_iconst (pc2 := 27) rfl dX12_text_26 lt_i_0 ?_
    refine z_putI 85 12 6 (pc2 := 30) (ft := .int) rfl dX12_text_27 rfl rfl ff_12_6 wd_983 rfl (by decide +kernel) rfl rfl ?_
    obtain ⟨s5, hs5, h⟩ := ab_lt_e h
    refine z_tops hs5 ?_
    refine z_aload_n (pc2 := 31) rfl dX12_text_30 rfl ?_
    refine z_iconst (pc2 := 32) rfl dX12_text_31 lt_i_0 ?_
    refine z_putI 85 12 7 (pc2 := 35) (ft := .int) rfl dX12_text_32 rfl rfl ff_12_7 wd_984 rfl (by decide +kernel) rfl rfl ?_
    obtain ⟨s6, hs6, h⟩ := ab_lt_e h
    refine z_tops hs6 ?_
    refine z_aload_n (pc2 := 36) rfl dX12_text_35 rfl ?_
    obtain ⟨q7, hq7, h⟩ := ab_bnd h
    refine z_callVi 85 [] [some (.ref 85)] (pc2 := 39) rfl rfl dX12_text_36 ok_X12_whole ⟨fun _ => rfl, fun _ => Nat.le_of_ble_eq_true rfl⟩ rfl rv_85 wd_1055 wd_1057 wd_17 rfl (e_GB_X12_whole _ _ hq7) ?_
    refine z_if_eq (pc2 := 42) (tgt := 59) rfl dX12_text_39 (by decide) (fun hc8 => ?_) (fun hc8 => ?_)
    · replace h := ab_pos hc8 h
      refine z_iconst (pc2 := 60) rfl dX12_text_59 lt_i_0 ?_
      refine z_istore_n (pc2 := 61) (L2 := [some (.ref 85), some (.int a1), some (.int (0 : Int32)), none, none]) rfl dX12_text_60 (by decide) rfl rfl ?_
      refine z_aload_n (pc2 := 62) rfl dX12_text_61 rfl ?_
      refine z_getR 85 12 0 86 (pc2 := 65) rfl dX12_text_62 rfl rfl ff_12_0 wd_977 rfl ?_
      refine z_iconst (pc2 := 66) rfl dX12_text_65 lt_i_3 ?_
      refine z_iconst (pc2 := 67) rfl dX12_text_66 lt_i_0 ?_
      refine z_iast 86 (pc2 := 68) (j := 3) rfl dX12_text_67 rfl rfl (by decide) (by decide) ?_
      obtain ⟨s9, hs9, h⟩ := ab_lt_e h
      refine z_tops hs9 ?_
      refine z_iload_n (pc2 := 69) rfl dX12_text_68 rfl ?_
      refine z_if_ne (pc2 := 72) (tgt := 80) rfl dX12_text_69 (by decide) (fun hc => ?_) (fun hc => ?_)
      · exact absurd hc (by decide)
      · refine z_bipush (pc2 := 74) rfl dX12_text_72 lt_b_m10 ?_
        refine z_aload_n (pc2 := 75) rfl dX12_text_74 rfl ?_
        refine z_getI 85 12 5 (pc2 := 78) rfl dX12_text_75 rfl rfl ff_12_5 wd_982 ?_
        refine z_isub (pc2 := 79) rfl dX12_text_78 ?_
        exact z_iret dX12_text_79 rfl rfl (fi_w h)
    · replace h := ab_neg hc8 h
      refine z_aload_n (pc2 := 43) rfl dX12_text_42 rfl ?_
      refine z_getI 85 12 5 (pc2 := 46) rfl dX12_text_43 rfl rfl ff_12_5 wd_982 ?_
      refine z_aload_n (pc2 := 47) rfl dX12_text_46 rfl ?_
      refine z_getR 85 12 0 86 (pc2 := 50) rfl dX12_text_47 rfl rfl ff_12_0 wd_977 rfl ?_
      refine z_iconst (pc2 := 51) rfl dX12_text_50 lt_i_3 ?_
      refine z_iald 86 (pc2 := 52) (j := 3) rfl dX12_text_51 rfl rfl (by decide) (by decide) ?_
      refine z_icmp_ne (pc2 := 55) (tgt := 59) rfl dX12_text_52 (by decide) (fun hc10 => ?_) (fun hc10 => ?_)
      · replace h := ab_neg hc10 h
        refine z_iconst (pc2 := 60) rfl dX12_text_59 lt_i_0 ?_
        refine z_istore_n (pc2 := 61) (L2 := [some (.ref 85), some (.int a1), some (.int (0 : Int32)), none, none]) rfl dX12_text_60 (by decide) rfl rfl ?_
        refine z_aload_n (pc2 := 62) rfl dX12_text_61 rfl ?_
        refine z_getR 85 12 0 86 (pc2 := 65) rfl dX12_text_62 rfl rfl ff_12_0 wd_977 rfl ?_
        refine z_iconst (pc2 := 66) rfl dX12_text_65 lt_i_3 ?_
        refine z_iconst (pc2 := 67) rfl dX12_text_66 lt_i_0 ?_
        refine z_iast 86 (pc2 := 68) (j := 3) rfl dX12_text_67 rfl rfl (by decide) (by decide) ?_
        obtain ⟨s11, hs11, h⟩ := ab_lt_e h
        refine z_tops hs11 ?_
        refine z_iload_n (pc2 := 69) rfl dX12_text_68 rfl ?_
        refine z_if_ne (pc2 := 72) (tgt := 80) rfl dX12_text_69 (by decide) (fun hc => ?_) (fun hc => ?_)
        · exact absurd hc (by decide)
        · refine z_bipush (pc2 := 74) rfl dX12_text_72 lt_b_m10 ?_
          refine z_aload_n (pc2 := 75) rfl dX12_text_74 rfl ?_
          refine z_getI 85 12 5 (pc2 := 78) rfl dX12_text_75 rfl rfl ff_12_5 wd_982 ?_
          refine z_isub (pc2 := 79) rfl dX12_text_78 ?_
          exact z_iret dX12_text_79 rfl rfl (fi_w h)
      · replace h := ab_pos hc10 h
        refine z_iconst (pc2 := 56) rfl dX12_text_55 lt_i_1 ?_
        refine ab_goto (tgt := 60) dX12_text_56 (by decide) ?_
        refine z_istore_n (pc2 := 61) (L2 := [some (.ref 85), some (.int a1), some (.int (1 : Int32)), none, none]) rfl dX12_text_60 (by decide) rfl rfl ?_
        refine z_aload_n (pc2 := 62) rfl dX12_text_61 rfl ?_
        refine z_getR 85 12 0 86 (pc2 := 65) rfl dX12_text_62 rfl rfl ff_12_0 wd_977 rfl ?_
        refine z_iconst (pc2 := 66) rfl dX12_text_65 lt_i_3 ?_
        refine z_iconst (pc2 := 67) rfl dX12_text_66 lt_i_0 ?_
        refine z_iast 86 (pc2 := 68) (j := 3) rfl dX12_text_67 rfl rfl (by decide) (by decide) ?_
        obtain ⟨s12, hs12, h⟩ := ab_lt_e h
        refine z_tops hs12 ?_
        refine z_iload_n (pc2 := 69) rfl dX12_text_68 rfl ?_
        refine z_if_ne (pc2 := 72) (tgt := 80) rfl dX12_text_69 (by decide) (fun hc => ?_) (fun hc => ?_)
        · refine z_bipush (pc2 := 82) rfl dX12_text_80 lt_b_116 ?_
          refine z_bipush (pc2 := 84) rfl dX12_text_82 lt_b_125 ?_
          refine z_iload_n (pc2 := 85) rfl dX12_text_84 rfl ?_
          refine z_imul (pc2 := 86) rfl dX12_text_85 ?_
          refine z_iadd (pc2 := 87) rfl dX12_text_86 ?_
          obtain ⟨x13, hxx13, h⟩ := ab_lt_e h
          refine z_top hxx13 ?_
          refine z_istore_n (pc2 := 88) (L2 := [some (.ref 85), some (.int a1), some (.int (1 : Int32)), some (.int x13), none]) rfl dX12_text_87 (by decide) rfl rfl ?_
          refine z_aload_n (pc2 := 89) rfl dX12_text_88 rfl ?_
          refine z_getR 85 12 0 86 (pc2 := 92) rfl dX12_text_89 rfl rfl ff_12_0 wd_977 rfl ?_
          refine z_iload_n (pc2 := 93) rfl dX12_text_92 rfl ?_
          refine z_aload_n (pc2 := 94) rfl dX12_text_93 rfl ?_
          refine z_getI 85 12 7 (pc2 := 97) rfl dX12_text_94 rfl rfl ff_12_7 wd_984 ?_
          obtain ⟨hb14, h⟩ := ab_ck_e h
          refine z_iast 86 (pc2 := 98) (j := (x13).toNatClampNeg) rfl dX12_text_97 rfl rfl hb14 rfl ?_
          obtain ⟨s15, hs15, h⟩ := ab_lt_e h
          refine z_tops hs15 ?_
          refine z_iconst (pc2 := 99) rfl dX12_text_98 lt_i_0 ?_
          refine z_istore (pc2 := 101) (L2 := [some (.ref 85), some (.int a1), some (.int (1 : Int32)), some (.int x13), some (.int (0 : Int32))]) rfl dX12_text_99 (by decide) rfl rfl ?_
          refine z_fgt [true, false, false, true, true] (L2 := [some (.ref 85), none, none, some (.int x13), some (.int (0 : Int32))]) rfl ?_
          refine e_X12_text_L101 (fun s21 h => ?_) _ _ _ h
          refine z_iconst (pc2 := 137) rfl dX12_text_136 lt_i_1 ?_
          exact z_iret dX12_text_137 rfl rfl (fi_w h)
        · exact absurd hc (by decide)
  · replace h := ab_pos hc2 h
    refine z_aload_n (pc2 := 10) rfl dX12_text_9 rfl ?_
    refine z_iconst (pc2 := 11) rfl dX12_text_10 lt_i_1 ?_
    obtain ⟨q22, hq22, h⟩ := ab_bnd h
    refine z_callVi 85 [.int (1 : Int32)] [some (.ref 85), some (.int (1 : Int32))] (pc2 := 14) rfl rfl dX12_text_11 ok_X12_error ⟨fun _ => rfl, fun _ => Nat.le_of_ble_eq_true rfl⟩ rfl rv_85 wd_1045 wd_1047 wd_16 rfl (e_X12_error hq22) ?_
    exact z_iret dX12_text_14 rfl rfl (fi_w h)
