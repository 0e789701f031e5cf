def f_X7_gives (t : Nat) (a1 : Int32) (a2 : Int32) (a3 : Int32) (σ : ab_F) : Option (Int32 × ab_F) := (f_X7_gives_L6 t a1 a2 a3 (fun (s78 : ab_F) => (some ((s78 (t + 2) 0), s78))) ab_fu (-1 : Int32) (0 : Int32) σ)
set_option maxRecDepth 100000 in
set_option maxHeartbeats 4000000 in
theorem e_X7_gives_32 {sc : Nat × (Nat → Int32)} {r : Option Nat × Option Nat} {a1 : Int32} {a2 : Int32} {a3 : Int32} {σ : ab_F} {res : (Int32 × ab_F)} (h : f_X7_gives 32 a1 a2 a3 σ = some res) : ab_E mX7_gives 1 sc 0 [some (.ref 32), some (.int a1), some (.int a2), some (.int a3), none, none, none] [] (σ, r) (fun v S => v = some (.int res.1) ∧ S = (res.2, r)) := by
  unfold f_X7_gives at h
  refine z_iconst (pc2 := 1) rfl dX7_gives_0 lt_i_m1 ?_
  refine z_istore (pc2 := 3) (L2 := [some (.ref 32), some (.int a1), some (.int a2), some (.int a3), some (.int (-1 : Int32)), none, none]) rfl dX7_gives_1 (by decide) rfl rfl ?_
  refine z_iconst (pc2 := 4) rfl dX7_gives_3 lt_i_0 ?_
  refine z_istore (pc2 := 6) (L2 := [some (.ref 32), some (.int a1), some (.int a2), some (.int a3), some (.int (-1 : Int32)), some (.int (0 : Int32)), none]) rfl dX7_gives_4 (by decide) rfl rfl ?_
  refine z_fgt [true, true, true, true, true, true, false] (L2 := [some (.ref 32), some (.int a1), some (.int a2), some (.int a3), some (.int (-1 : Int32)), some (.int (0 : Int32)), none]) rfl ?_
  refine e_X7_gives_32_L6 (fun s78 h => ?_) _ _ _ _ h
  refine z_aload_n (pc2 := 165) rfl dX7_gives_164 rfl ?_
  refine z_getR 32 7 2 34 (pc2 := 168) rfl dX7_gives_165 rfl rfl ff_7_2 wd_123 rfl ?_
  refine z_iconst (pc2 := 169) rfl dX7_gives_168 lt_i_0 ?_
  refine z_iald 34 (pc2 := 170) (j := 0) rfl dX7_gives_169 rfl rfl (by decide) (by decide) ?_
  exact z_iret dX7_gives_170 rfl rfl (fi_w h)
def f_X9_doesBy (w : Nat) (a1 : Int32) (a2 : Int32) (a3 : Int32) (σ : ab_F) : Option (Int32 × ab_F) := (if (σ 32 0) ≤ 0 then (f_J9_floorMod_7cf53 a1 (4 : Int32) σ).bind (fun q2 => (some (q2, σ))) else (f_X7_gives 32 a1 a2 a3 σ).bind (fun q3 => (f_J9_floorMod_7cf53 q3.1 (4 : Int32) q3.2).bind (fun q4 => (some (q4, q3.2)))))
set_option maxRecDepth 100000 in
set_option maxHeartbeats 4000000 in
theorem e_X9_doesBy_38 {sc : Nat × (Nat → Int32)} {r : Option Nat × Option Nat} {a1 : Int32} {a2 : Int32} {a3 : Int32} {σ : ab_F} {res : (Int32 × ab_F)} (h : f_X9_doesBy 38 a1 a2 a3 σ = some res) : ab_E mX9_doesBy 2 sc 0 [some (.ref 38), some (.int a1), some (.int a2), some (.int a3)] [] (σ, r) (fun v S => v = some (.int res.1) ∧ S = (res.2, r)) := by
  unfold f_X9_doesBy at h
  refine z_aload_n (pc2 := 1) rfl dX9_doesBy_0 rfl ?_
  refine z_getR 38 9 1 32 (pc2 := 4) rfl dX9_doesBy_1 rfl rfl ff_9_1 wd_230 rfl ?_
  refine z_getI 32 7 0 (pc2 := 7) rfl dX9_doesBy_4 rfl rfl ff_7_0 wd_121 ?_
  refine z_if_le (pc2 := 10) (tgt := 23) rfl dX9_doesBy_7 (by decide) (fun hc1 => ?_) (fun hc1 => ?_)
  · replace h := ab_pos hc1 h
    refine z_iload_n (pc2 := 24) rfl dX9_doesBy_23 rfl ?_
    refine z_iconst (pc2 := 25) rfl dX9_doesBy_24 lt_i_4 ?_
    obtain ⟨q2, hq2, h⟩ := ab_bnd h
    refine z_callSi [.int a1, .int (4 : Int32)] [some (.int a1), some (.int (4 : Int32)), none] (pc2 := 28) rfl rfl dX9_doesBy_25 ok_J9_floorMod_7cf53 ⟨fun _ => rfl, fun _ => Nat.le_of_ble_eq_true rfl⟩ rfl wd_419 wd_420 rfl (e_J9_floorMod_7cf53 hq2) ?_
    exact z_iret dX9_doesBy_28 rfl rfl (fi_w h)
  · replace h := ab_neg hc1 h
    refine z_aload_n (pc2 := 11) rfl dX9_doesBy_10 rfl ?_
    refine z_getR 38 9 1 32 (pc2 := 14) rfl dX9_doesBy_11 rfl rfl ff_9_1 wd_230 rfl ?_
    refine z_iload_n (pc2 := 15) rfl dX9_doesBy_14 rfl ?_
    refine z_iload_n (pc2 := 16) rfl dX9_doesBy_15 rfl ?_
    refine z_iload_n (pc2 := 17) rfl dX9_doesBy_16 rfl ?_
    obtain ⟨q3, hq3, h⟩ := ab_bnd h
    refine z_callVi 32 [.int a1, .int a2, .int a3] [some (.ref 32), some (.int a1), some (.int a2), some (.int a3), none, none, none] (pc2 := 20) rfl rfl dX9_doesBy_17 ok_X7_gives ⟨fun _ => rfl, fun _ => Nat.le_of_ble_eq_true rfl⟩ rfl rv_32 wd_412 wd_413 wd_414 rfl (e_X7_gives_32 hq3) ?_
    refine ab_goto (tgt := 24) dX9_doesBy_20 (by decide) ?_
    refine z_iconst (pc2 := 25) rfl dX9_doesBy_24 lt_i_4 ?_
    obtain ⟨q4, hq4, h⟩ := ab_bnd h
    refine z_callSi [.int q3.1, .int (4 : Int32)] [some (.int q3.1), some (.int (4 : Int32)), none] (pc2 := 28) rfl rfl dX9_doesBy_25 ok_J9_floorMod_7cf53 ⟨fun _ => rfl, fun _ => Nat.le_of_ble_eq_true rfl⟩ rfl wd_419 wd_420 rfl (e_J9_floorMod_7cf53 hq4) ?_
    exact z_iret dX9_doesBy_28 rfl rfl (fi_w h)
def f_X5_acts_26 (w : Nat) (a2 : Int32) (σ : ab_F) : Option Int32 := (some (3 : Int32))
set_option maxRecDepth 100000 in
set_option maxHeartbeats 4000000 in
theorem e_X5_acts_26_38 {sc : Nat × (Nat → Int32)} {r : Option Nat × Option Nat} {a2 : Int32} {σ : ab_F} {res : Int32} (h : f_X5_acts_26 38 a2 σ = some res) : ab_E mX5_acts 0 sc 0 [some (.ref 26), some (.ref 38), some (.int a2)] [] (σ, r) (fun v S => v = some (.int res) ∧ S = (σ, r)) := by
  unfold f_X5_acts_26 at h
  refine z_iconst (pc2 := 1) rfl dX5_acts_0 lt_i_3 ?_
  exact z_iret dX5_acts_1 rfl rfl (fi_p h)
def f_X2_acts_27 (w : Nat) (a2 : Int32) (σ : ab_F) : Option Int32 := (some (1 : Int32))
set_option maxRecDepth 100000 in
set_option maxHeartbeats 4000000 in
theorem e_X2_acts_27_38 {sc : Nat × (Nat → Int32)} {r : Option Nat × Option Nat} {a2 : Int32} {σ : ab_F} {res : Int32} (h : f_X2_acts_27 38 a2 σ = some res) : ab_E mX2_acts 0 sc 0 [some (.ref 27), some (.ref 38), some (.int a2)] [] (σ, r) (fun v S => v = some (.int res) ∧ S = (σ, r)) := by
  unfold f_X2_acts_27 at h
  refine z_iconst (pc2 := 1) rfl dX2_acts_0 lt_i_1 ?_
  exact z_iret dX2_acts_1 rfl rfl (fi_p h)
def f_X10_acts_27 (w : Nat) (a2 : Int32) (σ : ab_F) : Option Int32 := ab_ck (ab_ib a2 8) ((f_J6_bitCount_0f7a4 (σ (w + 10) (a2).toNatClampNeg) σ).bind (fun q2 => (if q2 ≤ (3 : Int32) then (f_X2_acts_27 w a2 σ).bind (fun q4 => (some q4)) else (some (2 : Int32)))))
set_option maxRecDepth 100000 in
set_option maxHeartbeats 4000000 in
theorem e_X10_acts_27_38 {sc : Nat × (Nat → Int32)} {r : Option Nat × Option Nat} {a2 : Int32} {σ : ab_F} {res : Int32} (h : f_X10_acts_27 38 a2 σ = some res) : ab_E mX10_acts 1 sc 0 [some (.ref 27), some (.ref 38), some (.int a2)] [] (σ, r) (fun v S => v = some (.int res) ∧ S = (σ, r)) := by
  unfold f_X10_acts_27 at h
  refine z_aload_n (pc2 := 1) rfl dX10_acts_0 rfl ?_
  refine z_getR 38 9 16 48 (pc2 := 4) rfl dX10_acts_1 rfl rfl ff_9_16 wd_264 rfl ?_
  refine z_iload_n (pc2 := 5) rfl dX10_acts_4 rfl ?_
  obtain ⟨hb1, h⟩ := ab_ck_e h
  refine z_iald 48 (pc2 := 6) (j := (a2).toNatClampNeg) rfl dX10_acts_5 rfl rfl hb1 rfl ?_
  obtain ⟨q2, hq2, h⟩ := ab_bnd h
  refine z_callSi [.int (σ (38 + 10) (a2).toNatClampNeg)] [some (.int (σ (38 + 10) (a2).toNatClampNeg))] (pc2 := 9) rfl rfl dX10_acts_6 ok_J6_bitCount_0f7a4 ⟨fun _ => rfl, fun _ => Nat.le_of_ble_eq_true rfl⟩ rfl wd_385 wd_386 rfl (e_J6_bitCount_0f7a4 hq2) ?_
  refine z_iconst (pc2 := 10) rfl dX10_acts_9 lt_i_3 ?_
  refine z_icmp_le (pc2 := 13) (tgt := 17) rfl dX10_acts_10 (by decide) (fun hc3 => ?_) (fun hc3 => ?_)
  · replace h := ab_pos hc3 h
    refine z_aload_n (pc2 := 18) rfl dX10_acts_17 rfl ?_
    refine z_aload_n (pc2 := 19) rfl dX10_acts_18 rfl ?_
    refine z_iload_n (pc2 := 20) rfl dX10_acts_19 rfl ?_
    obtain ⟨q4, hq4, h⟩ := ab_bnd h
    refine z_callUi RX10 RX2 yX2_acts 27 [.ref 38, .int a2] [some (.ref 27), some (.ref 38), some (.int a2)] (pc2 := 23) rfl rfl dX10_acts_20 ok_X2_acts ⟨fun _ => rfl, fun _ => Nat.le_of_ble_eq_true rfl⟩ rfl rv_27 wd_391 wd_374 wd_193 (Or.inl rfl) wd_372 (by decide) rfl (e_X2_acts_27_38 hq4) ?_
    exact z_iret dX10_acts_23 rfl rfl (fi_p h)
  · replace h := ab_neg hc3 h
    refine z_iconst (pc2 := 14) rfl dX10_acts_13 lt_i_2 ?_
    refine ab_goto (tgt := 23) dX10_acts_14 (by decide) ?_
    exact z_iret dX10_acts_23 rfl rfl (fi_p h)
def f_X3_acts_28 (w : Nat) (a2 : Int32) (σ : ab_F) : Option Int32 := (some (0 : Int32))
set_option maxRecDepth 100000 in
set_option maxHeartbeats 4000000 in
theorem e_X3_acts_28_38 {sc : Nat × (Nat → Int32)} {r : Option Nat × Option Nat} {a2 : Int32} {σ : ab_F} {res : Int32} (h : f_X3_acts_28 38 a2 σ = some res) : ab_E mX3_acts 0 sc 0 [some (.ref 28), some (.ref 38), some (.int a2)] [] (σ, r) (fun v S => v = some (.int res) ∧ S = (σ, r)) := by
  unfold f_X3_acts_28 at h
  refine z_iconst (pc2 := 1) rfl dX3_acts_0 lt_i_0 ?_
  exact z_iret dX3_acts_1 rfl rfl (fi_p h)
def f_X5_acts_29 (w : Nat) (a2 : Int32) (σ : ab_F) : Option Int32 := (some (3 : Int32))
set_option maxRecDepth 100000 in
set_option maxHeartbeats 4000000 in
theorem e_X5_acts_29_38 {sc : Nat × (Nat → Int32)} {r : Option Nat × Option Nat} {a2 : Int32} {σ : ab_F} {res : Int32} (h : f_X5_acts_29 38 a2 σ = some res) : ab_E mX5_acts 0 sc 0 [some (.ref 29), some (.ref 38), some (.int a2)] [] (σ, r) (fun v S => v = some (.int res) ∧ S = (σ, r)) := by
  unfold f_X5_acts_29 at h
  refine z_iconst (pc2 := 1) rfl dX5_acts_0 lt_i_3 ?_
  exact z_iret dX5_acts_1 rfl rfl (fi_p h)
def f_X1_acts_29 (w : Nat) (a2 : Int32) (σ : ab_F) : Option Int32 := (if ((σ w 3) - (σ w 3) / (2 : Int32) * (2 : Int32)) = 0 then (f_X5_acts_29 w a2 σ).bind (fun q2 => (some q2)) else (some (1 : Int32)))
set_option maxRecDepth 100000 in
set_option maxHeartbeats 4000000 in
theorem e_X1_acts_29_38 {sc : Nat × (Nat → Int32)} {r : Option Nat × Option Nat} {a2 : Int32} {σ : ab_F} {res : Int32} (h : f_X1_acts_29 38 a2 σ = some res) : ab_E mX1_acts 1 sc 0 [some (.ref 29), some (.ref 38), some (.int a2)] [] (σ, r) (fun v S => v = some (.int res) ∧ S = (σ, r)) := by
  unfold f_X1_acts_29 at h
  refine z_aload_n (pc2 := 1) rfl dX1_acts_0 rfl ?_
  refine z_getI 38 9 3 (pc2 := 4) rfl dX1_acts_1 rfl rfl ff_9_3 wd_234 ?_
  refine z_iconst (pc2 := 5) rfl dX1_acts_4 lt_i_2 ?_
  refine z_irem (pc2 := 6) rfl dX1_acts_5 (by decide) ?_
  refine z_if_ne (pc2 := 9) (tgt := 18) rfl dX1_acts_6 (by decide) (fun hc1 => ?_) (fun hc1 => ?_)
  · replace h := ab_neg hc1 h
    refine z_iconst (pc2 := 19) rfl dX1_acts_18 lt_i_1 ?_
    exact z_iret dX1_acts_19 rfl rfl (fi_p h)
  · replace h := ab_pos hc1 h
    refine z_aload_n (pc2 := 10) rfl dX1_acts_9 rfl ?_
    refine z_aload_n (pc2 := 11) rfl dX1_acts_10 rfl ?_
    refine z_iload_n (pc2 := 12) rfl dX1_acts_11 rfl ?_
    obtain ⟨q2, hq2, h⟩ := ab_bnd h
    refine z_callUi RX1 RX5 yX5_acts 29 [.ref 38, .int a2] [some (.ref 29), some (.ref 38), some (.int a2)] (pc2 := 15) rfl rfl dX1_acts_12 ok_X5_acts ⟨fun _ => rfl, fun _ => Nat.le_of_ble_eq_true rfl⟩ rfl rv_29 wd_395 wd_1423 wd_207 (Or.inl rfl) wd_396 (by decide) rfl (e_X5_acts_29_38 hq2) ?_
    refine ab_goto (tgt := 19) dX1_acts_15 (by decide) ?_
    exact z_iret dX1_acts_19 rfl rfl (fi_p h)
def f_X9_downOnes_L4 (w : Nat) (σ : ab_F) (K : Int32 → Option Int32) : Nat → Int32 → Int32 → Option Int32
  | 0, _, _ => none
  | n + 1, u1, u2 => (if (σ w 11) ≤ u2 then (K u1) else ab_ck (ab_ib u2 8) ((if (σ (w + 9) (u2).toNatClampNeg) = 0 then ab_lt (u1 + (1 : Int32)) (fun x5 => ab_lt (u2 + (1 : Int32)) (fun x6 => (f_X9_downOnes_L4 w σ K n x5 x6))) else ab_lt (u2 + (1 : Int32)) (fun x4 => (f_X9_downOnes_L4 w σ K n u1 x4)))))
set_option maxRecDepth 100000 in
set_option maxHeartbeats 4000000 in
theorem e_X9_downOnes_38_L4 {sc : Nat × (Nat → Int32)} {r : Option Nat × Option Nat} {σ : ab_F} {K : Int32 → Option Int32} {res : Int32} (hK : ∀ (u1 : Int32), K u1 = some res → ab_E mX9_downOnes 0 sc 30 [none, some (.int u1), none] [] (σ, r) (fun v S => v = some (.int res) ∧ S = (σ, r))) : ∀ (n : Nat) (u1 : Int32) (u2 : Int32), f_X9_downOnes_L4 38 σ K n u1 u2 = some res → ab_E mX9_downOnes 0 sc 4 [some (.ref 38), some (.int u1), some (.int u2)] [] (σ, r) (fun v S => v = some (.int res) ∧ S = (σ, r)) := by
  intro n
  induction n with
  | zero =>
    intro u1 u2 h
    rw [f_X9_downOnes_L4] at h
    cases h
  | succ n ih =>
    intro u1 u2 h
    rw [f_X9_downOnes_L4] at h
    refine z_iload_n (pc2 := 5) rfl dX9_downOnes_4 rfl ?_
    refine z_aload_n (pc2 := 6) rfl dX9_downOnes_5 rfl ?_
    refine z_getI 38 9 11 (pc2 := 9) rfl dX9_downOnes_6 rfl rfl ff_9_11 wd_250 ?_
    refine z_icmp_ge (pc2 := 12) (tgt := 30) rfl dX9_downOnes_9 (by decide) (fun hc1 => ?_) (fun hc1 => ?_)
    · replace h := ab_pos hc1 h
      refine z_fgt [false, true, false] (L2 := [none, some (.int u1), none]) rfl ?_
      exact hK _ h
    · replace h := ab_neg hc1 h
      refine z_aload_n (pc2 := 13) rfl dX9_downOnes_12 rfl ?_
      refine z_getR 38 9 15 47 (pc2 := 16) rfl dX9_downOnes_13 rfl rfl ff_9_15 wd_261 rfl ?_
      refine z_iload_n (pc2 := 17) rfl dX9_downOnes_16 rfl ?_
      obtain ⟨hb2, h⟩ := ab_ck_e h
      refine z_iald 47 (pc2 := 18) (j := (u2).toNatClampNeg) rfl dX9_downOnes_17 rfl rfl hb2 rfl ?_
      refine z_if_ne (pc2 := 21) (tgt := 24) rfl dX9_downOnes_18 (by decide) (fun hc3 => ?_) (fun hc3 => ?_)
      · replace h := ab_neg hc3 h
        obtain ⟨x4, hxx4, h⟩ := ab_lt_e h
        refine z_iinc (pc2 := 27) (v := x4) (L2 := [some (.ref 38), some (.int u1), some (.int x4)]) rfl dX9_downOnes_24 rfl (by rw [hxx4]; rfl) (by decide) rfl rfl ?_
        refine ab_goto (tgt := 4) dX9_downOnes_27 (by decide) ?_
        refine z_fgt [true, true, true] (L2 := [some (.ref 38), some (.int u1), some (.int x4)]) rfl ?_
        exact ih _ _ h
      · replace h := ab_pos hc3 h
        obtain ⟨x5, hxx5, h⟩ := ab_lt_e h
        refine z_iinc (pc2 := 24) (v := x5) (L2 := [some (.ref 38), some (.int x5), some (.int u2)]) rfl dX9_downOnes_21 rfl (by rw [hxx5]; rfl) (by decide) rfl rfl ?_
        obtain ⟨x6, hxx6, h⟩ := ab_lt_e h
        refine z_iinc (pc2 := 27) (v := x6) (L2 := [some (.ref 38), some (.int x5), some (.int x6)]) rfl dX9_downOnes_24 rfl (by rw [hxx6]; rfl) (by decide) rfl rfl ?_
        refine ab_goto (tgt := 4) dX9_downOnes_27 (by decide) ?_
        refine z_fgt [true, true, true] (L2 := [some (.ref 38), some (.int x5), some (.int x6)]) rfl ?_
        exact ih _ _ h
def f_X9_downOnes (w : Nat) (σ : ab_F) : Option Int32 := (f_X9_downOnes_L4 w σ (fun (k7 : Int32) => (some k7)) ab_fu (0 : Int32) (0 : Int32))
set_option maxRecDepth 100000 in
set_option maxHeartbeats 4000000 in
theorem e_X9_downOnes_38 {sc : Nat × (Nat → Int32)} {r : Option Nat × Option Nat} {σ : ab_F} {res : Int32} (h : f_X9_downOnes 38 σ = some res) : ab_E mX9_downOnes 0 sc 0 [some (.ref 38), none, none] [] (σ, r) (fun v S => v = some (.int res) ∧ S = (σ, r)) := by
  unfold f_X9_downOnes at h
  refine z_iconst (pc2 := 1) rfl dX9_downOnes_0 lt_i_0 ?_
  refine z_istore_n (pc2 := 2) (L2 := [some (.ref 38), some (.int (0 : Int32)), none]) rfl dX9_downOnes_1 (by decide) rfl rfl ?_
  refine z_iconst (pc2 := 3) rfl dX9_downOnes_2 lt_i_0 ?_
  refine z_istore_n (pc2 := 4) (L2 := [some (.ref 38), some (.int (0 : Int32)), some (.int (0 : Int32))]) rfl dX9_downOnes_3 (by decide) rfl rfl ?_
  refine z_fgt [true, true, true] (L2 := [some (.ref 38), some (.int (0 : Int32)), some (.int (0 : Int32))]) rfl ?_
  refine e_X9_downOnes_38_L4 (fun k7 h => ?_) _ _ _ h
  refine z_iload_n (pc2 := 31) rfl dX9_downOnes_30 rfl ?_
  exact z_iret dX9_downOnes_31 rfl rfl (fi_p h)
def f_X2_acts_30 (w : Nat) (a2 : Int32) (σ : ab_F) : Option Int32 := (some (1 : Int32))
set_option maxRecDepth 100000 in
set_option maxHeartbeats 4000000 in
theorem e_X2_acts_30_38 {sc : Nat × (Nat → Int32)} {r : Option Nat × Option Nat} {a2 : Int32} {σ : ab_F} {res : Int32} (h : f_X2_acts_30 38 a2 σ = some res) : ab_E mX2_acts 0 sc 0 [some (.ref 30), some (.ref 38), some (.int a2)] [] (σ, r) (fun v S => v = some (.int res) ∧ S = (σ, r)) := by
  unfold f_X2_acts_30 at h
  refine z_iconst (pc2 := 1) rfl dX2_acts_0 lt_i_1 ?_
  exact z_iret dX2_acts_1 rfl rfl (fi_p h)
def f_X10_acts_30 (w : Nat) (a2 : Int32) (σ : ab_F) : Option Int32 := ab_ck (ab_ib a2 8) ((f_J6_bitCount_0f7a4 (σ (w + 10) (a2).toNatClampNeg) σ).bind (fun q2 => (if q2 ≤ (3 : Int32) then (f_X2_acts_30 w a2 σ).bind (fun q4 => (some q4)) else (some (2 : Int32)))))
set_option maxRecDepth 100000 in
set_option maxHeartbeats 4000000 in
theorem e_X10_acts_30_38 {sc : Nat × (Nat → Int32)} {r : Option Nat × Option Nat} {a2 : Int32} {σ : ab_F} {res : Int32} (h : f_X10_acts_30 38 a2 σ = some res) : ab_E mX10_acts 1 sc 0 [some (.ref 30), some (.ref 38), some (.int a2)] [] (σ, r) (fun v S => v = some (.int res) ∧ S = (σ, r)) := by
  unfold f_X10_acts_30 at h
  refine z_aload_n (pc2 := 1) rfl dX10_acts_0 rfl ?_
  refine z_getR 38 9 16 48 (pc2 := 4) rfl dX10_acts_1 rfl rfl ff_9_16 wd_264 rfl ?_
  refine z_iload_n (pc2 := 5) rfl dX10_acts_4 rfl ?_
  obtain ⟨hb1, h⟩ := ab_ck_e h
  refine z_iald 48 (pc2 := 6) (j := (a2).toNatClampNeg) rfl dX10_acts_5 rfl rfl hb1 rfl ?_
  obtain ⟨q2, hq2, h⟩ := ab_bnd h
  refine z_callSi [.int (σ (38 + 10) (a2).toNatClampNeg)] [some (.int (σ (38 + 10) (a2).toNatClampNeg))] (pc2 := 9) rfl rfl dX10_acts_6 ok_J6_bitCount_0f7a4 ⟨fun _ => rfl, fun _ => Nat.le_of_ble_eq_true rfl⟩ rfl wd_385 wd_386 rfl (e_J6_bitCount_0f7a4 hq2) ?_
  refine z_iconst (pc2 := 10) rfl dX10_acts_9 lt_i_3 ?_
  refine z_icmp_le (pc2 := 13) (tgt := 17) rfl dX10_acts_10 (by decide) (fun hc3 => ?_) (fun hc3 => ?_)
  · replace h := ab_pos hc3 h
    refine z_aload_n (pc2 := 18) rfl dX10_acts_17 rfl ?_
    refine z_aload_n (pc2 := 19) rfl dX10_acts_18 rfl ?_
    refine z_iload_n (pc2 := 20) rfl dX10_acts_19 rfl ?_
    obtain ⟨q4, hq4, h⟩ := ab_bnd h
    refine z_callUi RX0 RX2 yX2_acts 30 [.ref 38, .int a2] [some (.ref 30), some (.ref 38), some (.int a2)] (pc2 := 23) rfl rfl dX10_acts_20 ok_X2_acts ⟨fun _ => rfl, fun _ => Nat.le_of_ble_eq_true rfl⟩ rfl rv_30 wd_391 wd_374 wd_193 (Or.inl rfl) wd_372 (by decide) rfl (e_X2_acts_30_38 hq4) ?_
    exact z_iret dX10_acts_23 rfl rfl (fi_p h)
  · replace h := ab_neg hc3 h
    refine z_iconst (pc2 := 14) rfl dX10_acts_13 lt_i_2 ?_
    refine ab_goto (tgt := 23) dX10_acts_14 (by decide) ?_
    exact z_iret dX10_acts_23 rfl rfl (fi_p h)
def f_X0_acts_30 (w : Nat) (a2 : Int32) (σ : ab_F) : Option Int32 := (f_X9_downOnes w σ).bind (fun q1 => (if q1 ≤ (1 : Int32) then (f_X10_acts_30 w a2 σ).bind (fun q3 => (some q3)) else (some (2 : Int32))))
set_option maxRecDepth 100000 in
set_option maxHeartbeats 4000000 in
theorem e_X0_acts_30_38 {sc : Nat × (Nat → Int32)} {r : Option Nat × Option Nat} {a2 : Int32} {σ : ab_F} {res : Int32} (h : f_X0_acts_30 38 a2 σ = some res) : ab_E mX0_acts 2 sc 0 [some (.ref 30), some (.ref 38), some (.int a2)] [] (σ, r) (fun v S => v = some (.int res) ∧ S = (σ, r)) := by
  unfold f_X0_acts_30 at h
  refine z_aload_n (pc2 := 1) rfl dX0_acts_0 rfl ?_
  obtain ⟨q1, hq1, h⟩ := ab_bnd h
  refine z_callVi 38 [] [some (.ref 38), none, none] (pc2 := 4) rfl rfl dX0_acts_1 ok_X9_downOnes ⟨fun _ => rfl, fun _ => Nat.le_of_ble_eq_true rfl⟩ rfl rv_38 wd_378 wd_379 wd_380 rfl (e_X9_downOnes_38 hq1) ?_
  refine z_iconst (pc2 := 5) rfl dX0_acts_4 lt_i_1 ?_
  refine z_icmp_le (pc2 := 8) (tgt := 12) rfl dX0_acts_5 (by decide) (fun hc2 => ?_) (fun hc2 => ?_)
  · replace h := ab_pos hc2 h
    refine z_aload_n (pc2 := 13) rfl dX0_acts_12 rfl ?_
    refine z_aload_n (pc2 := 14) rfl dX0_acts_13 rfl ?_
    refine z_iload_n (pc2 := 15) rfl dX0_acts_14 rfl ?_
    obtain ⟨q3, hq3, h⟩ := ab_bnd h
    refine z_callUi RX0 RX10 yX10_acts 30 [.ref 38, .int a2] [some (.ref 30), some (.ref 38), some (.int a2)] (pc2 := 18) rfl rfl dX0_acts_15 ok_X10_acts ⟨fun _ => rfl, fun _ => Nat.le_of_ble_eq_true rfl⟩ rfl rv_30 wd_382 wd_1422 wd_214 (Or.inl rfl) wd_383 (by decide) rfl (e_X10_acts_30_38 hq3) ?_
    exact z_iret dX0_acts_18 rfl rfl (fi_p h)
  · replace h := ab_neg hc2 h
    refine z_iconst (pc2 := 9) rfl dX0_acts_8 lt_i_2 ?_
    refine ab_goto (tgt := 18) dX0_acts_9 (by decide) ?_
    exact z_iret dX0_acts_18 rfl rfl (fi_p h)
def f_X4_acts_31 (w : Nat) (a2 : Int32) (σ : ab_F) : Option Int32 := ab_ck (ab_ib a2 8) ((if (σ (w + 7) (a2).toNatClampNeg) ≤ (4 : Int32) then (some (0 : Int32)) else (some (2 : Int32))))
set_option maxRecDepth 100000 in
set_option maxHeartbeats 4000000 in
theorem e_X4_acts_31_38 {sc : Nat × (Nat → Int32)} {r : Option Nat × Option Nat} {a2 : Int32} {σ : ab_F} {res : Int32} (h : f_X4_acts_31 38 a2 σ = some res) : ab_E mX4_acts 0 sc 0 [some (.ref 31), some (.ref 38), some (.int a2)] [] (σ, r) (fun v S => v = some (.int res) ∧ S = (σ, r)) := by
  unfold f_X4_acts_31 at h
  refine z_aload_n (pc2 := 1) rfl dX4_acts_0 rfl ?_
  refine z_getR 38 9 13 45 (pc2 := 4) rfl dX4_acts_1 rfl rfl ff_9_13 wd_255 rfl ?_
  refine z_iload_n (pc2 := 5) rfl dX4_acts_4 rfl ?_
  obtain ⟨hb1, h⟩ := ab_ck_e h
  refine z_iald 45 (pc2 := 6) (j := (a2).toNatClampNeg) rfl dX4_acts_5 rfl rfl hb1 rfl ?_
  refine z_iconst (pc2 := 7) rfl dX4_acts_6 lt_i_4 ?_
  refine z_icmp_le (pc2 := 10) (tgt := 14) rfl dX4_acts_7 (by decide) (fun hc2 => ?_) (fun hc2 => ?_)
  · replace h := ab_pos hc2 h
    refine z_iconst (pc2 := 15) rfl dX4_acts_14 lt_i_0 ?_
    exact z_iret dX4_acts_15 rfl rfl (fi_p h)
  · replace h := ab_neg hc2 h
    refine z_iconst (pc2 := 11) rfl dX4_acts_10 lt_i_2 ?_
    refine ab_goto (tgt := 15) dX4_acts_11 (by decide) ?_
    exact z_iret dX4_acts_15 rfl rfl (fi_p h)
def f_X9_does (w : Nat) (a1 : Int32) (σ : ab_F) : Option (Int32 × ab_F) := ab_ck (ab_ib a1 8) ((if (σ (w + 6) (a1).toNatClampNeg) = (0 : Int32) then (f_X2_acts_25 w a1 σ).bind (fun q2 => ab_ck (ab_ib a1 8) ((f_J6_bitCount_0f7a4 (σ (w + 10) (a1).toNatClampNeg) σ).bind (fun q4 => (f_X9_doesBy w q2 q4 ((σ w 3) - (σ w 3) / (8 : Int32) * (8 : Int32)) σ).bind (fun q5 => (some (q5.1, q5.2)))))) else if (σ (w + 6) (a1).toNatClampNeg) = (1 : Int32) then (f_X5_acts_26 w a1 σ).bind (fun q7 => ab_ck (ab_ib a1 8) ((f_J6_bitCount_0f7a4 (σ (w + 10) (a1).toNatClampNeg) σ).bind (fun q9 => (f_X9_doesBy w q7 q9 ((σ w 3) - (σ w 3) / (8 : Int32) * (8 : Int32)) σ).bind (fun q10 => (some (q10.1, q10.2)))))) else if (σ (w + 6) (a1).toNatClampNeg) = (2 : Int32) then (f_X10_acts_27 w a1 σ).bind (fun q12 => ab_ck (ab_ib a1 8) ((f_J6_bitCount_0f7a4 (σ (w + 10) (a1).toNatClampNeg) σ).bind (fun q14 => (f_X9_doesBy w q12 q14 ((σ w 3) - (σ w 3) / (8 : Int32) * (8 : Int32)) σ).bind (fun q15 => (some (q15.1, q15.2)))))) else if (σ (w + 6) (a1).toNatClampNeg) = (3 : Int32) then (f_X3_acts_28 w a1 σ).bind (fun q17 => ab_ck (ab_ib a1 8) ((f_J6_bitCount_0f7a4 (σ (w + 10) (a1).toNatClampNeg) σ).bind (fun q19 => (f_X9_doesBy w q17 q19 ((σ w 3) - (σ w 3) / (8 : Int32) * (8 : Int32)) σ).bind (fun q20 => (some (q20.1, q20.2)))))) else if (σ (w + 6) (a1).toNatClampNeg) = (4 : Int32) then (f_X1_acts_29 w a1 σ).bind (fun q22 => ab_ck (ab_ib a1 8) ((f_J6_bitCount_0f7a4 (σ (w + 10) (a1).toNatClampNeg) σ).bind (fun q24 => (f_X9_doesBy w q22 q24 ((σ w 3) - (σ w 3) / (8 : Int32) * (8 : Int32)) σ).bind (fun q25 => (some (q25.1, q25.2)))))) else if (σ (w + 6) (a1).toNatClampNeg) = (5 : Int32) then (f_X0_acts_30 w a1 σ).bind (fun q27 => ab_ck (ab_ib a1 8) ((f_J6_bitCount_0f7a4 (σ (w + 10) (a1).toNatClampNeg) σ).bind (fun q29 => (f_X9_doesBy w q27 q29 ((σ w 3) - (σ w 3) / (8 : Int32) * (8 : Int32)) σ).bind (fun q30 => (some (q30.1, q30.2)))))) else if (σ (w + 6) (a1).toNatClampNeg) = (6 : Int32) then (f_X4_acts_31 w a1 σ).bind (fun q32 => ab_ck (ab_ib a1 8) ((f_J6_bitCount_0f7a4 (σ (w + 10) (a1).toNatClampNeg) σ).bind (fun q34 => (f_X9_doesBy w q32 q34 ((σ w 3) - (σ w 3) / (8 : Int32) * (8 : Int32)) σ).bind (fun q35 => (some (q35.1, q35.2)))))) else none))
set_option maxRecDepth 100000 in
set_option maxHeartbeats 4000000 in
theorem e_X9_does_38 {sc : Nat × (Nat → Int32)} {r : Option Nat × Option Nat} {a1 : Int32} {σ : ab_F} {res : (Int32 × ab_F)} (h : f_X9_does 38 a1 σ = some res) : ab_E mX9_does 3 sc 0 [some (.ref 38), some (.int a1)] [] (σ, r) (fun v S => v = some (.int res.1) ∧ S = (res.2, r)) := by
  unfold f_X9_does at h
  refine z_aload_n (pc2 := 1) rfl dX9_does_0 rfl ?_
  refine z_aload_n (pc2 := 2) rfl dX9_does_1 rfl ?_
  refine z_getR 38 9 0 24 (pc2 := 5) rfl dX9_does_2 rfl rfl ff_9_0 wd_228 rfl ?_
  refine z_aload_n (pc2 := 6) rfl dX9_does_5 rfl ?_
  refine z_getR 38 9 12 44 (pc2 := 9) rfl dX9_does_6 rfl rfl ff_9_12 wd_252 rfl ?_
  refine z_iload_n (pc2 := 10) rfl dX9_does_9 rfl ?_
  obtain ⟨hb1, h⟩ := ab_ck_e h
  refine z_iald 44 (pc2 := 11) (j := (a1).toNatClampNeg) rfl dX9_does_10 rfl rfl hb1 rfl ?_
  by_cases hi6 : (σ (38 + 6) (a1).toNatClampNeg) = (0 : Int32)
  · replace h := ab_pos hi6 h
    refine z_aaldG 24 25 (pc2 := 12) rfl dX9_does_11 rfl rfl (by rw [hi6]; rfl) (by rw [hi6]; rfl) ?_
    refine z_aload_n (pc2 := 13) rfl dX9_does_12 rfl ?_
    refine z_iload_n (pc2 := 14) rfl dX9_does_13 rfl ?_
    obtain ⟨q2, hq2, h⟩ := ab_bnd h
    refine z_callVi 25 [.ref 38, .int a1] [some (.ref 25), some (.ref 38), some (.int a1)] (pc2 := 17) rfl rfl dX9_does_14 ok_X2_acts ⟨fun _ => rfl, fun _ => Nat.le_of_ble_eq_true rfl⟩ rfl rv_25 wd_371 wd_372 wd_373 rfl (e_X2_acts_25_38 hq2) ?_
    refine z_aload_n (pc2 := 18) rfl dX9_does_17 rfl ?_
    refine z_getR 38 9 16 48 (pc2 := 21) rfl dX9_does_18 rfl rfl ff_9_16 wd_263 rfl ?_
    refine z_iload_n (pc2 := 22) rfl dX9_does_21 rfl ?_
    obtain ⟨hb3, h⟩ := ab_ck_e h
    refine z_iald 48 (pc2 := 23) (j := (a1).toNatClampNeg) rfl dX9_does_22 rfl rfl hb3 rfl ?_
    obtain ⟨q4, hq4, h⟩ := ab_bnd h
    refine z_callSi [.int (σ (38 + 10) (a1).toNatClampNeg)] [some (.int (σ (38 + 10) (a1).toNatClampNeg))] (pc2 := 26) rfl rfl dX9_does_23 ok_J6_bitCount_0f7a4 ⟨fun _ => rfl, fun _ => Nat.le_of_ble_eq_true rfl⟩ rfl wd_407 wd_386 rfl (e_J6_bitCount_0f7a4 hq4) ?_
    refine z_aload_n (pc2 := 27) rfl dX9_does_26 rfl ?_
    refine z_getI 38 9 3 (pc2 := 30) rfl dX9_does_27 rfl rfl ff_9_3 wd_235 ?_
    refine z_bipush (pc2 := 32) rfl dX9_does_30 lt_b_8 ?_
    refine z_irem (pc2 := 33) rfl dX9_does_32 (by decide) ?_
    obtain ⟨q5, hq5, h⟩ := ab_bnd h
    refine z_callVi 38 [.int q2, .int q4, .int ((σ 38 3) - (σ 38 3) / (8 : Int32) * (8 : Int32))] [some (.ref 38), some (.int q2), some (.int q4), some (.int ((σ 38 3) - (σ 38 3) / (8 : Int32) * (8 : Int32)))] (pc2 := 36) rfl rfl dX9_does_33 ok_X9_doesBy ⟨fun _ => rfl, fun _ => Nat.le_of_ble_eq_true rfl⟩ rfl rv_38 wd_408 wd_409 wd_410 rfl (e_X9_doesBy_38 hq5) ?_
    exact z_iret dX9_does_36 rfl rfl (fi_w h)
  · replace h := ab_neg hi6 h
    by_cases hi11 : (σ (38 + 6) (a1).toNatClampNeg) = (1 : Int32)
    · replace h := ab_pos hi11 h
      refine z_aaldG 24 26 (pc2 := 12) rfl dX9_does_11 rfl rfl (by rw [hi11]; rfl) (by rw [hi11]; rfl) ?_
      refine z_aload_n (pc2 := 13) rfl dX9_does_12 rfl ?_
      refine z_iload_n (pc2 := 14) rfl dX9_does_13 rfl ?_
      obtain ⟨q7, hq7, h⟩ := ab_bnd h
      refine z_callOi RX5 RX2 yX2_acts cX2_acts 3 (some .int) 26 [.ref 38, .int a1] [some (.ref 26), some (.ref 38), some (.int a1)] (pc2 := 17) rfl rfl dX9_does_14 ok_X5_acts ⟨fun _ => rfl, fun _ => Nat.le_of_ble_eq_true rfl⟩ rfl rv_26 wd_371 wd_374 wd_372 wd_404 wd_396 wd_406 ⟨by decide, by decide, rfl⟩ rfl (e_X5_acts_26_38 hq7) ?_
      refine z_aload_n (pc2 := 18) rfl dX9_does_17 rfl ?_
      refine z_getR 38 9 16 48 (pc2 := 21) rfl dX9_does_18 rfl rfl ff_9_16 wd_263 rfl ?_
      refine z_iload_n (pc2 := 22) rfl dX9_does_21 rfl ?_
      obtain ⟨hb8, h⟩ := ab_ck_e h
      refine z_iald 48 (pc2 := 23) (j := (a1).toNatClampNeg) rfl dX9_does_22 rfl rfl hb8 rfl ?_
      obtain ⟨q9, hq9, h⟩ := ab_bnd h
      refine z_callSi [.int (σ (38 + 10) (a1).toNatClampNeg)] [some (.int (σ (38 + 10) (a1).toNatClampNeg))] (pc2 := 26) rfl rfl dX9_does_23 ok_J6_bitCount_0f7a4 ⟨fun _ => rfl, fun _ => Nat.le_of_ble_eq_true rfl⟩ rfl wd_407 wd_386 rfl (e_J6_bitCount_0f7a4 hq9) ?_
      refine z_aload_n (pc2 := 27) rfl dX9_does_26 rfl ?_
      refine z_getI 38 9 3 (pc2 := 30) rfl dX9_does_27 rfl rfl ff_9_3 wd_235 ?_
      refine z_bipush (pc2 := 32) rfl dX9_does_30 lt_b_8 ?_
      refine z_irem (pc2 := 33) rfl dX9_does_32 (by decide) ?_
      obtain ⟨q10, hq10, h⟩ := ab_bnd h
      refine z_callVi 38 [.int q7, .int q9, .int ((σ 38 3) - (σ 38 3) / (8 : Int32) * (8 : Int32))] [some (.ref 38), some (.int q7), some (.int q9), some (.int ((σ 38 3) - (σ 38 3) / (8 : Int32) * (8 : Int32)))] (pc2 := 36) rfl rfl dX9_does_33 ok_X9_doesBy ⟨fun _ => rfl, fun _ => Nat.le_of_ble_eq_true rfl⟩ rfl rv_38 wd_408 wd_409 wd_410 rfl (e_X9_doesBy_38 hq10) ?_
      exact z_iret dX9_does_36 rfl rfl (fi_w h)
    · replace h := ab_neg hi11 h
      by_cases hi16 : (σ (38 + 6) (a1).toNatClampNeg) = (2 : Int32)
      · replace h := ab_pos hi16 h
        refine z_aaldG 24 27 (pc2 := 12) rfl dX9_does_11 rfl rfl (by rw [hi16]; rfl) (by rw [hi16]; rfl) ?_
        refine z_aload_n (pc2 := 13) rfl dX9_does_12 rfl ?_
        refine z_iload_n (pc2 := 14) rfl dX9_does_13 rfl ?_
        obtain ⟨q12, hq12, h⟩ := ab_bnd h
        refine z_callOi RX10 RX2 yX2_acts cX2_acts 3 (some .int) 27 [.ref 38, .int a1] [some (.ref 27), some (.ref 38), some (.int a1)] (pc2 := 17) rfl rfl dX9_does_14 ok_X10_acts ⟨fun _ => rfl, fun _ => Nat.le_of_ble_eq_true rfl⟩ rfl rv_27 wd_371 wd_374 wd_372 wd_405 wd_383 wd_406 ⟨by decide, by decide, rfl⟩ rfl (e_X10_acts_27_38 hq12) ?_
        refine z_aload_n (pc2 := 18) rfl dX9_does_17 rfl ?_
        refine z_getR 38 9 16 48 (pc2 := 21) rfl dX9_does_18 rfl rfl ff_9_16 wd_263 rfl ?_
        refine z_iload_n (pc2 := 22) rfl dX9_does_21 rfl ?_
        obtain ⟨hb13, h⟩ := ab_ck_e h
        refine z_iald 48 (pc2 := 23) (j := (a1).toNatClampNeg) rfl dX9_does_22 rfl rfl hb13 rfl ?_
        obtain ⟨q14, hq14, h⟩ := ab_bnd h
        refine z_callSi [.int (σ (38 + 10) (a1).toNatClampNeg)] [some (.int (σ (38 + 10) (a1).toNatClampNeg))] (pc2 := 26) rfl rfl dX9_does_23 ok_J6_bitCount_0f7a4 ⟨fun _ => rfl, fun _ => Nat.le_of_ble_eq_true rfl⟩ rfl wd_407 wd_386 rfl (e_J6_bitCount_0f7a4 hq14) ?_
        refine z_aload_n (pc2 := 27) rfl dX9_does_26 rfl ?_
        refine z_getI 38 9 3 (pc2 := 30) rfl dX9_does_27 rfl rfl ff_9_3 wd_235 ?_
        refine z_bipush (pc2 := 32) rfl dX9_does_30 lt_b_8 ?_
        refine z_irem (pc2 := 33) rfl dX9_does_32 (by decide) ?_
        obtain ⟨q15, hq15, h⟩ := ab_bnd h
        refine z_callVi 38 [.int q12, .int q14, .int ((σ 38 3) - (σ 38 3) / (8 : Int32) * (8 : Int32))] [some (.ref 38), some (.int q12), some (.int q14), some (.int ((σ 38 3) - (σ 38 3) / (8 : Int32) * (8 : Int32)))] (pc2 := 36) rfl rfl dX9_does_33 ok_X9_doesBy ⟨fun _ => rfl, fun _ => Nat.le_of_ble_eq_true rfl⟩ rfl rv_38 wd_408 wd_409 wd_410 rfl (e_X9_doesBy_38 hq15) ?_
        exact z_iret dX9_does_36 rfl rfl (fi_w h)
      · replace h := ab_neg hi16 h
        by_cases hi21 : (σ (38 + 6) (a1).toNatClampNeg) = (3 : Int32)
        · replace h := ab_pos hi21 h
          refine z_aaldG 24 28 (pc2 := 12) rfl dX9_does_11 rfl rfl (by rw [hi21]; rfl) (by rw [hi21]; rfl) ?_
          refine z_aload_n (pc2 := 13) rfl dX9_does_12 rfl ?_
          refine z_iload_n (pc2 := 14) rfl dX9_does_13 rfl ?_
          obtain ⟨q17, hq17, h⟩ := ab_bnd h
          refine z_callOi RX3 RX2 yX2_acts cX2_acts 3 (some .int) 28 [.ref 38, .int a1] [some (.ref 28), some (.ref 38), some (.int a1)] (pc2 := 17) rfl rfl dX9_does_14 ok_X3_acts ⟨fun _ => rfl, fun _ => Nat.le_of_ble_eq_true rfl⟩ rfl rv_28 wd_371 wd_374 wd_372 wd_398 wd_399 wd_406 ⟨by decide, by decide, rfl⟩ rfl (e_X3_acts_28_38 hq17) ?_
          refine z_aload_n (pc2 := 18) rfl dX9_does_17 rfl ?_
          refine z_getR 38 9 16 48 (pc2 := 21) rfl dX9_does_18 rfl rfl ff_9_16 wd_263 rfl ?_
          refine z_iload_n (pc2 := 22) rfl dX9_does_21 rfl ?_
          obtain ⟨hb18, h⟩ := ab_ck_e h
          refine z_iald 48 (pc2 := 23) (j := (a1).toNatClampNeg) rfl dX9_does_22 rfl rfl hb18 rfl ?_
          obtain ⟨q19, hq19, h⟩ := ab_bnd h
          refine z_callSi [.int (σ (38 + 10) (a1).toNatClampNeg)] [some (.int (σ (38 + 10) (a1).toNatClampNeg))] (pc2 := 26) rfl rfl dX9_does_23 ok_J6_bitCount_0f7a4 ⟨fun _ => rfl, fun _ => Nat.le_of_ble_eq_true rfl⟩ rfl wd_407 wd_386 rfl (e_J6_bitCount_0f7a4 hq19) ?_
          refine z_aload_n (pc2 := 27) rfl dX9_does_26 rfl ?_
          refine z_getI 38 9 3 (pc2 := 30) rfl dX9_does_27 rfl rfl ff_9_3 wd_235 ?_
          refine z_bipush (pc2 := 32) rfl dX9_does_30 lt_b_8 ?_
          refine z_irem (pc2 := 33) rfl dX9_does_32 (by decide) ?_
          obtain ⟨q20, hq20, h⟩ := ab_bnd h
          refine z_callVi 38 [.int q17, .int q19, .int ((σ 38 3) - (σ 38 3) / (8 : Int32) * (8 : Int32))] [some (.ref 38), some (.int q17), some (.int q19), some (.int ((σ 38 3) - (σ 38 3) / (8 : Int32) * (8 : Int32)))] (pc2 := 36) rfl rfl dX9_does_33 ok_X9_doesBy ⟨fun _ => rfl, fun _ => Nat.le_of_ble_eq_true rfl⟩ rfl rv_38 wd_408 wd_409 wd_410 rfl (e_X9_doesBy_38 hq20) ?_
          exact z_iret dX9_does_36 rfl rfl (fi_w h)
        · replace h := ab_neg hi21 h
          by_cases hi26 : (σ (38 + 6) (a1).toNatClampNeg) = (4 : Int32)
          · replace h := ab_pos hi26 h
            refine z_aaldG 24 29 (pc2 := 12) rfl dX9_does_11 rfl rfl (by rw [hi26]; rfl) (by rw [hi26]; rfl) ?_
            refine z_aload_n (pc2 := 13) rfl dX9_does_12 rfl ?_
            refine z_iload_n (pc2 := 14) rfl dX9_does_13 rfl ?_
            obtain ⟨q22, hq22, h⟩ := ab_bnd h
            refine z_callOi RX1 RX2 yX2_acts cX2_acts 3 (some .int) 29 [.ref 38, .int a1] [some (.ref 29), some (.ref 38), some (.int a1)] (pc2 := 17) rfl rfl dX9_does_14 ok_X1_acts ⟨fun _ => rfl, fun _ => Nat.le_of_ble_eq_true rfl⟩ rfl rv_29 wd_371 wd_374 wd_372 wd_392 wd_393 wd_406 ⟨by decide, by decide, rfl⟩ rfl (e_X1_acts_29_38 hq22) ?_
            refine z_aload_n (pc2 := 18) rfl dX9_does_17 rfl ?_
            refine z_getR 38 9 16 48 (pc2 := 21) rfl dX9_does_18 rfl rfl ff_9_16 wd_263 rfl ?_
            refine z_iload_n (pc2 := 22) rfl dX9_does_21 rfl ?_
            obtain ⟨hb23, h⟩ := ab_ck_e h
            refine z_iald 48 (pc2 := 23) (j := (a1).toNatClampNeg) rfl dX9_does_22 rfl rfl hb23 rfl ?_
            obtain ⟨q24, hq24, h⟩ := ab_bnd h
            refine z_callSi [.int (σ (38 + 10) (a1).toNatClampNeg)] [some (.int (σ (38 + 10) (a1).toNatClampNeg))] (pc2 := 26) rfl rfl dX9_does_23 ok_J6_bitCount_0f7a4 ⟨fun _ => rfl, fun _ => Nat.le_of_ble_eq_true rfl⟩ rfl wd_407 wd_386 rfl (e_J6_bitCount_0f7a4 hq24) ?_
            refine z_aload_n (pc2 := 27) rfl dX9_does_26 rfl ?_
            refine z_getI 38 9 3 (pc2 := 30) rfl dX9_does_27 rfl rfl ff_9_3 wd_235 ?_
            refine z_bipush (pc2 := 32) rfl dX9_does_30 lt_b_8 ?_
            refine z_irem (pc2 := 33) rfl dX9_does_32 (by decide) ?_
            obtain ⟨q25, hq25, h⟩ := ab_bnd h
            refine z_callVi 38 [.int q22, .int q24, .int ((σ 38 3) - (σ 38 3) / (8 : Int32) * (8 : Int32))] [some (.ref 38), some (.int q22), some (.int q24), some (.int ((σ 38 3) - (σ 38 3) / (8 : Int32) * (8 : Int32)))] (pc2 := 36) rfl rfl dX9_does_33 ok_X9_doesBy ⟨fun _ => rfl, fun _ => Nat.le_of_ble_eq_true rfl⟩ rfl rv_38 wd_408 wd_409 wd_410 rfl (e_X9_doesBy_38 hq25) ?_
            exact z_iret dX9_does_36 rfl rfl (fi_w h)
          · replace h := ab_neg hi26 h
            by_cases hi31 : (σ (38 + 6) (a1).toNatClampNeg) = (5 : Int32)
            · replace h := ab_pos hi31 h
              refine z_aaldG 24 30 (pc2 := 12) rfl dX9_does_11 rfl rfl (by rw [hi31]; rfl) (by rw [hi31]; rfl) ?_
              refine z_aload_n (pc2 := 13) rfl dX9_does_12 rfl ?_
              refine z_iload_n (pc2 := 14) rfl dX9_does_13 rfl ?_
              obtain ⟨q27, hq27, h⟩ := ab_bnd h
              refine z_callOi RX0 RX2 yX2_acts cX2_acts 3 (some .int) 30 [.ref 38, .int a1] [some (.ref 30), some (.ref 38), some (.int a1)] (pc2 := 17) rfl rfl dX9_does_14 ok_X0_acts ⟨fun _ => rfl, fun _ => Nat.le_of_ble_eq_true rfl⟩ rfl rv_30 wd_371 wd_374 wd_372 wd_375 wd_376 wd_406 ⟨by decide, by decide, rfl⟩ rfl (e_X0_acts_30_38 hq27) ?_
              refine z_aload_n (pc2 := 18) rfl dX9_does_17 rfl ?_
              refine z_getR 38 9 16 48 (pc2 := 21) rfl dX9_does_18 rfl rfl ff_9_16 wd_263 rfl ?_
              refine z_iload_n (pc2 := 22) rfl dX9_does_21 rfl ?_
              obtain ⟨hb28, h⟩ := ab_ck_e h
              refine z_iald 48 (pc2 := 23) (j := (a1).toNatClampNeg) rfl dX9_does_22 rfl rfl hb28 rfl ?_
              obtain ⟨q29, hq29, h⟩ := ab_bnd h
              refine z_callSi [.int (σ (38 + 10) (a1).toNatClampNeg)] [some (.int (σ (38 + 10) (a1).toNatClampNeg))] (pc2 := 26) rfl rfl dX9_does_23 ok_J6_bitCount_0f7a4 ⟨fun _ => rfl, fun _ => Nat.le_of_ble_eq_true rfl⟩ rfl wd_407 wd_386 rfl (e_J6_bitCount_0f7a4 hq29) ?_
              refine z_aload_n (pc2 := 27) rfl dX9_does_26 rfl ?_
              refine z_getI 38 9 3 (pc2 := 30) rfl dX9_does_27 rfl rfl ff_9_3 wd_235 ?_
              refine z_bipush (pc2 := 32) rfl dX9_does_30 lt_b_8 ?_
              refine z_irem (pc2 := 33) rfl dX9_does_32 (by decide) ?_
              obtain ⟨q30, hq30, h⟩ := ab_bnd h
              refine z_callVi 38 [.int q27, .int q29, .int ((σ 38 3) - (σ 38 3) / (8 : Int32) * (8 : Int32))] [some (.ref 38), some (.int q27), some (.int q29), some (.int ((σ 38 3) - (σ 38 3) / (8 : Int32) * (8 : Int32)))] (pc2 := 36) rfl rfl dX9_does_33 ok_X9_doesBy ⟨fun _ => rfl, fun _ => Nat.le_of_ble_eq_true rfl⟩ rfl rv_38 wd_408 wd_409 wd_410 rfl (e_X9_doesBy_38 hq30) ?_
              exact z_iret dX9_does_36 rfl rfl (fi_w h)
            · replace h := ab_neg hi31 h
              by_cases hi36 : (σ (38 + 6) (a1).toNatClampNeg) = (6 : Int32)
              · replace h := ab_pos hi36 h
                refine z_aaldG 24 31 (pc2 := 12) rfl dX9_does_11 rfl rfl (by rw [hi36]; rfl) (by rw [hi36]; rfl) ?_
                refine z_aload_n (pc2 := 13) rfl dX9_does_12 rfl ?_
                refine z_iload_n (pc2 := 14) rfl dX9_does_13 rfl ?_
                obtain ⟨q32, hq32, h⟩ := ab_bnd h
                refine z_callOi RX4 RX2 yX2_acts cX2_acts 3 (some .int) 31 [.ref 38, .int a1] [some (.ref 31), some (.ref 38), some (.int a1)] (pc2 := 17) rfl rfl dX9_does_14 ok_X4_acts ⟨fun _ => rfl, fun _ => Nat.le_of_ble_eq_true rfl⟩ rfl rv_31 wd_371 wd_374 wd_372 wd_401 wd_402 wd_406 ⟨by decide, by decide, rfl⟩ rfl (e_X4_acts_31_38 hq32) ?_
                refine z_aload_n (pc2 := 18) rfl dX9_does_17 rfl ?_
                refine z_getR 38 9 16 48 (pc2 := 21) rfl dX9_does_18 rfl rfl ff_9_16 wd_263 rfl ?_
                refine z_iload_n (pc2 := 22) rfl dX9_does_21 rfl ?_
                obtain ⟨hb33, h⟩ := ab_ck_e h
                refine z_iald 48 (pc2 := 23) (j := (a1).toNatClampNeg) rfl dX9_does_22 rfl rfl hb33 rfl ?_
                obtain ⟨q34, hq34, h⟩ := ab_bnd h
                refine z_callSi [.int (σ (38 + 10) (a1).toNatClampNeg)] [some (.int (σ (38 + 10) (a1).toNatClampNeg))] (pc2 := 26) rfl rfl dX9_does_23 ok_J6_bitCount_0f7a4 ⟨fun _ => rfl, fun _ => Nat.le_of_ble_eq_true rfl⟩ rfl wd_407 wd_386 rfl (e_J6_bitCount_0f7a4 hq34) ?_
                refine z_aload_n (pc2 := 27) rfl dX9_does_26 rfl ?_
                refine z_getI 38 9 3 (pc2 := 30) rfl dX9_does_27 rfl rfl ff_9_3 wd_235 ?_
                refine z_bipush (pc2 := 32) rfl dX9_does_30 lt_b_8 ?_
                refine z_irem (pc2 := 33) rfl dX9_does_32 (by decide) ?_
                obtain ⟨q35, hq35, h⟩ := ab_bnd h
                refine z_callVi 38 [.int q32, .int q34, .int ((σ 38 3) - (σ 38 3) / (8 : Int32) * (8 : Int32))] [some (.ref 38), some (.int q32), some (.int q34), some (.int ((σ 38 3) - (σ 38 3) / (8 : Int32) * (8 : Int32)))] (pc2 := 36) rfl rfl dX9_does_33 ok_X9_doesBy ⟨fun _ => rfl, fun _ => Nat.le_of_ble_eq_true rfl⟩ rfl rv_38 wd_408 wd_409 wd_410 rfl (e_X9_doesBy_38 hq35) ?_
                exact z_iret dX9_does_36 rfl rfl (fi_w h)
              · replace h := ab_neg hi36 h
                cases h
def f_X2_tall_25 (w : Nat) (a2 : Int32) (σ : ab_F) : Option Int32 := (some (6 : Int32))
set_option maxRecDepth 100000 in
set_option maxHeartbeats 4000000 in
theorem e_X2_tall_25_38 {sc : Nat × (Nat → Int32)} {r : Option Nat × Option Nat} {a2 : Int32} {σ : ab_F} {res : Int32} (h : f_X2_tall_25 38 a2 σ = some res) : ab_E mX2_tall 0 sc 0 [some (.ref 25), some (.ref 38), some (.int a2)] [] (σ, r) (fun v S => v = some (.int res) ∧ S = (σ, r)) := by
  unfold f_X2_tall_25 at h
  refine z_bipush (pc2 := 2) rfl dX2_tall_0 lt_b_6 ?_
  exact z_iret dX2_tall_2 rfl rfl (fi_p h)
def f_J9_min_7cf53 (a0 : Int32) (a1 : Int32) (σ : ab_F) : Option Int32 := (if a1 < a0 then (some a1) else (some a0))
set_option maxRecDepth 100000 in
set_option maxHeartbeats 4000000 in
theorem e_J9_min_7cf53 {sc : Nat × (Nat → Int32)} {r : Option Nat × Option Nat} {a0 : Int32} {a1 : Int32} {σ : ab_F} {res : Int32} (h : f_J9_min_7cf53 a0 a1 σ = some res) : ab_E mJ9_min_7cf53 0 sc 0 [some (.int a0), some (.int a1)] [] (σ, r) (fun v S => v = some (.int res) ∧ S = (σ, r)) := by
  unfold f_J9_min_7cf53 at h
  refine z_iload_n (pc2 := 1) rfl dJ9_min_7cf53_0 rfl ?_
  refine z_iload_n (pc2 := 2) rfl dJ9_min_7cf53_1 rfl ?_
  refine z_icmp_gt (pc2 := 5) (tgt := 9) rfl dJ9_min_7cf53_2 (by decide) (fun hc1 => ?_) (fun hc1 => ?_)
  · replace h := ab_pos hc1 h
    refine z_iload_n (pc2 := 10) rfl dJ9_min_7cf53_9 rfl ?_
    exact z_iret dJ9_min_7cf53_10 rfl rfl (fi_p h)
  · replace h := ab_neg hc1 h
    refine z_iload_n (pc2 := 6) rfl dJ9_min_7cf53_5 rfl ?_
    refine ab_goto (tgt := 10) dJ9_min_7cf53_6 (by decide) ?_
    exact z_iret dJ9_min_7cf53_10 rfl rfl (fi_p h)
def f_J9_max_7cf53 (a0 : Int32) (a1 : Int32) (σ : ab_F) : Option Int32 := (if a0 < a1 then (some a1) else (some a0))
set_option maxRecDepth 100000 in
set_option maxHeartbeats 4000000 in
theorem e_J9_max_7cf53 {sc : Nat × (Nat → Int32)} {r : Option Nat × Option Nat} {a0 : Int32} {a1 : Int32} {σ : ab_F} {res : Int32} (h : f_J9_max_7cf53 a0 a1 σ = some res) : ab_E mJ9_max_7cf53 0 sc 0 [some (.int a0), some (.int a1)] [] (σ, r) (fun v S => v = some (.int res) ∧ S = (σ, r)) := by
  unfold f_J9_max_7cf53 at h
  refine z_iload_n (pc2 := 1) rfl dJ9_max_7cf53_0 rfl ?_
  refine z_iload_n (pc2 := 2) rfl dJ9_max_7cf53_1 rfl ?_
  refine z_icmp_lt (pc2 := 5) (tgt := 9) rfl dJ9_max_7cf53_2 (by decide) (fun hc1 => ?_) (fun hc1 => ?_)
  · replace h := ab_pos hc1 h
    refine z_iload_n (pc2 := 10) rfl dJ9_max_7cf53_9 rfl ?_
    exact z_iret dJ9_max_7cf53_10 rfl rfl (fi_p h)
  · replace h := ab_neg hc1 h
    refine z_iload_n (pc2 := 6) rfl dJ9_max_7cf53_5 rfl ?_
    refine ab_goto (tgt := 10) dJ9_max_7cf53_6 (by decide) ?_
    exact z_iret dJ9_max_7cf53_10 rfl rfl (fi_p h)
set_option maxRecDepth 100000 in
set_option maxHeartbeats 4000000 in
theorem e_X7_gives_35_L6 {sc : Nat × (Nat → Int32)} {r : Option Nat × Option Nat} {p1 : Int32} {p2 : Int32} {p3 : Int32} {K : ab_F → Option (Int32 × ab_F)} {res : (Int32 × ab_F)} (hK : ∀ (σ : ab_F), K σ = some res → ab_E mX7_gives 1 sc 164 [some (.ref 35), none, none, none, none, none, none] [] (σ, r) (fun v S => v = some (.int res.1) ∧ S = (res.2, r))) : ∀ (n : Nat) (u4 : Int32) (u5 : Int32) (σ : ab_F), f_X7_gives_L6 35 p1 p2 p3 K n u4 u5 σ = some res → ab_E mX7_gives 1 sc 6 [some (.ref 35), some (.int p1), some (.int p2), some (.int p3), some (.int u4), some (.int u5), none] [] (σ, r) (fun v S => v = some (.int res.1) ∧ S = (res.2, r)) := by
  intro n
  induction n with
  | zero =>
    intro u4 u5 σ h
    rw [f_X7_gives_L6] at h
    cases h
  | succ n ih =>
    intro u4 u5 σ h
    rw [f_X7_gives_L6] at h
    refine z_iload (pc2 := 8) rfl dX7_gives_6 rfl ?_
    refine z_aload_n (pc2 := 9) rfl dX7_gives_8 rfl ?_
    refine z_getI 35 7 0 (pc2 := 12) rfl dX7_gives_9 rfl rfl ff_7_0 wd_119 ?_
    refine z_icmp_ge (pc2 := 15) (tgt := 164) rfl dX7_gives_12 (by decide) (fun hc1 => ?_) (fun hc1 => ?_)
    · replace h := ab_pos hc1 h
      refine z_fgt [true, false, false, false, false, false, false] (L2 := [some (.ref 35), none, none, none, none, none, none]) rfl ?_
      exact hK  _ h
    · replace h := ab_neg hc1 h
      refine z_aload_n (pc2 := 16) rfl dX7_gives_15 rfl ?_
      refine z_getR 35 7 1 36 (pc2 := 19) rfl dX7_gives_16 rfl rfl ff_7_1 wd_122 rfl ?_
      refine z_iload (pc2 := 21) rfl dX7_gives_19 rfl ?_
      obtain ⟨hb2, h⟩ := ab_ck_e h
      refine z_iald 36 (pc2 := 22) (j := (u5).toNatClampNeg) rfl dX7_gives_21 rfl rfl hb2 rfl ?_
      obtain ⟨x3, hxx3, h⟩ := ab_lt_e h
      refine z_top hxx3 ?_
      refine z_istore (pc2 := 24) (L2 := [some (.ref 35), some (.int p1), some (.int p2), some (.int p3), some (.int u4), some (.int u5), some (.int x3)]) rfl dX7_gives_22 (by decide) rfl rfl ?_
      refine z_iload (pc2 := 26) rfl dX7_gives_24 rfl ?_
      refine z_bipush (pc2 := 28) rfl dX7_gives_26 lt_b_m3 ?_
      refine z_icmp_lt (pc2 := 31) (tgt := 83) rfl dX7_gives_28 (by decide) (fun hc4 => ?_) (fun hc4 => ?_)
      · replace h := ab_pos hc4 h
        refine z_iload (pc2 := 85) rfl dX7_gives_83 rfl ?_
        refine z_bipush (pc2 := 87) rfl dX7_gives_85 lt_b_m33 ?_
        refine z_icmp_ne (pc2 := 90) (tgt := 120) rfl dX7_gives_87 (by decide) (fun hc5 => ?_) (fun hc5 => ?_)
        · replace h := ab_neg hc5 h
          refine z_iload (pc2 := 122) rfl dX7_gives_120 rfl ?_
          refine z_iconst (pc2 := 123) rfl dX7_gives_122 lt_i_1 ?_
          refine z_icmp_lt (pc2 := 126) (tgt := 158) rfl dX7_gives_123 (by decide) (fun hc6 => ?_) (fun hc6 => ?_)
          · replace h := ab_pos hc6 h
            obtain ⟨x7, hxx7, h⟩ := ab_lt_e h
            refine z_iinc (pc2 := 161) (v := x7) (L2 := [some (.ref 35), some (.int p1), some (.int p2), some (.int p3), some (.int u4), some (.int x7), some (.int x3)]) rfl dX7_gives_158 rfl (by rw [hxx7]; rfl) (by decide) rfl rfl ?_
            refine ab_goto (tgt := 6) dX7_gives_161 (by decide) ?_
            refine z_fgt [true, true, true, true, true, true, false] (L2 := [some (.ref 35), some (.int p1), some (.int p2), some (.int p3), some (.int u4), some (.int x7), none]) rfl ?_
            exact ih _ _ _ h
          · replace h := ab_neg hc6 h
            obtain ⟨x8, hxx8, h⟩ := ab_lt_e h
            refine z_iinc (pc2 := 129) (v := x8) (L2 := [some (.ref 35), some (.int p1), some (.int p2), some (.int p3), some (.int x8), some (.int u5), some (.int x3)]) rfl dX7_gives_126 rfl (by rw [hxx8]; rfl) (by decide) rfl rfl ?_
            refine z_aload_n (pc2 := 130) rfl dX7_gives_129 rfl ?_
            refine z_getR 35 7 2 37 (pc2 := 133) rfl dX7_gives_130 rfl rfl ff_7_2 wd_123 rfl ?_
            refine z_iload (pc2 := 135) rfl dX7_gives_133 rfl ?_
            refine z_iload (pc2 := 137) rfl dX7_gives_135 rfl ?_
            refine z_ineg (pc2 := 138) rfl dX7_gives_137 ?_
            refine z_aload_n (pc2 := 139) rfl dX7_gives_138 rfl ?_
            refine z_getR 35 7 2 37 (pc2 := 142) rfl dX7_gives_139 rfl rfl ff_7_2 wd_123 rfl ?_
            refine z_iload (pc2 := 144) rfl dX7_gives_142 rfl ?_
            obtain ⟨hb9, h⟩ := ab_ck_e h
            refine z_iald 37 (pc2 := 145) (j := (x8).toNatClampNeg) rfl dX7_gives_144 rfl rfl hb9 rfl ?_
            refine z_aload_n (pc2 := 146) rfl dX7_gives_145 rfl ?_
            refine z_getR 35 7 2 37 (pc2 := 149) rfl dX7_gives_146 rfl rfl ff_7_2 wd_123 rfl ?_
            refine z_iload (pc2 := 151) rfl dX7_gives_149 rfl ?_
            refine z_iconst (pc2 := 152) rfl dX7_gives_151 lt_i_1 ?_
            refine z_iadd (pc2 := 153) rfl dX7_gives_152 ?_
            obtain ⟨hb10, h⟩ := ab_ck_e h
            refine z_iald 37 (pc2 := 154) (j := ((x8 + (1 : Int32))).toNatClampNeg) rfl dX7_gives_153 rfl rfl hb10 rfl ?_
            obtain ⟨q11, hq11, h⟩ := ab_bnd h
            refine z_callSi [.int (-x3), .int (σ (35 + 2) (x8).toNatClampNeg), .int (σ (35 + 2) ((x8 + (1 : Int32))).toNatClampNeg)] [some (.int (-x3)), some (.int (σ (35 + 2) (x8).toNatClampNeg)), some (.int (σ (35 + 2) ((x8 + (1 : Int32))).toNatClampNeg))] (pc2 := 157) rfl rfl dX7_gives_154 ok_X7_worked ⟨fun _ => rfl, fun _ => Nat.le_of_ble_eq_true rfl⟩ rfl wd_416 wd_417 rfl (e_X7_worked hq11) ?_
            obtain ⟨hb12, h⟩ := ab_ck_e h
            refine z_iast 37 (pc2 := 158) (j := (x8).toNatClampNeg) rfl dX7_gives_157 rfl rfl hb12 rfl ?_
            obtain ⟨s13, hs13, h⟩ := ab_lt_e h
            refine z_tops hs13 ?_
            obtain ⟨x14, hxx14, h⟩ := ab_lt_e h
            refine z_iinc (pc2 := 161) (v := x14) (L2 := [some (.ref 35), some (.int p1), some (.int p2), some (.int p3), some (.int x8), some (.int x14), some (.int x3)]) rfl dX7_gives_158 rfl (by rw [hxx14]; rfl) (by decide) rfl rfl ?_
            refine ab_goto (tgt := 6) dX7_gives_161 (by decide) ?_
            refine z_fgt [true, true, true, true, true, true, false] (L2 := [some (.ref 35), some (.int p1), some (.int p2), some (.int p3), some (.int x8), some (.int x14), none]) rfl ?_
            exact ih _ _ _ h
        · replace h := ab_pos hc5 h
          refine z_iload (pc2 := 92) rfl dX7_gives_90 rfl ?_
          refine z_if_lt (pc2 := 95) (tgt := 120) rfl dX7_gives_92 (by decide) (fun hc15 => ?_) (fun hc15 => ?_)
          · replace h := ab_pos hc15 h
            refine z_iload (pc2 := 122) rfl dX7_gives_120 rfl ?_
            refine z_iconst (pc2 := 123) rfl dX7_gives_122 lt_i_1 ?_
            refine z_icmp_lt (pc2 := 126) (tgt := 158) rfl dX7_gives_123 (by decide) (fun hc16 => ?_) (fun hc16 => ?_)
            · replace h := ab_pos hc16 h
              obtain ⟨x17, hxx17, h⟩ := ab_lt_e h
              refine z_iinc (pc2 := 161) (v := x17) (L2 := [some (.ref 35), some (.int p1), some (.int p2), some (.int p3), some (.int u4), some (.int x17), some (.int x3)]) rfl dX7_gives_158 rfl (by rw [hxx17]; rfl) (by decide) rfl rfl ?_
              refine ab_goto (tgt := 6) dX7_gives_161 (by decide) ?_
              refine z_fgt [true, true, true, true, true, true, false] (L2 := [some (.ref 35), some (.int p1), some (.int p2), some (.int p3), some (.int u4), some (.int x17), none]) rfl ?_
              exact ih _ _ _ h
            · replace h := ab_neg hc16 h
              obtain ⟨x18, hxx18, h⟩ := ab_lt_e h
              refine z_iinc (pc2 := 129) (v := x18) (L2 := [some (.ref 35), some (.int p1), some (.int p2), some (.int p3), some (.int x18), some (.int u5), some (.int x3)]) rfl dX7_gives_126 rfl (by rw [hxx18]; rfl) (by decide) rfl rfl ?_
              refine z_aload_n (pc2 := 130) rfl dX7_gives_129 rfl ?_
              refine z_getR 35 7 2 37 (pc2 := 133) rfl dX7_gives_130 rfl rfl ff_7_2 wd_123 rfl ?_
              refine z_iload (pc2 := 135) rfl dX7_gives_133 rfl ?_
              refine z_iload (pc2 := 137) rfl dX7_gives_135 rfl ?_
              refine z_ineg (pc2 := 138) rfl dX7_gives_137 ?_
              refine z_aload_n (pc2 := 139) rfl dX7_gives_138 rfl ?_
              refine z_getR 35 7 2 37 (pc2 := 142) rfl dX7_gives_139 rfl rfl ff_7_2 wd_123 rfl ?_
              refine z_iload (pc2 := 144) rfl dX7_gives_142 rfl ?_
              obtain ⟨hb19, h⟩ := ab_ck_e h
              refine z_iald 37 (pc2 := 145) (j := (x18).toNatClampNeg) rfl dX7_gives_144 rfl rfl hb19 rfl ?_
              refine z_aload_n (pc2 := 146) rfl dX7_gives_145 rfl ?_
              refine z_getR 35 7 2 37 (pc2 := 149) rfl dX7_gives_146 rfl rfl ff_7_2 wd_123 rfl ?_
              refine z_iload (pc2 := 151) rfl dX7_gives_149 rfl ?_
              refine z_iconst (pc2 := 152) rfl dX7_gives_151 lt_i_1 ?_
              refine z_iadd (pc2 := 153) rfl dX7_gives_152 ?_
              obtain ⟨hb20, h⟩ := ab_ck_e h
              refine z_iald 37 (pc2 := 154) (j := ((x18 + (1 : Int32))).toNatClampNeg) rfl dX7_gives_153 rfl rfl hb20 rfl ?_
              obtain ⟨q21, hq21, h⟩ := ab_bnd h
              refine z_callSi [.int (-x3), .int (σ (35 + 2) (x18).toNatClampNeg), .int (σ (35 + 2) ((x18 + (1 : Int32))).toNatClampNeg)] [some (.int (-x3)), some (.int (σ (35 + 2) (x18).toNatClampNeg)), some (.int (σ (35 + 2) ((x18 + (1 : Int32))).toNatClampNeg))] (pc2 := 157) rfl rfl dX7_gives_154 ok_X7_worked ⟨fun _ => rfl, fun _ => Nat.le_of_ble_eq_true rfl⟩ rfl wd_416 wd_417 rfl (e_X7_worked hq21) ?_
              obtain ⟨hb22, h⟩ := ab_ck_e h
              refine z_iast 37 (pc2 := 158) (j := (x18).toNatClampNeg) rfl dX7_gives_157 rfl rfl hb22 rfl ?_
              obtain ⟨s23, hs23, h⟩ := ab_lt_e h
              refine z_tops hs23 ?_
              obtain ⟨x24, hxx24, h⟩ := ab_lt_e h
              refine z_iinc (pc2 := 161) (v := x24) (L2 := [some (.ref 35), some (.int p1), some (.int p2), some (.int p3), some (.int x18), some (.int x24), some (.int x3)]) rfl dX7_gives_158 rfl (by rw [hxx24]; rfl) (by decide) rfl rfl ?_
              refine ab_goto (tgt := 6) dX7_gives_161 (by decide) ?_
              refine z_fgt [true, true, true, true, true, true, false] (L2 := [some (.ref 35), some (.int p1), some (.int p2), some (.int p3), some (.int x18), some (.int x24), none]) rfl ?_
              exact ih _ _ _ h
          · replace h := ab_neg hc15 h
            refine z_aload_n (pc2 := 96) rfl dX7_gives_95 rfl ?_
            refine z_getR 35 7 2 37 (pc2 := 99) rfl dX7_gives_96 rfl rfl ff_7_2 wd_123 rfl ?_
            refine z_iload (pc2 := 101) rfl dX7_gives_99 rfl ?_
            refine z_aload_n (pc2 := 102) rfl dX7_gives_101 rfl ?_
            refine z_getR 35 7 2 37 (pc2 := 105) rfl dX7_gives_102 rfl rfl ff_7_2 wd_123 rfl ?_
            refine z_iload (pc2 := 107) rfl dX7_gives_105 rfl ?_
            obtain ⟨hb25, h⟩ := ab_ck_e h
            refine z_iald 37 (pc2 := 108) (j := (u4).toNatClampNeg) rfl dX7_gives_107 rfl rfl hb25 rfl ?_
            refine z_if_ne (pc2 := 111) (tgt := 115) rfl dX7_gives_108 (by decide) (fun hc26 => ?_) (fun hc26 => ?_)
            · replace h := ab_neg hc26 h
              refine z_iconst (pc2 := 116) rfl dX7_gives_115 lt_i_0 ?_
              obtain ⟨hb27, h⟩ := ab_ck_e h
              refine z_iast 37 (pc2 := 117) (j := (u4).toNatClampNeg) rfl dX7_gives_116 rfl rfl hb27 rfl ?_
              obtain ⟨s28, hs28, h⟩ := ab_lt_e h
              refine z_tops hs28 ?_
              refine ab_goto (tgt := 158) dX7_gives_117 (by decide) ?_
              obtain ⟨x29, hxx29, h⟩ := ab_lt_e h
              refine z_iinc (pc2 := 161) (v := x29) (L2 := [some (.ref 35), some (.int p1), some (.int p2), some (.int p3), some (.int u4), some (.int x29), some (.int x3)]) rfl dX7_gives_158 rfl (by rw [hxx29]; rfl) (by decide) rfl rfl ?_
              refine ab_goto (tgt := 6) dX7_gives_161 (by decide) ?_
              refine z_fgt [true, true, true, true, true, true, false] (L2 := [some (.ref 35), some (.int p1), some (.int p2), some (.int p3), some (.int u4), some (.int x29), none]) rfl ?_
              exact ih _ _ _ h
            · replace h := ab_pos hc26 h
              refine z_iconst (pc2 := 112) rfl dX7_gives_111 lt_i_1 ?_
              refine ab_goto (tgt := 116) dX7_gives_112 (by decide) ?_
              obtain ⟨hb30, h⟩ := ab_ck_e h
              refine z_iast 37 (pc2 := 117) (j := (u4).toNatClampNeg) rfl dX7_gives_116 rfl rfl hb30 rfl ?_
              obtain ⟨s31, hs31, h⟩ := ab_lt_e h
              refine z_tops hs31 ?_
              refine ab_goto (tgt := 158) dX7_gives_117 (by decide) ?_
              obtain ⟨x32, hxx32, h⟩ := ab_lt_e h
              refine z_iinc (pc2 := 161) (v := x32) (L2 := [some (.ref 35), some (.int p1), some (.int p2), some (.int p3), some (.int u4), some (.int x32), some (.int x3)]) rfl dX7_gives_158 rfl (by rw [hxx32]; rfl) (by decide) rfl rfl ?_
              refine ab_goto (tgt := 6) dX7_gives_161 (by decide) ?_
              refine z_fgt [true, true, true, true, true, true, false] (L2 := [some (.ref 35), some (.int p1), some (.int p2), some (.int p3), some (.int u4), some (.int x32), none]) rfl ?_
              exact ih _ _ _ h
      · replace h := ab_neg hc4 h
        refine z_iload (pc2 := 33) rfl dX7_gives_31 rfl ?_
        refine z_bipush (pc2 := 35) rfl dX7_gives_33 lt_b_59 ?_
        refine z_icmp_ge (pc2 := 38) (tgt := 83) rfl dX7_gives_35 (by decide) (fun hc33 => ?_) (fun hc33 => ?_)
        · replace h := ab_pos hc33 h
          refine z_iload (pc2 := 85) rfl dX7_gives_83 rfl ?_
          refine z_bipush (pc2 := 87) rfl dX7_gives_85 lt_b_m33 ?_
          refine z_icmp_ne (pc2 := 90) (tgt := 120) rfl dX7_gives_87 (by decide) (fun hc34 => ?_) (fun hc34 => ?_)
          · replace h := ab_neg hc34 h
            refine z_iload (pc2 := 122) rfl dX7_gives_120 rfl ?_
            refine z_iconst (pc2 := 123) rfl dX7_gives_122 lt_i_1 ?_
            refine z_icmp_lt (pc2 := 126) (tgt := 158) rfl dX7_gives_123 (by decide) (fun hc35 => ?_) (fun hc35 => ?_)
            · replace h := ab_pos hc35 h
              obtain ⟨x36, hxx36, h⟩ := ab_lt_e h
              refine z_iinc (pc2 := 161) (v := x36) (L2 := [some (.ref 35), some (.int p1), some (.int p2), some (.int p3), some (.int u4), some (.int x36), some (.int x3)]) rfl dX7_gives_158 rfl (by rw [hxx36]; rfl) (by decide) rfl rfl ?_
              refine ab_goto (tgt := 6) dX7_gives_161 (by decide) ?_
              refine z_fgt [true, true, true, true, true, true, false] (L2 := [some (.ref 35), some (.int p1), some (.int p2), some (.int p3), some (.int u4), some (.int x36), none]) rfl ?_
              exact ih _ _ _ h
            · replace h := ab_neg hc35 h
              obtain ⟨x37, hxx37, h⟩ := ab_lt_e h
              refine z_iinc (pc2 := 129) (v := x37) (L2 := [some (.ref 35), some (.int p1), some (.int p2), some (.int p3), some (.int x37), some (.int u5), some (.int x3)]) rfl dX7_gives_126 rfl (by rw [hxx37]; rfl) (by decide) rfl rfl ?_
              refine z_aload_n (pc2 := 130) rfl dX7_gives_129 rfl ?_
              refine z_getR 35 7 2 37 (pc2 := 133) rfl dX7_gives_130 rfl rfl ff_7_2 wd_123 rfl ?_
              refine z_iload (pc2 := 135) rfl dX7_gives_133 rfl ?_
              refine z_iload (pc2 := 137) rfl dX7_gives_135 rfl ?_
              refine z_ineg (pc2 := 138) rfl dX7_gives_137 ?_
              refine z_aload_n (pc2 := 139) rfl dX7_gives_138 rfl ?_
              refine z_getR 35 7 2 37 (pc2 := 142) rfl dX7_gives_139 rfl rfl ff_7_2 wd_123 rfl ?_
              refine z_iload (pc2 := 144) rfl dX7_gives_142 rfl ?_
              obtain ⟨hb38, h⟩ := ab_ck_e h
              refine z_iald 37 (pc2 := 145) (j := (x37).toNatClampNeg) rfl dX7_gives_144 rfl rfl hb38 rfl ?_
              refine z_aload_n (pc2 := 146) rfl dX7_gives_145 rfl ?_
              refine z_getR 35 7 2 37 (pc2 := 149) rfl dX7_gives_146 rfl rfl ff_7_2 wd_123 rfl ?_
              refine z_iload (pc2 := 151) rfl dX7_gives_149 rfl ?_
              refine z_iconst (pc2 := 152) rfl dX7_gives_151 lt_i_1 ?_
              refine z_iadd (pc2 := 153) rfl dX7_gives_152 ?_
              obtain ⟨hb39, h⟩ := ab_ck_e h
              refine z_iald 37 (pc2 := 154) (j := ((x37 + (1 : Int32))).toNatClampNeg) rfl dX7_gives_153 rfl rfl hb39 rfl ?_
              obtain ⟨q40, hq40, h⟩ := ab_bnd h
              refine z_callSi [.int (-x3), .int (σ (35 + 2) (x37).toNatClampNeg), .int (σ (35 + 2) ((x37 + (1 : Int32))).toNatClampNeg)] [some (.int (-x3)), some (.int (σ (35 + 2) (x37).toNatClampNeg)), some (.int (σ (35 + 2) ((x37 + (1 : Int32))).toNatClampNeg))] (pc2 := 157) rfl rfl dX7_gives_154 ok_X7_worked ⟨fun _ => rfl, fun _ => Nat.le_of_ble_eq_true rfl⟩ rfl wd_416 wd_417 rfl (e_X7_worked hq40) ?_
              obtain ⟨hb41, h⟩ := ab_ck_e h
              refine z_iast 37 (pc2 := 158) (j := (x37).toNatClampNeg) rfl dX7_gives_157 rfl rfl hb41 rfl ?_
              obtain ⟨s42, hs42, h⟩ := ab_lt_e h
              refine z_tops hs42 ?_
              obtain ⟨x43, hxx43, h⟩ := ab_lt_e h
              refine z_iinc (pc2 := 161) (v := x43) (L2 := [some (.ref 35), some (.int p1), some (.int p2), some (.int p3), some (.int x37), some (.int x43), some (.int x3)]) rfl dX7_gives_158 rfl (by rw [hxx43]; rfl) (by decide) rfl rfl ?_
              refine ab_goto (tgt := 6) dX7_gives_161 (by decide) ?_
              refine z_fgt [true, true, true, true, true, true, false] (L2 := [some (.ref 35), some (.int p1), some (.int p2), some (.int p3), some (.int x37), some (.int x43), none]) rfl ?_
              exact ih _ _ _ h
          · replace h := ab_pos hc34 h
            refine z_iload (pc2 := 92) rfl dX7_gives_90 rfl ?_
            refine z_if_lt (pc2 := 95) (tgt := 120) rfl dX7_gives_92 (by decide) (fun hc44 => ?_) (fun hc44 => ?_)
            · replace h := ab_pos hc44 h
              refine z_iload (pc2 := 122) rfl dX7_gives_120 rfl ?_
              refine z_iconst (pc2 := 123) rfl dX7_gives_122 lt_i_1 ?_
              refine z_icmp_lt (pc2 := 126) (tgt := 158) rfl dX7_gives_123 (by decide) (fun hc45 => ?_) (fun hc45 => ?_)
              · replace h := ab_pos hc45 h
                obtain ⟨x46, hxx46, h⟩ := ab_lt_e h
                refine z_iinc (pc2 := 161) (v := x46) (L2 := [some (.ref 35), some (.int p1), some (.int p2), some (.int p3), some (.int u4), some (.int x46), some (.int x3)]) rfl dX7_gives_158 rfl (by rw [hxx46]; rfl) (by decide) rfl rfl ?_
                refine ab_goto (tgt := 6) dX7_gives_161 (by decide) ?_
                refine z_fgt [true, true, true, true, true, true, false] (L2 := [some (.ref 35), some (.int p1), some (.int p2), some (.int p3), some (.int u4), some (.int x46), none]) rfl ?_
                exact ih _ _ _ h
              · replace h := ab_neg hc45 h
                obtain ⟨x47, hxx47, h⟩ := ab_lt_e h
                refine z_iinc (pc2 := 129) (v := x47) (L2 := [some (.ref 35), some (.int p1), some (.int p2), some (.int p3), some (.int x47), some (.int u5), some (.int x3)]) rfl dX7_gives_126 rfl (by rw [hxx47]; rfl) (by decide) rfl rfl ?_
                refine z_aload_n (pc2 := 130) rfl dX7_gives_129 rfl ?_
                refine z_getR 35 7 2 37 (pc2 := 133) rfl dX7_gives_130 rfl rfl ff_7_2 wd_123 rfl ?_
                refine z_iload (pc2 := 135) rfl dX7_gives_133 rfl ?_
                refine z_iload (pc2 := 137) rfl dX7_gives_135 rfl ?_
                refine z_ineg (pc2 := 138) rfl dX7_gives_137 ?_
                refine z_aload_n (pc2 := 139) rfl dX7_gives_138 rfl ?_
                refine z_getR 35 7 2 37 (pc2 := 142) rfl dX7_gives_139 rfl rfl ff_7_2 wd_123 rfl ?_
                refine z_iload (pc2 := 144) rfl dX7_gives_142 rfl ?_
                obtain ⟨hb48, h⟩ := ab_ck_e h
                refine z_iald 37 (pc2 := 145) (j := (x47).toNatClampNeg) rfl dX7_gives_144 rfl rfl hb48 rfl ?_
                refine z_aload_n (pc2 := 146) rfl dX7_gives_145 rfl ?_
                refine z_getR 35 7 2 37 (pc2 := 149) rfl dX7_gives_146 rfl rfl ff_7_2 wd_123 rfl ?_
                refine z_iload (pc2 := 151) rfl dX7_gives_149 rfl ?_
                refine z_iconst (pc2 := 152) rfl dX7_gives_151 lt_i_1 ?_
                refine z_iadd (pc2 := 153) rfl dX7_gives_152 ?_
                obtain ⟨hb49, h⟩ := ab_ck_e h
                refine z_iald 37 (pc2 := 154) (j := ((x47 + (1 : Int32))).toNatClampNeg) rfl dX7_gives_153 rfl rfl hb49 rfl ?_
                obtain ⟨q50, hq50, h⟩ := ab_bnd h
                refine z_callSi [.int (-x3), .int (σ (35 + 2) (x47).toNatClampNeg), .int (σ (35 + 2) ((x47 + (1 : Int32))).toNatClampNeg)] [some (.int (-x3)), some (.int (σ (35 + 2) (x47).toNatClampNeg)), some (.int (σ (35 + 2) ((x47 + (1 : Int32))).toNatClampNeg))] (pc2 := 157) rfl rfl dX7_gives_154 ok_X7_worked ⟨fun _ => rfl, fun _ => Nat.le_of_ble_eq_true rfl⟩ rfl wd_416 wd_417 rfl (e_X7_worked hq50) ?_
                obtain ⟨hb51, h⟩ := ab_ck_e h
                refine z_iast 37 (pc2 := 158) (j := (x47).toNatClampNeg) rfl dX7_gives_157 rfl rfl hb51 rfl ?_
                obtain ⟨s52, hs52, h⟩ := ab_lt_e h
                refine z_tops hs52 ?_
                obtain ⟨x53, hxx53, h⟩ := ab_lt_e h
                refine z_iinc (pc2 := 161) (v := x53) (L2 := [some (.ref 35), some (.int p1), some (.int p2), some (.int p3), some (.int x47), some (.int x53), some (.int x3)]) rfl dX7_gives_158 rfl (by rw [hxx53]; rfl) (by decide) rfl rfl ?_
                refine ab_goto (tgt := 6) dX7_gives_161 (by decide) ?_
                refine z_fgt [true, true, true, true, true, true, false] (L2 := [some (.ref 35), some (.int p1), some (.int p2), some (.int p3), some (.int x47), some (.int x53), none]) rfl ?_
                exact ih _ _ _ h
            · replace h := ab_neg hc44 h
              refine z_aload_n (pc2 := 96) rfl dX7_gives_95 rfl ?_
              refine z_getR 35 7 2 37 (pc2 := 99) rfl dX7_gives_96 rfl rfl ff_7_2 wd_123 rfl ?_
              refine z_iload (pc2 := 101) rfl dX7_gives_99 rfl ?_
              refine z_aload_n (pc2 := 102) rfl dX7_gives_101 rfl ?_
              refine z_getR 35 7 2 37 (pc2 := 105) rfl dX7_gives_102 rfl rfl ff_7_2 wd_123 rfl ?_
              refine z_iload (pc2 := 107) rfl dX7_gives_105 rfl ?_
              obtain ⟨hb54, h⟩ := ab_ck_e h
              refine z_iald 37 (pc2 := 108) (j := (u4).toNatClampNeg) rfl dX7_gives_107 rfl rfl hb54 rfl ?_
              refine z_if_ne (pc2 := 111) (tgt := 115) rfl dX7_gives_108 (by decide) (fun hc55 => ?_) (fun hc55 => ?_)
              · replace h := ab_neg hc55 h
                refine z_iconst (pc2 := 116) rfl dX7_gives_115 lt_i_0 ?_
                obtain ⟨hb56, h⟩ := ab_ck_e h
                refine z_iast 37 (pc2 := 117) (j := (u4).toNatClampNeg) rfl dX7_gives_116 rfl rfl hb56 rfl ?_
                obtain ⟨s57, hs57, h⟩ := ab_lt_e h
                refine z_tops hs57 ?_
                refine ab_goto (tgt := 158) dX7_gives_117 (by decide) ?_
                obtain ⟨x58, hxx58, h⟩ := ab_lt_e h
                refine z_iinc (pc2 := 161) (v := x58) (L2 := [some (.ref 35), some (.int p1), some (.int p2), some (.int p3), some (.int u4), some (.int x58), some (.int x3)]) rfl dX7_gives_158 rfl (by rw [hxx58]; rfl) (by decide) rfl rfl ?_
                refine ab_goto (tgt := 6) dX7_gives_161 (by decide) ?_
                refine z_fgt [true, true, true, true, true, true, false] (L2 := [some (.ref 35), some (.int p1), some (.int p2), some (.int p3), some (.int u4), some (.int x58), none]) rfl ?_
                exact ih _ _ _ h
              · replace h := ab_pos hc55 h
                refine z_iconst (pc2 := 112) rfl dX7_gives_111 lt_i_1 ?_
                refine ab_goto (tgt := 116) dX7_gives_112 (by decide) ?_
                obtain ⟨hb59, h⟩ := ab_ck_e h
                refine z_iast 37 (pc2 := 117) (j := (u4).toNatClampNeg) rfl dX7_gives_116 rfl rfl hb59 rfl ?_
                obtain ⟨s60, hs60, h⟩ := ab_lt_e h
                refine z_tops hs60 ?_
                refine ab_goto (tgt := 158) dX7_gives_117 (by decide) ?_
                obtain ⟨x61, hxx61, h⟩ := ab_lt_e h
                refine z_iinc (pc2 := 161) (v := x61) (L2 := [some (.ref 35), some (.int p1), some (.int p2), some (.int p3), some (.int u4), some (.int x61), some (.int x3)]) rfl dX7_gives_158 rfl (by rw [hxx61]; rfl) (by decide) rfl rfl ?_
                refine ab_goto (tgt := 6) dX7_gives_161 (by decide) ?_
                refine z_fgt [true, true, true, true, true, true, false] (L2 := [some (.ref 35), some (.int p1), some (.int p2), some (.int p3), some (.int u4), some (.int x61), none]) rfl ?_
                exact ih _ _ _ h
        · replace h := ab_neg hc33 h
          obtain ⟨x62, hxx62, h⟩ := ab_lt_e h
          refine z_iinc (pc2 := 41) (v := x62) (L2 := [some (.ref 35), some (.int p1), some (.int p2), some (.int p3), some (.int x62), some (.int u5), some (.int x3)]) rfl dX7_gives_38 rfl (by rw [hxx62]; rfl) (by decide) rfl rfl ?_
          refine z_aload_n (pc2 := 42) rfl dX7_gives_41 rfl ?_
          refine z_getR 35 7 2 37 (pc2 := 45) rfl dX7_gives_42 rfl rfl ff_7_2 wd_123 rfl ?_
          refine z_iload (pc2 := 47) rfl dX7_gives_45 rfl ?_
          refine z_iload (pc2 := 49) rfl dX7_gives_47 rfl ?_
          refine z_if_lt (pc2 := 52) (tgt := 57) rfl dX7_gives_49 (by decide) (fun hc63 => ?_) (fun hc63 => ?_)
          · replace h := ab_pos hc63 h
            refine z_iload (pc2 := 59) rfl dX7_gives_57 rfl ?_
            refine z_iconst (pc2 := 60) rfl dX7_gives_59 lt_i_m1 ?_
            refine z_icmp_ne (pc2 := 63) (tgt := 67) rfl dX7_gives_60 (by decide) (fun hc64 => ?_) (fun hc64 => ?_)
            · replace h := ab_neg hc64 h
              refine z_iload (pc2 := 69) rfl dX7_gives_67 rfl ?_
              refine z_bipush (pc2 := 71) rfl dX7_gives_69 lt_b_m2 ?_
              refine z_icmp_ne (pc2 := 74) (tgt := 78) rfl dX7_gives_71 (by decide) (fun hc65 => ?_) (fun hc65 => ?_)
              · replace h := ab_neg hc65 h
                refine z_iload_n (pc2 := 79) rfl dX7_gives_78 rfl ?_
                obtain ⟨hb66, h⟩ := ab_ck_e h
                refine z_iast 37 (pc2 := 80) (j := (x62).toNatClampNeg) rfl dX7_gives_79 rfl rfl hb66 rfl ?_
                obtain ⟨s67, hs67, h⟩ := ab_lt_e h
                refine z_tops hs67 ?_
                refine ab_goto (tgt := 158) dX7_gives_80 (by decide) ?_
                obtain ⟨x68, hxx68, h⟩ := ab_lt_e h
                refine z_iinc (pc2 := 161) (v := x68) (L2 := [some (.ref 35), some (.int p1), some (.int p2), some (.int p3), some (.int x62), some (.int x68), some (.int x3)]) rfl dX7_gives_158 rfl (by rw [hxx68]; rfl) (by decide) rfl rfl ?_
                refine ab_goto (tgt := 6) dX7_gives_161 (by decide) ?_
                refine z_fgt [true, true, true, true, true, true, false] (L2 := [some (.ref 35), some (.int p1), some (.int p2), some (.int p3), some (.int x62), some (.int x68), none]) rfl ?_
                exact ih _ _ _ h
              · replace h := ab_pos hc65 h
                refine z_iload_n (pc2 := 75) rfl dX7_gives_74 rfl ?_
                refine ab_goto (tgt := 79) dX7_gives_75 (by decide) ?_
                obtain ⟨hb69, h⟩ := ab_ck_e h
                refine z_iast 37 (pc2 := 80) (j := (x62).toNatClampNeg) rfl dX7_gives_79 rfl rfl hb69 rfl ?_
                obtain ⟨s70, hs70, h⟩ := ab_lt_e h
                refine z_tops hs70 ?_
                refine ab_goto (tgt := 158) dX7_gives_80 (by decide) ?_
                obtain ⟨x71, hxx71, h⟩ := ab_lt_e h
                refine z_iinc (pc2 := 161) (v := x71) (L2 := [some (.ref 35), some (.int p1), some (.int p2), some (.int p3), some (.int x62), some (.int x71), some (.int x3)]) rfl dX7_gives_158 rfl (by rw [hxx71]; rfl) (by decide) rfl rfl ?_
                refine ab_goto (tgt := 6) dX7_gives_161 (by decide) ?_
                refine z_fgt [true, true, true, true, true, true, false] (L2 := [some (.ref 35), some (.int p1), some (.int p2), some (.int p3), some (.int x62), some (.int x71), none]) rfl ?_
                exact ih _ _ _ h
            · replace h := ab_pos hc64 h
              refine z_iload_n (pc2 := 64) rfl dX7_gives_63 rfl ?_
              refine ab_goto (tgt := 79) dX7_gives_64 (by decide) ?_
              obtain ⟨hb72, h⟩ := ab_ck_e h
              refine z_iast 37 (pc2 := 80) (j := (x62).toNatClampNeg) rfl dX7_gives_79 rfl rfl hb72 rfl ?_
              obtain ⟨s73, hs73, h⟩ := ab_lt_e h
              refine z_tops hs73 ?_
              refine ab_goto (tgt := 158) dX7_gives_80 (by decide) ?_
              obtain ⟨x74, hxx74, h⟩ := ab_lt_e h
              refine z_iinc (pc2 := 161) (v := x74) (L2 := [some (.ref 35), some (.int p1), some (.int p2), some (.int p3), some (.int x62), some (.int x74), some (.int x3)]) rfl dX7_gives_158 rfl (by rw [hxx74]; rfl) (by decide) rfl rfl ?_
              refine ab_goto (tgt := 6) dX7_gives_161 (by decide) ?_
              refine z_fgt [true, true, true, true, true, true, false] (L2 := [some (.ref 35), some (.int p1), some (.int p2), some (.int p3), some (.int x62), some (.int x74), none]) rfl ?_
              exact ih _ _ _ h
          · replace h := ab_neg hc63 h
            refine z_iload (pc2 := 54) rfl dX7_gives_52 rfl ?_
            refine ab_goto (tgt := 79) dX7_gives_54 (by decide) ?_
            obtain ⟨hb75, h⟩ := ab_ck_e h
            refine z_iast 37 (pc2 := 80) (j := (x62).toNatClampNeg) rfl dX7_gives_79 rfl rfl hb75 rfl ?_
            obtain ⟨s76, hs76, h⟩ := ab_lt_e h
            refine z_tops hs76 ?_
            refine ab_goto (tgt := 158) dX7_gives_80 (by decide) ?_
            obtain ⟨x77, hxx77, h⟩ := ab_lt_e h
            refine z_iinc (pc2 := 161) (v := x77) (L2 := [some (.ref 35), some (.int p1), some (.int p2), some (.int p3), some (.int x62), some (.int x77), some (.int x3)]) rfl dX7_gives_158 rfl (by rw [hxx77]; rfl) (by decide) rfl rfl ?_
            refine ab_goto (tgt := 6) dX7_gives_161 (by decide) ?_
            refine z_fgt [true, true, true, true, true, true, false] (L2 := [some (.ref 35), some (.int p1), some (.int p2), some (.int p3), some (.int x62), some (.int x77), none]) rfl ?_
            exact ih _ _ _ h
