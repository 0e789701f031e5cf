/-! VOICES: parts, voice -/
theorem bg_2 {b : Int32} {x x1 : ab_F} (h : f_X8_begins b x = some x1) : x1 21 2 = x 21 2 := by
  unfold f_X8_begins at h
  by_cases q : (30 : Int32) ≤ x 21 4
  · rw [if_pos q] at h
    cases h
    rfl
  · rw [if_neg q] at h
    cases hb : ab_ib (x 21 4) 30 with
    | false => rw [hb] at h; cases h
    | true =>
      rw [hb, ck_t, lt_d, lt_d] at h
      have h2 := Option.some.inj h
      rw [← h2, u_rd _ _ _ _ _ (by omega), ab_u_ne _ _ _ (by omega)]
theorem nz_t {x : Int32} (h : ¬ x = 0) : ab_nz x = true := by unfold ab_nz; simp only [Bool.not_eq_true', decide_eq_false_iff_not]; exact h
/-- as vS, where nothing is PARTED yet -/
def vZ (u : Nat → Nat → Nat) (k : Nat) (x0 y0 : ab_F) (F G : ab_F → Option (Int32 × ab_F)) : Prop := ∀ x y, vr u k x0 y0 x y → x 21 2 = 0 → ∃ (a : Int32) (x2 y2 : ab_F), F x = some (a, x2) ∧ G y = some (a, y2) ∧ vr u k x0 y0 x2 y2
theorem vZ_of {u : Nat → Nat → Nat} {k : Nat} {x0 y0 : ab_F} {F G : ab_F → Option (Int32 × ab_F)} (h : vS u k x0 y0 F G) : vZ u k x0 y0 F G := fun x y hr _ => h x y hr
theorem vr_15 {u : Nat → Nat → Nat} {k : Nat} {x0 y0 x y : ab_F} (h : vr u k x0 y0 x y) : vr u k x0 y0 (ab_u x 21 2 1) (ab_u y 85 15 1) := by
  obtain ⟨h1, h2, h3, h4, h5, h6, h7, h8⟩ := h
  refine ⟨?_, ?_, ?_, ?_, ?_, fun c c1 c2 => by rw [ab_u_ne _ _ _ c1]; exact h6 c c1 c2, fun c c1 c2 => by rw [ab_u_ne _ _ _ c1]; exact h7 c c1 c2, ?_⟩
  · rw [u_rd _ _ _ _ _ (by omega)]; exact h1
  · rw [u_rd _ _ _ _ _ (by omega)]; exact h2
  · rw [u_rd _ _ _ _ _ (by omega)]; exact h3
  · rw [u_rk, u_rk]
  · rw [u_rd _ _ _ _ _ (by omega), u_rd _ _ _ _ _ (by omega), ab_u_ne _ _ _ (by omega : 22 ≠ 21), ab_u_ne _ _ _ (by omega : 93 ≠ 85)]; exact h5
  · rw [u_rd _ _ _ _ _ (by omega)]; exact h8
theorem vr_16 {u : Nat → Nat → Nat} {k : Nat} {x0 y0 x y : ab_F} (h : vr u k x0 y0 x y) (hz : x 21 2 = 0) : vr u k x0 y0 x (ab_u y 85 15 0) := by
  obtain ⟨h1, h2, h3, h4, h5, h6, h7, h8⟩ := h
  refine ⟨h1, h2, ?_, ?_, ?_, h6, fun c c1 c2 => by rw [ab_u_ne _ _ _ c1]; exact h7 c c1 c2, ?_⟩
  · rw [u_rd _ _ _ _ _ (by omega)]; exact h3
  · rw [u_rk]; exact hz
  · rw [u_rd _ _ _ _ _ (by omega), ab_u_ne _ _ _ (by omega : 93 ≠ 85)]; exact h5
  · rw [u_rd _ _ _ _ _ (by omega)]; exact h8
theorem vq_0 {u : Nat → Nat → Nat} {k : Nat} {x0 y0 : ab_F} (hM : rM u (y0 86)) (hk : k < 8) (n : Nat) (a : Int32) : vZ u k x0 y0 (f_X2_parts_25 a) (f_GF (n + 1) 0 (nI 0) a) := by
  intro x y hr hz
  obtain ⟨x1, y1, e1, e2, hr1⟩ := v_b 13 hr
  have z1 : x1 21 2 = 0 := (bg_2 e1).trans hz
  have m1 := v_m hM hk hr1
  have h1 := hr1.1
  have h2 := hr1.2.1
  have h3 := hr1.2.2.1
  by_cases q : nI (u 7 k) - nI k = (0 : Int32)
  · refine ⟨0, _, _, ?_, ?_, vr_15 hr1⟩
    · unfold f_X2_parts_25
      rw [e1, bi, lt_d, h2, h1, if_pos q, lt_d]
    · rw [f_GF, g_X12_partsAs, if_pos (show nI 0 = (0 : Int32) from rfl), e2, bi, m1, bi, lt_d, h3, if_pos q, lt_d, if_pos q]
  · refine ⟨a / (nI (u 7 k) - nI k), _, _, ?_, ?_, vr_16 hr1 z1⟩
    · unfold f_X2_parts_25
      rw [e1, bi, lt_d, h2, h1, if_neg q, nz_t q, ck_t]
    · rw [f_GF, g_X12_partsAs, if_pos (show nI 0 = (0 : Int32) from rfl), e2, bi, m1, bi, lt_d, h3, if_neg q, lt_d, if_neg q]
      by_cases q2 : nI (u 7 k) - nI k = (-1 : Int32)
      · rw [if_pos q2, q2, dvm]
      · rw [if_neg q2, nz_t q, ck_t]
def pB1 (Kf : Int32 → ab_F → Option (Int32 × ab_F)) (a : Int32) (x : ab_F) : Option (Int32 × ab_F) := (f_X8_begins (21 : Int32) x).bind (fun q1 => (f_X2_parts_25 a q1).bind (fun q2 => ab_lt (q2.1) (fun x3 => (if (q2.2 21 2) = 0 then (Kf (1 : Int32) q2.2).bind (fun q5 => (some ((x3 + q5.1), q5.2))) else (some ((0 : Int32), q2.2))))))
theorem vq_1 {u : Nat → Nat → Nat} {k : Nat} {x0 y0 : ab_F} (hM : rM u (y0 86)) (hk : k < 8) {Kf : Int32 → ab_F → Option (Int32 × ab_F)} (hK : ∀ a, vS u k x0 y0 (Kf a) (f_GD 10 0 (nI (u 6 k)) a)) (n : Nat) (a : Int32) : vZ u k x0 y0 (pB1 Kf a) (f_GF (n + 2) 0 (nI 1) a) := by
  intro x y hr hz
  obtain ⟨x1, y1, e1, e2, hr1⟩ := v_b 21 hr
  have z1 : x1 21 2 = 0 := (bg_2 e1).trans hz
  obtain ⟨v, x2, y2, f1, f2, hr2⟩ := vq_0 hM hk n a x1 y1 hr1 z1
  have kd := v_kind hM hk hr2
  by_cases q : x2 21 2 = 0
  · obtain ⟨w, x3, y3, g1, g2, hr3⟩ := hK 1 x2 y2 hr2
    have q' : y2 85 15 = 0 := hr2.2.2.2.1.symm.trans q
    refine ⟨v + w, x3, y3, ?_, ?_, hr3⟩
    · unfold pB1
      simp only [e1, bi, f1, lt_d, if_pos q, g1]
    · rw [ef_GF_1]
      simp only [e2, bi, f2, lt_d, if_pos q', kd, g2]
  · have q' : ¬ y2 85 15 = 0 := fun z => q (hr2.2.2.2.1.trans z)
    refine ⟨0, x2, y2, ?_, ?_, hr2⟩
    · unfold pB1
      simp only [e1, bi, f1, lt_d, if_neg q]
    · rw [ef_GF_1]
      simp only [e2, bi, f2, lt_d, if_neg q']
theorem vq_2 {u : Nat → Nat → Nat} {k : Nat} {x0 y0 : ab_F} (hM : rM u (y0 86)) (hk : k < 8) (n : Nat) (a : Int32) : vZ u k x0 y0 (f_X2_parts_25 a) (f_GF (n + 2) 0 (nI 2) a) := fun x y hr hz => by rw [ef_GF_2]; exact vq_0 hM hk n a x y hr hz
theorem vq_3 {u : Nat → Nat → Nat} {k : Nat} {x0 y0 : ab_F} (hM : rM u (y0 86)) (hk : k < 8) (n : Nat) (a : Int32) : vZ u k x0 y0 (f_X2_parts_25 a) (f_GF (n + 2) 0 (nI 3) a) := fun x y hr hz => by rw [ef_GF_3]; exact vq_0 hM hk n a x y hr hz
theorem vq_6 {u : Nat → Nat → Nat} {k : Nat} {x0 y0 : ab_F} (hM : rM u (y0 86)) (hk : k < 8) (n : Nat) (a : Int32) : vZ u k x0 y0 (f_X2_parts_25 a) (f_GF (n + 2) 0 (nI 6) a) := fun x y hr hz => by rw [ef_GF_6]; exact vq_0 hM hk n a x y hr hz
theorem vq_5 {u : Nat → Nat → Nat} {k : Nat} {x0 y0 : ab_F} (hM : rM u (y0 86)) (hk : k < 8) (n : Nat) (a : Int32) : vZ u k x0 y0 (f_X2_parts_25 a) (f_GF (n + 3) 0 (nI 5) a) := fun x y hr hz => by rw [ef_GF_5]; exact vq_2 hM hk n a x y hr hz
theorem vq_4 {u : Nat → Nat → Nat} {k : Nat} {x0 y0 : ab_F} (hM : rM u (y0 86)) (hk : k < 8) {Kf : Int32 → ab_F → Option (Int32 × ab_F)} (hK : ∀ a, vS u k x0 y0 (Kf a) (f_GD 10 0 (nI (u 6 k)) a)) (n : Nat) (a : Int32) : vZ u k x0 y0 (pB1 Kf a) (f_GF (n + 3) 0 (nI 4) a) := fun x y hr hz => by rw [ef_GF_4]; exact vq_1 hM hk hK n a x y hr hz
theorem tw_0 {u : Nat → Nat → Nat} {k : Nat} {x0 y0 : ab_F} (hj : u 6 k = 0) : ∀ a, vS u k x0 y0 (f_X2_wades_25 a) (f_GC 10 0 (nI (u 6 k)) a) := fun a => by rw [hj]; exact vw_0 9 a
theorem tk_0 {u : Nat → Nat → Nat} {k : Nat} {x0 y0 : ab_F} (hM : rM u (y0 86)) (hk : k < 8) (hj : u 6 k = 0) : ∀ a, vS u k x0 y0 (f_X2_knows_25 a) (f_GD 10 0 (nI (u 6 k)) a) := fun a => by
  have t := vk_0 (x0 := x0) hM hk (tw_0 hj) 9 a
  rw [hj]; exact t
theorem ts_0 {u : Nat → Nat → Nat} {k : Nat} {x0 y0 : ab_F} (hM : rM u (y0 86)) (hk : k < 8) (hj : u 6 k = 0) : ∀ a, vS u k x0 y0 (f_X2_sits_25 a) (f_GE 10 0 (nI (u 6 k)) a) := fun a => by
  have t := vs_0 (x0 := x0) hM hk (tk_0 hM hk hj) 9 a
  rw [hj]; exact t
theorem tq_0 {u : Nat → Nat → Nat} {k : Nat} {x0 y0 : ab_F} (hM : rM u (y0 86)) (hk : k < 8) (hj : u 6 k = 0) : ∀ a, vZ u k x0 y0 (f_X2_parts_25 a) (f_GF 10 0 (nI (u 6 k)) a) := fun a => by
  have t := vq_0 (u := u) (x0 := x0) hM hk 9 a
  rw [hj]; exact t
theorem tw_1 {u : Nat → Nat → Nat} {k : Nat} {x0 y0 : ab_F} (hj : u 6 k = 1) : ∀ a, vS u k x0 y0 (f_X5_wades_26 a) (f_GC 10 0 (nI (u 6 k)) a) := fun a => by rw [hj]; exact vw_1 8 a
theorem tk_1 {u : Nat → Nat → Nat} {k : Nat} {x0 y0 : ab_F} (hM : rM u (y0 86)) (hk : k < 8) (hj : u 6 k = 1) : ∀ a, vS u k x0 y0 (f_X2_knows_26 a) (f_GD 10 0 (nI (u 6 k)) a) := fun a => by
  have t := vk_1 (x0 := x0) hM hk (tw_1 hj) 8 a
  rw [hj]; exact t
theorem ts_1 {u : Nat → Nat → Nat} {k : Nat} {x0 y0 : ab_F} (hM : rM u (y0 86)) (hk : k < 8) (hj : u 6 k = 1) : ∀ a, vS u k x0 y0 (f_X2_sits_26 a) (f_GE 10 0 (nI (u 6 k)) a) := fun a => by
  have t := vs_1 (x0 := x0) hM hk (tk_1 hM hk hj) 8 a
  rw [hj]; exact t
theorem tq_1 {u : Nat → Nat → Nat} {k : Nat} {x0 y0 : ab_F} (hM : rM u (y0 86)) (hk : k < 8) (hj : u 6 k = 1) : ∀ a, vZ u k x0 y0 (f_X5_parts_26 a) (f_GF 10 0 (nI (u 6 k)) a) := fun a => by
  have t := vq_1 (x0 := x0) hM hk (tk_1 hM hk hj) 8 a
  rw [hj]; exact t
theorem tw_2 {u : Nat → Nat → Nat} {k : Nat} {x0 y0 : ab_F} (hj : u 6 k = 2) : ∀ a, vS u k x0 y0 (f_X2_wades_27 a) (f_GC 10 0 (nI (u 6 k)) a) := fun a => by rw [hj]; exact vw_2 8 a
theorem tk_2 {u : Nat → Nat → Nat} {k : Nat} {x0 y0 : ab_F} (hM : rM u (y0 86)) (hk : k < 8) (hj : u 6 k = 2) : ∀ a, vS u k x0 y0 (f_X10_knows_27 a) (f_GD 10 0 (nI (u 6 k)) a) := fun a => by
  have t := vk_2 (x0 := x0) hM hk (tw_2 hj) 8 a
  rw [hj]; exact t
theorem ts_2 {u : Nat → Nat → Nat} {k : Nat} {x0 y0 : ab_F} (hM : rM u (y0 86)) (hk : k < 8) (hj : u 6 k = 2) : ∀ a, vS u k x0 y0 (f_X2_sits_27 a) (f_GE 10 0 (nI (u 6 k)) a) := fun a => by
  have t := vs_2 (x0 := x0) hM hk (tk_2 hM hk hj) 8 a
  rw [hj]; exact t
theorem tq_2 {u : Nat → Nat → Nat} {k : Nat} {x0 y0 : ab_F} (hM : rM u (y0 86)) (hk : k < 8) (hj : u 6 k = 2) : ∀ a, vZ u k x0 y0 (f_X2_parts_27 a) (f_GF 10 0 (nI (u 6 k)) a) := fun a => by
  have t := vq_2 (u := u) (x0 := x0) hM hk 8 a
  rw [hj]; exact t
theorem tw_3 {u : Nat → Nat → Nat} {k : Nat} {x0 y0 : ab_F} (hj : u 6 k = 3) : ∀ a, vS u k x0 y0 (f_X2_wades_28 a) (f_GC 10 0 (nI (u 6 k)) a) := fun a => by rw [hj]; exact vw_3 8 a
theorem tk_3 {u : Nat → Nat → Nat} {k : Nat} {x0 y0 : ab_F} (hM : rM u (y0 86)) (hk : k < 8) (hj : u 6 k = 3) : ∀ a, vS u k x0 y0 (f_X2_knows_28 a) (f_GD 10 0 (nI (u 6 k)) a) := fun a => by
  have t := vk_3 (x0 := x0) hM hk (tw_3 hj) 8 a
  rw [hj]; exact t
theorem ts_3 {u : Nat → Nat → Nat} {k : Nat} {x0 y0 : ab_F} (hM : rM u (y0 86)) (hk : k < 8) (hj : u 6 k = 3) : ∀ a, vS u k x0 y0 (f_X3_sits_28 a) (f_GE 10 0 (nI (u 6 k)) a) := fun a => by
  have t := vs_3 (x0 := x0) hM hk (tk_3 hM hk hj) 8 a
  rw [hj]; exact t
theorem tq_3 {u : Nat → Nat → Nat} {k : Nat} {x0 y0 : ab_F} (hM : rM u (y0 86)) (hk : k < 8) (hj : u 6 k = 3) : ∀ a, vZ u k x0 y0 (f_X2_parts_28 a) (f_GF 10 0 (nI (u 6 k)) a) := fun a => by
  have t := vq_3 (u := u) (x0 := x0) hM hk 8 a
  rw [hj]; exact t
theorem tw_4 {u : Nat → Nat → Nat} {k : Nat} {x0 y0 : ab_F} (hj : u 6 k = 4) : ∀ a, vS u k x0 y0 (f_X1_wades_29 a) (f_GC 10 0 (nI (u 6 k)) a) := fun a => by rw [hj]; exact vw_4 7 a
theorem tk_4 {u : Nat → Nat → Nat} {k : Nat} {x0 y0 : ab_F} (hM : rM u (y0 86)) (hk : k < 8) (hj : u 6 k = 4) : ∀ a, vS u k x0 y0 (f_X2_knows_29 a) (f_GD 10 0 (nI (u 6 k)) a) := fun a => by
  have t := vk_4 (x0 := x0) hM hk (tw_4 hj) 7 a
  rw [hj]; exact t
theorem ts_4 {u : Nat → Nat → Nat} {k : Nat} {x0 y0 : ab_F} (hM : rM u (y0 86)) (hk : k < 8) (hj : u 6 k = 4) : ∀ a, vS u k x0 y0 (f_X1_sits_29 a) (f_GE 10 0 (nI (u 6 k)) a) := fun a => by
  have t := vs_4 (x0 := x0) hM hk (tk_4 hM hk hj) 7 a
  rw [hj]; exact t
theorem tq_4 {u : Nat → Nat → Nat} {k : Nat} {x0 y0 : ab_F} (hM : rM u (y0 86)) (hk : k < 8) (hj : u 6 k = 4) : ∀ a, vZ u k x0 y0 (f_X5_parts_29 a) (f_GF 10 0 (nI (u 6 k)) a) := fun a => by
  have t := vq_4 (x0 := x0) hM hk (tk_4 hM hk hj) 7 a
  rw [hj]; exact t
theorem tw_5 {u : Nat → Nat → Nat} {k : Nat} {x0 y0 : ab_F} (hj : u 6 k = 5) : ∀ a, vS u k x0 y0 (f_X2_wades_30 a) (f_GC 10 0 (nI (u 6 k)) a) := fun a => by rw [hj]; exact vw_5 7 a
theorem tk_5 {u : Nat → Nat → Nat} {k : Nat} {x0 y0 : ab_F} (hM : rM u (y0 86)) (hk : k < 8) (hj : u 6 k = 5) : ∀ a, vS u k x0 y0 (f_X0_knows_30 a) (f_GD 10 0 (nI (u 6 k)) a) := fun a => by
  have t := vk_5 (x0 := x0) hM hk (tw_5 hj) 7 a
  rw [hj]; exact t
theorem ts_5 {u : Nat → Nat → Nat} {k : Nat} {x0 y0 : ab_F} (hM : rM u (y0 86)) (hk : k < 8) (hj : u 6 k = 5) : ∀ a, vS u k x0 y0 (f_X2_sits_30 a) (f_GE 10 0 (nI (u 6 k)) a) := fun a => by
  have t := vs_5 (x0 := x0) hM hk (tk_5 hM hk hj) 7 a
  rw [hj]; exact t
theorem tq_5 {u : Nat → Nat → Nat} {k : Nat} {x0 y0 : ab_F} (hM : rM u (y0 86)) (hk : k < 8) (hj : u 6 k = 5) : ∀ a, vZ u k x0 y0 (f_X2_parts_30 a) (f_GF 10 0 (nI (u 6 k)) a) := fun a => by
  have t := vq_5 (u := u) (x0 := x0) hM hk 7 a
  rw [hj]; exact t
theorem tw_6 {u : Nat → Nat → Nat} {k : Nat} {x0 y0 : ab_F} (hj : u 6 k = 6) : ∀ a, vS u k x0 y0 (f_X4_wades_31 a) (f_GC 10 0 (nI (u 6 k)) a) := fun a => by rw [hj]; exact vw_6 9 a
theorem tk_6 {u : Nat → Nat → Nat} {k : Nat} {x0 y0 : ab_F} (hM : rM u (y0 86)) (hk : k < 8) (hj : u 6 k = 6) : ∀ a, vS u k x0 y0 (f_X4_knows_31 a) (f_GD 10 0 (nI (u 6 k)) a) := fun a => by
  have t := vk_6 (x0 := x0) hM hk (tw_6 hj) 8 a
  rw [hj]; exact t
theorem ts_6 {u : Nat → Nat → Nat} {k : Nat} {x0 y0 : ab_F} (hM : rM u (y0 86)) (hk : k < 8) (hj : u 6 k = 6) : ∀ a, vS u k x0 y0 (f_X2_sits_31 a) (f_GE 10 0 (nI (u 6 k)) a) := fun a => by
  have t := vs_6 (x0 := x0) hM hk (tk_6 hM hk hj) 8 a
  rw [hj]; exact t
theorem tq_6 {u : Nat → Nat → Nat} {k : Nat} {x0 y0 : ab_F} (hM : rM u (y0 86)) (hk : k < 8) (hj : u 6 k = 6) : ∀ a, vZ u k x0 y0 (f_X2_parts_31 a) (f_GF 10 0 (nI (u 6 k)) a) := fun a => by
  have t := vq_6 (u := u) (x0 := x0) hM hk 8 a
  rw [hj]; exact t
def vo_n (σ : ab_F) (a b : Int32) : ab_F := ab_u (ab_u (ab_u (ab_u σ 21 0 a) 21 1 b) 21 2 (0 : Int32)) 21 4 (0 : Int32)
def vo_m (τ : ab_F) (a : Int32) : ab_F := ab_u (ab_u (ab_u τ 85 12 (0 : Int32)) 85 14 a) 85 15 (0 : Int32)
def vo_F (F : ab_F → Option (Int32 × ab_F)) (x : ab_F) : Option (Int32 × ab_F) := (F x).bind (fun q10 => ab_lt (q10.1) (fun x11 => (if (q10.2 21 2) = 0 then (some (x11, q10.2)) else (f_X11_refuse (6 : Int32) q10.2).bind (fun q13 => (some (q13.1, q13.2))))))
def vo_G (G : ab_F → Option (Int32 × ab_F)) (y : ab_F) : Option (Int32 × ab_F) := (G y).bind (fun q25 => ab_lt (q25.1) (fun x26 => (if (q25.2 85 15) = 0 then (some (x26, q25.2)) else (f_X12_error (6 : Int32) q25.2).bind (fun q28 => (some (q28.1, q28.2))))))
theorem vr_0 (u : Nat → Nat → Nat) (k : Nat) (σ τ : ab_F) : vr u k σ τ (vo_n σ (nI k) (nI (u 7 k))) (vo_m τ (nI k)) := by
  unfold vo_n vo_m
  refine ⟨?_, ?_, ?_, ?_, ⟨0, by omega, ?_, ?_, fun i hi => absurd hi (by omega)⟩, fun c c1 c2 => ?_, fun c c1 c2 => ?_, ?_⟩
  · rw [u_rd _ _ _ _ _ (by omega), u_rd _ _ _ _ _ (by omega), u_rd _ _ _ _ _ (by omega), u_rk]
  · rw [u_rd _ _ _ _ _ (by omega), u_rd _ _ _ _ _ (by omega), u_rk]
  · rw [u_rd _ _ _ _ _ (by omega), u_rk]
  · rw [u_rd _ _ _ _ _ (by omega), u_rk, u_rk]
  · rw [u_rk]; rfl
  · rw [u_rd _ _ _ _ _ (by omega), u_rd _ _ _ _ _ (by omega), u_rk]; rfl
  · rw [ab_u_ne _ _ _ c1, ab_u_ne _ _ _ c1, ab_u_ne _ _ _ c1, ab_u_ne _ _ _ c1]
  · rw [ab_u_ne _ _ _ c1, ab_u_ne _ _ _ c1, ab_u_ne _ _ _ c1]
  · rw [u_rd _ _ _ _ _ (by omega), u_rd _ _ _ _ _ (by omega), u_rd _ _ _ _ _ (by omega)]
theorem vo_z (σ : ab_F) (a b : Int32) : vo_n σ a b 21 2 = 0 := by
  unfold vo_n
  rw [u_rd _ _ _ _ _ (by omega), u_rk]
theorem v_top {σ : ab_F} (h : rR σ) {u : Nat → Nat → Nat} {k : Nat} (hM : rM u (σ 86)) {F G FF GG : ab_F → Option (Int32 × ab_F)} (H : ∀ y0 : ab_F, rM u (y0 86) → vZ u k σ y0 F G) (hF : FF σ = vo_F F (vo_n σ (nI k) (nI (u 7 k)))) (hG : ∀ τ : ab_F, τ 86 = σ 86 → GG τ = vo_G G (vo_m τ (nI k))) : ∃ (a : Int32) (σ1 σ2 : ab_F), FF σ = some (a, σ1) ∧ GG σ1 = some (a, σ2) ∧ rR σ2 := by
  obtain ⟨v, x2, y2, f1, f2, hr⟩ := H σ hM _ _ (vr_0 u k σ σ) (vo_z _ _ _)
  have hx : ∀ c, c ≠ 21 → c ≠ 22 → x2 c = σ c := hr.2.2.2.2.2.1
  by_cases q : x2 21 2 = 0
  · have e86 : x2 86 = σ 86 := hx 86 (by omega) (by omega)
    obtain ⟨v', x2', y2', f1', f2', hr'⟩ := H x2 (by rw [e86]; exact hM) _ _ (vr_0 u k σ x2) (vo_z _ _ _)
    rw [f1] at f1'
    obtain ⟨g1, g2⟩ := Prod.mk.inj (Option.some.inj f1')
    subst g1
    subst g2
    obtain ⟨r1, r2, r3, r4, r5, r6, r7, r8⟩ := hr'
    have q' : y2' 85 15 = 0 := r4.symm.trans q
    refine ⟨v, x2, y2', ?_, ?_, ?_⟩
    · rw [hF]; unfold vo_F
      simp only [f1, bi, lt_d, if_pos q]
    · rw [hG x2 e86]; unfold vo_G
      simp only [f2', bi, lt_d, if_pos q']
    · refine rR_v h (fun c _ c1 c2 c3 c4 _ _ => by rw [r7 c c3 c4, hx c c1 c2]) (fun j hj => ?_) ?_ ?_
      · rw [r7 23 (by omega) (by omega), r7 89 (by omega) (by omega), hx 23 (by omega) (by omega), hx 89 (by omega) (by omega)]; exact h.2.1 j hj
      · rw [r7 21 (by omega) (by omega), r7 22 (by omega) (by omega)]; exact r5
      · rw [r8, hx 85 (by omega) (by omega)]
  · have e86 : ab_u x2 23 6 (x2 23 6 + 1) 86 = σ 86 := by rw [ab_u_ne _ _ _ (by omega : (86 : Nat) ≠ 23)]; exact hx 86 (by omega) (by omega)
    obtain ⟨v', x2', y2', f1', f2', hr'⟩ := H (ab_u x2 23 6 (x2 23 6 + 1)) (by rw [e86]; exact hM) _ _ (vr_0 u k σ _) (vo_z _ _ _)
    rw [f1] at f1'
    obtain ⟨g1, g2⟩ := Prod.mk.inj (Option.some.inj f1')
    subst g1
    subst g2
    obtain ⟨r1, r2, r3, r4, r5, r6, r7, r8⟩ := hr'
    have q' : ¬ y2' 85 15 = 0 := fun z => q (r4.trans z)
    have t1 : f_X11_refuse (6 : Int32) x2 = some (-1000000000 - nI 6, ab_u x2 23 6 (x2 23 6 + 1)) := rf_n 6 (by omega) x2
    have t2 : f_X12_error (6 : Int32) y2' = some (-1000000000 - nI 6, ab_u y2' 89 6 (y2' 89 6 + 1)) := re_n 6 (by omega) y2'
    refine ⟨-1000000000 - nI 6, ab_u x2 23 6 (x2 23 6 + 1), ab_u y2' 89 6 (y2' 89 6 + 1), ?_, ?_, ?_⟩
    · rw [hF]; unfold vo_F
      simp only [f1, bi, lt_d, if_neg q, t1]
    · rw [hG _ e86]; unfold vo_G
      simp only [f2', bi, lt_d, if_neg q', t2]
    · refine rR_v h (fun c _ c1 c2 c3 c4 c5 c6 => by rw [ab_u_ne _ _ _ c6, r7 c c3 c4, ab_u_ne _ _ _ c5, hx c c1 c2]) (fun j hj => ?_) ?_ ?_
      · have e1 : y2' 23 = ab_u x2 23 6 (x2 23 6 + 1) 23 := r7 23 (by omega) (by omega)
        have e2 : y2' 89 = σ 89 := by rw [r7 89 (by omega) (by omega), ab_u_ne _ _ _ (by omega : (89 : Nat) ≠ 23), hx 89 (by omega) (by omega)]
        have e3 : x2 23 = σ 23 := hx 23 (by omega) (by omega)
        rw [ab_u_ne _ _ _ (by omega : (23 : Nat) ≠ 89), e1, ab_u_same, ab_u_same, e2, e3]
        have e := h.2.1
        unfold upd
        by_cases z : j = 6
        · rw [if_pos z, if_pos z, e 6 (by omega)]
        · rw [if_neg z, if_neg z, e j hj]
      · rw [ab_u_ne _ _ _ (by omega : (21 : Nat) ≠ 89), ab_u_ne _ _ _ (by omega : (22 : Nat) ≠ 89), ab_u_ne _ _ _ (by omega : (85 : Nat) ≠ 89), ab_u_ne _ _ _ (by omega : (93 : Nat) ≠ 89), r7 21 (by omega) (by omega), r7 22 (by omega) (by omega), ab_u_ne _ _ _ (by omega : (21 : Nat) ≠ 23), ab_u_ne _ _ _ (by omega : (22 : Nat) ≠ 23)]; exact r5
      · rw [ab_u_ne _ _ _ (by omega : (85 : Nat) ≠ 89), r8, ab_u_ne _ _ _ (by omega : (85 : Nat) ≠ 23), hx 85 (by omega) (by omega)]
theorem vo_3 {j : Nat} (h : j ≤ 3) : j = 0 ∨ j = 1 ∨ j = 2 ∨ j = 3 := by omega
set_option maxRecDepth 20000 in
set_option maxHeartbeats 4000000 in
theorem m_voice (a0 a1 a2 : Int32) : ok2 rR (f_X11_voice a0 a1 a2) (f_X12_voice a0 a1 a2) := by
  intro σ h
  obtain ⟨u, hB, hC, hM⟩ := rR_u h
  have hp := b11 hB
  rcases go a0 (u 0 11) hp with ⟨k, hk, rfl⟩ | ⟨hx, hy⟩
  · have hk8 : k < 8 := by omega
    rcases gd a1 3 (by omega) with ⟨w, hw, rfl⟩ | ⟨hx, hy⟩
    · have h6 := bw6 hB hk8
      have g1 := nb_n (σ := σ) (by omega) hk (c0_11 hC)
      have o1 : f_X11_outside (nI w) 3 σ = some false := ou_n (j := w) (n := 3) σ (by omega) (by omega)
      have op : f_X8_opens (nI k) (σ 45 k) σ = some (vo_n σ (nI k) (nI (u 7 k))) := by
        rw [show σ 45 k = nI (u 7 k) from c7 hC k hk8]; rfl
      have kk : vo_n σ (nI k) (nI (u 7 k)) 44 k = nI (u 6 k) := by
        unfold vo_n
        rw [ab_u_ne _ _ _ (by omega : (44 : Nat) ≠ 21), ab_u_ne _ _ _ (by omega : (44 : Nat) ≠ 21), ab_u_ne _ _ _ (by omega : (44 : Nat) ≠ 21), ab_u_ne _ _ _ (by omega : (44 : Nat) ≠ 21)]
        exact c6 hC k hk8
      have GM : ∀ τ : ab_F, τ 86 = σ 86 → f_X12_voice (nI k) (nI w) a2 τ = (if nI w = (0 : Int32) then vo_G (f_GC 10 0 (nI (u 6 k)) a2) (vo_m τ (nI k)) else if nI w = (1 : Int32) then vo_G (f_GD 10 0 (nI (u 6 k)) a2) (vo_m τ (nI k)) else if nI w = (2 : Int32) then vo_G (f_GE 10 0 (nI (u 6 k)) a2) (vo_m τ (nI k)) else vo_G (f_GF 10 0 (nI (u 6 k)) a2) (vo_m τ (nI k))) := fun τ hτ => by
        have hM2 : rM u (τ 86) := by rw [hτ]; exact hM
        have g2 := is_n (σ := τ) (by omega) hk (d0_11 hM2)
        have kn2 : f_X12_kindNow (vo_m τ (nI k)) = some (nI (u 6 k)) := v_kind hM2 hk8 (vr_0 u k σ τ)
        unfold f_X12_voice
        rw [gs_t g2, gs_t (show f_X12_in (nI w) 0 3 τ = some true from in_n (j := w) (l := 0) (n := 3) τ (Nat.zero_le _) (by omega) (by omega)), lt_d, lt_d, lt_d]
        refine Eq.trans (congrArg (fun z => Option.bind z _) (show f_X12_kindNow (ab_u (ab_u (ab_u τ 85 12 (0 : Int32)) 85 14 (nI k)) 85 15 (0 : Int32)) = some (nI (u 6 k)) from kn2)) ?_
        rw [bi]
        rfl
      have FC : f_X11_voice (nI k) (nI w) a2 σ = (fun q7 => if nI (u 6 k) = (0 : Int32) then (if nI w = (0 : Int32) then vo_F (f_X2_wades_25 a2) q7 else if nI w = (1 : Int32) then vo_F (f_X2_knows_25 a2) q7 else if nI w = (2 : Int32) then vo_F (f_X2_sits_25 a2) q7 else vo_F (f_X2_parts_25 a2) q7) else if nI (u 6 k) = (1 : Int32) then (if nI w = (0 : Int32) then vo_F (f_X5_wades_26 a2) q7 else if nI w = (1 : Int32) then vo_F (f_X2_knows_26 a2) q7 else if nI w = (2 : Int32) then vo_F (f_X2_sits_26 a2) q7 else vo_F (f_X5_parts_26 a2) q7) else if nI (u 6 k) = (2 : Int32) then (if nI w = (0 : Int32) then vo_F (f_X2_wades_27 a2) q7 else if nI w = (1 : Int32) then vo_F (f_X10_knows_27 a2) q7 else if nI w = (2 : Int32) then vo_F (f_X2_sits_27 a2) q7 else vo_F (f_X2_parts_27 a2) q7) else if nI (u 6 k) = (3 : Int32) then (if nI w = (0 : Int32) then vo_F (f_X2_wades_28 a2) q7 else if nI w = (1 : Int32) then vo_F (f_X2_knows_28 a2) q7 else if nI w = (2 : Int32) then vo_F (f_X3_sits_28 a2) q7 else vo_F (f_X2_parts_28 a2) q7) else if nI (u 6 k) = (4 : Int32) then (if nI w = (0 : Int32) then vo_F (f_X1_wades_29 a2) q7 else if nI w = (1 : Int32) then vo_F (f_X2_knows_29 a2) q7 else if nI w = (2 : Int32) then vo_F (f_X1_sits_29 a2) q7 else vo_F (f_X5_parts_29 a2) q7) else if nI (u 6 k) = (5 : Int32) then (if nI w = (0 : Int32) then vo_F (f_X2_wades_30 a2) q7 else if nI w = (1 : Int32) then vo_F (f_X0_knows_30 a2) q7 else if nI w = (2 : Int32) then vo_F (f_X2_sits_30 a2) q7 else vo_F (f_X2_parts_30 a2) q7) else if nI (u 6 k) = (6 : Int32) then (if nI w = (0 : Int32) then vo_F (f_X4_wades_31 a2) q7 else if nI w = (1 : Int32) then vo_F (f_X4_knows_31 a2) q7 else if nI w = (2 : Int32) then vo_F (f_X2_sits_31 a2) q7 else vo_F (f_X2_parts_31 a2) q7) else none) (vo_n σ (nI k) (nI (u 7 k))) := by
        unfold f_X11_voice
        rw [gs_f g1, gs_f o1, ib_n hk8 (by omega), ck_t, cl_n (by omega), op, bi, ck_t, kk]
        rfl
      have h6' := le6 h6
      rcases h6' with hj | hj | hj | hj | hj | hj | hj <;> rcases vo_3 hw with rfl | rfl | rfl | rfl
      · refine v_top h (u := u) (k := k) hM (F := f_X2_wades_25 a2) (G := f_GC 10 0 (nI (u 6 k)) a2) (fun y0 h2 => vZ_of (tw_0 hj a2)) ?_ (fun τ hτ => ?_)
        · rw [FC, hj]
          show (if nI 0 = (0 : Int32) then _ else _) = _
          rw [if_pos (show nI 0 = (0 : Int32) from rfl), if_pos (show nI 0 = (0 : Int32) from rfl)]
        · rw [GM τ hτ, if_pos (show nI 0 = (0 : Int32) from rfl)]
      · refine v_top h (u := u) (k := k) hM (F := f_X2_knows_25 a2) (G := f_GD 10 0 (nI (u 6 k)) a2) (fun y0 h2 => vZ_of (tk_0 h2 hk8 hj a2)) ?_ (fun τ hτ => ?_)
        · rw [FC, hj]
          show (if nI 0 = (0 : Int32) then _ else _) = _
          rw [if_pos (show nI 0 = (0 : Int32) from rfl), if_neg (show ¬ nI 1 = (0 : Int32) by decide), if_pos (show nI 1 = (1 : Int32) from rfl)]
        · rw [GM τ hτ, if_neg (show ¬ nI 1 = (0 : Int32) by decide), if_pos (show nI 1 = (1 : Int32) from rfl)]
      · refine v_top h (u := u) (k := k) hM (F := f_X2_sits_25 a2) (G := f_GE 10 0 (nI (u 6 k)) a2) (fun y0 h2 => vZ_of (ts_0 h2 hk8 hj a2)) ?_ (fun τ hτ => ?_)
        · rw [FC, hj]
          show (if nI 0 = (0 : Int32) then _ else _) = _
          rw [if_pos (show nI 0 = (0 : Int32) from rfl), if_neg (show ¬ nI 2 = (0 : Int32) by decide), if_neg (show ¬ nI 2 = (1 : Int32) by decide), if_pos (show nI 2 = (2 : Int32) from rfl)]
        · rw [GM τ hτ, if_neg (show ¬ nI 2 = (0 : Int32) by decide), if_neg (show ¬ nI 2 = (1 : Int32) by decide), if_pos (show nI 2 = (2 : Int32) from rfl)]
      · refine v_top h (u := u) (k := k) hM (F := f_X2_parts_25 a2) (G := f_GF 10 0 (nI (u 6 k)) a2) (fun y0 h2 => tq_0 h2 hk8 hj a2) ?_ (fun τ hτ => ?_)
        · rw [FC, hj]
          show (if nI 0 = (0 : Int32) then _ else _) = _
          rw [if_pos (show nI 0 = (0 : Int32) from rfl), if_neg (show ¬ nI 3 = (0 : Int32) by decide), if_neg (show ¬ nI 3 = (1 : Int32) by decide), if_neg (show ¬ nI 3 = (2 : Int32) by decide)]
        · rw [GM τ hτ, if_neg (show ¬ nI 3 = (0 : Int32) by decide), if_neg (show ¬ nI 3 = (1 : Int32) by decide), if_neg (show ¬ nI 3 = (2 : Int32) by decide)]
      · refine v_top h (u := u) (k := k) hM (F := f_X5_wades_26 a2) (G := f_GC 10 0 (nI (u 6 k)) a2) (fun y0 h2 => vZ_of (tw_1 hj a2)) ?_ (fun τ hτ => ?_)
        · rw [FC, hj]
          show (if nI 1 = (0 : Int32) then _ else _) = _
          rw [if_neg (show ¬ nI 1 = (0 : Int32) by decide), if_pos (show nI 1 = (1 : Int32) from rfl), if_pos (show nI 0 = (0 : Int32) from rfl)]
        · rw [GM τ hτ, if_pos (show nI 0 = (0 : Int32) from rfl)]
      · refine v_top h (u := u) (k := k) hM (F := f_X2_knows_26 a2) (G := f_GD 10 0 (nI (u 6 k)) a2) (fun y0 h2 => vZ_of (tk_1 h2 hk8 hj a2)) ?_ (fun τ hτ => ?_)
        · rw [FC, hj]
          show (if nI 1 = (0 : Int32) then _ else _) = _
          rw [if_neg (show ¬ nI 1 = (0 : Int32) by decide), if_pos (show nI 1 = (1 : Int32) from rfl), if_neg (show ¬ nI 1 = (0 : Int32) by decide), if_pos (show nI 1 = (1 : Int32) from rfl)]
        · rw [GM τ hτ, if_neg (show ¬ nI 1 = (0 : Int32) by decide), if_pos (show nI 1 = (1 : Int32) from rfl)]
      · refine v_top h (u := u) (k := k) hM (F := f_X2_sits_26 a2) (G := f_GE 10 0 (nI (u 6 k)) a2) (fun y0 h2 => vZ_of (ts_1 h2 hk8 hj a2)) ?_ (fun τ hτ => ?_)
        · rw [FC, hj]
          show (if nI 1 = (0 : Int32) then _ else _) = _
          rw [if_neg (show ¬ nI 1 = (0 : Int32) by decide), if_pos (show nI 1 = (1 : Int32) from rfl), if_neg (show ¬ nI 2 = (0 : Int32) by decide), if_neg (show ¬ nI 2 = (1 : Int32) by decide), if_pos (show nI 2 = (2 : Int32) from rfl)]
        · rw [GM τ hτ, if_neg (show ¬ nI 2 = (0 : Int32) by decide), if_neg (show ¬ nI 2 = (1 : Int32) by decide), if_pos (show nI 2 = (2 : Int32) from rfl)]
      · refine v_top h (u := u) (k := k) hM (F := f_X5_parts_26 a2) (G := f_GF 10 0 (nI (u 6 k)) a2) (fun y0 h2 => tq_1 h2 hk8 hj a2) ?_ (fun τ hτ => ?_)
        · rw [FC, hj]
          show (if nI 1 = (0 : Int32) then _ else _) = _
          rw [if_neg (show ¬ nI 1 = (0 : Int32) by decide), if_pos (show nI 1 = (1 : Int32) from rfl), if_neg (show ¬ nI 3 = (0 : Int32) by decide), if_neg (show ¬ nI 3 = (1 : Int32) by decide), if_neg (show ¬ nI 3 = (2 : Int32) by decide)]
        · rw [GM τ hτ, if_neg (show ¬ nI 3 = (0 : Int32) by decide), if_neg (show ¬ nI 3 = (1 : Int32) by decide), if_neg (show ¬ nI 3 = (2 : Int32) by decide)]
      · refine v_top h (u := u) (k := k) hM (F := f_X2_wades_27 a2) (G := f_GC 10 0 (nI (u 6 k)) a2) (fun y0 h2 => vZ_of (tw_2 hj a2)) ?_ (fun τ hτ => ?_)
        · rw [FC, hj]
          show (if nI 2 = (0 : Int32) then _ else _) = _
          rw [if_neg (show ¬ nI 2 = (0 : Int32) by decide), if_neg (show ¬ nI 2 = (1 : Int32) by decide), if_pos (show nI 2 = (2 : Int32) from rfl), if_pos (show nI 0 = (0 : Int32) from rfl)]
        · rw [GM τ hτ, if_pos (show nI 0 = (0 : Int32) from rfl)]
      · refine v_top h (u := u) (k := k) hM (F := f_X10_knows_27 a2) (G := f_GD 10 0 (nI (u 6 k)) a2) (fun y0 h2 => vZ_of (tk_2 h2 hk8 hj a2)) ?_ (fun τ hτ => ?_)
        · rw [FC, hj]
          show (if nI 2 = (0 : Int32) then _ else _) = _
          rw [if_neg (show ¬ nI 2 = (0 : Int32) by decide), if_neg (show ¬ nI 2 = (1 : Int32) by decide), if_pos (show nI 2 = (2 : Int32) from rfl), if_neg (show ¬ nI 1 = (0 : Int32) by decide), if_pos (show nI 1 = (1 : Int32) from rfl)]
        · rw [GM τ hτ, if_neg (show ¬ nI 1 = (0 : Int32) by decide), if_pos (show nI 1 = (1 : Int32) from rfl)]
      · refine v_top h (u := u) (k := k) hM (F := f_X2_sits_27 a2) (G := f_GE 10 0 (nI (u 6 k)) a2) (fun y0 h2 => vZ_of (ts_2 h2 hk8 hj a2)) ?_ (fun τ hτ => ?_)
        · rw [FC, hj]
          show (if nI 2 = (0 : Int32) then _ else _) = _
          rw [if_neg (show ¬ nI 2 = (0 : Int32) by decide), if_neg (show ¬ nI 2 = (1 : Int32) by decide), if_pos (show nI 2 = (2 : Int32) from rfl), if_neg (show ¬ nI 2 = (0 : Int32) by decide), if_neg (show ¬ nI 2 = (1 : Int32) by decide), if_pos (show nI 2 = (2 : Int32) from rfl)]
        · rw [GM τ hτ, if_neg (show ¬ nI 2 = (0 : Int32) by decide), if_neg (show ¬ nI 2 = (1 : Int32) by decide), if_pos (show nI 2 = (2 : Int32) from rfl)]
      · refine v_top h (u := u) (k := k) hM (F := f_X2_parts_27 a2) (G := f_GF 10 0 (nI (u 6 k)) a2) (fun y0 h2 => tq_2 h2 hk8 hj a2) ?_ (fun τ hτ => ?_)
        · rw [FC, hj]
          show (if nI 2 = (0 : Int32) then _ else _) = _
          rw [if_neg (show ¬ nI 2 = (0 : Int32) by decide), if_neg (show ¬ nI 2 = (1 : Int32) by decide), if_pos (show nI 2 = (2 : Int32) from rfl), if_neg (show ¬ nI 3 = (0 : Int32) by decide), if_neg (show ¬ nI 3 = (1 : Int32) by decide), if_neg (show ¬ nI 3 = (2 : Int32) by decide)]
        · rw [GM τ hτ, if_neg (show ¬ nI 3 = (0 : Int32) by decide), if_neg (show ¬ nI 3 = (1 : Int32) by decide), if_neg (show ¬ nI 3 = (2 : Int32) by decide)]
      · refine v_top h (u := u) (k := k) hM (F := f_X2_wades_28 a2) (G := f_GC 10 0 (nI (u 6 k)) a2) (fun y0 h2 => vZ_of (tw_3 hj a2)) ?_ (fun τ hτ => ?_)
        · rw [FC, hj]
          show (if nI 3 = (0 : Int32) then _ else _) = _
          rw [if_neg (show ¬ nI 3 = (0 : Int32) by decide), if_neg (show ¬ nI 3 = (1 : Int32) by decide), if_neg (show ¬ nI 3 = (2 : Int32) by decide), if_pos (show nI 3 = (3 : Int32) from rfl), if_pos (show nI 0 = (0 : Int32) from rfl)]
        · rw [GM τ hτ, if_pos (show nI 0 = (0 : Int32) from rfl)]
      · refine v_top h (u := u) (k := k) hM (F := f_X2_knows_28 a2) (G := f_GD 10 0 (nI (u 6 k)) a2) (fun y0 h2 => vZ_of (tk_3 h2 hk8 hj a2)) ?_ (fun τ hτ => ?_)
        · rw [FC, hj]
          show (if nI 3 = (0 : Int32) then _ else _) = _
          rw [if_neg (show ¬ nI 3 = (0 : Int32) by decide), if_neg (show ¬ nI 3 = (1 : Int32) by decide), if_neg (show ¬ nI 3 = (2 : Int32) by decide), if_pos (show nI 3 = (3 : Int32) from rfl), if_neg (show ¬ nI 1 = (0 : Int32) by decide), if_pos (show nI 1 = (1 : Int32) from rfl)]
        · rw [GM τ hτ, if_neg (show ¬ nI 1 = (0 : Int32) by decide), if_pos (show nI 1 = (1 : Int32) from rfl)]
      · refine v_top h (u := u) (k := k) hM (F := f_X3_sits_28 a2) (G := f_GE 10 0 (nI (u 6 k)) a2) (fun y0 h2 => vZ_of (ts_3 h2 hk8 hj a2)) ?_ (fun τ hτ => ?_)
        · rw [FC, hj]
          show (if nI 3 = (0 : Int32) then _ else _) = _
          rw [if_neg (show ¬ nI 3 = (0 : Int32) by decide), if_neg (show ¬ nI 3 = (1 : Int32) by decide), if_neg (show ¬ nI 3 = (2 : Int32) by decide), if_pos (show nI 3 = (3 : Int32) from rfl), if_neg (show ¬ nI 2 = (0 : Int32) by decide), if_neg (show ¬ nI 2 = (1 : Int32) by decide), if_pos (show nI 2 = (2 : Int32) from rfl)]
        · rw [GM τ hτ, if_neg (show ¬ nI 2 = (0 : Int32) by decide), if_neg (show ¬ nI 2 = (1 : Int32) by decide), if_pos (show nI 2 = (2 : Int32) from rfl)]
      · refine v_top h (u := u) (k := k) hM (F := f_X2_parts_28 a2) (G := f_GF 10 0 (nI (u 6 k)) a2) (fun y0 h2 => tq_3 h2 hk8 hj a2) ?_ (fun τ hτ => ?_)
        · rw [FC, hj]
          show (if nI 3 = (0 : Int32) then _ else _) = _
          rw [if_neg (show ¬ nI 3 = (0 : Int32) by decide), if_neg (show ¬ nI 3 = (1 : Int32) by decide), if_neg (show ¬ nI 3 = (2 : Int32) by decide), if_pos (show nI 3 = (3 : Int32) from rfl), if_neg (show ¬ nI 3 = (0 : Int32) by decide), if_neg (show ¬ nI 3 = (1 : Int32) by decide), if_neg (show ¬ nI 3 = (2 : Int32) by decide)]
        · rw [GM τ hτ, if_neg (show ¬ nI 3 = (0 : Int32) by decide), if_neg (show ¬ nI 3 = (1 : Int32) by decide), if_neg (show ¬ nI 3 = (2 : Int32) by decide)]
      · refine v_top h (u := u) (k := k) hM (F := f_X1_wades_29 a2) (G := f_GC 10 0 (nI (u 6 k)) a2) (fun y0 h2 => vZ_of (tw_4 hj a2)) ?_ (fun τ hτ => ?_)
        · rw [FC, hj]
          show (if nI 4 = (0 : Int32) then _ else _) = _
          rw [if_neg (show ¬ nI 4 = (0 : Int32) by decide), if_neg (show ¬ nI 4 = (1 : Int32) by decide), if_neg (show ¬ nI 4 = (2 : Int32) by decide), if_neg (show ¬ nI 4 = (3 : Int32) by decide), if_pos (show nI 4 = (4 : Int32) from rfl), if_pos (show nI 0 = (0 : Int32) from rfl)]
        · rw [GM τ hτ, if_pos (show nI 0 = (0 : Int32) from rfl)]
      · refine v_top h (u := u) (k := k) hM (F := f_X2_knows_29 a2) (G := f_GD 10 0 (nI (u 6 k)) a2) (fun y0 h2 => vZ_of (tk_4 h2 hk8 hj a2)) ?_ (fun τ hτ => ?_)
        · rw [FC, hj]
          show (if nI 4 = (0 : Int32) then _ else _) = _
          rw [if_neg (show ¬ nI 4 = (0 : Int32) by decide), if_neg (show ¬ nI 4 = (1 : Int32) by decide), if_neg (show ¬ nI 4 = (2 : Int32) by decide), if_neg (show ¬ nI 4 = (3 : Int32) by decide), if_pos (show nI 4 = (4 : Int32) from rfl), if_neg (show ¬ nI 1 = (0 : Int32) by decide), if_pos (show nI 1 = (1 : Int32) from rfl)]
        · rw [GM τ hτ, if_neg (show ¬ nI 1 = (0 : Int32) by decide), if_pos (show nI 1 = (1 : Int32) from rfl)]
      · refine v_top h (u := u) (k := k) hM (F := f_X1_sits_29 a2) (G := f_GE 10 0 (nI (u 6 k)) a2) (fun y0 h2 => vZ_of (ts_4 h2 hk8 hj a2)) ?_ (fun τ hτ => ?_)
        · rw [FC, hj]
          show (if nI 4 = (0 : Int32) then _ else _) = _
          rw [if_neg (show ¬ nI 4 = (0 : Int32) by decide), if_neg (show ¬ nI 4 = (1 : Int32) by decide), if_neg (show ¬ nI 4 = (2 : Int32) by decide), if_neg (show ¬ nI 4 = (3 : Int32) by decide), if_pos (show nI 4 = (4 : Int32) from rfl), if_neg (show ¬ nI 2 = (0 : Int32) by decide), if_neg (show ¬ nI 2 = (1 : Int32) by decide), if_pos (show nI 2 = (2 : Int32) from rfl)]
        · rw [GM τ hτ, if_neg (show ¬ nI 2 = (0 : Int32) by decide), if_neg (show ¬ nI 2 = (1 : Int32) by decide), if_pos (show nI 2 = (2 : Int32) from rfl)]
      · refine v_top h (u := u) (k := k) hM (F := f_X5_parts_29 a2) (G := f_GF 10 0 (nI (u 6 k)) a2) (fun y0 h2 => tq_4 h2 hk8 hj a2) ?_ (fun τ hτ => ?_)
        · rw [FC, hj]
          show (if nI 4 = (0 : Int32) then _ else _) = _
          rw [if_neg (show ¬ nI 4 = (0 : Int32) by decide), if_neg (show ¬ nI 4 = (1 : Int32) by decide), if_neg (show ¬ nI 4 = (2 : Int32) by decide), if_neg (show ¬ nI 4 = (3 : Int32) by decide), if_pos (show nI 4 = (4 : Int32) from rfl), if_neg (show ¬ nI 3 = (0 : Int32) by decide), if_neg (show ¬ nI 3 = (1 : Int32) by decide), if_neg (show ¬ nI 3 = (2 : Int32) by decide)]
        · rw [GM τ hτ, if_neg (show ¬ nI 3 = (0 : Int32) by decide), if_neg (show ¬ nI 3 = (1 : Int32) by decide), if_neg (show ¬ nI 3 = (2 : Int32) by decide)]
      · refine v_top h (u := u) (k := k) hM (F := f_X2_wades_30 a2) (G := f_GC 10 0 (nI (u 6 k)) a2) (fun y0 h2 => vZ_of (tw_5 hj a2)) ?_ (fun τ hτ => ?_)
        · rw [FC, hj]
          show (if nI 5 = (0 : Int32) then _ else _) = _
          rw [if_neg (show ¬ nI 5 = (0 : Int32) by decide), if_neg (show ¬ nI 5 = (1 : Int32) by decide), if_neg (show ¬ nI 5 = (2 : Int32) by decide), if_neg (show ¬ nI 5 = (3 : Int32) by decide), if_neg (show ¬ nI 5 = (4 : Int32) by decide), if_pos (show nI 5 = (5 : Int32) from rfl), if_pos (show nI 0 = (0 : Int32) from rfl)]
        · rw [GM τ hτ, if_pos (show nI 0 = (0 : Int32) from rfl)]
      · refine v_top h (u := u) (k := k) hM (F := f_X0_knows_30 a2) (G := f_GD 10 0 (nI (u 6 k)) a2) (fun y0 h2 => vZ_of (tk_5 h2 hk8 hj a2)) ?_ (fun τ hτ => ?_)
        · rw [FC, hj]
          show (if nI 5 = (0 : Int32) then _ else _) = _
          rw [if_neg (show ¬ nI 5 = (0 : Int32) by decide), if_neg (show ¬ nI 5 = (1 : Int32) by decide), if_neg (show ¬ nI 5 = (2 : Int32) by decide), if_neg (show ¬ nI 5 = (3 : Int32) by decide), if_neg (show ¬ nI 5 = (4 : Int32) by decide), if_pos (show nI 5 = (5 : Int32) from rfl), if_neg (show ¬ nI 1 = (0 : Int32) by decide), if_pos (show nI 1 = (1 : Int32) from rfl)]
        · rw [GM τ hτ, if_neg (show ¬ nI 1 = (0 : Int32) by decide), if_pos (show nI 1 = (1 : Int32) from rfl)]
      · refine v_top h (u := u) (k := k) hM (F := f_X2_sits_30 a2) (G := f_GE 10 0 (nI (u 6 k)) a2) (fun y0 h2 => vZ_of (ts_5 h2 hk8 hj a2)) ?_ (fun τ hτ => ?_)
        · rw [FC, hj]
          show (if nI 5 = (0 : Int32) then _ else _) = _
          rw [if_neg (show ¬ nI 5 = (0 : Int32) by decide), if_neg (show ¬ nI 5 = (1 : Int32) by decide), if_neg (show ¬ nI 5 = (2 : Int32) by decide), if_neg (show ¬ nI 5 = (3 : Int32) by decide), if_neg (show ¬ nI 5 = (4 : Int32) by decide), if_pos (show nI 5 = (5 : Int32) from rfl), if_neg (show ¬ nI 2 = (0 : Int32) by decide), if_neg (show ¬ nI 2 = (1 : Int32) by decide), if_pos (show nI 2 = (2 : Int32) from rfl)]
        · rw [GM τ hτ, if_neg (show ¬ nI 2 = (0 : Int32) by decide), if_neg (show ¬ nI 2 = (1 : Int32) by decide), if_pos (show nI 2 = (2 : Int32) from rfl)]
      · refine v_top h (u := u) (k := k) hM (F := f_X2_parts_30 a2) (G := f_GF 10 0 (nI (u 6 k)) a2) (fun y0 h2 => tq_5 h2 hk8 hj a2) ?_ (fun τ hτ => ?_)
        · rw [FC, hj]
          show (if nI 5 = (0 : Int32) then _ else _) = _
          rw [if_neg (show ¬ nI 5 = (0 : Int32) by decide), if_neg (show ¬ nI 5 = (1 : Int32) by decide), if_neg (show ¬ nI 5 = (2 : Int32) by decide), if_neg (show ¬ nI 5 = (3 : Int32) by decide), if_neg (show ¬ nI 5 = (4 : Int32) by decide), if_pos (show nI 5 = (5 : Int32) from rfl), if_neg (show ¬ nI 3 = (0 : Int32) by decide), if_neg (show ¬ nI 3 = (1 : Int32) by decide), if_neg (show ¬ nI 3 = (2 : Int32) by decide)]
        · rw [GM τ hτ, if_neg (show ¬ nI 3 = (0 : Int32) by decide), if_neg (show ¬ nI 3 = (1 : Int32) by decide), if_neg (show ¬ nI 3 = (2 : Int32) by decide)]
      · refine v_top h (u := u) (k := k) hM (F := f_X4_wades_31 a2) (G := f_GC 10 0 (nI (u 6 k)) a2) (fun y0 h2 => vZ_of (tw_6 hj a2)) ?_ (fun τ hτ => ?_)
        · rw [FC, hj]
          show (if nI 6 = (0 : Int32) then _ else _) = _
          rw [if_neg (show ¬ nI 6 = (0 : Int32) by decide), if_neg (show ¬ nI 6 = (1 : Int32) by decide), if_neg (show ¬ nI 6 = (2 : Int32) by decide), if_neg (show ¬ nI 6 = (3 : Int32) by decide), if_neg (show ¬ nI 6 = (4 : Int32) by decide), if_neg (show ¬ nI 6 = (5 : Int32) by decide), if_pos (show nI 6 = (6 : Int32) from rfl), if_pos (show nI 0 = (0 : Int32) from rfl)]
        · rw [GM τ hτ, if_pos (show nI 0 = (0 : Int32) from rfl)]
      · refine v_top h (u := u) (k := k) hM (F := f_X4_knows_31 a2) (G := f_GD 10 0 (nI (u 6 k)) a2) (fun y0 h2 => vZ_of (tk_6 h2 hk8 hj a2)) ?_ (fun τ hτ => ?_)
        · rw [FC, hj]
          show (if nI 6 = (0 : Int32) then _ else _) = _
          rw [if_neg (show ¬ nI 6 = (0 : Int32) by decide), if_neg (show ¬ nI 6 = (1 : Int32) by decide), if_neg (show ¬ nI 6 = (2 : Int32) by decide), if_neg (show ¬ nI 6 = (3 : Int32) by decide), if_neg (show ¬ nI 6 = (4 : Int32) by decide), if_neg (show ¬ nI 6 = (5 : Int32) by decide), if_pos (show nI 6 = (6 : Int32) from rfl), if_neg (show ¬ nI 1 = (0 : Int32) by decide), if_pos (show nI 1 = (1 : Int32) from rfl)]
        · rw [GM τ hτ, if_neg (show ¬ nI 1 = (0 : Int32) by decide), if_pos (show nI 1 = (1 : Int32) from rfl)]
      · refine v_top h (u := u) (k := k) hM (F := f_X2_sits_31 a2) (G := f_GE 10 0 (nI (u 6 k)) a2) (fun y0 h2 => vZ_of (ts_6 h2 hk8 hj a2)) ?_ (fun τ hτ => ?_)
        · rw [FC, hj]
          show (if nI 6 = (0 : Int32) then _ else _) = _
          rw [if_neg (show ¬ nI 6 = (0 : Int32) by decide), if_neg (show ¬ nI 6 = (1 : Int32) by decide), if_neg (show ¬ nI 6 = (2 : Int32) by decide), if_neg (show ¬ nI 6 = (3 : Int32) by decide), if_neg (show ¬ nI 6 = (4 : Int32) by decide), if_neg (show ¬ nI 6 = (5 : Int32) by decide), if_pos (show nI 6 = (6 : Int32) from rfl), if_neg (show ¬ nI 2 = (0 : Int32) by decide), if_neg (show ¬ nI 2 = (1 : Int32) by decide), if_pos (show nI 2 = (2 : Int32) from rfl)]
        · rw [GM τ hτ, if_neg (show ¬ nI 2 = (0 : Int32) by decide), if_neg (show ¬ nI 2 = (1 : Int32) by decide), if_pos (show nI 2 = (2 : Int32) from rfl)]
      · refine v_top h (u := u) (k := k) hM (F := f_X2_parts_31 a2) (G := f_GF 10 0 (nI (u 6 k)) a2) (fun y0 h2 => tq_6 h2 hk8 hj a2) ?_ (fun τ hτ => ?_)
        · rw [FC, hj]
          show (if nI 6 = (0 : Int32) then _ else _) = _
          rw [if_neg (show ¬ nI 6 = (0 : Int32) by decide), if_neg (show ¬ nI 6 = (1 : Int32) by decide), if_neg (show ¬ nI 6 = (2 : Int32) by decide), if_neg (show ¬ nI 6 = (3 : Int32) by decide), if_neg (show ¬ nI 6 = (4 : Int32) by decide), if_neg (show ¬ nI 6 = (5 : Int32) by decide), if_pos (show nI 6 = (6 : Int32) from rfl), if_neg (show ¬ nI 3 = (0 : Int32) by decide), if_neg (show ¬ nI 3 = (1 : Int32) by decide), if_neg (show ¬ nI 3 = (2 : Int32) by decide)]
        · rw [GM τ hτ, if_neg (show ¬ nI 3 = (0 : Int32) by decide), if_neg (show ¬ nI 3 = (1 : Int32) by decide), if_neg (show ¬ nI 3 = (2 : Int32) by decide)]
    · refine er2 h 1 (by omega) ?_ (fun τ hτ => ?_)
      · unfold f_X11_voice
        rw [gs_f (nb_n (by omega) hk (c0_11 hC)), gs_t (show f_X11_outside a1 3 σ = some true from hx σ), bie]; rfl
      · unfold f_X12_voice
        rw [gs_t (is_n (by omega) hk (by rw [hτ 86 (by omega)]; exact d0_11 hM)), gs_f (show f_X12_in a1 0 3 τ = some false from hy τ), bie]; rfl
  · refine er2 h 1 (by omega) ?_ (fun τ hτ => ?_)
    · unfold f_X11_voice
      rw [gs_t (hx σ (c0_11 hC)), bie]; rfl
    · unfold f_X12_voice
      rw [gs_f (hy τ (by rw [hτ 86 (by omega)]; exact d0_11 hM)), bie]; rfl
