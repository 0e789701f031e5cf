theorem t20 : ab_tab 2 0 = nI 9 := rfl
theorem t21 : ab_tab 2 1 = nI 99 := rfl
theorem t22 : ab_tab 2 2 = nI 1 := rfl
theorem t23 : ab_tab 2 3 = nI 4095 := rfl
theorem t30 : ab_tab 3 0 = nI 15 := rfl
theorem t31 : ab_tab 3 1 = nI 20 := rfl
theorem t32 : ab_tab 3 2 = nI 4095 := rfl
theorem m_set (a0 a1 a2 : Int32) : ok2 rR (f_X11_set a0 a1 a2) (f_X12_set a0 a1 a2) := by
  intro σ h
  obtain ⟨u, hB, hC, hM⟩ := rR_u h
  have hp := b11 hB
  rcases go a0 (u 0 11) hp with ⟨k, hk, rfl⟩ | ⟨hx, hy⟩
  · rcases gd a1 2 (by omega) with ⟨w, hw, rfl⟩ | ⟨hx, hy⟩
    · have hw3 : w = 0 ∨ w = 1 ∨ w = 2 := by omega
      have e6 : ∀ q, q ≤ 2 → 76 + 5 * k + 2 + q = ix (8 + q) k := fun q hq => by rw [show 8 + q = 6 + (2 + q) by omega, ixp _ _ (by omega)]; omega
      have d8 : ∀ q, q ≤ 2 → σ 86 (76 + 5 * k + 2 + q) = nI (u (8 + q) k) := fun q hq => by rw [e6 q hq]; exact hM _ _ (vp (by omega) (by omega) (by omega))
      have D0 : σ 86 (76 + 5 * k + 2 + 0) = nI (u 8 k) := d8 0 (by omega)
      have D1 : σ 86 (76 + 5 * k + 2 + 1) = nI (u 9 k) := d8 1 (by omega)
      have D2 : σ 86 (76 + 5 * k + 2 + 2) = nI (u 10 k) := d8 2 (by omega)
      have I0 : ix 8 k = 76 + 5 * k + 2 + 0 := (e6 0 (by omega)).symm
      have I1 : ix 9 k = 76 + 5 * k + 2 + 1 := (e6 1 (by omega)).symm
      have I2 : ix 10 k = 76 + 5 * k + 2 + 2 := (e6 2 (by omega)).symm
      rcases hw3 with rfl | rfl | rfl
      · rcases gd a2 15 (by omega) with ⟨v, hv, rfl⟩ | ⟨hx, hy⟩
        · refine ⟨nI (u 8 k), ab_u σ 46 k (nI v), _, ?_, ?_, rR_set h (r := 8) (i := k) (v := v) (vp (by omega) (by omega) (by omega)) hv⟩
          · unfold f_X11_set f_X11_nobody f_X9_rowOfPeople f_X11_swap_46
            simp (disch := omega) only [c0_11 hC, c8 hC, t30, Nat.reduceAdd, lit, nI_add, pk_mul, pk_sub, pk_div, ib_n, ck_t, cl_n, lt_d, b_t, b_f, bi, bie, nI_eq, nI_leI, nI_ltI, ou_n, in_n, if_pos, if_neg, ne_eq, ab_u_ne, ab_u_same, pk_us, pk_un, ↓reduceIte, Nat.reduceAdd, Nat.reduceMul, Nat.reduceSub, Nat.reduceDiv, Nat.reduceMod, Nat.reduceEqDiff, Nat.reduceLeDiff, Nat.reduceLT]
          · unfold f_X12_set f_X12_isOne
            simp (disch := omega) only [d0_11 hM, chg_n, D0, D1, D2, I0, I1, I2, lit, nI_add, pk_mul, pk_sub, pk_div, ib_n, ck_t, cl_n, lt_d, b_t, b_f, bi, bie, nI_eq, nI_leI, nI_ltI, ou_n, in_n, if_pos, if_neg, ne_eq, ab_u_ne, ab_u_same, pk_us, pk_un, ↓reduceIte, Nat.reduceAdd, Nat.reduceMul, Nat.reduceSub, Nat.reduceDiv, Nat.reduceMod, Nat.reduceEqDiff, Nat.reduceLeDiff, Nat.reduceLT]
        · refine er2 h 1 (by omega) ?_ (fun τ hτ => ?_)
          · unfold f_X11_set f_X11_nobody
            simp (disch := omega) only [c0_11 hC, t30, hx, lit, nI_add, pk_mul, pk_sub, pk_div, ib_n, ck_t, cl_n, lt_d, b_t, b_f, bi, bie, nI_eq, nI_leI, nI_ltI, ou_n, in_n, if_pos, if_neg, ne_eq, ab_u_ne, ab_u_same, pk_us, pk_un, ↓reduceIte, Nat.reduceAdd, Nat.reduceMul, Nat.reduceSub, Nat.reduceDiv, Nat.reduceMod, Nat.reduceEqDiff, Nat.reduceLeDiff, Nat.reduceLT]
          · unfold f_X12_set f_X12_isOne
            simp (disch := omega) only [hτ, d0_11 hM, hy, lit, nI_add, pk_mul, pk_sub, pk_div, ib_n, ck_t, cl_n, lt_d, b_t, b_f, bi, bie, nI_eq, nI_leI, nI_ltI, ou_n, in_n, if_pos, if_neg, ne_eq, ab_u_ne, ab_u_same, pk_us, pk_un, ↓reduceIte, Nat.reduceAdd, Nat.reduceMul, Nat.reduceSub, Nat.reduceDiv, Nat.reduceMod, Nat.reduceEqDiff, Nat.reduceLeDiff, Nat.reduceLT]
      · rcases gd a2 20 (by omega) with ⟨v, hv, rfl⟩ | ⟨hx, hy⟩
        · refine ⟨nI (u 9 k), ab_u σ 47 k (nI v), _, ?_, ?_, rR_set h (r := 9) (i := k) (v := v) (vp (by omega) (by omega) (by omega)) hv⟩
          · unfold f_X11_set f_X11_nobody f_X9_rowOfPeople f_X11_swap_47
            simp (disch := omega) only [c0_11 hC, c9 hC, t31, Nat.reduceAdd, Nat.reduceEqDiff, lit, nI_add, pk_mul, pk_sub, pk_div, ib_n, ck_t, cl_n, lt_d, b_t, b_f, bi, bie, nI_eq, nI_leI, nI_ltI, ou_n, in_n, if_pos, if_neg, ne_eq, ab_u_ne, ab_u_same, pk_us, pk_un, ↓reduceIte, Nat.reduceAdd, Nat.reduceMul, Nat.reduceSub, Nat.reduceDiv, Nat.reduceMod, Nat.reduceEqDiff, Nat.reduceLeDiff, Nat.reduceLT]
          · unfold f_X12_set f_X12_isOne
            simp (disch := omega) only [d0_11 hM, chg_n, D0, D1, D2, I0, I1, I2, lit, nI_add, pk_mul, pk_sub, pk_div, ib_n, ck_t, cl_n, lt_d, b_t, b_f, bi, bie, nI_eq, nI_leI, nI_ltI, ou_n, in_n, if_pos, if_neg, ne_eq, ab_u_ne, ab_u_same, pk_us, pk_un, ↓reduceIte, Nat.reduceAdd, Nat.reduceMul, Nat.reduceSub, Nat.reduceDiv, Nat.reduceMod, Nat.reduceEqDiff, Nat.reduceLeDiff, Nat.reduceLT]
        · refine er2 h 1 (by omega) ?_ (fun τ hτ => ?_)
          · unfold f_X11_set f_X11_nobody
            simp (disch := omega) only [c0_11 hC, t31, hx, lit, nI_add, pk_mul, pk_sub, pk_div, ib_n, ck_t, cl_n, lt_d, b_t, b_f, bi, bie, nI_eq, nI_leI, nI_ltI, ou_n, in_n, if_pos, if_neg, ne_eq, ab_u_ne, ab_u_same, pk_us, pk_un, ↓reduceIte, Nat.reduceAdd, Nat.reduceMul, Nat.reduceSub, Nat.reduceDiv, Nat.reduceMod, Nat.reduceEqDiff, Nat.reduceLeDiff, Nat.reduceLT]
          · unfold f_X12_set f_X12_isOne
            simp (disch := omega) only [hτ, d0_11 hM, hy, lit, nI_add, pk_mul, pk_sub, pk_div, ib_n, ck_t, cl_n, lt_d, b_t, b_f, bi, bie, nI_eq, nI_leI, nI_ltI, ou_n, in_n, if_pos, if_neg, ne_eq, ab_u_ne, ab_u_same, pk_us, pk_un, ↓reduceIte, Nat.reduceAdd, Nat.reduceMul, Nat.reduceSub, Nat.reduceDiv, Nat.reduceMod, Nat.reduceEqDiff, Nat.reduceLeDiff, Nat.reduceLT]
      · rcases gd a2 4095 (by omega) with ⟨v, hv, rfl⟩ | ⟨hx, hy⟩
        · refine ⟨nI (u 10 k), ab_u σ 48 k (nI v), _, ?_, ?_, rR_set h (r := 10) (i := k) (v := v) (vp (by omega) (by omega) (by omega)) hv⟩
          · unfold f_X11_set f_X11_nobody f_X9_rowOfPeople f_X11_swap_48
            simp (disch := omega) only [c0_11 hC, c10 hC, t32, Nat.reduceAdd, Nat.reduceEqDiff, lit, nI_add, pk_mul, pk_sub, pk_div, ib_n, ck_t, cl_n, lt_d, b_t, b_f, bi, bie, nI_eq, nI_leI, nI_ltI, ou_n, in_n, if_pos, if_neg, ne_eq, ab_u_ne, ab_u_same, pk_us, pk_un, ↓reduceIte, Nat.reduceAdd, Nat.reduceMul, Nat.reduceSub, Nat.reduceDiv, Nat.reduceMod, Nat.reduceEqDiff, Nat.reduceLeDiff, Nat.reduceLT]
          · unfold f_X12_set f_X12_isOne
            simp (disch := omega) only [d0_11 hM, chg_n, D0, D1, D2, I0, I1, I2, lit, nI_add, pk_mul, pk_sub, pk_div, ib_n, ck_t, cl_n, lt_d, b_t, b_f, bi, bie, nI_eq, nI_leI, nI_ltI, ou_n, in_n, if_pos, if_neg, ne_eq, ab_u_ne, ab_u_same, pk_us, pk_un, ↓reduceIte, Nat.reduceAdd, Nat.reduceMul, Nat.reduceSub, Nat.reduceDiv, Nat.reduceMod, Nat.reduceEqDiff, Nat.reduceLeDiff, Nat.reduceLT]
        · refine er2 h 1 (by omega) ?_ (fun τ hτ => ?_)
          · unfold f_X11_set f_X11_nobody
            simp (disch := omega) only [c0_11 hC, t32, hx, lit, nI_add, pk_mul, pk_sub, pk_div, ib_n, ck_t, cl_n, lt_d, b_t, b_f, bi, bie, nI_eq, nI_leI, nI_ltI, ou_n, in_n, if_pos, if_neg, ne_eq, ab_u_ne, ab_u_same, pk_us, pk_un, ↓reduceIte, Nat.reduceAdd, Nat.reduceMul, Nat.reduceSub, Nat.reduceDiv, Nat.reduceMod, Nat.reduceEqDiff, Nat.reduceLeDiff, Nat.reduceLT]
          · unfold f_X12_set f_X12_isOne
            simp (disch := omega) only [hτ, d0_11 hM, hy, lit, nI_add, pk_mul, pk_sub, pk_div, ib_n, ck_t, cl_n, lt_d, b_t, b_f, bi, bie, nI_eq, nI_leI, nI_ltI, ou_n, in_n, if_pos, if_neg, ne_eq, ab_u_ne, ab_u_same, pk_us, pk_un, ↓reduceIte, Nat.reduceAdd, Nat.reduceMul, Nat.reduceSub, Nat.reduceDiv, Nat.reduceMod, Nat.reduceEqDiff, Nat.reduceLeDiff, Nat.reduceLT]
    · refine er2 h 1 (by omega) ?_ (fun τ hτ => ?_)
      · unfold f_X11_set f_X11_nobody
        simp (disch := omega) only [c0_11 hC, hx, Nat.reduceSub, lit, nI_add, pk_mul, pk_sub, pk_div, ib_n, ck_t, cl_n, lt_d, b_t, b_f, bi, bie, nI_eq, nI_leI, nI_ltI, ou_n, in_n, if_pos, if_neg, ne_eq, ab_u_ne, ab_u_same, pk_us, pk_un, ↓reduceIte, Nat.reduceAdd, Nat.reduceMul, Nat.reduceSub, Nat.reduceDiv, Nat.reduceMod, Nat.reduceEqDiff, Nat.reduceLeDiff, Nat.reduceLT]
      · unfold f_X12_set f_X12_isOne
        simp (disch := omega) only [hτ, d0_11 hM, hy, ite_self, lit, nI_add, pk_mul, pk_sub, pk_div, ib_n, ck_t, cl_n, lt_d, b_t, b_f, bi, bie, nI_eq, nI_leI, nI_ltI, ou_n, in_n, if_pos, if_neg, ne_eq, ab_u_ne, ab_u_same, pk_us, pk_un, ↓reduceIte, Nat.reduceAdd, Nat.reduceMul, Nat.reduceSub, Nat.reduceDiv, Nat.reduceMod, Nat.reduceEqDiff, Nat.reduceLeDiff, Nat.reduceLT]
  · refine er2 h 1 (by omega) ?_ (fun τ hτ => ?_)
    · unfold f_X11_set
      simp (disch := omega) only [hx σ (c0_11 hC), lit, nI_add, pk_mul, pk_sub, pk_div, ib_n, ck_t, cl_n, lt_d, b_t, b_f, bi, bie, nI_eq, nI_leI, nI_ltI, ou_n, in_n, if_pos, if_neg, ne_eq, ab_u_ne, ab_u_same, pk_us, pk_un, ↓reduceIte, Nat.reduceAdd, Nat.reduceMul, Nat.reduceSub, Nat.reduceDiv, Nat.reduceMod, Nat.reduceEqDiff, Nat.reduceLeDiff, Nat.reduceLT]
    · unfold f_X12_set
      rw [hy τ (by rw [hτ 86 (by omega)]; exact d0_11 hM)]
      simp (disch := omega) only [ite_self, lit, nI_add, pk_mul, pk_sub, pk_div, ib_n, ck_t, cl_n, lt_d, b_t, b_f, bi, bie, nI_eq, nI_leI, nI_ltI, ou_n, in_n, if_pos, if_neg, ne_eq, ab_u_ne, ab_u_same, pk_us, pk_un, ↓reduceIte, Nat.reduceAdd, Nat.reduceMul, Nat.reduceSub, Nat.reduceDiv, Nat.reduceMod, Nat.reduceEqDiff, Nat.reduceLeDiff, Nat.reduceLT]
theorem m_land (a0 a1 a2 : Int32) : ok2 rR (f_X11_land a0 a1 a2) (f_X12_land a0 a1 a2) := by
  intro σ h
  obtain ⟨u, hB, hC, hM⟩ := rR_u h
  rcases gd a0 15 (by omega) with ⟨k, hk, rfl⟩ | ⟨hx, hy⟩
  · rcases gd a1 3 (by omega) with ⟨w, hw, rfl⟩ | ⟨hx, hy⟩
    · have hw3 : w = 0 ∨ w = 1 ∨ w = 2 ∨ w = 3 := by omega
      have e6 : ∀ q, q ≤ 3 → 12 + 16 * q + k = ix (1 + q) k := fun q hq => by unfold ix; (repeat' split) <;> omega
      have d8 : ∀ q, q ≤ 3 → σ 86 (12 + 16 * q + k) = nI (u (1 + q) k) := fun q hq => by rw [e6 q hq]; exact hM _ _ (vc (by omega) (by omega) (by omega))
      rcases hw3 with rfl | rfl | rfl | rfl
      · rcases gd a2 9 (by omega) with ⟨v, hv, rfl⟩ | ⟨hx, hy⟩
        · refine ⟨nI (u 1 k), ab_u σ 39 k (nI v), _, ?_, ?_, rR_set h (r := 1) (i := k) (v := v) (vc (by omega) (by omega) (by omega)) hv⟩
          · unfold f_X11_land f_X9_rowOfCells f_X11_swap_39
            simp (disch := omega) only [c1 hC, t20, Nat.reduceAdd, lit, nI_add, pk_mul, pk_sub, pk_div, ib_n, ck_t, cl_n, lt_d, b_t, b_f, bi, bie, nI_eq, nI_leI, nI_ltI, ou_n, in_n, if_pos, if_neg, ne_eq, ab_u_ne, ab_u_same, pk_us, pk_un, ↓reduceIte, Nat.reduceAdd, Nat.reduceMul, Nat.reduceSub, Nat.reduceDiv, Nat.reduceMod, Nat.reduceEqDiff, Nat.reduceLeDiff, Nat.reduceLT]
          · unfold f_X12_land
            simp (disch := omega) only [f_X12_isCell, f_X12_isKm, f_X12_isSheet, chg_n, d1 hM, d2 hM, d3 hM, d4 hM, ix1, ix2, ix3, ix4, lit, nI_add, pk_mul, pk_sub, pk_div, ib_n, ck_t, cl_n, lt_d, b_t, b_f, bi, bie, nI_eq, nI_leI, nI_ltI, ou_n, in_n, if_pos, if_neg, ne_eq, ab_u_ne, ab_u_same, pk_us, pk_un, ↓reduceIte, Nat.reduceAdd, Nat.reduceMul, Nat.reduceSub, Nat.reduceDiv, Nat.reduceMod, Nat.reduceEqDiff, Nat.reduceLeDiff, Nat.reduceLT]
        · refine er2 h 1 (by omega) ?_ (fun τ hτ => ?_)
          · unfold f_X11_land
            simp (disch := omega) only [t20, hx, lit, nI_add, pk_mul, pk_sub, pk_div, ib_n, ck_t, cl_n, lt_d, b_t, b_f, bi, bie, nI_eq, nI_leI, nI_ltI, ou_n, in_n, if_pos, if_neg, ne_eq, ab_u_ne, ab_u_same, pk_us, pk_un, ↓reduceIte, Nat.reduceAdd, Nat.reduceMul, Nat.reduceSub, Nat.reduceDiv, Nat.reduceMod, Nat.reduceEqDiff, Nat.reduceLeDiff, Nat.reduceLT]
          · unfold f_X12_land
            simp (disch := omega) only [f_X12_isCell, f_X12_isKm, f_X12_isSheet, hy, lit, nI_add, pk_mul, pk_sub, pk_div, ib_n, ck_t, cl_n, lt_d, b_t, b_f, bi, bie, nI_eq, nI_leI, nI_ltI, ou_n, in_n, if_pos, if_neg, ne_eq, ab_u_ne, ab_u_same, pk_us, pk_un, ↓reduceIte, Nat.reduceAdd, Nat.reduceMul, Nat.reduceSub, Nat.reduceDiv, Nat.reduceMod, Nat.reduceEqDiff, Nat.reduceLeDiff, Nat.reduceLT]
      · rcases gd a2 99 (by omega) with ⟨v, hv, rfl⟩ | ⟨hx, hy⟩
        · refine ⟨nI (u 2 k), ab_u σ 40 k (nI v), _, ?_, ?_, rR_set h (r := 2) (i := k) (v := v) (vc (by omega) (by omega) (by omega)) hv⟩
          · unfold f_X11_land f_X9_rowOfCells f_X11_swap_40
            simp (disch := omega) only [c2 hC, t21, Nat.reduceAdd, Nat.reduceEqDiff, lit, nI_add, pk_mul, pk_sub, pk_div, ib_n, ck_t, cl_n, lt_d, b_t, b_f, bi, bie, nI_eq, nI_leI, nI_ltI, ou_n, in_n, if_pos, if_neg, ne_eq, ab_u_ne, ab_u_same, pk_us, pk_un, ↓reduceIte, Nat.reduceAdd, Nat.reduceMul, Nat.reduceSub, Nat.reduceDiv, Nat.reduceMod, Nat.reduceEqDiff, Nat.reduceLeDiff, Nat.reduceLT]
          · unfold f_X12_land
            simp (disch := omega) only [f_X12_isCell, f_X12_isKm, f_X12_isSheet, chg_n, d1 hM, d2 hM, d3 hM, d4 hM, ix1, ix2, ix3, ix4, lit, nI_add, pk_mul, pk_sub, pk_div, ib_n, ck_t, cl_n, lt_d, b_t, b_f, bi, bie, nI_eq, nI_leI, nI_ltI, ou_n, in_n, if_pos, if_neg, ne_eq, ab_u_ne, ab_u_same, pk_us, pk_un, ↓reduceIte, Nat.reduceAdd, Nat.reduceMul, Nat.reduceSub, Nat.reduceDiv, Nat.reduceMod, Nat.reduceEqDiff, Nat.reduceLeDiff, Nat.reduceLT]
        · refine er2 h 1 (by omega) ?_ (fun τ hτ => ?_)
          · unfold f_X11_land
            simp (disch := omega) only [t21, hx, lit, nI_add, pk_mul, pk_sub, pk_div, ib_n, ck_t, cl_n, lt_d, b_t, b_f, bi, bie, nI_eq, nI_leI, nI_ltI, ou_n, in_n, if_pos, if_neg, ne_eq, ab_u_ne, ab_u_same, pk_us, pk_un, ↓reduceIte, Nat.reduceAdd, Nat.reduceMul, Nat.reduceSub, Nat.reduceDiv, Nat.reduceMod, Nat.reduceEqDiff, Nat.reduceLeDiff, Nat.reduceLT]
          · unfold f_X12_land
            simp (disch := omega) only [f_X12_isCell, f_X12_isKm, f_X12_isSheet, hy, lit, nI_add, pk_mul, pk_sub, pk_div, ib_n, ck_t, cl_n, lt_d, b_t, b_f, bi, bie, nI_eq, nI_leI, nI_ltI, ou_n, in_n, if_pos, if_neg, ne_eq, ab_u_ne, ab_u_same, pk_us, pk_un, ↓reduceIte, Nat.reduceAdd, Nat.reduceMul, Nat.reduceSub, Nat.reduceDiv, Nat.reduceMod, Nat.reduceEqDiff, Nat.reduceLeDiff, Nat.reduceLT]
      · rcases gd a2 1 (by omega) with ⟨v, hv, rfl⟩ | ⟨hx, hy⟩
        · refine ⟨nI (u 3 k), ab_u σ 41 k (nI v), _, ?_, ?_, rR_set h (r := 3) (i := k) (v := v) (vc (by omega) (by omega) (by omega)) hv⟩
          · unfold f_X11_land f_X9_rowOfCells f_X11_swap_41
            simp (disch := omega) only [c3 hC, t22, Nat.reduceAdd, Nat.reduceEqDiff, lit, nI_add, pk_mul, pk_sub, pk_div, ib_n, ck_t, cl_n, lt_d, b_t, b_f, bi, bie, nI_eq, nI_leI, nI_ltI, ou_n, in_n, if_pos, if_neg, ne_eq, ab_u_ne, ab_u_same, pk_us, pk_un, ↓reduceIte, Nat.reduceAdd, Nat.reduceMul, Nat.reduceSub, Nat.reduceDiv, Nat.reduceMod, Nat.reduceEqDiff, Nat.reduceLeDiff, Nat.reduceLT]
          · unfold f_X12_land
            simp (disch := omega) only [f_X12_isCell, f_X12_isKm, f_X12_isSheet, chg_n, d1 hM, d2 hM, d3 hM, d4 hM, ix1, ix2, ix3, ix4, lit, nI_add, pk_mul, pk_sub, pk_div, ib_n, ck_t, cl_n, lt_d, b_t, b_f, bi, bie, nI_eq, nI_leI, nI_ltI, ou_n, in_n, if_pos, if_neg, ne_eq, ab_u_ne, ab_u_same, pk_us, pk_un, ↓reduceIte, Nat.reduceAdd, Nat.reduceMul, Nat.reduceSub, Nat.reduceDiv, Nat.reduceMod, Nat.reduceEqDiff, Nat.reduceLeDiff, Nat.reduceLT]
        · refine er2 h 1 (by omega) ?_ (fun τ hτ => ?_)
          · unfold f_X11_land
            simp (disch := omega) only [t22, hx, lit, nI_add, pk_mul, pk_sub, pk_div, ib_n, ck_t, cl_n, lt_d, b_t, b_f, bi, bie, nI_eq, nI_leI, nI_ltI, ou_n, in_n, if_pos, if_neg, ne_eq, ab_u_ne, ab_u_same, pk_us, pk_un, ↓reduceIte, Nat.reduceAdd, Nat.reduceMul, Nat.reduceSub, Nat.reduceDiv, Nat.reduceMod, Nat.reduceEqDiff, Nat.reduceLeDiff, Nat.reduceLT]
          · unfold f_X12_land
            simp (disch := omega) only [f_X12_isCell, f_X12_isKm, f_X12_isSheet, hy, lit, nI_add, pk_mul, pk_sub, pk_div, ib_n, ck_t, cl_n, lt_d, b_t, b_f, bi, bie, nI_eq, nI_leI, nI_ltI, ou_n, in_n, if_pos, if_neg, ne_eq, ab_u_ne, ab_u_same, pk_us, pk_un, ↓reduceIte, Nat.reduceAdd, Nat.reduceMul, Nat.reduceSub, Nat.reduceDiv, Nat.reduceMod, Nat.reduceEqDiff, Nat.reduceLeDiff, Nat.reduceLT]
      · rcases gd a2 4095 (by omega) with ⟨v, hv, rfl⟩ | ⟨hx, hy⟩
        · refine ⟨nI (u 4 k), ab_u σ 42 k (nI v), _, ?_, ?_, rR_set h (r := 4) (i := k) (v := v) (vc (by omega) (by omega) (by omega)) hv⟩
          · unfold f_X11_land f_X9_rowOfCells f_X11_swap_42
            simp (disch := omega) only [c4 hC, t23, Nat.reduceAdd, Nat.reduceEqDiff, lit, nI_add, pk_mul, pk_sub, pk_div, ib_n, ck_t, cl_n, lt_d, b_t, b_f, bi, bie, nI_eq, nI_leI, nI_ltI, ou_n, in_n, if_pos, if_neg, ne_eq, ab_u_ne, ab_u_same, pk_us, pk_un, ↓reduceIte, Nat.reduceAdd, Nat.reduceMul, Nat.reduceSub, Nat.reduceDiv, Nat.reduceMod, Nat.reduceEqDiff, Nat.reduceLeDiff, Nat.reduceLT]
          · unfold f_X12_land
            simp (disch := omega) only [f_X12_isCell, f_X12_isKm, f_X12_isSheet, chg_n, d1 hM, d2 hM, d3 hM, d4 hM, ix1, ix2, ix3, ix4, lit, nI_add, pk_mul, pk_sub, pk_div, ib_n, ck_t, cl_n, lt_d, b_t, b_f, bi, bie, nI_eq, nI_leI, nI_ltI, ou_n, in_n, if_pos, if_neg, ne_eq, ab_u_ne, ab_u_same, pk_us, pk_un, ↓reduceIte, Nat.reduceAdd, Nat.reduceMul, Nat.reduceSub, Nat.reduceDiv, Nat.reduceMod, Nat.reduceEqDiff, Nat.reduceLeDiff, Nat.reduceLT]
        · refine er2 h 1 (by omega) ?_ (fun τ hτ => ?_)
          · unfold f_X11_land
            simp (disch := omega) only [t23, hx, lit, nI_add, pk_mul, pk_sub, pk_div, ib_n, ck_t, cl_n, lt_d, b_t, b_f, bi, bie, nI_eq, nI_leI, nI_ltI, ou_n, in_n, if_pos, if_neg, ne_eq, ab_u_ne, ab_u_same, pk_us, pk_un, ↓reduceIte, Nat.reduceAdd, Nat.reduceMul, Nat.reduceSub, Nat.reduceDiv, Nat.reduceMod, Nat.reduceEqDiff, Nat.reduceLeDiff, Nat.reduceLT]
          · unfold f_X12_land
            simp (disch := omega) only [f_X12_isCell, f_X12_isKm, f_X12_isSheet, hy, lit, nI_add, pk_mul, pk_sub, pk_div, ib_n, ck_t, cl_n, lt_d, b_t, b_f, bi, bie, nI_eq, nI_leI, nI_ltI, ou_n, in_n, if_pos, if_neg, ne_eq, ab_u_ne, ab_u_same, pk_us, pk_un, ↓reduceIte, Nat.reduceAdd, Nat.reduceMul, Nat.reduceSub, Nat.reduceDiv, Nat.reduceMod, Nat.reduceEqDiff, Nat.reduceLeDiff, Nat.reduceLT]
    · refine er2 h 1 (by omega) ?_ (fun τ hτ => ?_)
      · unfold f_X11_land
        simp (disch := omega) only [hx, Nat.reduceSub, lit, nI_add, pk_mul, pk_sub, pk_div, ib_n, ck_t, cl_n, lt_d, b_t, b_f, bi, bie, nI_eq, nI_leI, nI_ltI, ou_n, in_n, if_pos, if_neg, ne_eq, ab_u_ne, ab_u_same, pk_us, pk_un, ↓reduceIte, Nat.reduceAdd, Nat.reduceMul, Nat.reduceSub, Nat.reduceDiv, Nat.reduceMod, Nat.reduceEqDiff, Nat.reduceLeDiff, Nat.reduceLT]
      · unfold f_X12_land
        simp (disch := omega) only [f_X12_isCell, f_X12_isKm, f_X12_isSheet, hy, ite_self, lit, nI_add, pk_mul, pk_sub, pk_div, ib_n, ck_t, cl_n, lt_d, b_t, b_f, bi, bie, nI_eq, nI_leI, nI_ltI, ou_n, in_n, if_pos, if_neg, ne_eq, ab_u_ne, ab_u_same, pk_us, pk_un, ↓reduceIte, Nat.reduceAdd, Nat.reduceMul, Nat.reduceSub, Nat.reduceDiv, Nat.reduceMod, Nat.reduceEqDiff, Nat.reduceLeDiff, Nat.reduceLT]
  · refine er2 h 1 (by omega) ?_ (fun τ hτ => ?_)
    · unfold f_X11_land
      simp (disch := omega) only [hx, lit, nI_add, pk_mul, pk_sub, pk_div, ib_n, ck_t, cl_n, lt_d, b_t, b_f, bi, bie, nI_eq, nI_leI, nI_ltI, ou_n, in_n, if_pos, if_neg, ne_eq, ab_u_ne, ab_u_same, pk_us, pk_un, ↓reduceIte, Nat.reduceAdd, Nat.reduceMul, Nat.reduceSub, Nat.reduceDiv, Nat.reduceMod, Nat.reduceEqDiff, Nat.reduceLeDiff, Nat.reduceLT]
    · unfold f_X12_land
      simp (disch := omega) only [f_X12_isCell, f_X12_isKm, f_X12_isSheet, hy, ite_self, lit, nI_add, pk_mul, pk_sub, pk_div, ib_n, ck_t, cl_n, lt_d, b_t, b_f, bi, bie, nI_eq, nI_leI, nI_ltI, ou_n, in_n, if_pos, if_neg, ne_eq, ab_u_ne, ab_u_same, pk_us, pk_un, ↓reduceIte, Nat.reduceAdd, Nat.reduceMul, Nat.reduceSub, Nat.reduceDiv, Nat.reduceMod, Nat.reduceEqDiff, Nat.reduceLeDiff, Nat.reduceLT]
theorem m_landIs (a0 a1 : Int32) : ok2 rR (f_X11_landIs a0 a1) (f_X12_landIs a0 a1) := by
  intro σ h
  obtain ⟨u, hB, hC, hM⟩ := rR_u h
  rcases gd a0 15 (by omega) with ⟨k, hk, rfl⟩ | ⟨hx, hy⟩
  · rcases gd a1 4 (by omega) with ⟨w, hw, rfl⟩ | ⟨hx, hy⟩
    · have hw3 : w = 0 ∨ w = 1 ∨ w = 2 ∨ w = 3 ∨ w = 4 := by omega
      have e6 : ∀ q, q ≤ 3 → 12 + 16 * q + k = ix (1 + q) k := fun q hq => by unfold ix; (repeat' split) <;> omega
      have d8 : ∀ q, q ≤ 3 → σ 86 (12 + 16 * q + k) = nI (u (1 + q) k) := fun q hq => by rw [e6 q hq]; exact hM _ _ (vc (by omega) (by omega) (by omega))
      rcases hw3 with rfl | rfl | rfl | rfl | rfl
      · refine ⟨nI (u 1 k), σ, σ, ?_, ?_, h⟩
        · unfold f_X11_landIs f_X9_rowOfCells
          simp (disch := omega) only [c1 hC, Nat.reduceAdd, Nat.reduceEqDiff, lit, nI_add, pk_mul, pk_sub, pk_div, ib_n, ck_t, cl_n, lt_d, b_t, b_f, bi, bie, nI_eq, nI_leI, nI_ltI, ou_n, in_n, if_pos, if_neg, ne_eq, ab_u_ne, ab_u_same, pk_us, pk_un, ↓reduceIte, Nat.reduceAdd, Nat.reduceMul, Nat.reduceSub, Nat.reduceDiv, Nat.reduceMod, Nat.reduceEqDiff, Nat.reduceLeDiff, Nat.reduceLT]
        · unfold f_X12_landIs
          simp (disch := omega) only [f_X12_isCell, f_X12_isKm, f_X12_isSheet, d1 hM, d2 hM, d3 hM, d4 hM, Nat.reduceAdd, Nat.reduceEqDiff, lit, nI_add, pk_mul, pk_sub, pk_div, ib_n, ck_t, cl_n, lt_d, b_t, b_f, bi, bie, nI_eq, nI_leI, nI_ltI, ou_n, in_n, if_pos, if_neg, ne_eq, ab_u_ne, ab_u_same, pk_us, pk_un, ↓reduceIte, Nat.reduceAdd, Nat.reduceMul, Nat.reduceSub, Nat.reduceDiv, Nat.reduceMod, Nat.reduceEqDiff, Nat.reduceLeDiff, Nat.reduceLT]
      · refine ⟨nI (u 2 k), σ, σ, ?_, ?_, h⟩
        · unfold f_X11_landIs f_X9_rowOfCells
          simp (disch := omega) only [c2 hC, Nat.reduceAdd, Nat.reduceEqDiff, lit, nI_add, pk_mul, pk_sub, pk_div, ib_n, ck_t, cl_n, lt_d, b_t, b_f, bi, bie, nI_eq, nI_leI, nI_ltI, ou_n, in_n, if_pos, if_neg, ne_eq, ab_u_ne, ab_u_same, pk_us, pk_un, ↓reduceIte, Nat.reduceAdd, Nat.reduceMul, Nat.reduceSub, Nat.reduceDiv, Nat.reduceMod, Nat.reduceEqDiff, Nat.reduceLeDiff, Nat.reduceLT]
        · unfold f_X12_landIs
          simp (disch := omega) only [f_X12_isCell, f_X12_isKm, f_X12_isSheet, d1 hM, d2 hM, d3 hM, d4 hM, Nat.reduceEqDiff, lit, nI_add, pk_mul, pk_sub, pk_div, ib_n, ck_t, cl_n, lt_d, b_t, b_f, bi, bie, nI_eq, nI_leI, nI_ltI, ou_n, in_n, if_pos, if_neg, ne_eq, ab_u_ne, ab_u_same, pk_us, pk_un, ↓reduceIte, Nat.reduceAdd, Nat.reduceMul, Nat.reduceSub, Nat.reduceDiv, Nat.reduceMod, Nat.reduceEqDiff, Nat.reduceLeDiff, Nat.reduceLT]
      · refine ⟨nI (u 3 k), σ, σ, ?_, ?_, h⟩
        · unfold f_X11_landIs f_X9_rowOfCells
          simp (disch := omega) only [c3 hC, Nat.reduceAdd, Nat.reduceEqDiff, lit, nI_add, pk_mul, pk_sub, pk_div, ib_n, ck_t, cl_n, lt_d, b_t, b_f, bi, bie, nI_eq, nI_leI, nI_ltI, ou_n, in_n, if_pos, if_neg, ne_eq, ab_u_ne, ab_u_same, pk_us, pk_un, ↓reduceIte, Nat.reduceAdd, Nat.reduceMul, Nat.reduceSub, Nat.reduceDiv, Nat.reduceMod, Nat.reduceEqDiff, Nat.reduceLeDiff, Nat.reduceLT]
        · unfold f_X12_landIs
          simp (disch := omega) only [f_X12_isCell, f_X12_isKm, f_X12_isSheet, d1 hM, d2 hM, d3 hM, d4 hM, Nat.reduceEqDiff, lit, nI_add, pk_mul, pk_sub, pk_div, ib_n, ck_t, cl_n, lt_d, b_t, b_f, bi, bie, nI_eq, nI_leI, nI_ltI, ou_n, in_n, if_pos, if_neg, ne_eq, ab_u_ne, ab_u_same, pk_us, pk_un, ↓reduceIte, Nat.reduceAdd, Nat.reduceMul, Nat.reduceSub, Nat.reduceDiv, Nat.reduceMod, Nat.reduceEqDiff, Nat.reduceLeDiff, Nat.reduceLT]
      · refine ⟨nI (u 4 k), σ, σ, ?_, ?_, h⟩
        · unfold f_X11_landIs f_X9_rowOfCells
          simp (disch := omega) only [c4 hC, Nat.reduceAdd, Nat.reduceEqDiff, lit, nI_add, pk_mul, pk_sub, pk_div, ib_n, ck_t, cl_n, lt_d, b_t, b_f, bi, bie, nI_eq, nI_leI, nI_ltI, ou_n, in_n, if_pos, if_neg, ne_eq, ab_u_ne, ab_u_same, pk_us, pk_un, ↓reduceIte, Nat.reduceAdd, Nat.reduceMul, Nat.reduceSub, Nat.reduceDiv, Nat.reduceMod, Nat.reduceEqDiff, Nat.reduceLeDiff, Nat.reduceLT]
        · unfold f_X12_landIs
          simp (disch := omega) only [f_X12_isCell, f_X12_isKm, f_X12_isSheet, d1 hM, d2 hM, d3 hM, d4 hM, Nat.reduceEqDiff, lit, nI_add, pk_mul, pk_sub, pk_div, ib_n, ck_t, cl_n, lt_d, b_t, b_f, bi, bie, nI_eq, nI_leI, nI_ltI, ou_n, in_n, if_pos, if_neg, ne_eq, ab_u_ne, ab_u_same, pk_us, pk_un, ↓reduceIte, Nat.reduceAdd, Nat.reduceMul, Nat.reduceSub, Nat.reduceDiv, Nat.reduceMod, Nat.reduceEqDiff, Nat.reduceLeDiff, Nat.reduceLT]
      · refine ⟨nI (u 1 k + u 2 k), σ, σ, ?_, ?_, h⟩
        · unfold f_X11_landIs f_X9_level
          simp (disch := omega) only [c1 hC, c2 hC, Nat.reduceEqDiff, lit, nI_add, pk_mul, pk_sub, pk_div, ib_n, ck_t, cl_n, lt_d, b_t, b_f, bi, bie, nI_eq, nI_leI, nI_ltI, ou_n, in_n, if_pos, if_neg, ne_eq, ab_u_ne, ab_u_same, pk_us, pk_un, ↓reduceIte, Nat.reduceAdd, Nat.reduceMul, Nat.reduceSub, Nat.reduceDiv, Nat.reduceMod, Nat.reduceEqDiff, Nat.reduceLeDiff, Nat.reduceLT]
        · unfold f_X12_landIs f_X12_levelOf
          simp (disch := omega) only [f_X12_isCell, f_X12_isKm, f_X12_isSheet, d1 hM, d2 hM, Nat.reduceEqDiff, lit, nI_add, pk_mul, pk_sub, pk_div, ib_n, ck_t, cl_n, lt_d, b_t, b_f, bi, bie, nI_eq, nI_leI, nI_ltI, ou_n, in_n, if_pos, if_neg, ne_eq, ab_u_ne, ab_u_same, pk_us, pk_un, ↓reduceIte, Nat.reduceAdd, Nat.reduceMul, Nat.reduceSub, Nat.reduceDiv, Nat.reduceMod, Nat.reduceEqDiff, Nat.reduceLeDiff, Nat.reduceLT]
    · refine er2 h 1 (by omega) ?_ (fun τ hτ => ?_)
      · unfold f_X11_landIs
        simp (disch := omega) only [hx, lit, nI_add, pk_mul, pk_sub, pk_div, ib_n, ck_t, cl_n, lt_d, b_t, b_f, bi, bie, nI_eq, nI_leI, nI_ltI, ou_n, in_n, if_pos, if_neg, ne_eq, ab_u_ne, ab_u_same, pk_us, pk_un, ↓reduceIte, Nat.reduceAdd, Nat.reduceMul, Nat.reduceSub, Nat.reduceDiv, Nat.reduceMod, Nat.reduceEqDiff, Nat.reduceLeDiff, Nat.reduceLT]
      · unfold f_X12_landIs
        simp (disch := omega) only [f_X12_isCell, f_X12_isKm, f_X12_isSheet, hy, lit, nI_add, pk_mul, pk_sub, pk_div, ib_n, ck_t, cl_n, lt_d, b_t, b_f, bi, bie, nI_eq, nI_leI, nI_ltI, ou_n, in_n, if_pos, if_neg, ne_eq, ab_u_ne, ab_u_same, pk_us, pk_un, ↓reduceIte, Nat.reduceAdd, Nat.reduceMul, Nat.reduceSub, Nat.reduceDiv, Nat.reduceMod, Nat.reduceEqDiff, Nat.reduceLeDiff, Nat.reduceLT]
  · refine er2 h 1 (by omega) ?_ (fun τ hτ => ?_)
    · unfold f_X11_landIs
      simp (disch := omega) only [hx, lit, nI_add, pk_mul, pk_sub, pk_div, ib_n, ck_t, cl_n, lt_d, b_t, b_f, bi, bie, nI_eq, nI_leI, nI_ltI, ou_n, in_n, if_pos, if_neg, ne_eq, ab_u_ne, ab_u_same, pk_us, pk_un, ↓reduceIte, Nat.reduceAdd, Nat.reduceMul, Nat.reduceSub, Nat.reduceDiv, Nat.reduceMod, Nat.reduceEqDiff, Nat.reduceLeDiff, Nat.reduceLT]
    · unfold f_X12_landIs
      simp (disch := omega) only [f_X12_isCell, f_X12_isKm, f_X12_isSheet, hy, lit, nI_add, pk_mul, pk_sub, pk_div, ib_n, ck_t, cl_n, lt_d, b_t, b_f, bi, bie, nI_eq, nI_leI, nI_ltI, ou_n, in_n, if_pos, if_neg, ne_eq, ab_u_ne, ab_u_same, pk_us, pk_un, ↓reduceIte, Nat.reduceAdd, Nat.reduceMul, Nat.reduceSub, Nat.reduceDiv, Nat.reduceMod, Nat.reduceEqDiff, Nat.reduceLeDiff, Nat.reduceLT]
