/-! the plain acts -/
theorem m_told (a0 : Int32) : ok2 rR (f_X11_told a0) (f_X12_told a0) := by
  intro σ h
  rcases rng a0 6 (by omega) with ⟨j, hj, rfl⟩ | hx
  · by_cases h0 : j = 0
    · subst h0
      refine er2 h 1 (by omega) ?_ ?_
      · unfold f_X11_told
        simp (disch := omega) only [lit, nI_add, pk_mul, pk_sub, pk_div, ib_n, ck_t, cl_n, lt_d, b_t, b_f, bi, bie, nI_eq, nI_leI, nI_ltI, ou_n, in_n, if_pos, if_neg, ne_eq, ab_u_ne, ab_u_same, pk_us, pk_un, ↓reduceIte, Nat.reduceAdd, Nat.reduceMul, Nat.reduceSub, Nat.reduceDiv, Nat.reduceMod, Nat.reduceEqDiff, Nat.reduceLeDiff, Nat.reduceLT]
      · intro τ hτ
        unfold f_X12_told f_X12_in
        simp (disch := omega) only [lit, nI_add, pk_mul, pk_sub, pk_div, ib_n, ck_t, cl_n, lt_d, b_t, b_f, bi, bie, nI_eq, nI_leI, nI_ltI, ou_n, in_n, if_pos, if_neg, ne_eq, ab_u_ne, ab_u_same, pk_us, pk_un, ↓reduceIte, Nat.reduceAdd, Nat.reduceMul, Nat.reduceSub, Nat.reduceDiv, Nat.reduceMod, Nat.reduceEqDiff, Nat.reduceLeDiff, Nat.reduceLT]
    · refine ⟨σ 23 j, σ, σ, ?_, ?_, h⟩
      · unfold f_X11_told
        simp (disch := omega) only [lit, nI_add, pk_mul, pk_sub, pk_div, ib_n, ck_t, cl_n, lt_d, b_t, b_f, bi, bie, nI_eq, nI_leI, nI_ltI, ou_n, in_n, if_pos, if_neg, ne_eq, ab_u_ne, ab_u_same, pk_us, pk_un, ↓reduceIte, Nat.reduceAdd, Nat.reduceMul, Nat.reduceSub, Nat.reduceDiv, Nat.reduceMod, Nat.reduceEqDiff, Nat.reduceLeDiff, Nat.reduceLT]
      · unfold f_X12_told
        simp (disch := omega) only [lit, nI_add, pk_mul, pk_sub, pk_div, ib_n, ck_t, cl_n, lt_d, b_t, b_f, bi, bie, nI_eq, nI_leI, nI_ltI, ou_n, in_n, if_pos, if_neg, ne_eq, ab_u_ne, ab_u_same, pk_us, pk_un, ↓reduceIte, Nat.reduceAdd, Nat.reduceMul, Nat.reduceSub, Nat.reduceDiv, Nat.reduceMod, Nat.reduceEqDiff, Nat.reduceLeDiff, Nat.reduceLT]
        rw [h.2.1 j (by omega)]
  · refine er2 h 1 (by omega) ?_ ?_
    · unfold f_X11_told
      by_cases h1 : a0 < 1
      · rw [if_pos h1, bie]; rfl
      · rw [if_neg h1, if_neg, bie]; rfl
        intro h2
        rcases hx with hx | hx
        · exact h1 (by rw [Int32.lt_iff_toInt_lt] at hx ⊢; have e1 : (0 : Int32).toInt = 0 := rfl; have e2 : (1 : Int32).toInt = 1 := rfl; omega)
        · exact hx h2
    · intro τ hτ
      have e : f_X12_in a0 1 6 τ = some false := by
        unfold f_X12_in
        by_cases h1 : a0 < 1
        · rw [if_pos h1]
        · rw [if_neg h1, if_pos]
          rcases hx with hx | hx
          · exact absurd (by rw [Int32.lt_iff_toInt_lt] at hx ⊢; have e1 : (0 : Int32).toInt = 0 := rfl; have e2 : (1 : Int32).toInt = 1 := rfl; omega) h1
          · exact Int32.not_le.mp hx
      unfold f_X12_told
      rw [e, bi, if_pos (by rfl), bie]; rfl
theorem m_seed (a0 : Int32) : ok2 rR (f_X11_seed a0) (f_X12_seed a0) := by
  intro σ h
  obtain ⟨u, hB, hC, hM⟩ := rR_u h
  refine ⟨σ 38 5, ab_u σ 38 5 a0, ab_u (ab_u σ 38 5 a0) 86 2 a0, rfl, ?_, ?_⟩
  · unfold f_X12_seed
    simp (disch := omega) only [chg_n, lit, nI_add, pk_mul, pk_sub, pk_div, ib_n, ck_t, cl_n, lt_d, b_t, b_f, bi, bie, nI_eq, nI_leI, nI_ltI, ou_n, in_n, if_pos, if_neg, ne_eq, ab_u_ne, ab_u_same, pk_us, pk_un, ↓reduceIte, Nat.reduceAdd, Nat.reduceMul, Nat.reduceSub, Nat.reduceDiv, Nat.reduceMod, Nat.reduceEqDiff, Nat.reduceLeDiff, Nat.reduceLT]
    rw [h.1.2.1]
  · refine rR_w h (fun c _ a1 a2 => by rw [ab_u_ne _ _ _ a2, ab_u_ne _ _ _ (by omega)]) u hB ?_ ?_ ?_ ?_
    · intro r j hj
      rw [ab_u_ne _ _ _ (by have : r ≤ 10 := by { rcases hj with q | q | q | q <;> omega }; omega)]
      by_cases q : r = 0
      · subst q; rw [u_rd _ _ _ _ _ (by rcases hj with ⟨_, q | q | q⟩ | q | q | q <;> omega)]; exact hC 0 j hj
      · rw [ab_u_ne _ _ _ (by omega)]; exact hC r j hj
    · intro r j hj
      rw [u_rd _ _ _ _ _ (ix_lt hj).2.1, ab_u_ne _ _ _ (by omega)]; exact hM r j hj
    · rw [ab_u_ne _ _ _ (by omega), u_rk, u_rk]
    · intro k hk
      rw [u_rd _ _ _ _ _ (by omega), ab_u_ne _ _ _ (by omega)]
theorem m_day (a0 : Int32) : ok2 rR (f_X11_day a0) (f_X12_day a0) := by
  intro σ h
  obtain ⟨u, hB, hC, hM⟩ := rR_u h
  rcases gd a0 9999 (by omega) with ⟨j, hj, rfl⟩ | ⟨hx, hy⟩
  · refine ⟨nI (u 0 3), ab_u σ 38 3 (nI j), _, ?_, ?_, rR_set h (r := 0) (i := 3) (v := j) v3 hj⟩
    · unfold f_X11_day
      simp (disch := omega) only [c0_3 hC, lit, nI_add, pk_mul, pk_sub, pk_div, ib_n, ck_t, cl_n, lt_d, b_t, b_f, bi, bie, nI_eq, nI_leI, nI_ltI, ou_n, in_n, if_pos, if_neg, ne_eq, ab_u_ne, ab_u_same, pk_us, pk_un, ↓reduceIte, Nat.reduceAdd, Nat.reduceMul, Nat.reduceSub, Nat.reduceDiv, Nat.reduceMod, Nat.reduceEqDiff, Nat.reduceLeDiff, Nat.reduceLT]
    · unfold f_X12_day
      simp (disch := omega) only [chg_n, d0_3 hM, lit, nI_add, pk_mul, pk_sub, pk_div, ib_n, ck_t, cl_n, lt_d, b_t, b_f, bi, bie, nI_eq, nI_leI, nI_ltI, ou_n, in_n, if_pos, if_neg, ne_eq, ab_u_ne, ab_u_same, pk_us, pk_un, ↓reduceIte, Nat.reduceAdd, Nat.reduceMul, Nat.reduceSub, Nat.reduceDiv, Nat.reduceMod, Nat.reduceEqDiff, Nat.reduceLeDiff, Nat.reduceLT, Nat.add_zero, ix0_3]
  · refine er2 h 1 (by omega) ?_ (fun τ hτ => ?_)
    · unfold f_X11_day
      simp (disch := omega) only [hx, lit, nI_add, pk_mul, pk_sub, pk_div, ib_n, ck_t, cl_n, lt_d, b_t, b_f, bi, bie, nI_eq, nI_leI, nI_ltI, ou_n, in_n, if_pos, if_neg, ne_eq, ab_u_ne, ab_u_same, pk_us, pk_un, ↓reduceIte, Nat.reduceAdd, Nat.reduceMul, Nat.reduceSub, Nat.reduceDiv, Nat.reduceMod, Nat.reduceEqDiff, Nat.reduceLeDiff, Nat.reduceLT]
    · unfold f_X12_day
      simp (disch := omega) only [hy, lit, nI_add, pk_mul, pk_sub, pk_div, ib_n, ck_t, cl_n, lt_d, b_t, b_f, bi, bie, nI_eq, nI_leI, nI_ltI, ou_n, in_n, if_pos, if_neg, ne_eq, ab_u_ne, ab_u_same, pk_us, pk_un, ↓reduceIte, Nat.reduceAdd, Nat.reduceMul, Nat.reduceSub, Nat.reduceDiv, Nat.reduceMod, Nat.reduceEqDiff, Nat.reduceLeDiff, Nat.reduceLT]
theorem m_springs (a0 : Int32) : ok2 rR (f_X11_springs a0) (f_X12_springs a0) := by
  intro σ h
  obtain ⟨u, hB, hC, hM⟩ := rR_u h
  rcases gd a0 15 (by omega) with ⟨j, hj, rfl⟩ | ⟨hx, hy⟩
  · refine ⟨nI (u 0 4), ab_u σ 38 4 (nI j), _, ?_, ?_, rR_set h (r := 0) (i := 4) (v := j) v4 hj⟩
    · unfold f_X11_springs
      simp (disch := omega) only [c0_4 hC, lit, nI_add, pk_mul, pk_sub, pk_div, ib_n, ck_t, cl_n, lt_d, b_t, b_f, bi, bie, nI_eq, nI_leI, nI_ltI, ou_n, in_n, if_pos, if_neg, ne_eq, ab_u_ne, ab_u_same, pk_us, pk_un, ↓reduceIte, Nat.reduceAdd, Nat.reduceMul, Nat.reduceSub, Nat.reduceDiv, Nat.reduceMod, Nat.reduceEqDiff, Nat.reduceLeDiff, Nat.reduceLT]
    · unfold f_X12_springs
      simp (disch := omega) only [f_X12_isCell, f_X12_isKm, f_X12_isSheet, chg_n, d0_4 hM, lit, nI_add, pk_mul, pk_sub, pk_div, ib_n, ck_t, cl_n, lt_d, b_t, b_f, bi, bie, nI_eq, nI_leI, nI_ltI, ou_n, in_n, if_pos, if_neg, ne_eq, ab_u_ne, ab_u_same, pk_us, pk_un, ↓reduceIte, Nat.reduceAdd, Nat.reduceMul, Nat.reduceSub, Nat.reduceDiv, Nat.reduceMod, Nat.reduceEqDiff, Nat.reduceLeDiff, Nat.reduceLT, Nat.add_zero, ix0_4]
  · refine er2 h 1 (by omega) ?_ (fun τ hτ => ?_)
    · unfold f_X11_springs
      simp (disch := omega) only [hx, lit, nI_add, pk_mul, pk_sub, pk_div, ib_n, ck_t, cl_n, lt_d, b_t, b_f, bi, bie, nI_eq, nI_leI, nI_ltI, ou_n, in_n, if_pos, if_neg, ne_eq, ab_u_ne, ab_u_same, pk_us, pk_un, ↓reduceIte, Nat.reduceAdd, Nat.reduceMul, Nat.reduceSub, Nat.reduceDiv, Nat.reduceMod, Nat.reduceEqDiff, Nat.reduceLeDiff, Nat.reduceLT]
    · unfold f_X12_springs
      simp (disch := omega) only [f_X12_isCell, f_X12_isKm, f_X12_isSheet, hy, lit, nI_add, pk_mul, pk_sub, pk_div, ib_n, ck_t, cl_n, lt_d, b_t, b_f, bi, bie, nI_eq, nI_leI, nI_ltI, ou_n, in_n, if_pos, if_neg, ne_eq, ab_u_ne, ab_u_same, pk_us, pk_un, ↓reduceIte, Nat.reduceAdd, Nat.reduceMul, Nat.reduceSub, Nat.reduceDiv, Nat.reduceMod, Nat.reduceEqDiff, Nat.reduceLeDiff, Nat.reduceLT]
theorem m_rises (a0 a1 : Int32) : ok2 rR (f_X11_rises a0 a1) (f_X12_rises a0 a1) := by
  intro σ h
  obtain ⟨u, hB, hC, hM⟩ := rR_u h
  rcases gd a0 5 (by omega) with ⟨i, hi, rfl⟩ | ⟨hx, hy⟩
  · rcases gd a1 9 (by omega) with ⟨j, hj, rfl⟩ | ⟨hx, hy⟩
    · refine ⟨nI (u 5 i), ab_u σ 43 i (nI j), _, ?_, ?_, rR_set h (r := 5) (i := i) (v := j) (v5 (by omega)) hj⟩
      · unfold f_X11_rises f_X11_swap_43
        simp (disch := omega) only [c5 hC, lit, nI_add, pk_mul, pk_sub, pk_div, ib_n, ck_t, cl_n, lt_d, b_t, b_f, bi, bie, nI_eq, nI_leI, nI_ltI, ou_n, in_n, if_pos, if_neg, ne_eq, ab_u_ne, ab_u_same, pk_us, pk_un, ↓reduceIte, Nat.reduceAdd, Nat.reduceMul, Nat.reduceSub, Nat.reduceDiv, Nat.reduceMod, Nat.reduceEqDiff, Nat.reduceLeDiff, Nat.reduceLT]
      · unfold f_X12_rises
        simp (disch := omega) only [chg_n, d5 hM, lit, nI_add, pk_mul, pk_sub, pk_div, ib_n, ck_t, cl_n, lt_d, b_t, b_f, bi, bie, nI_eq, nI_leI, nI_ltI, ou_n, in_n, if_pos, if_neg, ne_eq, ab_u_ne, ab_u_same, pk_us, pk_un, ↓reduceIte, Nat.reduceAdd, Nat.reduceMul, Nat.reduceSub, Nat.reduceDiv, Nat.reduceMod, Nat.reduceEqDiff, Nat.reduceLeDiff, Nat.reduceLT, ix5]
    · refine er2 h 1 (by omega) ?_ (fun τ hτ => ?_)
      · unfold f_X11_rises
        simp (disch := omega) only [hx, lit, nI_add, pk_mul, pk_sub, pk_div, ib_n, ck_t, cl_n, lt_d, b_t, b_f, bi, bie, nI_eq, nI_leI, nI_ltI, ou_n, in_n, if_pos, if_neg, ne_eq, ab_u_ne, ab_u_same, pk_us, pk_un, ↓reduceIte, Nat.reduceAdd, Nat.reduceMul, Nat.reduceSub, Nat.reduceDiv, Nat.reduceMod, Nat.reduceEqDiff, Nat.reduceLeDiff, Nat.reduceLT]
      · unfold f_X12_rises
        simp (disch := omega) only [hy, lit, nI_add, pk_mul, pk_sub, pk_div, ib_n, ck_t, cl_n, lt_d, b_t, b_f, bi, bie, nI_eq, nI_leI, nI_ltI, ou_n, in_n, if_pos, if_neg, ne_eq, ab_u_ne, ab_u_same, pk_us, pk_un, ↓reduceIte, Nat.reduceAdd, Nat.reduceMul, Nat.reduceSub, Nat.reduceDiv, Nat.reduceMod, Nat.reduceEqDiff, Nat.reduceLeDiff, Nat.reduceLT]
  · refine er2 h 1 (by omega) ?_ (fun τ hτ => ?_)
    · unfold f_X11_rises
      simp (disch := omega) only [hx, lit, nI_add, pk_mul, pk_sub, pk_div, ib_n, ck_t, cl_n, lt_d, b_t, b_f, bi, bie, nI_eq, nI_leI, nI_ltI, ou_n, in_n, if_pos, if_neg, ne_eq, ab_u_ne, ab_u_same, pk_us, pk_un, ↓reduceIte, Nat.reduceAdd, Nat.reduceMul, Nat.reduceSub, Nat.reduceDiv, Nat.reduceMod, Nat.reduceEqDiff, Nat.reduceLeDiff, Nat.reduceLT]
    · unfold f_X12_rises
      simp (disch := omega) only [hy, lit, nI_add, pk_mul, pk_sub, pk_div, ib_n, ck_t, cl_n, lt_d, b_t, b_f, bi, bie, nI_eq, nI_leI, nI_ltI, ou_n, in_n, if_pos, if_neg, ne_eq, ab_u_ne, ab_u_same, pk_us, pk_un, ↓reduceIte, Nat.reduceAdd, Nat.reduceMul, Nat.reduceSub, Nat.reduceDiv, Nat.reduceMod, Nat.reduceEqDiff, Nat.reduceLeDiff, Nat.reduceLT]
