/-! TAPE, waiting, TEXTS change -/
theorem rR_t {σ τ : ab_F} (h : rR σ) (h1 : ∀ c, ¬ scr c → c ≠ 9 → c ≠ 10 → c ≠ 13 → c ≠ 14 → c ≠ 32 → c ≠ 33 → c ≠ 35 → c ≠ 36 → c ≠ 86 → c ≠ 85 → τ c = σ c) (hs : ∀ k, k < 116 → k ≠ 3 → k ≠ 4 → τ 86 k = σ 86 k) (h12 : τ 85 12 = σ 85 12) (h3 : τ 85 3 = σ 85 3) (p1 : rP 60 okB (τ 9 1) (τ 10) (τ 86 3) (fun i => τ 86 (366 + i))) (p2 : rP 24 okA (τ 13 1) (τ 14) (τ 86 4) (fun i => τ 86 (426 + i))) (p3 : rT 121 107 100 (τ 32 0) (τ 33) (τ 86) 116) (p4 : rT 116 103 100 (τ 35 0) (τ 36) (τ 86) 241) : rR τ := by
  obtain ⟨g1, g2, g3, g4, g5, g6⟩ := h
  have k : ∀ c, (¬ (c = 17 ∨ c = 18 ∨ c = 19 ∨ c = 34 ∨ c = 37 ∨ (49 ≤ c ∧ c ≤ 59) ∨ c = 88 ∨ c = 90 ∨ c = 91 ∨ c = 92 ∨ c = 97) ∧ c ≠ 9 ∧ c ≠ 10 ∧ c ≠ 13 ∧ c ≠ 14 ∧ c ≠ 32 ∧ c ≠ 33 ∧ c ≠ 35 ∧ c ≠ 36 ∧ c ≠ 86 ∧ c ≠ 85) → τ c = σ c := fun c q => h1 c q.1 q.2.1 q.2.2.1 q.2.2.2.1 q.2.2.2.2.1 q.2.2.2.2.2.1 q.2.2.2.2.2.2.1 q.2.2.2.2.2.2.2.1 q.2.2.2.2.2.2.2.2.1 q.2.2.2.2.2.2.2.2.2.1 q.2.2.2.2.2.2.2.2.2.2
  refine ⟨?_, ?_, ?_, by rw [k 21 (by omega), k 22 (by omega), h12, k 93 (by omega)]; exact g4, by rw [k 8 (by omega), h3]; exact g5, ?_⟩
  · obtain ⟨⟨u, hB, hC, hM⟩, hz, _⟩ := g1
    refine ⟨⟨u, hB, ?_, ?_⟩, ?_, p1, p2, p3, p4⟩
    · refine wC_to (fun r j hj => ?_)
      rw [k (38 + r) (by have : r ≤ 10 := by { rcases hj with q | q | q | q <;> omega }; omega)]
      exact wC_of hC r j hj
    · intro r j hj
      have := ix_lt hj
      rw [hs _ this.1 this.2.2.1 this.2.2.2]; exact hM r j hj
    · rw [k 38 (by omega), hs 2 (by omega) (by omega) (by omega)]; exact hz
  · intro j hj; rw [k 23 (by omega), k 89 (by omega)]; exact g2 j hj
  · intro j hj
    have := g3 j hj
    rw [k (77 + 2 * j) (by omega), k (78 + 2 * j) (by omega), k 94 (by omega), k 95 (by omega), k 96 (by omega)]
    exact this
  · rw [k 8 (by omega), k 87 (by omega)]
    rcases g6 with g6 | g6
    · exact Or.inl g6
    · exact Or.inr (rI_to g6 (k _ (by omega)) (fun r hr => k _ (by omega)) (k _ (by omega)) (k _ (by omega)) (k _ (by omega)) (k _ (by omega)) (k _ (by omega)) (k _ (by omega)) (k _ (by omega)) (k _ (by omega)))
/-- a TEXT looks at its own part of s -/
theorem rT_to {c1 c2 c3 n : Int32} {a s s2 : Nat → Int32} {o : Nat} (h : rT c1 c2 c3 n a s o) (hs : ∀ k, o ≤ k → k ≤ o + 120 → s2 k = s k) : rT c1 c2 c3 n a s2 o := by
  obtain ⟨n, dp, a1, a2, a3, a4, a5, a6, a7⟩ := h
  exact ⟨n, dp, a1, a2, by rw [hs _ (by omega) (by omega)]; exact a3, a4, a5, a6, fun i hi => by rw [hs _ (by omega) (by omega), hs _ (by omega) (by omega)]; exact a7 i hi⟩
theorem rP_to {m : Nat} {ok : Int32 → Prop} {n n2 : Int32} {a a2 b2 : Nat → Int32} (h : rP m ok n a n2 a2) (hs : ∀ i, i < m → b2 i = a2 i) : rP m ok n a n2 b2 := by
  obtain ⟨k, h1, h2, h3, h4⟩ := h
  exact ⟨k, h1, h2, h3, fun i hi => by rw [hs i (by omega)]; exact h4 i hi⟩
theorem m_tell (a0 : Int32) : ok2 rR (f_X11_tell a0) (f_X12_tell a0) := by
  intro σ h
  obtain ⟨k, hk, e1, e2, e3⟩ := h.1.2.2.2.1
  by_cases hf : k = 24
  · subst hf
    refine er2 h 4 (by omega) ?_ (fun τ hτ => ?_)
    · unfold f_X11_tell
      simp (disch := omega) only [e1, lit, nI_add, pk_mul, pk_sub, pk_div, ib_n, ck_t, cl_n, lt_d, b_t, b_f, bi, bie, nI_eq, nI_leI, nI_ltI, ou_n, in_n, if_pos, if_neg, ne_eq, ab_u_ne, ab_u_same, pk_us, pk_un, ↓reduceIte, Nat.reduceAdd, Nat.reduceMul, Nat.reduceSub, Nat.reduceDiv, Nat.reduceMod, Nat.reduceEqDiff, Nat.reduceLeDiff, Nat.reduceLT]
    · unfold f_X12_tell
      simp (disch := omega) only [hτ, e2, lit, nI_add, pk_mul, pk_sub, pk_div, ib_n, ck_t, cl_n, lt_d, b_t, b_f, bi, bie, nI_eq, nI_leI, nI_ltI, ou_n, in_n, if_pos, if_neg, ne_eq, ab_u_ne, ab_u_same, pk_us, pk_un, ↓reduceIte, Nat.reduceAdd, Nat.reduceMul, Nat.reduceSub, Nat.reduceDiv, Nat.reduceMod, Nat.reduceEqDiff, Nat.reduceLeDiff, Nat.reduceLT]
  · refine ⟨nI (k + 1), ab_u (ab_u σ 14 k a0) 13 1 (nI (k + 1)), ab_u (ab_u (ab_u (ab_u σ 14 k a0) 13 1 (nI (k + 1))) 86 (426 + k) a0) 86 4 (nI (k + 1)), ?_, ?_, ?_⟩
    · unfold f_X11_tell f_X6_add_13
      simp (disch := omega) only [e1, lit, nI_add, pk_mul, pk_sub, pk_div, ib_n, ck_t, cl_n, lt_d, b_t, b_f, bi, bie, nI_eq, nI_leI, nI_ltI, ou_n, in_n, if_pos, if_neg, ne_eq, ab_u_ne, ab_u_same, pk_us, pk_un, ↓reduceIte, Nat.reduceAdd, Nat.reduceMul, Nat.reduceSub, Nat.reduceDiv, Nat.reduceMod, Nat.reduceEqDiff, Nat.reduceLeDiff, Nat.reduceLT]
    · unfold f_X12_tell
      simp (disch := omega) only [e2, lit, nI_add, pk_mul, pk_sub, pk_div, ib_n, ck_t, cl_n, lt_d, b_t, b_f, bi, bie, nI_eq, nI_leI, nI_ltI, ou_n, in_n, if_pos, if_neg, ne_eq, ab_u_ne, ab_u_same, pk_us, pk_un, ↓reduceIte, Nat.reduceAdd, Nat.reduceMul, Nat.reduceSub, Nat.reduceDiv, Nat.reduceMod, Nat.reduceEqDiff, Nat.reduceLeDiff, Nat.reduceLT]
    · refine rR_t h (fun c a a1 a2 a3 a4 a5 a6 a7 a8 a9 a10 => by rw [ab_u_ne _ _ _ a9, ab_u_ne _ _ _ a9, ab_u_ne _ _ _ a3, ab_u_ne _ _ _ a4]) (fun j hj a1 a2 => ?_) ?_ ?_ ?_ ?_ ?_ ?_
      · simp (disch := omega) only [lit, nI_add, pk_mul, pk_sub, pk_div, ib_n, ck_t, cl_n, lt_d, b_t, b_f, bi, bie, nI_eq, nI_leI, nI_ltI, ou_n, in_n, if_pos, if_neg, ne_eq, ab_u_ne, ab_u_same, pk_us, pk_un, ↓reduceIte, Nat.reduceAdd, Nat.reduceMul, Nat.reduceSub, Nat.reduceDiv, Nat.reduceMod, Nat.reduceEqDiff, Nat.reduceLeDiff, Nat.reduceLT]
      · simp (disch := omega) only [lit, nI_add, pk_mul, pk_sub, pk_div, ib_n, ck_t, cl_n, lt_d, b_t, b_f, bi, bie, nI_eq, nI_leI, nI_ltI, ou_n, in_n, if_pos, if_neg, ne_eq, ab_u_ne, ab_u_same, pk_us, pk_un, ↓reduceIte, Nat.reduceAdd, Nat.reduceMul, Nat.reduceSub, Nat.reduceDiv, Nat.reduceMod, Nat.reduceEqDiff, Nat.reduceLeDiff, Nat.reduceLT]
      · simp (disch := omega) only [lit, nI_add, pk_mul, pk_sub, pk_div, ib_n, ck_t, cl_n, lt_d, b_t, b_f, bi, bie, nI_eq, nI_leI, nI_ltI, ou_n, in_n, if_pos, if_neg, ne_eq, ab_u_ne, ab_u_same, pk_us, pk_un, ↓reduceIte, Nat.reduceAdd, Nat.reduceMul, Nat.reduceSub, Nat.reduceDiv, Nat.reduceMod, Nat.reduceEqDiff, Nat.reduceLeDiff, Nat.reduceLT]
      · have := h.1.2.2.1
        simp (disch := omega) only [lit, nI_add, pk_mul, pk_sub, pk_div, ib_n, ck_t, cl_n, lt_d, b_t, b_f, bi, bie, nI_eq, nI_leI, nI_ltI, ou_n, in_n, if_pos, if_neg, ne_eq, ab_u_ne, ab_u_same, pk_us, pk_un, ↓reduceIte, Nat.reduceAdd, Nat.reduceMul, Nat.reduceSub, Nat.reduceDiv, Nat.reduceMod, Nat.reduceEqDiff, Nat.reduceLeDiff, Nat.reduceLT]
        exact rP_to this (fun i hi => by simp (disch := omega) only [lit, nI_add, pk_mul, pk_sub, pk_div, ib_n, ck_t, cl_n, lt_d, b_t, b_f, bi, bie, nI_eq, nI_leI, nI_ltI, ou_n, in_n, if_pos, if_neg, ne_eq, ab_u_ne, ab_u_same, pk_us, pk_un, ↓reduceIte, Nat.reduceAdd, Nat.reduceMul, Nat.reduceSub, Nat.reduceDiv, Nat.reduceMod, Nat.reduceEqDiff, Nat.reduceLeDiff, Nat.reduceLT])
      · refine ⟨k + 1, by omega, ?_, ?_, fun i hi => ⟨?_, trivial⟩⟩
        · simp (disch := omega) only [lit, nI_add, pk_mul, pk_sub, pk_div, ib_n, ck_t, cl_n, lt_d, b_t, b_f, bi, bie, nI_eq, nI_leI, nI_ltI, ou_n, in_n, if_pos, if_neg, ne_eq, ab_u_ne, ab_u_same, pk_us, pk_un, ↓reduceIte, Nat.reduceAdd, Nat.reduceMul, Nat.reduceSub, Nat.reduceDiv, Nat.reduceMod, Nat.reduceEqDiff, Nat.reduceLeDiff, Nat.reduceLT]
        · simp (disch := omega) only [lit, nI_add, pk_mul, pk_sub, pk_div, ib_n, ck_t, cl_n, lt_d, b_t, b_f, bi, bie, nI_eq, nI_leI, nI_ltI, ou_n, in_n, if_pos, if_neg, ne_eq, ab_u_ne, ab_u_same, pk_us, pk_un, ↓reduceIte, Nat.reduceAdd, Nat.reduceMul, Nat.reduceSub, Nat.reduceDiv, Nat.reduceMod, Nat.reduceEqDiff, Nat.reduceLeDiff, Nat.reduceLT]
        · by_cases hi2 : i = k
          · subst hi2
            simp (disch := omega) only [lit, nI_add, pk_mul, pk_sub, pk_div, ib_n, ck_t, cl_n, lt_d, b_t, b_f, bi, bie, nI_eq, nI_leI, nI_ltI, ou_n, in_n, if_pos, if_neg, ne_eq, ab_u_ne, ab_u_same, pk_us, pk_un, ↓reduceIte, Nat.reduceAdd, Nat.reduceMul, Nat.reduceSub, Nat.reduceDiv, Nat.reduceMod, Nat.reduceEqDiff, Nat.reduceLeDiff, Nat.reduceLT]
          · simp (disch := omega) only [lit, nI_add, pk_mul, pk_sub, pk_div, ib_n, ck_t, cl_n, lt_d, b_t, b_f, bi, bie, nI_eq, nI_leI, nI_ltI, ou_n, in_n, if_pos, if_neg, ne_eq, ab_u_ne, ab_u_same, pk_us, pk_un, ↓reduceIte, Nat.reduceAdd, Nat.reduceMul, Nat.reduceSub, Nat.reduceDiv, Nat.reduceMod, Nat.reduceEqDiff, Nat.reduceLeDiff, Nat.reduceLT]
            exact (e3 i (by omega)).1
      · have := h.1.2.2.2.2.1
        refine rT_to ?_ (s := σ 86) (fun j _ _ => by simp (disch := omega) only [lit, nI_add, pk_mul, pk_sub, pk_div, ib_n, ck_t, cl_n, lt_d, b_t, b_f, bi, bie, nI_eq, nI_leI, nI_ltI, ou_n, in_n, if_pos, if_neg, ne_eq, ab_u_ne, ab_u_same, pk_us, pk_un, ↓reduceIte, Nat.reduceAdd, Nat.reduceMul, Nat.reduceSub, Nat.reduceDiv, Nat.reduceMod, Nat.reduceEqDiff, Nat.reduceLeDiff, Nat.reduceLT])
        simp (disch := omega) only [lit, nI_add, pk_mul, pk_sub, pk_div, ib_n, ck_t, cl_n, lt_d, b_t, b_f, bi, bie, nI_eq, nI_leI, nI_ltI, ou_n, in_n, if_pos, if_neg, ne_eq, ab_u_ne, ab_u_same, pk_us, pk_un, ↓reduceIte, Nat.reduceAdd, Nat.reduceMul, Nat.reduceSub, Nat.reduceDiv, Nat.reduceMod, Nat.reduceEqDiff, Nat.reduceLeDiff, Nat.reduceLT]
        exact this
      · have := h.1.2.2.2.2.2
        refine rT_to ?_ (s := σ 86) (fun j _ _ => by simp (disch := omega) only [lit, nI_add, pk_mul, pk_sub, pk_div, ib_n, ck_t, cl_n, lt_d, b_t, b_f, bi, bie, nI_eq, nI_leI, nI_ltI, ou_n, in_n, if_pos, if_neg, ne_eq, ab_u_ne, ab_u_same, pk_us, pk_un, ↓reduceIte, Nat.reduceAdd, Nat.reduceMul, Nat.reduceSub, Nat.reduceDiv, Nat.reduceMod, Nat.reduceEqDiff, Nat.reduceLeDiff, Nat.reduceLT])
        simp (disch := omega) only [lit, nI_add, pk_mul, pk_sub, pk_div, ib_n, ck_t, cl_n, lt_d, b_t, b_f, bi, bie, nI_eq, nI_leI, nI_ltI, ou_n, in_n, if_pos, if_neg, ne_eq, ab_u_ne, ab_u_same, pk_us, pk_un, ↓reduceIte, Nat.reduceAdd, Nat.reduceMul, Nat.reduceSub, Nat.reduceDiv, Nat.reduceMod, Nat.reduceEqDiff, Nat.reduceLeDiff, Nat.reduceLT]
        exact this
theorem m_body (a0 : Int32) : ok2 rR (f_X11_body a0) (f_X12_body a0) := by
  intro σ h
  obtain ⟨k, hk, e1, e2, e3⟩ := h.2.2.2.1
  by_cases hz : k = 0
  · subst hz
    have n1 : ¬ a0 < 0 → ¬ a0 ≤ nI 0 - nI 1 := by
      intro q q2
      rw [Int32.lt_iff_toInt_lt] at q
      rw [Int32.le_iff_toInt_le] at q2
      have z1 : (0 : Int32).toInt = 0 := rfl
      have z2 : (nI 0 - nI 1 : Int32).toInt = -1 := by decide
      omega
    refine er2 h 2 (by omega) ?_ (fun τ hτ => ?_)
    · unfold f_X11_body f_X11_outside
      rw [e1, show (1 : Int32) = nI 1 from rfl]
      by_cases q : a0 < 0
      · rw [if_pos q]; simp (disch := omega) only [lit, nI_add, pk_mul, pk_sub, pk_div, ib_n, ck_t, cl_n, lt_d, b_t, b_f, bi, bie, nI_eq, nI_leI, nI_ltI, ou_n, in_n, if_pos, if_neg, ne_eq, ab_u_ne, ab_u_same, pk_us, pk_un, ↓reduceIte, Nat.reduceAdd, Nat.reduceMul, Nat.reduceSub, Nat.reduceDiv, Nat.reduceMod, Nat.reduceEqDiff, Nat.reduceLeDiff, Nat.reduceLT]
      · rw [if_neg q, if_neg (n1 q)]; simp (disch := omega) only [lit, nI_add, pk_mul, pk_sub, pk_div, ib_n, ck_t, cl_n, lt_d, b_t, b_f, bi, bie, nI_eq, nI_leI, nI_ltI, ou_n, in_n, if_pos, if_neg, ne_eq, ab_u_ne, ab_u_same, pk_us, pk_un, ↓reduceIte, Nat.reduceAdd, Nat.reduceMul, Nat.reduceSub, Nat.reduceDiv, Nat.reduceMod, Nat.reduceEqDiff, Nat.reduceLeDiff, Nat.reduceLT]
    · unfold f_X12_body f_X12_in
      rw [hτ 85 (by omega), e2, show (1 : Int32) = nI 1 from rfl]
      by_cases q : a0 < 0
      · rw [if_pos q]; simp (disch := omega) only [lit, nI_add, pk_mul, pk_sub, pk_div, ib_n, ck_t, cl_n, lt_d, b_t, b_f, bi, bie, nI_eq, nI_leI, nI_ltI, ou_n, in_n, if_pos, if_neg, ne_eq, ab_u_ne, ab_u_same, pk_us, pk_un, ↓reduceIte, Nat.reduceAdd, Nat.reduceMul, Nat.reduceSub, Nat.reduceDiv, Nat.reduceMod, Nat.reduceEqDiff, Nat.reduceLeDiff, Nat.reduceLT]
      · rw [if_neg q, if_pos (Int32.not_le.mp (n1 q))]; simp (disch := omega) only [lit, nI_add, pk_mul, pk_sub, pk_div, ib_n, ck_t, cl_n, lt_d, b_t, b_f, bi, bie, nI_eq, nI_leI, nI_ltI, ou_n, in_n, if_pos, if_neg, ne_eq, ab_u_ne, ab_u_same, pk_us, pk_un, ↓reduceIte, Nat.reduceAdd, Nat.reduceMul, Nat.reduceSub, Nat.reduceDiv, Nat.reduceMod, Nat.reduceEqDiff, Nat.reduceLeDiff, Nat.reduceLT]
  · rcases gd a0 (k - 1) (by omega) with ⟨j, hj, rfl⟩ | ⟨hx, hy⟩
    · refine ⟨σ 22 j, σ, σ, ?_, ?_, h⟩
      · unfold f_X11_body
        simp (disch := omega) only [e1, lit, nI_add, pk_mul, pk_sub, pk_div, ib_n, ck_t, cl_n, lt_d, b_t, b_f, bi, bie, nI_eq, nI_leI, nI_ltI, ou_n, in_n, if_pos, if_neg, ne_eq, ab_u_ne, ab_u_same, pk_us, pk_un, ↓reduceIte, Nat.reduceAdd, Nat.reduceMul, Nat.reduceSub, Nat.reduceDiv, Nat.reduceMod, Nat.reduceEqDiff, Nat.reduceLeDiff, Nat.reduceLT]
      · unfold f_X12_body
        simp (disch := omega) only [e2, lit, nI_add, pk_mul, pk_sub, pk_div, ib_n, ck_t, cl_n, lt_d, b_t, b_f, bi, bie, nI_eq, nI_leI, nI_ltI, ou_n, in_n, if_pos, if_neg, ne_eq, ab_u_ne, ab_u_same, pk_us, pk_un, ↓reduceIte, Nat.reduceAdd, Nat.reduceMul, Nat.reduceSub, Nat.reduceDiv, Nat.reduceMod, Nat.reduceEqDiff, Nat.reduceLeDiff, Nat.reduceLT]
        rw [(e3 j (by omega)).1]
    · refine er2 h 2 (by omega) ?_ (fun τ hτ => ?_)
      · unfold f_X11_body
        simp (disch := omega) only [e1, hx, lit, nI_add, pk_mul, pk_sub, pk_div, ib_n, ck_t, cl_n, lt_d, b_t, b_f, bi, bie, nI_eq, nI_leI, nI_ltI, ou_n, in_n, if_pos, if_neg, ne_eq, ab_u_ne, ab_u_same, pk_us, pk_un, ↓reduceIte, Nat.reduceAdd, Nat.reduceMul, Nat.reduceSub, Nat.reduceDiv, Nat.reduceMod, Nat.reduceEqDiff, Nat.reduceLeDiff, Nat.reduceLT]
      · unfold f_X12_body
        simp (disch := omega) only [hτ, e2, hy, lit, nI_add, pk_mul, pk_sub, pk_div, ib_n, ck_t, cl_n, lt_d, b_t, b_f, bi, bie, nI_eq, nI_leI, nI_ltI, ou_n, in_n, if_pos, if_neg, ne_eq, ab_u_ne, ab_u_same, pk_us, pk_un, ↓reduceIte, Nat.reduceAdd, Nat.reduceMul, Nat.reduceSub, Nat.reduceDiv, Nat.reduceMod, Nat.reduceEqDiff, Nat.reduceLeDiff, Nat.reduceLT]
theorem m_untell (a0 : Int32) : ok2 rR (f_X11_untell a0) (f_X12_untell a0) := by
  intro σ h
  rcases gd a0 1 (by omega) with ⟨j, hj, rfl⟩ | ⟨hx, hy⟩
  · have hj2 : j = 0 ∨ j = 1 := by omega
    obtain ⟨k0, dp0, a1, a2, a3, a4, a5, a6, a7⟩ := h.1.2.2.2.2.1
    obtain ⟨k1, dp1, b1, b2, b3, b4, b5, b6, b7⟩ := h.1.2.2.2.2.2
    rcases hj2 with rfl | rfl
    · refine ⟨nI (if k0 = 0 then 0 else 1), ab_u σ 32 0 (nI 0), ab_u (ab_u σ 32 0 (nI 0)) 86 116 (nI 0), ?_, ?_, ?_⟩
      · unfold f_X11_untell f_X11_textOf
        by_cases q : k0 = 0
        · subst q; simp (disch := omega) only [a2, lit, nI_add, pk_mul, pk_sub, pk_div, ib_n, ck_t, cl_n, lt_d, b_t, b_f, bi, bie, nI_eq, nI_leI, nI_ltI, ou_n, in_n, if_pos, if_neg, ne_eq, ab_u_ne, ab_u_same, pk_us, pk_un, ↓reduceIte, Nat.reduceAdd, Nat.reduceMul, Nat.reduceSub, Nat.reduceDiv, Nat.reduceMod, Nat.reduceEqDiff, Nat.reduceLeDiff, Nat.reduceLT]
        · simp (disch := omega) only [a2, lit, nI_add, pk_mul, pk_sub, pk_div, ib_n, ck_t, cl_n, lt_d, b_t, b_f, bi, bie, nI_eq, nI_leI, nI_ltI, ou_n, in_n, if_pos, if_neg, ne_eq, ab_u_ne, ab_u_same, pk_us, pk_un, ↓reduceIte, Nat.reduceAdd, Nat.reduceMul, Nat.reduceSub, Nat.reduceDiv, Nat.reduceMod, Nat.reduceEqDiff, Nat.reduceLeDiff, Nat.reduceLT]
      · unfold f_X12_untell f_X12_hasText
        by_cases q : k0 = 0
        · subst q; simp (disch := omega) only [a3, lit, nI_add, pk_mul, pk_sub, pk_div, ib_n, ck_t, cl_n, lt_d, b_t, b_f, bi, bie, nI_eq, nI_leI, nI_ltI, ou_n, in_n, if_pos, if_neg, ne_eq, ab_u_ne, ab_u_same, pk_us, pk_un, ↓reduceIte, Nat.reduceAdd, Nat.reduceMul, Nat.reduceSub, Nat.reduceDiv, Nat.reduceMod, Nat.reduceEqDiff, Nat.reduceLeDiff, Nat.reduceLT]
        · simp (disch := omega) only [a3, lit, nI_add, pk_mul, pk_sub, pk_div, ib_n, ck_t, cl_n, lt_d, b_t, b_f, bi, bie, nI_eq, nI_leI, nI_ltI, ou_n, in_n, if_pos, if_neg, ne_eq, ab_u_ne, ab_u_same, pk_us, pk_un, ↓reduceIte, Nat.reduceAdd, Nat.reduceMul, Nat.reduceSub, Nat.reduceDiv, Nat.reduceMod, Nat.reduceEqDiff, Nat.reduceLeDiff, Nat.reduceLT]
      · refine rR_t h (fun c _ _ _ _ _ q1 _ _ _ q2 _ => by rw [ab_u_ne _ _ _ q2, ab_u_ne _ _ _ q1]) (fun j hj _ _ => ?_) ?_ ?_ ?_ ?_ ?_ ?_
        · simp (disch := omega) only [lit, nI_add, pk_mul, pk_sub, pk_div, ib_n, ck_t, cl_n, lt_d, b_t, b_f, bi, bie, nI_eq, nI_leI, nI_ltI, ou_n, in_n, if_pos, if_neg, ne_eq, ab_u_ne, ab_u_same, pk_us, pk_un, ↓reduceIte, Nat.reduceAdd, Nat.reduceMul, Nat.reduceSub, Nat.reduceDiv, Nat.reduceMod, Nat.reduceEqDiff, Nat.reduceLeDiff, Nat.reduceLT]
        · simp (disch := omega) only [lit, nI_add, pk_mul, pk_sub, pk_div, ib_n, ck_t, cl_n, lt_d, b_t, b_f, bi, bie, nI_eq, nI_leI, nI_ltI, ou_n, in_n, if_pos, if_neg, ne_eq, ab_u_ne, ab_u_same, pk_us, pk_un, ↓reduceIte, Nat.reduceAdd, Nat.reduceMul, Nat.reduceSub, Nat.reduceDiv, Nat.reduceMod, Nat.reduceEqDiff, Nat.reduceLeDiff, Nat.reduceLT]
        · simp (disch := omega) only [lit, nI_add, pk_mul, pk_sub, pk_div, ib_n, ck_t, cl_n, lt_d, b_t, b_f, bi, bie, nI_eq, nI_leI, nI_ltI, ou_n, in_n, if_pos, if_neg, ne_eq, ab_u_ne, ab_u_same, pk_us, pk_un, ↓reduceIte, Nat.reduceAdd, Nat.reduceMul, Nat.reduceSub, Nat.reduceDiv, Nat.reduceMod, Nat.reduceEqDiff, Nat.reduceLeDiff, Nat.reduceLT]
        · have := h.1.2.2.1
          simp (disch := omega) only [lit, nI_add, pk_mul, pk_sub, pk_div, ib_n, ck_t, cl_n, lt_d, b_t, b_f, bi, bie, nI_eq, nI_leI, nI_ltI, ou_n, in_n, if_pos, if_neg, ne_eq, ab_u_ne, ab_u_same, pk_us, pk_un, ↓reduceIte, Nat.reduceAdd, Nat.reduceMul, Nat.reduceSub, Nat.reduceDiv, Nat.reduceMod, Nat.reduceEqDiff, Nat.reduceLeDiff, Nat.reduceLT]
          exact this
        · have := h.1.2.2.2.1
          simp (disch := omega) only [lit, nI_add, pk_mul, pk_sub, pk_div, ib_n, ck_t, cl_n, lt_d, b_t, b_f, bi, bie, nI_eq, nI_leI, nI_ltI, ou_n, in_n, if_pos, if_neg, ne_eq, ab_u_ne, ab_u_same, pk_us, pk_un, ↓reduceIte, Nat.reduceAdd, Nat.reduceMul, Nat.reduceSub, Nat.reduceDiv, Nat.reduceMod, Nat.reduceEqDiff, Nat.reduceLeDiff, Nat.reduceLT]
          exact this
        · exact ⟨0, fun _ => 0, by omega, by simp (disch := omega) only [lit, nI_add, pk_mul, pk_sub, pk_div, ib_n, ck_t, cl_n, lt_d, b_t, b_f, bi, bie, nI_eq, nI_leI, nI_ltI, ou_n, in_n, if_pos, if_neg, ne_eq, ab_u_ne, ab_u_same, pk_us, pk_un, ↓reduceIte, Nat.reduceAdd, Nat.reduceMul, Nat.reduceSub, Nat.reduceDiv, Nat.reduceMod, Nat.reduceEqDiff, Nat.reduceLeDiff, Nat.reduceLT], by simp (disch := omega) only [lit, nI_add, pk_mul, pk_sub, pk_div, ib_n, ck_t, cl_n, lt_d, b_t, b_f, bi, bie, nI_eq, nI_leI, nI_ltI, ou_n, in_n, if_pos, if_neg, ne_eq, ab_u_ne, ab_u_same, pk_us, pk_un, ↓reduceIte, Nat.reduceAdd, Nat.reduceMul, Nat.reduceSub, Nat.reduceDiv, Nat.reduceMod, Nat.reduceEqDiff, Nat.reduceLeDiff, Nat.reduceLT], rfl, Or.inl rfl, fun i hi => Nat.zero_le _, fun i hi => by omega⟩
        · have := h.1.2.2.2.2.2
          refine rT_to ?_ (s := σ 86) (fun j _ _ => by simp (disch := omega) only [lit, nI_add, pk_mul, pk_sub, pk_div, ib_n, ck_t, cl_n, lt_d, b_t, b_f, bi, bie, nI_eq, nI_leI, nI_ltI, ou_n, in_n, if_pos, if_neg, ne_eq, ab_u_ne, ab_u_same, pk_us, pk_un, ↓reduceIte, Nat.reduceAdd, Nat.reduceMul, Nat.reduceSub, Nat.reduceDiv, Nat.reduceMod, Nat.reduceEqDiff, Nat.reduceLeDiff, Nat.reduceLT])
          simp (disch := omega) only [lit, nI_add, pk_mul, pk_sub, pk_div, ib_n, ck_t, cl_n, lt_d, b_t, b_f, bi, bie, nI_eq, nI_leI, nI_ltI, ou_n, in_n, if_pos, if_neg, ne_eq, ab_u_ne, ab_u_same, pk_us, pk_un, ↓reduceIte, Nat.reduceAdd, Nat.reduceMul, Nat.reduceSub, Nat.reduceDiv, Nat.reduceMod, Nat.reduceEqDiff, Nat.reduceLeDiff, Nat.reduceLT]
          exact this
    · refine ⟨nI (if k1 = 0 then 0 else 1), ab_u σ 35 0 (nI 0), ab_u (ab_u σ 35 0 (nI 0)) 86 241 (nI 0), ?_, ?_, ?_⟩
      · unfold f_X11_untell f_X11_textOf
        by_cases q : k1 = 0
        · subst q; simp (disch := omega) only [b2, lit, nI_add, pk_mul, pk_sub, pk_div, ib_n, ck_t, cl_n, lt_d, b_t, b_f, bi, bie, nI_eq, nI_leI, nI_ltI, ou_n, in_n, if_pos, if_neg, ne_eq, ab_u_ne, ab_u_same, pk_us, pk_un, ↓reduceIte, Nat.reduceAdd, Nat.reduceMul, Nat.reduceSub, Nat.reduceDiv, Nat.reduceMod, Nat.reduceEqDiff, Nat.reduceLeDiff, Nat.reduceLT]
        · simp (disch := omega) only [b2, lit, nI_add, pk_mul, pk_sub, pk_div, ib_n, ck_t, cl_n, lt_d, b_t, b_f, bi, bie, nI_eq, nI_leI, nI_ltI, ou_n, in_n, if_pos, if_neg, ne_eq, ab_u_ne, ab_u_same, pk_us, pk_un, ↓reduceIte, Nat.reduceAdd, Nat.reduceMul, Nat.reduceSub, Nat.reduceDiv, Nat.reduceMod, Nat.reduceEqDiff, Nat.reduceLeDiff, Nat.reduceLT]
      · unfold f_X12_untell f_X12_hasText
        by_cases q : k1 = 0
        · subst q; simp (disch := omega) only [b3, lit, nI_add, pk_mul, pk_sub, pk_div, ib_n, ck_t, cl_n, lt_d, b_t, b_f, bi, bie, nI_eq, nI_leI, nI_ltI, ou_n, in_n, if_pos, if_neg, ne_eq, ab_u_ne, ab_u_same, pk_us, pk_un, ↓reduceIte, Nat.reduceAdd, Nat.reduceMul, Nat.reduceSub, Nat.reduceDiv, Nat.reduceMod, Nat.reduceEqDiff, Nat.reduceLeDiff, Nat.reduceLT]
        · simp (disch := omega) only [b3, lit, nI_add, pk_mul, pk_sub, pk_div, ib_n, ck_t, cl_n, lt_d, b_t, b_f, bi, bie, nI_eq, nI_leI, nI_ltI, ou_n, in_n, if_pos, if_neg, ne_eq, ab_u_ne, ab_u_same, pk_us, pk_un, ↓reduceIte, Nat.reduceAdd, Nat.reduceMul, Nat.reduceSub, Nat.reduceDiv, Nat.reduceMod, Nat.reduceEqDiff, Nat.reduceLeDiff, Nat.reduceLT]
      · refine rR_t h (fun c _ _ _ _ _ _ _ q1 _ q2 _ => by rw [ab_u_ne _ _ _ q2, ab_u_ne _ _ _ q1]) (fun j hj _ _ => ?_) ?_ ?_ ?_ ?_ ?_ ?_
        · simp (disch := omega) only [lit, nI_add, pk_mul, pk_sub, pk_div, ib_n, ck_t, cl_n, lt_d, b_t, b_f, bi, bie, nI_eq, nI_leI, nI_ltI, ou_n, in_n, if_pos, if_neg, ne_eq, ab_u_ne, ab_u_same, pk_us, pk_un, ↓reduceIte, Nat.reduceAdd, Nat.reduceMul, Nat.reduceSub, Nat.reduceDiv, Nat.reduceMod, Nat.reduceEqDiff, Nat.reduceLeDiff, Nat.reduceLT]
        · simp (disch := omega) only [lit, nI_add, pk_mul, pk_sub, pk_div, ib_n, ck_t, cl_n, lt_d, b_t, b_f, bi, bie, nI_eq, nI_leI, nI_ltI, ou_n, in_n, if_pos, if_neg, ne_eq, ab_u_ne, ab_u_same, pk_us, pk_un, ↓reduceIte, Nat.reduceAdd, Nat.reduceMul, Nat.reduceSub, Nat.reduceDiv, Nat.reduceMod, Nat.reduceEqDiff, Nat.reduceLeDiff, Nat.reduceLT]
        · simp (disch := omega) only [lit, nI_add, pk_mul, pk_sub, pk_div, ib_n, ck_t, cl_n, lt_d, b_t, b_f, bi, bie, nI_eq, nI_leI, nI_ltI, ou_n, in_n, if_pos, if_neg, ne_eq, ab_u_ne, ab_u_same, pk_us, pk_un, ↓reduceIte, Nat.reduceAdd, Nat.reduceMul, Nat.reduceSub, Nat.reduceDiv, Nat.reduceMod, Nat.reduceEqDiff, Nat.reduceLeDiff, Nat.reduceLT]
        · have := h.1.2.2.1
          simp (disch := omega) only [lit, nI_add, pk_mul, pk_sub, pk_div, ib_n, ck_t, cl_n, lt_d, b_t, b_f, bi, bie, nI_eq, nI_leI, nI_ltI, ou_n, in_n, if_pos, if_neg, ne_eq, ab_u_ne, ab_u_same, pk_us, pk_un, ↓reduceIte, Nat.reduceAdd, Nat.reduceMul, Nat.reduceSub, Nat.reduceDiv, Nat.reduceMod, Nat.reduceEqDiff, Nat.reduceLeDiff, Nat.reduceLT]
          exact this
        · have := h.1.2.2.2.1
          simp (disch := omega) only [lit, nI_add, pk_mul, pk_sub, pk_div, ib_n, ck_t, cl_n, lt_d, b_t, b_f, bi, bie, nI_eq, nI_leI, nI_ltI, ou_n, in_n, if_pos, if_neg, ne_eq, ab_u_ne, ab_u_same, pk_us, pk_un, ↓reduceIte, Nat.reduceAdd, Nat.reduceMul, Nat.reduceSub, Nat.reduceDiv, Nat.reduceMod, Nat.reduceEqDiff, Nat.reduceLeDiff, Nat.reduceLT]
          exact this
        · have := h.1.2.2.2.2.1
          refine rT_to ?_ (s := σ 86) (fun j _ _ => by simp (disch := omega) only [lit, nI_add, pk_mul, pk_sub, pk_div, ib_n, ck_t, cl_n, lt_d, b_t, b_f, bi, bie, nI_eq, nI_leI, nI_ltI, ou_n, in_n, if_pos, if_neg, ne_eq, ab_u_ne, ab_u_same, pk_us, pk_un, ↓reduceIte, Nat.reduceAdd, Nat.reduceMul, Nat.reduceSub, Nat.reduceDiv, Nat.reduceMod, Nat.reduceEqDiff, Nat.reduceLeDiff, Nat.reduceLT])
          simp (disch := omega) only [lit, nI_add, pk_mul, pk_sub, pk_div, ib_n, ck_t, cl_n, lt_d, b_t, b_f, bi, bie, nI_eq, nI_leI, nI_ltI, ou_n, in_n, if_pos, if_neg, ne_eq, ab_u_ne, ab_u_same, pk_us, pk_un, ↓reduceIte, Nat.reduceAdd, Nat.reduceMul, Nat.reduceSub, Nat.reduceDiv, Nat.reduceMod, Nat.reduceEqDiff, Nat.reduceLeDiff, Nat.reduceLT]
          exact this
        · exact ⟨0, fun _ => 0, by omega, by simp (disch := omega) only [lit, nI_add, pk_mul, pk_sub, pk_div, ib_n, ck_t, cl_n, lt_d, b_t, b_f, bi, bie, nI_eq, nI_leI, nI_ltI, ou_n, in_n, if_pos, if_neg, ne_eq, ab_u_ne, ab_u_same, pk_us, pk_un, ↓reduceIte, Nat.reduceAdd, Nat.reduceMul, Nat.reduceSub, Nat.reduceDiv, Nat.reduceMod, Nat.reduceEqDiff, Nat.reduceLeDiff, Nat.reduceLT], by simp (disch := omega) only [lit, nI_add, pk_mul, pk_sub, pk_div, ib_n, ck_t, cl_n, lt_d, b_t, b_f, bi, bie, nI_eq, nI_leI, nI_ltI, ou_n, in_n, if_pos, if_neg, ne_eq, ab_u_ne, ab_u_same, pk_us, pk_un, ↓reduceIte, Nat.reduceAdd, Nat.reduceMul, Nat.reduceSub, Nat.reduceDiv, Nat.reduceMod, Nat.reduceEqDiff, Nat.reduceLeDiff, Nat.reduceLT], rfl, Or.inl rfl, fun i hi => Nat.zero_le _, fun i hi => by omega⟩
  · refine er2 h 1 (by omega) ?_ (fun τ hτ => ?_)
    · unfold f_X11_untell
      simp (disch := omega) only [hx, lit, nI_add, pk_mul, pk_sub, pk_div, ib_n, ck_t, cl_n, lt_d, b_t, b_f, bi, bie, nI_eq, nI_leI, nI_ltI, ou_n, in_n, if_pos, if_neg, ne_eq, ab_u_ne, ab_u_same, pk_us, pk_un, ↓reduceIte, Nat.reduceAdd, Nat.reduceMul, Nat.reduceSub, Nat.reduceDiv, Nat.reduceMod, Nat.reduceEqDiff, Nat.reduceLeDiff, Nat.reduceLT]
    · unfold f_X12_untell
      simp (disch := omega) only [hy, lit, nI_add, pk_mul, pk_sub, pk_div, ib_n, ck_t, cl_n, lt_d, b_t, b_f, bi, bie, nI_eq, nI_leI, nI_ltI, ou_n, in_n, if_pos, if_neg, ne_eq, ab_u_ne, ab_u_same, pk_us, pk_un, ↓reduceIte, Nat.reduceAdd, Nat.reduceMul, Nat.reduceSub, Nat.reduceDiv, Nat.reduceMod, Nat.reduceEqDiff, Nat.reduceLeDiff, Nat.reduceLT]
