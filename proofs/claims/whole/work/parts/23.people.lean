/-! several entries are set, the class's first, then the model's -/
def sC (σ : ab_F) (l : List (Nat × Nat × Nat)) : ab_F := l.foldl (fun τ q => ab_u τ (38 + q.1) q.2.1 (nI q.2.2)) σ
def sM (σ : ab_F) (l : List (Nat × Nat × Nat)) : ab_F := l.foldl (fun τ q => ab_u τ 86 (ix q.1 q.2.1) (nI q.2.2)) σ
theorem sC_comm (k : Nat) (x : Int32) : ∀ (l : List (Nat × Nat × Nat)) (σ : ab_F), (∀ q ∈ l, q.1 ≤ 10) → sC (ab_u σ 86 k x) l = ab_u (sC σ l) 86 k x := by
  intro l
  induction l with
  | nil => intro σ _; rfl
  | cons q l ih =>
    intro σ h
    have h1 : q.1 ≤ 10 := h q List.mem_cons_self
    unfold sC at ih ⊢
    rw [List.foldl_cons, List.foldl_cons, u_comm _ _ _ _ _ (by omega), ih _ (fun q2 hq => h q2 (List.mem_cons_of_mem _ hq))]
theorem rR_sets : ∀ (l : List (Nat × Nat × Nat)) (σ : ab_F), rR σ → (∀ q ∈ l, val q.1 q.2.1 ∧ q.2.2 ≤ mx 9999 q.1 q.2.1) → rR (sM (sC σ l) l) := by
  intro l
  induction l with
  | nil => intro σ h _; exact h
  | cons q l ih =>
    intro σ h hl
    have h1 := hl q List.mem_cons_self
    have h2 := fun q2 hq => hl q2 (List.mem_cons_of_mem q hq)
    have e : sM (sC σ (q :: l)) (q :: l) = sM (sC (ab_u (ab_u σ (38 + q.1) q.2.1 (nI q.2.2)) 86 (ix q.1 q.2.1) (nI q.2.2)) l) l := by
      rw [sC_comm _ _ l _ (fun q2 hq => by rcases (h2 q2 hq).1 with a | a | a | a <;> omega)]
      rfl
    rw [e]
    exact ih _ (rR_set h h1.1 h1.2) h2
theorem m_become (a0 a1 : Int32) : ok2 rR (f_X11_become a0 a1) (f_X12_become a0 a1) := by
  intro σ h
  obtain ⟨u, hB, hC, hM⟩ := rR_u h
  have hp := b11 hB
  rcases go a0 (u 0 11) hp with ⟨k, hk, rfl⟩ | ⟨hx, hy⟩
  · rcases gd a1 69 (by omega) with ⟨j, hj, rfl⟩ | ⟨hx, hy⟩
    · refine ⟨nI (u 6 k), ab_u (ab_u σ 44 k (nI (j / 10))) 45 k (nI (j - j / 10 * 10)), _, ?_, ?_, rR_sets [(6, k, j / 10), (7, k, j - j / 10 * 10)] σ h ?_⟩
      · unfold f_X11_become f_X11_nobody
        simp (disch := omega) only [c0_11 hC, c6 hC, lit, nI_add, pk_mul, pk_sub, pk_div, ib_n, ck_t, cl_n, lt_d, b_t, b_f, bi, bie, nI_eq, nI_leI, nI_ltI, ou_n, in_n, if_pos, if_neg, ne_eq, ab_u_ne, ab_u_same, pk_us, pk_un, ↓reduceIte, Nat.reduceAdd, Nat.reduceMul, Nat.reduceSub, Nat.reduceDiv, Nat.reduceMod, Nat.reduceEqDiff, Nat.reduceLeDiff, Nat.reduceLT]
      · unfold f_X12_become f_X12_isOne
        simp (disch := omega) only [f_X12_isCell, f_X12_isKm, f_X12_isSheet, d0_11 hM, lays_n, its_n (σ := ab_u (ab_u σ 44 k (nI (j / 10))) 45 k (nI (j - j / 10 * 10))) (u := u) hM, lit, nI_add, pk_mul, pk_sub, pk_div, ib_n, ck_t, cl_n, lt_d, b_t, b_f, bi, bie, nI_eq, nI_leI, nI_ltI, ou_n, in_n, if_pos, if_neg, ne_eq, ab_u_ne, ab_u_same, pk_us, pk_un, ↓reduceIte, Nat.reduceAdd, Nat.reduceMul, Nat.reduceSub, Nat.reduceDiv, Nat.reduceMod, Nat.reduceEqDiff, Nat.reduceLeDiff, Nat.reduceLT]
        rfl
      · intro q hq
        simp only [List.mem_cons, List.not_mem_nil, or_false] at hq
        rcases hq with rfl | rfl
        · exact ⟨vp (by omega) (by omega) (show k < 8 by omega), show j / 10 ≤ 6 by omega⟩
        · exact ⟨vp (by omega) (by omega) (show k < 8 by omega), show j - j / 10 * 10 ≤ 9 by omega⟩
    · refine er2 h 1 (by omega) ?_ (fun τ hτ => ?_)
      · unfold f_X11_become f_X11_nobody
        simp (disch := omega) only [c0_11 hC, hx, lit, nI_add, pk_mul, pk_sub, pk_div, ib_n, ck_t, cl_n, lt_d, b_t, b_f, bi, bie, nI_eq, nI_leI, nI_ltI, ou_n, in_n, if_pos, if_neg, ne_eq, ab_u_ne, ab_u_same, pk_us, pk_un, ↓reduceIte, Nat.reduceAdd, Nat.reduceMul, Nat.reduceSub, Nat.reduceDiv, Nat.reduceMod, Nat.reduceEqDiff, Nat.reduceLeDiff, Nat.reduceLT]
      · unfold f_X12_become f_X12_isOne
        simp (disch := omega) only [f_X12_isCell, f_X12_isKm, f_X12_isSheet, hτ, d0_11 hM, hy, lit, nI_add, pk_mul, pk_sub, pk_div, ib_n, ck_t, cl_n, lt_d, b_t, b_f, bi, bie, nI_eq, nI_leI, nI_ltI, ou_n, in_n, if_pos, if_neg, ne_eq, ab_u_ne, ab_u_same, pk_us, pk_un, ↓reduceIte, Nat.reduceAdd, Nat.reduceMul, Nat.reduceSub, Nat.reduceDiv, Nat.reduceMod, Nat.reduceEqDiff, Nat.reduceLeDiff, Nat.reduceLT]
  · refine er2 h 1 (by omega) ?_ (fun τ hτ => ?_)
    · unfold f_X11_become
      simp (disch := omega) only [hx σ (c0_11 hC), lit, nI_add, pk_mul, pk_sub, pk_div, ib_n, ck_t, cl_n, lt_d, b_t, b_f, bi, bie, nI_eq, nI_leI, nI_ltI, ou_n, in_n, if_pos, if_neg, ne_eq, ab_u_ne, ab_u_same, pk_us, pk_un, ↓reduceIte, Nat.reduceAdd, Nat.reduceMul, Nat.reduceSub, Nat.reduceDiv, Nat.reduceMod, Nat.reduceEqDiff, Nat.reduceLeDiff, Nat.reduceLT]
    · unfold f_X12_become
      rw [hy τ (by rw [hτ 86 (by omega)]; exact d0_11 hM)]
      simp (disch := omega) only [lit, nI_add, pk_mul, pk_sub, pk_div, ib_n, ck_t, cl_n, lt_d, b_t, b_f, bi, bie, nI_eq, nI_leI, nI_ltI, ou_n, in_n, if_pos, if_neg, ne_eq, ab_u_ne, ab_u_same, pk_us, pk_un, ↓reduceIte, Nat.reduceAdd, Nat.reduceMul, Nat.reduceSub, Nat.reduceDiv, Nat.reduceMod, Nat.reduceEqDiff, Nat.reduceLeDiff, Nat.reduceLT]
theorem m_one (a0 a1 : Int32) : ok2 rR (f_X11_one a0 a1) (f_X12_one_ a0 a1) := by
  intro σ h
  obtain ⟨u, hB, hC, hM⟩ := rR_u h
  have hp := b11 hB
  rcases gd a0 69 (by omega) with ⟨j, hj, rfl⟩ | ⟨hx, hy⟩
  · rcases gd a1 15 (by omega) with ⟨c, hc, rfl⟩ | ⟨hx, hy⟩
    · by_cases hf : u 0 11 = 8
      · refine er2 h 4 (by omega) ?_ (fun τ hτ => ?_)
        · unfold f_X11_one
          simp (disch := omega) only [c0_11 hC, lit, nI_add, pk_mul, pk_sub, pk_div, ib_n, ck_t, cl_n, lt_d, b_t, b_f, bi, bie, nI_eq, nI_leI, nI_ltI, ou_n, in_n, if_pos, if_neg, ne_eq, ab_u_ne, ab_u_same, pk_us, pk_un, ↓reduceIte, Nat.reduceAdd, Nat.reduceMul, Nat.reduceSub, Nat.reduceDiv, Nat.reduceMod, Nat.reduceEqDiff, Nat.reduceLeDiff, Nat.reduceLT]
        · unfold f_X12_one_
          simp (disch := omega) only [f_X12_isCell, f_X12_isKm, f_X12_isSheet, hτ, d0_11 hM, hf, lit, nI_add, pk_mul, pk_sub, pk_div, ib_n, ck_t, cl_n, lt_d, b_t, b_f, bi, bie, nI_eq, nI_leI, nI_ltI, ou_n, in_n, if_pos, if_neg, ne_eq, ab_u_ne, ab_u_same, pk_us, pk_un, ↓reduceIte, Nat.reduceAdd, Nat.reduceMul, Nat.reduceSub, Nat.reduceDiv, Nat.reduceMod, Nat.reduceEqDiff, Nat.reduceLeDiff, Nat.reduceLT]
      · have hk : u 0 11 < 8 := by omega
        refine ⟨nI (u 0 11), ab_u (ab_u (ab_u (ab_u (ab_u (ab_u σ 44 (u 0 11) (nI (j / 10))) 45 (u 0 11) (nI (j - j / 10 * 10))) 46 (u 0 11) (nI c)) 47 (u 0 11) (nI 6)) 48 (u 0 11) (nI 0)) 38 11 (nI (u 0 11 + 1)), _, ?_, ?_, rR_sets [(6, u 0 11, j / 10), (7, u 0 11, j - j / 10 * 10), (8, u 0 11, c), (9, u 0 11, 6), (10, u 0 11, 0), (0, 11, u 0 11 + 1)] σ h ?_⟩
        · unfold f_X11_one f_X9_join
          simp (disch := omega) only [c0_11 hC, Nat.reduceAdd, lit, nI_add, pk_mul, pk_sub, pk_div, ib_n, ck_t, cl_n, lt_d, b_t, b_f, bi, bie, nI_eq, nI_leI, nI_ltI, ou_n, in_n, if_pos, if_neg, ne_eq, ab_u_ne, ab_u_same, pk_us, pk_un, ↓reduceIte, Nat.reduceAdd, Nat.reduceMul, Nat.reduceSub, Nat.reduceDiv, Nat.reduceMod, Nat.reduceEqDiff, Nat.reduceLeDiff, Nat.reduceLT]
        · unfold f_X12_one_
          have g : ∀ q, q ≤ 4 → ∀ k, ¬ (5 = ix (6 + q) k) := fun q hq k => by rw [ixp _ _ hq]; omega
          simp (disch := omega) only [f_X12_isCell, f_X12_isKm, f_X12_isSheet, d0_11 hM, lays_n, lit, nI_add, pk_mul, pk_sub, pk_div, ib_n, ck_t, cl_n, lt_d, b_t, b_f, bi, bie, nI_eq, nI_leI, nI_ltI, ou_n, in_n, if_pos, if_neg, ne_eq, ab_u_ne, ab_u_same, pk_us, pk_un, ↓reduceIte, Nat.reduceAdd, Nat.reduceMul, Nat.reduceSub, Nat.reduceDiv, Nat.reduceMod, Nat.reduceEqDiff, Nat.reduceLeDiff, Nat.reduceLT]
          have g6 : 5 ≠ ix 6 (u 0 11) := g 0 (by omega) _
          have g7 : 5 ≠ ix 7 (u 0 11) := g 1 (by omega) _
          have g8 : 5 ≠ ix 8 (u 0 11) := g 2 (by omega) _
          have g9 : 5 ≠ ix 9 (u 0 11) := g 3 (by omega) _
          have g10 : 5 ≠ ix 10 (u 0 11) := g 4 (by omega) _
          rw [pk_un g10, pk_un g9, pk_un g8, pk_un g7, pk_un g6, d0_11 hM, nI_add]
          rfl
        · intro q hq
          simp only [List.mem_cons, List.not_mem_nil, or_false] at hq
          rcases hq with rfl | rfl | rfl | rfl | rfl | rfl
          · exact ⟨vp (by omega) (by omega) (by omega), show j / 10 ≤ 6 by omega⟩
          · exact ⟨vp (by omega) (by omega) (by omega), show j - j / 10 * 10 ≤ 9 by omega⟩
          · exact ⟨vp (by omega) (by omega) (by omega), show c ≤ 15 by omega⟩
          · exact ⟨vp (by omega) (by omega) (by omega), show 6 ≤ 20 by omega⟩
          · exact ⟨vp (by omega) (by omega) (by omega), show 0 ≤ 4095 by omega⟩
          · exact ⟨v11, show u 0 11 + 1 ≤ 8 by omega⟩
    · refine er2 h 1 (by omega) ?_ (fun τ hτ => ?_)
      · unfold f_X11_one
        simp (disch := omega) only [hx, lit, nI_add, pk_mul, pk_sub, pk_div, ib_n, ck_t, cl_n, lt_d, b_t, b_f, bi, bie, nI_eq, nI_leI, nI_ltI, ou_n, in_n, if_pos, if_neg, ne_eq, ab_u_ne, ab_u_same, pk_us, pk_un, ↓reduceIte, Nat.reduceAdd, Nat.reduceMul, Nat.reduceSub, Nat.reduceDiv, Nat.reduceMod, Nat.reduceEqDiff, Nat.reduceLeDiff, Nat.reduceLT]
      · unfold f_X12_one_
        simp (disch := omega) only [f_X12_isCell, f_X12_isKm, f_X12_isSheet, hy, lit, nI_add, pk_mul, pk_sub, pk_div, ib_n, ck_t, cl_n, lt_d, b_t, b_f, bi, bie, nI_eq, nI_leI, nI_ltI, ou_n, in_n, if_pos, if_neg, ne_eq, ab_u_ne, ab_u_same, pk_us, pk_un, ↓reduceIte, Nat.reduceAdd, Nat.reduceMul, Nat.reduceSub, Nat.reduceDiv, Nat.reduceMod, Nat.reduceEqDiff, Nat.reduceLeDiff, Nat.reduceLT]
  · refine er2 h 1 (by omega) ?_ (fun τ hτ => ?_)
    · unfold f_X11_one
      simp (disch := omega) only [hx, lit, nI_add, pk_mul, pk_sub, pk_div, ib_n, ck_t, cl_n, lt_d, b_t, b_f, bi, bie, nI_eq, nI_leI, nI_ltI, ou_n, in_n, if_pos, if_neg, ne_eq, ab_u_ne, ab_u_same, pk_us, pk_un, ↓reduceIte, Nat.reduceAdd, Nat.reduceMul, Nat.reduceSub, Nat.reduceDiv, Nat.reduceMod, Nat.reduceEqDiff, Nat.reduceLeDiff, Nat.reduceLT]
    · unfold f_X12_one_
      simp (disch := omega) only [f_X12_isCell, f_X12_isKm, f_X12_isSheet, hy, lit, nI_add, pk_mul, pk_sub, pk_div, ib_n, ck_t, cl_n, lt_d, b_t, b_f, bi, bie, nI_eq, nI_leI, nI_ltI, ou_n, in_n, if_pos, if_neg, ne_eq, ab_u_ne, ab_u_same, pk_us, pk_un, ↓reduceIte, Nat.reduceAdd, Nat.reduceMul, Nat.reduceSub, Nat.reduceDiv, Nat.reduceMod, Nat.reduceEqDiff, Nat.reduceLeDiff, Nat.reduceLT]
def und (i j : Nat) : Bool := decide (j = 0) || decide (i = j) || (decide (i = 4) && decide (j = 1)) || (decide (i = 5) && decide (j = 2))
theorem le6 {j : Nat} (h : j ≤ 6) : j = 0 ∨ j = 1 ∨ j = 2 ∨ j = 3 ∨ j = 4 ∨ j = 5 ∨ j = 6 := by omega
theorem und_25 (σ : ab_F) {j : Nat} (h : j ≤ 6) : f_X11_isUnder_25 (nI j) σ = some (und 0 j) := by
  rcases le6 h with rfl | rfl | rfl | rfl | rfl | rfl | rfl <;> rfl
theorem und_26 (σ : ab_F) {j : Nat} (h : j ≤ 6) : f_X11_isUnder_26 (nI j) σ = some (und 1 j) := by
  rcases le6 h with rfl | rfl | rfl | rfl | rfl | rfl | rfl <;> rfl
theorem und_27 (σ : ab_F) {j : Nat} (h : j ≤ 6) : f_X11_isUnder_27 (nI j) σ = some (und 2 j) := by
  rcases le6 h with rfl | rfl | rfl | rfl | rfl | rfl | rfl <;> rfl
theorem und_28 (σ : ab_F) {j : Nat} (h : j ≤ 6) : f_X11_isUnder_28 (nI j) σ = some (und 3 j) := by
  rcases le6 h with rfl | rfl | rfl | rfl | rfl | rfl | rfl <;> rfl
theorem und_29 (σ : ab_F) {j : Nat} (h : j ≤ 6) : f_X11_isUnder_29 (nI j) σ = some (und 4 j) := by
  rcases le6 h with rfl | rfl | rfl | rfl | rfl | rfl | rfl <;> rfl
theorem und_30 (σ : ab_F) {j : Nat} (h : j ≤ 6) : f_X11_isUnder_30 (nI j) σ = some (und 5 j) := by
  rcases le6 h with rfl | rfl | rfl | rfl | rfl | rfl | rfl <;> rfl
theorem und_31 (σ : ab_F) {j : Nat} (h : j ≤ 6) : f_X11_isUnder_31 (nI j) σ = some (und 6 j) := by
  rcases le6 h with rfl | rfl | rfl | rfl | rfl | rfl | rfl <;> rfl
theorem und_if {α : Type} (i j A : Nat) (X E : α) (hA : A = if i = 4 then 1 else if i = 5 then 2 else 0) : (if j = 0 then X else if i = j then X else if A = j then X else E) = if und i j = true then X else E := by
  subst hA
  unfold und
  by_cases h0 : j = 0
  · simp [h0]
  · by_cases h1 : i = j
    · simp [h0, h1]
    · by_cases h4 : i = 4
      · subst h4; by_cases h5 : j = 1 <;> simp_all <;> omega
      · by_cases h5 : i = 5
        · subst h5; by_cases h6 : j = 2 <;> simp_all <;> omega
        · simp [h0, h1, h4, h5]; omega
theorem m_as (a0 a1 : Int32) : ok2 rR (f_X11_as a0 a1) (f_X12_as a0 a1) := by
  intro σ h
  obtain ⟨u, hB, hC, hM⟩ := rR_u h
  have hp := b11 hB
  rcases go a0 (u 0 11) hp with ⟨k, hk, rfl⟩ | ⟨hx, hy⟩
  · rcases gd a1 6 (by omega) with ⟨j, hj, rfl⟩ | ⟨hx, hy⟩
    · have h6 := bw6 hB (j := k) (by omega)
      have e1 : f_X11_as (nI k) (nI j) σ = if und (u 6 k) j = true then some (nI (u 7 k), σ) else f_X11_refuse (nI 5) σ := by
        unfold f_X11_as
        rw [gs_f (nb_n (by omega) hk (c0_11 hC)), gs_f (show f_X11_outside (nI j) 6 σ = some false from ou_n (j := j) (n := 6) σ (by omega) (by omega))]
        simp (disch := omega) only [ib_n, ck_t, cl_n, c6 hC, c7 hC, bie, lit]
        rcases le6 h6 with e | e | e | e | e | e | e <;> simp (disch := omega) only [e, nI_eq, ↓reduceIte, Nat.reduceEqDiff, und_25, und_26, und_27, und_28, und_29, und_30, und_31, bi, b_eq]
        all_goals (cases und _ j <;> simp)
      have e2 : ∀ τ : ab_F, τ 86 = σ 86 → f_X12_as (nI k) (nI j) τ = if und (u 6 k) j = true then some (nI (u 7 k), τ) else f_X12_error (nI 5) τ := by
        intro τ hτ
        have hM2 : rM u (τ 86) := by rw [hτ]; exact hM
        have ea : f_X12_above (nI (u 6 k)) τ = some (nI (if u 6 k = 4 then 1 else if u 6 k = 5 then 2 else 0)) := by
          unfold f_X12_above
          by_cases q4 : u 6 k = 4
          · simp (disch := omega) only [q4, lit, nI_add, pk_mul, pk_sub, pk_div, ib_n, ck_t, cl_n, lt_d, b_t, b_f, bi, bie, nI_eq, nI_leI, nI_ltI, ou_n, in_n, if_pos, if_neg, ne_eq, ab_u_ne, ab_u_same, pk_us, pk_un, ↓reduceIte, Nat.reduceAdd, Nat.reduceMul, Nat.reduceSub, Nat.reduceDiv, Nat.reduceMod, Nat.reduceEqDiff, Nat.reduceLeDiff, Nat.reduceLT]
          · by_cases q5 : u 6 k = 5
            · simp (disch := omega) only [q5, lit, nI_add, pk_mul, pk_sub, pk_div, ib_n, ck_t, cl_n, lt_d, b_t, b_f, bi, bie, nI_eq, nI_leI, nI_ltI, ou_n, in_n, if_pos, if_neg, ne_eq, ab_u_ne, ab_u_same, pk_us, pk_un, ↓reduceIte, Nat.reduceAdd, Nat.reduceMul, Nat.reduceSub, Nat.reduceDiv, Nat.reduceMod, Nat.reduceEqDiff, Nat.reduceLeDiff, Nat.reduceLT]
            · simp (disch := omega) only [lit, nI_add, pk_mul, pk_sub, pk_div, ib_n, ck_t, cl_n, lt_d, b_t, b_f, bi, bie, nI_eq, nI_leI, nI_ltI, ou_n, in_n, if_pos, if_neg, ne_eq, ab_u_ne, ab_u_same, pk_us, pk_un, ↓reduceIte, Nat.reduceAdd, Nat.reduceMul, Nat.reduceSub, Nat.reduceDiv, Nat.reduceMod, Nat.reduceEqDiff, Nat.reduceLeDiff, Nat.reduceLT]
        unfold f_X12_as
        rw [gs_t (is_n (by omega) hk (d0_11 hM2)), gs_t (show f_X12_in (nI j) 0 6 τ = some true from in_n (j := j) (l := 0) (n := 6) τ (Nat.zero_le _) (by omega) (by omega)), ← und_if _ _ _ _ _ rfl]
        have hA : (if u 6 k = 4 then 1 else if u 6 k = 5 then 2 else 0) ≤ 2 := by (repeat' split) <;> omega
        generalize (if u 6 k = 4 then 1 else if u 6 k = 5 then 2 else 0) = A at ea hA
        simp (disch := omega) only [lit, its_n hM2, bi, ea, nI_eq, bie, Nat.reduceAdd]
      by_cases hu : und (u 6 k) j = true
      · refine ⟨nI (u 7 k), σ, σ, ?_, ?_, h⟩
        · rw [e1, if_pos hu]
        · rw [e2 σ rfl, if_pos hu]
      · refine er2 h 5 (by omega) ?_ (fun τ hτ => ?_)
        · rw [e1, if_neg hu]
        · rw [e2 τ (hτ 86 (by omega)), if_neg hu]
    · refine er2 h 1 (by omega) ?_ (fun τ hτ => ?_)
      · unfold f_X11_as
        rw [gs_f (nb_n (by omega) hk (c0_11 hC)), gs_t (show f_X11_outside a1 6 σ = some true from hx σ), bie]; rfl
      · unfold f_X12_as
        rw [gs_t (is_n (by omega) hk (by rw [hτ 86 (by omega)]; exact d0_11 hM)), gs_f (show f_X12_in a1 0 6 τ = some false from hy τ), bie]; rfl
  · refine er2 h 1 (by omega) ?_ (fun τ hτ => ?_)
    · unfold f_X11_as
      rw [gs_t (hx σ (c0_11 hC)), bie]; rfl
    · unfold f_X12_as
      rw [gs_f (hy τ (by rw [hτ 86 (by omega)]; exact d0_11 hM)), bie]; rfl
