theorem rI_cp {σ τ : ab_F} {w b p q t0 t1 w2 b2 p2 q2 t02 t12 : Nat} {s s2 : Nat → Int32} (h : rI σ w b p q t0 t1 s) (h1 : ∀ r j, val r j → τ (if r = 0 then w2 else b2 + r) j = σ (if r = 0 then w else b + r) j) (h2 : τ w2 5 = σ w 5) (h3 : ∀ k, k ≤ 60 → σ p 1 = nI k → τ p2 1 = nI k ∧ ∀ i, i < k → τ (p2 + 1) i = σ (p + 1) i) (h4 : ∀ k, k ≤ 24 → σ q 1 = nI k → τ q2 1 = nI k ∧ ∀ i, i < k → τ (q2 + 1) i = σ (q + 1) i) (h5 : ∀ k, k ≤ 60 → σ t0 0 = nI k → τ t02 0 = nI k ∧ ∀ i, i < k → τ (t02 + 1) i = σ (t0 + 1) i) (h6 : ∀ k, k ≤ 60 → σ t1 0 = nI k → τ t12 0 = nI k ∧ ∀ i, i < k → τ (t12 + 1) i = σ (t1 + 1) i) (h7 : ∀ k, k < 450 → s2 k = s k) : rI τ w2 b2 p2 q2 t02 t12 s2 := by
  obtain ⟨⟨u, g1, g2, g3⟩, g4, ⟨kp, a1, a2, a3, a4⟩, ⟨kq, c1, c2, c3, c4⟩, ⟨k0, dp0, d1, d2, d3, d4, d5, d6, d7⟩, ⟨k1, dp1, e1, e2, e3, e4, e5, e6, e7⟩⟩ := h
  refine ⟨⟨u, g1, fun r j hj => by rw [h1 r j hj]; exact g2 r j hj, fun r j hj => by rw [h7 _ (by have := ix_lt hj; omega)]; exact g3 r j hj⟩, by rw [h2, h7 _ (by omega)]; exact g4, ?_, ?_, ?_, ?_⟩
  · obtain ⟨z1, z2⟩ := h3 kp a1 a2
    exact ⟨kp, a1, z1, by rw [h7 _ (by omega)]; exact a3, fun i hi => by rw [z2 i hi]; show _ = s2 (366 + i) ∧ _; rw [h7 _ (by omega)]; exact a4 i hi⟩
  · obtain ⟨z1, z2⟩ := h4 kq c1 c2
    exact ⟨kq, c1, z1, by rw [h7 _ (by omega)]; exact c3, fun i hi => by rw [z2 i hi]; show _ = s2 (426 + i) ∧ _; rw [h7 _ (by omega)]; exact c4 i hi⟩
  · obtain ⟨z1, z2⟩ := h5 k0 d1 d2
    exact ⟨k0, dp0, d1, z1, by rw [h7 _ (by omega)]; exact d3, d4, d5, d6, fun i hi => by rw [z2 i hi, h7 _ (by omega), h7 _ (by omega)]; exact d7 i hi⟩
  · obtain ⟨z1, z2⟩ := h6 k1 e1 e2
    exact ⟨k1, dp1, e1, z1, by rw [h7 _ (by omega)]; exact e3, e4, e5, e6, fun i hi => by rw [z2 i hi, h7 _ (by omega), h7 _ (by omega)]; exact e7 i hi⟩
theorem m_image : ok2 rR f_X11_image f_X12_image := by
  intro σ h
  obtain ⟨kp, a1, a2, _⟩ := h.1.2.2.1
  obtain ⟨kq, b1, b2, _⟩ := h.1.2.2.2.1
  obtain ⟨k0, _, c1, c2, _⟩ := h.1.2.2.2.2.1
  obtain ⟨k1, _, d1, d2, _⟩ := h.1.2.2.2.2.2
  obtain ⟨t1, f1, x1, x2, x3⟩ := cW_60_38 σ
  obtain ⟨t2, f2, y1, y2, y3⟩ := cP_61_32 (σ := t1) c1 (by rw [x3 32 (by omega) (by omega)]; exact c2)
  obtain ⟨t3, f3, z1, z2, z3⟩ := cP_64_35 (σ := t2) d1 (by rw [y3 35 (by omega) (by omega), x3 35 (by omega) (by omega)]; exact d2)
  obtain ⟨t4, f4, p1, p2, p3⟩ := cP_11_9 (σ := t3) a1 (by rw [z3 9 (by omega) (by omega), y3 9 (by omega) (by omega), x3 9 (by omega) (by omega)]; exact a2)
  obtain ⟨t5, f5, q1, q2, q3⟩ := cP_15_13 (σ := t4) b1 (by rw [p3 13 (by omega) (by omega), z3 13 (by omega) (by omega), y3 13 (by omega) (by omega), x3 13 (by omega) (by omega)]; exact b2)
  have e : ∀ c, c ≠ 60 ∧ (c ≤ 66 ∨ 76 < c) ∧ c ≠ 61 ∧ c ≠ 62 ∧ c ≠ 64 ∧ c ≠ 65 ∧ c ≠ 11 ∧ c ≠ 12 ∧ c ≠ 15 ∧ c ≠ 16 → t5 c = σ c := fun c hc => by
    rw [q3 c (by omega) (by omega), p3 c (by omega) (by omega), z3 c (by omega) (by omega), y3 c (by omega) (by omega), x3 c (by omega) (by omega)]
  refine ⟨σ 8 11 + 1, ab_u t5 8 11 (σ 8 11 + 1), ab_u (ab_r (ab_u t5 8 11 (σ 8 11 + 1)) 87 (fun j => if j < 450 then σ 86 j else (ab_u t5 8 11 (σ 8 11 + 1)) 87 j)) 85 3 (σ 85 3 + 1), ?_, ?_, ?_⟩
  · unfold f_X11_image f_X9_copyTexts_60_38
    simp only [f1, bi, f2, f3, f4, f5, lt_d]
    rw [e 8 (by omega), u_rk]
  · unfold f_X12_image
    rw [k_copyAll_86_87]
    simp (disch := omega) only [bi, lt_d, ab_r_ne, ab_u_ne, e, u_rk]
    rw [h.2.2.2.2.1]
  · obtain ⟨g1, g2, g3, g4, g5, g6⟩ := h
    have k : ∀ c, c ≠ 60 ∧ (c ≤ 66 ∨ 76 < c) ∧ c ≠ 61 ∧ c ≠ 62 ∧ c ≠ 64 ∧ c ≠ 65 ∧ c ≠ 11 ∧ c ≠ 12 ∧ c ≠ 15 ∧ c ≠ 16 ∧ c ≠ 8 ∧ c ≠ 85 ∧ c ≠ 87 → (ab_u (ab_r (ab_u t5 8 11 (σ 8 11 + 1)) 87 (fun j => if j < 450 then σ 86 j else (ab_u t5 8 11 (σ 8 11 + 1)) 87 j)) 85 3 (σ 85 3 + 1)) c = σ c := fun c hc => by
      rw [ab_u_ne _ _ _ (by omega), ab_r_ne _ _ (by omega), ab_u_ne _ _ _ (by omega), e c (by omega)]
    have k2 : ∀ c, c ≠ 8 ∧ c ≠ 85 ∧ c ≠ 87 → (ab_u (ab_r (ab_u t5 8 11 (σ 8 11 + 1)) 87 (fun j => if j < 450 then σ 86 j else (ab_u t5 8 11 (σ 8 11 + 1)) 87 j)) 85 3 (σ 85 3 + 1)) c = t5 c := fun c hc => by
      rw [ab_u_ne _ _ _ (by omega), ab_r_ne _ _ (by omega), ab_u_ne _ _ _ (by omega)]
    refine ⟨?_, ?_, ?_, ?_, ?_, Or.inr ?_⟩
    · rw [k 86 (by omega)]
      exact rI_to g1 (k _ (by omega)) (fun r hr => k _ (by omega)) (k _ (by omega)) (k _ (by omega)) (k _ (by omega)) (k _ (by omega)) (k _ (by omega)) (k _ (by omega)) (k _ (by omega)) (k _ (by omega))
    · intro j hj; rw [k 23 (by omega), k 89 (by omega)]; exact g2 j hj
    · intro j hj
      have := g3 j hj
      rw [k (77 + 2 * j) (by omega), k (78 + 2 * j) (by omega), k 94 (by omega), k 95 (by omega), k 96 (by omega)]
      exact this
    · rw [k 21 (by omega), k 22 (by omega), k 93 (by omega), u_rd _ _ _ _ _ (by omega), ab_r_ne _ _ (by omega), ab_u_ne _ _ _ (by omega), e 85 (by omega)]; exact g4
    · rw [u_rk, ab_u_ne _ _ _ (by omega), ab_r_ne _ _ (by omega), u_rk, g5]
    · rw [ab_u_ne _ _ _ (by omega : 87 ≠ 85), ab_r_same]
      refine rI_cp g1 ?_ ?_ ?_ ?_ ?_ ?_ ?_
      · intro r j hj
        have hr : r ≤ 10 := by rcases hj with q | q | q | q <;> omega
        rw [k2 _ (by split <;> omega), ← x1 r j hj, q3 _ (by split <;> omega) (by split <;> omega), p3 _ (by split <;> omega) (by split <;> omega), z3 _ (by split <;> omega) (by split <;> omega), y3 _ (by split <;> omega) (by split <;> omega)]
      · rw [k2 _ (by omega), ← x2, q3 _ (by omega) (by omega), p3 _ (by omega) (by omega), z3 _ (by omega) (by omega), y3 _ (by omega) (by omega)]
      · intro kk _ hkk
        have : kk = kp := by rw [a2] at hkk; rwa [nI_eq (by omega) (by omega), eq_comm] at hkk
        subst this
        rw [k2 11 (by omega), k2 12 (by omega), q3 11 (by omega) (by omega), q3 12 (by omega) (by omega)]
        refine ⟨p1, fun i hi => ?_⟩
        rw [p2 i hi, z3 10 (by omega) (by omega), y3 10 (by omega) (by omega), x3 10 (by omega) (by omega)]
      · intro kk _ hkk
        have : kk = kq := by rw [b2] at hkk; rwa [nI_eq (by omega) (by omega), eq_comm] at hkk
        subst this
        rw [k2 15 (by omega), k2 16 (by omega)]
        refine ⟨q1, fun i hi => ?_⟩
        rw [q2 i hi, p3 14 (by omega) (by omega), z3 14 (by omega) (by omega), y3 14 (by omega) (by omega), x3 14 (by omega) (by omega)]
      · intro kk _ hkk
        have : kk = k0 := by rw [c2] at hkk; rwa [nI_eq (by omega) (by omega), eq_comm] at hkk
        subst this
        rw [k2 61 (by omega), k2 62 (by omega), q3 61 (by omega) (by omega), q3 62 (by omega) (by omega), p3 61 (by omega) (by omega), p3 62 (by omega) (by omega), z3 61 (by omega) (by omega), z3 62 (by omega) (by omega)]
        refine ⟨y1, fun i hi => ?_⟩
        rw [y2 i hi, x3 33 (by omega) (by omega)]
      · intro kk _ hkk
        have : kk = k1 := by rw [d2] at hkk; rwa [nI_eq (by omega) (by omega), eq_comm] at hkk
        subst this
        rw [k2 64 (by omega), k2 65 (by omega), q3 64 (by omega) (by omega), q3 65 (by omega) (by omega), p3 64 (by omega) (by omega), p3 65 (by omega) (by omega)]
        refine ⟨z1, fun i hi => ?_⟩
        rw [z2 i hi, y3 36 (by omega) (by omega), x3 36 (by omega) (by omega)]
      · intro j hj
        show (if j < 450 then σ 86 j else _) = σ 86 j
        rw [if_pos hj]
theorem m_restore : ok2 rR f_X11_restore f_X12_restore := by
  intro σ h
  by_cases h0 : σ 8 11 = 0
  · refine er2 h 2 (by omega) ?_ (fun τ hτ => ?_)
    · unfold f_X11_restore
      rw [if_pos h0, bie]; rfl
    · unfold f_X12_restore
      rw [hτ 85 (by omega), ← h.2.2.2.2.1, if_pos h0, bie]; rfl
  · have hI : rI σ 60 66 11 15 61 64 (σ 87) := by
      rcases h.2.2.2.2.2 with q | q
      · exact absurd q h0
      · exact q
    obtain ⟨kp, a1, a2, _⟩ := hI.2.2.1
    obtain ⟨kq, b1, b2, _⟩ := hI.2.2.2.1
    obtain ⟨k0, _, c1, c2, _⟩ := hI.2.2.2.2.1
    obtain ⟨k1, _, d1, d2, _⟩ := hI.2.2.2.2.2
    obtain ⟨t1, f1, x1, x2, x3⟩ := cW_38_60 σ
    obtain ⟨t2, f2, y1, y2, y3⟩ := cP_32_61 (σ := t1) c1 (by rw [x3 61 (by omega) (by omega)]; exact c2)
    obtain ⟨t3, f3, z1, z2, z3⟩ := cP_35_64 (σ := t2) d1 (by rw [y3 64 (by omega) (by omega), x3 64 (by omega) (by omega)]; exact d2)
    obtain ⟨t4, f4, p1, p2, p3⟩ := cP_9_11 (σ := t3) a1 (by rw [z3 11 (by omega) (by omega), y3 11 (by omega) (by omega), x3 11 (by omega) (by omega)]; exact a2)
    obtain ⟨t5, f5, q1, q2, q3⟩ := cP_13_15 (σ := t4) b1 (by rw [p3 15 (by omega) (by omega), z3 15 (by omega) (by omega), y3 15 (by omega) (by omega), x3 15 (by omega) (by omega)]; exact b2)
    have e : ∀ c, (c < 38 ∨ 48 < c) ∧ c ≠ 32 ∧ c ≠ 33 ∧ c ≠ 35 ∧ c ≠ 36 ∧ c ≠ 9 ∧ c ≠ 10 ∧ c ≠ 13 ∧ c ≠ 14 → t5 c = σ c := fun c hc => by
      rw [q3 c (by omega) (by omega), p3 c (by omega) (by omega), z3 c (by omega) (by omega), y3 c (by omega) (by omega), x3 c (by omega) (by omega)]
    have e38 : t5 38 = t1 38 := by rw [q3 38 (by omega) (by omega), p3 38 (by omega) (by omega), z3 38 (by omega) (by omega), y3 38 (by omega) (by omega)]
    have hd : t5 38 3 = σ 87 0 := by
      obtain ⟨u, g1, g2, g3⟩ := hI.1
      rw [e38, show t1 38 3 = σ 60 3 from x1 0 3 v3, d0_3 g3]
      exact g2 0 3 v3
    refine ⟨t5 38 3, t5, ab_r t5 86 (fun j => if j < 450 then t5 87 j else t5 86 j), ?_, ?_, ?_⟩
    · unfold f_X11_restore f_X9_copyTexts_38_60
      rw [if_neg h0]
      simp only [f1, bi, f2, f3, f4, f5]
    · unfold f_X12_restore
      rw [e 85 (by omega), ← h.2.2.2.2.1, if_neg h0, k_copyAll_87_86, bi, ab_r_same]
      simp only [Nat.reduceLT, ↓reduceIte]
      rw [hd, e 87 (by omega)]
    · obtain ⟨g1, g2, g3, g4, g5, g6⟩ := h
      have k : ∀ c, (c < 38 ∨ 48 < c) ∧ c ≠ 32 ∧ c ≠ 33 ∧ c ≠ 35 ∧ c ≠ 36 ∧ c ≠ 9 ∧ c ≠ 10 ∧ c ≠ 13 ∧ c ≠ 14 ∧ c ≠ 86 → (ab_r t5 86 (fun j => if j < 450 then t5 87 j else t5 86 j)) c = σ c := fun c hc => by
        rw [ab_r_ne _ _ (by omega), e c (by omega)]
      have k2 : ∀ c, c ≠ 86 → (ab_r t5 86 (fun j => if j < 450 then t5 87 j else t5 86 j)) c = t5 c := fun c hc => ab_r_ne _ _ hc
      refine ⟨?_, ?_, ?_, ?_, ?_, Or.inr ?_⟩
      · rw [ab_r_same]
        refine rI_cp hI ?_ ?_ ?_ ?_ ?_ ?_ ?_
        · intro r j hj
          have hr : r ≤ 10 := by rcases hj with q | q | q | q <;> omega
          rw [k2 _ (by split <;> omega), ← x1 r j hj, q3 _ (by split <;> omega) (by split <;> omega), p3 _ (by split <;> omega) (by split <;> omega), z3 _ (by split <;> omega) (by split <;> omega), y3 _ (by split <;> omega) (by split <;> omega)]
        · rw [k2 _ (by omega), e38, x2]
        · intro kk _ hkk
          have : kk = kp := by rw [a2] at hkk; rwa [nI_eq (by omega) (by omega), eq_comm] at hkk
          subst this
          rw [k2 9 (by omega), k2 10 (by omega), q3 9 (by omega) (by omega), q3 10 (by omega) (by omega)]
          refine ⟨p1, fun i hi => ?_⟩
          rw [p2 i hi, z3 12 (by omega) (by omega), y3 12 (by omega) (by omega), x3 12 (by omega) (by omega)]
        · intro kk _ hkk
          have : kk = kq := by rw [b2] at hkk; rwa [nI_eq (by omega) (by omega), eq_comm] at hkk
          subst this
          rw [k2 13 (by omega), k2 14 (by omega)]
          refine ⟨q1, fun i hi => ?_⟩
          rw [q2 i hi, p3 16 (by omega) (by omega), z3 16 (by omega) (by omega), y3 16 (by omega) (by omega), x3 16 (by omega) (by omega)]
        · intro kk _ hkk
          have : kk = k0 := by rw [c2] at hkk; rwa [nI_eq (by omega) (by omega), eq_comm] at hkk
          subst this
          rw [k2 32 (by omega), k2 33 (by omega), q3 32 (by omega) (by omega), q3 33 (by omega) (by omega), p3 32 (by omega) (by omega), p3 33 (by omega) (by omega), z3 32 (by omega) (by omega), z3 33 (by omega) (by omega)]
          refine ⟨y1, fun i hi => ?_⟩
          rw [y2 i hi, x3 62 (by omega) (by omega)]
        · intro kk _ hkk
          have : kk = k1 := by rw [d2] at hkk; rwa [nI_eq (by omega) (by omega), eq_comm] at hkk
          subst this
          rw [k2 35 (by omega), k2 36 (by omega), q3 35 (by omega) (by omega), q3 36 (by omega) (by omega), p3 35 (by omega) (by omega), p3 36 (by omega) (by omega)]
          refine ⟨z1, fun i hi => ?_⟩
          rw [z2 i hi, y3 65 (by omega) (by omega), x3 65 (by omega) (by omega)]
        · intro j hj
          show (if j < 450 then t5 87 j else _) = σ 87 j
          rw [if_pos hj, e 87 (by omega)]
      · intro j hj; rw [k 23 (by omega), k 89 (by omega)]; exact g2 j hj
      · intro j hj
        have := g3 j hj
        rw [k (77 + 2 * j) (by omega), k (78 + 2 * j) (by omega), k 94 (by omega), k 95 (by omega), k 96 (by omega)]
        exact this
      · rw [k 21 (by omega), k 22 (by omega), k 93 (by omega), k 85 (by omega)]; exact g4
      · rw [k 8 (by omega), k 85 (by omega), g5]
      · rw [k 87 (by omega)]
        exact rI_to hI (k _ (by omega)) (fun r hr => k _ (by omega)) (k _ (by omega)) (k _ (by omega)) (k _ (by omega)) (k _ (by omega)) (k _ (by omega)) (k _ (by omega)) (k _ (by omega)) (k _ (by omega))
