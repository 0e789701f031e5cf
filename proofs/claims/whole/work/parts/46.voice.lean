/-! VOICES -/
theorem rR_v {σ τ : ab_F} (h : rR σ) (h1 : ∀ c, ¬ scr c → c ≠ 21 → c ≠ 22 → c ≠ 85 → c ≠ 93 → c ≠ 23 → c ≠ 89 → τ c = σ c) (h2 : ∀ j, j < 7 → τ 23 j = τ 89 j) (h3 : rP 30 okA (τ 21 4) (τ 22) (τ 85 12) (τ 93)) (h4 : τ 85 3 = σ 85 3) : rR τ := by
  obtain ⟨g1, g2, g3, g4, g5, g6⟩ := h
  have k : ∀ c, (¬ (c = 17 ∨ c = 18 ∨ c = 19 ∨ c = 34 ∨ c = 37 ∨ (49 ≤ c ∧ c ≤ 59) ∨ c = 88 ∨ c = 90 ∨ c = 91 ∨ c = 92 ∨ c = 97) ∧ c ≠ 21 ∧ c ≠ 22 ∧ c ≠ 85 ∧ c ≠ 93 ∧ c ≠ 23 ∧ c ≠ 89) → τ c = σ c := fun c q => h1 c q.1 q.2.1 q.2.2.1 q.2.2.2.1 q.2.2.2.2.1 q.2.2.2.2.2.1 q.2.2.2.2.2.2
  refine ⟨?_, h2, ?_, h3, by rw [k 8 (by omega), h4]; exact g5, ?_⟩
  · rw [k 86 (by omega)]
    exact rI_to g1 (k _ (by omega)) (fun r hr => k _ (by omega)) (k _ (by omega)) (k _ (by omega)) (k _ (by omega)) (k _ (by omega)) (k _ (by omega)) (k _ (by omega)) (k _ (by omega)) (k _ (by omega))
  · intro j hj
    have := g3 j hj
    rw [k (77 + 2 * j) (by omega), k (78 + 2 * j) (by omega), k 94 (by omega), k 95 (by omega), k 96 (by omega)]
    exact this
  · rw [k 8 (by omega), k 87 (by omega)]
    rcases g6 with g6 | g6
    · exact Or.inl g6
    · exact Or.inr (rI_to g6 (k _ (by omega)) (fun r hr => k _ (by omega)) (k _ (by omega)) (k _ (by omega)) (k _ (by omega)) (k _ (by omega)) (k _ (by omega)) (k _ (by omega)) (k _ (by omega)) (k _ (by omega)))
/-- the class's voice and the model's, as far as they have come -/
def vr (u : Nat → Nat → Nat) (k : Nat) (x0 y0 x y : ab_F) : Prop := x 21 0 = nI k ∧ x 21 1 = nI (u 7 k) ∧ y 85 14 = nI k ∧ x 21 2 = y 85 15 ∧ rP 30 okA (x 21 4) (x 22) (y 85 12) (y 93) ∧ (∀ c, c ≠ 21 → c ≠ 22 → x c = x0 c) ∧ (∀ c, c ≠ 85 → c ≠ 93 → y c = y0 c) ∧ y 85 3 = y0 85 3
def vS (u : Nat → Nat → Nat) (k : Nat) (x0 y0 : ab_F) (F G : ab_F → Option (Int32 × ab_F)) : Prop := ∀ x y, vr u k x0 y0 x y → ∃ (a : Int32) (x2 y2 : ab_F), F x = some (a, x2) ∧ G y = some (a, y2) ∧ vr u k x0 y0 x2 y2
theorem v_b {u : Nat → Nat → Nat} {k : Nat} {x0 y0 x y : ab_F} (b : Int32) (h : vr u k x0 y0 x y) : ∃ x2 y2 : ab_F, f_X8_begins b x = some x2 ∧ f_X12_begins b y = some y2 ∧ vr u k x0 y0 x2 y2 := by
  have h0 := h
  obtain ⟨h1, h2, h3, h4, ⟨t, ht, e1, e2, e3⟩, h6, h7, h8⟩ := h
  by_cases q : t = 30
  · subst q
    refine ⟨x, y, ?_, ?_, h0⟩
    · unfold f_X8_begins
      rw [e1, if_pos (show (30 : Int32) ≤ nI 30 from nI_le (a := 30) (by omega) (by omega))]
    · unfold f_X12_begins
      rw [e2, if_pos (show (30 : Int32) ≤ nI 30 from nI_le (a := 30) (by omega) (by omega))]
  · refine ⟨ab_u (ab_u x 22 t b) 21 4 (nI (t + 1)), ab_u (ab_u y 93 t b) 85 12 (nI (t + 1)), ?_, ?_, ?_⟩
    · unfold f_X8_begins
      rw [e1, if_neg (show ¬ (30 : Int32) ≤ nI t from nI_ge (b := 30) (by omega) (by omega)), ib_n (by omega) (by omega), ck_t, lt_d, lt_d, cl_n (by omega), ab_u_ne _ _ _ (by omega : 21 ≠ 22), e1, nI_1]
    · unfold f_X12_begins
      rw [e2, if_neg (show ¬ (30 : Int32) ≤ nI t from nI_ge (b := 30) (by omega) (by omega)), ib_n (by omega) (by omega), ck_t, lt_d, lt_d, cl_n (by omega), ab_u_ne _ _ _ (by omega : 85 ≠ 93), e2, nI_1]
    · refine ⟨?_, ?_, ?_, ?_, ⟨t + 1, by omega, u_rk _ _ _ _, u_rk _ _ _ _, fun i hi => ⟨?_, trivial⟩⟩, fun c c1 c2 => by rw [ab_u_ne _ _ _ c1, ab_u_ne _ _ _ c2]; exact h6 c c1 c2, fun c c1 c2 => by rw [ab_u_ne _ _ _ c1, ab_u_ne _ _ _ c2]; exact h7 c c1 c2, ?_⟩
      · rw [u_rd _ _ _ _ _ (by omega), ab_u_ne _ _ _ (by omega)]; exact h1
      · rw [u_rd _ _ _ _ _ (by omega), ab_u_ne _ _ _ (by omega)]; exact h2
      · rw [u_rd _ _ _ _ _ (by omega), ab_u_ne _ _ _ (by omega)]; exact h3
      · rw [u_rd _ _ _ _ _ (by omega), ab_u_ne _ _ _ (by omega), u_rd _ _ _ _ _ (by omega), ab_u_ne _ _ _ (by omega)]; exact h4
      · rw [ab_u_ne _ _ _ (by omega : 22 ≠ 21), ab_u_ne _ _ _ (by omega : 93 ≠ 85)]
        by_cases q2 : i = t
        · subst q2; rw [u_rk, u_rk]
        · rw [u_rd _ _ _ _ _ q2, u_rd _ _ _ _ _ q2]; exact (e3 i (by omega)).1
      · rw [u_rd _ _ _ _ _ (by omega), ab_u_ne _ _ _ (by omega)]; exact h8
theorem v_0 {u : Nat → Nat → Nat} {k : Nat} {x0 y0 : ab_F} (b : Int32) {C D : ab_F → Option (Int32 × ab_F)} (h : vS u k x0 y0 C D) : vS u k x0 y0 (fun x => (f_X8_begins b x).bind C) (fun y => (f_X12_begins b y).bind D) := by
  intro x y hr
  obtain ⟨x1, y1, e1, e2, e3⟩ := v_b b hr
  obtain ⟨a, x2, y2, g1, g2, g3⟩ := h x1 y1 e3
  exact ⟨a, x2, y2, by show (f_X8_begins b x).bind C = _; rw [e1, bi]; exact g1, by show (f_X12_begins b y).bind D = _; rw [e2, bi]; exact g2, g3⟩
theorem v_1 {u : Nat → Nat → Nat} {k : Nat} {x0 y0 : ab_F} {F G : ab_F → Option (Int32 × ab_F)} {C D : Int32 → ab_F → Option (Int32 × ab_F)} (h : vS u k x0 y0 F G) (h2 : ∀ v, vS u k x0 y0 (C v) (D v)) : vS u k x0 y0 (fun x => (F x).bind (fun q2 => C q2.1 q2.2)) (fun y => (G y).bind (fun q2 => D q2.1 q2.2)) := by
  intro x y hr
  obtain ⟨v, x1, y1, e1, e2, e3⟩ := h x y hr
  obtain ⟨a, x2, y2, g1, g2, g3⟩ := h2 v x1 y1 e3
  exact ⟨a, x2, y2, by show (F x).bind _ = _; rw [e1, bi]; exact g1, by show (G y).bind _ = _; rw [e2, bi]; exact g2, g3⟩
/-- nothing but the answer is reckoned -/
theorem v_r {u : Nat → Nat → Nat} {k : Nat} {x0 y0 : ab_F} (φ : Int32) : vS u k x0 y0 (fun x => some (φ, x)) (fun y => some (φ, y)) := fun x y hr => ⟨φ, x, y, rfl, rfl, hr⟩
theorem v_kind {u : Nat → Nat → Nat} {k : Nat} {x0 y0 x y : ab_F} (hM : rM u (y0 86)) (hk : k < 8) (h : vr u k x0 y0 x y) : f_X12_kindNow y = some (nI (u 6 k)) := by
  unfold f_X12_kindNow
  rw [h.2.2.1, show f_X12_its (nI k) 0 y = some (nI (u 6 k)) from its_n (by rw [h.2.2.2.2.2.2.1 86 (by omega) (by omega)]; exact hM) k 0 hk (by omega), bi]
theorem v_m {u : Nat → Nat → Nat} {k : Nat} {x0 y0 x y : ab_F} (hM : rM u (y0 86)) (hk : k < 8) (h : vr u k x0 y0 x y) : f_X12_mNow y = some (nI (u 7 k)) := by
  unfold f_X12_mNow
  rw [h.2.2.1, show f_X12_its (nI k) 1 y = some (nI (u 7 k)) from its_n (by rw [h.2.2.2.2.2.2.1 86 (by omega) (by omega)]; exact hM) k 1 hk (by omega), bi]
theorem ab_v1 (σ : ab_F) : f_X12_above (nI 1) σ = some (nI 0) := rfl
theorem ab_l1 (σ : ab_F) : f_X12_above (1 : Int32) σ = some (nI 0) := rfl
theorem ab_v2 (σ : ab_F) : f_X12_above (nI 2) σ = some (nI 0) := rfl
theorem ab_l2 (σ : ab_F) : f_X12_above (2 : Int32) σ = some (nI 0) := rfl
theorem ab_v3 (σ : ab_F) : f_X12_above (nI 3) σ = some (nI 0) := rfl
theorem ab_l3 (σ : ab_F) : f_X12_above (3 : Int32) σ = some (nI 0) := rfl
theorem ab_v4 (σ : ab_F) : f_X12_above (nI 4) σ = some (nI 1) := rfl
theorem ab_l4 (σ : ab_F) : f_X12_above (4 : Int32) σ = some (nI 1) := rfl
theorem ab_v5 (σ : ab_F) : f_X12_above (nI 5) σ = some (nI 2) := rfl
theorem ab_l5 (σ : ab_F) : f_X12_above (5 : Int32) σ = some (nI 2) := rfl
theorem ab_v6 (σ : ab_F) : f_X12_above (nI 6) σ = some (nI 0) := rfl
theorem ab_l6 (σ : ab_F) : f_X12_above (6 : Int32) σ = some (nI 0) := rfl
theorem ef_GC_2 (n : Nat) (a : Int32) (y : ab_F) : f_GC (n + 1) 0 (nI 2) a y = f_GC n 0 (nI 0) a y := by
  rw [f_GC, g_X12_wadesAs, if_neg (show ¬ nI 2 = (0 : Int32) by decide), if_neg (show ¬ nI 2 = (1 : Int32) by decide), if_pos (show nI 2 = (2 : Int32) from rfl), ab_v2, bi, bie]
theorem ef_GC_3 (n : Nat) (a : Int32) (y : ab_F) : f_GC (n + 1) 0 (nI 3) a y = f_GC n 0 (nI 0) a y := by
  rw [f_GC, g_X12_wadesAs, if_neg (show ¬ nI 3 = (0 : Int32) by decide), if_neg (show ¬ nI 3 = (1 : Int32) by decide), if_neg (show ¬ nI 3 = (2 : Int32) by decide), if_pos (show nI 3 = (3 : Int32) from rfl), ab_v3, bi, bie]
theorem ef_GC_5 (n : Nat) (a : Int32) (y : ab_F) : f_GC (n + 1) 0 (nI 5) a y = f_GC n 0 (nI 2) a y := by
  rw [f_GC, g_X12_wadesAs, if_neg (show ¬ nI 5 = (0 : Int32) by decide), if_neg (show ¬ nI 5 = (1 : Int32) by decide), if_neg (show ¬ nI 5 = (2 : Int32) by decide), if_neg (show ¬ nI 5 = (3 : Int32) by decide), if_neg (show ¬ nI 5 = (4 : Int32) by decide), if_pos (show nI 5 = (5 : Int32) from rfl), ab_v5, bi, bie]
theorem ef_GD_1 (n : Nat) (a : Int32) (y : ab_F) : f_GD (n + 1) 0 (nI 1) a y = f_GD n 0 (nI 0) a y := by
  rw [f_GD, g_X12_knowsAs, if_neg (show ¬ nI 1 = (0 : Int32) by decide), if_pos (show nI 1 = (1 : Int32) from rfl), ab_v1, bi, bie]
theorem ef_GD_3 (n : Nat) (a : Int32) (y : ab_F) : f_GD (n + 1) 0 (nI 3) a y = f_GD n 0 (nI 0) a y := by
  rw [f_GD, g_X12_knowsAs, if_neg (show ¬ nI 3 = (0 : Int32) by decide), if_neg (show ¬ nI 3 = (1 : Int32) by decide), if_neg (show ¬ nI 3 = (2 : Int32) by decide), if_pos (show nI 3 = (3 : Int32) from rfl), ab_v3, bi, bie]
theorem ef_GD_4 (n : Nat) (a : Int32) (y : ab_F) : f_GD (n + 1) 0 (nI 4) a y = f_GD n 0 (nI 1) a y := by
  rw [f_GD, g_X12_knowsAs, if_neg (show ¬ nI 4 = (0 : Int32) by decide), if_neg (show ¬ nI 4 = (1 : Int32) by decide), if_neg (show ¬ nI 4 = (2 : Int32) by decide), if_neg (show ¬ nI 4 = (3 : Int32) by decide), if_pos (show nI 4 = (4 : Int32) from rfl), ab_v4, bi, bie]
theorem ef_GE_1 (n : Nat) (a : Int32) (y : ab_F) : f_GE (n + 1) 0 (nI 1) a y = f_GE n 0 (nI 0) a y := by
  rw [f_GE, g_X12_sitsAs, if_neg (show ¬ nI 1 = (0 : Int32) by decide), if_pos (show nI 1 = (1 : Int32) from rfl), ab_v1, bi, bie]
theorem ef_GE_2 (n : Nat) (a : Int32) (y : ab_F) : f_GE (n + 1) 0 (nI 2) a y = f_GE n 0 (nI 0) a y := by
  rw [f_GE, g_X12_sitsAs, if_neg (show ¬ nI 2 = (0 : Int32) by decide), if_neg (show ¬ nI 2 = (1 : Int32) by decide), if_pos (show nI 2 = (2 : Int32) from rfl), ab_v2, bi, bie]
theorem ef_GE_5 (n : Nat) (a : Int32) (y : ab_F) : f_GE (n + 1) 0 (nI 5) a y = f_GE n 0 (nI 2) a y := by
  rw [f_GE, g_X12_sitsAs, if_neg (show ¬ nI 5 = (0 : Int32) by decide), if_neg (show ¬ nI 5 = (1 : Int32) by decide), if_neg (show ¬ nI 5 = (2 : Int32) by decide), if_neg (show ¬ nI 5 = (3 : Int32) by decide), if_neg (show ¬ nI 5 = (4 : Int32) by decide), ab_v5, bi, bie]
theorem ef_GE_6 (n : Nat) (a : Int32) (y : ab_F) : f_GE (n + 1) 0 (nI 6) a y = f_GE n 0 (nI 0) a y := by
  rw [f_GE, g_X12_sitsAs, if_neg (show ¬ nI 6 = (0 : Int32) by decide), if_neg (show ¬ nI 6 = (1 : Int32) by decide), if_neg (show ¬ nI 6 = (2 : Int32) by decide), if_neg (show ¬ nI 6 = (3 : Int32) by decide), if_neg (show ¬ nI 6 = (4 : Int32) by decide), ab_v6, bi, bie]
theorem ef_GF_2 (n : Nat) (a : Int32) (y : ab_F) : f_GF (n + 1) 0 (nI 2) a y = f_GF n 0 (nI 0) a y := by
  rw [f_GF, g_X12_partsAs, if_neg (show ¬ nI 2 = (0 : Int32) by decide), if_neg (show ¬ nI 2 = (1 : Int32) by decide), ab_v2, bi, bie]
theorem ef_GF_3 (n : Nat) (a : Int32) (y : ab_F) : f_GF (n + 1) 0 (nI 3) a y = f_GF n 0 (nI 0) a y := by
  rw [f_GF, g_X12_partsAs, if_neg (show ¬ nI 3 = (0 : Int32) by decide), if_neg (show ¬ nI 3 = (1 : Int32) by decide), ab_v3, bi, bie]
theorem ef_GF_4 (n : Nat) (a : Int32) (y : ab_F) : f_GF (n + 1) 0 (nI 4) a y = f_GF n 0 (nI 1) a y := by
  rw [f_GF, g_X12_partsAs, if_neg (show ¬ nI 4 = (0 : Int32) by decide), if_neg (show ¬ nI 4 = (1 : Int32) by decide), ab_v4, bi, bie]
theorem ef_GF_5 (n : Nat) (a : Int32) (y : ab_F) : f_GF (n + 1) 0 (nI 5) a y = f_GF n 0 (nI 2) a y := by
  rw [f_GF, g_X12_partsAs, if_neg (show ¬ nI 5 = (0 : Int32) by decide), if_neg (show ¬ nI 5 = (1 : Int32) by decide), ab_v5, bi, bie]
theorem ef_GF_6 (n : Nat) (a : Int32) (y : ab_F) : f_GF (n + 1) 0 (nI 6) a y = f_GF n 0 (nI 0) a y := by
  rw [f_GF, g_X12_partsAs, if_neg (show ¬ nI 6 = (0 : Int32) by decide), if_neg (show ¬ nI 6 = (1 : Int32) by decide), ab_v6, bi, bie]
theorem ef_GC_1 (n : Nat) (a : Int32) (y : ab_F) : f_GC (n + 1) 0 (nI 1) a y = (f_X12_begins (20 : Int32) y).bind (fun q4 => (f_GC n 0 (nI 0) a q4).bind (fun q6 => some ((q6.1 - (4 : Int32)), q6.2))) := by
  rw [f_GC, g_X12_wadesAs, if_neg (show ¬ nI 1 = (0 : Int32) by decide), if_pos (show nI 1 = (1 : Int32) from rfl)]
  simp only [ab_l1, bi]
theorem ef_GC_4 (n : Nat) (a : Int32) (y : ab_F) : f_GC (n + 1) 0 (nI 4) a y = (f_X12_begins (50 : Int32) y).bind (fun q4 => (f_GC n 0 (nI 1) a q4).bind (fun q6 => some ((q6.1 * (3 : Int32)), q6.2))) := by
  rw [f_GC, g_X12_wadesAs, if_neg (show ¬ nI 4 = (0 : Int32) by decide), if_neg (show ¬ nI 4 = (1 : Int32) by decide), if_neg (show ¬ nI 4 = (2 : Int32) by decide), if_neg (show ¬ nI 4 = (3 : Int32) by decide), if_pos (show nI 4 = (4 : Int32) from rfl)]
  simp only [ab_l4, bi]
theorem ef_GD_2 (n : Nat) (a : Int32) (y : ab_F) : f_GD (n + 1) 0 (nI 2) a y = (f_X12_begins (30 : Int32) y).bind (fun q4 => (f_GD n 0 (nI 0) a q4).bind (fun q6 => some (((0 : Int32) - q6.1), q6.2))) := by
  rw [f_GD, g_X12_knowsAs, if_neg (show ¬ nI 2 = (0 : Int32) by decide), if_neg (show ¬ nI 2 = (1 : Int32) by decide), if_pos (show nI 2 = (2 : Int32) from rfl)]
  simp only [ab_l2, bi]
theorem ef_GD_5 (n : Nat) (a : Int32) (y : ab_F) : f_GD (n + 1) 0 (nI 5) a y = (f_X12_begins (60 : Int32) y).bind (fun q4 => (f_GD n 0 (nI 2) (a + (1 : Int32)) q4).bind (fun q6 => some (q6.1, q6.2))) := by
  rw [f_GD, g_X12_knowsAs, if_neg (show ¬ nI 5 = (0 : Int32) by decide), if_neg (show ¬ nI 5 = (1 : Int32) by decide), if_neg (show ¬ nI 5 = (2 : Int32) by decide), if_neg (show ¬ nI 5 = (3 : Int32) by decide), if_neg (show ¬ nI 5 = (4 : Int32) by decide), if_pos (show nI 5 = (5 : Int32) from rfl)]
  simp only [ab_l5, bi]
theorem ef_GD_6 (n : Nat) (a : Int32) (y : ab_F) : f_GD (n + 1) 0 (nI 6) a y = (f_X12_begins (71 : Int32) y).bind (fun q4 => (f_GD n 0 (nI 0) a q4).bind (fun q6 => (f_X12_mNow q6.2).bind (fun q26 => some ((q6.1 + q26), q6.2)))) := by
  rw [f_GD, g_X12_knowsAs, if_neg (show ¬ nI 6 = (0 : Int32) by decide), if_neg (show ¬ nI 6 = (1 : Int32) by decide), if_neg (show ¬ nI 6 = (2 : Int32) by decide), if_neg (show ¬ nI 6 = (3 : Int32) by decide), if_neg (show ¬ nI 6 = (4 : Int32) by decide), if_neg (show ¬ nI 6 = (5 : Int32) by decide), if_pos (show nI 6 = (6 : Int32) from rfl)]
  simp only [ab_l6, bi]
theorem ef_GE_3 (n : Nat) (a : Int32) (y : ab_F) : f_GE (n + 1) 0 (nI 3) a y = (f_X12_begins (40 : Int32) y).bind (fun q4 => (f_GE n 0 (nI 0) (a / (2 : Int32)) q4).bind (fun q6 => some (q6.1, q6.2))) := by
  rw [f_GE, g_X12_sitsAs, if_neg (show ¬ nI 3 = (0 : Int32) by decide), if_neg (show ¬ nI 3 = (1 : Int32) by decide), if_neg (show ¬ nI 3 = (2 : Int32) by decide), if_pos (show nI 3 = (3 : Int32) from rfl)]
  simp only [ab_l3, bi]
theorem ef_GE_4 (n : Nat) (a : Int32) (y : ab_F) : f_GE (n + 1) 0 (nI 4) a y = (f_X12_begins (51 : Int32) y).bind (fun q4 => (f_GE n 0 (nI 1) a q4).bind (fun q6 => some ((q6.1 ^^^ (q6.2 85 14)), q6.2))) := by
  rw [f_GE, g_X12_sitsAs, if_neg (show ¬ nI 4 = (0 : Int32) by decide), if_neg (show ¬ nI 4 = (1 : Int32) by decide), if_neg (show ¬ nI 4 = (2 : Int32) by decide), if_neg (show ¬ nI 4 = (3 : Int32) by decide), if_pos (show nI 4 = (4 : Int32) from rfl)]
  simp only [ab_l4, bi]
theorem ef_GF_1 (n : Nat) (a : Int32) (y : ab_F) : f_GF (n + 1) 0 (nI 1) a y = (f_X12_begins (21 : Int32) y).bind (fun q4 => (f_GF n 0 (nI 0) a q4).bind (fun q6 => ab_lt (q6.1) (fun x18 => (if (q6.2 85 15) = 0 then (f_X12_kindNow q6.2).bind (fun q20 => (f_GD 10 0 q20 (1 : Int32) q6.2).bind (fun q21 => (some ((x18 + q21.1), q21.2)))) else (some ((0 : Int32), q6.2)))))) := by
  rw [f_GF, g_X12_partsAs, if_neg (show ¬ nI 1 = (0 : Int32) by decide), if_pos (show nI 1 = (1 : Int32) from rfl)]
  simp only [ab_l1, bi]
theorem vw_0 {u : Nat → Nat → Nat} {k : Nat} {x0 y0 : ab_F} (n : Nat) (a : Int32) : vS u k x0 y0 (f_X2_wades_25 a) (f_GC (n + 1) 0 (nI 0) a) := by
  intro x y hr
  obtain ⟨v, x2, y2, e1, e2, e3⟩ := v_0 (C := fun q1 => some (a + q1 21 0, q1)) (D := fun q1 => some (a + q1 85 14, q1)) 10 (fun x y hr => ⟨_, x, y, rfl, by show some (a + y 85 14, y) = some (a + x 21 0, y); rw [hr.1, hr.2.2.1], hr⟩) x y hr
  exact ⟨v, x2, y2, e1, by rw [f_GC, g_X12_wadesAs, if_pos (show nI 0 = (0 : Int32) from rfl)]; exact e2, e3⟩
theorem vw_1 {u : Nat → Nat → Nat} {k : Nat} {x0 y0 : ab_F} (n : Nat) (a : Int32) : vS u k x0 y0 (f_X5_wades_26 a) (f_GC (n + 2) 0 (nI 1) a) := by
  intro x y hr
  obtain ⟨v, x2, y2, e1, e2, e3⟩ := v_0 20 (v_1 (vw_0 n a) (fun v => v_r (v - (4 : Int32)))) x y hr
  exact ⟨v, x2, y2, e1, by rw [ef_GC_1]; exact e2, e3⟩
theorem vw_4 {u : Nat → Nat → Nat} {k : Nat} {x0 y0 : ab_F} (n : Nat) (a : Int32) : vS u k x0 y0 (f_X1_wades_29 a) (f_GC (n + 3) 0 (nI 4) a) := by
  intro x y hr
  obtain ⟨v, x2, y2, e1, e2, e3⟩ := v_0 50 (v_1 (vw_1 n a) (fun v => v_r (v * (3 : Int32)))) x y hr
  exact ⟨v, x2, y2, e1, by rw [ef_GC_4]; exact e2, e3⟩
theorem vw_6 {u : Nat → Nat → Nat} {k : Nat} {x0 y0 : ab_F} (n : Nat) (a : Int32) : vS u k x0 y0 (f_X4_wades_31 a) (f_GC (n + 1) 0 (nI 6) a) := by
  intro x y hr
  obtain ⟨v, x2, y2, e1, e2, e3⟩ := v_0 70 (v_r (9 : Int32)) x y hr
  exact ⟨v, x2, y2, e1, by rw [f_GC, g_X12_wadesAs, if_neg (show ¬ nI 6 = (0 : Int32) by decide), if_neg (show ¬ nI 6 = (1 : Int32) by decide), if_neg (show ¬ nI 6 = (2 : Int32) by decide), if_neg (show ¬ nI 6 = (3 : Int32) by decide), if_neg (show ¬ nI 6 = (4 : Int32) by decide), if_neg (show ¬ nI 6 = (5 : Int32) by decide), if_pos (show nI 6 = (6 : Int32) from rfl)]; exact e2, e3⟩
theorem vw_2 {u : Nat → Nat → Nat} {k : Nat} {x0 y0 : ab_F} (n : Nat) (a : Int32) : vS u k x0 y0 (f_X2_wades_25 a) (f_GC (n + 2) 0 (nI 2) a) := fun x y hr => by rw [ef_GC_2]; exact vw_0 n a x y hr
theorem vw_3 {u : Nat → Nat → Nat} {k : Nat} {x0 y0 : ab_F} (n : Nat) (a : Int32) : vS u k x0 y0 (f_X2_wades_25 a) (f_GC (n + 2) 0 (nI 3) a) := fun x y hr => by rw [ef_GC_3]; exact vw_0 n a x y hr
theorem vw_5 {u : Nat → Nat → Nat} {k : Nat} {x0 y0 : ab_F} (n : Nat) (a : Int32) : vS u k x0 y0 (f_X2_wades_25 a) (f_GC (n + 3) 0 (nI 5) a) := fun x y hr => by rw [ef_GC_5]; exact vw_2 n a x y hr
def kB (W : Int32 → ab_F → Option (Int32 × ab_F)) (a : Int32) (x : ab_F) : Option (Int32 × ab_F) := (f_X8_begins (11 : Int32) x).bind (fun q1 => (W a q1).bind (fun q2 => (some ((q2.1 * (2 : Int32)), q2.2))))
theorem vk_0 {u : Nat → Nat → Nat} {k : Nat} {x0 y0 : ab_F} (hM : rM u (y0 86)) (hk : k < 8) {W : Int32 → ab_F → Option (Int32 × ab_F)} (hW : ∀ a, vS u k x0 y0 (W a) (f_GC 10 0 (nI (u 6 k)) a)) (n : Nat) (a : Int32) : vS u k x0 y0 (kB W a) (f_GD (n + 1) 0 (nI 0) a) := by
  intro x y hr
  obtain ⟨v, x2, y2, e1, e2, e3⟩ := v_0 (C := fun q1 => (W a q1).bind (fun q2 => (some ((q2.1 * (2 : Int32)), q2.2)))) (D := fun q2 => (f_X12_kindNow q2).bind (fun q3 => (f_GC 10 0 q3 a q2).bind (fun q4 => (some ((q4.1 * (2 : Int32)), q4.2))))) 11 (fun x y hr => by
    obtain ⟨v, x2, y2, e1, e2, e3⟩ := v_1 (hW a) (fun v => v_r (v * (2 : Int32))) x y hr
    exact ⟨v, x2, y2, e1, by show (f_X12_kindNow y).bind _ = _; rw [v_kind hM hk hr, bi]; exact e2, e3⟩) x y hr
  exact ⟨v, x2, y2, e1, by rw [f_GD, g_X12_knowsAs, if_pos (show nI 0 = (0 : Int32) from rfl)]; exact e2, e3⟩
theorem vk_1 {u : Nat → Nat → Nat} {k : Nat} {x0 y0 : ab_F} (hM : rM u (y0 86)) (hk : k < 8) {W : Int32 → ab_F → Option (Int32 × ab_F)} (hW : ∀ a, vS u k x0 y0 (W a) (f_GC 10 0 (nI (u 6 k)) a)) (n : Nat) (a : Int32) : vS u k x0 y0 (kB W a) (f_GD (n + 2) 0 (nI 1) a) := fun x y hr => by rw [ef_GD_1]; exact vk_0 hM hk hW n a x y hr
theorem vk_3 {u : Nat → Nat → Nat} {k : Nat} {x0 y0 : ab_F} (hM : rM u (y0 86)) (hk : k < 8) {W : Int32 → ab_F → Option (Int32 × ab_F)} (hW : ∀ a, vS u k x0 y0 (W a) (f_GC 10 0 (nI (u 6 k)) a)) (n : Nat) (a : Int32) : vS u k x0 y0 (kB W a) (f_GD (n + 2) 0 (nI 3) a) := fun x y hr => by rw [ef_GD_3]; exact vk_0 hM hk hW n a x y hr
theorem vk_4 {u : Nat → Nat → Nat} {k : Nat} {x0 y0 : ab_F} (hM : rM u (y0 86)) (hk : k < 8) {W : Int32 → ab_F → Option (Int32 × ab_F)} (hW : ∀ a, vS u k x0 y0 (W a) (f_GC 10 0 (nI (u 6 k)) a)) (n : Nat) (a : Int32) : vS u k x0 y0 (kB W a) (f_GD (n + 3) 0 (nI 4) a) := fun x y hr => by rw [ef_GD_4]; exact vk_1 hM hk hW n a x y hr
def kB2 (W : Int32 → ab_F → Option (Int32 × ab_F)) (a : Int32) (x : ab_F) : Option (Int32 × ab_F) := (f_X8_begins (30 : Int32) x).bind (fun q1 => (kB W a q1).bind (fun q2 => (some (((0 : Int32) - q2.1), q2.2))))
theorem vk_2 {u : Nat → Nat → Nat} {k : Nat} {x0 y0 : ab_F} (hM : rM u (y0 86)) (hk : k < 8) {W : Int32 → ab_F → Option (Int32 × ab_F)} (hW : ∀ a, vS u k x0 y0 (W a) (f_GC 10 0 (nI (u 6 k)) a)) (n : Nat) (a : Int32) : vS u k x0 y0 (kB2 W a) (f_GD (n + 2) 0 (nI 2) a) := by
  intro x y hr
  obtain ⟨v, x2, y2, e1, e2, e3⟩ := v_0 30 (v_1 (vk_0 hM hk hW n a) (fun v => v_r ((0 : Int32) - v))) x y hr
  exact ⟨v, x2, y2, e1, by rw [ef_GD_2]; exact e2, e3⟩
def kB5 (W : Int32 → ab_F → Option (Int32 × ab_F)) (a : Int32) (x : ab_F) : Option (Int32 × ab_F) := (f_X8_begins (60 : Int32) x).bind (fun q1 => (kB2 W (a + (1 : Int32)) q1).bind (fun q2 => (some (q2.1, q2.2))))
theorem vk_5 {u : Nat → Nat → Nat} {k : Nat} {x0 y0 : ab_F} (hM : rM u (y0 86)) (hk : k < 8) {W : Int32 → ab_F → Option (Int32 × ab_F)} (hW : ∀ a, vS u k x0 y0 (W a) (f_GC 10 0 (nI (u 6 k)) a)) (n : Nat) (a : Int32) : vS u k x0 y0 (kB5 W a) (f_GD (n + 3) 0 (nI 5) a) := by
  intro x y hr
  obtain ⟨v, x2, y2, e1, e2, e3⟩ := v_0 60 (v_1 (vk_2 hM hk hW n (a + (1 : Int32))) (fun v => v_r v)) x y hr
  exact ⟨v, x2, y2, e1, by rw [ef_GD_5]; exact e2, e3⟩
def kB6 (W : Int32 → ab_F → Option (Int32 × ab_F)) (a : Int32) (x : ab_F) : Option (Int32 × ab_F) := (f_X8_begins (71 : Int32) x).bind (fun q1 => (kB W a q1).bind (fun q2 => (some ((q2.1 + (q2.2 21 1)), q2.2))))
theorem vk_6 {u : Nat → Nat → Nat} {k : Nat} {x0 y0 : ab_F} (hM : rM u (y0 86)) (hk : k < 8) {W : Int32 → ab_F → Option (Int32 × ab_F)} (hW : ∀ a, vS u k x0 y0 (W a) (f_GC 10 0 (nI (u 6 k)) a)) (n : Nat) (a : Int32) : vS u k x0 y0 (kB6 W a) (f_GD (n + 2) 0 (nI 6) a) := by
  intro x y hr
  obtain ⟨v, x2, y2, e1, e2, e3⟩ := v_0 71 (v_1 (C := fun v x => some (v + x 21 1, x)) (D := fun v y => (f_X12_mNow y).bind (fun q26 => some (v + q26, y))) (vk_0 hM hk hW n a) (fun v x y hr => ⟨_, x, y, rfl, by show (f_X12_mNow y).bind _ = some (v + x 21 1, y); rw [v_m hM hk hr, bi, hr.2.1], hr⟩)) x y hr
  exact ⟨v, x2, y2, e1, by rw [ef_GD_6]; exact e2, e3⟩
def sB (Kf : Int32 → ab_F → Option (Int32 × ab_F)) (a : Int32) (x : ab_F) : Option (Int32 × ab_F) := (f_X8_begins (12 : Int32) x).bind (fun q1 => (Kf a q1).bind (fun q2 => (some ((q2.1 - (q2.2 21 1)), q2.2))))
theorem vs_0 {u : Nat → Nat → Nat} {k : Nat} {x0 y0 : ab_F} (hM : rM u (y0 86)) (hk : k < 8) {Kf : Int32 → ab_F → Option (Int32 × ab_F)} (hK : ∀ a, vS u k x0 y0 (Kf a) (f_GD 10 0 (nI (u 6 k)) a)) (n : Nat) (a : Int32) : vS u k x0 y0 (sB Kf a) (f_GE (n + 1) 0 (nI 0) a) := by
  intro x y hr
  obtain ⟨v, x2, y2, e1, e2, e3⟩ := v_0 (C := fun q1 => (Kf a q1).bind (fun q2 => (some ((q2.1 - (q2.2 21 1)), q2.2)))) (D := fun q2 => (f_X12_kindNow q2).bind (fun q3 => (f_GD 10 0 q3 a q2).bind (fun q4 => (f_X12_mNow q4.2).bind (fun q5 => (some ((q4.1 - q5), q4.2)))))) 12 (fun x y hr => by
    obtain ⟨v, x2, y2, e1, e2, e3⟩ := v_1 (C := fun v x => some (v - x 21 1, x)) (D := fun v y => (f_X12_mNow y).bind (fun q26 => some (v - q26, y))) (hK a) (fun v x y hr => ⟨_, x, y, rfl, by show (f_X12_mNow y).bind _ = some (v - x 21 1, y); rw [v_m hM hk hr, bi, hr.2.1], hr⟩) x y hr
    exact ⟨v, x2, y2, e1, by show (f_X12_kindNow y).bind _ = _; rw [v_kind hM hk hr, bi]; exact e2, e3⟩) x y hr
  exact ⟨v, x2, y2, e1, by rw [f_GE, g_X12_sitsAs, if_pos (show nI 0 = (0 : Int32) from rfl)]; exact e2, e3⟩
theorem vs_1 {u : Nat → Nat → Nat} {k : Nat} {x0 y0 : ab_F} (hM : rM u (y0 86)) (hk : k < 8) {Kf : Int32 → ab_F → Option (Int32 × ab_F)} (hK : ∀ a, vS u k x0 y0 (Kf a) (f_GD 10 0 (nI (u 6 k)) a)) (n : Nat) (a : Int32) : vS u k x0 y0 (sB Kf a) (f_GE (n + 2) 0 (nI 1) a) := fun x y hr => by rw [ef_GE_1]; exact vs_0 hM hk hK n a x y hr
theorem vs_2 {u : Nat → Nat → Nat} {k : Nat} {x0 y0 : ab_F} (hM : rM u (y0 86)) (hk : k < 8) {Kf : Int32 → ab_F → Option (Int32 × ab_F)} (hK : ∀ a, vS u k x0 y0 (Kf a) (f_GD 10 0 (nI (u 6 k)) a)) (n : Nat) (a : Int32) : vS u k x0 y0 (sB Kf a) (f_GE (n + 2) 0 (nI 2) a) := fun x y hr => by rw [ef_GE_2]; exact vs_0 hM hk hK n a x y hr
theorem vs_6 {u : Nat → Nat → Nat} {k : Nat} {x0 y0 : ab_F} (hM : rM u (y0 86)) (hk : k < 8) {Kf : Int32 → ab_F → Option (Int32 × ab_F)} (hK : ∀ a, vS u k x0 y0 (Kf a) (f_GD 10 0 (nI (u 6 k)) a)) (n : Nat) (a : Int32) : vS u k x0 y0 (sB Kf a) (f_GE (n + 2) 0 (nI 6) a) := fun x y hr => by rw [ef_GE_6]; exact vs_0 hM hk hK n a x y hr
theorem vs_5 {u : Nat → Nat → Nat} {k : Nat} {x0 y0 : ab_F} (hM : rM u (y0 86)) (hk : k < 8) {Kf : Int32 → ab_F → Option (Int32 × ab_F)} (hK : ∀ a, vS u k x0 y0 (Kf a) (f_GD 10 0 (nI (u 6 k)) a)) (n : Nat) (a : Int32) : vS u k x0 y0 (sB Kf a) (f_GE (n + 3) 0 (nI 5) a) := fun x y hr => by rw [ef_GE_5]; exact vs_2 hM hk hK n a x y hr
def sB3 (Kf : Int32 → ab_F → Option (Int32 × ab_F)) (a : Int32) (x : ab_F) : Option (Int32 × ab_F) := (f_X8_begins (40 : Int32) x).bind (fun q1 => (sB Kf (a / (2 : Int32)) q1).bind (fun q2 => (some (q2.1, q2.2))))
theorem vs_3 {u : Nat → Nat → Nat} {k : Nat} {x0 y0 : ab_F} (hM : rM u (y0 86)) (hk : k < 8) {Kf : Int32 → ab_F → Option (Int32 × ab_F)} (hK : ∀ a, vS u k x0 y0 (Kf a) (f_GD 10 0 (nI (u 6 k)) a)) (n : Nat) (a : Int32) : vS u k x0 y0 (sB3 Kf a) (f_GE (n + 2) 0 (nI 3) a) := by
  intro x y hr
  obtain ⟨v, x2, y2, e1, e2, e3⟩ := v_0 40 (v_1 (vs_0 hM hk hK n (a / (2 : Int32))) (fun v => v_r v)) x y hr
  exact ⟨v, x2, y2, e1, by rw [ef_GE_3]; exact e2, e3⟩
def sB4 (Kf : Int32 → ab_F → Option (Int32 × ab_F)) (a : Int32) (x : ab_F) : Option (Int32 × ab_F) := (f_X8_begins (51 : Int32) x).bind (fun q1 => (sB Kf a q1).bind (fun q2 => (some ((q2.1 ^^^ (q2.2 21 0)), q2.2))))
theorem vs_4 {u : Nat → Nat → Nat} {k : Nat} {x0 y0 : ab_F} (hM : rM u (y0 86)) (hk : k < 8) {Kf : Int32 → ab_F → Option (Int32 × ab_F)} (hK : ∀ a, vS u k x0 y0 (Kf a) (f_GD 10 0 (nI (u 6 k)) a)) (n : Nat) (a : Int32) : vS u k x0 y0 (sB4 Kf a) (f_GE (n + 3) 0 (nI 4) a) := by
  intro x y hr
  obtain ⟨v, x2, y2, e1, e2, e3⟩ := v_0 51 (v_1 (C := fun v x => some (v ^^^ x 21 0, x)) (D := fun v y => some (v ^^^ y 85 14, y)) (vs_1 hM hk hK n a) (fun v x y hr => ⟨_, x, y, rfl, by show some (v ^^^ y 85 14, y) = some (v ^^^ x 21 0, y); rw [hr.1, hr.2.2.1], hr⟩)) x y hr
  exact ⟨v, x2, y2, e1, by rw [ef_GE_4]; exact e2, e3⟩
