def fls (g l : Nat → Nat) : Nat → Nat → (Nat → Nat) → Nat → Nat
  | 0, _, x => x
  | d + 1, i, x => fls g l d (i + 1) (fl1 g x l i)
def tur (g l : Nat → Nat) : Nat → (Nat → Nat) → Nat → Nat
  | 0, x => x
  | d + 1, x => tur g l d (fls g l 16 0 x)
def ris (u : Nat → Nat → Nat) : Nat → Nat := tur (u 1) (u 3) 4 (updN (u 2) (u 0 4) (min 99 (u 2 (u 0 4) + u 5 (u 0 3 % 6))))
theorem rB_fls {u : Nat → Nat → Nat} {q : Nat} : ∀ d i (x : Nat → Nat), i + d ≤ 16 → rB q (ww u x) → rB q (ww u (fls (u 1) (u 3) d i x)) := by
  intro d
  induction d with
  | zero => intro i x _ h; exact h
  | succ d ih => intro i x hi h; exact ih (i + 1) _ (by omega) (rB_fl1 (by omega) h)
theorem rB_tur {u : Nat → Nat → Nat} {q : Nat} : ∀ d (x : Nat → Nat), rB q (ww u x) → rB q (ww u (tur (u 1) (u 3) d x)) := by
  intro d
  induction d with
  | zero => intro x h; exact h
  | succ d ih => intro x h; exact ih _ (rB_fls 16 0 x (by omega) h)
theorem ww_self (u : Nat → Nat → Nat) : ww u (u 2) = u := by
  funext r
  unfold ww
  by_cases q : r = 2
  · rw [if_pos q, q]
  · rw [if_neg q]
theorem rB_ris {u : Nat → Nat → Nat} {q : Nat} (h : rB q u) : rB q (ww u (ris u)) := by
  unfold ris
  refine rB_tur 4 _ (rB_w (by rw [ww_self]; exact h) (by omega))
/-! the class -/
theorem cL45 {u : Nat → Nat → Nat} {q w : Nat} (p : Int32) : ∀ d i n σ (x : Nat → Nat), i + d = 16 → d < n → wC (ww u x) σ w → rB q (ww u x) → ∃ τ : ab_F, (∀ K, f_X9_waterRises_L45 w p K n (nI i) σ = K τ) ∧ wC (ww u (fls (u 1) (u 3) d i x)) τ w ∧ ∀ a, a ≠ w + 2 → τ a = σ a := by
  intro d
  induction d with
  | zero =>
    intro i n σ x h1 h2 hC hB
    obtain ⟨m, rfl⟩ : ∃ m, n = m + 1 := ⟨n - 1, by omega⟩
    refine ⟨σ, fun K => ?_, hC, fun _ _ => rfl⟩
    rw [f_X9_waterRises_L45]
    simp (disch := omega) only [lit, nI_leI, if_pos]
  | succ d ih =>
    intro i n σ x h1 h2 hC hB
    obtain ⟨m, rfl⟩ : ∃ m, n = m + 1 := ⟨n - 1, by omega⟩
    have hi : i < 16 := by omega
    have b2 := wB_2 hB hi
    have b3 := wB_3 hB hi
    by_cases q1 : x i = 0
    · have e : fl1 (u 1) x (u 3) i = x := by unfold fl1; rw [if_pos q1]
      obtain ⟨τ, t1, t2, t3⟩ := ih (i + 1) m σ x (by omega) (by omega) hC hB
      refine ⟨τ, fun K => ?_, by rw [fls, e]; exact t2, t3⟩
      rw [f_X9_waterRises_L45]
      simp (disch := omega) only [lit, nI_leI, if_neg, if_pos, ib_n, ck_t, cl_n, ww2 hC, lt_d, nI_add]
      exact t1 K
    · by_cases q2 : u 3 i = 0
      · have e : fl1 (u 1) x (u 3) i = fl2 (u 1) x (u 3) i := by unfold fl1; rw [if_neg q1, if_pos q2]
        obtain ⟨τ0, s1, s2, s3⟩ := cFlow hC hB hi q1
        obtain ⟨τ, t1, t2, t3⟩ := ih (i + 1) m τ0 _ (by omega) (by omega) s2 (rB_fl2 hi hB)
        refine ⟨τ, fun K => ?_, by rw [fls, e]; exact t2, fun a ha => by rw [t3 a ha, s3 a ha]⟩
        rw [f_X9_waterRises_L45]
        simp (disch := omega) only [lit, nI_leI, if_neg, if_pos, ib_n, ck_t, cl_n, ww2 hC, ww3 hC, lt_d, nI_add, nI_eq, s1, bi]
        exact t1 K
      · have e : fl1 (u 1) x (u 3) i = x := by unfold fl1; rw [if_neg q1, if_neg q2]
        obtain ⟨τ, t1, t2, t3⟩ := ih (i + 1) m σ x (by omega) (by omega) hC hB
        refine ⟨τ, fun K => ?_, by rw [fls, e]; exact t2, t3⟩
        rw [f_X9_waterRises_L45]
        simp (disch := omega) only [lit, nI_leI, if_neg, if_pos, ib_n, ck_t, cl_n, ww2 hC, ww3 hC, lt_d, nI_add, nI_eq]
        exact t1 K
theorem cL38 {u : Nat → Nat → Nat} {q w : Nat} : ∀ d i n σ (x : Nat → Nat), i + d = 4 → d < n → wC (ww u x) σ w → rB q (ww u x) → ∃ τ : ab_F, (∀ K, f_X9_waterRises_L38 w K n (nI i) σ = K τ) ∧ wC (ww u (tur (u 1) (u 3) d x)) τ w ∧ ∀ a, a ≠ w + 2 → τ a = σ a := by
  intro d
  induction d with
  | zero =>
    intro i n σ x h1 h2 hC hB
    obtain ⟨m, rfl⟩ : ∃ m, n = m + 1 := ⟨n - 1, by omega⟩
    refine ⟨σ, fun K => ?_, hC, fun _ _ => rfl⟩
    rw [f_X9_waterRises_L38]
    simp (disch := omega) only [lit, nI_leI, if_pos]
  | succ d ih =>
    intro i n σ x h1 h2 hC hB
    obtain ⟨m, rfl⟩ : ∃ m, n = m + 1 := ⟨n - 1, by omega⟩
    obtain ⟨τ0, s1, s2, s3⟩ := cL45 (nI i) 16 0 ab_fu σ x (by omega) (by unfold ab_fu; omega) hC hB
    obtain ⟨τ, t1, t2, t3⟩ := ih (i + 1) m τ0 _ (by omega) (by omega) s2 (rB_fls 16 0 x (by omega) hB)
    refine ⟨τ, fun K => ?_, t2, fun a ha => by rw [t3 a ha, s3 a ha]⟩
    rw [f_X9_waterRises_L38]
    simp (disch := omega) only [lit, nI_leI, if_neg, s1, lt_d, nI_add]
    exact t1 K
theorem cRise {u : Nat → Nat → Nat} {q w : Nat} {σ : ab_F} (hq : q < 2 ^ 30) (hC : wC u σ w) (hB : rB q u) : ∃ τ, f_X9_waterRises w σ = some τ ∧ wC (ww u (ris u)) τ w ∧ ∀ a, a ≠ w + 2 → τ a = σ a := by
  have b4 := b4 hB
  have b3 := b3 hB
  have hs : u 0 4 < 16 := by omega
  have hd : u 0 3 - u 0 3 / 6 * 6 = u 0 3 % 6 := by omega
  have b2 := bw2 hB hs
  have b5 := bw5 hB (j := u 0 3 % 6) (by omega)
  have e : f_J9_min_7cf53 (nI 99) (nI (u 2 (u 0 4) + u 5 (u 0 3 % 6))) σ = some (nI (min 99 (u 2 (u 0 4) + u 5 (u 0 3 % 6)))) := by
    unfold f_J9_min_7cf53
    by_cases q1 : u 2 (u 0 4) + u 5 (u 0 3 % 6) < 99
    · simp (disch := omega) only [nI_ltI, if_pos]
      rw [Nat.min_eq_right (by omega)]
    · simp (disch := omega) only [nI_ltI, if_neg]
      rw [Nat.min_eq_left (by omega)]
  obtain ⟨τ, t1, t2, t3⟩ := cL38 (u := u) (q := q) (w := w) 4 0 ab_fu (ab_u σ (w + 2) (u 0 4) (nI (min 99 (u 2 (u 0 4) + u 5 (u 0 3 % 6))))) _ (by omega) (by unfold ab_fu; omega) (wC_w (x := u 2) (by rw [ww_self]; exact hC)) (rB_w (by rw [ww_self]; exact hB) (by omega))
  refine ⟨τ, ?_, t2, fun a ha => by rw [t3 a ha, ab_u_ne _ _ _ ha]⟩
  unfold f_X9_waterRises
  simp (disch := omega) only [lit, c0_3 hC, c0_4 hC, ib_n, ck_t, cl_n, pk_div, pk_mul, pk_sub, hd, c2 hC, c5 hC, nI_add, e, bi, lt_d]
  exact t1 _
/-! the model -/
theorem mL55 {u : Nat → Nat → Nat} {q : Nat} (p : Int32) : ∀ d i n σ (x : Nat → Nat), i + d = 16 → d < n → rM (ww u x) (σ 86) → rB q (ww u x) → ∃ τ : ab_F, (∀ K, f_X12_day1_L55 p K n (nI i) σ = K τ) ∧ rM (ww u (fls (u 1) (u 3) d i x)) (τ 86) ∧ (∀ a, a ≠ 86 → τ a = σ a) ∧ ∀ j, (j < 28 ∨ 44 ≤ j) → τ 86 j = σ 86 j := by
  intro d
  induction d with
  | zero =>
    intro i n σ x h1 h2 hC hB
    obtain ⟨m, rfl⟩ : ∃ m, n = m + 1 := ⟨n - 1, by omega⟩
    refine ⟨σ, fun K => ?_, hC, fun _ _ => rfl, fun _ _ => rfl⟩
    rw [f_X12_day1_L55]
    simp (disch := omega) only [lit, nI_leI, if_pos]
  | succ d ih =>
    intro i n σ x h1 h2 hC hB
    obtain ⟨m, rfl⟩ : ∃ m, n = m + 1 := ⟨n - 1, by omega⟩
    have hi : i < 16 := by omega
    obtain ⟨τ0, s1, s2, s3, s4⟩ := mFlow hC hB hi
    obtain ⟨τ, t1, t2, t3, t4⟩ := ih (i + 1) m τ0 _ (by omega) (by omega) s2 (rB_fl1 hi hB)
    refine ⟨τ, fun K => ?_, t2, fun a ha => by rw [t3 a ha, s3 a ha], fun j hj => by rw [t4 j hj, s4 j hj]⟩
    rw [f_X12_day1_L55]
    simp (disch := omega) only [lit, nI_leI, if_neg, s1, bi, lt_d, nI_add]
    exact t1 K
theorem mL48 {u : Nat → Nat → Nat} {q : Nat} : ∀ d i n σ (x : Nat → Nat), i + d = 4 → d < n → rM (ww u x) (σ 86) → rB q (ww u x) → ∃ τ : ab_F, (∀ K, f_X12_day1_L48 K n (nI i) σ = K τ) ∧ rM (ww u (tur (u 1) (u 3) d x)) (τ 86) ∧ (∀ a, a ≠ 86 → τ a = σ a) ∧ ∀ j, (j < 28 ∨ 44 ≤ j) → τ 86 j = σ 86 j := by
  intro d
  induction d with
  | zero =>
    intro i n σ x h1 h2 hC hB
    obtain ⟨m, rfl⟩ : ∃ m, n = m + 1 := ⟨n - 1, by omega⟩
    refine ⟨σ, fun K => ?_, hC, fun _ _ => rfl, fun _ _ => rfl⟩
    rw [f_X12_day1_L48]
    simp (disch := omega) only [lit, nI_leI, if_pos]
  | succ d ih =>
    intro i n σ x h1 h2 hC hB
    obtain ⟨m, rfl⟩ : ∃ m, n = m + 1 := ⟨n - 1, by omega⟩
    obtain ⟨τ0, s1, s2, s3, s4⟩ := mL55 (nI i) 16 0 ab_fu σ x (by omega) (by unfold ab_fu; omega) hC hB
    obtain ⟨τ, t1, t2, t3, t4⟩ := ih (i + 1) m τ0 _ (by omega) (by omega) s2 (rB_fls 16 0 x (by omega) hB)
    refine ⟨τ, fun K => ?_, t2, fun a ha => by rw [t3 a ha, s3 a ha], fun j hj => by rw [t4 j hj, s4 j hj]⟩
    rw [f_X12_day1_L48]
    simp (disch := omega) only [lit, nI_leI, if_neg, s1, lt_d, nI_add]
    exact t1 K
/-- the model's day up to its people -/
theorem mRise {u : Nat → Nat → Nat} {q : Nat} {σ : ab_F} (hq : q < 2 ^ 30) (hM : rM u (σ 86)) (hB : rB q u) : ∃ τ : ab_F, f_X12_day1 σ = f_X12_day1_L80 (fun (s20 : ab_F) => ab_lt (ab_u s20 86 0 ((s20 86 0) + (1 : Int32))) (fun (s21 : ab_F) => (some s21))) ab_fu (0 : Int32) τ ∧ rM (ww u (ris u)) (τ 86) ∧ (∀ a, a ≠ 86 → τ a = σ a) ∧ ∀ j, (j < 28 ∨ 44 ≤ j) → τ 86 j = σ 86 j := by
  have b4 := b4 hB
  have b3 := b3 hB
  have hs : u 0 4 < 16 := by omega
  have hd : u 0 3 - u 0 3 / 6 * 6 = u 0 3 % 6 := by omega
  have b2 := bw2 hB hs
  have b5 := bw5 hB (j := u 0 3 % 6) (by omega)
  have e : f_X12_held (nI (u 2 (u 0 4) + u 5 (u 0 3 % 6))) (nI 0) (nI 99) σ = some (nI (min 99 (u 2 (u 0 4) + u 5 (u 0 3 % 6)))) := by
    unfold f_X12_held
    by_cases q1 : u 2 (u 0 4) + u 5 (u 0 3 % 6) ≤ 99
    · simp (disch := omega) only [nI_leI, if_pos]
      rw [Nat.min_eq_right (by omega)]
    · simp (disch := omega) only [nI_leI, if_neg, if_pos]
      rw [Nat.min_eq_left (by omega)]
  obtain ⟨τ, t1, t2, t3, t4⟩ := mL48 (u := u) (q := q) 4 0 ab_fu (ab_u σ 86 (28 + u 0 4) (nI (min 99 (u 2 (u 0 4) + u 5 (u 0 3 % 6))))) _ (by omega) (by unfold ab_fu; omega) (wM_w (x := u 2) hs (by rw [ww_self]; exact hM)) (rB_w (by rw [ww_self]; exact hB) (by omega))
  refine ⟨τ, ?_, t2, fun a ha => by rw [t3 a ha, ab_u_ne _ _ _ ha], fun j hj => by rw [t4 j hj, u_rd _ _ _ _ _ (by omega)]⟩
  have hx : (28 : Int32) + σ 86 1 = nI (28 + u 0 4) := by rw [d0_4 hM]; exact nI_add 28 _
  have hy : (6 : Int32) + (σ 86 0 - σ 86 0 / (6 : Int32) * (6 : Int32)) = nI (6 + u 0 3 % 6) := by
    rw [d0_3 hM]
    simp (disch := omega) only [lit, nI_add, pk_div, pk_mul, pk_sub, hd]
  have e2 : f_X12_held (σ 86 (28 + u 0 4) + σ 86 (6 + u 0 3 % 6)) 0 99 σ = some (nI (min 99 (u 2 (u 0 4) + u 5 (u 0 3 % 6)))) := by
    rw [d2 hM _ hs, d5 hM _ (by omega), nI_add]; exact e
  unfold f_X12_day1
  rw [lt_d, hx, hy, ib_n (by omega) (by omega), ck_t, ib_n (by omega) (by omega), ck_t, cl_n (by omega), cl_n (by omega), e2, bi, ck_t, lt_d]
  exact t1 _
/-! water knows nothing of people -/
theorem ris_congr {u v : Nat → Nat → Nat} (h : ∀ r, r ≤ 5 → u r = v r) : ris u = ris v := by
  unfold ris
  rw [h 0 (by omega), h 1 (by omega), h 2 (by omega), h 3 (by omega), h 5 (by omega)]
