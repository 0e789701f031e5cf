/-! what a TEXT gives -/
def tp : Nat → Int32
  | 0 => -1
  | d + 1 => nI d
theorem tp_1 (d : Nat) : tp d + 1 = nI d := by
  cases d with
  | zero => rfl
  | succ d => exact nI_1 d
theorem tp_m (d : Nat) : nI d + (-1) = tp d := by
  cases d with
  | zero => rfl
  | succ d => exact pk_m1 d
theorem tp_59 {d : Nat} (h : d ≤ 59) : ¬ (59 : Int32) ≤ tp d := by
  cases d with
  | zero => decide
  | succ d => exact nI_ge (a := d) (b := 59) (by omega) (by omega)
theorem tp_neg {d : Nat} (h : 1 ≤ d) (h2 : d < 2 ^ 31) : ¬ tp d < 0 := by
  cases d with
  | zero => omega
  | succ d => exact nI_pos (by omega)
theorem tp_lt1 {d : Nat} (h : 2 ≤ d) (h2 : d < 2 ^ 31) : ¬ tp d < 1 := by
  cases d with
  | zero => omega
  | succ d => exact nI_nlt (b := 1) (by omega) (by omega)
theorem dvm (x : Int32) : x / (-1) = -x := by
  apply Int32.toInt_inj.mp
  rw [Int32.toInt_div, show (-1 : Int32).toInt = -1 from rfl, Int32.toInt_neg x, Int.tdiv_neg, Int.tdiv_one]
theorem rmm (x : Int32) : x - x / (-1) * (-1) = 0 := by
  rw [dvm, Int32.mul_neg, Int32.mul_one, Int32.neg_neg, Int32.sub_self]
theorem wj (σ τ : ab_F) (l r : Int32) : ∀ k ∈ [37, 38, 42, 43, 45, 47, 60, 61, 62, 124], ∃ v, f_X7_worked (nI k) l r σ = some v ∧ f_X12_joined (nI k) l r τ = some v := by
  intro k hk
  simp only [List.mem_cons, List.not_mem_nil, or_false] at hk
  rcases hk with rfl | rfl | rfl | rfl | rfl | rfl | rfl | rfl | rfl | rfl
  all_goals (unfold f_X7_worked f_X12_joined; simp (disch := omega) only [lit, nI_eq, Nat.reduceEqDiff, ↓reduceIte])
  · by_cases h0 : r = nI 0
    · exact ⟨nI 0, by simp only [h0, ↓reduceIte], by simp only [h0, ↓reduceIte]⟩
    · have hz : ab_nz r = true := by unfold ab_nz; simp only [Bool.not_eq_true', decide_eq_false_iff_not]; exact h0
      by_cases h1 : r = -nI 1
      · refine ⟨nI 0, ?_, ?_⟩
        · simp only [h0, ↓reduceIte, hz, ck_t]; rw [h1]; exact congrArg some (rmm l)
        · simp only [h0, ↓reduceIte]; simp only [h1, ↓reduceIte]
      · exact ⟨l - l / r * r, by simp only [h0, ↓reduceIte, hz, ck_t], by simp only [h0, h1, ↓reduceIte, hz, ck_t]⟩
  · by_cases h0 : l = nI 0
    · exact ⟨nI 0, by simp only [h0, ↓reduceIte], by simp only [h0, ↓reduceIte]⟩
    · by_cases h1 : r = nI 0
      · exact ⟨nI 0, by simp only [h0, h1, ↓reduceIte], by simp only [h0, h1, ↓reduceIte]⟩
      · exact ⟨nI 1, by simp only [h0, h1, ↓reduceIte], by simp only [h0, h1, ↓reduceIte]⟩
  · exact ⟨_, rfl, rfl⟩
  · exact ⟨_, rfl, rfl⟩
  · exact ⟨_, rfl, rfl⟩
  · by_cases h0 : r = nI 0
    · exact ⟨nI 0, by simp only [h0, ↓reduceIte], by simp only [h0, ↓reduceIte]⟩
    · have hz : ab_nz r = true := by unfold ab_nz; simp only [Bool.not_eq_true', decide_eq_false_iff_not]; exact h0
      by_cases h1 : r = -nI 1
      · refine ⟨-l, ?_, ?_⟩
        · simp only [h0, ↓reduceIte, hz, ck_t]; rw [h1]; exact congrArg some (dvm l)
        · simp only [h0, ↓reduceIte]; simp only [h1, ↓reduceIte]
      · exact ⟨l / r, by simp only [h0, ↓reduceIte, hz, ck_t], by simp only [h0, h1, ↓reduceIte, hz, ck_t]⟩
  · by_cases h0 : r ≤ l
    · exact ⟨nI 0, by rw [if_pos h0], by rw [if_pos h0]⟩
    · exact ⟨nI 1, by rw [if_neg h0], by rw [if_neg h0]⟩
  · by_cases h0 : l = r
    · exact ⟨nI 1, by rw [if_pos h0], by rw [if_pos h0]⟩
    · exact ⟨nI 0, by rw [if_neg h0], by rw [if_neg h0]⟩
  · by_cases h0 : l ≤ r
    · exact ⟨nI 0, by rw [if_pos h0], by rw [if_pos h0]⟩
    · exact ⟨nI 1, by rw [if_neg h0], by rw [if_neg h0]⟩
  · by_cases h0 : l = nI 0
    · by_cases h1 : r = nI 0
      · exact ⟨nI 0, by simp only [h0, h1, ↓reduceIte], by simp only [h0, h1, ↓reduceIte]⟩
      · exact ⟨nI 1, by simp only [h0, h1, ↓reduceIte], by simp only [h0, h1, ↓reduceIte]⟩
    · exact ⟨nI 1, by simp only [h0, ↓reduceIte], by simp only [h0, ↓reduceIte]⟩
/-! a step of the class's -/
theorem gv_end (t : Nat) (a b c : Int32) (K : ab_F → Option (Int32 × ab_F)) (n k : Nat) (x : Int32) (σ : ab_F) (hk : k < 2 ^ 31) (h : σ t 0 = nI k) : f_X7_gives_L6 t a b c K (n + 1) x (nI k) σ = K σ := by
  rw [f_X7_gives_L6, h, if_pos (nI_le (Nat.le_refl k) hk)]
theorem gv_push (t : Nat) (a b c : Int32) (K : ab_F → Option (Int32 × ab_F)) (n k d i : Nat) (σ : ab_F) (x v : Int32) (hd : d ≤ 59) (hk : k ≤ 60) (hi : i < k) (h : σ t 0 = nI k) (hx : σ (t + 1) i = x) (h3 : ¬ x < -3) (hv : v = if x < 0 then (if x = -1 then a else if x = -2 then b else c) else x) : f_X7_gives_L6 t a b c K (n + 1) (tp d) (nI i) σ = f_X7_gives_L6 t a b c K n (tp (d + 1)) (nI (i + 1)) (ab_u σ (t + 2) d v) := by
  rw [f_X7_gives_L6, h, if_neg (nI_ge hi (by omega)), ib_n (by omega) (by omega), ck_t, lt_d, cl_n (by omega), hx, if_neg h3, if_neg (tp_59 hd), lt_d, tp_1]
  rw [ib_n (by omega) (by omega), cl_n (by omega)]
  simp only [ck_t, lt_d, nI_1]
  subst hv
  by_cases q0 : x < 0
  · rw [if_pos q0, if_pos q0]
    by_cases q1 : x = -1
    · rw [if_pos q1, if_pos q1]; rfl
    · rw [if_neg q1, if_neg q1]
      by_cases q2 : x = -2
      · rw [if_pos q2, if_pos q2]; rfl
      · rw [if_neg q2, if_neg q2]; rfl
  · rw [if_neg q0, if_neg q0]; rfl
theorem gv_not (t : Nat) (a b c : Int32) (K : ab_F → Option (Int32 × ab_F)) (n k d i : Nat) (σ : ab_F) (hd : d + 1 ≤ 60) (hk : k ≤ 60) (hi : i < k) (h : σ t 0 = nI k) (hx : σ (t + 1) i = -33) : f_X7_gives_L6 t a b c K (n + 1) (tp (d + 1)) (nI i) σ = f_X7_gives_L6 t a b c K n (tp (d + 1)) (nI (i + 1)) (ab_u σ (t + 2) d (if σ (t + 2) d = 0 then 1 else 0)) := by
  rw [f_X7_gives_L6, h, if_neg (nI_ge hi (by omega)), ib_n (by omega) (by omega), ck_t, lt_d, cl_n (by omega), hx, if_pos (by decide), if_pos rfl, if_neg (tp_neg (by omega) (by omega))]
  rw [show tp (d + 1) = nI d from rfl, ib_n (by omega) (by omega), cl_n (by omega)]
  simp only [ck_t, lt_d, nI_1]
  by_cases q : σ (t + 2) d = 0
  · rw [if_pos q, if_pos q]
  · rw [if_neg q, if_neg q]
theorem gv_sign (t : Nat) (a b c : Int32) (K : ab_F → Option (Int32 × ab_F)) (n k d i : Nat) (σ : ab_F) (x v : Int32) (hd : d + 2 ≤ 60) (hk : k ≤ 60) (hi : i < k) (h : σ t 0 = nI k) (hx : σ (t + 1) i = -x) (h3 : -x < -3) (h33 : ¬ -x = -33) (hv : f_X7_worked x (σ (t + 2) d) (σ (t + 2) (d + 1)) σ = some v) : f_X7_gives_L6 t a b c K (n + 1) (tp (d + 2)) (nI i) σ = f_X7_gives_L6 t a b c K n (tp (d + 1)) (nI (i + 1)) (ab_u σ (t + 2) d v) := by
  rw [f_X7_gives_L6, h, if_neg (nI_ge hi (by omega)), ib_n (by omega) (by omega), ck_t, lt_d, cl_n (by omega), hx, if_pos h3, if_neg h33, if_neg (tp_lt1 (by omega) (by omega))]
  rw [lt_d, show tp (d + 2) = nI (d + 1) from rfl, tp_m, tp_1, show tp (d + 1) = nI d from rfl, ib_n (by omega) (by omega), ck_t, ib_n (by omega) (by omega), ck_t, cl_n (by omega), cl_n (by omega), Int32.neg_neg, hv, bi, ck_t, lt_d, lt_d, nI_1]
/-! a step of the model's -/
theorem wk_end (o : Nat) (K : ab_F → Option (Int32 × ab_F)) (n k : Nat) (x : Int32) (σ : ab_F) (hk : k < 2 ^ 31) (ho : o < 450) (h : σ 86 o = nI k) : f_X12_worked_L13 (nI o) K (n + 1) x (nI k) σ = K σ := by
  rw [f_X12_worked_L13, ib_n ho (by omega), ck_t, cl_n (by omega), h, if_pos (nI_le (Nat.le_refl k) hk)]
theorem wk_num (o : Nat) (K : ab_F → Option (Int32 × ab_F)) (n k d i : Nat) (σ : ab_F) (v : Int32) (hd : d < 64) (hk : k ≤ 60) (hi : i < k) (ho : o ≤ 241) (h : σ 86 o = nI k) (hy : σ 86 (o + 1 + 2 * i) = 0) (hz : σ 86 (o + 2 + 2 * i) = v) : f_X12_worked_L13 (nI o) K (n + 1) (nI d) (nI i) σ = f_X12_worked_L13 (nI o) K n (nI (d + 1)) (nI (i + 1)) (ab_u σ 92 d v) := by
  rw [f_X12_worked_L13, ib_n (by omega) (by omega), ck_t, cl_n (by omega), h, if_neg (nI_ge hi (by omega)), show nI o + (1 : Int32) + (2 : Int32) * nI i = nI (o + 1 + 2 * i) by rw [nI_1, show (2 : Int32) * nI i = nI (2 * i) from pk_mul 2 i, nI_add], show nI o + (2 : Int32) + (2 : Int32) * nI i = nI (o + 2 + 2 * i) by rw [show nI o + (2 : Int32) = nI (o + 2) from nI_add o 2, show (2 : Int32) * nI i = nI (2 * i) from pk_mul 2 i, nI_add], ib_n (by omega) (by omega), ck_t, lt_d, cl_n (i := o + 1 + 2 * i) (by omega), hy, ib_n (by omega) (by omega), ck_t, lt_d, cl_n (i := o + 2 + 2 * i) (by omega), hz, if_pos rfl, if_pos rfl, ib_n (by omega) (by omega), ck_t, cl_n (by omega), lt_d, lt_d, lt_d, nI_1, nI_1]
theorem wk_name (o : Nat) (K : ab_F → Option (Int32 × ab_F)) (n k d i z : Nat) (σ : ab_F) (hd : d < 64) (hk : k ≤ 60) (hi : i < k) (ho : o ≤ 241) (hz2 : z < 128) (h : σ 86 o = nI k) (hy : σ 86 (o + 1 + 2 * i) = 1) (hz : σ 86 (o + 2 + 2 * i) = nI z) : f_X12_worked_L13 (nI o) K (n + 1) (nI d) (nI i) σ = f_X12_worked_L13 (nI o) K n (nI (d + 1)) (nI (i + 1)) (ab_u σ 92 d (σ 91 z)) := by
  rw [f_X12_worked_L13, ib_n (by omega) (by omega), ck_t, cl_n (by omega), h, if_neg (nI_ge hi (by omega)), show nI o + (1 : Int32) + (2 : Int32) * nI i = nI (o + 1 + 2 * i) by rw [nI_1, show (2 : Int32) * nI i = nI (2 * i) from pk_mul 2 i, nI_add], show nI o + (2 : Int32) + (2 : Int32) * nI i = nI (o + 2 + 2 * i) by rw [show nI o + (2 : Int32) = nI (o + 2) from nI_add o 2, show (2 : Int32) * nI i = nI (2 * i) from pk_mul 2 i, nI_add], ib_n (by omega) (by omega), ck_t, lt_d, cl_n (i := o + 1 + 2 * i) (by omega), hy, ib_n (by omega) (by omega), ck_t, lt_d, cl_n (i := o + 2 + 2 * i) (by omega), hz, if_neg (by decide), if_pos rfl, if_neg (by decide), ib_n (by omega) (by omega), ck_t, ib_n (by omega) (by omega), ck_t, cl_n (by omega), cl_n (by omega), lt_d, lt_d, lt_d, nI_1, nI_1]
theorem wk_not (o : Nat) (K : ab_F → Option (Int32 × ab_F)) (n k d i : Nat) (σ : ab_F) (hd : d < 63) (hk : k ≤ 60) (hi : i < k) (ho : o ≤ 241) (h : σ 86 o = nI k) (hy : σ 86 (o + 1 + 2 * i) = 2) : f_X12_worked_L13 (nI o) K (n + 1) (nI (d + 1)) (nI i) σ = f_X12_worked_L13 (nI o) K n (nI (d + 1)) (nI (i + 1)) (ab_u σ 92 d (if σ 92 d = 0 then 1 else 0)) := by
  rw [f_X12_worked_L13, ib_n (by omega) (by omega), ck_t, cl_n (by omega), h, if_neg (nI_ge hi (by omega)), show nI o + (1 : Int32) + (2 : Int32) * nI i = nI (o + 1 + 2 * i) by rw [nI_1, show (2 : Int32) * nI i = nI (2 * i) from pk_mul 2 i, nI_add], show nI o + (2 : Int32) + (2 : Int32) * nI i = nI (o + 2 + 2 * i) by rw [show nI o + (2 : Int32) = nI (o + 2) from nI_add o 2, show (2 : Int32) * nI i = nI (2 * i) from pk_mul 2 i, nI_add], ib_n (by omega) (by omega), ck_t, lt_d, cl_n (i := o + 1 + 2 * i) (by omega), hy, ib_n (by omega) (by omega), ck_t, lt_d, cl_n (i := o + 2 + 2 * i) (by omega), if_neg (by decide), if_neg (by decide), if_pos rfl, nI_pred, ib_n (by omega) (by omega), ck_t, cl_n (by omega)]
  simp only [ck_t, lt_d, nI_1]
  by_cases q : σ 92 d = 0
  · rw [if_pos q, if_pos q]
  · rw [if_neg q, if_neg q]
theorem wk_sign (o : Nat) (K : ab_F → Option (Int32 × ab_F)) (n k d i : Nat) (σ : ab_F) (x v : Int32) (hd : d < 62) (hk : k ≤ 60) (hi : i < k) (ho : o ≤ 241) (h : σ 86 o = nI k) (hy : σ 86 (o + 1 + 2 * i) = 3) (hz : σ 86 (o + 2 + 2 * i) = x) (hv : f_X12_joined x (σ 92 d) (σ 92 (d + 1)) σ = some v) : f_X12_worked_L13 (nI o) K (n + 1) (nI (d + 2)) (nI i) σ = f_X12_worked_L13 (nI o) K n (nI (d + 1)) (nI (i + 1)) (ab_u σ 92 d v) := by
  rw [f_X12_worked_L13, ib_n (by omega) (by omega), ck_t, cl_n (by omega), h, if_neg (nI_ge hi (by omega)), show nI o + (1 : Int32) + (2 : Int32) * nI i = nI (o + 1 + 2 * i) by rw [nI_1, show (2 : Int32) * nI i = nI (2 * i) from pk_mul 2 i, nI_add], show nI o + (2 : Int32) + (2 : Int32) * nI i = nI (o + 2 + 2 * i) by rw [show nI o + (2 : Int32) = nI (o + 2) from nI_add o 2, show (2 : Int32) * nI i = nI (2 * i) from pk_mul 2 i, nI_add], ib_n (by omega) (by omega), ck_t, lt_d, cl_n (i := o + 1 + 2 * i) (by omega), hy, ib_n (by omega) (by omega), ck_t, lt_d, cl_n (i := o + 2 + 2 * i) (by omega), hz, if_neg (by decide), if_neg (by decide), if_neg (by decide), lt_d, pk_m1, nI_pred, ib_n (by omega) (by omega), ck_t, ib_n (by omega) (by omega), ck_t, cl_n (by omega), cl_n (by omega), hv, bi, ck_t, lt_d, lt_d, nI_1]
/-- both go through a TEXT -/
theorem tx (t o : Nat) (a b c : Int32) (c1 c2 c3 : Nat) (k : Nat) (dp : Nat → Nat) (ho : o ≤ 241) (h1 : c1 < 128) (h2 : c2 < 128) (h3 : c3 < 128) (hk : k ≤ 60) (hdp : ∀ i, i ≤ k → dp i ≤ 60) : ∀ r i n1 n2 (σ τ : ab_F), i + r = k → r < n1 → r < n2 → σ t 0 = nI k → τ 86 o = nI k → (∀ i, i < k → rS (nI c1) (nI c2) (nI c3) (σ (t + 1) i) (τ 86 (o + 1 + 2 * i)) (τ 86 (o + 2 + 2 * i)) (dp i) (dp (i + 1))) → τ 91 c1 = a → τ 91 c2 = b → τ 91 c3 = c → (∀ j, j < dp i → σ (t + 2) j = τ 92 j) → ∃ σ2 τ2 : ab_F, (∀ K, f_X7_gives_L6 t a b c K n1 (tp (dp i)) (nI i) σ = K σ2) ∧ (∀ K, f_X12_worked_L13 (nI o) K n2 (nI (dp i)) (nI i) τ = K τ2) ∧ (∀ j, j < dp k → σ2 (t + 2) j = τ2 92 j) ∧ (∀ e, e ≠ t + 2 → σ2 e = σ e) ∧ ∀ e, e ≠ 92 → τ2 e = τ e := by
  intro r
  induction r with
  | zero =>
    intro i n1 n2 σ τ e1 e2 e3 hs ht hS ha hb hc hj
    obtain ⟨m1, rfl⟩ : ∃ m, n1 = m + 1 := ⟨n1 - 1, by omega⟩
    obtain ⟨m2, rfl⟩ : ∃ m, n2 = m + 1 := ⟨n2 - 1, by omega⟩
    have : i = k := by omega
    subst this
    exact ⟨σ, τ, fun K => gv_end _ _ _ _ K _ _ _ _ (by omega) hs, fun K => wk_end _ K _ _ _ _ (by omega) (by omega) ht, hj, fun _ _ => rfl, fun _ _ => rfl⟩
  | succ r ih =>
    intro i n1 n2 σ τ e1 e2 e3 hs ht hS ha hb hc hj
    obtain ⟨m1, rfl⟩ : ∃ m, n1 = m + 1 := ⟨n1 - 1, by omega⟩
    obtain ⟨m2, rfl⟩ : ∃ m, n2 = m + 1 := ⟨n2 - 1, by omega⟩
    have hi : i < k := by omega
    have hd1 := hdp i (by omega)
    have hd2 := hdp (i + 1) (by omega)
    -- one step, written to place p with v, then the rest
    have go : ∀ p v, (∀ K, f_X7_gives_L6 t a b c K (m1 + 1) (tp (dp i)) (nI i) σ = f_X7_gives_L6 t a b c K m1 (tp (dp (i + 1))) (nI (i + 1)) (ab_u σ (t + 2) p v)) → (∀ K, f_X12_worked_L13 (nI o) K (m2 + 1) (nI (dp i)) (nI i) τ = f_X12_worked_L13 (nI o) K m2 (nI (dp (i + 1))) (nI (i + 1)) (ab_u τ 92 p v)) → (∀ j, j < dp (i + 1) → j = p ∨ j < dp i) → ∃ σ2 τ2 : ab_F, (∀ K, f_X7_gives_L6 t a b c K (m1 + 1) (tp (dp i)) (nI i) σ = K σ2) ∧ (∀ K, f_X12_worked_L13 (nI o) K (m2 + 1) (nI (dp i)) (nI i) τ = K τ2) ∧ (∀ j, j < dp k → σ2 (t + 2) j = τ2 92 j) ∧ (∀ e, e ≠ t + 2 → σ2 e = σ e) ∧ ∀ e, e ≠ 92 → τ2 e = τ e := by
      intro p v g1 g2 g3
      obtain ⟨σ2, τ2, z1, z2, z3, z4, z5⟩ := ih (i + 1) m1 m2 (ab_u σ (t + 2) p v) (ab_u τ 92 p v) (by omega) (by omega) (by omega) (by rw [ab_u_ne _ _ _ (by omega)]; exact hs) (by rw [ab_u_ne _ _ _ (by omega)]; exact ht) (by
        intro j hj
        rw [ab_u_ne _ _ _ (by omega : t + 1 ≠ t + 2), ab_u_ne _ _ _ (by omega : 86 ≠ 92)]
        exact hS j hj) (by rw [ab_u_ne _ _ _ (by omega)]; exact ha) (by rw [ab_u_ne _ _ _ (by omega)]; exact hb) (by rw [ab_u_ne _ _ _ (by omega)]; exact hc) (by
        intro j hj2
        rw [ab_u_same, ab_u_same]
        by_cases q : j = p
        · subst q; rw [pk_us, pk_us]
        · rw [pk_un q, pk_un q]
          rcases g3 j hj2 with q2 | q2
          · exact absurd q2 q
          · exact hj j q2)
      exact ⟨σ2, τ2, fun K => (g1 K).trans (z1 K), fun K => (g2 K).trans (z2 K), z3, fun e he => by rw [z4 e he, ab_u_ne _ _ _ he], fun e he => by rw [z5 e he, ab_u_ne _ _ _ he]⟩
    rcases hS i hi with ⟨v, y1, y2, y3, y4, y5⟩ | ⟨y2, y3, y4, y5⟩ | ⟨y2, y3, y4, y5⟩ | ⟨y2, y3, y4, y5⟩ | ⟨y2, y3, y4, y5⟩ | ⟨s, y1, y2, y3, y4, y5, y6⟩
    · refine go (dp i) (nI v) (fun K => ?_) (fun K => ?_) (fun j hj => by omega)
      · rw [y5]
        exact gv_push t a b c K m1 k (dp i) i σ (nI v) (nI v) (by omega) hk hi hs y2 (fun q => absurd (Int32.lt_trans q (by decide : (-3 : Int32) < 0)) (nI_pos (by omega))) (by rw [if_neg (nI_pos (by omega))])
      · rw [y5]
        exact wk_num o K m2 k (dp i) i τ (nI v) (by omega) hk hi ho ht y3 y4
    · refine go (dp i) a (fun K => ?_) (fun K => ?_) (fun j hj => by omega)
      · rw [y5]
        exact gv_push t a b c K m1 k (dp i) i σ (-1) a (by omega) hk hi hs y2 (by decide) (by rw [if_pos (by decide), if_pos rfl])
      · rw [y5, ← ha]
        exact wk_name o K m2 k (dp i) i c1 τ (by omega) hk hi ho h1 ht y3 y4
    · refine go (dp i) b (fun K => ?_) (fun K => ?_) (fun j hj => by omega)
      · rw [y5]
        exact gv_push t a b c K m1 k (dp i) i σ (-2) b (by omega) hk hi hs y2 (by decide) (by rw [if_pos (by decide), if_neg (by decide), if_pos rfl])
      · rw [y5, ← hb]
        exact wk_name o K m2 k (dp i) i c2 τ (by omega) hk hi ho h2 ht y3 y4
    · refine go (dp i) c (fun K => ?_) (fun K => ?_) (fun j hj => by omega)
      · rw [y5]
        exact gv_push t a b c K m1 k (dp i) i σ (-3) c (by omega) hk hi hs y2 (by decide) (by rw [if_pos (by decide), if_neg (by decide), if_neg (by decide)])
      · rw [y5, ← hc]
        exact wk_name o K m2 k (dp i) i c3 τ (by omega) hk hi ho h3 ht y3 y4
    · obtain ⟨d, hd⟩ : ∃ d, dp i = d + 1 := ⟨dp i - 1, by omega⟩
      refine go d (if τ 92 d = 0 then 1 else 0) (fun K => ?_) (fun K => ?_) (fun j hj => by omega)
      · rw [y5, hd, ← hj d (by omega)]
        exact gv_not t a b c K m1 k d i σ (by omega) hk hi hs y2
      · rw [y5, hd]
        exact wk_not o K m2 k d i τ (by omega) hk hi ho ht y3
    · obtain ⟨d, hd⟩ : ∃ d, dp i = d + 2 := ⟨dp i - 2, by omega⟩
      have hd3 : dp (i + 1) = d + 1 := by omega
      obtain ⟨v, w1, w2⟩ := wj σ τ (σ (t + 2) d) (σ (t + 2) (d + 1)) s y1
      have n3 : -(nI s) < (-3 : Int32) ∧ ¬ -(nI s) = (-33 : Int32) := by
        simp only [List.mem_cons, List.not_mem_nil, or_false] at y1
        rcases y1 with rfl | rfl | rfl | rfl | rfl | rfl | rfl | rfl | rfl | rfl <;> decide
      refine go d v (fun K => ?_) (fun K => ?_) (fun j hj => by omega)
      · rw [hd3, hd]
        exact gv_sign t a b c K m1 k d i σ (nI s) v (by omega) hk hi hs y2 n3.1 n3.2 w1
      · rw [hd3, hd]
        rw [hj d (by omega), hj (d + 1) (by omega)] at w2
        exact wk_sign o K m2 k d i τ (nI s) v (by omega) hk hi ho ht y3 y4 w2
