theorem cp_n {sp dp n n0 n1 : Nat} (h0 : sp + n ≤ n0) (h1 : dp + n ≤ n1) (hs : sp < 2 ^ 31) (hd : dp < 2 ^ 31) (hn : n < 2 ^ 31) : ab_cp (nI sp) (nI dp) (nI n) n0 n1 = true := by
  simp [ab_cp, nI_pos hs, nI_pos hd, nI_pos hn, nI_clamp hs, nI_clamp hd, nI_clamp hn, h0, h1]
theorem cpy0 {f g : Nat → Int32} {n j : Nat} (h : j < n) : va_cpy f g 0 0 n j = f j := by
  rw [pk_cpy_in (by omega) (by omega), Nat.zero_add, Nat.sub_zero]
theorem cW_49_38 (σ : ab_F) : ∃ τ : ab_F, f_X9_copyFrom_49_38 σ = some τ ∧ (∀ r j, val r j → τ (if r = 0 then 49 else 49 + r) j = σ (if r = 0 then 38 else 38 + r) j) ∧ τ 49 5 = σ 38 5 ∧ ∀ c, c ≠ 49 → (c ≤ 49 ∨ 59 < c) → τ c = σ c := by
  unfold f_X9_copyFrom_49_38
  simp (disch := omega) only [lit, cp_n, ck_t, lt_d, cl_n, Nat.reduceAdd]
  refine ⟨_, rfl, ?_, ?_, ?_⟩
  · intro r j hj
    rcases hj with ⟨rfl, rfl | rfl | rfl⟩ | ⟨a1, a2, a3⟩ | ⟨rfl, a3⟩ | ⟨a1, a2, a3⟩
    · simp (disch := omega) only [↓reduceIte, ab_r_ne, ab_u_ne, ab_u_same, pk_us, pk_un]
    · simp (disch := omega) only [↓reduceIte, ab_r_ne, ab_u_ne, ab_u_same, pk_us, pk_un]
    · simp (disch := omega) only [↓reduceIte, ab_r_ne, ab_u_ne, ab_u_same, pk_us, pk_un]
    · have hr : r = 1 ∨ r = 2 ∨ r = 3 ∨ r = 4 := by omega
      rcases hr with rfl | rfl | rfl | rfl <;> simp (disch := omega) only [↓reduceIte, Nat.reduceEqDiff, Nat.reduceAdd, if_neg, ab_r_ne, ab_r_same, ab_u_ne, cpy0]
    · simp (disch := omega) only [↓reduceIte, Nat.reduceEqDiff, Nat.reduceAdd, if_neg, ab_r_ne, ab_r_same, ab_u_ne, cpy0]
    · have hr : r = 6 ∨ r = 7 ∨ r = 8 ∨ r = 9 ∨ r = 10 := by omega
      rcases hr with rfl | rfl | rfl | rfl | rfl <;> simp (disch := omega) only [↓reduceIte, Nat.reduceEqDiff, Nat.reduceAdd, if_neg, ab_r_ne, ab_r_same, ab_u_ne, cpy0]
  · simp (disch := omega) only [ab_r_ne, ab_u_ne, ab_u_same, pk_us, pk_un]
  · intro c h0 h1
    simp (disch := omega) only [ab_r_ne, ab_u_ne]
theorem cW_60_38 (σ : ab_F) : ∃ τ : ab_F, f_X9_copyFrom_60_38 σ = some τ ∧ (∀ r j, val r j → τ (if r = 0 then 60 else 66 + r) j = σ (if r = 0 then 38 else 38 + r) j) ∧ τ 60 5 = σ 38 5 ∧ ∀ c, c ≠ 60 → (c ≤ 66 ∨ 76 < c) → τ c = σ c := by
  unfold f_X9_copyFrom_60_38
  simp (disch := omega) only [lit, cp_n, ck_t, lt_d, cl_n, Nat.reduceAdd]
  refine ⟨_, rfl, ?_, ?_, ?_⟩
  · intro r j hj
    rcases hj with ⟨rfl, rfl | rfl | rfl⟩ | ⟨a1, a2, a3⟩ | ⟨rfl, a3⟩ | ⟨a1, a2, a3⟩
    · simp (disch := omega) only [↓reduceIte, ab_r_ne, ab_u_ne, ab_u_same, pk_us, pk_un]
    · simp (disch := omega) only [↓reduceIte, ab_r_ne, ab_u_ne, ab_u_same, pk_us, pk_un]
    · simp (disch := omega) only [↓reduceIte, ab_r_ne, ab_u_ne, ab_u_same, pk_us, pk_un]
    · have hr : r = 1 ∨ r = 2 ∨ r = 3 ∨ r = 4 := by omega
      rcases hr with rfl | rfl | rfl | rfl <;> simp (disch := omega) only [↓reduceIte, Nat.reduceEqDiff, Nat.reduceAdd, if_neg, ab_r_ne, ab_r_same, ab_u_ne, cpy0]
    · simp (disch := omega) only [↓reduceIte, Nat.reduceEqDiff, Nat.reduceAdd, if_neg, ab_r_ne, ab_r_same, ab_u_ne, cpy0]
    · have hr : r = 6 ∨ r = 7 ∨ r = 8 ∨ r = 9 ∨ r = 10 := by omega
      rcases hr with rfl | rfl | rfl | rfl | rfl <;> simp (disch := omega) only [↓reduceIte, Nat.reduceEqDiff, Nat.reduceAdd, if_neg, ab_r_ne, ab_r_same, ab_u_ne, cpy0]
  · simp (disch := omega) only [ab_r_ne, ab_u_ne, ab_u_same, pk_us, pk_un]
  · intro c h0 h1
    simp (disch := omega) only [ab_r_ne, ab_u_ne]
theorem cW_38_60 (σ : ab_F) : ∃ τ : ab_F, f_X9_copyFrom_38_60 σ = some τ ∧ (∀ r j, val r j → τ (if r = 0 then 38 else 38 + r) j = σ (if r = 0 then 60 else 66 + r) j) ∧ τ 38 5 = σ 60 5 ∧ ∀ c, c ≠ 38 → (c ≤ 38 ∨ 48 < c) → τ c = σ c := by
  unfold f_X9_copyFrom_38_60
  simp (disch := omega) only [lit, cp_n, ck_t, lt_d, cl_n, Nat.reduceAdd]
  refine ⟨_, rfl, ?_, ?_, ?_⟩
  · intro r j hj
    rcases hj with ⟨rfl, rfl | rfl | rfl⟩ | ⟨a1, a2, a3⟩ | ⟨rfl, a3⟩ | ⟨a1, a2, a3⟩
    · simp (disch := omega) only [↓reduceIte, ab_r_ne, ab_u_ne, ab_u_same, pk_us, pk_un]
    · simp (disch := omega) only [↓reduceIte, ab_r_ne, ab_u_ne, ab_u_same, pk_us, pk_un]
    · simp (disch := omega) only [↓reduceIte, ab_r_ne, ab_u_ne, ab_u_same, pk_us, pk_un]
    · have hr : r = 1 ∨ r = 2 ∨ r = 3 ∨ r = 4 := by omega
      rcases hr with rfl | rfl | rfl | rfl <;> simp (disch := omega) only [↓reduceIte, Nat.reduceEqDiff, Nat.reduceAdd, if_neg, ab_r_ne, ab_r_same, ab_u_ne, cpy0]
    · simp (disch := omega) only [↓reduceIte, Nat.reduceEqDiff, Nat.reduceAdd, if_neg, ab_r_ne, ab_r_same, ab_u_ne, cpy0]
    · have hr : r = 6 ∨ r = 7 ∨ r = 8 ∨ r = 9 ∨ r = 10 := by omega
      rcases hr with rfl | rfl | rfl | rfl | rfl <;> simp (disch := omega) only [↓reduceIte, Nat.reduceEqDiff, Nat.reduceAdd, if_neg, ab_r_ne, ab_r_same, ab_u_ne, cpy0]
  · simp (disch := omega) only [ab_r_ne, ab_u_ne, ab_u_same, pk_us, pk_un]
  · intro c h0 h1
    simp (disch := omega) only [ab_r_ne, ab_u_ne]
theorem cP_61_32 {σ : ab_F} {k : Nat} (hk : k ≤ 60) (h : σ 32 0 = nI k) : ∃ τ : ab_F, f_X7_copyFrom_61_32 σ = some τ ∧ τ 61 0 = nI k ∧ (∀ i, i < k → τ 62 i = σ 33 i) ∧ ∀ c, c ≠ 61 → c ≠ 62 → τ c = σ c := by
  unfold f_X7_copyFrom_61_32
  simp (disch := omega) only [lit, lt_d, ab_u_same, pk_us, h, cp_n, ck_t, cl_n, ab_u_ne]
  refine ⟨_, rfl, ?_, ?_, ?_⟩
  · simp (disch := omega) only [ab_r_ne, ab_u_same, pk_us]
  · intro i hi
    simp (disch := omega) only [ab_r_same, ab_u_ne, cpy0]
  · intro c h0 h1
    simp (disch := omega) only [ab_r_ne, ab_u_ne]
theorem cP_64_35 {σ : ab_F} {k : Nat} (hk : k ≤ 60) (h : σ 35 0 = nI k) : ∃ τ : ab_F, f_X7_copyFrom_64_35 σ = some τ ∧ τ 64 0 = nI k ∧ (∀ i, i < k → τ 65 i = σ 36 i) ∧ ∀ c, c ≠ 64 → c ≠ 65 → τ c = σ c := by
  unfold f_X7_copyFrom_64_35
  simp (disch := omega) only [lit, lt_d, ab_u_same, pk_us, h, cp_n, ck_t, cl_n, ab_u_ne]
  refine ⟨_, rfl, ?_, ?_, ?_⟩
  · simp (disch := omega) only [ab_r_ne, ab_u_same, pk_us]
  · intro i hi
    simp (disch := omega) only [ab_r_same, ab_u_ne, cpy0]
  · intro c h0 h1
    simp (disch := omega) only [ab_r_ne, ab_u_ne]
theorem cP_32_61 {σ : ab_F} {k : Nat} (hk : k ≤ 60) (h : σ 61 0 = nI k) : ∃ τ : ab_F, f_X7_copyFrom_32_61 σ = some τ ∧ τ 32 0 = nI k ∧ (∀ i, i < k → τ 33 i = σ 62 i) ∧ ∀ c, c ≠ 32 → c ≠ 33 → τ c = σ c := by
  unfold f_X7_copyFrom_32_61
  simp (disch := omega) only [lit, lt_d, ab_u_same, pk_us, h, cp_n, ck_t, cl_n, ab_u_ne]
  refine ⟨_, rfl, ?_, ?_, ?_⟩
  · simp (disch := omega) only [ab_r_ne, ab_u_same, pk_us]
  · intro i hi
    simp (disch := omega) only [ab_r_same, ab_u_ne, cpy0]
  · intro c h0 h1
    simp (disch := omega) only [ab_r_ne, ab_u_ne]
theorem cP_35_64 {σ : ab_F} {k : Nat} (hk : k ≤ 60) (h : σ 64 0 = nI k) : ∃ τ : ab_F, f_X7_copyFrom_35_64 σ = some τ ∧ τ 35 0 = nI k ∧ (∀ i, i < k → τ 36 i = σ 65 i) ∧ ∀ c, c ≠ 35 → c ≠ 36 → τ c = σ c := by
  unfold f_X7_copyFrom_35_64
  simp (disch := omega) only [lit, lt_d, ab_u_same, pk_us, h, cp_n, ck_t, cl_n, ab_u_ne]
  refine ⟨_, rfl, ?_, ?_, ?_⟩
  · simp (disch := omega) only [ab_r_ne, ab_u_same, pk_us]
  · intro i hi
    simp (disch := omega) only [ab_r_same, ab_u_ne, cpy0]
  · intro c h0 h1
    simp (disch := omega) only [ab_r_ne, ab_u_ne]
theorem cP_11_9 {σ : ab_F} {k : Nat} (hk : k ≤ 60) (h : σ 9 1 = nI k) : ∃ τ : ab_F, f_X6_copyFrom_11_9 σ = some τ ∧ τ 11 1 = nI k ∧ (∀ i, i < k → τ 12 i = σ 10 i) ∧ ∀ c, c ≠ 11 → c ≠ 12 → τ c = σ c := by
  unfold f_X6_copyFrom_11_9
  simp (disch := omega) only [lit, lt_d, ab_u_same, pk_us, h, cp_n, ck_t, cl_n, ab_u_ne]
  refine ⟨_, rfl, ?_, ?_, ?_⟩
  · simp (disch := omega) only [ab_r_ne, ab_u_same, pk_us]
  · intro i hi
    simp (disch := omega) only [ab_r_same, ab_u_ne, cpy0]
  · intro c h0 h1
    simp (disch := omega) only [ab_r_ne, ab_u_ne]
theorem cP_9_11 {σ : ab_F} {k : Nat} (hk : k ≤ 60) (h : σ 11 1 = nI k) : ∃ τ : ab_F, f_X6_copyFrom_9_11 σ = some τ ∧ τ 9 1 = nI k ∧ (∀ i, i < k → τ 10 i = σ 12 i) ∧ ∀ c, c ≠ 9 → c ≠ 10 → τ c = σ c := by
  unfold f_X6_copyFrom_9_11
  simp (disch := omega) only [lit, lt_d, ab_u_same, pk_us, h, cp_n, ck_t, cl_n, ab_u_ne]
  refine ⟨_, rfl, ?_, ?_, ?_⟩
  · simp (disch := omega) only [ab_r_ne, ab_u_same, pk_us]
  · intro i hi
    simp (disch := omega) only [ab_r_same, ab_u_ne, cpy0]
  · intro c h0 h1
    simp (disch := omega) only [ab_r_ne, ab_u_ne]
theorem cP_15_13 {σ : ab_F} {k : Nat} (hk : k ≤ 24) (h : σ 13 1 = nI k) : ∃ τ : ab_F, f_X6_copyFrom_15_13 σ = some τ ∧ τ 15 1 = nI k ∧ (∀ i, i < k → τ 16 i = σ 14 i) ∧ ∀ c, c ≠ 15 → c ≠ 16 → τ c = σ c := by
  unfold f_X6_copyFrom_15_13
  simp (disch := omega) only [lit, lt_d, ab_u_same, pk_us, h, cp_n, ck_t, cl_n, ab_u_ne]
  refine ⟨_, rfl, ?_, ?_, ?_⟩
  · simp (disch := omega) only [ab_r_ne, ab_u_same, pk_us]
  · intro i hi
    simp (disch := omega) only [ab_r_same, ab_u_ne, cpy0]
  · intro c h0 h1
    simp (disch := omega) only [ab_r_ne, ab_u_ne]
theorem cP_13_15 {σ : ab_F} {k : Nat} (hk : k ≤ 24) (h : σ 15 1 = nI k) : ∃ τ : ab_F, f_X6_copyFrom_13_15 σ = some τ ∧ τ 13 1 = nI k ∧ (∀ i, i < k → τ 14 i = σ 16 i) ∧ ∀ c, c ≠ 13 → c ≠ 14 → τ c = σ c := by
  unfold f_X6_copyFrom_13_15
  simp (disch := omega) only [lit, lt_d, ab_u_same, pk_us, h, cp_n, ck_t, cl_n, ab_u_ne]
  refine ⟨_, rfl, ?_, ?_, ?_⟩
  · simp (disch := omega) only [ab_r_ne, ab_u_same, pk_us]
  · intro i hi
    simp (disch := omega) only [ab_r_same, ab_u_ne, cpy0]
  · intro c h0 h1
    simp (disch := omega) only [ab_r_ne, ab_u_ne]
theorem cP_32_17 {σ : ab_F} {k : Nat} (hk : k ≤ 60) (h : σ 17 0 = nI k) : ∃ τ : ab_F, f_X7_copyFrom_32 σ = some τ ∧ τ 32 0 = nI k ∧ (∀ i, i < k → τ 33 i = σ 18 i) ∧ ∀ c, c ≠ 32 → c ≠ 33 → τ c = σ c := by
  unfold f_X7_copyFrom_32
  simp (disch := omega) only [lit, lt_d, ab_u_same, pk_us, h, cp_n, ck_t, cl_n, ab_u_ne]
  refine ⟨_, rfl, ?_, ?_, ?_⟩
  · simp (disch := omega) only [ab_r_ne, ab_u_same, pk_us]
  · intro i hi
    simp (disch := omega) only [ab_r_same, ab_u_ne, cpy0]
  · intro c h0 h1
    simp (disch := omega) only [ab_r_ne, ab_u_ne]
theorem cP_35_17 {σ : ab_F} {k : Nat} (hk : k ≤ 60) (h : σ 17 0 = nI k) : ∃ τ : ab_F, f_X7_copyFrom_35 σ = some τ ∧ τ 35 0 = nI k ∧ (∀ i, i < k → τ 36 i = σ 18 i) ∧ ∀ c, c ≠ 35 → c ≠ 36 → τ c = σ c := by
  unfold f_X7_copyFrom_35
  simp (disch := omega) only [lit, lt_d, ab_u_same, pk_us, h, cp_n, ck_t, cl_n, ab_u_ne]
  refine ⟨_, rfl, ?_, ?_, ?_⟩
  · simp (disch := omega) only [ab_r_ne, ab_u_same, pk_us]
  · intro i hi
    simp (disch := omega) only [ab_r_same, ab_u_ne, cpy0]
  · intro c h0 h1
    simp (disch := omega) only [ab_r_ne, ab_u_ne]
theorem kL_copyAll_86_87 (K : ab_F → Option ab_F) : ∀ (d i n : Nat) (σ : ab_F), i + d = 450 → d < n → f_X12_copyAll_86_87_L2 K n (nI i) σ = K (ab_r σ 87 (fun j => if i ≤ j ∧ j < 450 then σ 86 j else σ 87 j)) := by
  intro d
  induction d with
  | zero =>
    intro i n σ h1 h2
    obtain ⟨m, rfl⟩ : ∃ m, n = m + 1 := ⟨n - 1, by omega⟩
    rw [f_X12_copyAll_86_87_L2]
    simp (disch := omega) only [lit, nI_leI, if_pos]
    congr 1
    funext a
    unfold ab_r
    by_cases q : a = 87
    · subst q; rw [if_pos rfl]; funext j; rw [if_neg (by omega)]
    · rw [if_neg q]
  | succ d ih =>
    intro i n σ h1 h2
    obtain ⟨m, rfl⟩ : ∃ m, n = m + 1 := ⟨n - 1, by omega⟩
    rw [f_X12_copyAll_86_87_L2]
    simp (disch := omega) only [lit, nI_leI, if_neg, ib_n, ck_t, lt_d, cl_n, nI_add]
    rw [ih (i + 1) m _ (by omega) (by omega)]
    congr 1
    funext a
    unfold ab_r
    by_cases q : a = 87
    · subst q
      rw [if_pos rfl, if_pos rfl]
      funext j
      rw [ab_u_ne _ _ _ (by omega), ab_u_same]
      by_cases q2 : j = i
      · subst q2; rw [if_neg (by omega), if_pos (by omega), pk_us]
      · rw [pk_un q2]
        by_cases q3 : i + 1 ≤ j ∧ j < 450
        · rw [if_pos q3, if_pos (by omega)]
        · rw [if_neg q3, if_neg (by omega)]
    · rw [if_neg q, if_neg q, ab_u_ne _ _ _ q]
theorem k_copyAll_86_87 (σ : ab_F) : f_X12_copyAll_86_87 σ = some (ab_r σ 87 (fun j => if j < 450 then σ 86 j else σ 87 j)) := by
  unfold f_X12_copyAll_86_87
  rw [show (0 : Int32) = nI 0 from rfl, kL_copyAll_86_87 _ 450 0 ab_fu σ (by omega) (by unfold ab_fu; omega)]
  simp only [Nat.zero_le, true_and]
theorem kL_copyAll_87_86 (K : ab_F → Option ab_F) : ∀ (d i n : Nat) (σ : ab_F), i + d = 450 → d < n → f_X12_copyAll_87_86_L2 K n (nI i) σ = K (ab_r σ 86 (fun j => if i ≤ j ∧ j < 450 then σ 87 j else σ 86 j)) := by
  intro d
  induction d with
  | zero =>
    intro i n σ h1 h2
    obtain ⟨m, rfl⟩ : ∃ m, n = m + 1 := ⟨n - 1, by omega⟩
    rw [f_X12_copyAll_87_86_L2]
    simp (disch := omega) only [lit, nI_leI, if_pos]
    congr 1
    funext a
    unfold ab_r
    by_cases q : a = 86
    · subst q; rw [if_pos rfl]; funext j; rw [if_neg (by omega)]
    · rw [if_neg q]
  | succ d ih =>
    intro i n σ h1 h2
    obtain ⟨m, rfl⟩ : ∃ m, n = m + 1 := ⟨n - 1, by omega⟩
    rw [f_X12_copyAll_87_86_L2]
    simp (disch := omega) only [lit, nI_leI, if_neg, ib_n, ck_t, lt_d, cl_n, nI_add]
    rw [ih (i + 1) m _ (by omega) (by omega)]
    congr 1
    funext a
    unfold ab_r
    by_cases q : a = 86
    · subst q
      rw [if_pos rfl, if_pos rfl]
      funext j
      rw [ab_u_ne _ _ _ (by omega), ab_u_same]
      by_cases q2 : j = i
      · subst q2; rw [if_neg (by omega), if_pos (by omega), pk_us]
      · rw [pk_un q2]
        by_cases q3 : i + 1 ≤ j ∧ j < 450
        · rw [if_pos q3, if_pos (by omega)]
        · rw [if_neg q3, if_neg (by omega)]
    · rw [if_neg q, if_neg q, ab_u_ne _ _ _ q]
theorem k_copyAll_87_86 (σ : ab_F) : f_X12_copyAll_87_86 σ = some (ab_r σ 86 (fun j => if j < 450 then σ 87 j else σ 86 j)) := by
  unfold f_X12_copyAll_87_86
  rw [show (0 : Int32) = nI 0 from rfl, kL_copyAll_87_86 _ 450 0 ab_fu σ (by omega) (by unfold ab_fu; omega)]
  simp only [Nat.zero_le, true_and]
theorem kL_saves (K : ab_F → Option ab_F) : ∀ (d i n : Nat) (σ : ab_F), i + d = 116 → d < n → f_X12_saves_L2 K n (nI i) σ = K (ab_r σ 88 (fun j => if i ≤ j ∧ j < 116 then σ 86 j else σ 88 j)) := by
  intro d
  induction d with
  | zero =>
    intro i n σ h1 h2
    obtain ⟨m, rfl⟩ : ∃ m, n = m + 1 := ⟨n - 1, by omega⟩
    rw [f_X12_saves_L2]
    simp (disch := omega) only [lit, nI_leI, if_pos]
    congr 1
    funext a
    unfold ab_r
    by_cases q : a = 88
    · subst q; rw [if_pos rfl]; funext j; rw [if_neg (by omega)]
    · rw [if_neg q]
  | succ d ih =>
    intro i n σ h1 h2
    obtain ⟨m, rfl⟩ : ∃ m, n = m + 1 := ⟨n - 1, by omega⟩
    rw [f_X12_saves_L2]
    simp (disch := omega) only [lit, nI_leI, if_neg, ib_n, ck_t, lt_d, cl_n, nI_add]
    rw [ih (i + 1) m _ (by omega) (by omega)]
    congr 1
    funext a
    unfold ab_r
    by_cases q : a = 88
    · subst q
      rw [if_pos rfl, if_pos rfl]
      funext j
      rw [ab_u_ne _ _ _ (by omega), ab_u_same]
      by_cases q2 : j = i
      · subst q2; rw [if_neg (by omega), if_pos (by omega), pk_us]
      · rw [pk_un q2]
        by_cases q3 : i + 1 ≤ j ∧ j < 116
        · rw [if_pos q3, if_pos (by omega)]
        · rw [if_neg q3, if_neg (by omega)]
    · rw [if_neg q, if_neg q, ab_u_ne _ _ _ q]
theorem k_saves (σ : ab_F) : f_X12_saves σ = some (ab_r σ 88 (fun j => if j < 116 then σ 86 j else σ 88 j)) := by
  unfold f_X12_saves
  rw [show (0 : Int32) = nI 0 from rfl, kL_saves _ 116 0 ab_fu σ (by omega) (by unfold ab_fu; omega)]
  simp only [Nat.zero_le, true_and]
theorem kL_putsBack (K : ab_F → Option ab_F) : ∀ (d i n : Nat) (σ : ab_F), i + d = 116 → d < n → f_X12_putsBack_L2 K n (nI i) σ = K (ab_r σ 86 (fun j => if i ≤ j ∧ j < 116 then σ 88 j else σ 86 j)) := by
  intro d
  induction d with
  | zero =>
    intro i n σ h1 h2
    obtain ⟨m, rfl⟩ : ∃ m, n = m + 1 := ⟨n - 1, by omega⟩
    rw [f_X12_putsBack_L2]
    simp (disch := omega) only [lit, nI_leI, if_pos]
    congr 1
    funext a
    unfold ab_r
    by_cases q : a = 86
    · subst q; rw [if_pos rfl]; funext j; rw [if_neg (by omega)]
    · rw [if_neg q]
  | succ d ih =>
    intro i n σ h1 h2
    obtain ⟨m, rfl⟩ : ∃ m, n = m + 1 := ⟨n - 1, by omega⟩
    rw [f_X12_putsBack_L2]
    simp (disch := omega) only [lit, nI_leI, if_neg, ib_n, ck_t, lt_d, cl_n, nI_add]
    rw [ih (i + 1) m _ (by omega) (by omega)]
    congr 1
    funext a
    unfold ab_r
    by_cases q : a = 86
    · subst q
      rw [if_pos rfl, if_pos rfl]
      funext j
      rw [ab_u_ne _ _ _ (by omega), ab_u_same]
      by_cases q2 : j = i
      · subst q2; rw [if_neg (by omega), if_pos (by omega), pk_us]
      · rw [pk_un q2]
        by_cases q3 : i + 1 ≤ j ∧ j < 116
        · rw [if_pos q3, if_pos (by omega)]
        · rw [if_neg q3, if_neg (by omega)]
    · rw [if_neg q, if_neg q, ab_u_ne _ _ _ q]
theorem k_putsBack (σ : ab_F) : f_X12_putsBack σ = some (ab_r σ 86 (fun j => if j < 116 then σ 88 j else σ 86 j)) := by
  unfold f_X12_putsBack
  rw [show (0 : Int32) = nI 0 from rfl, kL_putsBack _ 116 0 ab_fu σ (by omega) (by unfold ab_fu; omega)]
  simp only [Nat.zero_le, true_and]
