/-! READING A TEXT: the levels -/
theorem ga0 (nm n : Nat) (a b : Int32) (x : ab_F) : f_GA nm (n + 1) 0 a b x = g_X7_readLevel nm (f_GA nm n) a b x := by simp only [f_GA]
theorem ga1 (nm n : Nat) (a b : Int32) (x : ab_F) : f_GA nm (n + 1) 1 a b x = g_X7_readUnit nm (f_GA nm n) a x := by simp only [f_GA]
theorem ga2 (nm n : Nat) (a b : Int32) (x : ab_F) : f_GA nm (n + 1) 2 a b x = g_X7_readBracket nm (f_GA nm n) a x := by simp only [f_GA]
theorem gb0 (n : Nat) (y : ab_F) : f_GB (n + 1) 0 y = g_X12_whole (f_GB n) y := by simp only [f_GB]
theorem gb1 (n : Nat) (y : ab_F) : f_GB (n + 1) 1 y = g_X12_both (f_GB n) y := by simp only [f_GB]
theorem gb2 (n : Nat) (y : ab_F) : f_GB (n + 1) 2 y = g_X12_compared (f_GB n) y := by simp only [f_GB]
theorem gb3 (n : Nat) (y : ab_F) : f_GB (n + 1) 3 y = g_X12_sum (f_GB n) y := by simp only [f_GB]
theorem gb4 (n : Nat) (y : ab_F) : f_GB (n + 1) 4 y = g_X12_product (f_GB n) y := by simp only [f_GB]
theorem gb5 (n : Nat) (y : ab_F) : f_GB (n + 1) 5 y = g_X12_one (f_GB n) y := by simp only [f_GB]
theorem nb_0 : ¬ ab_b true = 0 := by decide
/-- the level of a sign -/
def lvO (c : Int32) : Int32 := if c = 37 then 4 else if c = 38 then 1 else if c = 42 then 4 else if c = 43 then 3 else if c = 45 then 3 else if c = 47 then 4 else if c = 60 then 2 else if c = 61 then 2 else if c = 62 then 2 else if c = 124 then 0 else -1
theorem lvO_e (c : Int32) (σ : ab_F) : f_X7_levelOf c σ = some (lvO c) := by
  unfold f_X7_levelOf lvO
  simp only [apply_ite (some : Int32 → Option Int32)]
theorem lvO_c (c : Int32) : (c = 37 ∧ lvO c = 4) ∨ (c = 38 ∧ lvO c = 1) ∨ (c = 42 ∧ lvO c = 4) ∨ (c = 43 ∧ lvO c = 3) ∨ (c = 45 ∧ lvO c = 3) ∨ (c = 47 ∧ lvO c = 4) ∨ (c = 60 ∧ lvO c = 2) ∨ (c = 61 ∧ lvO c = 2) ∨ (c = 62 ∧ lvO c = 2) ∨ (c = 124 ∧ lvO c = 0) ∨ (lvO c = -1 ∧ c ≠ 37 ∧ c ≠ 38 ∧ c ≠ 42 ∧ c ≠ 43 ∧ c ≠ 45 ∧ c ≠ 47 ∧ c ≠ 60 ∧ c ≠ 61 ∧ c ≠ 62 ∧ c ≠ 124) := by
  by_cases h37 : c = 37
  · subst h37; exact Or.inl ⟨rfl, by decide⟩
  by_cases h38 : c = 38
  · subst h38; exact Or.inr (Or.inl ⟨rfl, by decide⟩)
  by_cases h42 : c = 42
  · subst h42; exact Or.inr (Or.inr (Or.inl ⟨rfl, by decide⟩))
  by_cases h43 : c = 43
  · subst h43; exact Or.inr (Or.inr (Or.inr (Or.inl ⟨rfl, by decide⟩)))
  by_cases h45 : c = 45
  · subst h45; exact Or.inr (Or.inr (Or.inr (Or.inr (Or.inl ⟨rfl, by decide⟩))))
  by_cases h47 : c = 47
  · subst h47; exact Or.inr (Or.inr (Or.inr (Or.inr (Or.inr (Or.inl ⟨rfl, by decide⟩)))))
  by_cases h60 : c = 60
  · subst h60; exact Or.inr (Or.inr (Or.inr (Or.inr (Or.inr (Or.inr (Or.inl ⟨rfl, by decide⟩))))))
  by_cases h61 : c = 61
  · subst h61; exact Or.inr (Or.inr (Or.inr (Or.inr (Or.inr (Or.inr (Or.inr (Or.inl ⟨rfl, by decide⟩)))))))
  by_cases h62 : c = 62
  · subst h62; exact Or.inr (Or.inr (Or.inr (Or.inr (Or.inr (Or.inr (Or.inr (Or.inr (Or.inl ⟨rfl, by decide⟩))))))))
  by_cases h124 : c = 124
  · subst h124; exact Or.inr (Or.inr (Or.inr (Or.inr (Or.inr (Or.inr (Or.inr (Or.inr (Or.inr (Or.inl ⟨rfl, by decide⟩)))))))))
  exact Or.inr (Or.inr (Or.inr (Or.inr (Or.inr (Or.inr (Or.inr (Or.inr (Or.inr (Or.inr (⟨by unfold lvO; rw [if_neg h37, if_neg h38, if_neg h42, if_neg h43, if_neg h45, if_neg h47, if_neg h60, if_neg h61, if_neg h62, if_neg h124], h37, h38, h42, h43, h45, h47, h60, h61, h62, h124⟩))))))))))
theorem lvO_0 (c : Int32) : lvO c = nI 0 ↔ c = 124 := by
  rcases lvO_c c with ⟨rfl, _⟩ | ⟨rfl, _⟩ | ⟨rfl, _⟩ | ⟨rfl, _⟩ | ⟨rfl, _⟩ | ⟨rfl, _⟩ | ⟨rfl, _⟩ | ⟨rfl, _⟩ | ⟨rfl, _⟩ | ⟨rfl, _⟩ | ⟨h, h37, h38, h42, h43, h45, h47, h60, h61, h62, h124⟩
  · decide
  · decide
  · decide
  · decide
  · decide
  · decide
  · decide
  · decide
  · decide
  · decide
  · rw [h]; refine ⟨fun z => absurd z (by decide), fun z => ?_⟩
    exact absurd z h124
theorem lvO_1 (c : Int32) : lvO c = nI 1 ↔ c = 38 := by
  rcases lvO_c c with ⟨rfl, _⟩ | ⟨rfl, _⟩ | ⟨rfl, _⟩ | ⟨rfl, _⟩ | ⟨rfl, _⟩ | ⟨rfl, _⟩ | ⟨rfl, _⟩ | ⟨rfl, _⟩ | ⟨rfl, _⟩ | ⟨rfl, _⟩ | ⟨h, h37, h38, h42, h43, h45, h47, h60, h61, h62, h124⟩
  · decide
  · decide
  · decide
  · decide
  · decide
  · decide
  · decide
  · decide
  · decide
  · decide
  · rw [h]; refine ⟨fun z => absurd z (by decide), fun z => ?_⟩
    exact absurd z h38
theorem lvO_2 (c : Int32) : lvO c = nI 2 ↔ c = 60 ∨ c = 61 ∨ c = 62 := by
  rcases lvO_c c with ⟨rfl, _⟩ | ⟨rfl, _⟩ | ⟨rfl, _⟩ | ⟨rfl, _⟩ | ⟨rfl, _⟩ | ⟨rfl, _⟩ | ⟨rfl, _⟩ | ⟨rfl, _⟩ | ⟨rfl, _⟩ | ⟨rfl, _⟩ | ⟨h, h37, h38, h42, h43, h45, h47, h60, h61, h62, h124⟩
  · decide
  · decide
  · decide
  · decide
  · decide
  · decide
  · decide
  · decide
  · decide
  · decide
  · rw [h]; refine ⟨fun z => absurd z (by decide), fun z => ?_⟩
    rcases z with z | z | z
    · exact absurd z h60
    · exact absurd z h61
    · exact absurd z h62
theorem lvO_3 (c : Int32) : lvO c = nI 3 ↔ c = 43 ∨ c = 45 := by
  rcases lvO_c c with ⟨rfl, _⟩ | ⟨rfl, _⟩ | ⟨rfl, _⟩ | ⟨rfl, _⟩ | ⟨rfl, _⟩ | ⟨rfl, _⟩ | ⟨rfl, _⟩ | ⟨rfl, _⟩ | ⟨rfl, _⟩ | ⟨rfl, _⟩ | ⟨h, h37, h38, h42, h43, h45, h47, h60, h61, h62, h124⟩
  · decide
  · decide
  · decide
  · decide
  · decide
  · decide
  · decide
  · decide
  · decide
  · decide
  · rw [h]; refine ⟨fun z => absurd z (by decide), fun z => ?_⟩
    rcases z with z | z
    · exact absurd z h43
    · exact absurd z h45
theorem lvO_4 (c : Int32) : lvO c = nI 4 ↔ c = 42 ∨ c = 47 ∨ c = 37 := by
  rcases lvO_c c with ⟨rfl, _⟩ | ⟨rfl, _⟩ | ⟨rfl, _⟩ | ⟨rfl, _⟩ | ⟨rfl, _⟩ | ⟨rfl, _⟩ | ⟨rfl, _⟩ | ⟨rfl, _⟩ | ⟨rfl, _⟩ | ⟨rfl, _⟩ | ⟨h, h37, h38, h42, h43, h45, h47, h60, h61, h62, h124⟩
  · decide
  · decide
  · decide
  · decide
  · decide
  · decide
  · decide
  · decide
  · decide
  · decide
  · rw [h]; refine ⟨fun z => absurd z (by decide), fun z => ?_⟩
    rcases z with z | z | z
    · exact absurd z h42
    · exact absurd z h47
    · exact absurd z h37
theorem lvO_s {c : Int32} {l : Nat} (h : lvO c = nI l) (hl : l < 5) : ∃ k ∈ [37, 38, 42, 43, 45, 47, 60, 61, 62, 124], c = nI k := by
  rcases lvO_c c with ⟨rfl, _⟩ | ⟨rfl, _⟩ | ⟨rfl, _⟩ | ⟨rfl, _⟩ | ⟨rfl, _⟩ | ⟨rfl, _⟩ | ⟨rfl, _⟩ | ⟨rfl, _⟩ | ⟨rfl, _⟩ | ⟨rfl, _⟩ | ⟨h2, _⟩
  · exact ⟨37, by decide, rfl⟩
  · exact ⟨38, by decide, rfl⟩
  · exact ⟨42, by decide, rfl⟩
  · exact ⟨43, by decide, rfl⟩
  · exact ⟨45, by decide, rfl⟩
  · exact ⟨47, by decide, rfl⟩
  · exact ⟨60, by decide, rfl⟩
  · exact ⟨61, by decide, rfl⟩
  · exact ⟨62, by decide, rfl⟩
  · exact ⟨124, by decide, rfl⟩
  · rw [h2] at h
    exact absurd (show (-1 : Int32) < 0 by decide) (by rw [h]; exact nI_pos (by omega))
theorem lvO_p {T : Nat → Nat} {L p l : Nat} (h : lvO (rd_n T L p) = nI l) (hl : l < 5) : p < L := by
  rcases Nat.lt_or_ge p L with q | q
  · exact q
  · unfold rd_n at h
    rw [if_neg (by omega), show lvO (-1) = -1 by decide] at h
    exact absurd (show (-1 : Int32) < 0 by decide) (by rw [h]; exact nI_pos (by omega))
/-- what a reading gives: both stop at the FAULT, or both have read one more whole thing -/
def rd_R (k1 k2 k3 : Int32) (x0 y0 : ab_F) (L o p s : Nat) (dp : Nat → Nat) (x y : ab_F) (A B : ab_F → Option (Bool × ab_F)) : Prop := (∃ x2 y2 : ab_F, A x = some (false, x2) ∧ B y = some (false, y2) ∧ rd_F x0 y0 L x2 y2) ∨ ∃ (x2 y2 : ab_F) (p2 s2 : Nat) (dp2 : Nat → Nat), A x = some (true, x2) ∧ B y = some (true, y2) ∧ rd_P k1 k2 k3 x0 y0 o p2 s2 dp2 x2 y2 ∧ p < p2 ∧ p2 ≤ L ∧ s < s2 ∧ s2 + p ≤ s + p2 ∧ (∀ i, i ≤ s → dp2 i = dp i) ∧ dp2 s2 = dp s + 1
def rd_S (k1 k2 k3 : Int32) (x0 y0 : ab_F) (L o : Nat) (A B : ab_F → Option (Bool × ab_F)) : Prop := ∀ (p s : Nat) (dp : Nat → Nat) (x y : ab_F), p ≤ L → s ≤ p → rd_P k1 k2 k3 x0 y0 o p s dp x y → rd_R k1 k2 k3 x0 y0 L o p s dp x y A B
/-- the same of a loop over further ones -/
def rd_Q (k1 k2 k3 : Int32) (x0 y0 : ab_F) (L o p s : Nat) (dp : Nat → Nat) (A B : Option (Bool × ab_F)) : Prop := (∃ x2 y2 : ab_F, A = some (false, x2) ∧ B = some (false, y2) ∧ rd_F x0 y0 L x2 y2) ∨ ∃ (x2 y2 : ab_F) (p2 s2 : Nat) (dp2 : Nat → Nat), A = some (true, x2) ∧ B = some (true, y2) ∧ rd_P k1 k2 k3 x0 y0 o p2 s2 dp2 x2 y2 ∧ p ≤ p2 ∧ p2 ≤ L ∧ s ≤ s2 ∧ s2 + p ≤ s + p2 ∧ (∀ i, i ≤ s → dp2 i = dp i) ∧ dp2 s2 = dp s
/-- the model's loop at a level -/
def rd_M (l : Nat) (rc : Nat → ab_F → Option (Bool × ab_F)) (M : (ab_F → Option (Bool × ab_F)) → Nat → ab_F → Option (Bool × ab_F)) : Prop := ∀ (K : ab_F → Option (Bool × ab_F)) (n : Nat) (y : ab_F) (c : Int32), f_X12_look y = some c → (lvO c = nI l → M K (n + 1) y = (rc (l + 1) (ab_u y 85 5 ((y 85 5) + (1 : Int32)))).bind (fun q => if (ab_b q.1) = 0 then some (false, q.2) else (f_X12_step1 (3 : Int32) c q.2).bind (fun q8 => M K n q8))) ∧ (¬ lvO c = nI l → M K (n + 1) y = K y)
theorem rd_M0 (rc : Nat → ab_F → Option (Bool × ab_F)) : rd_M 0 rc (g_X12_whole_L9 rc) := fun K n y c hc => by
  have hl := lvO_0 c
  refine ⟨fun h => ?_, fun h => ?_⟩
  · have h' := hl.mp h
    rw [g_X12_whole_L9, hc, bi, if_pos h', lt_d, h'] <;> rfl
  · rw [g_X12_whole_L9, hc, bi, if_neg (fun z => h (hl.mpr z))]
theorem rd_M1 (rc : Nat → ab_F → Option (Bool × ab_F)) : rd_M 1 rc (g_X12_both_L9 rc) := fun K n y c hc => by
  have hl := lvO_1 c
  refine ⟨fun h => ?_, fun h => ?_⟩
  · have h' := hl.mp h
    rw [g_X12_both_L9, hc, bi, if_pos h', lt_d, h'] <;> rfl
  · rw [g_X12_both_L9, hc, bi, if_neg (fun z => h (hl.mpr z))]
theorem rd_M3 (rc : Nat → ab_F → Option (Bool × ab_F)) : rd_M 3 rc (g_X12_sum_L9 rc) := fun K n y c hc => by
  have hl := lvO_3 c
  refine ⟨fun h => ?_, fun h => ?_⟩
  · rcases hl.mp h with h' | h'
    · rw [g_X12_sum_L9, hc, bi, if_pos h', bi, lt_d] <;> rfl
    · rw [g_X12_sum_L9, hc, bi, if_neg (by rw [h']; decide), bi, if_pos h', bi, lt_d] <;> rfl
  · rw [g_X12_sum_L9, hc, bi, if_neg (fun z => h (hl.mpr (Or.inl z))), bi, if_neg (fun z => h (hl.mpr (Or.inr z)))]
theorem rd_M4 (rc : Nat → ab_F → Option (Bool × ab_F)) : rd_M 4 rc (g_X12_product_L9 rc) := fun K n y c hc => by
  have hl := lvO_4 c
  refine ⟨fun h => ?_, fun h => ?_⟩
  · rcases hl.mp h with h' | h' | h'
    · rw [g_X12_product_L9, hc, bi, if_pos h', bi, lt_d] <;> rfl
    · rw [g_X12_product_L9, hc, bi, if_neg (by rw [h']; decide), bi, if_pos h', bi, lt_d] <;> rfl
    · rw [g_X12_product_L9, hc, bi, if_neg (by rw [h']; decide), bi, if_neg (by rw [h']; decide), bi, if_pos h', bi, lt_d] <;> rfl
  · rw [g_X12_product_L9, hc, bi, if_neg (fun z => h (hl.mpr (Or.inl z))), bi, if_neg (fun z => h (hl.mpr (Or.inr (Or.inl z)))), bi, if_neg (fun z => h (hl.mpr (Or.inr (Or.inr z))))]
theorem rd_sg {k1 k2 k3 c : Int32} {l d d2 : Nat} (h : lvO c = nI l) (hl : l < 5) (h2 : 2 ≤ d) (h3 : d2 + 1 = d) : rS k1 k2 k3 (-c) 3 c d d2 := by
  obtain ⟨k, hk, e⟩ := lvO_s h hl
  exact Or.inr (Or.inr (Or.inr (Or.inr (Or.inr ⟨k, hk, by rw [e], rfl, e, h2, h3⟩))))
theorem upN_a {dp : Nat → Nat} {i j v : Nat} (h : i ≠ j) : updN dp j v i = dp i := if_neg h
theorem upN_s {dp : Nat → Nat} {j v : Nat} : updN dp j v j = v := if_pos rfl
/-- a sign of this level stands there: both pass it, read the next thing, and make a step of it -/
theorem rd_1 {us k1 k2 k3 : Int32} {L : Nat} {T : Nat → Nat} {x0 y0 : ab_F} (hT : rd_T us L T x0 y0) (nm : Nat) {o l : Nat} (hl : l < 5) {A B : ab_F → Option (Bool × ab_F)} (hS : rd_S k1 k2 k3 x0 y0 L o A B) {p s : Nat} {dp : Nat → Nat} {x y : ab_F} (hs : s ≤ p) (h : rd_P k1 k2 k3 x0 y0 o p s dp x y) (hd : 1 ≤ dp s) (q : lvO (rd_n T L p) = nI l) : (∃ x2 y2 : ab_F, A (ab_u x 17 5 (x 17 5 + 1)) = some (false, x2) ∧ B (ab_u y 85 5 (y 85 5 + 1)) = some (false, y2) ∧ rd_F x0 y0 L x2 y2) ∨ ∃ (x2 y2 x3 y3 : ab_F) (p2 s2 : Nat) (dp2 : Nat → Nat), A (ab_u x 17 5 (x 17 5 + 1)) = some (true, x2) ∧ B (ab_u y 85 5 (y 85 5 + 1)) = some (true, y2) ∧ f_X7_step nm (-(rd_n T L p)) x2 = some x3 ∧ f_X12_step1 3 (rd_n T L p) y2 = some y3 ∧ rd_P k1 k2 k3 x0 y0 o p2 s2 dp2 x3 y3 ∧ p + 2 ≤ p2 ∧ p2 ≤ L ∧ s < s2 ∧ s2 + p ≤ s + p2 ∧ (∀ i, i ≤ s → dp2 i = dp i) ∧ dp2 s2 = dp s := by
  have hL := hT.1
  have qL := lvO_p q hl
  rcases hS (p + 1) s dp _ _ (by omega) (by omega) (rd_a h) with ⟨x2, y2, a1, a2, a3⟩ | ⟨x2, y2, p2, s2, dp2, a1, a2, a3, a4, a5, a6, a7, a8, a9⟩
  · exact Or.inl ⟨x2, y2, a1, a2, a3⟩
  · obtain ⟨x3, y3, b1, b2, b3⟩ := rd_s a3 (by omega) nm (a := -(rd_n T L p)) (b := 3) (c := rd_n T L p) (d2 := dp s) (rd_sg q hl (by omega) (by omega))
    exact Or.inr ⟨x2, y2, x3, y3, p2, s2 + 1, _, a1, a2, b1, b2, b3, by omega, a5, by omega, by omega, fun i hi => by rw [upN_a (by omega)]; exact a8 i hi, upN_s⟩
theorem rd_lp {us k1 k2 k3 : Int32} {L : Nat} {T : Nat → Nat} {x0 y0 : ab_F} (hT : rd_T us L T x0 y0) (nm : Nat) {o l : Nat} (hl : l < 5) {rcA : Nat → Int32 → Int32 → ab_F → Option (Bool × ab_F)} {rcB : Nat → ab_F → Option (Bool × ab_F)} {M : (ab_F → Option (Bool × ab_F)) → Nat → ab_F → Option (Bool × ab_F)} (hM : rd_M l rcB M) (hS : rd_S k1 k2 k3 x0 y0 L o (rcA 0 (nI (l + 1)) (nI o)) (rcB (l + 1))) : ∀ d i n1 n2 p s (dp : Nat → Nat) (x y : ab_F), L < p + d → d ≤ n1 → d ≤ n2 → i < p → p ≤ L → s ≤ p → 1 ≤ dp s → rd_P k1 k2 k3 x0 y0 o p s dp x y → rd_Q k1 k2 k3 x0 y0 L o p s dp (g_X7_readLevel_L39 nm rcA (nI l) (nI o) (60 : Int32) (fun (s15 : ab_F) => (some (true, s15))) n1 (nI i) x) (M (fun (s9 : ab_F) => (some (true, s9))) n2 y) := by
  have hL := hT.1
  intro d
  induction d with
  | zero => intro i n1 n2 p s dp x y h1 h2 h3 h4 h5; omega
  | succ d ih =>
    intro i n1 n2 p s dp x y h1 h2 h3 h4 h5 h6 h7 h
    obtain ⟨m1, rfl⟩ : ∃ m, n1 = m + 1 := ⟨n1 - 1, by omega⟩
    obtain ⟨m2, rfl⟩ : ∃ m, n2 = m + 1 := ⟨n2 - 1, by omega⟩
    have hc := rd_c hT h.1 h.2.2.2.2.2.2.1 h5 nm
    have hm := rd_m hT h.2.1 h.2.2.2.2.2.2.2 h5
    by_cases q : lvO (rd_n T L p) = nI l
    · have qL := lvO_p q hl
      have hi : ¬ (60 : Int32) ≤ nI i := nI_ge (b := 60) (by omega) (by omega)
      have g2 := (hM (fun (s9 : ab_F) => (some (true, s9))) m2 y _ hm).1 q
      rcases rd_1 hT nm hl hS h6 h h7 q with ⟨x2, y2, a1, a2, a3⟩ | ⟨x2, y2, x3, y3, p2, s2, dp2, a1, a2, b1, b2, b3, b4, b5, b6, b7, b8, b9⟩
      · refine Or.inl ⟨x2, y2, ?_, ?_, a3⟩
        · rw [g_X7_readLevel_L39, if_neg hi, hc, bi, lvO_e, bi, if_pos q, bi, lt_d, nI_1 l, a1, bi]
          exact if_pos rfl
        · rw [g2, a2, bi]
          exact if_pos rfl
      · have F1 : g_X7_readLevel_L39 nm rcA (nI l) (nI o) (60 : Int32) (fun (s15 : ab_F) => (some (true, s15))) (m1 + 1) (nI i) x = g_X7_readLevel_L39 nm rcA (nI l) (nI o) (60 : Int32) (fun (s15 : ab_F) => (some (true, s15))) m1 (nI (i + 1)) x3 := by
          rw [g_X7_readLevel_L39, if_neg hi, hc, bi, lvO_e, bi, if_pos q, bi, lt_d, nI_1 l, a1, bi]
          refine (if_neg nb_0).trans ?_
          show (f_X7_step nm (-(rd_n T L p)) x2).bind _ = _
          rw [b1, bi, lt_d, nI_1]
        have F2 : M (fun (s9 : ab_F) => (some (true, s9))) (m2 + 1) y = M (fun (s9 : ab_F) => (some (true, s9))) m2 y3 := by
          rw [g2, a2, bi]
          refine (if_neg nb_0).trans ?_
          show (f_X12_step1 3 (rd_n T L p) y2).bind _ = _
          rw [b2, bi]
        rw [F1, F2]
        rcases ih (i + 1) m1 m2 p2 s2 dp2 x3 y3 (by omega) (by omega) (by omega) (by omega) b5 (by omega) (by omega) b3 with ⟨x4, y4, c1, c2, c3⟩ | ⟨x4, y4, p4, s4, dp4, c1, c2, c3, c4, c5, c6, c7, c8, c9⟩
        · exact Or.inl ⟨x4, y4, c1, c2, c3⟩
        · exact Or.inr ⟨x4, y4, p4, s4, dp4, c1, c2, c3, by omega, c5, by omega, by omega, fun j hj => by rw [c8 j (by omega)]; exact b8 j hj, by rw [c9, b9]⟩
    · refine Or.inr ⟨x, y, p, s, dp, ?_, (hM _ m2 y _ hm).2 q, h, Nat.le_refl _, h5, Nat.le_refl _, Nat.le_refl _, fun _ _ => rfl, rfl⟩
      rw [g_X7_readLevel_L39]
      by_cases z : (60 : Int32) ≤ nI i
      · rw [if_pos z]
      · rw [if_neg z, hc, bi, lvO_e, bi, if_neg q]
theorem rd_lv {us k1 k2 k3 : Int32} {L : Nat} {T : Nat → Nat} {x0 y0 : ab_F} (hT : rd_T us L T x0 y0) (nm : Nat) {o l n1 n2 : Nat} (hl : l < 5) (hl2 : l ≠ 2) {M : (ab_F → Option (Bool × ab_F)) → Nat → ab_F → Option (Bool × ab_F)} (hM : rd_M l (f_GB n2) M) (hB : ∀ y, f_GB (n2 + 1) l y = (f_GB n2 (l + 1) y).bind (fun q1 => (if (ab_b q1.1) = 0 then (some (false, q1.2)) else (M (fun (s9 : ab_F) => (some (true, s9))) ab_fu q1.2)))) (hS : rd_S k1 k2 k3 x0 y0 L o (f_GA nm n1 0 (nI (l + 1)) (nI o)) (f_GB n2 (l + 1))) : rd_S k1 k2 k3 x0 y0 L o (f_GA nm (n1 + 1) 0 (nI l) (nI o)) (f_GB (n2 + 1) l) := by
  have hL := hT.1
  intro p s dp x y hp hs h
  have hne : ¬ nI l = (2 : Int32) := fun z => hl2 ((nI_eq (b := 2) (by omega) (by omega)).mp z)
  have FA : f_GA nm (n1 + 1) 0 (nI l) (nI o) x = (f_GA nm n1 0 (nI (l + 1)) (nI o) x).bind (fun q2 => (if (ab_b q2.1) = 0 then (some (false, q2.2)) else (g_X7_readLevel_L39 nm (f_GA nm n1) (nI l) (nI o) (60 : Int32) (fun (s15 : ab_F) => (some (true, s15))) ab_fu (nI 0) q2.2))) := by
    rw [ga0, g_X7_readLevel, if_pos (show nI l < (5 : Int32) from nI_lt (b := 5) (by omega) (by omega)), nI_1]
    simp only [if_neg hne]
    rfl
  rcases hS p s dp x y hp hs h with ⟨x2, y2, a1, a2, a3⟩ | ⟨x2, y2, p2, s2, dp2, a1, a2, a3, a4, a5, a6, a7, a8, a9⟩
  · refine Or.inl ⟨x2, y2, ?_, ?_, a3⟩
    · rw [FA, a1, bi]; exact if_pos rfl
    · rw [hB, a2, bi]; exact if_pos rfl
  · have F1 : f_GA nm (n1 + 1) 0 (nI l) (nI o) x = g_X7_readLevel_L39 nm (f_GA nm n1) (nI l) (nI o) (60 : Int32) (fun (s15 : ab_F) => (some (true, s15))) ab_fu (nI 0) x2 := by
      rw [FA, a1, bi]; exact if_neg nb_0
    have F2 : f_GB (n2 + 1) l y = M (fun (s9 : ab_F) => (some (true, s9))) ab_fu y2 := by
      rw [hB, a2, bi]; exact if_neg nb_0
    rcases rd_lp hT nm hl hM hS 61 0 ab_fu ab_fu p2 s2 dp2 x2 y2 (by omega) (by unfold ab_fu; omega) (by unfold ab_fu; omega) (by omega) a5 (by omega) (by omega) a3 with ⟨x4, y4, c1, c2, c3⟩ | ⟨x4, y4, p4, s4, dp4, c1, c2, c3, c4, c5, c6, c7, c8, c9⟩
    · exact Or.inl ⟨x4, y4, F1.trans c1, F2.trans c2, c3⟩
    · exact Or.inr ⟨x4, y4, p4, s4, dp4, F1.trans c1, F2.trans c2, c3, by omega, c5, by omega, by omega, fun j hj => by rw [c8 j (by omega)]; exact a8 j hj, by rw [c9, a9]⟩
/-- B: at most one sign -/
theorem rd_lv2 {us k1 k2 k3 : Int32} {L : Nat} {T : Nat → Nat} {x0 y0 : ab_F} (hT : rd_T us L T x0 y0) (nm : Nat) {o n1 n2 : Nat} (hS : rd_S k1 k2 k3 x0 y0 L o (f_GA nm n1 0 (nI 3) (nI o)) (f_GB n2 3)) : rd_S k1 k2 k3 x0 y0 L o (f_GA nm (n1 + 1) 0 (nI 2) (nI o)) (f_GB (n2 + 1) 2) := by
  have hL := hT.1
  intro p s dp x y hp hs h
  have FA : f_GA nm (n1 + 1) 0 (nI 2) (nI o) x = (f_GA nm n1 0 (nI 3) (nI o) x).bind (fun q2 => (if (ab_b q2.1) = 0 then (some (false, q2.2)) else (g_X7_readLevel_L39 nm (f_GA nm n1) (nI 2) (nI o) (1 : Int32) (fun (s15 : ab_F) => (some (true, s15))) (998 + 1 + 1) (nI 0) q2.2))) := by
    rw [ga0, g_X7_readLevel, if_pos (show nI 2 < (5 : Int32) from nI_lt (b := 5) (by omega) (by omega)), nI_1]
    simp only [if_pos (show nI 2 = (2 : Int32) from rfl)]
    rfl
  rcases hS p s dp x y hp hs h with ⟨x2, y2, a1, a2, a3⟩ | ⟨x2, y2, p2, s2, dp2, a1, a2, a3, a4, a5, a6, a7, a8, a9⟩
  · refine Or.inl ⟨x2, y2, ?_, ?_, a3⟩
    · rw [FA, a1, bi]; exact if_pos rfl
    · rw [gb2, g_X12_compared, a2, bi]; exact if_pos rfl
  · have hc := rd_c hT a3.1 a3.2.2.2.2.2.2.1 a5 nm
    have hm := rd_m hT a3.2.1 a3.2.2.2.2.2.2.2 a5
    have F1 : f_GA nm (n1 + 1) 0 (nI 2) (nI o) x = g_X7_readLevel_L39 nm (f_GA nm n1) (nI 2) (nI o) (1 : Int32) (fun (s15 : ab_F) => (some (true, s15))) (998 + 1 + 1) (nI 0) x2 := by
      rw [FA, a1, bi]; exact if_neg nb_0
    have hi : ¬ (1 : Int32) ≤ nI 0 := nI_ge (b := 1) (by omega) (by omega)
    by_cases q : lvO (rd_n T L p2) = nI 2
    · have F2 : f_GB (n2 + 1) 2 y = (f_GB n2 3 (ab_u y2 85 5 ((y2 85 5) + (1 : Int32)))).bind (fun q6 => (if (ab_b q6.1) = 0 then (some (false, q6.2)) else (f_X12_step1 (3 : Int32) (rd_n T L p2) q6.2).bind (fun q8 => (some (true, q8))))) := by
        rw [gb2, g_X12_compared, a2, bi]
        refine (if_neg nb_0).trans ?_
        show (f_X12_look y2).bind _ = _
        rw [hm, bi]
        rcases (lvO_2 _).mp q with z | z | z
        · rw [if_pos z, lt_d]
        · rw [if_neg (by rw [z]; decide), if_pos z, lt_d]
        · rw [if_neg (by rw [z]; decide), if_neg (by rw [z]; decide), if_pos z, lt_d]
      rcases rd_1 hT nm (show 2 < 5 by omega) hS (by omega) a3 (by omega) q with ⟨x4, y4, c1, c2, c3⟩ | ⟨x4, y4, x5, y5, p4, s4, dp4, c1, c2, b1, b2, b3, b4, b5, b6, b7, b8, b9⟩
      · refine Or.inl ⟨x4, y4, ?_, ?_, c3⟩
        · rw [F1, g_X7_readLevel_L39, if_neg hi, hc, bi, lvO_e, bi, if_pos q, bi, lt_d, nI_1 2, c1, bi]
          exact if_pos rfl
        · rw [F2, c2, bi]; exact if_pos rfl
      · refine Or.inr ⟨x5, y5, p4, s4, dp4, ?_, ?_, b3, by omega, b5, by omega, by omega, fun j hj => by rw [b8 j (by omega)]; exact a8 j hj, by rw [b9, a9]⟩
        · rw [F1, g_X7_readLevel_L39, if_neg hi, hc, bi, lvO_e, bi, if_pos q, bi, lt_d, nI_1 2, c1, bi]
          refine (if_neg nb_0).trans ?_
          show (f_X7_step nm (-(rd_n T L p2)) x4).bind _ = _
          rw [b1, bi, lt_d, nI_1, g_X7_readLevel_L39, if_pos (show (1 : Int32) ≤ nI (0 + 1) from nI_le (a := 1) (by omega) (by omega))]
        · rw [F2, c2, bi]
          refine (if_neg nb_0).trans ?_
          show (f_X12_step1 3 (rd_n T L p2) y4).bind _ = _
          rw [b2, bi]
    · refine Or.inr ⟨x2, y2, p2, s2, dp2, ?_, ?_, a3, a4, a5, a6, a7, a8, a9⟩
      · rw [F1, g_X7_readLevel_L39, if_neg hi, hc, bi, lvO_e, bi, if_neg q]
      · rw [gb2, g_X12_compared, a2, bi]
        refine (if_neg nb_0).trans ?_
        show (f_X12_look y2).bind _ = _
        rw [hm, bi, if_neg (fun z => q ((lvO_2 _).mpr (Or.inl z))), if_neg (fun z => q ((lvO_2 _).mpr (Or.inr (Or.inl z)))), if_neg (fun z => q ((lvO_2 _).mpr (Or.inr (Or.inr z))))]
/-- from a unit up to a whole TEXT -/
theorem rd_w {us k1 k2 k3 : Int32} {L : Nat} {T : Nat → Nat} {x0 y0 : ab_F} (hT : rd_T us L T x0 y0) (nm : Nat) {o n1 n2 : Nat} (hS : rd_S k1 k2 k3 x0 y0 L o (f_GA nm n1 1 (nI o) 0) (f_GB n2 5)) : rd_S k1 k2 k3 x0 y0 L o (f_GA nm (n1 + 6) 0 (nI 0) (nI o)) (f_GB (n2 + 5) 0) := by
  have e5 : f_GA nm (n1 + 1) 0 (nI 5) (nI o) = f_GA nm n1 1 (nI o) 0 := by
    funext x
    rw [ga0, g_X7_readLevel, if_neg (show ¬ nI 5 < (5 : Int32) from nI_nlt (b := 5) (by omega) (by omega)), bie]
  have s5 : rd_S k1 k2 k3 x0 y0 L o (f_GA nm (n1 + 1) 0 (nI 5) (nI o)) (f_GB n2 5) := by rw [e5]; exact hS
  have s4 := rd_lv (l := 4) hT nm (by omega) (by omega) (rd_M4 (f_GB n2)) (fun y => by rw [gb4, g_X12_product]) s5
  have s3 := rd_lv (l := 3) hT nm (by omega) (by omega) (rd_M3 (f_GB (n2 + 1))) (fun y => by rw [gb3, g_X12_sum]) s4
  have s2 := rd_lv2 hT nm s3
  have s1 := rd_lv (l := 1) hT nm (by omega) (by omega) (rd_M1 (f_GB (n2 + 1 + 1 + 1))) (fun y => by rw [gb1, g_X12_both]) s2
  exact rd_lv (l := 0) hT nm (by omega) (by omega) (rd_M0 (f_GB (n2 + 1 + 1 + 1 + 1))) (fun y => by rw [gb0, g_X12_whole]) s1
