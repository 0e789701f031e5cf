/-! WALK -/
theorem bt_1 : ∀ i, i < 32 → bt 1 i = decide (i = 0) := by decide +kernel
theorem b_one (n : Nat) (hn : n < 32) {i : Nat} (hi : i < 32) : (bt ((1 : Int32) <<< (nI n &&& 31)) i = true) ↔ i = n := by
  rw [b_shl n hn 1 hi, bt_1 (i - n) (by omega)]
  simp only [Bool.and_eq_true, decide_eq_true_eq]
  omega
theorem tbit (x : Int32) (c : Nat) (hc : c < 32) : (((x >>> (nI c &&& 31)) &&& (1 : Int32)) = (1 : Int32)) ↔ bt x c = true := by
  constructor
  · intro h
    have h2 : bt ((x >>> (nI c &&& 31)) &&& (1 : Int32)) 0 = bt 1 0 := by rw [h]
    rw [b_and, b_sshr c hc x (by omega), if_pos (by omega), show bt 1 0 = true by decide, Bool.and_true, Nat.add_zero] at h2
    exact h2
  · intro h
    refine b_ext (fun i hi => ?_)
    rw [b_and, bt_1 i hi]
    by_cases q : i = 0
    · subst q
      rw [b_sshr c hc x (by omega), if_pos (by omega), Nat.add_zero, h]; rfl
    · rw [decide_eq_false q, Bool.and_false]
theorem k65535 : ∀ i, i < 32 → bt 65535 i = decide (i < 16) := by decide +kernel
theorem k30583 : ∀ i, i < 32 → bt 30583 i = (decide (i < 16) && !decide (i % 4 = 3)) := by decide +kernel
theorem k61166 : ∀ i, i < 32 → bt 61166 i = (decide (i < 16) && !decide (i % 4 = 0)) := by decide +kernel
theorem bes_p : ∀ i, i < 16 → ∀ a, a < 16 → (bes a i = true ↔ ((4 ≤ i ∧ a = i - 4) ∨ a = 4 + i ∨ (1 ≤ i ∧ i % 4 ≠ 0 ∧ a = i - 1) ∨ (i % 4 ≠ 3 ∧ a = 1 + i))) := by decide +kernel
def aB (x : Int32) : Int32 := (((((x <<< ((4 : Int32) &&& 31)) &&& (65535 : Int32)) ||| (x >>> ((4 : Int32) &&& 31))) ||| ((x &&& (30583 : Int32)) <<< ((1 : Int32) &&& 31))) ||| ((x &&& (61166 : Int32)) >>> ((1 : Int32) &&& 31)))
theorem aB_b (x : Int32) (hx : ∀ i, 16 ≤ i → bt x i = false) {i : Nat} (hi : i < 16) : bt (aB x) i = true ↔ ∃ a, a < 16 ∧ bt x a = true ∧ bes a i = true := by
  have e : bt (aB x) i = (((((decide (4 ≤ i) && bt x (i - 4)) && bt 65535 i) || bt x (4 + i)) || (decide (1 ≤ i) && (bt x (i - 1) && bt 30583 (i - 1)))) || (bt x (1 + i) && bt 61166 (1 + i))) := by
    unfold aB
    rw [show ((4 : Int32) &&& 31) = (nI 4 &&& 31) from rfl, show ((1 : Int32) &&& 31) = (nI 1 &&& 31) from rfl, b_or, b_or, b_or, b_and, b_shl 4 (by omega) x (by omega), b_sshr 4 (by omega) x (by omega), if_pos (by omega), b_shl 1 (by omega) _ (by omega), b_sshr 1 (by omega) _ (by omega), if_pos (by omega), b_and, b_and]
  rw [e, k65535 i (by omega), k30583 (i - 1) (by omega), k61166 (1 + i) (by omega)]
  simp only [Bool.or_eq_true, Bool.and_eq_true, Bool.not_eq_true', decide_eq_true_eq, decide_eq_false_iff_not]
  constructor
  · intro h
    rcases h with ((⟨⟨h1, h2⟩, _⟩ | h2) | ⟨h1, h2, h3, h4⟩) | ⟨h2, h3, h4⟩
    · exact ⟨i - 4, by omega, h2, (bes_p i hi _ (by omega)).mpr (by omega)⟩
    · have q : 4 + i < 16 := by
        rcases Nat.lt_or_ge (4 + i) 16 with q | q
        · exact q
        · rw [hx _ q] at h2; exact absurd h2 (by decide)
      exact ⟨4 + i, q, h2, (bes_p i hi _ q).mpr (by omega)⟩
    · exact ⟨i - 1, by omega, h2, (bes_p i hi _ (by omega)).mpr (by omega)⟩
    · exact ⟨1 + i, h3, h2, (bes_p i hi _ h3).mpr (by omega)⟩
  · rintro ⟨a, ha, h1, h2⟩
    rcases (bes_p i hi a ha).mp h2 with ⟨q1, rfl⟩ | rfl | ⟨q1, q2, rfl⟩ | ⟨q1, rfl⟩
    · exact Or.inl (Or.inl (Or.inl ⟨⟨q1, h1⟩, hi⟩))
    · exact Or.inl (Or.inl (Or.inr h1))
    · exact Or.inl (Or.inr ⟨q1, h1, by omega, by omega⟩)
    · exact Or.inr ⟨h1, ha, by omega⟩
theorem drL {u : Nat → Nat → Nat} {σ : ab_F} {q : Nat} (hC : wC u σ 38) (hB : rB q u) (st : Nat) (hst : st ≤ 20) : ∀ d i n (a : Int32), i + d = 16 → d < n → ∃ b : Int32, (∀ K, f_X9_dryFor_L4 38 (nI st) σ K n a (nI i) = K b) ∧ ∀ j, j < 32 → (bt b j = true ↔ bt a j = true ∨ (i ≤ j ∧ j < 16 ∧ u 2 j ≤ st)) := by
  intro d
  induction d with
  | zero =>
    intro i n a h1 h2
    obtain ⟨m, rfl⟩ : ∃ m, n = m + 1 := ⟨n - 1, by omega⟩
    refine ⟨a, fun K => ?_, fun j hj => ⟨Or.inl, fun h => ?_⟩⟩
    · rw [f_X9_dryFor_L4, if_pos (show (16 : Int32) ≤ nI i from nI_le (a := 16) (by omega) (by omega))]
    · rcases h with h | h
      · exact h
      · omega
  | succ d ih =>
    intro i n a h1 h2
    obtain ⟨m, rfl⟩ : ∃ m, n = m + 1 := ⟨n - 1, by omega⟩
    have hb := bw2 hB (j := i) (by omega)
    by_cases q : u 2 i ≤ st
    · obtain ⟨b, t1, t2⟩ := ih (i + 1) m (a ||| ((1 : Int32) <<< (nI i &&& 31))) (by omega) (by omega)
      refine ⟨b, fun K => ?_, fun j hj => ?_⟩
      · rw [f_X9_dryFor_L4, if_neg (show ¬ (16 : Int32) ≤ nI i from nI_ge (b := 16) (by omega) (by omega)), ib_n (by omega) (by omega), ck_t, cl_n (by omega), c2 hC i (by omega), if_neg (nI_nlt q (by omega)), lt_d, lt_d, nI_1]; exact t1 K
      · rw [t2 j hj, b_or, Bool.or_eq_true, b_one i (by omega) hj]
        constructor
        · rintro ((h | h) | ⟨h3, h4, h5⟩)
          · exact Or.inl h
          · subst h; exact Or.inr ⟨Nat.le_refl _, by omega, q⟩
          · exact Or.inr ⟨by omega, h4, h5⟩
        · rintro (h | ⟨h3, h4, h5⟩)
          · exact Or.inl (Or.inl h)
          · by_cases z : j = i
            · exact Or.inl (Or.inr z)
            · exact Or.inr ⟨by omega, h4, h5⟩
    · obtain ⟨b, t1, t2⟩ := ih (i + 1) m a (by omega) (by omega)
      refine ⟨b, fun K => ?_, fun j hj => ?_⟩
      · rw [f_X9_dryFor_L4, if_neg (show ¬ (16 : Int32) ≤ nI i from nI_ge (b := 16) (by omega) (by omega)), ib_n (by omega) (by omega), ck_t, cl_n (by omega), c2 hC i (by omega), if_pos (nI_lt (by omega) (by omega)), lt_d, nI_1]; exact t1 K
      · rw [t2 j hj]
        constructor
        · rintro (h | ⟨h3, h4, h5⟩)
          · exact Or.inl h
          · exact Or.inr ⟨by omega, h4, h5⟩
        · rintro (h | ⟨h3, h4, h5⟩)
          · exact Or.inl h
          · by_cases z : j = i
            · subst z; exact absurd h5 q
            · exact Or.inr ⟨by omega, h4, h5⟩
def wkP (u : Nat → Nat → Nat) (x : Int32) (k e : Nat) : Prop := bt x (e / 16) = true ∧ bes (e / 16) (e % 16) = true ∧ u 2 (e % 16) ≤ u 9 k
theorem wiL {u : Nat → Nat → Nat} {τ : ab_F} {q : Nat} (hM : rM u (τ 86)) (hB : rB q u) {k : Nat} (hk : k < 8) (p2 p4 x : Int32) : ∀ d e n (a : Int32), e + d = 256 → d < n → ∃ b : Int32, (∀ K, f_X12_walk_L58 (nI k) p2 x p4 τ K n a (nI e) = K b) ∧ ∀ j, j < 32 → (bt b j = true ↔ bt a j = true ∨ ∃ f, e ≤ f ∧ f < 256 ∧ wkP u x k f ∧ f % 16 = j) := by
  have h9 := bw9 hB hk
  intro d
  induction d with
  | zero =>
    intro e n a h1 h2
    obtain ⟨m, rfl⟩ : ∃ m, n = m + 1 := ⟨n - 1, by omega⟩
    refine ⟨a, fun K => ?_, fun j hj => ⟨Or.inl, fun h => ?_⟩⟩
    · rw [f_X12_walk_L58, if_pos (show (256 : Int32) ≤ nI e from nI_le (a := 256) (by omega) (by omega))]
    · rcases h with h | ⟨f, h3, h4, _⟩
      · exact h
      · omega
  | succ d ih =>
    intro e n a h1 h2
    obtain ⟨m, rfl⟩ : ∃ m, n = m + 1 := ⟨n - 1, by omega⟩
    have n1 : ¬ (256 : Int32) ≤ nI e := nI_ge (b := 256) (by omega) (by omega)
    have e1 : nI e - nI e / (16 : Int32) * (16 : Int32) = nI (e % 16) := pk_rem (d := 16) (by omega) (by omega) (by omega)
    have e2 : nI e / (16 : Int32) = nI (e / 16) := pk_div (d := 16) (by omega) (by omega) (by omega)
    have l1 : e % 16 < 16 := by omega
    have l2 : e / 16 < 16 := by omega
    have hb := bw2 hB l1
    have i1 : f_X12_its (nI k) 3 τ = some (nI (u 9 k)) := its_n hM k 3 hk (by omega)
    have e3 : (28 : Int32) + nI (e % 16) = nI (28 + e % 16) := nI_add 28 _
    by_cases q0 : wkP u x k e
    · obtain ⟨b, t1, t2⟩ := ih (e + 1) m (a ||| ((1 : Int32) <<< (nI (e % 16) &&& 31))) (by omega) (by omega)
      refine ⟨b, fun K => ?_, fun j hj => ?_⟩
      · rw [f_X12_walk_L58, if_neg n1, e1, lt_d, e2, if_pos ((tbit x (e / 16) (by omega)).mpr q0.1), gs_t (show f_X12_areBeside (nI (e / 16)) (nI (e % 16)) τ = some true from (bes_n _ _ τ l2 l1).trans (congrArg some q0.2.1)), e3, ib_n (by omega) (by omega), ck_t, i1, bi, cl_n (by omega), d2 hM (e % 16) l1, if_neg (nI_nlt q0.2.2 (by omega)), lt_d, lt_d, nI_1]; exact t1 K
      · rw [t2 j hj, b_or, Bool.or_eq_true, b_one (e % 16) (by omega) hj]
        constructor
        · rintro ((h | h) | ⟨f, h3, h4, h5, h6⟩)
          · exact Or.inl h
          · exact Or.inr ⟨e, Nat.le_refl _, by omega, q0, h.symm⟩
          · exact Or.inr ⟨f, by omega, h4, h5, h6⟩
        · rintro (h | ⟨f, h3, h4, h5, h6⟩)
          · exact Or.inl (Or.inl h)
          · by_cases z : f = e
            · subst z; exact Or.inl (Or.inr h6.symm)
            · exact Or.inr ⟨f, by omega, h4, h5, h6⟩
    · obtain ⟨b, t1, t2⟩ := ih (e + 1) m a (by omega) (by omega)
      refine ⟨b, fun K => ?_, fun j hj => ?_⟩
      · rw [f_X12_walk_L58, if_neg n1, e1, lt_d, e2]
        by_cases r1 : bt x (e / 16) = true
        · rw [if_pos ((tbit x (e / 16) (by omega)).mpr r1)]
          by_cases r2 : bes (e / 16) (e % 16) = true
          · have r3 : ¬ u 2 (e % 16) ≤ u 9 k := fun z => q0 ⟨r1, r2, z⟩
            rw [gs_t (show f_X12_areBeside (nI (e / 16)) (nI (e % 16)) τ = some true from (bes_n _ _ τ l2 l1).trans (congrArg some r2)), e3, ib_n (by omega) (by omega), ck_t, i1, bi, cl_n (by omega), d2 hM (e % 16) l1, if_pos (nI_lt (by omega) (by omega)), lt_d, lt_d, Int32.or_zero, nI_1]; exact t1 K
          · rw [gs_f (show f_X12_areBeside (nI (e / 16)) (nI (e % 16)) τ = some false from (bes_n _ _ τ l2 l1).trans (congrArg some (eq_false_of_ne_true r2))), lt_d, lt_d, Int32.or_zero, nI_1]; exact t1 K
        · rw [if_neg (fun z => r1 ((tbit x (e / 16) (by omega)).mp z)), lt_d, lt_d, Int32.or_zero, nI_1]; exact t1 K
      · rw [t2 j hj]
        constructor
        · rintro (h | ⟨f, h3, h4, h5, h6⟩)
          · exact Or.inl h
          · exact Or.inr ⟨f, by omega, h4, h5, h6⟩
        · rintro (h | ⟨f, h3, h4, h5, h6⟩)
          · exact Or.inl h
          · by_cases z : f = e
            · subst z; exact absurd h5 q0
            · exact Or.inr ⟨f, by omega, h4, h5, h6⟩
theorem wkL {u : Nat → Nat → Nat} {σ τ : ab_F} {q : Nat} (hM : rM u (τ 86)) (hB : rB q u) {k c : Nat} (hk : k < 8) (hc : c < 16) {y : Int32} (hy : ∀ j, j < 32 → (bt y j = true ↔ j < 16 ∧ u 2 j ≤ u 9 k)) : ∀ d i n1 n2 (x : Int32), i + d = 16 → d < n1 → d < n2 → (∀ j, 16 ≤ j → bt x j = false) → (∃ t : Nat, (∀ K, f_X11_walk_L56 (nI c) y σ K n1 x (nI i) = some (nI t, σ)) ∧ ∀ K, f_X12_walk_L33 (nI k) (nI c) τ K n2 x (nI i) = some (nI t, τ)) ∨ ((∀ K, f_X11_walk_L56 (nI c) y σ K n1 x (nI i) = K) ∧ ∀ K, f_X12_walk_L33 (nI k) (nI c) τ K n2 x (nI i) = K) := by
  intro d
  induction d with
  | zero =>
    intro i n1 n2 x h1 h2 h3 hx
    obtain ⟨m1, rfl⟩ : ∃ m, n1 = m + 1 := ⟨n1 - 1, by omega⟩
    obtain ⟨m2, rfl⟩ : ∃ m, n2 = m + 1 := ⟨n2 - 1, by omega⟩
    have p1 : (16 : Int32) ≤ nI i := nI_le (a := 16) (by omega) (by omega)
    exact Or.inr ⟨fun K => by rw [f_X11_walk_L56, if_pos p1], fun K => by rw [f_X12_walk_L33, if_pos p1]⟩
  | succ d ih =>
    intro i n1 n2 x h1 h2 h3 hx
    obtain ⟨m1, rfl⟩ : ∃ m, n1 = m + 1 := ⟨n1 - 1, by omega⟩
    obtain ⟨m2, rfl⟩ : ∃ m, n2 = m + 1 := ⟨n2 - 1, by omega⟩
    have p1 : ¬ (16 : Int32) ≤ nI i := nI_ge (b := 16) (by omega) (by omega)
    by_cases r1 : bt x c = true
    · have p2 := (tbit x c (by omega)).mpr r1
      exact Or.inl ⟨i, fun K => by rw [f_X11_walk_L56, if_neg p1, if_pos p2], fun K => by rw [f_X12_walk_L33, if_neg p1, if_pos p2]⟩
    · have p2 : ¬ ((x >>> (nI c &&& 31)) &&& (1 : Int32)) = (1 : Int32) := fun z => r1 ((tbit x c (by omega)).mp z)
      obtain ⟨b, b1, b2⟩ := wiL hM hB hk (nI c) (nI i) x 256 0 ab_fu x (by omega) (by unfold ab_fu; omega)
      have b1' : ∀ K, f_X12_walk_L58 (nI k) (nI c) x (nI i) τ K ab_fu x (0 : Int32) = K b := b1
      have hb : b = x ||| (aB x &&& y) := b_ext (fun j hj => by
        rw [Bool.eq_iff_iff, b2 j hj, b_or, b_and, Bool.or_eq_true, Bool.and_eq_true, hy j hj]
        constructor
        · rintro (h | ⟨f, _, hf, ⟨g1, g2, g3⟩, g4⟩)
          · exact Or.inl h
          · subst g4
            have g5 : f % 16 < 16 := by omega
            exact Or.inr ⟨(aB_b x hx g5).mpr ⟨f / 16, by omega, g1, g2⟩, g5, g3⟩
        · rintro (h | ⟨g1, g2, g3⟩)
          · exact Or.inl h
          · obtain ⟨a, ha, a1, a2⟩ := (aB_b x hx g2).mp g1
            have z1 : (16 * a + j) / 16 = a := by omega
            have z2 : (16 * a + j) % 16 = j := by omega
            exact Or.inr ⟨16 * a + j, by omega, by omega, ⟨by rw [z1]; exact a1, by rw [z1, z2]; exact a2, by rw [z2]; exact g3⟩, z2⟩)
      have hx2 : ∀ j, 16 ≤ j → bt (x ||| (aB x &&& y)) j = false := fun j hj => by
        rcases Nat.lt_or_ge j 32 with z | z
        · have : bt y j = false := eq_false_of_ne_true (fun w => by have := ((hy j z).mp w).1; omega)
          rw [b_or, b_and, hx j hj, this, Bool.and_false, Bool.or_false]
        · exact b_big z
      have f1 : ∀ K, f_X11_walk_L56 (nI c) y σ K (m1 + 1) x (nI i) = f_X11_walk_L56 (nI c) y σ K m1 (x ||| (aB x &&& y)) (nI (i + 1)) := fun K => by
        rw [f_X11_walk_L56, if_neg p1, if_neg p2, show f_X11_allBeside x σ = some (aB x) from rfl, bi, lt_d, lt_d, nI_1]
      have f2 : ∀ K, f_X12_walk_L33 (nI k) (nI c) τ K (m2 + 1) x (nI i) = f_X12_walk_L33 (nI k) (nI c) τ K m2 (x ||| (aB x &&& y)) (nI (i + 1)) := fun K => by
        rw [f_X12_walk_L33, if_neg p1, if_neg p2, b1', lt_d, nI_1, hb]
      rcases ih (i + 1) m1 m2 (x ||| (aB x &&& y)) (by omega) (by omega) (by omega) hx2 with ⟨t, t1, t2⟩ | ⟨t1, t2⟩
      · exact Or.inl ⟨t, fun K => (f1 K).trans (t1 K), fun K => (f2 K).trans (t2 K)⟩
      · exact Or.inr ⟨fun K => (f1 K).trans (t1 K), fun K => (f2 K).trans (t2 K)⟩
theorem m_walk (a0 a1 : Int32) : ok2 rR (f_X11_walk a0 a1) (f_X12_walk a0 a1) := by
  intro σ h
  obtain ⟨u0, hB0, hC0, hM0⟩ := rR_u h
  have hp := b11 hB0
  rcases go a0 (u0 0 11) hp with ⟨k, hk, rfl⟩ | ⟨hx, hy⟩
  · have hk8 : k < 8 := by omega
    rcases gd a1 15 (by omega) with ⟨c, hc, rfl⟩ | ⟨hx, hy⟩
    · refine dy_top h (fun τ hτ => ?_)
      have e86 : τ 86 = σ 86 := hτ 86 n86 (by omega)
      have hM : rM u0 (τ 86) := by rw [e86]; exact hM0
      have g1 := nb_n (σ := σ) (by omega) hk (c0_11 hC0)
      have g2 := is_n (σ := τ) (by omega) hk (d0_11 hM)
      have o1 : f_X11_outside (nI c) 15 σ = some false := ou_n (j := c) (n := 15) σ (by omega) (by omega)
      have hc8 := bw8 hB0 hk8
      obtain ⟨y, y1, y2⟩ := drL hC0 hB0 (u0 9 k) (bw9 hB0 hk8) 16 0 ab_fu (0 : Int32) (by omega) (by unfold ab_fu; omega)
      have yf : f_X9_dryFor 38 (nI (u0 9 k)) σ = some y := by unfold f_X9_dryFor; exact y1 _
      have y3 : ∀ j, j < 32 → (bt y j = true ↔ j < 16 ∧ u0 2 j ≤ u0 9 k) := fun j hj => by
        rw [y2 j hj, b_0]
        constructor
        · rintro (z | ⟨_, z2, z3⟩)
          · exact absurd z (by decide)
          · exact ⟨z2, z3⟩
        · rintro ⟨z2, z3⟩
          exact Or.inr ⟨Nat.zero_le _, z2, z3⟩
      have x0 : ∀ j, 16 ≤ j → bt ((1 : Int32) <<< (nI (u0 8 k) &&& 31)) j = false := fun j hj => by
        rcases Nat.lt_or_ge j 32 with z | z
        · exact eq_false_of_ne_true (fun w => by have := (b_one (u0 8 k) (by omega) z).mp w; omega)
        · exact b_big z
      have W := wkL (σ := σ) hM hB0 hk8 (show c < 16 by omega) y3 16 0 ab_fu ab_fu ((1 : Int32) <<< (nI (u0 8 k) &&& 31)) (by omega) (by unfold ab_fu; omega) (by unfold ab_fu; omega) x0
      have F1 : f_X11_walk (nI k) (nI c) σ = f_X11_walk_L56 (nI c) y σ ((f_X11_refuse (2 : Int32) σ).bind (fun q15 => (some (q15.1, q15.2)))) ab_fu ((1 : Int32) <<< (nI (u0 8 k) &&& 31)) (nI 0) := by
        unfold f_X11_walk
        rw [gs_f g1, gs_f o1, ib_n hk8 (by omega), ck_t, cl_n (by omega), show σ 47 k = nI (u0 9 k) from c9 hC0 k hk8, yf, bi, ck_t, lt_d, show σ 46 k = nI (u0 8 k) from c8 hC0 k hk8]
        rfl
      have F2 : f_X12_walk (nI k) (nI c) τ = f_X12_walk_L33 (nI k) (nI c) τ ((f_X12_error (2 : Int32) τ).bind (fun q28 => (some (q28.1, q28.2)))) ab_fu ((1 : Int32) <<< (nI (u0 8 k) &&& 31)) (nI 0) := by
        unfold f_X12_walk
        rw [gs_t g2, gs_t (isC_n τ hc), show f_X12_its (nI k) 2 τ = some (nI (u0 8 k)) from its_n hM k 2 hk8 (by omega), bi, lt_d]
        rfl
      rcases W with ⟨t, t1, t2⟩ | ⟨t1, t2⟩
      · exact Or.inl ⟨nI t, σ, τ, F1.trans (t1 _), F2.trans (t2 _), dy_r σ, dy_r τ⟩
      · exact Or.inr ⟨2, σ, τ, by omega, (F1.trans (t1 _)).trans (bie _), (F2.trans (t2 _)).trans (bie _), dy_r σ, dy_r τ⟩
    · refine er2 h 1 (by omega) ?_ (fun τ hτ => ?_)
      · unfold f_X11_walk
        rw [gs_f (nb_n (by omega) hk (c0_11 hC0)), gs_t (show f_X11_outside a1 15 σ = some true from hx σ), bie]; rfl
      · unfold f_X12_walk
        rw [gs_t (is_n (by omega) hk (by rw [hτ 86 (by omega)]; exact d0_11 hM0)), gs_f (isC_x τ hy), bie]; rfl
  · refine er2 h 1 (by omega) ?_ (fun τ hτ => ?_)
    · unfold f_X11_walk
      rw [gs_t (hx σ (c0_11 hC0)), bie]; rfl
    · unfold f_X12_walk
      rw [gs_f (hy τ (by rw [hτ 86 (by omega)]; exact d0_11 hM0)), bie]; rfl
