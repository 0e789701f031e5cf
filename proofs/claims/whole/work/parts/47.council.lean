/-! COUNCIL -/
theorem amL {u : Nat → Nat → Nat} {σ τ : ab_F} {q : Nat} (hC : wC u σ 38) (hM : rM u (τ 86)) (hB : rB q u) (p p1 p2 : Int32) : ∀ d i n1 n2 (a : Int32), i + d = u 0 11 → d < n1 → d < n2 → ∃ b : Int32, (∀ K, f_X9_knownAmong_L4 38 p σ K n1 a (nI i) = K b) ∧ ∀ K, f_X12_council_L39 p1 p2 p τ K n2 a (nI i) = K b := by
  have hp := b11 hB
  intro d
  induction d with
  | zero =>
    intro i n1 n2 a h1 h2 h3
    obtain ⟨m1, rfl⟩ : ∃ m, n1 = m + 1 := ⟨n1 - 1, by omega⟩
    obtain ⟨m2, rfl⟩ : ∃ m, n2 = m + 1 := ⟨n2 - 1, by omega⟩
    refine ⟨a, fun K => ?_, fun K => ?_⟩
    · rw [f_X9_knownAmong_L4, c0_11 hC, if_pos (nI_le (by omega) (by omega))]
    · rw [f_X12_council_L39, d0_11 hM, if_pos (nI_le (by omega) (by omega))]
  | succ d ih =>
    intro i n1 n2 a h1 h2 h3
    obtain ⟨m1, rfl⟩ : ∃ m, n1 = m + 1 := ⟨n1 - 1, by omega⟩
    obtain ⟨m2, rfl⟩ : ∃ m, n2 = m + 1 := ⟨n2 - 1, by omega⟩
    by_cases q1 : ((p >>> (nI i &&& 31)) &&& (1 : Int32)) = (1 : Int32)
    · obtain ⟨b, t1, t2⟩ := ih (i + 1) m1 m2 (a ||| nI (u 10 i)) (by omega) (by omega) (by omega)
      refine ⟨b, fun K => ?_, fun K => ?_⟩
      · rw [f_X9_knownAmong_L4, c0_11 hC, if_neg (nI_ge (by omega) (by omega)), if_pos q1, ib_n (by omega) (by omega), ck_t, lt_d, lt_d, cl_n (by omega), c10 hC i (by omega), nI_1]; exact t1 K
      · rw [f_X12_council_L39, d0_11 hM, if_neg (nI_ge (by omega) (by omega)), if_pos q1, show f_X12_its (nI i) 4 τ = some (nI (u 10 i)) from its_n hM i 4 (by omega) (by omega), bi, lt_d, lt_d, nI_1]; exact t2 K
    · obtain ⟨b, t1, t2⟩ := ih (i + 1) m1 m2 a (by omega) (by omega) (by omega)
      refine ⟨b, fun K => ?_, fun K => ?_⟩
      · rw [f_X9_knownAmong_L4, c0_11 hC, if_neg (nI_ge (by omega) (by omega)), if_neg q1, lt_d, nI_1]; exact t1 K
      · rw [f_X12_council_L39, d0_11 hM, if_neg (nI_ge (by omega) (by omega)), if_neg q1, lt_d, lt_d, Int32.or_zero, nI_1]; exact t2 K
theorem co_sh : ∀ p, p < 31 → (1 : Int32) <<< (nI p &&& 31) = nI (2 ^ p) := by decide +kernel
theorem bc8 : ∀ i, i < 256 → bc i ≤ 8 := by decide +kernel
def few : Option Nat → Nat
  | none => 9
  | some k => bc k
theorem coL {u : Nat → Nat → Nat} {σ τ : ab_F} {q : Nat} (hC : wC u σ 38) (hM : rM u (τ 86)) (hB : rB q u) (p : Int32) : ∀ d i n1 n2 (t : Option Nat), i + d = 2 ^ (u 0 11) → d < n1 → d < n2 → (∀ k, t = some k → k < 256) → ∃ t2 : Option Nat, (∀ k, t2 = some k → k < 256) ∧ (∀ K, f_X11_council_L24 p σ K n1 (eto t) (nI (few t)) (nI i) = K (eto t2)) ∧ ∀ K, f_X12_council_L21 p τ K n2 (eto t) (nI i) = K (eto t2) := by
  have hp := b11 hB
  have h256 : 2 ^ (u 0 11) ≤ 2 ^ 8 := Nat.pow_le_pow_right (by omega) hp
  have s1 : (1 : Int32) <<< (nI (u 0 11) &&& 31) = nI (2 ^ (u 0 11)) := co_sh _ (by omega)
  have sC : σ 38 11 = nI (u 0 11) := c0_11 hC
  have sM : τ 86 5 = nI (u 0 11) := d0_11 hM
  generalize hN : 2 ^ (u 0 11) = N at *
  intro d
  induction d with
  | zero =>
    intro i n1 n2 t h1 h2 h3 ht
    obtain ⟨m1, rfl⟩ : ∃ m, n1 = m + 1 := ⟨n1 - 1, by omega⟩
    obtain ⟨m2, rfl⟩ : ∃ m, n2 = m + 1 := ⟨n2 - 1, by omega⟩
    refine ⟨t, ht, fun K => ?_, fun K => ?_⟩
    · rw [f_X11_council_L24, sC, s1, if_pos (nI_le (by omega) (by omega))]
    · rw [f_X12_council_L21, sM, s1, if_pos (nI_le (by omega) (by omega))]
  | succ d ih =>
    intro i n1 n2 t h1 h2 h3 ht
    obtain ⟨m1, rfl⟩ : ∃ m, n1 = m + 1 := ⟨n1 - 1, by omega⟩
    obtain ⟨m2, rfl⟩ : ∃ m, n2 = m + 1 := ⟨n2 - 1, by omega⟩
    obtain ⟨b, b1, b2⟩ := amL hC hM hB (nI i) p (eto t) (u 0 11) 0 ab_fu ab_fu (0 : Int32) (by omega) (by unfold ab_fu; omega) (by unfold ab_fu; omega)
    have x1 : f_X9_knownAmong 38 (nI i) σ = some b := by unfold f_X9_knownAmong; exact b1 _
    have y1 : ∀ K, f_X12_council_L39 p (eto t) (nI i) τ K ab_fu (0 : Int32) (0 : Int32) = K b := b2
    have c1 : f_J6_bitCount_0f7a4 (nI i) σ = some (nI (bc i)) := bc_c i σ (by omega)
    have hi8 := bc8 i (by omega)
    have hf : few t ≤ 12 := by
      cases t with
      | none => show 9 ≤ 12; omega
      | some k => exact bc_le (by have := ht k rfl; omega)
    by_cases q1 : few t ≤ bc i
    · obtain ⟨t2, g1, g2, g3⟩ := ih (i + 1) m1 m2 t (by omega) (by omega) (by omega) ht
      refine ⟨t2, g1, fun K => ?_, fun K => ?_⟩
      · rw [f_X11_council_L24, sC, s1, if_neg (nI_ge (by omega) (by omega)), c1, bi, if_pos (nI_le q1 (by omega)), lt_d, nI_1]; exact g2 K
      · cases t with
        | none => exact absurd q1 (by show ¬ 9 ≤ bc i; omega)
        | some k =>
          have hk := ht k rfl
          rw [f_X12_council_L21, sM, s1, if_neg (nI_ge (by omega) (by omega)), y1, eto_s, if_neg (nI_pos (by omega)), bc_m i τ (by omega), bi, bc_m k τ (by omega), bi, if_pos (nI_le (show bc k ≤ bc i from q1) (by omega)), lt_d, nI_1]; exact g3 K
    · by_cases q2 : (p &&& (b ^^^ (-1 : Int32))) = 0
      · obtain ⟨t2, g1, g2, g3⟩ := ih (i + 1) m1 m2 (some i) (by omega) (by omega) (by omega) (fun k hk => by cases hk; omega)
        refine ⟨t2, g1, fun K => ?_, fun K => ?_⟩
        · rw [f_X11_council_L24, sC, s1, if_neg (nI_ge (by omega) (by omega)), c1, bi, if_neg (nI_ge (by omega) (by omega)), x1, bi, if_pos q2, lt_d, nI_1]; exact g2 K
        · rw [f_X12_council_L21, sM, s1, if_neg (nI_ge (by omega) (by omega)), y1]
          cases t with
          | none => rw [if_pos (show eto none < 0 by decide), if_pos q2, lt_d, nI_1]; exact g3 K
          | some k =>
            have hk := ht k rfl
            have hbk := bc_le (x := k) (by omega)
            have q1' : ¬ bc k ≤ bc i := q1
            rw [eto_s, if_neg (nI_pos (by omega)), bc_m i τ (by omega), bi, bc_m k τ (by omega), bi, if_neg (nI_ge (by omega) (by omega)), if_pos q2, lt_d, nI_1]; exact g3 K
      · obtain ⟨t2, g1, g2, g3⟩ := ih (i + 1) m1 m2 t (by omega) (by omega) (by omega) ht
        refine ⟨t2, g1, fun K => ?_, fun K => ?_⟩
        · rw [f_X11_council_L24, sC, s1, if_neg (nI_ge (by omega) (by omega)), c1, bi, if_neg (nI_ge (by omega) (by omega)), x1, bi, if_neg q2, lt_d, nI_1]; exact g2 K
        · rw [f_X12_council_L21, sM, s1, if_neg (nI_ge (by omega) (by omega)), y1]
          cases t with
          | none => rw [if_pos (show eto none < 0 by decide), if_neg q2, lt_d, nI_1]; exact g3 K
          | some k =>
            have hk := ht k rfl
            have hbk := bc_le (x := k) (by omega)
            have q1' : ¬ bc k ≤ bc i := q1
            rw [eto_s, if_neg (nI_pos (by omega)), bc_m i τ (by omega), bi, bc_m k τ (by omega), bi, if_neg (nI_ge (by omega) (by omega)), if_neg q2, lt_d, nI_1]; exact g3 K
theorem m_council (a0 : Int32) : ok2 rR (f_X11_council a0) (f_X12_council a0) := by
  intro σ h
  rcases gd a0 4095 (by omega) with ⟨w, hw, rfl⟩ | ⟨hx, hy⟩
  · refine dy_top h (fun τ hτ => ?_)
    have e86 : τ 86 = σ 86 := hτ 86 n86 (by omega)
    obtain ⟨u, hB, hC, hM, hT⟩ := dy_cx h e86
    have hp := b11 hB
    have h256 : 2 ^ (u 0 11) ≤ 2 ^ 8 := Nat.pow_le_pow_right (by omega) hp
    obtain ⟨t2, g1, g2, g3⟩ := coL hC hM hB (nI w) (2 ^ (u 0 11)) 0 ab_fu ab_fu none (by omega) (by unfold ab_fu; omega) (by unfold ab_fu; omega) (fun k hk => by cases hk)
    have g2' : ∀ K, f_X11_council_L24 (nI w) σ K ab_fu (-1 : Int32) (9 : Int32) (0 : Int32) = K (eto t2) := g2
    have g3' : ∀ K, f_X12_council_L21 (nI w) τ K ab_fu (-1 : Int32) (0 : Int32) = K (eto t2) := g3
    have o1 : f_X11_outside (nI w) 4095 σ = some false := ou_n (j := w) (n := 4095) σ (by omega) (by omega)
    have o2 : f_X12_in (nI w) 0 4095 τ = some true := in_n (j := w) (l := 0) (n := 4095) τ (Nat.zero_le _) (by omega) (by omega)
    cases t2 with
    | none =>
      refine Or.inr ⟨2, σ, τ, by omega, ?_, ?_, dy_r σ, dy_r τ⟩
      · unfold f_X11_council
        rw [gs_f o1, g2', if_neg (show ¬ (0 : Int32) ≤ eto none by decide), bie]; rfl
      · unfold f_X12_council
        rw [gs_t o2, g3', if_neg (show ¬ (0 : Int32) ≤ eto none by decide), bie]; rfl
    | some k =>
      have hk := g1 k rfl
      refine Or.inl ⟨nI k, σ, τ, ?_, ?_, dy_r σ, dy_r τ⟩
      · unfold f_X11_council
        rw [gs_f o1, g2', eto_s, if_pos (nI_pos' (by omega))]
      · unfold f_X12_council
        rw [gs_t o2, g3', eto_s, if_pos (nI_pos' (by omega))]
  · refine er2 h 1 (by omega) ?_ (fun τ hτ => ?_)
    · unfold f_X11_council
      rw [gs_t (show f_X11_outside a0 4095 σ = some true from hx σ), bie]; rfl
    · unfold f_X12_council
      rw [gs_f (show f_X12_in a0 0 4095 τ = some false from hy τ), bie]; rfl
