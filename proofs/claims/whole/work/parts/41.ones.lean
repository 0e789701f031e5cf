/-! oneIs, cut, law, check, count -/
theorem dy_e34 {σ σ2 : ab_F} (h : ∀ e, e ≠ 34 → σ2 e = σ e) : dy_fr σ σ2 := fun c hc => h c (by unfold scr at hc; omega)
theorem dy_e37 {σ σ2 : ab_F} (h : ∀ e, e ≠ 37 → σ2 e = σ e) : dy_fr σ σ2 := fun c hc => h c (by unfold scr at hc; omega)
theorem dy_e91 {σ σ2 : ab_F} (h : ∀ e, e ≠ 91 → e ≠ 92 → σ2 e = σ e) : dy_fr σ σ2 := fun c hc => h c (by unfold scr at hc; omega) (by unfold scr at hc; omega)
theorem m_law (a0 a1 a2 a3 : Int32) : ok2 rR (f_X11_law a0 a1 a2 a3) (f_X12_law a0 a1 a2 a3) := by
  intro σ h
  rcases gd a0 1 (by omega) with ⟨w, hw, rfl⟩ | ⟨hx, hy⟩
  · refine dy_top h (fun τ hτ => Or.inl ?_)
    have e86 : τ 86 = σ 86 := hτ 86 n86 (by omega)
    obtain ⟨_, _, _, _, hT⟩ := dy_cx h e86
    have h2 : w = 0 ∨ w = 1 := by omega
    rcases h2 with rfl | rfl
    · obtain ⟨v, σ2, τ2, hv, e1, e2, e3, e4⟩ := byD 38 a1 a2 a3 σ τ hT.1
      refine ⟨nI v, σ2, τ2, ?_, ?_, dy_e34 e3, dy_e91 e4⟩
      · unfold f_X11_law
        rw [gs_f (show f_X11_outside (nI 0) 1 σ = some false from ou_n (j := 0) (n := 1) σ (by omega) (by omega)), if_pos (show nI 0 = (0 : Int32) from rfl), e1, bi]
      · unfold f_X12_law
        rw [gs_t (show f_X12_in (nI 0) 0 1 τ = some true from in_n (j := 0) (l := 0) (n := 1) τ (Nat.zero_le _) (by omega) (by omega)), show f_X12_givenBy (nI 0) a1 a2 a3 τ = some (nI v, τ2) from e2, bi]
    · obtain ⟨v, σ2, τ2, hv, e1, e2, e3, e4⟩ := byM 38 a1 a2 a3 σ τ hT.2
      refine ⟨nI v, σ2, τ2, ?_, ?_, dy_e37 e3, dy_e91 e4⟩
      · unfold f_X11_law
        rw [gs_f (show f_X11_outside (nI 1) 1 σ = some false from ou_n (j := 1) (n := 1) σ (by omega) (by omega)), if_neg (show ¬ nI 1 = (0 : Int32) by decide), e1, bi]
      · unfold f_X12_law
        rw [gs_t (show f_X12_in (nI 1) 0 1 τ = some true from in_n (j := 1) (l := 0) (n := 1) τ (Nat.zero_le _) (by omega) (by omega)), show f_X12_givenBy (nI 1) a1 a2 a3 τ = some (nI v, τ2) from e2, bi]
  · refine er2 h 1 (by omega) ?_ (fun τ hτ => ?_)
    · unfold f_X11_law
      rw [gs_t (show f_X11_outside a0 1 σ = some true from hx σ), bie]; rfl
    · unfold f_X12_law
      rw [gs_f (show f_X12_in a0 0 1 τ = some false from hy τ), bie]; rfl
theorem le7 {j : Nat} (h : j ≤ 7) : j ≤ 4 ∨ j = 5 ∨ j = 6 ∨ j = 7 := by omega
theorem m_oneIs (a0 a1 : Int32) : ok2 rR (f_X11_oneIs a0 a1) (f_X12_oneIs a0 a1) := by
  intro σ h
  obtain ⟨u0, hB0, hC0, hM0⟩ := rR_u h
  have hp := b11 hB0
  rcases go a0 (u0 0 11) hp with ⟨k, hk, rfl⟩ | ⟨hx, hy⟩
  · have hk8 : k < 8 := by omega
    rcases gd a1 7 (by omega) with ⟨w, hw, rfl⟩ | ⟨hx, hy⟩
    · refine dy_top h (fun τ hτ => Or.inl ?_)
      have e86 : τ 86 = σ 86 := hτ 86 n86 (by omega)
      obtain ⟨_, _, _, _, hT⟩ := dy_cx h e86
      have hM : rM u0 (τ 86) := by rw [e86]; exact hM0
      have g1 := nb_n (σ := σ) (by omega) hk (c0_11 hC0)
      have g2 := is_n (σ := τ) (by omega) hk (d0_11 hM)
      rcases le7 hw with h5 | rfl | rfl | rfl
      · refine ⟨nI (u0 (6 + w) k), σ, τ, ?_, ?_, dy_r σ, dy_r τ⟩
        · unfold f_X11_oneIs
          rw [gs_f g1, ib_n hk8 (by omega), cl_n (by omega)]
          have h6 : w = 0 ∨ w = 1 ∨ w = 2 ∨ w = 3 ∨ w = 4 := by omega
          rcases h6 with rfl | rfl | rfl | rfl | rfl
          · rw [if_pos (show nI 0 = (0 : Int32) from rfl), ck_t, show σ 44 k = nI (u0 6 k) from c6 hC0 k hk8]
          · rw [if_neg (show ¬ nI 1 = (0 : Int32) by decide), if_pos (show nI 1 = (1 : Int32) from rfl), ck_t, show σ 45 k = nI (u0 7 k) from c7 hC0 k hk8]
          · rw [if_neg (show ¬ nI 2 = (0 : Int32) by decide), if_neg (show ¬ nI 2 = (1 : Int32) by decide), if_pos (show nI 2 = (2 : Int32) from rfl), ck_t, show σ 46 k = nI (u0 8 k) from c8 hC0 k hk8]
          · rw [if_neg (show ¬ nI 3 = (0 : Int32) by decide), if_neg (show ¬ nI 3 = (1 : Int32) by decide), if_neg (show ¬ nI 3 = (2 : Int32) by decide), if_pos (show nI 3 = (3 : Int32) from rfl), ck_t, show σ 47 k = nI (u0 9 k) from c9 hC0 k hk8]
          · rw [if_neg (show ¬ nI 4 = (0 : Int32) by decide), if_neg (show ¬ nI 4 = (1 : Int32) by decide), if_neg (show ¬ nI 4 = (2 : Int32) by decide), if_neg (show ¬ nI 4 = (3 : Int32) by decide), if_pos (show nI 4 = (4 : Int32) from rfl), ck_t, show σ 48 k = nI (u0 10 k) from c10 hC0 k hk8]
        · unfold f_X12_oneIs
          have n5 : ¬ nI w = (5 : Int32) := fun z => by have := (nI_eq (b := 5) (by omega) (by omega)).mp z; omega
          have n6 : ¬ nI w = (6 : Int32) := fun z => by have := (nI_eq (b := 6) (by omega) (by omega)).mp z; omega
          have n7 : ¬ nI w = (7 : Int32) := fun z => by have := (nI_eq (b := 7) (by omega) (by omega)).mp z; omega
          rw [gs_t g2, gs_t (show f_X12_in (nI w) 0 7 τ = some true from in_n (j := w) (l := 0) (n := 7) τ (Nat.zero_le _) (by omega) (by omega)), if_neg n5, if_neg n6, if_neg n7, its_n hM k w hk8 h5, bi]
      · have e1 := wetC hC0 hB0 hk8
        have e2 := wetM hM hB0 hk8
        cases hwt : dy_wet u0 k with
        | false =>
          rw [hwt] at e1 e2
          refine ⟨0, σ, τ, ?_, ?_, dy_r σ, dy_r τ⟩
          · unfold f_X11_oneIs
            rw [gs_f g1, if_neg (show ¬ nI 5 = (0 : Int32) by decide), if_neg (show ¬ nI 5 = (1 : Int32) by decide), if_neg (show ¬ nI 5 = (2 : Int32) by decide), if_neg (show ¬ nI 5 = (3 : Int32) by decide), if_neg (show ¬ nI 5 = (4 : Int32) by decide), if_pos (show nI 5 = (5 : Int32) from rfl), gs_f e1]
          · unfold f_X12_oneIs
            rw [gs_t g2, gs_t (show f_X12_in (nI 5) 0 7 τ = some true from in_n (j := 5) (l := 0) (n := 7) τ (Nat.zero_le _) (by omega) (by omega)), if_pos (show nI 5 = (5 : Int32) from rfl), gs_f e2]
        | true =>
          rw [hwt] at e1 e2
          refine ⟨1, σ, τ, ?_, ?_, dy_r σ, dy_r τ⟩
          · unfold f_X11_oneIs
            rw [gs_f g1, if_neg (show ¬ nI 5 = (0 : Int32) by decide), if_neg (show ¬ nI 5 = (1 : Int32) by decide), if_neg (show ¬ nI 5 = (2 : Int32) by decide), if_neg (show ¬ nI 5 = (3 : Int32) by decide), if_neg (show ¬ nI 5 = (4 : Int32) by decide), if_pos (show nI 5 = (5 : Int32) from rfl), gs_t e1]
          · unfold f_X12_oneIs
            rw [gs_t g2, gs_t (show f_X12_in (nI 5) 0 7 τ = some true from in_n (j := 5) (l := 0) (n := 7) τ (Nat.zero_le _) (by omega) (by omega)), if_pos (show nI 5 = (5 : Int32) from rfl), gs_t e2]
      · obtain ⟨v, σ2, τ2, hv, e1, e2, e3, e4⟩ := doR (by omega) hC0 hM hB0 hk8 hT.1
        refine ⟨nI v, σ2, τ2, ?_, ?_, dy_e34 e3, dy_e91 e4⟩
        · unfold f_X11_oneIs
          rw [gs_f g1, if_neg (show ¬ nI 6 = (0 : Int32) by decide), if_neg (show ¬ nI 6 = (1 : Int32) by decide), if_neg (show ¬ nI 6 = (2 : Int32) by decide), if_neg (show ¬ nI 6 = (3 : Int32) by decide), if_neg (show ¬ nI 6 = (4 : Int32) by decide), if_neg (show ¬ nI 6 = (5 : Int32) by decide), if_pos (show nI 6 = (6 : Int32) from rfl), e1, bi]
        · unfold f_X12_oneIs
          rw [gs_t g2, gs_t (show f_X12_in (nI 6) 0 7 τ = some true from in_n (j := 6) (l := 0) (n := 7) τ (Nat.zero_le _) (by omega) (by omega)), if_neg (show ¬ nI 6 = (5 : Int32) by decide), if_pos (show nI 6 = (6 : Int32) from rfl), e2, bi]
      · obtain ⟨v, σ2, τ2, hv, e1, e2, e3, e4⟩ := maR (by omega) hC0 hM hB0 hk8 hT.2
        refine ⟨nI v, σ2, τ2, ?_, ?_, dy_e37 e3, dy_e91 e4⟩
        · unfold f_X11_oneIs
          rw [gs_f g1, if_neg (show ¬ nI 7 = (0 : Int32) by decide), if_neg (show ¬ nI 7 = (1 : Int32) by decide), if_neg (show ¬ nI 7 = (2 : Int32) by decide), if_neg (show ¬ nI 7 = (3 : Int32) by decide), if_neg (show ¬ nI 7 = (4 : Int32) by decide), if_neg (show ¬ nI 7 = (5 : Int32) by decide), if_neg (show ¬ nI 7 = (6 : Int32) by decide), if_pos (show nI 7 = (7 : Int32) from rfl), e1, bi]
        · unfold f_X12_oneIs
          rw [gs_t g2, gs_t (show f_X12_in (nI 7) 0 7 τ = some true from in_n (j := 7) (l := 0) (n := 7) τ (Nat.zero_le _) (by omega) (by omega)), if_neg (show ¬ nI 7 = (5 : Int32) by decide), if_neg (show ¬ nI 7 = (6 : Int32) by decide), if_pos (show nI 7 = (7 : Int32) from rfl), e2, bi]
    · have hno : ∀ j : Nat, j ≤ 7 → ¬ a1 = nI j := fun j hj z => by
        have := hx σ
        rw [z, ou_n σ hj (by omega)] at this
        cases this
      refine er2 h 1 (by omega) ?_ (fun τ hτ => ?_)
      · unfold f_X11_oneIs
        rw [gs_f (nb_n (by omega) hk (c0_11 hC0)), if_neg (show ¬ a1 = (0 : Int32) from hno 0 (by omega)), if_neg (show ¬ a1 = (1 : Int32) from hno 1 (by omega)), if_neg (show ¬ a1 = (2 : Int32) from hno 2 (by omega)), if_neg (show ¬ a1 = (3 : Int32) from hno 3 (by omega)), if_neg (show ¬ a1 = (4 : Int32) from hno 4 (by omega)), if_neg (show ¬ a1 = (5 : Int32) from hno 5 (by omega)), if_neg (show ¬ a1 = (6 : Int32) from hno 6 (by omega)), if_neg (show ¬ a1 = (7 : Int32) from hno 7 (by omega)), bie]; rfl
      · unfold f_X12_oneIs
        rw [gs_t (is_n (by omega) hk (by rw [hτ 86 (by omega)]; exact d0_11 hM0)), gs_f (show f_X12_in a1 0 7 τ = some false from hy τ), bie]; rfl
  · refine er2 h 1 (by omega) ?_ (fun τ hτ => ?_)
    · unfold f_X11_oneIs
      rw [gs_t (hx σ (c0_11 hC0)), bie]; rfl
    · unfold f_X12_oneIs
      rw [gs_f (hy τ (by rw [hτ 86 (by omega)]; exact d0_11 hM0)), bie]; rfl
theorem m_cut (a0 : Int32) : ok2 rR (f_X11_cut a0) (f_X12_cut a0) := by
  intro σ h
  obtain ⟨u0, hB0, hC0, hM0⟩ := rR_u h
  have hp := b11 hB0
  rcases go a0 (u0 0 11) hp with ⟨k, hk, rfl⟩ | ⟨hx, hy⟩
  · have hk8 : k < 8 := by omega
    refine dy_topW h (fun τ hτ => ?_)
    have e86 : τ 86 = σ 86 := hτ 86 n86 (by omega)
    obtain ⟨_, _, _, _, hT⟩ := dy_cx h e86
    have hM : rM u0 (τ 86) := by rw [e86]; exact hM0
    obtain ⟨v, σ2, τ2, hv, e1, e2, e3, e4⟩ := maR (by omega) hC0 hM hB0 hk8 hT.2
    have C2 : wC u0 σ2 38 := wC_fr hC0 (fun e h1 h2 => e3 e (by omega))
    have M2 : rM u0 (τ2 86) := by rw [e4 86 (by omega) (by omega)]; exact hM
    have hv9 : val 9 k := vp (by omega) (by omega) hk8
    have ix9 := ix_lt hv9
    refine ⟨nI (u0 9 k), ab_u σ2 47 k (nI v), ab_u τ2 86 (ix 9 k) (nI v), uu u0 9 k v, ?_, ?_, fun c hc h2 => ?_, fun c hc h2 => ?_, fun j hj => ?_, rB_set hB0 (show v ≤ 20 from hv), wC_set (r := 9) C2, wM_set hv9 M2, ?_⟩
    · unfold f_X11_cut f_X11_swap_47
      rw [gs_f (nb_n (by omega) hk (c0_11 hC0)), e1, bi, ib_n hk8 (by omega), ck_t, lt_d, ck_t, lt_d, cl_n (by omega), bi]
      show some (σ2 47 k, ab_u σ2 47 k (nI v)) = _
      rw [show σ2 47 k = nI (u0 9 k) from c9 C2 k hk8]
    · unfold f_X12_cut
      rw [gs_t (is_n (by omega) hk (d0_11 hM)), e2, bi, show (76 : Int32) + (5 : Int32) * nI k + (3 : Int32) = nI (76 + 5 * k + 3) by rw [show (5 : Int32) * nI k = nI (5 * k) from pk_mul 5 k, show (76 : Int32) + nI (5 * k) = nI (76 + 5 * k) from nI_add 76 _]; exact nI_add _ 3, chg_n _ _ (by omega), bi]
      show some (τ2 86 (76 + 5 * k + 3), ab_u τ2 86 (76 + 5 * k + 3) (nI v)) = _
      rw [d6 M2 k 3 hk8 (by omega), ← ixp k 3 (by omega)]
    · rw [ab_u_ne _ _ _ (by omega), e3 c (by unfold scr at hc; omega)]
    · rw [ab_u_ne _ _ _ h2, e4 c (by unfold scr at hc; omega) (by unfold scr at hc; omega)]
    · rw [u_rd _ _ _ _ _ (by omega), e4 86 (by omega) (by omega)]
    · rw [ab_u_ne _ _ _ (by omega), e3 38 (by omega), u_rd _ _ _ _ _ (by omega), e4 86 (by omega) (by omega), e86]; exact h.1.2.1
  · refine er2 h 1 (by omega) ?_ (fun τ hτ => ?_)
    · unfold f_X11_cut
      rw [gs_t (hx σ (c0_11 hC0)), bie]; rfl
    · unfold f_X12_cut
      rw [gs_f (hy τ (by rw [hτ 86 (by omega)]; exact d0_11 hM0)), bie]; rfl
/-! count -/
theorem waC {u : Nat → Nat → Nat} {σ τ : ab_F} {w : Nat} (hC : wC u σ w) (hM : rM u (τ 86)) : ∀ d i n1 n2 (a : Int32), i + d = 16 → d < n1 → d < n2 → ∃ b : Int32, (∀ K, f_X9_allWater_L4 w σ K n1 a (nI i) = K b) ∧ ∀ K, f_X12_waterAll_L4 τ K n2 a (nI i) = K b := by
  intro d
  induction d with
  | zero =>
    intro i n1 n2 a h1 h2 h3
    obtain ⟨m1, rfl⟩ : ∃ m, n1 = m + 1 := ⟨n1 - 1, by omega⟩
    obtain ⟨m2, rfl⟩ : ∃ m, n2 = m + 1 := ⟨n2 - 1, by omega⟩
    have c1 : (16 : Int32) ≤ nI i := nI_le (a := 16) (by omega) (by omega)
    refine ⟨a, fun K => ?_, fun K => ?_⟩
    · rw [f_X9_allWater_L4, if_pos c1]
    · rw [f_X12_waterAll_L4, if_pos c1]
  | succ d ih =>
    intro i n1 n2 a h1 h2 h3
    obtain ⟨m1, rfl⟩ : ∃ m, n1 = m + 1 := ⟨n1 - 1, by omega⟩
    obtain ⟨m2, rfl⟩ : ∃ m, n2 = m + 1 := ⟨n2 - 1, by omega⟩
    have c1 : ¬ (16 : Int32) ≤ nI i := nI_ge (b := 16) (by omega) (by omega)
    obtain ⟨b, t1, t2⟩ := ih (i + 1) m1 m2 (a + nI (u 2 i)) (by omega) (by omega) (by omega)
    refine ⟨b, fun K => ?_, fun K => ?_⟩
    · rw [f_X9_allWater_L4, if_neg c1, ib_n (by omega) (by omega), ck_t, lt_d, lt_d, cl_n (by omega), c2 hC i (by omega), nI_1]; exact t1 K
    · rw [f_X12_waterAll_L4, if_neg c1, show (28 : Int32) + nI i = nI (28 + i) from nI_add 28 i, ib_n (by omega) (by omega), ck_t, lt_d, lt_d, cl_n (by omega), d2 hM i (by omega), nI_1]; exact t2 K
theorem weC {u : Nat → Nat → Nat} {σ τ : ab_F} {w q : Nat} (hC : wC u σ w) (hM : rM u (τ 86)) (hB : rB q u) : ∀ d i n1 n2 (a : Int32), i + d = u 0 11 → d < n1 → d < n2 → ∃ b : Int32, (∀ K, f_X9_wetOnes_L4 w σ K n1 a (nI i) = K b) ∧ ∀ K, f_X12_wetNow_L4 τ K n2 a (nI i) = K b := by
  have hp := b11 hB
  intro d
  induction d with
  | zero =>
    intro i n1 n2 a h1 h2 h3
    obtain ⟨m1, rfl⟩ : ∃ m, n1 = m + 1 := ⟨n1 - 1, by omega⟩
    obtain ⟨m2, rfl⟩ : ∃ m, n2 = m + 1 := ⟨n2 - 1, by omega⟩
    refine ⟨a, fun K => ?_, fun K => ?_⟩
    · rw [f_X9_wetOnes_L4, c0_11 hC, if_pos (nI_le (by omega) (by omega))]
    · rw [f_X12_wetNow_L4, d0_11 hM, if_pos (nI_le (by omega) (by omega))]
  | succ d ih =>
    intro i n1 n2 a h1 h2 h3
    obtain ⟨m1, rfl⟩ : ∃ m, n1 = m + 1 := ⟨n1 - 1, by omega⟩
    obtain ⟨m2, rfl⟩ : ∃ m, n2 = m + 1 := ⟨n2 - 1, by omega⟩
    have e1 := wetC hC hB (k := i) (by omega)
    have e2 := wetM hM hB (k := i) (by omega)
    cases hw : dy_wet u i with
    | false =>
      rw [hw] at e1 e2
      obtain ⟨b, t1, t2⟩ := ih (i + 1) m1 m2 a (by omega) (by omega) (by omega)
      refine ⟨b, fun K => ?_, fun K => ?_⟩
      · rw [f_X9_wetOnes_L4, c0_11 hC, if_neg (nI_ge (by omega) (by omega)), gs_f e1, lt_d, nI_1]; exact t1 K
      · rw [f_X12_wetNow_L4, d0_11 hM, if_neg (nI_ge (by omega) (by omega)), gs_f e2, lt_d, lt_d, Int32.or_zero, nI_1]; exact t2 K
    | true =>
      rw [hw] at e1 e2
      obtain ⟨b, t1, t2⟩ := ih (i + 1) m1 m2 (a ||| ((1 : Int32) <<< (nI i &&& 31))) (by omega) (by omega) (by omega)
      refine ⟨b, fun K => ?_, fun K => ?_⟩
      · rw [f_X9_wetOnes_L4, c0_11 hC, if_neg (nI_ge (by omega) (by omega)), gs_t e1, lt_d, lt_d, nI_1]; exact t1 K
      · rw [f_X12_wetNow_L4, d0_11 hM, if_neg (nI_ge (by omega) (by omega)), gs_t e2, lt_d, lt_d, nI_1]; exact t2 K
theorem m_count (a0 : Int32) : ok2 rR (f_X11_count a0) (f_X12_count a0) := by
  intro σ h
  obtain ⟨u, hB, hC, hM⟩ := rR_u h
  have hp := b11 hB
  obtain ⟨kt, _, t1, t2, _⟩ := h.1.2.2.1
  obtain ⟨kw, _, w1, w2, _⟩ := h.1.2.2.2.1
  obtain ⟨kv, _, v1, v2, _⟩ := h.2.2.2.1
  by_cases q0 : a0 = 0
  · exact ⟨nI (u 0 11), σ, σ, by unfold f_X11_count; rw [if_pos q0, c0_11 hC], by unfold f_X12_count; rw [if_pos q0, d0_11 hM], h⟩
  by_cases q1 : a0 = 1
  · exact ⟨nI (u 0 3), σ, σ, by unfold f_X11_count; rw [if_neg q0, if_pos q1, c0_3 hC], by unfold f_X12_count; rw [if_neg q0, if_pos q1, d0_3 hM], h⟩
  by_cases q2 : a0 = 2
  · exact ⟨nI (u 0 4), σ, σ, by unfold f_X11_count; rw [if_neg q0, if_neg q1, if_pos q2, c0_4 hC], by unfold f_X12_count; rw [if_neg q0, if_neg q1, if_pos q2, d0_4 hM], h⟩
  by_cases q3 : a0 = 3
  · obtain ⟨b, b1, b2⟩ := waC hC hM 16 0 ab_fu ab_fu (0 : Int32) (by omega) (by unfold ab_fu; omega) (by unfold ab_fu; omega)
    have x1 : f_X9_allWater 38 σ = some b := by unfold f_X9_allWater; exact b1 _
    have x2 : f_X12_waterAll σ = some b := by unfold f_X12_waterAll; exact b2 _
    exact ⟨b, σ, σ, by unfold f_X11_count; rw [if_neg q0, if_neg q1, if_neg q2, if_pos q3, x1, bi], by unfold f_X12_count; rw [if_neg q0, if_neg q1, if_neg q2, if_pos q3, x2, bi], h⟩
  by_cases q4 : a0 = 4
  · obtain ⟨b, b1, b2⟩ := weC hC hM hB (u 0 11) 0 ab_fu ab_fu (0 : Int32) (by omega) (by unfold ab_fu; omega) (by unfold ab_fu; omega)
    have x1 : f_X9_wetOnes 38 σ = some b := by unfold f_X9_wetOnes; exact b1 _
    have x2 : f_X12_wetNow σ = some b := by unfold f_X12_wetNow; exact b2 _
    exact ⟨b, σ, σ, by unfold f_X11_count; rw [if_neg q0, if_neg q1, if_neg q2, if_neg q3, if_pos q4, x1, bi], by unfold f_X12_count; rw [if_neg q0, if_neg q1, if_neg q2, if_neg q3, if_pos q4, x2, bi], h⟩
  by_cases q5 : a0 = 5
  · exact ⟨nI (kn u), σ, σ, by unfold f_X11_count; rw [if_neg q0, if_neg q1, if_neg q2, if_neg q3, if_neg q4, if_pos q5, kn_c hC hB, bi], by unfold f_X12_count; rw [if_neg q0, if_neg q1, if_neg q2, if_neg q3, if_neg q4, if_pos q5, kn_m hM hB, bi], h⟩
  by_cases q6 : a0 = 6
  · exact ⟨nI (dn u), σ, σ, by unfold f_X11_count; rw [if_neg q0, if_neg q1, if_neg q2, if_neg q3, if_neg q4, if_neg q5, if_pos q6, dn_c hC hB, bi], by unfold f_X12_count; rw [if_neg q0, if_neg q1, if_neg q2, if_neg q3, if_neg q4, if_neg q5, if_pos q6, dn_m hM hB, bi], h⟩
  by_cases q7 : a0 = 7
  · exact ⟨nI kt, σ, σ, by unfold f_X11_count; rw [if_neg q0, if_neg q1, if_neg q2, if_neg q3, if_neg q4, if_neg q5, if_neg q6, if_pos q7, t1], by unfold f_X12_count; rw [if_neg q0, if_neg q1, if_neg q2, if_neg q3, if_neg q4, if_neg q5, if_neg q6, if_pos q7, t2], h⟩
  by_cases q8 : a0 = 8
  · exact ⟨nI kw, σ, σ, by unfold f_X11_count; rw [if_neg q0, if_neg q1, if_neg q2, if_neg q3, if_neg q4, if_neg q5, if_neg q6, if_neg q7, if_pos q8, w1], by unfold f_X12_count; rw [if_neg q0, if_neg q1, if_neg q2, if_neg q3, if_neg q4, if_neg q5, if_neg q6, if_neg q7, if_pos q8, w2], h⟩
  by_cases q9 : a0 = 9
  · exact ⟨nI kv, σ, σ, by unfold f_X11_count; rw [if_neg q0, if_neg q1, if_neg q2, if_neg q3, if_neg q4, if_neg q5, if_neg q6, if_neg q7, if_neg q8, if_pos q9, v1], by unfold f_X12_count; rw [if_neg q0, if_neg q1, if_neg q2, if_neg q3, if_neg q4, if_neg q5, if_neg q6, if_neg q7, if_neg q8, if_pos q9, v2], h⟩
  by_cases q10 : a0 = 10
  · exact ⟨σ 38 5, σ, σ, by unfold f_X11_count; rw [if_neg q0, if_neg q1, if_neg q2, if_neg q3, if_neg q4, if_neg q5, if_neg q6, if_neg q7, if_neg q8, if_neg q9, if_pos q10], by unfold f_X12_count; rw [if_neg q0, if_neg q1, if_neg q2, if_neg q3, if_neg q4, if_neg q5, if_neg q6, if_neg q7, if_neg q8, if_neg q9, if_pos q10, h.1.2.1], h⟩
  · refine er2 h 1 (by omega) ?_ (fun τ hτ => ?_)
    · unfold f_X11_count
      rw [if_neg q0, if_neg q1, if_neg q2, if_neg q3, if_neg q4, if_neg q5, if_neg q6, if_neg q7, if_neg q8, if_neg q9, if_neg q10, bie]; rfl
    · unfold f_X12_count
      rw [if_neg q0, if_neg q1, if_neg q2, if_neg q3, if_neg q4, if_neg q5, if_neg q6, if_neg q7, if_neg q8, if_neg q9, if_neg q10, bie]; rfl
