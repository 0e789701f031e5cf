/-! springFor, odds, fits -/
theorem spL {σ0 τ0 : ab_F} {u : Nat → Nat → Nat} {N : Nat} (p2 : Int32) (hN : N ≤ 40) (hB : rB 9999 u) (hC : wC u σ0 38) (hM : rM u (τ0 86)) (hT : TX σ0 τ0) : ∀ d i n1 n2 (f b : Int32) (x y : ab_F), i + d = 16 → d < n1 → d < n2 → dy_fr σ0 x → dy_sv τ0 y → dy_fr τ0 y → ∃ (f2 b2 : Int32) (x2 y2 : ab_F), dy_fr σ0 x2 ∧ dy_fr τ0 y2 ∧ (∀ K, f_X11_springFor_L32 (nI N) p2 K n1 f b (nI i) x = K f2 b2 x2) ∧ (∀ K, f_X12_springFor_L38 (nI N) p2 K n2 b f (nI i) y = K b2 f2 y2) := by
  intro d
  induction d with
  | zero =>
    intro i n1 n2 f b x y h1 h2 h3 hx hsv hy
    obtain ⟨m1, rfl⟩ : ∃ m, n1 = m + 1 := ⟨n1 - 1, by omega⟩
    obtain ⟨m2, rfl⟩ : ∃ m, n2 = m + 1 := ⟨n2 - 1, by omega⟩
    have c1 : (16 : Int32) ≤ nI i := nI_le (a := 16) (by omega) (by omega)
    refine ⟨f, b, x, y, hx, hy, fun K => ?_, fun K => ?_⟩
    · rw [f_X11_springFor_L32, if_pos c1]
    · rw [f_X12_springFor_L38, if_pos c1]
  | succ d ih =>
    intro i n1 n2 f b x y h1 h2 h3 hx hsv hy
    obtain ⟨m1, rfl⟩ : ∃ m, n1 = m + 1 := ⟨n1 - 1, by omega⟩
    obtain ⟨m2, rfl⟩ : ∃ m, n2 = m + 1 := ⟨n2 - 1, by omega⟩
    have hi : i < 16 := by omega
    have c1 : ¬ (16 : Int32) ≤ nI i := nI_ge (b := 16) (by omega) (by omega)
    have y86 := hy 86 n86
    obtain ⟨x1, p1, p2x, p3x⟩ := dy_cp (wC_x hC hx)
    have C1 : wC (uu u 0 4 i) (ab_u x1 49 4 (nI i)) 49 := wC_set (r := 0) p2x
    have M1 : rM (uu u 0 4 i) ((ab_u y 86 1 (nI i)) 86) := wM_set (r := 0) (i := 4) v4 (by rw [y86]; exact hM)
    have B1 : rB 9999 (uu u 0 4 i) := rB_set hB (show i ≤ 15 by omega)
    have F1 : dy_fr σ0 (ab_u x1 49 4 (nI i)) := dy_t (dy_t hx p3x) (dy_u (by omega))
    have T1 : TX (ab_u x1 49 4 (nI i)) (ab_u y 86 1 (nI i)) := TX_x hT F1 (fun j hj => by rw [u_rd _ _ _ _ _ (by omega), y86])
    obtain ⟨u2, σ2, τ2, t1, t2, ⟨tC, tM, tB, tT⟩, t4, t5, t6, t7⟩ := daysR (w := 49) (N := N) (q := 9999) (by omega) (by omega) (by omega) ⟨C1, M1, B1, T1⟩
    obtain ⟨y3, z1, z2, z3, z4⟩ := sv_B (sv_M (sv_U hsv (by omega)) t7)
    have F2 := dy_t F1 (dy_C t6)
    have hk := kn_le tB
    by_cases q : f ≤ nI (bc (kn u2))
    · obtain ⟨f2, b2, x4, y4, w1, w2, w3, w4⟩ := ih (i + 1) m1 m2 f b σ2 y3 (by omega) (by omega) (by omega) F2 z2 z4
      refine ⟨f2, b2, x4, y4, w1, w2, fun K => ?_, fun K => ?_⟩
      · rw [f_X11_springFor_L32, if_neg c1, p1, bi, lt_d, t1, bi, kn_c tC tB, bi, bc_c _ _ (by omega), bi, if_pos q, lt_d, nI_1]
        exact w3 K
      · rw [f_X12_springFor_L38, if_neg c1, lt_d, t2, bi, kn_m tM tB, bi, bc_m _ _ (by omega), bi, z1, bi, if_pos q, if_pos q, lt_d, nI_1]
        exact w4 K
    · obtain ⟨f2, b2, x4, y4, w1, w2, w3, w4⟩ := ih (i + 1) m1 m2 (nI (bc (kn u2))) (nI i) σ2 y3 (by omega) (by omega) (by omega) F2 z2 z4
      refine ⟨f2, b2, x4, y4, w1, w2, fun K => ?_, fun K => ?_⟩
      · rw [f_X11_springFor_L32, if_neg c1, p1, bi, lt_d, t1, bi, kn_c tC tB, bi, bc_c _ _ (by omega), bi, if_neg q, lt_d, nI_1]
        exact w3 K
      · rw [f_X12_springFor_L38, if_neg c1, lt_d, t2, bi, kn_m tM tB, bi, bc_m _ _ (by omega), bi, z1, bi, if_neg q, if_neg q, lt_d, nI_1]
        exact w4 K
theorem m_springFor (a0 a1 : Int32) : ok2 rR (f_X11_springFor a0 a1) (f_X12_springFor a0 a1) := by
  intro σ h
  rcases gd a0 40 (by omega) with ⟨n, hn, rfl⟩ | ⟨hx, hy⟩
  · rcases gd a1 1 (by omega) with ⟨w, hw, rfl⟩ | ⟨hx, hy⟩
    · refine dy_top h (fun τ hτ => Or.inl ?_)
      have e86 : τ 86 = σ 86 := hτ 86 n86 (by omega)
      obtain ⟨u, hB, hC, hM, hT⟩ := dy_cx h e86
      obtain ⟨y1, s1, s2, s3, s4⟩ := sv_S τ
      obtain ⟨f2, b2, x4, y4, w1, w2, w3, w4⟩ := spL (nI w) hn hB hC hM hT 16 0 ab_fu ab_fu (nI 13) (nI 0) σ y1 (by omega) (by unfold ab_fu; omega) (by unfold ab_fu; omega) (dy_r σ) s2 s4
      have k1 : f_X11_springFor (nI n) (nI w) σ = (if nI w = 0 then some (b2, x4) else some (f2, x4)) := by
        unfold f_X11_springFor
        rw [gs_f (show f_X11_outside (nI n) 40 σ = some false from ou_n (j := n) (n := 40) σ (by omega) (by omega)), gs_f (show f_X11_outside (nI w) 1 σ = some false from ou_n (j := w) (n := 1) σ (by omega) (by omega))]
        exact w3 _
      have k2 : f_X12_springFor (nI n) (nI w) τ = (if nI w = 0 then some (b2, y4) else some (f2, y4)) := by
        unfold f_X12_springFor
        rw [gs_t (show f_X12_in (nI n) 0 40 τ = some true from in_n (j := n) (l := 0) (n := 40) τ (Nat.zero_le _) (by omega) (by omega)), gs_t (show f_X12_in (nI w) 0 1 τ = some true from in_n (j := w) (l := 0) (n := 1) τ (Nat.zero_le _) (by omega) (by omega)), s1, bi]
        exact w4 _
      by_cases q2 : nI w = 0
      · rw [if_pos q2] at k1 k2
        exact ⟨b2, x4, y4, k1, k2, w1, w2⟩
      · rw [if_neg q2] at k1 k2
        exact ⟨f2, x4, y4, k1, k2, w1, w2⟩
    · refine er2 h 1 (by omega) ?_ (fun τ hτ => ?_)
      · unfold f_X11_springFor
        rw [gs_f (show f_X11_outside (nI n) 40 σ = some false from ou_n (j := n) (n := 40) σ (by omega) (by omega)), gs_t (show f_X11_outside a1 1 σ = some true from hx σ), bie]; rfl
      · unfold f_X12_springFor
        rw [gs_t (show f_X12_in (nI n) 0 40 τ = some true from in_n (j := n) (l := 0) (n := 40) τ (Nat.zero_le _) (by omega) (by omega)), gs_f (show f_X12_in a1 0 1 τ = some false from hy τ), bie]; rfl
  · refine er2 h 1 (by omega) ?_ (fun τ hτ => ?_)
    · unfold f_X11_springFor
      rw [gs_t (show f_X11_outside a0 40 σ = some true from hx σ), bie]; rfl
    · unfold f_X12_springFor
      rw [gs_f (show f_X12_in a0 0 40 τ = some false from hy τ), bie]; rfl
theorem odL {σ0 τ0 : ab_F} {u : Nat → Nat → Nat} {N k : Nat} (p3 : Int32) (hN : N ≤ 40) (hk : k < 8) (hB : rB 9999 u) (hC : wC u σ0 38) (hM : rM u (τ0 86)) (hT : TX σ0 τ0) : ∀ d i n1 n2 g (x y : ab_F), i + d = 16 → d < n1 → d < n2 → g ≤ i → dy_fr σ0 x → dy_sv τ0 y → dy_fr τ0 y → ∃ (g2 : Nat) (x2 y2 : ab_F), g2 ≤ 16 ∧ dy_fr σ0 x2 ∧ dy_fr τ0 y2 ∧ (∀ K, f_X11_odds_L37 (nI k) (nI N) p3 K n1 (nI g) (nI i) x = K (nI g2) x2) ∧ (∀ K, f_X12_odds_L43 (nI k) (nI N) p3 K n2 (nI g) (nI i) y = K (nI g2) y2) := by
  intro d
  induction d with
  | zero =>
    intro i n1 n2 g x y h1 h2 h3 hg hx hsv hy
    obtain ⟨m1, rfl⟩ : ∃ m, n1 = m + 1 := ⟨n1 - 1, by omega⟩
    obtain ⟨m2, rfl⟩ : ∃ m, n2 = m + 1 := ⟨n2 - 1, by omega⟩
    have c1 : (16 : Int32) ≤ nI i := nI_le (a := 16) (by omega) (by omega)
    refine ⟨g, x, y, by omega, hx, hy, fun K => ?_, fun K => ?_⟩
    · rw [f_X11_odds_L37, if_pos c1]
    · rw [f_X12_odds_L43, if_pos c1]
  | succ d ih =>
    intro i n1 n2 g x y h1 h2 h3 hg hx hsv hy
    obtain ⟨m1, rfl⟩ : ∃ m, n1 = m + 1 := ⟨n1 - 1, by omega⟩
    obtain ⟨m2, rfl⟩ : ∃ m, n2 = m + 1 := ⟨n2 - 1, by omega⟩
    have hi : i < 16 := by omega
    have c1 : ¬ (16 : Int32) ≤ nI i := nI_ge (b := 16) (by omega) (by omega)
    have y86 := hy 86 n86
    obtain ⟨x1, p1, p2x, p3x⟩ := dy_cp (wC_x hC hx)
    have C1 : wC (uu u 0 4 i) (ab_u x1 49 4 (nI i)) 49 := wC_set (r := 0) p2x
    have M1 : rM (uu u 0 4 i) ((ab_u y 86 1 (nI i)) 86) := wM_set (r := 0) (i := 4) v4 (by rw [y86]; exact hM)
    have B1 : rB 9999 (uu u 0 4 i) := rB_set hB (show i ≤ 15 by omega)
    have F1 : dy_fr σ0 (ab_u x1 49 4 (nI i)) := dy_t (dy_t hx p3x) (dy_u (by omega))
    have T1 : TX (ab_u x1 49 4 (nI i)) (ab_u y 86 1 (nI i)) := TX_x hT F1 (fun j hj => by rw [u_rd _ _ _ _ _ (by omega), y86])
    obtain ⟨u2, σ2, τ2, t1, t2, ⟨tC, tM, tB, tT⟩, t4, t5, t6, t7⟩ := daysR (w := 49) (N := N) (q := 9999) (by omega) (by omega) (by omega) ⟨C1, M1, B1, T1⟩
    obtain ⟨y3, z1, z2, z3, z4⟩ := sv_B (sv_M (sv_U hsv (by omega)) t7)
    have F2 := dy_t F1 (dy_C t6)
    have e1 := wetC tC tB hk
    have e2 := wetM tM tB hk
    cases hw : dy_wet u2 k with
    | false =>
      rw [hw] at e1 e2
      obtain ⟨g2, x4, y4, w0, w1, w2, w3, w4⟩ := ih (i + 1) m1 m2 g σ2 y3 (by omega) (by omega) (by omega) (by omega) F2 z2 z4
      refine ⟨g2, x4, y4, w0, w1, w2, fun K => ?_, fun K => ?_⟩
      · rw [f_X11_odds_L37, if_neg c1, p1, bi, lt_d, t1, bi, gs_f e1, lt_d, nI_1]
        exact w3 K
      · rw [f_X12_odds_L43, if_neg c1, lt_d, t2, bi, gs_f e2, lt_d, z1, bi, lt_d, nI_1, show nI g + (0 : Int32) = nI g from nI_add g 0]
        exact w4 K
    | true =>
      rw [hw] at e1 e2
      obtain ⟨g2, x4, y4, w0, w1, w2, w3, w4⟩ := ih (i + 1) m1 m2 (g + 1) σ2 y3 (by omega) (by omega) (by omega) (by omega) F2 z2 z4
      refine ⟨g2, x4, y4, w0, w1, w2, fun K => ?_, fun K => ?_⟩
      · rw [f_X11_odds_L37, if_neg c1, p1, bi, lt_d, t1, bi, gs_t e1, lt_d, lt_d, nI_1, nI_1]
        exact w3 K
      · rw [f_X12_odds_L43, if_neg c1, lt_d, t2, bi, gs_t e2, lt_d, z1, bi, lt_d, nI_1, nI_1]
        exact w4 K
theorem cm_0 : ∀ g, g < 17 → f_X12_common (nI g) 16 (fun _ _ => 0) = some (nI (Nat.gcd g 16)) ∧ ab_nz (nI (Nat.gcd g 16)) = true := by decide +kernel
theorem cm_L (σ τ : ab_F) (K : Int32 → Option Int32) : ∀ n a b, f_X12_common_L4 σ K n a b = f_X12_common_L4 τ K n a b := by
  intro n
  induction n with
  | zero => intro a b; rfl
  | succ n ih =>
    intro a b
    rw [f_X12_common_L4, f_X12_common_L4]
    simp only [lt_d, ih]
theorem cm_n (g : Nat) (σ : ab_F) (h : g ≤ 16) : f_X12_common (nI g) 16 σ = some (nI (Nat.gcd g 16)) := by
  rw [← (cm_0 g (by omega)).1]
  unfold f_X12_common
  exact cm_L _ _ _ _ _ _
theorem od_0 : ∀ g, g < 17 → g ≠ 0 → (nI g &&& -nI g) = nI (Nat.gcd g 16) := by decide +kernel
theorem od_z : ∀ w, w < 2 → (if nI w = 0 then nI 0 else (16 : Int32)) / nI (Nat.gcd 0 16) = nI w := by decide +kernel
theorem m_odds (a0 a1 a2 : Int32) : ok2 rR (f_X11_odds a0 a1 a2) (f_X12_odds a0 a1 a2) := by
  intro σ h
  obtain ⟨u0, hB0, hC0, hM0⟩ := rR_u h
  have hp := b11 hB0
  rcases go a0 (u0 0 11) hp with ⟨k, hk, rfl⟩ | ⟨hx, hy⟩
  · rcases gd a1 40 (by omega) with ⟨n, hn, rfl⟩ | ⟨hx, hy⟩
    · rcases gd a2 1 (by omega) with ⟨w, hw, rfl⟩ | ⟨hx, hy⟩
      · refine dy_top h (fun τ hτ => Or.inl ?_)
        have e86 : τ 86 = σ 86 := hτ 86 n86 (by omega)
        obtain ⟨_, _, _, _, hT⟩ := dy_cx h e86
        have hM : rM u0 (τ 86) := by rw [e86]; exact hM0
        obtain ⟨y1, s1, s2, s3, s4⟩ := sv_S τ
        obtain ⟨g, x4, y4, w0, w1, w2, w3, w4⟩ := odL (k := k) (nI w) hn (by omega) hB0 hC0 hM hT 16 0 ab_fu ab_fu 0 σ y1 (by omega) (by unfold ab_fu; omega) (by unfold ab_fu; omega) (by omega) (dy_r σ) s2 s4
        have k1 : f_X11_odds (nI k) (nI n) (nI w) σ = (if nI g = 0 then (some (nI w, x4)) else ab_lt ((nI g &&& (-nI g))) (fun x21 => (if nI w = 0 then ab_ck (ab_nz x21) ((some ((nI g / x21), x4))) else ab_ck (ab_nz x21) ((some (((16 : Int32) / x21), x4)))))) := by
          unfold f_X11_odds
          rw [gs_f (nb_n (by omega) hk (c0_11 hC0)), gs_f (show f_X11_outside (nI n) 40 σ = some false from ou_n (j := n) (n := 40) σ (by omega) (by omega)), gs_f (show f_X11_outside (nI w) 1 σ = some false from ou_n (j := w) (n := 1) σ (by omega) (by omega))]
          exact w3 _
        have k2 : f_X12_odds (nI k) (nI n) (nI w) τ = some ((if nI w = 0 then nI g else (16 : Int32)) / nI (Nat.gcd g 16), y4) := by
          unfold f_X12_odds
          rw [gs_t (is_n (by omega) hk (d0_11 hM)), gs_t (show f_X12_in (nI n) 0 40 τ = some true from in_n (j := n) (l := 0) (n := 40) τ (Nat.zero_le _) (by omega) (by omega)), gs_t (show f_X12_in (nI w) 0 1 τ = some true from in_n (j := w) (l := 0) (n := 1) τ (Nat.zero_le _) (by omega) (by omega)), s1, bi]
          refine (w4 _).trans ?_
          show (if nI w = 0 then (f_X12_common (nI g) (16 : Int32) y4).bind (fun q26 => ab_ck (ab_nz q26) ((some ((nI g / q26), y4)))) else (f_X12_common (nI g) (16 : Int32) y4).bind (fun q24 => ab_ck (ab_nz q24) ((some (((16 : Int32) / q24), y4))))) = _
          rw [cm_n g y4 w0, bi, bi, (cm_0 g (by omega)).2, ck_t, ck_t]
          by_cases q2 : nI w = 0
          · rw [if_pos q2, if_pos q2]
          · rw [if_neg q2, if_neg q2]
        refine ⟨_, x4, y4, ?_, k2, w1, w2⟩
        rw [k1]
        by_cases q1 : g = 0
        · subst q1
          rw [if_pos nI_0, od_z w (by omega)]
        · rw [if_neg (nI_ne0 (by omega) (by omega)), lt_d, od_0 g (by omega) q1, (cm_0 g (by omega)).2, ck_t, ck_t]
          by_cases q2 : nI w = 0
          · rw [if_pos q2, if_pos q2]
          · rw [if_neg q2, if_neg q2]
      · refine er2 h 1 (by omega) ?_ (fun τ hτ => ?_)
        · unfold f_X11_odds
          rw [gs_f (nb_n (by omega) hk (c0_11 hC0)), gs_f (show f_X11_outside (nI n) 40 σ = some false from ou_n (j := n) (n := 40) σ (by omega) (by omega)), gs_t (show f_X11_outside a2 1 σ = some true from hx σ), bie]; rfl
        · unfold f_X12_odds
          rw [gs_t (is_n (by omega) hk (by rw [hτ 86 (by omega)]; exact d0_11 hM0)), gs_t (show f_X12_in (nI n) 0 40 τ = some true from in_n (j := n) (l := 0) (n := 40) τ (Nat.zero_le _) (by omega) (by omega)), gs_f (show f_X12_in a2 0 1 τ = some false from hy τ), bie]; rfl
    · refine er2 h 1 (by omega) ?_ (fun τ hτ => ?_)
      · unfold f_X11_odds
        rw [gs_f (nb_n (by omega) hk (c0_11 hC0)), gs_t (show f_X11_outside a1 40 σ = some true from hx σ), bie]; rfl
      · unfold f_X12_odds
        rw [gs_t (is_n (by omega) hk (by rw [hτ 86 (by omega)]; exact d0_11 hM0)), gs_f (show f_X12_in a1 0 40 τ = some false from hy τ), bie]; rfl
  · refine er2 h 1 (by omega) ?_ (fun τ hτ => ?_)
    · unfold f_X11_odds
      rw [gs_t (hx σ (c0_11 hC0)), bie]; rfl
    · unfold f_X12_odds
      rw [gs_f (hy τ (by rw [hτ 86 (by omega)]; exact d0_11 hM0)), bie]; rfl
