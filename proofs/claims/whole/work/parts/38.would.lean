/-! stiltsFor, wallFor, springFor, odds, fits -/
theorem lnL (N k k0 : Nat) (hN : N < 2 ^ 30) (hk : k < 8) (hk0 : k0 ≤ 4095) : ∀ d i n1 n2 q (u : Nat → Nat → Nat) (x y : ab_F), i + d = N → d < n1 → d < n2 → q + d < 2 ^ 30 → SM 49 q u x y → x 48 k = nI k0 → u 10 k = k0 → ∃ (c z : Nat) (x2 y2 : ab_F), c ≤ 4095 ∧ z ≤ 4095 ∧ (c = k0 ↔ z = k0) ∧ (∀ K, f_X11_learnsNothing_L24 (nI k) (nI N) K n1 (nI i) x = K x2) ∧ (∀ K, f_X12_goesOn_L2 (nI N) K n2 (nI i) y = K y2) ∧ frC 49 x x2 ∧ frM y y2 ∧ x2 59 k = nI c ∧ x2 48 k = nI k0 ∧ y2 86 (76 + 5 * k + 4) = nI z := by
  intro d
  induction d with
  | zero =>
    intro i n1 n2 q u x y h1 h2 h3 h4 hS hx hu
    obtain ⟨m1, rfl⟩ : ∃ m, n1 = m + 1 := ⟨n1 - 1, by omega⟩
    obtain ⟨m2, rfl⟩ : ∃ m, n2 = m + 1 := ⟨n2 - 1, by omega⟩
    obtain ⟨hC, hM, hB, hT⟩ := hS
    refine ⟨k0, k0, x, y, hk0, hk0, Iff.rfl, fun K => ?_, fun K => ?_, frC_r _ _, frM_r _, ?_, hx, ?_⟩
    · rw [f_X11_learnsNothing_L24, if_pos (nI_le (by omega) (by omega))]
    · rw [f_X12_goesOn_L2, if_pos (nI_le (by omega) (by omega))]
    · rw [← hu]; exact c10 hC k hk
    · rw [← hu]; exact d6 hM k 4 hk (by omega)
  | succ d ih =>
    intro i n1 n2 q u x y h1 h2 h3 h4 hS hx hu
    obtain ⟨m1, rfl⟩ : ∃ m, n1 = m + 1 := ⟨n1 - 1, by omega⟩
    obtain ⟨m2, rfl⟩ : ∃ m, n2 = m + 1 := ⟨n2 - 1, by omega⟩
    have e59 : x 59 k = nI k0 := by rw [← hu]; exact c10 hS.1 k hk
    obtain ⟨u1, x1, y1, g1, g2, g3, g4, g5, g6⟩ := dayR (by omega) (by omega) hS
    have k1 : ∀ K, f_X11_learnsNothing_L24 (nI k) (nI N) K (m1 + 1) (nI i) x = f_X11_learnsNothing_L24 (nI k) (nI N) K m1 (nI (i + 1)) x1 := fun K => by
      rw [f_X11_learnsNothing_L24, if_neg (nI_ge (by omega) (by omega)), ib_n hk (by omega), ck_t, ck_t, cl_n (by omega), e59, hx, if_pos rfl, g1, bi, lt_d, nI_1]
    have k2 : ∀ K, f_X12_goesOn_L2 (nI N) K (m2 + 1) (nI i) y = f_X12_goesOn_L2 (nI N) K m2 (nI (i + 1)) y1 := fun K => by
      rw [f_X12_goesOn_L2, if_neg (nI_ge (by omega) (by omega)), g2, bi, lt_d, nI_1]
    have hx1 : x1 48 k = nI k0 := by rw [g5.1 48 (by omega) (by omega) (by omega)]; exact hx
    by_cases hu1 : u1 10 k = k0
    · obtain ⟨c, z, x2, y2, r1, r2, r3, r4, r5, r6, r7, r8⟩ := ih (i + 1) m1 m2 (q + 1) u1 x1 y1 (by omega) (by omega) (by omega) (by omega) g3 hx1 hu1
      exact ⟨c, z, x2, y2, r1, r2, r3, fun K => (k1 K).trans (r4 K), fun K => (k2 K).trans (r5 K), frC_t g5 r6, frM_t g6 r7, r8⟩
    · obtain ⟨hC1, hM1, hB1, hT1⟩ := g3
      obtain ⟨u2, y2, t1, t2, t3, t4, t5⟩ := daM hN (d := d) (i := i + 1) (n2 := m2) (by omega) (by omega) (by omega) hM1 hB1 hT1
      have e59x : x1 59 k = nI (u1 10 k) := c10 hC1 k hk
      have b1 := bw10 hB1 hk
      have b2 := bw10 t3 hk
      refine ⟨u1 10 k, u2 10 k, x1, y2, b1, b2, ⟨fun q => absurd q hu1, fun q => ?_⟩, fun K => (k1 K).trans ?_, fun K => (k2 K).trans (t1 K), g5, frM_t g6 t5, e59x, hx1, d6 t2 k 4 hk (by omega)⟩
      · have a1 := g4.2.2.2.2.2.2.2.2 k
        have a2 := t4.2.2.2.2.2.2.2.2 k
        rw [hu] at a1
        rw [q, Nat.or_comm, a1] at a2
        exact a2
      · obtain ⟨m, rfl⟩ : ∃ m, m1 = m + 1 := ⟨m1 - 1, by omega⟩
        rw [f_X11_learnsNothing_L24]
        by_cases hN2 : N ≤ i + 1
        · rw [if_pos (nI_le hN2 (by omega))]
        · rw [if_neg (nI_ge (by omega) (by omega)), ib_n hk (by omega), ck_t, ck_t, cl_n (by omega), e59x, hx1, if_neg (fun z => hu1 ((nI_eq (by omega) (by omega)).mp z))]
theorem stL {σ0 τ0 : ab_F} {u : Nat → Nat → Nat} {N k : Nat} (hN : N ≤ 40) (hk : k < 8) (hB : rB 9999 u) (hC : wC u σ0 38) (hM : rM u (τ0 86)) (hT : TX σ0 τ0) : ∀ d i n1 n2 (x y : ab_F), i + d = 21 → d < n1 → d < n2 → dy_fr σ0 x → dy_sv τ0 y → dy_fr τ0 y → ∃ (x2 y2 : ab_F), dy_fr σ0 x2 ∧ dy_fr τ0 y2 ∧ ((∃ t : Nat, (∀ K, f_X11_stiltsFor_L25 (nI k) (nI N) K n1 (nI i) x = some (nI t, x2)) ∧ (∀ K, f_X12_stiltsFor_L38 (nI k) (nI N) (nI (u 10 k)) K n2 (nI i) y = some (nI t, y2))) ∨ ((∀ K, f_X11_stiltsFor_L25 (nI k) (nI N) K n1 (nI i) x = K x2) ∧ (∀ K, f_X12_stiltsFor_L38 (nI k) (nI N) (nI (u 10 k)) K n2 (nI i) y = K y2))) := by
  have bk := bw10 hB hk
  intro d
  induction d with
  | zero =>
    intro i n1 n2 x y h1 h2 h3 hx hsv hy
    obtain ⟨m1, rfl⟩ : ∃ m, n1 = m + 1 := ⟨n1 - 1, by omega⟩
    obtain ⟨m2, rfl⟩ : ∃ m, n2 = m + 1 := ⟨n2 - 1, by omega⟩
    have c1 : (20 : Int32) < nI i := nI_lt (a := 20) (by omega) (by omega)
    refine ⟨x, y, hx, hy, Or.inr ⟨fun K => ?_, fun K => ?_⟩⟩
    · rw [f_X11_stiltsFor_L25, if_pos c1]
    · rw [f_X12_stiltsFor_L38, if_pos c1]
  | succ d ih =>
    intro i n1 n2 x y h1 h2 h3 hx hsv hy
    obtain ⟨m1, rfl⟩ : ∃ m, n1 = m + 1 := ⟨n1 - 1, by omega⟩
    obtain ⟨m2, rfl⟩ : ∃ m, n2 = m + 1 := ⟨n2 - 1, by omega⟩
    have c1 : ¬ (20 : Int32) < nI i := nI_nlt (a := 20) (by omega) (by omega)
    have y86 := hy 86 n86
    obtain ⟨x1, p1, p2, p3⟩ := dy_cp (wC_x hC hx)
    have hv9 : val 9 k := vp (by omega) (by omega) hk
    have C1 : wC (uu u 9 k i) (ab_u x1 58 k (nI i)) 49 := wC_set (r := 9) p2
    have M1 : rM (uu u 9 k i) ((ab_u y 86 (ix 9 k) (nI i)) 86) := wM_set hv9 (by rw [y86]; exact hM)
    have B1 : rB 9999 (uu u 9 k i) := rB_set hB (show i ≤ 20 by omega)
    have F1 : dy_fr σ0 (ab_u x1 58 k (nI i)) := dy_t (dy_t hx p3) (dy_u (by omega))
    have ix9 := ix_lt hv9
    have T1 : TX (ab_u x1 58 k (nI i)) (ab_u y 86 (ix 9 k) (nI i)) := TX_x hT F1 (fun j hj => by rw [u_rd _ _ _ _ _ (by omega), y86])
    have e48 : (ab_u x1 58 k (nI i)) 48 k = nI (u 10 k) := by
      rw [F1 48 (by unfold scr; omega)]; exact c10 hC k hk
    obtain ⟨c, z, x2, y2, r1, r2, r3, r4, r5, r6, r7, r8, r9, r10⟩ := lnL N k (u 10 k) (by omega) hk bk N 0 ab_fu ab_fu 9999 (uu u 9 k i) _ _ (by omega) (by unfold ab_fu; omega) (by unfold ab_fu; omega) (by omega) ⟨C1, M1, B1, T1⟩ e48 (by unfold uu; rw [if_neg (by omega)])
    obtain ⟨y3, z1, z2, z3, z4⟩ := sv_B (sv_M (sv_U hsv ix9.1) r7)
    have F2 := dy_t F1 (dy_C r6)
    have kc : f_X11_learnsNothing (nI k) (nI N) (nI i) x = some (decide (c = u 10 k), x2) := by
      unfold f_X11_learnsNothing
      rw [p1, bi, ib_n hk (by omega), ck_t, lt_d, cl_n (by omega)]
      refine (r4 _).trans ?_
      show ab_ck true (ab_ck true (if x2 59 k = x2 48 k then some (true, x2) else some (false, x2))) = _
      rw [ck_t, ck_t, r8, r9]
      by_cases q : c = u 10 k
      · rw [if_pos (by rw [q]), decide_eq_true q]
      · rw [if_neg (fun q2 => q ((nI_eq (by omega) (by omega)).mp q2)), decide_eq_false q]
    have km : f_X12_lays1 (nI k) 3 (nI i) y = some (ab_u y 86 (ix 9 k) (nI i)) := lays_n k 3 _ hk (by omega)
    have kg : f_X12_goesOn (nI N) (ab_u y 86 (ix 9 k) (nI i)) = some y2 := by unfold f_X12_goesOn; exact r5 _
    have ki : f_X12_its (nI k) 4 y2 = some (nI z) := by
      unfold f_X12_its
      rw [show (76 : Int32) + (5 : Int32) * nI k + (4 : Int32) = nI (76 + 5 * k + 4) by rw [show (5 : Int32) * nI k = nI (5 * k) from pk_mul 5 k, show (76 : Int32) + nI (5 * k) = nI (76 + 5 * k) from nI_add 76 _]; exact nI_add _ 4, ib_n (by omega) (by omega), ck_t, cl_n (by omega), r10]
    by_cases q : c = u 10 k
    · have qz := r3.mp q
      refine ⟨x2, y3, F2, z4, Or.inl ⟨i, fun K => ?_, fun K => ?_⟩⟩
      · rw [f_X11_stiltsFor_L25, if_neg c1, kc, bi, decide_eq_true q]; rfl
      · rw [f_X12_stiltsFor_L38, if_neg c1, km, bi, kg, bi, ki, bi, if_pos (by rw [qz]), z1, bi]
    · have qz : z ≠ u 10 k := fun w => q (r3.mpr w)
      obtain ⟨x4, y4, w1, w2, w3⟩ := ih (i + 1) m1 m2 x2 y3 (by omega) (by omega) (by omega) F2 z2 z4
      have k1 : ∀ K, f_X11_stiltsFor_L25 (nI k) (nI N) K (m1 + 1) (nI i) x = f_X11_stiltsFor_L25 (nI k) (nI N) K m1 (nI (i + 1)) x2 := fun K => by
        rw [f_X11_stiltsFor_L25, if_neg c1, kc, bi, decide_eq_false q, ← nI_1]; rfl
      have k2 : ∀ K, f_X12_stiltsFor_L38 (nI k) (nI N) (nI (u 10 k)) K (m2 + 1) (nI i) y = f_X12_stiltsFor_L38 (nI k) (nI N) (nI (u 10 k)) K m2 (nI (i + 1)) y3 := fun K => by
        rw [f_X12_stiltsFor_L38, if_neg c1, km, bi, kg, bi, ki, bi, if_neg (fun q2 => qz ((nI_eq (by omega) (by omega)).mp q2)), z1, bi, lt_d, nI_1]
      refine ⟨x4, y4, w1, w2, ?_⟩
      rcases w3 with ⟨t, v1, v2⟩ | ⟨v1, v2⟩
      · exact Or.inl ⟨t, fun K => (k1 K).trans (v1 K), fun K => (k2 K).trans (v2 K)⟩
      · exact Or.inr ⟨fun K => (k1 K).trans (v1 K), fun K => (k2 K).trans (v2 K)⟩
theorem m_stiltsFor (a0 a1 : Int32) : ok2 rR (f_X11_stiltsFor a0 a1) (f_X12_stiltsFor a0 a1) := by
  intro σ h
  obtain ⟨u0, hB0, hC0, hM0⟩ := rR_u h
  have hp := b11 hB0
  rcases go a0 (u0 0 11) hp with ⟨k, hk, rfl⟩ | ⟨hx, hy⟩
  · rcases gd a1 40 (by omega) with ⟨n, hn, rfl⟩ | ⟨hx, hy⟩
    · refine dy_top h (fun τ hτ => ?_)
      have e86 : τ 86 = σ 86 := hτ 86 n86 (by omega)
      obtain ⟨_, _, _, _, hT⟩ := dy_cx h e86
      have hM : rM u0 (τ 86) := by rw [e86]; exact hM0
      obtain ⟨y1, s1, s2, s3, s4⟩ := sv_S τ
      obtain ⟨x2, y2, w1, w2, w3⟩ := stL (σ0 := σ) (τ0 := τ) (u := u0) (N := n) (k := k) hn (by omega) hB0 hC0 hM hT 21 0 ab_fu ab_fu σ y1 (by omega) (by unfold ab_fu; omega) (by unfold ab_fu; omega) (dy_r σ) s2 s4
      have k1 : f_X11_stiltsFor (nI k) (nI n) σ = f_X11_stiltsFor_L25 (nI k) (nI n) (fun (s10 : ab_F) => (f_X11_refuse (2 : Int32) s10).bind (fun q11 => (some (q11.1, q11.2)))) ab_fu (nI 0) σ := by
        unfold f_X11_stiltsFor
        rw [gs_f (nb_n (by omega) hk (c0_11 hC0)), gs_f (show f_X11_outside (nI n) 40 σ = some false from ou_n (j := n) (n := 40) σ (by omega) (by omega))]; rfl
      have k2 : f_X12_stiltsFor (nI k) (nI n) τ = f_X12_stiltsFor_L38 (nI k) (nI n) (nI (u0 10 k)) (fun (s16 : ab_F) => (f_X12_error (2 : Int32) s16).bind (fun q17 => (some (q17.1, q17.2)))) ab_fu (nI 0) y1 := by
        unfold f_X12_stiltsFor
        rw [gs_t (is_n (by omega) hk (d0_11 hM)), gs_t (show f_X12_in (nI n) 0 40 τ = some true from in_n (j := n) (l := 0) (n := 40) τ (Nat.zero_le _) (by omega) (by omega)), show f_X12_its (nI k) 4 τ = some (nI (u0 10 k)) from its_n hM k 4 (by omega) (by omega), bi, s1, bi]; rfl
      rcases w3 with ⟨t, v1, v2⟩ | ⟨v1, v2⟩
      · exact Or.inl ⟨nI t, x2, y2, k1.trans (v1 _), k2.trans (v2 _), w1, w2⟩
      · refine Or.inr ⟨2, x2, y2, by omega, (k1.trans (v1 _)).trans ?_, (k2.trans (v2 _)).trans ?_, w1, w2⟩
        · show (f_X11_refuse (2 : Int32) x2).bind _ = _
          rw [bie]; rfl
        · show (f_X12_error (2 : Int32) y2).bind _ = _
          rw [bie]; rfl
    · refine er2 h 1 (by omega) ?_ (fun τ hτ => ?_)
      · unfold f_X11_stiltsFor
        rw [gs_f (nb_n (by omega) hk (c0_11 hC0)), gs_t (show f_X11_outside a1 40 σ = some true from hx σ), bie]; rfl
      · unfold f_X12_stiltsFor
        rw [gs_t (is_n (by omega) hk (by rw [hτ 86 (by omega)]; exact d0_11 hM0)), gs_f (show f_X12_in a1 0 40 τ = some false from hy τ), bie]; rfl
  · refine er2 h 1 (by omega) ?_ (fun τ hτ => ?_)
    · unfold f_X11_stiltsFor
      rw [gs_t (hx σ (c0_11 hC0)), bie]; rfl
    · unfold f_X12_stiltsFor
      rw [gs_f (hy τ (by rw [hτ 86 (by omega)]; exact d0_11 hM0)), bie]; rfl
theorem waL {σ0 τ0 : ab_F} {u : Nat → Nat → Nat} {N c : Nat} (p3 : Int32) (hN : N ≤ 40) (hc : c < 16) (hB : rB 9999 u) (hC : wC u σ0 38) (hM : rM u (τ0 86)) (hT : TX σ0 τ0) : ∀ d i n1 n2 (l b : Int32) (x y : ab_F), i + d = 16 → d < n1 → d < n2 → dy_fr σ0 x → dy_sv τ0 y → dy_fr τ0 y → ∃ (l2 b2 : Int32) (x2 y2 : ab_F), dy_fr σ0 x2 ∧ dy_fr τ0 y2 ∧ (∀ K, f_X11_wallFor_L68 (nI c) (nI N) p3 K n1 l b (nI i) x = K l2 b2 x2) ∧ (∀ K, f_X12_wallFor_L62 (nI c) (nI N) p3 K n2 l b (nI i) y = K l2 b2 y2) := by
  intro d
  induction d with
  | zero =>
    intro i n1 n2 l b x y h1 h2 h3 hx hsv hy
    obtain ⟨m1, rfl⟩ : ∃ m, n1 = m + 1 := ⟨n1 - 1, by omega⟩
    obtain ⟨m2, rfl⟩ : ∃ m, n2 = m + 1 := ⟨n2 - 1, by omega⟩
    have c1 : (16 : Int32) ≤ nI i := nI_le (a := 16) (by omega) (by omega)
    refine ⟨l, b, x, y, hx, hy, fun K => ?_, fun K => ?_⟩
    · rw [f_X11_wallFor_L68, if_pos c1]
    · rw [f_X12_wallFor_L62, if_pos c1]
  | succ d ih =>
    intro i n1 n2 l b x y h1 h2 h3 hx hsv hy
    obtain ⟨m1, rfl⟩ : ∃ m, n1 = m + 1 := ⟨n1 - 1, by omega⟩
    obtain ⟨m2, rfl⟩ : ∃ m, n2 = m + 1 := ⟨n2 - 1, by omega⟩
    have hi : i < 16 := by omega
    have c1 : ¬ (16 : Int32) ≤ nI i := nI_ge (b := 16) (by omega) (by omega)
    have y86 := hy 86 n86
    obtain ⟨x1, p1, p2, p3x⟩ := dy_cp (wC_x hC hx)
    have C1 : wC (uu u 3 i 1) (ab_u x1 52 i (nI 1)) 49 := wC_set (r := 3) p2
    have M1 : rM (uu u 3 i 1) ((ab_u y 86 (44 + i) (nI 1)) 86) := wM_set (r := 3) (vc (by omega) (by omega) hi) (by rw [y86]; exact hM)
    have B1 : rB 9999 (uu u 3 i 1) := rB_set hB (show 1 ≤ 1 by omega)
    have F1 : dy_fr σ0 (ab_u x1 52 i (nI 1)) := dy_t (dy_t hx p3x) (dy_u (by omega))
    have T1 : TX σ0 (ab_u y 86 (44 + i) (nI 1)) := TX_x hT (dy_r σ0) (fun j hj => by rw [u_rd _ _ _ _ _ (by omega), y86])
    obtain ⟨v2, u2, σ2, τ2, t1, t2, t3, t4, t5, t6, t7, t8⟩ := watR (N := N) (q := 9999) (by omega) (by omega) C1 B1 M1 B1 (fun _ _ => rfl) T1
    obtain ⟨y3, z1, z2, z3, z4⟩ := sv_B (sv_M (sv_U hsv (by omega)) t8)
    have F2 := dy_t F1 (dy_C t7)
    have e1 : σ2 51 c = nI (u2 2 c) := by rw [← t5]; exact c2 t3 c hc
    have e2 : τ2 86 (28 + c) = nI (u2 2 c) := d2 t4 c hc
    by_cases q : l ≤ nI (u2 2 c)
    · obtain ⟨l2, b2, x4, y4, w1, w2, w3, w4⟩ := ih (i + 1) m1 m2 l b σ2 y3 (by omega) (by omega) (by omega) F2 z2 z4
      refine ⟨l2, b2, x4, y4, w1, w2, fun K => ?_, fun K => ?_⟩
      · rw [f_X11_wallFor_L68, if_neg c1, p1, bi, ib_n hi (by omega), ck_t, lt_d, cl_n (by omega), show (1 : Int32) = nI 1 from rfl, t1, bi, ib_n hc (by omega), ck_t, cl_n (by omega), e1, if_pos q, lt_d, nI_add]
        exact w3 K
      · rw [f_X12_wallFor_L62, if_neg c1, show (44 : Int32) + nI i = nI (44 + i) from nI_add 44 i, show (28 : Int32) + nI c = nI (28 + c) from nI_add 28 c, ib_n (by omega) (by omega), ck_t, lt_d, cl_n (by omega), show (1 : Int32) = nI 1 from rfl, t2, bi, ib_n (by omega) (by omega), ck_t, lt_d, cl_n (by omega), e2, z1, bi, if_pos q, if_pos q, lt_d, nI_add]
        exact w4 K
    · obtain ⟨l2, b2, x4, y4, w1, w2, w3, w4⟩ := ih (i + 1) m1 m2 (nI (u2 2 c)) (nI i) σ2 y3 (by omega) (by omega) (by omega) F2 z2 z4
      refine ⟨l2, b2, x4, y4, w1, w2, fun K => ?_, fun K => ?_⟩
      · rw [f_X11_wallFor_L68, if_neg c1, p1, bi, ib_n hi (by omega), ck_t, lt_d, cl_n (by omega), show (1 : Int32) = nI 1 from rfl, t1, bi, ib_n hc (by omega), ck_t, ck_t, cl_n (by omega), e1, if_neg q, lt_d, lt_d, nI_add]
        exact w3 K
      · rw [f_X12_wallFor_L62, if_neg c1, show (44 : Int32) + nI i = nI (44 + i) from nI_add 44 i, show (28 : Int32) + nI c = nI (28 + c) from nI_add 28 c, ib_n (by omega) (by omega), ck_t, lt_d, cl_n (by omega), show (1 : Int32) = nI 1 from rfl, t2, bi, ib_n (by omega) (by omega), ck_t, lt_d, cl_n (by omega), e2, z1, bi, if_neg q, if_neg q, lt_d, nI_add]
        exact w4 K
theorem m_wallFor (a0 a1 a2 : Int32) : ok2 rR (f_X11_wallFor a0 a1 a2) (f_X12_wallFor a0 a1 a2) := by
  intro σ h
  rcases gd a0 15 (by omega) with ⟨c, hc, rfl⟩ | ⟨hx, hy⟩
  · rcases gd a1 40 (by omega) with ⟨n, hn, rfl⟩ | ⟨hx, hy⟩
    · rcases gd a2 1 (by omega) with ⟨w, hw, rfl⟩ | ⟨hx, hy⟩
      · refine dy_top h (fun τ hτ => ?_)
        have e86 : τ 86 = σ 86 := hτ 86 n86 (by omega)
        obtain ⟨u, hB, hC, hM, hT⟩ := dy_cx h e86
        obtain ⟨x1, p1, p2, p3⟩ := dy_cp hC
        obtain ⟨y1, s1, s2, s3, s4⟩ := sv_S τ
        obtain ⟨v2, u2, σ2, τ2, t1, t2, t3, t4, t5, t6, t7, t8⟩ := watR (w := 49) (N := n) (q := 9999) (ρ := σ) (v := u) (u := u) (σ := x1) (τ := y1) (by omega) (by omega) p2 hB (by rw [s3]; exact hM) hB (fun _ _ => rfl) (TX_x hT (dy_r σ) (fun j hj => by rw [s3]))
        obtain ⟨y2, z1, z2, z3, z4⟩ := sv_B (sv_M s2 t8)
        have e1 : σ2 51 c = nI (u2 2 c) := by rw [← t5]; exact c2 t3 c (by omega)
        have e2 : τ2 86 (28 + c) = nI (u2 2 c) := d2 t4 c (by omega)
        obtain ⟨l2, b2, x4, y4, w1, w2, w3, w4⟩ := waL (c := c) (nI w) hn (by omega) hB hC hM hT 16 0 ab_fu ab_fu (nI (u2 2 c)) (-1) σ2 y2 (by omega) (by unfold ab_fu; omega) (by unfold ab_fu; omega) (dy_t p3 (dy_C t7)) z2 z4
        have k1 : f_X11_wallFor (nI c) (nI n) (nI w) σ = (if 0 ≤ b2 then (if nI w = 0 then some (b2, x4) else some (l2, x4)) else (f_X11_refuse (2 : Int32) x4).bind (fun q29 => (some (q29.1, q29.2)))) := by
          unfold f_X11_wallFor
          rw [gs_f (show f_X11_outside (nI c) 15 σ = some false from ou_n (j := c) (n := 15) σ (by omega) (by omega)), gs_f (show f_X11_outside (nI n) 40 σ = some false from ou_n (j := n) (n := 40) σ (by omega) (by omega)), gs_f (show f_X11_outside (nI w) 1 σ = some false from ou_n (j := w) (n := 1) σ (by omega) (by omega)), p1, bi, t1, bi, ib_n (by omega) (by omega), ck_t, lt_d, cl_n (by omega), e1]
          exact w3 _
        have k2 : f_X12_wallFor (nI c) (nI n) (nI w) τ = (if 0 ≤ b2 then (if nI w = 0 then some (b2, y4) else some (l2, y4)) else (f_X12_error (2 : Int32) y4).bind (fun q33 => (some (q33.1, q33.2)))) := by
          unfold f_X12_wallFor
          rw [gs_t (isC_n τ hc), gs_t (show f_X12_in (nI n) 0 40 τ = some true from in_n (j := n) (l := 0) (n := 40) τ (Nat.zero_le _) (by omega) (by omega)), gs_t (show f_X12_in (nI w) 0 1 τ = some true from in_n (j := w) (l := 0) (n := 1) τ (Nat.zero_le _) (by omega) (by omega)), s1, bi, t2, bi, show (28 : Int32) + nI c = nI (28 + c) from nI_add 28 c, ib_n (by omega) (by omega), ck_t, lt_d, cl_n (by omega), e2, z1, bi]
          exact w4 _
        by_cases q1 : 0 ≤ b2
        · rw [if_pos q1] at k1 k2
          by_cases q2 : nI w = 0
          · rw [if_pos q2] at k1 k2
            exact Or.inl ⟨b2, x4, y4, k1, k2, w1, w2⟩
          · rw [if_neg q2] at k1 k2
            exact Or.inl ⟨l2, x4, y4, k1, k2, w1, w2⟩
        · rw [if_neg q1, bie] at k1 k2
          exact Or.inr ⟨2, x4, y4, by omega, k1, k2, w1, w2⟩
      · refine er2 h 1 (by omega) ?_ (fun τ hτ => ?_)
        · unfold f_X11_wallFor
          rw [gs_f (show f_X11_outside (nI c) 15 σ = some false from ou_n (j := c) (n := 15) σ (by omega) (by omega)), gs_f (show f_X11_outside (nI n) 40 σ = some false from ou_n (j := n) (n := 40) σ (by omega) (by omega)), gs_t (show f_X11_outside a2 1 σ = some true from hx σ), bie]; rfl
        · unfold f_X12_wallFor
          rw [gs_t (isC_n τ hc), gs_t (show f_X12_in (nI n) 0 40 τ = some true from in_n (j := n) (l := 0) (n := 40) τ (Nat.zero_le _) (by omega) (by omega)), gs_f (show f_X12_in a2 0 1 τ = some false from hy τ), bie]; rfl
    · refine er2 h 1 (by omega) ?_ (fun τ hτ => ?_)
      · unfold f_X11_wallFor
        rw [gs_f (show f_X11_outside (nI c) 15 σ = some false from ou_n (j := c) (n := 15) σ (by omega) (by omega)), gs_t (show f_X11_outside a1 40 σ = some true from hx σ), bie]; rfl
      · unfold f_X12_wallFor
        rw [gs_t (isC_n τ hc), gs_f (show f_X12_in a1 0 40 τ = some false from hy τ), bie]; rfl
  · refine er2 h 1 (by omega) ?_ (fun τ hτ => ?_)
    · unfold f_X11_wallFor
      rw [gs_t (show f_X11_outside a0 15 σ = some true from hx σ), bie]; rfl
    · unfold f_X12_wallFor
      rw [gs_f (isC_x τ hy), bie]; rfl
