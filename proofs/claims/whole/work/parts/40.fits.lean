theorem sh1 : ∀ i, i < 16 → (1 : Int32) <<< (nI i &&& 31) = nI (2 ^ i) := by decide +kernel
theorem fkL {n j k R : Nat} (p3 p4 p5 : Int32) (hn : n ≤ 24) (hj : j < 4) (hk : k < 8) (hR : 60 ≤ R) : ∀ d i n1 n2 q (u : Nat → Nat → Nat) (x y : ab_F), i + d = n → d < n1 → d < n2 → q + d < 2 ^ 30 → SM 49 q u x y → x R 1 = nI n → y 95 j = nI n → (∀ i, i < n → x (R + 1) i = y 96 (24 * j + i)) → ∃ (x2 y2 : ab_F), frC 49 x x2 ∧ frM y y2 ∧ (((∀ K, f_X11_fitsKind_L24 R (nI k) K n1 (nI i) x = K x2) ∧ (∀ K, f_X12_fits_L76 (nI j) (nI k) p3 p4 p5 K n2 (nI 1) (nI i) y = K (nI 1) y2)) ∨ ((∀ K, f_X11_fitsKind_L24 R (nI k) K n1 (nI i) x = some (false, x2)) ∧ (∀ K, f_X12_fits_L76 (nI j) (nI k) p3 p4 p5 K n2 (nI 1) (nI i) y = K (nI 0) y2))) := by
  have n10 : ¬ nI 1 = (0 : Int32) := by decide
  intro d
  induction d with
  | zero =>
    intro i n1 n2 q u x y h1 h2 h3 h4 hS e1 e2 e3
    obtain ⟨m1, rfl⟩ : ∃ m, n1 = m + 1 := ⟨n1 - 1, by omega⟩
    obtain ⟨m2, rfl⟩ : ∃ m, n2 = m + 1 := ⟨n2 - 1, by omega⟩
    refine ⟨x, y, frC_r _ _, frM_r _, Or.inl ⟨fun K => ?_, fun K => ?_⟩⟩
    · rw [f_X11_fitsKind_L24, e1, if_pos (nI_le (by omega) (by omega))]
    · rw [f_X12_fits_L76, ib_n hj (by omega), ck_t, cl_n (by omega), e2, if_pos (nI_le (by omega) (by omega))]
  | succ d ih =>
    intro i n1 n2 q u x y h1 h2 h3 h4 hS e1 e2 e3
    obtain ⟨m1, rfl⟩ : ∃ m, n1 = m + 1 := ⟨n1 - 1, by omega⟩
    obtain ⟨m2, rfl⟩ : ∃ m, n2 = m + 1 := ⟨n2 - 1, by omega⟩
    obtain ⟨u1, x1, y1, g1, g2, g3, g4, g5, g6⟩ := dayR (by omega) (by omega) hS
    obtain ⟨hC, hM, hB, hT⟩ := hS
    have e58 : x 58 k = nI (u 9 k) := c9 hC k hk
    have ei : f_X12_its (nI k) 3 y = some (nI (u 9 k)) := its_n hM k 3 hk (by omega)
    have em := e3 i (by omega)
    have ex : (24 : Int32) * nI j + nI i = nI (24 * j + i) := by
      rw [show (24 : Int32) * nI j = nI (24 * j) from pk_mul 24 j, nI_add]
    by_cases q2 : x (R + 1) i = nI (u 9 k)
    · obtain ⟨x2, y2, t1, t2, t3⟩ := ih (i + 1) m1 m2 (q + 1) u1 x1 y1 (by omega) (by omega) (by omega) (by omega) g3 (by rw [g5.1 R (by omega) (by omega) (by omega)]; exact e1) (by rw [g6.1 95 (by omega) (by omega) (by omega)]; exact e2) (fun i hi => by rw [g5.1 (R + 1) (by omega) (by omega) (by omega), g6.1 96 (by omega) (by omega) (by omega)]; exact e3 i hi)
      have k1 : ∀ K, f_X11_fitsKind_L24 R (nI k) K (m1 + 1) (nI i) x = f_X11_fitsKind_L24 R (nI k) K m1 (nI (i + 1)) x1 := fun K => by
        rw [f_X11_fitsKind_L24, e1, if_neg (nI_ge (by omega) (by omega)), ib_n (by omega) (by omega), ck_t, ib_n hk (by omega), ck_t, cl_n (by omega), cl_n (by omega), e58, if_pos q2, g1, bi, lt_d, nI_1]
      have k2 : ∀ K, f_X12_fits_L76 (nI j) (nI k) p3 p4 p5 K (m2 + 1) (nI 1) (nI i) y = f_X12_fits_L76 (nI j) (nI k) p3 p4 p5 K m2 (nI 1) (nI (i + 1)) y1 := fun K => by
        rw [f_X12_fits_L76, ib_n hj (by omega), ck_t, cl_n (by omega), e2, if_neg (nI_ge (by omega) (by omega)), if_neg n10, ex, ib_n (by omega) (by omega), ck_t, ei, bi, cl_n (by omega), ← em, if_pos q2, g2, bi, lt_d, nI_1]; rfl
      refine ⟨x2, y2, frC_t g5 t1, frM_t g6 t2, ?_⟩
      rcases t3 with ⟨v1, v2⟩ | ⟨v1, v2⟩
      · exact Or.inl ⟨fun K => (k1 K).trans (v1 K), fun K => (k2 K).trans (v2 K)⟩
      · exact Or.inr ⟨fun K => (k1 K).trans (v1 K), fun K => (k2 K).trans (v2 K)⟩
    · refine ⟨x, y1, frC_r _ _, g6, Or.inr ⟨fun K => ?_, fun K => ?_⟩⟩
      · rw [f_X11_fitsKind_L24, e1, if_neg (nI_ge (by omega) (by omega)), ib_n (by omega) (by omega), ck_t, ib_n hk (by omega), ck_t, cl_n (by omega), cl_n (by omega), e58, if_neg q2]
      · rw [f_X12_fits_L76, ib_n hj (by omega), ck_t, cl_n (by omega), e2, if_neg (nI_ge (by omega) (by omega)), if_neg n10, ex, ib_n (by omega) (by omega), ck_t, ei, bi, cl_n (by omega), ← em, if_neg q2, g2, bi, lt_d, nI_1]
        obtain ⟨m, rfl⟩ : ∃ m, m2 = m + 1 := ⟨m2 - 1, by omega⟩
        rw [f_X12_fits_L76, ib_n hj (by omega), ck_t, cl_n (by omega), if_pos (rfl : (0 : Int32) = 0), ite_self]; rfl
theorem fiS {j : Nat} (hj : j < 4) (p2 p3 : Int32) (K : Int32 → ab_F → Option (Int32 × ab_F)) (n : Nat) (u4 u5 : Int32) (σ : ab_F) : f_X11_fits_L54 (nI j) p2 p3 K (n + 1) u4 u5 σ = (if (7 : Int32) ≤ u5 then (K u4 σ) else (f_X11_fitsKind (77 + 2 * j) p2 u5 σ).bind (fun q11 => (if (ab_b q11.1) = 0 then ab_lt (u5 + (1 : Int32)) (fun x13 => (f_X11_fits_L54 (nI j) p2 p3 K n u4 x13 q11.2)) else ab_lt ((u4 ||| ((1 : Int32) <<< (u5 &&& 31)))) (fun x14 => ab_lt (u5 + (1 : Int32)) (fun x15 => (f_X11_fits_L54 (nI j) p2 p3 K n x14 x15 q11.2)))))) := by
  have h : j = 0 ∨ j = 1 ∨ j = 2 ∨ j = 3 := by omega
  rw [f_X11_fits_L54]
  rcases h with rfl | rfl | rfl | rfl
  · rw [if_pos (show nI 0 = (0 : Int32) from rfl)]
  · rw [if_neg (show ¬ nI 1 = (0 : Int32) by decide), if_pos (show nI 1 = (1 : Int32) from rfl)]
  · rw [if_neg (show ¬ nI 2 = (0 : Int32) by decide), if_neg (show ¬ nI 2 = (1 : Int32) by decide), if_pos (show nI 2 = (2 : Int32) from rfl)]
  · rw [if_neg (show ¬ nI 3 = (0 : Int32) by decide), if_neg (show ¬ nI 3 = (1 : Int32) by decide), if_neg (show ¬ nI 3 = (2 : Int32) by decide), if_pos (show nI 3 = (3 : Int32) from rfl)]
theorem fiL {σ0 τ0 : ab_F} {u : Nat → Nat → Nat} {n j k : Nat} (p3 : Int32) (hn : n ≤ 24) (hj : j < 4) (hk : k < 8) (hB : rB 9999 u) (hC : wC u σ0 38) (hM : rM u (τ0 86)) (hT : TX σ0 τ0) (e1 : σ0 (77 + 2 * j) 1 = nI n) (e2 : τ0 95 j = nI n) (e3 : ∀ i, i < n → σ0 (78 + 2 * j) i = τ0 96 (24 * j + i)) : ∀ d i n1 n2 s (x y : ab_F), i + d = 7 → d < n1 → d < n2 → s < 2 ^ 7 → dy_fr σ0 x → dy_sv τ0 y → dy_fr τ0 y → ∃ (s2 : Nat) (x2 y2 : ab_F), s2 < 2 ^ 7 ∧ dy_fr σ0 x2 ∧ dy_fr τ0 y2 ∧ (∀ K, f_X11_fits_L54 (nI j) (nI k) p3 K n1 (nI s) (nI i) x = K (nI s2) x2) ∧ (∀ K, f_X12_fits_L55 (nI j) (nI k) p3 K n2 (nI s) (nI i) y = K (nI s2) y2) := by
  intro d
  induction d with
  | zero =>
    intro i n1 n2 s x y h1 h2 h3 hs hx hsv hy
    obtain ⟨m1, rfl⟩ : ∃ m, n1 = m + 1 := ⟨n1 - 1, by omega⟩
    obtain ⟨m2, rfl⟩ : ∃ m, n2 = m + 1 := ⟨n2 - 1, by omega⟩
    refine ⟨s, x, y, hs, hx, hy, fun K => ?_, fun K => ?_⟩
    · rw [fiS hj, if_pos (show (7 : Int32) ≤ nI i from nI_le (a := 7) (by omega) (by omega))]
    · rw [f_X12_fits_L55, if_pos (show (6 : Int32) < nI i from nI_lt (a := 6) (by omega) (by omega))]
  | succ d ih =>
    intro i n1 n2 s x y h1 h2 h3 hs hx hsv hy
    obtain ⟨m1, rfl⟩ : ∃ m, n1 = m + 1 := ⟨n1 - 1, by omega⟩
    obtain ⟨m2, rfl⟩ : ∃ m, n2 = m + 1 := ⟨n2 - 1, by omega⟩
    have c1 : ¬ (7 : Int32) ≤ nI i := nI_ge (b := 7) (by omega) (by omega)
    have c2 : ¬ (6 : Int32) < nI i := nI_nlt (a := 6) (by omega) (by omega)
    have y86 := hy 86 n86
    have hv6 : val 6 k := vp (by omega) (by omega) hk
    have ix6 := ix_lt hv6
    obtain ⟨x1, p1, p2x, p3x⟩ := dy_cp (wC_x hC hx)
    have C1 : wC (uu u 6 k i) (ab_u x1 55 k (nI i)) 49 := wC_set (r := 6) p2x
    have M1 : rM (uu u 6 k i) ((ab_u y 86 (ix 6 k) (nI i)) 86) := wM_set hv6 (by rw [y86]; exact hM)
    have B1 : rB 9999 (uu u 6 k i) := rB_set hB (show i ≤ 6 by omega)
    have F1 : dy_fr σ0 (ab_u x1 55 k (nI i)) := dy_t (dy_t hx p3x) (dy_u (by omega))
    have T1 : TX (ab_u x1 55 k (nI i)) (ab_u y 86 (ix 6 k) (nI i)) := TX_x hT F1 (fun j hj => by rw [u_rd _ _ _ _ _ (by omega), y86])
    have f1 : (ab_u x1 55 k (nI i)) (77 + 2 * j) 1 = nI n := by rw [F1 _ (by unfold scr; omega)]; exact e1
    have f2 : (ab_u y 86 (ix 6 k) (nI i)) 95 j = nI n := by rw [ab_u_ne _ _ _ (by omega), hy 95 (by unfold scr; omega)]; exact e2
    have f3 : ∀ i2, i2 < n → (ab_u x1 55 k (nI i)) (77 + 2 * j + 1) i2 = (ab_u y 86 (ix 6 k) (nI i)) 96 (24 * j + i2) := fun i2 hi2 => by
      rw [F1 _ (by unfold scr; omega), ab_u_ne _ _ _ (by omega), hy 96 (by unfold scr; omega), ← e3 i2 hi2, show 77 + 2 * j + 1 = 78 + 2 * j by omega]
    obtain ⟨x2, y2, t6, t7, t8⟩ := fkL (R := 77 + 2 * j) p3 (nI s) (nI i) hn hj hk (by omega) n 0 ab_fu ab_fu 9999 (uu u 6 k i) (ab_u x1 55 k (nI i)) (ab_u y 86 (ix 6 k) (nI i)) (by omega) (by unfold ab_fu; omega) (by unfold ab_fu; omega) (by omega) ⟨C1, M1, B1, T1⟩ f1 f2 f3
    obtain ⟨y3, z1, z2, z3, z4⟩ := sv_B (sv_M (sv_U hsv ix6.1) t7)
    have F2 := dy_t F1 (dy_C t6)
    have km : f_X12_lays1 (nI k) 0 (nI i) y = some (ab_u y 86 (ix 6 k) (nI i)) := lays_n k 0 _ hk (by omega)
    rcases t8 with ⟨v1, v2⟩ | ⟨v1, v2⟩
    · have kc : f_X11_fitsKind (77 + 2 * j) (nI k) (nI i) x = some (true, x2) := by
        unfold f_X11_fitsKind
        rw [p1, bi, ib_n hk (by omega), ck_t, lt_d, cl_n (by omega)]
        exact v1 _
      have hs2 : s ||| 2 ^ i < 2 ^ 7 := Nat.or_lt_two_pow hs (Nat.pow_lt_pow_right (by omega) (by omega))
      obtain ⟨s2, x4, y4, w0, w1, w2, w3, w4⟩ := ih (i + 1) m1 m2 (s ||| 2 ^ i) x2 y3 (by omega) (by omega) (by omega) hs2 F2 z2 z4
      refine ⟨s2, x4, y4, w0, w1, w2, fun K => ?_, fun K => ?_⟩
      · rw [fiS hj, if_neg c1, kc, bi]
        show ab_lt ((nI s ||| ((1 : Int32) <<< (nI i &&& 31)))) (fun x14 => ab_lt (nI i + (1 : Int32)) (fun x15 => (f_X11_fits_L54 (nI j) (nI k) p3 K m1 x14 x15 x2))) = _
        rw [lt_d, lt_d, sh1 i (by omega), nx_or, nI_1]
        exact w3 K
      · rw [f_X12_fits_L55, if_neg c2, km, bi]
        refine (v2 _).trans ?_
        show (f_X12_putsBack y2).bind _ = _
        rw [z1, bi, if_neg (by decide), lt_d, lt_d, sh1 i (by omega), nx_or, nI_1]
        exact w4 K
    · have kc : f_X11_fitsKind (77 + 2 * j) (nI k) (nI i) x = some (false, x2) := by
        unfold f_X11_fitsKind
        rw [p1, bi, ib_n hk (by omega), ck_t, lt_d, cl_n (by omega)]
        exact v1 _
      obtain ⟨s2, x4, y4, w0, w1, w2, w3, w4⟩ := ih (i + 1) m1 m2 s x2 y3 (by omega) (by omega) (by omega) hs F2 z2 z4
      refine ⟨s2, x4, y4, w0, w1, w2, fun K => ?_, fun K => ?_⟩
      · rw [fiS hj, if_neg c1, kc, bi]
        show ab_lt (nI i + (1 : Int32)) (fun x13 => (f_X11_fits_L54 (nI j) (nI k) p3 K m1 (nI s) x13 x2)) = _
        rw [lt_d, nI_1]
        exact w3 K
      · rw [f_X12_fits_L55, if_neg c2, km, bi]
        refine (v2 _).trans ?_
        show (f_X12_putsBack y2).bind _ = _
        rw [z1, bi, if_pos (by decide), lt_d, lt_d, show nI s ||| (0 : Int32) = nI s from by rw [show (0 : Int32) = nI 0 from rfl, nx_or, Nat.or_zero], nI_1]
        exact w4 K
theorem m_fits (a0 a1 a2 : Int32) : ok2 rR (f_X11_fits a0 a1 a2) (f_X12_fits a0 a1 a2) := by
  intro σ h
  obtain ⟨u0, hB0, hC0, hM0⟩ := rR_u h
  have hp := b11 hB0
  rcases gd a0 3 (by omega) with ⟨j, hj, rfl⟩ | ⟨hx, hy⟩
  · rcases go a1 (u0 0 11) hp with ⟨k, hk, rfl⟩ | ⟨hx, hy⟩
    · rcases gd a2 1 (by omega) with ⟨w, hw, rfl⟩ | ⟨hx, hy⟩
      · obtain ⟨⟨n, hn, e1, e2⟩, ⟨e3, _⟩, e4⟩ := h.2.2.1 j (by omega)
        have k1 : f_X11_fits (nI j) (nI k) (nI w) σ = (if (σ (77 + 2 * j) 2) = 0 then (f_X11_refuse (2 : Int32) σ).bind (fun q39 => (some (q39.1, q39.2))) else (f_X11_fits_L54 (nI j) (nI k) (nI w) (fun (k35 : Int32) (s36 : ab_F) => (if nI w = 0 then (some (k35, s36)) else (f_J6_bitCount_0f7a4 k35 s36).bind (fun q38 => (some (q38, s36))))) ab_fu (nI 0) (nI 0) σ)) := by
          unfold f_X11_fits
          rw [gs_f (show f_X11_outside (nI j) 3 σ = some false from ou_n (j := j) (n := 3) σ (by omega) (by omega)), gs_f (nb_n (by omega) hk (c0_11 hC0)), gs_f (show f_X11_outside (nI w) 1 σ = some false from ou_n (j := w) (n := 1) σ (by omega) (by omega))]
          have h4 : j = 0 ∨ j = 1 ∨ j = 2 ∨ j = 3 := by omega
          rcases h4 with rfl | rfl | rfl | rfl
          · rw [if_pos (show nI 0 = (0 : Int32) from rfl)]; rfl
          · rw [if_neg (show ¬ nI 1 = (0 : Int32) by decide), if_pos (show nI 1 = (1 : Int32) from rfl)]; rfl
          · rw [if_neg (show ¬ nI 2 = (0 : Int32) by decide), if_neg (show ¬ nI 2 = (1 : Int32) by decide), if_pos (show nI 2 = (2 : Int32) from rfl)]; rfl
          · rw [if_neg (show ¬ nI 3 = (0 : Int32) by decide), if_neg (show ¬ nI 3 = (1 : Int32) by decide), if_neg (show ¬ nI 3 = (2 : Int32) by decide), if_pos (show nI 3 = (3 : Int32) from rfl)]; rfl
        by_cases hz : σ (77 + 2 * j) 2 = 0
        · refine er2 h 2 (by omega) ?_ (fun τ hτ => ?_)
          · rw [k1, if_pos hz, bie]; rfl
          · unfold f_X12_fits
            rw [gs_t (isS_n τ hj), gs_t (is_n (by omega) hk (by rw [hτ 86 (by omega)]; exact d0_11 hM0)), gs_t (show f_X12_in (nI w) 0 1 τ = some true from in_n (j := w) (l := 0) (n := 1) τ (Nat.zero_le _) (by omega) (by omega)), ib_n (by omega) (by omega), ck_t, cl_n (by omega), hτ 94 (by omega), ← e3, if_pos hz, bie]; rfl
        · refine dy_top h (fun τ hτ => Or.inl ?_)
          have e86 : τ 86 = σ 86 := hτ 86 n86 (by omega)
          obtain ⟨_, _, _, _, hT⟩ := dy_cx h e86
          have hM : rM u0 (τ 86) := by rw [e86]; exact hM0
          obtain ⟨y1, s1, s2, s3, s4⟩ := sv_S τ
          have t95 := hτ 95 (by unfold scr; omega) (by omega)
          have t96 := hτ 96 (by unfold scr; omega) (by omega)
          have t94 := hτ 94 (by unfold scr; omega) (by omega)
          obtain ⟨v, x4, y4, w0, w1, w2, w3, w4⟩ := fiL (nI w) hn (by omega) (by omega : k < 8) hB0 hC0 hM hT e1 (by rw [t95]; exact e2) (fun i hi => by rw [t96]; exact e4 i (by omega)) 7 0 ab_fu ab_fu 0 σ y1 (by omega) (by unfold ab_fu; omega) (by unfold ab_fu; omega) (by omega) (dy_r σ) s2 s4
          rw [if_neg hz] at k1
          have k2 : f_X12_fits (nI j) (nI k) (nI w) τ = f_X12_fits_L55 (nI j) (nI k) (nI w) (fun (k32 : Int32) (s33 : ab_F) => (if nI w = 0 then (some (k32, s33)) else (f_X12_ones k32 s33).bind (fun q35 => (some (q35, s33))))) ab_fu (nI 0) (nI 0) y1 := by
            unfold f_X12_fits
            rw [gs_t (isS_n τ hj), gs_t (is_n (by omega) hk (d0_11 hM)), gs_t (show f_X12_in (nI w) 0 1 τ = some true from in_n (j := w) (l := 0) (n := 1) τ (Nat.zero_le _) (by omega) (by omega)), ib_n (by omega) (by omega), ck_t, cl_n (by omega), t94, ← e3, if_neg hz, s1, bi]; rfl
          by_cases q2 : nI w = 0
          · refine ⟨nI v, x4, y4, (k1.trans (w3 _)).trans ?_, (k2.trans (w4 _)).trans ?_, w1, w2⟩
            · exact if_pos q2
            · exact if_pos q2
          · refine ⟨nI (bc v), x4, y4, (k1.trans (w3 _)).trans ?_, (k2.trans (w4 _)).trans ?_, w1, w2⟩
            · refine (if_neg q2).trans ?_
              rw [bc_c _ _ (by omega), bi]
            · refine (if_neg q2).trans ?_
              rw [bc_m _ _ (by omega), bi]
      · refine er2 h 1 (by omega) ?_ (fun τ hτ => ?_)
        · unfold f_X11_fits
          rw [gs_f (show f_X11_outside (nI j) 3 σ = some false from ou_n (j := j) (n := 3) σ (by omega) (by omega)), gs_f (nb_n (by omega) hk (c0_11 hC0)), gs_t (show f_X11_outside a2 1 σ = some true from hx σ), bie]; rfl
        · unfold f_X12_fits
          rw [gs_t (isS_n τ hj), gs_t (is_n (by omega) hk (by rw [hτ 86 (by omega)]; exact d0_11 hM0)), gs_f (show f_X12_in a2 0 1 τ = some false from hy τ), bie]; rfl
    · refine er2 h 1 (by omega) ?_ (fun τ hτ => ?_)
      · unfold f_X11_fits
        rw [gs_f (show f_X11_outside (nI j) 3 σ = some false from ou_n (j := j) (n := 3) σ (by omega) (by omega)), gs_t (hx σ (c0_11 hC0)), bie]; rfl
      · unfold f_X12_fits
        rw [gs_t (isS_n τ hj), gs_f (hy τ (by rw [hτ 86 (by omega)]; exact d0_11 hM0)), bie]; rfl
  · refine er2 h 1 (by omega) ?_ (fun τ hτ => ?_)
    · unfold f_X11_fits
      rw [gs_t (show f_X11_outside a0 3 σ = some true from hx σ), bie]; rfl
    · unfold f_X12_fits
      rw [gs_f (isS_x τ hy), bie]; rfl
