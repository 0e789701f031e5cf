/-! loose, then, learns, soonest -/
def dy_z (z : Int32) : Int32 := z * 1103515245 + 12345
def dy_v (z : Int32) : Int32 := (z.toUInt32 >>> ((8 : Int32).toUInt32 &&& Int32.toUInt32 31)).toInt32
theorem dy_v_n (z : Int32) : ∃ j : Nat, j < 2 ^ 24 ∧ dy_v z = nI j := by
  have h := pk_ushr z 8 8 (by decide)
  have h2 := z.toBitVec.isLt
  refine ⟨z.toBitVec.toNat / 2 ^ 8, by omega, ?_⟩
  unfold dy_v
  apply Int32.toBitVec_inj.1
  apply BitVec.eq_of_toNat_eq
  rw [h, pk_tn (by omega)]
theorem drC1 (w : Nat) (σ : ab_F) : f_X9_draw w σ = some (dy_v (dy_z (σ w 5)), ab_u σ w 5 (dy_z (σ w 5))) := by
  unfold f_X9_draw
  rw [lt_d, u_rk]; rfl
theorem drM1 (τ : ab_F) : f_X12_draw τ = some (dy_v (dy_z (τ 86 2)), ab_u τ 86 2 (dy_z (τ 86 2))) := by
  unfold f_X12_draw
  rw [lt_d, u_rk]; rfl
theorem drC {σ : ab_F} {j1 j2 d : Nat} (h1 : dy_v (dy_z (σ 38 5)) = nI j1) (h2 : dy_v (dy_z (dy_z (σ 38 5))) = nI j2) (hj1 : j1 < 2 ^ 24) (hj2 : j2 < 2 ^ 24) (h3 : σ 38 3 = nI d) (hd : d < 2 ^ 30) : f_X9_drawSpring 38 σ = some (ab_u (ab_u (ab_u (ab_u σ 38 5 (dy_z (σ 38 5))) 38 4 (nI (j1 % 16))) 38 5 (dy_z (dy_z (σ 38 5)))) 43 (d % 6) (nI (j2 % 10))) := by
  unfold f_X9_drawSpring
  simp (disch := omega) only [drC1, bi, lt_d, u_rd, u_rk, h1, h2, h3, lit, pk_rem, ib_n, ck_t, cl_n, Nat.reduceAdd]
theorem wC_z {u : Nat → Nat → Nat} {σ : ab_F} {w : Nat} {x : Int32} (h : wC u σ w) : wC u (ab_u σ w 5 x) w := by
  intro r j hj
  by_cases q : r = 0
  · subst q
    rw [show w + 0 = w from rfl, u_rd _ _ _ _ _ (by rcases hj with ⟨_, q | q | q⟩ | q | q | q <;> omega)]; exact h 0 j hj
  · rw [ab_u_ne _ _ _ (by omega)]; exact h r j hj
theorem rM_z {u : Nat → Nat → Nat} {τ : ab_F} {x : Int32} (h : rM u (τ 86)) : rM u (ab_u τ 86 2 x 86) := by
  intro r j hj
  rw [u_rd _ _ _ _ _ (ix_lt hj).2.1]; exact h r j hj
theorem TX_y {σ τ x y : ab_F} (h : TX σ τ) (h1 : ∀ e, e < 38 → x e = σ e) (h2 : ∀ j, 116 ≤ j → y 86 j = τ 86 j) : TX x y := by
  refine ⟨?_, ?_⟩
  · rw [h1 32 (by omega), h1 33 (by omega)]
    exact rT_to h.1 (fun k hk _ => h2 k (by omega))
  · rw [h1 35 (by omega), h1 36 (by omega)]
    exact rT_to h.2 (fun k hk _ => h2 k (by omega))
theorem loL (N : Nat) (hN : N < 2 ^ 30) : ∀ d i n1 n2 q (u : Nat → Nat → Nat) (σ τ : ab_F), i + d = N → d < n1 → d < n2 → q + d < 2 ^ 30 → SM 38 q u σ τ → σ 38 5 = τ 86 2 → ∃ (u2 : Nat → Nat → Nat) (σ2 τ2 : ab_F), (∀ K, f_X11_loose_L40 (nI N) K n1 (nI i) σ = K σ2) ∧ (∀ K, f_X12_loose_L38 (nI N) K n2 (nI i) τ = K τ2) ∧ SM 38 (q + d) u2 σ2 τ2 ∧ σ2 38 5 = τ2 86 2 ∧ (∀ e, (e < 38 ∨ 48 < e) → e ≠ 34 → e ≠ 37 → σ2 e = σ e) ∧ (∀ e, e ≠ 86 → e ≠ 91 → e ≠ 92 → τ2 e = τ e) ∧ ∀ j, (116 ≤ j ∨ j = 3 ∨ j = 4) → τ2 86 j = τ 86 j := by
  intro d
  induction d with
  | zero =>
    intro i n1 n2 q u σ τ h1 h2 h3 h4 hS hz
    obtain ⟨m1, rfl⟩ : ∃ m, n1 = m + 1 := ⟨n1 - 1, by omega⟩
    obtain ⟨m2, rfl⟩ : ∃ m, n2 = m + 1 := ⟨n2 - 1, by omega⟩
    refine ⟨u, σ, τ, fun K => ?_, fun K => ?_, hS, hz, fun _ _ _ _ => rfl, fun _ _ _ _ => rfl, fun _ _ => rfl⟩
    · rw [f_X11_loose_L40, if_pos (nI_le (by omega) (by omega))]
    · rw [f_X12_loose_L38, if_pos (nI_le (by omega) (by omega))]
  | succ d ih =>
    intro i n1 n2 q u σ τ h1 h2 h3 h4 hS hz
    obtain ⟨m1, rfl⟩ : ∃ m, n1 = m + 1 := ⟨n1 - 1, by omega⟩
    obtain ⟨m2, rfl⟩ : ∃ m, n2 = m + 1 := ⟨n2 - 1, by omega⟩
    obtain ⟨hC, hM, hB, hT⟩ := hS
    have hb3 := b3 hB
    obtain ⟨j1, hj1, e1⟩ := dy_v_n (dy_z (σ 38 5))
    obtain ⟨j2, hj2, e2⟩ := dy_v_n (dy_z (dy_z (σ 38 5)))
    have eC := drC e1 e2 hj1 hj2 (c0_3 hC) (by omega)
    have C1 : wC (uu (uu u 0 4 (j1 % 16)) 5 (u 0 3 % 6) (j2 % 10)) (ab_u (ab_u (ab_u (ab_u σ 38 5 (dy_z (σ 38 5))) 38 4 (nI (j1 % 16))) 38 5 (dy_z (dy_z (σ 38 5)))) 43 (u 0 3 % 6) (nI (j2 % 10))) 38 := wC_set (r := 5) (wC_z (wC_set (r := 0) (wC_z hC)))
    have M1 : rM (uu (uu u 0 4 (j1 % 16)) 5 (u 0 3 % 6) (j2 % 10)) ((ab_u (ab_u (ab_u (ab_u τ 86 2 (dy_z (σ 38 5))) 86 1 (nI (j1 % 16))) 86 2 (dy_z (dy_z (σ 38 5)))) 86 (6 + u 0 3 % 6) (nI (j2 % 10))) 86) := wM_set (r := 5) (v5 (by omega)) (rM_z (wM_set (r := 0) (i := 4) v4 (rM_z hM)))
    have B1 : rB q (uu (uu u 0 4 (j1 % 16)) 5 (u 0 3 % 6) (j2 % 10)) := rB_set (rB_set hB (show j1 % 16 ≤ 15 by omega)) (show j2 % 10 ≤ 9 by omega)
    generalize hs1 : (ab_u (ab_u (ab_u (ab_u σ 38 5 (dy_z (σ 38 5))) 38 4 (nI (j1 % 16))) 38 5 (dy_z (dy_z (σ 38 5)))) 43 (u 0 3 % 6) (nI (j2 % 10))) = σ1 at eC C1
    generalize ht1 : (ab_u (ab_u (ab_u (ab_u τ 86 2 (dy_z (σ 38 5))) 86 1 (nI (j1 % 16))) 86 2 (dy_z (dy_z (σ 38 5)))) 86 (6 + u 0 3 % 6) (nI (j2 % 10))) = τ1 at M1
    have fs : ∀ e, (e < 38 ∨ 48 < e) → σ1 e = σ e := fun e he => by rw [← hs1, ab_u_ne _ _ _ (by omega), ab_u_ne _ _ _ (by omega), ab_u_ne _ _ _ (by omega), ab_u_ne _ _ _ (by omega)]
    have ft : ∀ e, e ≠ 86 → τ1 e = τ e := fun e he => by rw [← ht1, ab_u_ne _ _ _ he, ab_u_ne _ _ _ he, ab_u_ne _ _ _ he, ab_u_ne _ _ _ he]
    have fj : ∀ j, (116 ≤ j ∨ j = 3 ∨ j = 4) → τ1 86 j = τ 86 j := fun j hj => by rw [← ht1, u_rd _ _ _ _ _ (by omega), u_rd _ _ _ _ _ (by omega), u_rd _ _ _ _ _ (by omega), u_rd _ _ _ _ _ (by omega)]
    have z1 : σ1 38 5 = τ1 86 2 := by
      rw [← hs1, ← ht1, ab_u_ne _ _ _ (by omega : 38 ≠ 43), u_rk, u_rd _ _ _ _ _ (by omega : 2 ≠ 6 + u 0 3 % 6), u_rk]
    have T1 : TX σ1 τ1 := TX_y hT (fun e he => fs e (by omega)) (fun j hj => fj j (by omega))
    obtain ⟨u2, σ2, τ2, g1, g2, g3, g4, g5, g6⟩ := dayR (by omega) (by omega) ⟨C1, M1, B1, T1⟩
    obtain ⟨u3, σ3, τ3, t1, t2, t3, t4, t5, t6, t7⟩ := ih (i + 1) m1 m2 (q + 1) u2 σ2 τ2 (by omega) (by omega) (by omega) (by omega) g3 (by rw [g5.2, g6.2 2 (by omega)]; exact z1)
    refine ⟨u3, σ3, τ3, fun K => ?_, fun K => ?_, by rw [show q + (d + 1) = q + 1 + d by omega]; exact t3, t4, fun e a1 a2 a3 => by rw [t5 e a1 a2 a3, g5.1 e (by omega) a2 a3, fs e a1], fun e a1 a2 a3 => by rw [t6 e a1 a2 a3, g6.1 e a1 a2 a3, ft e a1], fun j hj => by rw [t7 j hj, g6.2 j (by omega), fj j hj]⟩
    · rw [f_X11_loose_L40, if_neg (nI_ge (by omega) (by omega)), eC, bi, g1, bi, lt_d, nI_1]; exact t1 K
    · rw [f_X12_loose_L38, if_neg (nI_ge (by omega) (by omega))]
      simp (disch := omega) only [drM1, bi, lt_d, u_rd, u_rk, ← hz, e1, e2, d0_3 hM, lit, pk_rem, nI_add, ib_n, ck_t, cl_n]
      rw [ht1, g2]
      exact t2 K
theorem m_loose (a0 : Int32) : ok2 rR (f_X11_loose a0) (f_X12_loose a0) := by
  intro σ h
  obtain ⟨u, hB, hC, hM⟩ := rR_u h
  have hd := b3 hB
  rcases dy_1n a0 30 (by omega) with ⟨n, h1, h2, rfl⟩ | ⟨hx, hy⟩
  · have c1 : ¬ nI n < (1 : Int32) := nI_nlt (b := 1) h1 (by omega)
    have c2 : nI n ≤ (30 : Int32) := nI_le (b := 30) h2 (by omega)
    have cI : ∀ τ, f_X12_in (nI n) 1 30 τ = some true := fun τ => in_n (l := 1) (n := 30) τ h1 h2 (by omega)
    by_cases hs : u 0 3 + n ≤ 9999
    · refine dy_topW h (fun τ hτ => ?_)
      have e86 : τ 86 = σ 86 := hτ 86 n86 (by omega)
      obtain ⟨_, _, _, _, hT⟩ := dy_cx h e86
      obtain ⟨u2, σ2, τ2, t1, t2, ⟨tC, tM, tB, tT⟩, t4, t5, t6, t7⟩ := loL n (by omega) n 0 ab_fu ab_fu (u 0 3) u σ τ (by omega) (by unfold ab_fu; omega) (by unfold ab_fu; omega) (by omega) ⟨hC, (by rw [e86]; exact hM : rM u (τ 86)), dy_q hB, hT⟩ (by rw [e86]; exact h.1.2.1)
      refine ⟨nI (kn u2), σ2, τ2, u2, ?_, ?_, fun c hc h2 => t5 c h2 (by unfold scr at hc; omega) (by unfold scr at hc; omega), fun c hc h2 => t6 c h2 (by unfold scr at hc; omega) (by unfold scr at hc; omega), fun k hk => t7 k hk, rB_mono tB (by omega), tC, tM, t4⟩
      · unfold f_X11_loose
        rw [if_neg c1, if_pos c2, c0_3 hC, nI_add, if_pos (show nI (u 0 3 + n) ≤ (9999 : Int32) from nI_le (b := 9999) hs (by omega))]
        refine (t1 _).trans ?_
        show (f_X9_known 38 σ2).bind _ = _
        rw [kn_c tC tB, bi]
      · unfold f_X12_loose
        rw [gs_t (cI τ), e86, d0_3 hM, nI_add, if_pos (show nI (u 0 3 + n) ≤ (9999 : Int32) from nI_le (b := 9999) hs (by omega))]
        refine (t2 _).trans ?_
        show (f_X12_knownNow τ2).bind _ = _
        rw [kn_m tM tB, bi]
    · refine er2 h 3 (by omega) ?_ (fun τ hτ => ?_)
      · unfold f_X11_loose
        rw [if_neg c1, if_pos c2, c0_3 hC, nI_add, if_neg (show ¬ nI (u 0 3 + n) ≤ (9999 : Int32) from nI_ge (a := 9999) (by omega) (by omega)), bie]; rfl
      · unfold f_X12_loose
        rw [gs_t (cI τ), hτ 86 (by omega), d0_3 hM, nI_add, if_neg (show ¬ nI (u 0 3 + n) ≤ (9999 : Int32) from nI_ge (a := 9999) (by omega) (by omega)), bie]; rfl
  · refine er2 h 1 (by omega) ?_ (fun τ hτ => ?_)
    · unfold f_X11_loose
      by_cases c1 : a0 < 1
      · rw [if_pos c1, bie]; rfl
      · rw [if_neg c1, if_neg (show ¬ a0 ≤ 30 from hx.resolve_left c1), bie]; rfl
    · unfold f_X12_loose
      rw [gs_f (show f_X12_in a0 1 30 τ = some false from hy τ), bie]; rfl
/-! guards -/
theorem isC_n {j : Nat} (τ : ab_F) (h : j ≤ 15) : f_X12_isCell (nI j) τ = some true := by
  unfold f_X12_isCell
  rw [(show f_X12_in (nI j) 0 15 τ = some true from in_n (j := j) (l := 0) (n := 15) τ (Nat.zero_le _) (by omega) (by omega)), bi]
theorem isC_x {x : Int32} (τ : ab_F) (h : ∀ σ, f_X12_in x (nI 0) (nI 15) σ = some false) : f_X12_isCell x τ = some false := by
  unfold f_X12_isCell
  rw [show f_X12_in x 0 15 τ = some false from h τ, bi]
theorem isS_n {j : Nat} (τ : ab_F) (h : j ≤ 3) : f_X12_isSheet (nI j) τ = some true := by
  unfold f_X12_isSheet
  rw [(show f_X12_in (nI j) 0 3 τ = some true from in_n (j := j) (l := 0) (n := 3) τ (Nat.zero_le _) (by omega) (by omega)), bi]
theorem isS_x {x : Int32} (τ : ab_F) (h : ∀ σ, f_X12_in x (nI 0) (nI 3) σ = some false) : f_X12_isSheet x τ = some false := by
  unfold f_X12_isSheet
  rw [show f_X12_in x 0 3 τ = some false from h τ, bi]
theorem m_then (a0 a1 : Int32) : ok2 rR (f_X11_then a0 a1) (f_X12_then a0 a1) := by
  intro σ h
  rcases gd a0 15 (by omega) with ⟨c, hc, rfl⟩ | ⟨hx, hy⟩
  · rcases gd a1 60 (by omega) with ⟨n, hn, rfl⟩ | ⟨hx, hy⟩
    · refine dy_top h (fun τ hτ => Or.inl ?_)
      have e86 : τ 86 = σ 86 := hτ 86 n86 (by omega)
      obtain ⟨u, hB, hC, hM, hT⟩ := dy_cx h e86
      obtain ⟨x1, p1, p2, p3⟩ := dy_cp hC
      obtain ⟨y1, s1, s2, s3, s4⟩ := sv_S τ
      obtain ⟨v2, u2, σ2, τ2, t1, t2, t3, t4, t5, t6, t7, t8⟩ := watR (w := 49) (N := n) (q := 9999) (ρ := σ) (v := u) (u := u) (σ := x1) (τ := y1) hn (by omega) p2 hB (by rw [s3]; exact hM) hB (fun _ _ => rfl) (TX_x hT (dy_r σ) (fun j hj => by rw [s3]))
      obtain ⟨y2, z1, z2, z3, z4⟩ := sv_B (sv_M s2 t8)
      refine ⟨nI (u2 2 c), σ2, y2, ?_, ?_, dy_t p3 (dy_C t7), z4⟩
      · unfold f_X11_then
        rw [gs_f (show f_X11_outside (nI c) 15 σ = some false from ou_n (j := c) (n := 15) σ (by omega) (by omega)), gs_f (show f_X11_outside (nI n) 60 σ = some false from ou_n (j := n) (n := 60) σ (by omega) (by omega)), p1, bi, t1, bi, ib_n (by omega) (by omega), ck_t, cl_n (by omega), show σ2 51 c = nI (v2 2 c) from c2 t3 c (by omega), t5]
      · unfold f_X12_then f_X12_thenAt
        rw [gs_t (isC_n τ hc), gs_t (show f_X12_in (nI n) 0 60 τ = some true from in_n (j := n) (l := 0) (n := 60) τ (Nat.zero_le _) (by omega) (by omega)), s1, bi, t2, bi, show (28 : Int32) + nI c = nI (28 + c) from nI_add 28 c, ib_n (by omega) (by omega), ck_t, lt_d, cl_n (by omega), d2 t4 c (by omega), z1, bi, bi]
    · refine er2 h 1 (by omega) ?_ (fun τ hτ => ?_)
      · unfold f_X11_then
        rw [gs_f (show f_X11_outside (nI c) 15 σ = some false from ou_n (j := c) (n := 15) σ (by omega) (by omega)), gs_t (show f_X11_outside a1 60 σ = some true from hx σ), bie]; rfl
      · unfold f_X12_then
        rw [gs_t (isC_n τ hc), gs_f (show f_X12_in a1 0 60 τ = some false from hy τ), bie]; rfl
  · refine er2 h 1 (by omega) ?_ (fun τ hτ => ?_)
    · unfold f_X11_then
      rw [gs_t (show f_X11_outside a0 15 σ = some true from hx σ), bie]; rfl
    · unfold f_X12_then
      rw [gs_f (isC_x τ hy), bie]; rfl
theorem m_learns (a0 a1 : Int32) : ok2 rR (f_X11_learns a0 a1) (f_X12_learns a0 a1) := by
  intro σ h
  obtain ⟨u0, hB0, hC0, hM0⟩ := rR_u h
  have hp := b11 hB0
  rcases go a0 (u0 0 11) hp with ⟨k, hk, rfl⟩ | ⟨hx, hy⟩
  · rcases gd a1 60 (by omega) with ⟨n, hn, rfl⟩ | ⟨hx, hy⟩
    · refine dy_top h (fun τ hτ => Or.inl ?_)
      have e86 : τ 86 = σ 86 := hτ 86 n86 (by omega)
      obtain ⟨_, _, _, _, hT⟩ := dy_cx h e86
      have hM : rM u0 (τ 86) := by rw [e86]; exact hM0
      obtain ⟨x1, p1, p2, p3⟩ := dy_cp hC0
      obtain ⟨y1, s1, s2, s3, s4⟩ := sv_S τ
      obtain ⟨u2, σ2, τ2, t1, t2, ⟨tC, tM, tB, tT⟩, t4, t5, t6, t7⟩ := daysR (w := 49) (N := n) (q := 9999) (by omega) hn (by omega) ⟨p2, (by rw [s3]; exact hM : rM u0 (y1 86)), hB0, TX_x hT p3 (fun j hj => by rw [s3])⟩
      obtain ⟨y2, z1, z2, z3, z4⟩ := sv_B (sv_M s2 t7)
      refine ⟨nI (u2 10 k), σ2, y2, ?_, ?_, dy_t p3 (dy_C t6), z4⟩
      · unfold f_X11_learns
        rw [gs_f (nb_n (by omega) hk (c0_11 hC0)), gs_f (show f_X11_outside (nI n) 60 σ = some false from ou_n (j := n) (n := 60) σ (by omega) (by omega)), p1, bi, t1, bi, ib_n (by omega) (by omega), ck_t, cl_n (by omega), show σ2 59 k = nI (u2 10 k) from c10 tC k (by omega)]
      · unfold f_X12_learns f_X12_thenAt
        rw [gs_t (is_n (by omega) hk (d0_11 hM)), gs_t (show f_X12_in (nI n) 0 60 τ = some true from in_n (j := n) (l := 0) (n := 60) τ (Nat.zero_le _) (by omega) (by omega)), s1, bi, t2, bi, show (76 : Int32) + (5 : Int32) * nI k + (4 : Int32) = nI (76 + 5 * k + 4) by rw [show (5 : Int32) * nI k = nI (5 * k) from pk_mul 5 k, show (76 : Int32) + nI (5 * k) = nI (76 + 5 * k) from nI_add 76 _]; exact nI_add _ 4, ib_n (by omega) (by omega), ck_t, lt_d, cl_n (by omega), d6 tM k 4 (by omega) (by omega), z1, bi, bi]
    · refine er2 h 1 (by omega) ?_ (fun τ hτ => ?_)
      · unfold f_X11_learns
        rw [gs_f (nb_n (by omega) hk (c0_11 hC0)), gs_t (show f_X11_outside a1 60 σ = some true from hx σ), bie]; rfl
      · unfold f_X12_learns
        rw [gs_t (is_n (by omega) hk (by rw [hτ 86 (by omega)]; exact d0_11 hM0)), gs_f (show f_X12_in a1 0 60 τ = some false from hy τ), bie]; rfl
  · refine er2 h 1 (by omega) ?_ (fun τ hτ => ?_)
    · unfold f_X11_learns
      rw [gs_t (hx σ (c0_11 hC0)), bie]; rfl
    · unfold f_X12_learns
      rw [gs_f (hy τ (by rw [hτ 86 (by omega)]; exact d0_11 hM0)), bie]; rfl
theorem bit01 (x : Int32) : x &&& 1 = 0 ∨ x &&& 1 = 1 := by
  obtain ⟨j, hj, e⟩ := pk_andE x (m := 1) 1 (by decide)
  have : j = 0 ∨ j = 1 := by omega
  rcases this with rfl | rfl
  · exact Or.inl e
  · exact Or.inr e
theorem soL (t : Int32) : ∀ d i n1 n2 q (u : Nat → Nat → Nat) (σ τ : ab_F), i + d = 61 → d < n1 → d < n2 → q + d < 2 ^ 30 → SM 49 q u σ τ → ∃ (σ2 τ2 : ab_F), frC 49 σ σ2 ∧ frM τ τ2 ∧ ((∃ k : Nat, k ≤ 60 ∧ (∀ K, f_X11_soonest_L28 t K n1 (nI i) σ = some (nI k, σ2)) ∧ (∀ K, f_X12_soonest_L22 t K n2 (nI i) τ = K (nI k) τ2)) ∨ ((∀ K, f_X11_soonest_L28 t K n1 (nI i) σ = K σ2) ∧ (∀ K, f_X12_soonest_L22 t K n2 (nI i) τ = K (nI 61) τ2))) := by
  intro d
  induction d with
  | zero =>
    intro i n1 n2 q u σ τ h1 h2 h3 h4 hS
    obtain ⟨m1, rfl⟩ : ∃ m, n1 = m + 1 := ⟨n1 - 1, by omega⟩
    obtain ⟨m2, rfl⟩ : ∃ m, n2 = m + 1 := ⟨n2 - 1, by omega⟩
    have e : i = 61 := by omega
    subst e
    refine ⟨σ, τ, frC_r _ _, frM_r _, Or.inr ⟨fun K => ?_, fun K => ?_⟩⟩
    · rw [f_X11_soonest_L28, if_pos (show (60 : Int32) < nI 61 from nI_lt (a := 60) (by omega) (by omega))]
    · rw [f_X12_soonest_L22, if_pos (show (60 : Int32) < nI 61 from nI_lt (a := 60) (by omega) (by omega))]
  | succ d ih =>
    intro i n1 n2 q u σ τ h1 h2 h3 h4 hS
    obtain ⟨m1, rfl⟩ : ∃ m, n1 = m + 1 := ⟨n1 - 1, by omega⟩
    obtain ⟨m2, rfl⟩ : ∃ m, n2 = m + 1 := ⟨n2 - 1, by omega⟩
    have hS0 := hS
    obtain ⟨hC, hM, hB, hT⟩ := hS
    have c1 : ¬ (60 : Int32) < nI i := nI_nlt (a := 60) (by omega) (by omega)
    rcases bit01 (nI (kn u) >>> (t &&& 31)) with e | e
    · obtain ⟨u1, σ1, τ1, g1, g2, g3, g4, g5, g6⟩ := dayR (by omega) (by omega) hS0
      obtain ⟨σ2, τ2, t1, t2, t3⟩ := ih (i + 1) m1 m2 (q + 1) u1 σ1 τ1 (by omega) (by omega) (by omega) (by omega) g3
      have k1 : ∀ K, f_X11_soonest_L28 t K (m1 + 1) (nI i) σ = f_X11_soonest_L28 t K m1 (nI (i + 1)) σ1 := fun K => by
        rw [f_X11_soonest_L28, if_neg c1, kn_c hC hB, bi, e, if_neg (by decide), g1, bi, lt_d, nI_1]
      have k2 : ∀ K, f_X12_soonest_L22 t K (m2 + 1) (nI i) τ = f_X12_soonest_L22 t K m2 (nI (i + 1)) τ1 := fun K => by
        rw [f_X12_soonest_L22, if_neg c1, kn_m hM hB, bi, e, if_pos rfl, g2, bi, lt_d, nI_1]
      refine ⟨σ2, τ2, frC_t g5 t1, frM_t g6 t2, ?_⟩
      rcases t3 with ⟨k, z1, z2, z3⟩ | ⟨z2, z3⟩
      · exact Or.inl ⟨k, z1, fun K => (k1 K).trans (z2 K), fun K => (k2 K).trans (z3 K)⟩
      · exact Or.inr ⟨fun K => (k1 K).trans (z2 K), fun K => (k2 K).trans (z3 K)⟩
    · refine ⟨σ, τ, frC_r _ _, frM_r _, Or.inl ⟨i, by omega, fun K => ?_, fun K => ?_⟩⟩
      · rw [f_X11_soonest_L28, if_neg c1, kn_c hC hB, bi, e, if_pos rfl]
      · rw [f_X12_soonest_L22, if_neg c1, kn_m hM hB, bi, e, if_neg (by decide)]
theorem m_soonest (a0 : Int32) : ok2 rR (f_X11_soonest a0) (f_X12_soonest a0) := by
  intro σ h
  rcases gd a0 11 (by omega) with ⟨t, ht, rfl⟩ | ⟨hx, hy⟩
  · refine dy_top h (fun τ hτ => ?_)
    have e86 : τ 86 = σ 86 := hτ 86 n86 (by omega)
    obtain ⟨u, hB, hC, hM, hT⟩ := dy_cx h e86
    obtain ⟨x1, p1, p2, p3⟩ := dy_cp hC
    obtain ⟨y1, s1, s2, s3, s4⟩ := sv_S τ
    obtain ⟨σ2, τ2, t6, t7, t8⟩ := soL (nI t) 61 0 ab_fu ab_fu 9999 u x1 y1 (by omega) (by unfold ab_fu; omega) (by unfold ab_fu; omega) (by omega) ⟨p2, (by rw [s3]; exact hM : rM u (y1 86)), hB, TX_x hT p3 (fun j hj => by rw [s3])⟩
    obtain ⟨y2, z1, z2, z3, z4⟩ := sv_B (sv_M s2 t7)
    have k1 : f_X11_soonest (nI t) σ = f_X11_soonest_L28 (nI t) (fun (s9 : ab_F) => (f_X11_refuse (2 : Int32) s9).bind (fun q10 => (some (q10.1, q10.2)))) ab_fu (nI 0) x1 := by
      unfold f_X11_soonest
      rw [gs_f (show f_X11_outside (nI t) 11 σ = some false from ou_n (j := t) (n := 11) σ (by omega) (by omega)), p1, bi]; rfl
    have k2 : f_X12_soonest (nI t) τ = f_X12_soonest_L22 (nI t) (fun (k9 : Int32) (s10 : ab_F) => (f_X12_putsBack s10).bind (fun q11 => (if k9 ≤ (60 : Int32) then (some (k9, q11)) else (f_X12_error (2 : Int32) q11).bind (fun q13 => (some (q13.1, q13.2)))))) ab_fu (nI 0) y1 := by
      unfold f_X12_soonest
      rw [gs_t (show f_X12_in (nI t) 0 11 τ = some true from in_n (j := t) (l := 0) (n := 11) τ (Nat.zero_le _) (by omega) (by omega)), s1, bi]; rfl
    rcases t8 with ⟨k, hk, g1, g2⟩ | ⟨g1, g2⟩
    · refine Or.inl ⟨nI k, σ2, y2, k1.trans (g1 _), (k2.trans (g2 _)).trans ?_, dy_t p3 (dy_C t6), z4⟩
      show (f_X12_putsBack τ2).bind _ = _
      rw [z1, bi, if_pos (show nI k ≤ (60 : Int32) from nI_le (b := 60) hk (by omega))]
    · refine Or.inr ⟨2, σ2, y2, by omega, (k1.trans (g1 _)).trans ?_, (k2.trans (g2 _)).trans ?_, dy_t p3 (dy_C t6), z4⟩
      · show (f_X11_refuse (2 : Int32) σ2).bind _ = _
        rw [bie]; rfl
      · show (f_X12_putsBack τ2).bind _ = _
        rw [z1, bi, if_neg (show ¬ nI 61 ≤ (60 : Int32) from nI_ge (a := 60) (by omega) (by omega)), bie]; rfl
  · refine er2 h 1 (by omega) ?_ (fun τ hτ => ?_)
    · unfold f_X11_soonest
      rw [gs_t (show f_X11_outside a0 11 σ = some true from hx σ), bie]; rfl
    · unfold f_X12_soonest
      rw [gs_f (show f_X12_in a0 0 11 τ = some false from hy τ), bie]; rfl
