/-! check, feed -/
theorem dy_topT {σ : ab_F} {F G : ab_F → Option (Int32 × ab_F)} (h : rR σ) (H : ∀ τ : ab_F, (∀ c, ¬ scr c → c ≠ 9 → c ≠ 10 → c ≠ 13 → c ≠ 14 → c ≠ 32 → c ≠ 33 → c ≠ 35 → c ≠ 36 → τ c = σ c) → ∃ (a : Int32) (σ1 τ1 : ab_F), F σ = some (a, σ1) ∧ G τ = some (a, τ1) ∧ (∀ c, ¬ scr c → c ≠ 9 → c ≠ 10 → c ≠ 13 → c ≠ 14 → c ≠ 32 → c ≠ 33 → c ≠ 35 → c ≠ 36 → σ1 c = σ c) ∧ (∀ c, ¬ scr c → c ≠ 86 → c ≠ 85 → τ1 c = τ c) ∧ (∀ k, k < 116 → k ≠ 3 → k ≠ 4 → τ1 86 k = τ 86 k) ∧ τ1 85 12 = τ 85 12 ∧ τ1 85 3 = τ 85 3 ∧ rP 60 okB (σ1 9 1) (σ1 10) (τ1 86 3) (fun i => τ1 86 (366 + i)) ∧ rP 24 okA (σ1 13 1) (σ1 14) (τ1 86 4) (fun i => τ1 86 (426 + i)) ∧ rT 121 107 100 (σ1 32 0) (σ1 33) (τ1 86) 116 ∧ rT 116 103 100 (σ1 35 0) (σ1 36) (τ1 86) 241) : ∃ (a : Int32) (σ1 σ2 : ab_F), F σ = some (a, σ1) ∧ G σ1 = some (a, σ2) ∧ rR σ2 := by
  obtain ⟨a, s1, _, e1, _, f1, _⟩ := H σ (fun _ _ _ _ _ _ _ _ _ _ => rfl)
  obtain ⟨a', σ1, τ1, e1', e2, _, f2, f3, f4, f5, r1, r2, r3, r4⟩ := H s1 f1
  rw [e1] at e1'
  obtain ⟨h1, h2⟩ := Prod.mk.inj (Option.some.inj e1')
  subst h1
  subst h2
  have n85 : ¬ scr 85 := by unfold scr; omega
  refine ⟨a, s1, τ1, e1, e2, rR_t h (fun c b0 b1 b2 b3 b4 b5 b6 b7 b8 b9 b10 => by rw [f2 c b0 b9 b10, f1 c b0 b1 b2 b3 b4 b5 b6 b7 b8]) (fun k b1 b2 b3 => by rw [f3 k b1 b2 b3, f1 86 n86 (by omega) (by omega) (by omega) (by omega) (by omega) (by omega) (by omega) (by omega)]) (by rw [f4, f1 85 n85 (by omega) (by omega) (by omega) (by omega) (by omega) (by omega) (by omega) (by omega)]) (by rw [f5, f1 85 n85 (by omega) (by omega) (by omega) (by omega) (by omega) (by omega) (by omega) (by omega)]) ?_ ?_ ?_ ?_⟩
  · rw [f2 9 (by unfold scr; omega) (by omega) (by omega), f2 10 (by unfold scr; omega) (by omega) (by omega)]; exact r1
  · rw [f2 13 (by unfold scr; omega) (by omega) (by omega), f2 14 (by unfold scr; omega) (by omega) (by omega)]; exact r2
  · rw [f2 32 (by unfold scr; omega) (by omega) (by omega), f2 33 (by unfold scr; omega) (by omega) (by omega)]; exact r3
  · rw [f2 35 (by unfold scr; omega) (by omega) (by omega), f2 36 (by unfold scr; omega) (by omega) (by omega)]; exact r4
theorem chL {u : Nat → Nat → Nat} {T : Nat} (hT : T ≤ 24) (hB : rB 9999 u) {x0 y0 : ab_F} (hC : wC u x0 38) (hM : rM u (y0 86)) (hX : rT 116 103 100 (x0 35 0) (x0 36) (y0 86) 241) (hw : ∀ i, i < T → x0 14 i = y0 86 (426 + i)) : ∀ d i n1 n2 (x y : ab_F), i + d = T → d < n1 → d < n2 → (∀ c, c ≠ 37 → x c = x0 c) → (∀ c, c ≠ 91 → c ≠ 92 → y c = y0 c) → ∃ (a : Int32) (x2 y2 : ab_F), f_X11_check_L18 (nI T) (fun (s10 : ab_F) => (some ((0 : Int32), s10))) n1 (nI i) x = some (a, x2) ∧ f_X12_check_L16 (nI T) (fun (s10 : ab_F) => (some ((0 : Int32), s10))) n2 (nI i) y = some (a, y2) ∧ (∀ c, c ≠ 37 → x2 c = x0 c) ∧ (∀ c, c ≠ 91 → c ≠ 92 → y2 c = y0 c) := by
  have hp := b11 hB
  intro d
  induction d with
  | zero =>
    intro i n1 n2 x y h1 h2 h3 fx fy
    obtain ⟨m1, rfl⟩ : ∃ m, n1 = m + 1 := ⟨n1 - 1, by omega⟩
    obtain ⟨m2, rfl⟩ : ∃ m, n2 = m + 1 := ⟨n2 - 1, by omega⟩
    refine ⟨0, x, y, ?_, ?_, fx, fy⟩
    · rw [f_X11_check_L18, if_pos (nI_le (by omega) (by omega))]
    · rw [f_X12_check_L16, if_pos (nI_le (by omega) (by omega))]
  | succ d ih =>
    intro i n1 n2 x y h1 h2 h3 fx fy
    obtain ⟨m1, rfl⟩ : ∃ m, n1 = m + 1 := ⟨n1 - 1, by omega⟩
    obtain ⟨m2, rfl⟩ : ∃ m, n2 = m + 1 := ⟨n2 - 1, by omega⟩
    have cN : ¬ nI T ≤ nI i := nI_ge (by omega) (by omega)
    have y86 := fy 86 (by omega) (by omega)
    have C1 : wC u x 38 := wC_fr hC (fun e _ _ => fx e (by omega))
    have M1 : rM u (y 86) := by rw [y86]; exact hM
    rcases go (nI i) (u 0 11) hp with ⟨j, hj, e⟩ | ⟨hx1, hy1⟩
    · have hij : i = j := (nI_eq (by omega) (by omega)).mp e
      subst hij
      obtain ⟨v, x2, y2, hv, e1, e2, e3, e4⟩ := maR (by omega) C1 M1 hB (k := i) (by omega) (by rw [fx 35 (by omega), fx 36 (by omega), y86]; exact hX)
      have fx2 : ∀ c, c ≠ 37 → x2 c = x0 c := fun c hc => by rw [e3 c hc, fx c hc]
      have fy2 : ∀ c, c ≠ 91 → c ≠ 92 → y2 c = y0 c := fun c c1 c2 => by rw [e4 c c1 c2, fy c c1 c2]
      have em : x 14 i = y 86 (426 + i) := by rw [fx 14 (by omega), y86]; exact hw i (by omega)
      by_cases q : x 14 i = nI v
      · obtain ⟨a, x3, y3, t1, t2, t3, t4⟩ := ih (i + 1) m1 m2 x2 y2 (by omega) (by omega) (by omega) fx2 fy2
        refine ⟨a, x3, y3, ?_, ?_, t3, t4⟩
        · rw [f_X11_check_L18, if_neg cN, gs_f (nb_n (by omega) hj (c0_11 C1)), ib_n (by omega) (by omega), ck_t, e1, bi, cl_n (by omega), if_pos q, lt_d, nI_1]
          exact t1
        · rw [f_X12_check_L16, if_neg cN, gs_t (is_n (by omega) hj (d0_11 M1)), show (426 : Int32) + nI i = nI (426 + i) from nI_add 426 i, ib_n (by omega) (by omega), ck_t, e2, bi, cl_n (by omega), ← em, if_pos q, lt_d, nI_1]
          exact t2
      · refine ⟨1 + nI i, x2, y2, ?_, ?_, fx2, fy2⟩
        · rw [f_X11_check_L18, if_neg cN, gs_f (nb_n (by omega) hj (c0_11 C1)), ib_n (by omega) (by omega), ck_t, e1, bi, cl_n (by omega), if_neg q]
        · rw [f_X12_check_L16, if_neg cN, gs_t (is_n (by omega) hj (d0_11 M1)), show (426 : Int32) + nI i = nI (426 + i) from nI_add 426 i, ib_n (by omega) (by omega), ck_t, e2, bi, cl_n (by omega), ← em, if_neg q]
    · refine ⟨1 + nI i, x, y, ?_, ?_, fx, fy⟩
      · rw [f_X11_check_L18, if_neg cN, gs_t (hx1 x (c0_11 C1))]
      · rw [f_X12_check_L16, if_neg cN, gs_f (hy1 y (d0_11 M1))]
theorem m_check : ok2 rR f_X11_check f_X12_check := by
  intro σ h
  obtain ⟨u, hB, hC, hM⟩ := rR_u h
  obtain ⟨T, hT, w1, w2, w3⟩ := h.1.2.2.2.1
  refine dy_topT h (fun τ hτ => ?_)
  have e86 : τ 86 = σ 86 := hτ 86 n86 (by omega) (by omega) (by omega) (by omega) (by omega) (by omega) (by omega) (by omega)
  have C1 : wC u (ab_u σ 13 1 0) 38 := wC_fr hC (fun e _ _ => ab_u_ne _ _ _ (by omega))
  have M1 : rM u ((ab_u τ 86 4 0) 86) := by
    intro r j hj
    rw [u_rd _ _ _ _ _ (ix_lt hj).2.2.2, e86]; exact hM r j hj
  have X0 : rT 121 107 100 ((ab_u σ 13 1 0) 32 0) ((ab_u σ 13 1 0) 33) ((ab_u τ 86 4 0) 86) 116 := by
    rw [ab_u_ne _ _ _ (by omega : 32 ≠ 13), ab_u_ne _ _ _ (by omega : 33 ≠ 13)]
    exact rT_to h.1.2.2.2.2.1 (fun k h1 h2 => by rw [u_rd _ _ _ _ _ (by omega), e86])
  have X1 : rT 116 103 100 ((ab_u σ 13 1 0) 35 0) ((ab_u σ 13 1 0) 36) ((ab_u τ 86 4 0) 86) 241 := by
    rw [ab_u_ne _ _ _ (by omega : 35 ≠ 13), ab_u_ne _ _ _ (by omega : 36 ≠ 13)]
    exact rT_to h.1.2.2.2.2.2 (fun k h1 h2 => by rw [u_rd _ _ _ _ _ (by omega), e86])
  obtain ⟨a, x2, y2, t1, t2, t3, t4⟩ := chL (T := T) hT hB C1 M1 X1 (fun i hi => by rw [ab_u_ne _ _ _ (by omega : 14 ≠ 13), u_rd _ _ _ _ _ (by omega), e86]; exact (w3 i hi).1) T 0 ab_fu ab_fu (ab_u σ 13 1 0) (ab_u τ 86 4 0) (by omega) (by unfold ab_fu; omega) (by unfold ab_fu; omega) (fun _ _ => rfl) (fun _ _ _ => rfl)
  have y86 := t4 86 (by omega) (by omega)
  refine ⟨a, x2, y2, ?_, ?_, fun c b0 b1 b2 b3 b4 b5 b6 b7 b8 => ?_, fun c b0 b1 b2 => ?_, fun k b1 b2 b3 => ?_, ?_, ?_, ?_, ?_, ?_, ?_⟩
  · unfold f_X11_check
    rw [lt_d, lt_d, w1]; exact t1
  · unfold f_X12_check
    rw [lt_d, lt_d, e86, w2]; exact t2
  · rw [t3 c (by unfold scr at b0; omega), ab_u_ne _ _ _ b3]
  · rw [t4 c (by unfold scr at b0; omega) (by unfold scr at b0; omega), ab_u_ne _ _ _ b1]
  · rw [y86, u_rd _ _ _ _ _ b3]
  · rw [t4 85 (by omega) (by omega), ab_u_ne _ _ _ (by omega)]
  · rw [t4 85 (by omega) (by omega), ab_u_ne _ _ _ (by omega)]
  · rw [t3 9 (by omega), t3 10 (by omega), y86, ab_u_ne _ _ _ (by omega : 9 ≠ 13), ab_u_ne _ _ _ (by omega : 10 ≠ 13), u_rd _ _ _ _ _ (by omega : 3 ≠ 4), e86]
    exact rP_to h.1.2.2.1 (fun i hi => by rw [u_rd _ _ _ _ _ (by omega), e86])
  · refine ⟨0, by omega, ?_, ?_, fun i hi => by omega⟩
    · rw [t3 13 (by omega), u_rk]; rfl
    · rw [y86, u_rk]; rfl
  · rw [t3 32 (by omega), t3 33 (by omega), y86]; exact X0
  · rw [t3 35 (by omega), t3 36 (by omega), y86]; exact X1
/-! feed -/
theorem fd_1 : ∀ k, k < 8 → ((((8 : Int32) * nI k).toInt64.toUInt64 &&& Int64.toUInt64 63)).toNat = 8 * k := by decide +kernel
theorem fd_2 : ∀ k, k < 8 → ((((8 : Int32) * nI k).toInt64 &&& 63).toBitVec.smod 64).toNat = 8 * k := by decide +kernel
theorem fd_3 : ∀ i, i < 32 → (255 : Int32).toBitVec.getLsbD i = decide (i < 8) ∧ (255 : Int64).toBitVec.getLsbD i = decide (i < 8) := by decide +kernel
theorem fd_b (p : Int64) {k : Nat} (hk : k < 8) : (((p.toUInt64 >>> (((8 : Int32) * nI k).toInt64.toUInt64 &&& Int64.toUInt64 63)).toInt64).toInt32 &&& (255 : Int32)) = (((p >>> (((8 : Int32) * nI k).toInt64 &&& 63)) &&& (255 : Int64))).toInt32 := by
  have e1 : (p.toUInt64 >>> (((8 : Int32) * nI k).toInt64.toUInt64 &&& Int64.toUInt64 63)).toInt64.toBitVec = p.toBitVec >>> (8 * k) := by
    apply BitVec.eq_of_toNat_eq
    show (p.toUInt64 >>> (((8 : Int32) * nI k).toInt64.toUInt64 &&& Int64.toUInt64 63)).toNat = _
    rw [UInt64.toNat_shiftRight, fd_1 k hk, Nat.mod_eq_of_lt (by omega), BitVec.toNat_ushiftRight]
    rfl
  have e2 : (p >>> (((8 : Int32) * nI k).toInt64 &&& 63)).toBitVec = p.toBitVec.sshiftRight (8 * k) := by
    rw [Int64.toBitVec_shiftRight]
    show p.toBitVec.sshiftRight ((((8 : Int32) * nI k).toInt64 &&& 63).toBitVec.smod 64).toNat = _
    rw [fd_2 k hk]
  apply Int32.toBitVec_inj.mp
  rw [Int32.toBitVec_and, Int64.toBitVec_toInt32, Int64.toBitVec_toInt32, Int64.toBitVec_and, e1, e2]
  apply BitVec.eq_of_getLsbD_eq
  intro i hi
  obtain ⟨h3, h4⟩ := fd_3 i hi
  rw [BitVec.getLsbD_and, BitVec.getLsbD_signExtend, BitVec.getLsbD_signExtend, if_pos (by omega), if_pos (by omega), BitVec.getLsbD_and, h3, h4, BitVec.getLsbD_ushiftRight, BitVec.getLsbD_sshiftRight]
  by_cases h8 : i < 8
  · rw [if_pos (by omega)]
    simp only [h8, decide_true, Bool.and_true, hi, Bool.true_and, show ¬ 64 ≤ i by omega, decide_false, Bool.not_false]
  · simp only [h8, decide_false, Bool.and_false]
theorem fdL {N : Nat} (p : Int64) (hN : N ≤ 8) : ∀ d i n1 n2 t (x y : ab_F), i + d = N → d < n1 → d < n2 → t + d ≤ 60 → x 9 1 = nI t → y 86 3 = nI t → (∀ k, k < t → x 10 k = y 86 (366 + k) ∧ okB (x 10 k)) → ∃ (x2 y2 : ab_F), (∀ K, f_X11_feed_L40 p (nI N) K n1 (nI i) x = K x2) ∧ (∀ K, f_X12_feed_L38 p (nI N) K n2 (nI i) y = K y2) ∧ x2 9 1 = nI (t + d) ∧ y2 86 3 = nI (t + d) ∧ (∀ k, k < t + d → x2 10 k = y2 86 (366 + k) ∧ okB (x2 10 k)) ∧ (∀ c, c ≠ 9 → c ≠ 10 → x2 c = x c) ∧ (∀ c, c ≠ 86 → y2 c = y c) ∧ ∀ k, k ≠ 3 → (k < 366 ∨ 426 ≤ k) → y2 86 k = y 86 k := by
  intro d
  induction d with
  | zero =>
    intro i n1 n2 t x y h1 h2 h3 h4 e1 e2 e3
    obtain ⟨m1, rfl⟩ : ∃ m, n1 = m + 1 := ⟨n1 - 1, by omega⟩
    obtain ⟨m2, rfl⟩ : ∃ m, n2 = m + 1 := ⟨n2 - 1, by omega⟩
    refine ⟨x, y, fun K => ?_, fun K => ?_, e1, e2, e3, fun _ _ _ => rfl, fun _ _ => rfl, fun _ _ _ => rfl⟩
    · rw [f_X11_feed_L40, if_pos (nI_le (by omega) (by omega))]
    · rw [f_X12_feed_L38, if_pos (nI_le (by omega) (by omega))]
  | succ d ih =>
    intro i n1 n2 t x y h1 h2 h3 h4 e1 e2 e3
    obtain ⟨m1, rfl⟩ : ∃ m, n1 = m + 1 := ⟨n1 - 1, by omega⟩
    obtain ⟨m2, rfl⟩ : ∃ m, n2 = m + 1 := ⟨n2 - 1, by omega⟩
    have hb := fd_b p (k := i) (by omega)
    generalize hc : (((p.toUInt64 >>> (((8 : Int32) * nI i).toInt64.toUInt64 &&& Int64.toUInt64 63)).toInt64).toInt32 &&& (255 : Int32)) = b at hb
    have ob : okB b := by
      obtain ⟨j, hj, e⟩ := pk_andE ((p.toUInt64 >>> (((8 : Int32) * nI i).toInt64.toUInt64 &&& Int64.toUInt64 63)).toInt64).toInt32 (m := 255) 8 (by decide)
      exact ⟨j, hj, by rw [← hc]; exact e⟩
    have ea : f_X6_add_9 b x = some (ab_u (ab_u x 10 t b) 9 1 (nI (t + 1))) := by
      unfold f_X6_add_9
      rw [e1, if_neg (show ¬ (60 : Int32) ≤ nI t from nI_ge (b := 60) (by omega) (by omega)), ib_n (by omega) (by omega), ck_t, lt_d, lt_d, cl_n (by omega), ab_u_ne _ _ _ (by omega : 9 ≠ 10), e1, nI_1]
    obtain ⟨x2, y2, t1, t2, t3, t4, t5, t6, t7, t8⟩ := ih (i + 1) m1 m2 (t + 1) (ab_u (ab_u x 10 t b) 9 1 (nI (t + 1))) (ab_u (ab_u y 86 (366 + t) b) 86 3 (nI (t + 1))) (by omega) (by omega) (by omega) (by omega) (u_rk _ _ _ _) (u_rk _ _ _ _) (fun k hk => by
      rw [ab_u_ne _ _ _ (by omega : 10 ≠ 9), u_rd _ _ _ _ _ (by omega : 366 + k ≠ 3)]
      by_cases q : k = t
      · subst q
        rw [u_rk, u_rk]; exact ⟨rfl, ob⟩
      · rw [u_rd _ _ _ _ _ q, u_rd _ _ _ _ _ (by omega)]; exact e3 k (by omega))
    refine ⟨x2, y2, fun K => ?_, fun K => ?_, by rw [t3]; congr 1; omega, by rw [t4]; congr 1; omega, fun k hk => t5 k (by omega), fun c c1 c2 => by rw [t6 c c1 c2, ab_u_ne _ _ _ c1, ab_u_ne _ _ _ c2], fun c c1 => by rw [t7 c c1, ab_u_ne _ _ _ c1, ab_u_ne _ _ _ c1], fun k k1 k2 => by rw [t8 k k1 k2, u_rd _ _ _ _ _ k1, u_rd _ _ _ _ _ (by omega)]⟩
    · rw [f_X11_feed_L40, if_neg (nI_ge (by omega) (by omega)), hc, ea, bi, lt_d, nI_1]; exact t1 K
    · rw [f_X12_feed_L38, if_neg (nI_ge (by omega) (by omega)), ← hb, e2, show (366 : Int32) + nI t = nI (366 + t) from nI_add 366 t, ib_n (by omega) (by omega), ck_t, lt_d, lt_d, lt_d, cl_n (by omega), u_rd _ _ _ _ _ (by omega : 3 ≠ 366 + t), e2, nI_1, nI_1]; exact t2 K
theorem m_feed (a0 : Int64) (a1 : Int32) : ok2 rR (f_X11_feed a0 a1) (f_X12_feed a0 a1) := by
  intro σ h
  obtain ⟨t, ht, w1, w2, w3⟩ := h.1.2.2.1
  rcases dy_1n a1 8 (by omega) with ⟨n, h1, h2, rfl⟩ | ⟨hx, hy⟩
  · have c1 : ¬ nI n < (1 : Int32) := nI_nlt (b := 1) h1 (by omega)
    have c2 : nI n ≤ (8 : Int32) := nI_le (b := 8) h2 (by omega)
    have cI : ∀ τ, f_X12_in (nI n) 1 8 τ = some true := fun τ => in_n (l := 1) (n := 8) τ h1 h2 (by omega)
    by_cases hs : t + n ≤ 60
    · have c3 : nI (t + n) ≤ (60 : Int32) := nI_le (b := 60) hs (by omega)
      refine dy_topT h (fun τ hτ => ?_)
      have e86 : τ 86 = σ 86 := hτ 86 n86 (by omega) (by omega) (by omega) (by omega) (by omega) (by omega) (by omega) (by omega)
      obtain ⟨x2, y2, t1, t2, t3, t4, t5, t6, t7, t8⟩ := fdL a0 h2 n 0 ab_fu ab_fu t σ τ (by omega) (by unfold ab_fu; omega) (by unfold ab_fu; omega) hs w1 (by rw [e86]; exact w2) (fun k hk => by rw [e86]; exact w3 k hk)
      refine ⟨nI (t + n), x2, y2, ?_, ?_, fun c b0 b1 b2 b3 b4 b5 b6 b7 b8 => t6 c b1 b2, fun c b0 b1 b2 => t7 c b1, fun k b1 b2 b3 => t8 k b2 (by omega), by rw [t7 85 (by omega)], by rw [t7 85 (by omega)], ⟨t + n, hs, t3, t4, t5⟩, ?_, ?_, ?_⟩
      · unfold f_X11_feed
        rw [if_neg c1, if_pos c2, w1, nI_add, if_pos c3]
        refine (t1 _).trans ?_
        show some (x2 9 1, x2) = _
        rw [t3]
      · unfold f_X12_feed
        rw [gs_t (cI τ), e86, w2, nI_add, if_pos c3]
        refine (t2 _).trans ?_
        show some (y2 86 3, y2) = _
        rw [t4]
      · rw [t6 13 (by omega) (by omega), t6 14 (by omega) (by omega), t8 4 (by omega) (by omega), e86]
        exact rP_to h.1.2.2.2.1 (fun i hi => by rw [t8 _ (by omega) (by omega), e86])
      · rw [t6 32 (by omega) (by omega), t6 33 (by omega) (by omega)]
        exact rT_to h.1.2.2.2.2.1 (fun k h1 h2 => by rw [t8 _ (by omega) (by omega), e86])
      · rw [t6 35 (by omega) (by omega), t6 36 (by omega) (by omega)]
        exact rT_to h.1.2.2.2.2.2 (fun k h1 h2 => by rw [t8 _ (by omega) (by omega), e86])
    · have c3 : ¬ nI (t + n) ≤ (60 : Int32) := nI_ge (a := 60) (by omega) (by omega)
      refine er2 h 4 (by omega) ?_ (fun τ hτ => ?_)
      · unfold f_X11_feed
        rw [if_neg c1, if_pos c2, w1, nI_add, if_neg c3, bie]; rfl
      · unfold f_X12_feed
        rw [gs_t (cI τ), hτ 86 (by omega), w2, nI_add, if_neg c3, bie]; rfl
  · refine er2 h 1 (by omega) ?_ (fun τ hτ => ?_)
    · unfold f_X11_feed
      by_cases c1 : a1 < 1
      · rw [if_pos c1, bie]; rfl
      · rw [if_neg c1, if_neg (show ¬ a1 ≤ 8 from hx.resolve_left c1), bie]; rfl
    · unfold f_X12_feed
      rw [gs_f (show f_X12_in a1 1 8 τ = some false from hy τ), bie]; rfl
