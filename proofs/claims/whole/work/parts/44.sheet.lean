/-! put -/
theorem lo8 (v : Int32) : (v <<< (nI 24 &&& 31)) >>> (nI 24 &&& 31) = v.toInt8.toInt32 := by
  apply b_ext
  intro i hi
  rw [b_sshr 24 (by omega) _ hi]
  unfold bt
  rw [Int8.toBitVec_toInt32, Int32.toBitVec_toInt8, BitVec.getLsbD_signExtend, BitVec.msb_eq_getLsbD_last, BitVec.getLsbD_signExtend, BitVec.getLsbD_signExtend]
  by_cases h : i < 8
  · have := b_shl 24 (by omega) v (i := 24 + i) (by omega)
    unfold bt at this
    rw [if_pos (by omega), this, if_pos h, if_pos hi, Nat.add_sub_cancel_left]
    simp [h, hi]
  · have := b_shl 24 (by omega) v (i := 31) (by omega)
    unfold bt at this
    rw [if_neg (by omega), this, if_neg h]
    simp [hi]
theorem lo16 (v : Int32) : (v <<< (nI 16 &&& 31)) >>> (nI 16 &&& 31) = v.toInt16.toInt32 := by
  apply b_ext
  intro i hi
  rw [b_sshr 16 (by omega) _ hi]
  unfold bt
  rw [Int16.toBitVec_toInt32, Int32.toBitVec_toInt16, BitVec.getLsbD_signExtend, BitVec.msb_eq_getLsbD_last, BitVec.getLsbD_signExtend, BitVec.getLsbD_signExtend]
  by_cases h : i < 16
  · have := b_shl 16 (by omega) v (i := 16 + i) (by omega)
    unfold bt at this
    rw [if_pos (by omega), this, if_pos h, if_pos hi, Nat.add_sub_cancel_left]
    simp [h, hi]
  · have := b_shl 16 (by omega) v (i := 31) (by omega)
    unfold bt at this
    rw [if_neg (by omega), this, if_neg h]
    simp [hi]
theorem lo32 (v : Int32) : (v <<< (nI 0 &&& 31)) >>> (nI 0 &&& 31) = v := by
  apply b_ext
  intro i hi
  rw [b_sshr 0 (by omega) _ hi, if_pos (by omega), b_shl 0 (by omega) v (by omega)]
  simp
theorem low_n {R : Nat} {σ : ab_F} {b : Int32} (v : Int32) (e : σ R 2 = b) (hb : b = 8 ∨ b = 16 ∨ b = 32) : ∃ w : Int32, f_X6_lowest R v σ = some w ∧ (v <<< (((32 : Int32) - b) &&& 31)) >>> (((32 : Int32) - b) &&& 31) = w := by
  rcases hb with rfl | rfl | rfl
  · exact ⟨_, by unfold f_X6_lowest; rw [e, if_pos rfl], lo8 v⟩
  · exact ⟨_, by unfold f_X6_lowest; rw [e, if_neg (by decide), if_pos rfl], lo16 v⟩
  · exact ⟨_, by unfold f_X6_lowest; rw [e, if_neg (by decide), if_neg (by decide)], lo32 v⟩
/-- within a row of n numbers, or not -/
theorem sz_o (x : Int32) (n : Nat) (hn : n ≤ 24) : (∃ i : Nat, i < n ∧ x = nI i ∧ (∀ σ, f_X11_outside x (nI n - 1) σ = some false) ∧ ∀ σ, f_X12_in x 0 (nI n - 1) σ = some true) ∨ ((∀ σ, f_X11_outside x (nI n - 1) σ = some true) ∧ ∀ σ, f_X12_in x 0 (nI n - 1) σ = some false) := by
  by_cases hz : n = 0
  · subst hz
    have n1 : ¬ x < 0 → ¬ x ≤ nI 0 - 1 := by
      intro q q2
      rw [Int32.lt_iff_toInt_lt] at q
      rw [Int32.le_iff_toInt_le] at q2
      have z1 : (0 : Int32).toInt = 0 := rfl
      have z2 : (nI 0 - 1 : Int32).toInt = -1 := by decide
      omega
    refine Or.inr ⟨fun σ => ?_, fun σ => ?_⟩
    · unfold f_X11_outside
      by_cases q : x < 0
      · rw [if_pos q]
      · rw [if_neg q, if_neg (n1 q)]
    · unfold f_X12_in
      by_cases q : x < 0
      · rw [if_pos q]
      · rw [if_neg q, if_pos (Int32.not_le.mp (n1 q))]
  · have e : nI n - 1 = nI (n - 1) := pk_sub (b := 1) (by omega)
    rw [e]
    rcases gd x (n - 1) (by omega) with ⟨i, hi, rfl⟩ | ⟨hx, hy⟩
    · exact Or.inl ⟨i, by omega, rfl, fun σ => ou_n σ hi (by omega), fun σ => in_n (l := 0) σ (by omega) hi (by omega)⟩
    · exact Or.inr ⟨hx, hy⟩
theorem rH_put {σ : ab_F} {j i : Nat} {x : Int32} (h : rH σ) (hj : j ≤ 3) (hi : i < 24) : rH (ab_u (ab_u σ (78 + 2 * j) i x) 96 (24 * j + i) x) := by
  intro k hk
  obtain ⟨g1, g2, g3⟩ := h k hk
  rw [ab_u_ne _ _ _ (by omega : 77 + 2 * k ≠ 96), ab_u_ne _ _ _ (by omega : 77 + 2 * k ≠ 78 + 2 * j), ab_u_ne _ _ _ (by omega : 95 ≠ 96), ab_u_ne _ _ _ (by omega : 95 ≠ 78 + 2 * j), ab_u_ne _ _ _ (by omega : 94 ≠ 96), ab_u_ne _ _ _ (by omega : 94 ≠ 78 + 2 * j), ab_u_ne _ _ _ (by omega : 78 + 2 * k ≠ 96)]
  refine ⟨g1, g2, fun q hq => ?_⟩
  by_cases hkj : k = j
  · subst hkj
    by_cases hqi : q = i
    · subst hqi; rw [u_rk, u_rk]
    · rw [u_rd _ _ _ _ _ hqi, u_rd _ _ _ _ _ (by omega), ab_u_ne _ _ _ (by omega : 96 ≠ 78 + 2 * k)]; exact g3 q hq
  · rw [ab_u_ne _ _ _ (by omega : 78 + 2 * k ≠ 78 + 2 * j), u_rd _ _ _ _ _ (by omega), ab_u_ne _ _ _ (by omega : 96 ≠ 78 + 2 * j)]; exact g3 q hq
theorem m_put (a0 a1 a2 : Int32) : ok2 rR (f_X11_put a0 a1 a2) (f_X12_put a0 a1 a2) := by
  intro σ h
  rcases gd a0 3 (by omega) with ⟨j, hj, rfl⟩ | ⟨hx, hy⟩
  · obtain ⟨⟨n, hn, e1, e2⟩, ⟨e3, e5⟩, e4⟩ := h.2.2.1 j (by omega)
    have k1 : f_X11_put (nI j) a1 a2 σ = (if (σ (77 + 2 * j) 2) = 0 then (f_X11_refuse (2 : Int32) σ).bind (fun q10 => (some (q10.1, q10.2))) else (f_X11_outside a1 ((σ (77 + 2 * j) 1) - (1 : Int32)) σ).bind (fun q4 => (if (ab_b q4) = 0 then (f_X6_lowest (77 + 2 * j) a2 σ).bind (fun q6 => ab_ck (ab_ib a1 24) (ab_lt (ab_u σ (78 + 2 * j) (a1).toNatClampNeg q6) (fun (s8 : ab_F) => (some ((1 : Int32), s8))))) else (f_X11_refuse (1 : Int32) σ).bind (fun q9 => (some (q9.1, q9.2)))))) := by
      unfold f_X11_put
      rw [gs_f (show f_X11_outside (nI j) 3 σ = some false from ou_n (j := j) (n := 3) σ (by omega) (by omega))]
      rcases le3 hj with rfl | rfl | rfl | rfl
      · rw [if_pos (show nI 0 = (0 : Int32) from rfl)]
      · rw [if_neg (show ¬ nI 1 = (0 : Int32) by decide), if_pos (show nI 1 = (1 : Int32) from rfl)]
      · rw [if_neg (show ¬ nI 2 = (0 : Int32) by decide), if_neg (show ¬ nI 2 = (1 : Int32) by decide), if_pos (show nI 2 = (2 : Int32) from rfl)]
      · rw [if_neg (show ¬ nI 3 = (0 : Int32) by decide), if_neg (show ¬ nI 3 = (1 : Int32) by decide), if_neg (show ¬ nI 3 = (2 : Int32) by decide), if_pos (show nI 3 = (3 : Int32) from rfl)]
    have k2 : ∀ τ : ab_F, τ 94 = σ 94 → τ 95 = σ 95 → f_X12_put (nI j) a1 a2 τ = (if (σ (77 + 2 * j) 2) = 0 then (f_X12_error (2 : Int32) τ).bind (fun q13 => (some (q13.1, q13.2))) else (f_X12_in a1 (0 : Int32) (nI n - (1 : Int32)) τ).bind (fun q6 => (if (ab_b q6) = 0 then (f_X12_error (1 : Int32) τ).bind (fun q12 => (some (q12.1, q12.2))) else ab_ck (ab_ib (((24 : Int32) * nI j) + a1) 96) (some (1, ab_u τ 96 ((((24 : Int32) * nI j) + a1)).toNatClampNeg ((a2 <<< (((32 : Int32) - σ (77 + 2 * j) 2) &&& 31)) >>> (((32 : Int32) - σ (77 + 2 * j) 2) &&& 31))))))) := fun τ t94 t95 => by
      unfold f_X12_put
      rw [gs_t (isS_n τ hj), ib_n (by omega) (by omega), ck_t, ck_t, cl_n (by omega), t94, t95, e2, ← e3]
      rfl
    by_cases hz : σ (77 + 2 * j) 2 = 0
    · refine er2 h 2 (by omega) ?_ (fun τ hτ => ?_)
      · rw [k1, if_pos hz, bie]; rfl
      · rw [k2 τ (hτ 94 (by omega)) (hτ 95 (by omega)), if_pos hz, bie]; rfl
    · rw [if_neg hz, e1] at k1
      rcases sz_o a1 n hn with ⟨i, hi, rfl, q1, q2⟩ | ⟨q1, q2⟩
      · obtain ⟨w, w1, w2⟩ := low_n (R := 77 + 2 * j) (σ := σ) a2 rfl (by
          rw [e3]; rw [e3] at hz
          rcases e5 with e | e | e | e
          · exact absurd e hz
          · exact Or.inl e
          · exact Or.inr (Or.inl e)
          · exact Or.inr (Or.inr e))
        refine ⟨1, ab_u σ (78 + 2 * j) i w, ab_u (ab_u σ (78 + 2 * j) i w) 96 (24 * j + i) w, ?_, ?_, ?_⟩
        · rw [k1, gs_f (q1 σ), w1, bi, ib_n (by omega) (by omega), ck_t, lt_d, cl_n (by omega)]
        · rw [k2 _ (ab_u_ne _ _ _ (by omega)) (ab_u_ne _ _ _ (by omega)), if_neg hz, gs_t (q2 _), show (24 : Int32) * nI j + nI i = nI (24 * j + i) by rw [show (24 : Int32) * nI j = nI (24 * j) from pk_mul 24 j, nI_add], ib_n (by omega) (by omega), ck_t, cl_n (by omega), w2]
        · exact rR_h h (fun c b0 b1 b2 b3 b4 => by rw [ab_u_ne _ _ _ b4, ab_u_ne _ _ _ (by omega)]) (rH_put h.2.2.1 hj (by omega))
      · refine er2 h 1 (by omega) ?_ (fun τ hτ => ?_)
        · rw [k1, gs_t (q1 σ), bie]; rfl
        · rw [k2 τ (hτ 94 (by omega)) (hτ 95 (by omega)), if_neg hz, gs_f (q2 _), bie]; rfl
  · refine er2 h 1 (by omega) ?_ (fun τ hτ => ?_)
    · unfold f_X11_put
      rw [gs_t (show f_X11_outside a0 3 σ = some true from hx σ), bie]; rfl
    · unfold f_X12_put
      rw [gs_f (isS_x τ hy), bie]; rfl
/-! sheet -/
theorem clC (R : Nat) : ∀ d i n (σ : ab_F), i + d = 24 → d < n → ∃ τ : ab_F, (∀ K, f_X6_clear_L12 R K n (nI i) σ = K τ) ∧ (∀ k, i ≤ k → k < 24 → τ (R + 1) k = 0) ∧ (∀ k, k < i → τ (R + 1) k = σ (R + 1) k) ∧ ∀ c, c ≠ R + 1 → τ c = σ c := by
  intro d
  induction d with
  | zero =>
    intro i n σ h1 h2
    obtain ⟨m, rfl⟩ : ∃ m, n = m + 1 := ⟨n - 1, by omega⟩
    refine ⟨σ, fun K => ?_, fun k h3 h4 => by omega, fun _ _ => rfl, fun _ _ => rfl⟩
    rw [f_X6_clear_L12, if_pos (show (24 : Int32) ≤ nI i from nI_le (a := 24) (by omega) (by omega))]
  | succ d ih =>
    intro i n σ h1 h2
    obtain ⟨m, rfl⟩ : ∃ m, n = m + 1 := ⟨n - 1, by omega⟩
    obtain ⟨τ, t1, t2, t3, t4⟩ := ih (i + 1) m (ab_u σ (R + 1) i 0) (by omega) (by omega)
    refine ⟨τ, fun K => ?_, fun k h3 h4 => ?_, fun k hk => by rw [t3 k (by omega), u_rd _ _ _ _ _ (by omega)], fun c hc => by rw [t4 c hc, ab_u_ne _ _ _ hc]⟩
    · rw [f_X6_clear_L12, if_neg (show ¬ (24 : Int32) ≤ nI i from nI_ge (b := 24) (by omega) (by omega)), ib_n (by omega) (by omega), ck_t, lt_d, lt_d, cl_n (by omega), nI_1]; exact t1 K
    · by_cases q : k = i
      · subst q; rw [t3 k (by omega), u_rk]
      · exact t2 k (by omega) h4
theorem cl_n1 (R : Nat) (b n : Int32) (σ : ab_F) : ∃ τ : ab_F, f_X6_clear R b n σ = some τ ∧ τ R 2 = b ∧ τ R 1 = n ∧ (∀ k, k < 24 → τ (R + 1) k = 0) ∧ ∀ c, c ≠ R → c ≠ R + 1 → τ c = σ c := by
  obtain ⟨τ, t1, t2, t3, t4⟩ := clC R 24 0 ab_fu (ab_u (ab_u σ R 2 b) R 1 n) (by omega) (by unfold ab_fu; omega)
  refine ⟨τ, ?_, ?_, ?_, fun k hk => t2 k (by omega) hk, fun c c1 c2 => by rw [t4 c c2, ab_u_ne _ _ _ c1, ab_u_ne _ _ _ c1]⟩
  · unfold f_X6_clear
    rw [lt_d, lt_d]; exact t1 _
  · rw [t4 R (by omega), u_rd _ _ _ _ _ (by omega), u_rk]
  · rw [t4 R (by omega), u_rk]
theorem clM (j : Nat) (hj : j ≤ 3) : ∀ d i n (σ : ab_F), i + d = 24 → d < n → ∃ τ : ab_F, (∀ K, f_X12_sheet_L90 (nI j) K n (nI i) σ = K τ) ∧ (∀ k, i ≤ k → k < 24 → τ 96 (24 * j + k) = 0) ∧ (∀ k, (k < 24 * j + i ∨ 24 * j + 24 ≤ k) → τ 96 k = σ 96 k) ∧ ∀ c, c ≠ 96 → τ c = σ c := by
  intro d
  induction d with
  | zero =>
    intro i n σ h1 h2
    obtain ⟨m, rfl⟩ : ∃ m, n = m + 1 := ⟨n - 1, by omega⟩
    refine ⟨σ, fun K => ?_, fun k h3 h4 => by omega, fun _ _ => rfl, fun _ _ => rfl⟩
    rw [f_X12_sheet_L90, if_pos (show (24 : Int32) ≤ nI i from nI_le (a := 24) (by omega) (by omega))]
  | succ d ih =>
    intro i n σ h1 h2
    obtain ⟨m, rfl⟩ : ∃ m, n = m + 1 := ⟨n - 1, by omega⟩
    obtain ⟨τ, t1, t2, t3, t4⟩ := ih (i + 1) m (ab_u σ 96 (24 * j + i) 0) (by omega) (by omega)
    refine ⟨τ, fun K => ?_, fun k h3 h4 => ?_, fun k hk => by rw [t3 k (by omega), u_rd _ _ _ _ _ (by omega)], fun c hc => by rw [t4 c hc, ab_u_ne _ _ _ hc]⟩
    · rw [f_X12_sheet_L90, if_neg (show ¬ (24 : Int32) ≤ nI i from nI_ge (b := 24) (by omega) (by omega)), show (24 : Int32) * nI j + nI i = nI (24 * j + i) by rw [show (24 : Int32) * nI j = nI (24 * j) from pk_mul 24 j, nI_add], ib_n (by omega) (by omega), ck_t, lt_d, lt_d, cl_n (by omega), nI_1]; exact t1 K
    · by_cases q : k = i
      · subst q; rw [t3 _ (by omega), u_rk]
      · exact t2 k (by omega) h4
/-- a SHEET made anew, in both -/
theorem sh_new {σ : ab_F} (h : rR σ) {j n b : Nat} (hj : j ≤ 3) (hn : n ≤ 24) (hb : b = 0 ∨ b = 8 ∨ b = 16 ∨ b = 32) {F G : ab_F → Option (Int32 × ab_F)} (hF : F σ = (f_X6_clear (77 + 2 * j) (nI b) (nI n) σ).bind (fun q9 => (some ((1 : Int32), q9)))) (hG : ∀ τ : ab_F, G τ = f_X12_sheet_L90 (nI j) (fun (s19 : ab_F) => (some ((1 : Int32), s19))) ab_fu (nI 0) (ab_u (ab_u τ 94 j (nI b)) 95 j (nI n))) : ∃ (a : Int32) (σ1 σ2 : ab_F), F σ = some (a, σ1) ∧ G σ1 = some (a, σ2) ∧ rR σ2 := by
  obtain ⟨σ1, s1, s2, s3, s4, s5⟩ := cl_n1 (77 + 2 * j) (nI b) (nI n) σ
  obtain ⟨τ, t1, t2, t3, t4⟩ := clM j hj 24 0 ab_fu (ab_u (ab_u σ1 94 j (nI b)) 95 j (nI n)) (by omega) (by unfold ab_fu; omega)
  refine ⟨1, σ1, τ, by rw [hF, s1, bi], by rw [hG]; exact t1 _, rR_h h (fun c b0 b1 b2 b3 b4 => by rw [t4 c b4, ab_u_ne _ _ _ b3, ab_u_ne _ _ _ b2, s5 c (by omega) (by omega)]) ?_⟩
  intro k hk
  obtain ⟨g1, g2, g3⟩ := h.2.2.1 k hk
  rw [t4 (77 + 2 * k) (by omega), t4 95 (by omega), t4 94 (by omega), t4 (78 + 2 * k) (by omega), ab_u_ne _ _ _ (by omega : 77 + 2 * k ≠ 95), ab_u_ne _ _ _ (by omega : 77 + 2 * k ≠ 94), ab_u_ne _ _ _ (by omega : 78 + 2 * k ≠ 95), ab_u_ne _ _ _ (by omega : 78 + 2 * k ≠ 94), ab_u_ne _ _ _ (by omega : 94 ≠ 95)]
  by_cases q : k = j
  · subst q
    rw [u_rk, u_rk, s2, s3]
    refine ⟨⟨n, hn, rfl, rfl⟩, ⟨rfl, ?_⟩, fun i hi => ?_⟩
    · rcases hb with rfl | rfl | rfl | rfl
      · exact Or.inl rfl
      · exact Or.inr (Or.inl rfl)
      · exact Or.inr (Or.inr (Or.inl rfl))
      · exact Or.inr (Or.inr (Or.inr rfl))
    · rw [show 78 + 2 * k = 77 + 2 * k + 1 by omega, s4 i hi, t2 i (by omega) hi]
  · rw [u_rd _ _ _ _ _ q, u_rd _ _ _ _ _ q, ab_u_ne _ _ _ (by omega : 95 ≠ 94), s5 (77 + 2 * k) (by omega) (by omega), s5 (78 + 2 * k) (by omega) (by omega), s5 95 (by omega) (by omega), s5 94 (by omega) (by omega)]
    refine ⟨g1, g2, fun i hi => ?_⟩
    rw [t3 _ (by omega), ab_u_ne _ _ _ (by omega : 96 ≠ 95), ab_u_ne _ _ _ (by omega : 96 ≠ 94), s5 96 (by omega) (by omega)]
    exact g3 i hi
theorem shC_0 {j : Nat} (hj : j ≤ 3) (a : Int32) (σ : ab_F) : f_X11_sheet (nI j) (nI 0) a σ = (f_X6_clear (77 + 2 * j) (nI 0) (nI 0) σ).bind (fun q9 => (some ((1 : Int32), q9))) := by
  unfold f_X11_sheet
  rw [gs_f (show f_X11_outside (nI j) 3 σ = some false from ou_n (j := j) (n := 3) σ (by omega) (by omega)), if_pos (show nI 0 = (0 : Int32) from rfl), if_pos (show nI 0 = (0 : Int32) from rfl), if_pos (show nI 0 = (0 : Int32) from rfl)]
  rcases le3 hj with rfl | rfl | rfl | rfl
  · rw [if_pos (show nI 0 = (0 : Int32) from rfl), if_pos (show nI 0 = (0 : Int32) from rfl)]; rfl
  · rw [if_neg (show ¬ nI 1 = (0 : Int32) by decide), if_pos (show nI 1 = (1 : Int32) from rfl), if_pos (show nI 0 = (0 : Int32) from rfl)]; rfl
  · rw [if_neg (show ¬ nI 2 = (0 : Int32) by decide), if_neg (show ¬ nI 2 = (1 : Int32) by decide), if_pos (show nI 2 = (2 : Int32) from rfl), if_pos (show nI 0 = (0 : Int32) from rfl)]; rfl
  · rw [if_neg (show ¬ nI 3 = (0 : Int32) by decide), if_neg (show ¬ nI 3 = (1 : Int32) by decide), if_neg (show ¬ nI 3 = (2 : Int32) by decide), if_pos (show nI 3 = (3 : Int32) from rfl), if_pos (show nI 0 = (0 : Int32) from rfl)]; rfl
theorem shM_0 {j : Nat} (hj : j ≤ 3) (a : Int32) (τ : ab_F) : f_X12_sheet (nI j) (nI 0) a τ = f_X12_sheet_L90 (nI j) (fun (s19 : ab_F) => (some ((1 : Int32), s19))) ab_fu (nI 0) (ab_u (ab_u τ 94 j (nI 0)) 95 j (nI 0)) := by
  unfold f_X12_sheet
  rw [gs_t (isS_n τ hj), if_pos (show nI 0 = (0 : Int32) from rfl), if_pos (show nI 0 = (0 : Int32) from rfl), if_pos (show nI 0 = (0 : Int32) from rfl), ib_n (by omega) (by omega), ck_t, lt_d, if_pos (show nI 0 = (0 : Int32) from rfl), ck_t, lt_d, cl_n (by omega)]; rfl
theorem shC_8 {j : Nat} (hj : j ≤ 3) (a : Int32) (σ : ab_F) : f_X11_sheet (nI j) (nI 8) a σ = (if 0 ≤ a then (if a ≤ (24 : Int32) then (f_X6_clear (77 + 2 * j) (nI 8) a σ).bind (fun q9 => (some ((1 : Int32), q9))) else f_X11_refuse 1 σ) else f_X11_refuse 3 σ) := by
  unfold f_X11_sheet
  rw [gs_f (show f_X11_outside (nI j) 3 σ = some false from ou_n (j := j) (n := 3) σ (by omega) (by omega)), if_neg (show ¬ nI 8 = (0 : Int32) by decide), if_pos (show nI 8 = (8 : Int32) from rfl), if_neg (show ¬ nI 8 = (0 : Int32) by decide)]
  by_cases h0 : 0 ≤ a
  · rw [if_pos h0, if_pos h0, if_neg (show ¬ nI 8 = (0 : Int32) by decide)]
    by_cases h2 : a ≤ 24
    · rw [if_pos h2, if_pos h2]
      rcases le3 hj with rfl | rfl | rfl | rfl
      · rw [if_pos (show nI 0 = (0 : Int32) from rfl), if_neg (show ¬ nI 8 = (0 : Int32) by decide)]
      · rw [if_neg (show ¬ nI 1 = (0 : Int32) by decide), if_pos (show nI 1 = (1 : Int32) from rfl), if_neg (show ¬ nI 8 = (0 : Int32) by decide)]
      · rw [if_neg (show ¬ nI 2 = (0 : Int32) by decide), if_neg (show ¬ nI 2 = (1 : Int32) by decide), if_pos (show nI 2 = (2 : Int32) from rfl), if_neg (show ¬ nI 8 = (0 : Int32) by decide)]
      · rw [if_neg (show ¬ nI 3 = (0 : Int32) by decide), if_neg (show ¬ nI 3 = (1 : Int32) by decide), if_neg (show ¬ nI 3 = (2 : Int32) by decide), if_pos (show nI 3 = (3 : Int32) from rfl), if_neg (show ¬ nI 8 = (0 : Int32) by decide)]
    · rw [if_neg h2, if_neg h2, bie]
  · rw [if_neg h0, if_neg h0, bie]
theorem shM_8 {j : Nat} (hj : j ≤ 3) (a : Int32) (τ : ab_F) : f_X12_sheet (nI j) (nI 8) a τ = (if 0 ≤ a then (if a ≤ (24 : Int32) then f_X12_sheet_L90 (nI j) (fun (s19 : ab_F) => (some ((1 : Int32), s19))) ab_fu (nI 0) (ab_u (ab_u τ 94 j (nI 8)) 95 j a) else f_X12_error 1 τ) else f_X12_error 3 τ) := by
  unfold f_X12_sheet
  rw [gs_t (isS_n τ hj), if_neg (show ¬ nI 8 = (0 : Int32) by decide), if_pos (show nI 8 = (8 : Int32) from rfl), if_neg (show ¬ nI 8 = (0 : Int32) by decide)]
  by_cases h0 : 0 ≤ a
  · rw [if_pos h0, if_pos h0, if_neg (show ¬ nI 8 = (0 : Int32) by decide)]
    by_cases h2 : a ≤ 24
    · rw [if_pos h2, if_pos h2, ib_n (by omega) (by omega), ck_t, lt_d, if_neg (show ¬ nI 8 = (0 : Int32) by decide), ck_t, lt_d, cl_n (by omega)]; rfl
    · rw [if_neg h2, if_neg h2, bie]
  · rw [if_neg h0, if_neg h0, bie]
theorem shC_16 {j : Nat} (hj : j ≤ 3) (a : Int32) (σ : ab_F) : f_X11_sheet (nI j) (nI 16) a σ = (if 0 ≤ a then (if a ≤ (24 : Int32) then (f_X6_clear (77 + 2 * j) (nI 16) a σ).bind (fun q9 => (some ((1 : Int32), q9))) else f_X11_refuse 1 σ) else f_X11_refuse 3 σ) := by
  unfold f_X11_sheet
  rw [gs_f (show f_X11_outside (nI j) 3 σ = some false from ou_n (j := j) (n := 3) σ (by omega) (by omega)), if_neg (show ¬ nI 16 = (0 : Int32) by decide), if_neg (show ¬ nI 16 = (8 : Int32) by decide), if_pos (show nI 16 = (16 : Int32) from rfl), if_neg (show ¬ nI 16 = (0 : Int32) by decide)]
  by_cases h0 : 0 ≤ a
  · rw [if_pos h0, if_pos h0, if_neg (show ¬ nI 16 = (0 : Int32) by decide)]
    by_cases h2 : a ≤ 24
    · rw [if_pos h2, if_pos h2]
      rcases le3 hj with rfl | rfl | rfl | rfl
      · rw [if_pos (show nI 0 = (0 : Int32) from rfl), if_neg (show ¬ nI 16 = (0 : Int32) by decide)]
      · rw [if_neg (show ¬ nI 1 = (0 : Int32) by decide), if_pos (show nI 1 = (1 : Int32) from rfl), if_neg (show ¬ nI 16 = (0 : Int32) by decide)]
      · rw [if_neg (show ¬ nI 2 = (0 : Int32) by decide), if_neg (show ¬ nI 2 = (1 : Int32) by decide), if_pos (show nI 2 = (2 : Int32) from rfl), if_neg (show ¬ nI 16 = (0 : Int32) by decide)]
      · rw [if_neg (show ¬ nI 3 = (0 : Int32) by decide), if_neg (show ¬ nI 3 = (1 : Int32) by decide), if_neg (show ¬ nI 3 = (2 : Int32) by decide), if_pos (show nI 3 = (3 : Int32) from rfl), if_neg (show ¬ nI 16 = (0 : Int32) by decide)]
    · rw [if_neg h2, if_neg h2, bie]
  · rw [if_neg h0, if_neg h0, bie]
theorem shM_16 {j : Nat} (hj : j ≤ 3) (a : Int32) (τ : ab_F) : f_X12_sheet (nI j) (nI 16) a τ = (if 0 ≤ a then (if a ≤ (24 : Int32) then f_X12_sheet_L90 (nI j) (fun (s19 : ab_F) => (some ((1 : Int32), s19))) ab_fu (nI 0) (ab_u (ab_u τ 94 j (nI 16)) 95 j a) else f_X12_error 1 τ) else f_X12_error 3 τ) := by
  unfold f_X12_sheet
  rw [gs_t (isS_n τ hj), if_neg (show ¬ nI 16 = (0 : Int32) by decide), if_neg (show ¬ nI 16 = (8 : Int32) by decide), if_pos (show nI 16 = (16 : Int32) from rfl), if_neg (show ¬ nI 16 = (0 : Int32) by decide)]
  by_cases h0 : 0 ≤ a
  · rw [if_pos h0, if_pos h0, if_neg (show ¬ nI 16 = (0 : Int32) by decide)]
    by_cases h2 : a ≤ 24
    · rw [if_pos h2, if_pos h2, ib_n (by omega) (by omega), ck_t, lt_d, if_neg (show ¬ nI 16 = (0 : Int32) by decide), ck_t, lt_d, cl_n (by omega)]; rfl
    · rw [if_neg h2, if_neg h2, bie]
  · rw [if_neg h0, if_neg h0, bie]
theorem shC_32 {j : Nat} (hj : j ≤ 3) (a : Int32) (σ : ab_F) : f_X11_sheet (nI j) (nI 32) a σ = (if 0 ≤ a then (if a ≤ (24 : Int32) then (f_X6_clear (77 + 2 * j) (nI 32) a σ).bind (fun q9 => (some ((1 : Int32), q9))) else f_X11_refuse 1 σ) else f_X11_refuse 3 σ) := by
  unfold f_X11_sheet
  rw [gs_f (show f_X11_outside (nI j) 3 σ = some false from ou_n (j := j) (n := 3) σ (by omega) (by omega)), if_neg (show ¬ nI 32 = (0 : Int32) by decide), if_neg (show ¬ nI 32 = (8 : Int32) by decide), if_neg (show ¬ nI 32 = (16 : Int32) by decide), if_pos (show nI 32 = (32 : Int32) from rfl), if_neg (show ¬ nI 32 = (0 : Int32) by decide)]
  by_cases h0 : 0 ≤ a
  · rw [if_pos h0, if_pos h0, if_neg (show ¬ nI 32 = (0 : Int32) by decide)]
    by_cases h2 : a ≤ 24
    · rw [if_pos h2, if_pos h2]
      rcases le3 hj with rfl | rfl | rfl | rfl
      · rw [if_pos (show nI 0 = (0 : Int32) from rfl), if_neg (show ¬ nI 32 = (0 : Int32) by decide)]
      · rw [if_neg (show ¬ nI 1 = (0 : Int32) by decide), if_pos (show nI 1 = (1 : Int32) from rfl), if_neg (show ¬ nI 32 = (0 : Int32) by decide)]
      · rw [if_neg (show ¬ nI 2 = (0 : Int32) by decide), if_neg (show ¬ nI 2 = (1 : Int32) by decide), if_pos (show nI 2 = (2 : Int32) from rfl), if_neg (show ¬ nI 32 = (0 : Int32) by decide)]
      · rw [if_neg (show ¬ nI 3 = (0 : Int32) by decide), if_neg (show ¬ nI 3 = (1 : Int32) by decide), if_neg (show ¬ nI 3 = (2 : Int32) by decide), if_pos (show nI 3 = (3 : Int32) from rfl), if_neg (show ¬ nI 32 = (0 : Int32) by decide)]
    · rw [if_neg h2, if_neg h2, bie]
  · rw [if_neg h0, if_neg h0, bie]
theorem shM_32 {j : Nat} (hj : j ≤ 3) (a : Int32) (τ : ab_F) : f_X12_sheet (nI j) (nI 32) a τ = (if 0 ≤ a then (if a ≤ (24 : Int32) then f_X12_sheet_L90 (nI j) (fun (s19 : ab_F) => (some ((1 : Int32), s19))) ab_fu (nI 0) (ab_u (ab_u τ 94 j (nI 32)) 95 j a) else f_X12_error 1 τ) else f_X12_error 3 τ) := by
  unfold f_X12_sheet
  rw [gs_t (isS_n τ hj), if_neg (show ¬ nI 32 = (0 : Int32) by decide), if_neg (show ¬ nI 32 = (8 : Int32) by decide), if_neg (show ¬ nI 32 = (16 : Int32) by decide), if_pos (show nI 32 = (32 : Int32) from rfl), if_neg (show ¬ nI 32 = (0 : Int32) by decide)]
  by_cases h0 : 0 ≤ a
  · rw [if_pos h0, if_pos h0, if_neg (show ¬ nI 32 = (0 : Int32) by decide)]
    by_cases h2 : a ≤ 24
    · rw [if_pos h2, if_pos h2, ib_n (by omega) (by omega), ck_t, lt_d, if_neg (show ¬ nI 32 = (0 : Int32) by decide), ck_t, lt_d, cl_n (by omega)]; rfl
    · rw [if_neg h2, if_neg h2, bie]
  · rw [if_neg h0, if_neg h0, bie]
theorem sh_b {σ : ab_F} (h : rR σ) {j b : Nat} (a2 : Int32) (hj : j ≤ 3) (hb : b = 0 ∨ b = 8 ∨ b = 16 ∨ b = 32) {F G : ab_F → Option (Int32 × ab_F)} (hF : F σ = (if 0 ≤ a2 then (if a2 ≤ (24 : Int32) then (f_X6_clear (77 + 2 * j) (nI b) a2 σ).bind (fun q9 => (some ((1 : Int32), q9))) else f_X11_refuse 1 σ) else f_X11_refuse 3 σ)) (hG : ∀ τ : ab_F, G τ = (if 0 ≤ a2 then (if a2 ≤ (24 : Int32) then f_X12_sheet_L90 (nI j) (fun (s19 : ab_F) => (some ((1 : Int32), s19))) ab_fu (nI 0) (ab_u (ab_u τ 94 j (nI b)) 95 j a2) else f_X12_error 1 τ) else f_X12_error 3 τ)) : ∃ (a : Int32) (σ1 σ2 : ab_F), F σ = some (a, σ1) ∧ G σ1 = some (a, σ2) ∧ rR σ2 := by
  by_cases h0 : 0 ≤ a2
  · by_cases h2 : a2 ≤ 24
    · obtain ⟨n, hn, rfl⟩ := nI_of2 (M := (24 : Int32)) (n := 24) rfl (Int32.not_lt.mpr h0) h2
      exact sh_new h hj hn hb (by rw [hF, if_pos h0, if_pos h2]) (fun τ => by rw [hG τ, if_pos h0, if_pos h2])
    · exact er2 h 1 (by omega) (by rw [hF, if_pos h0, if_neg h2]; rfl) (fun τ _ => by rw [hG τ, if_pos h0, if_neg h2]; rfl)
  · exact er2 h 3 (by omega) (by rw [hF, if_neg h0]; rfl) (fun τ _ => by rw [hG τ, if_neg h0]; rfl)
theorem m_sheet (a0 a1 a2 : Int32) : ok2 rR (f_X11_sheet a0 a1 a2) (f_X12_sheet a0 a1 a2) := by
  intro σ h
  rcases gd a0 3 (by omega) with ⟨j, hj, rfl⟩ | ⟨hx, hy⟩
  · by_cases q0 : a1 = 0
    · have e : a1 = nI 0 := q0
      subst e
      exact sh_new h hj (n := 0) (b := 0) (by omega) (Or.inl rfl) (shC_0 hj a2 σ) (fun τ => shM_0 hj a2 τ)
    by_cases q8 : a1 = 8
    · have e : a1 = nI 8 := q8
      subst e
      exact sh_b h a2 hj (b := 8) (by omega) (shC_8 hj a2 σ) (fun τ => shM_8 hj a2 τ)
    by_cases q16 : a1 = 16
    · have e : a1 = nI 16 := q16
      subst e
      exact sh_b h a2 hj (b := 16) (by omega) (shC_16 hj a2 σ) (fun τ => shM_16 hj a2 τ)
    by_cases q32 : a1 = 32
    · have e : a1 = nI 32 := q32
      subst e
      exact sh_b h a2 hj (b := 32) (by omega) (shC_32 hj a2 σ) (fun τ => shM_32 hj a2 τ)
    refine er2 h 1 (by omega) ?_ (fun τ hτ => ?_)
    · unfold f_X11_sheet
      rw [gs_f (show f_X11_outside (nI j) 3 σ = some false from ou_n (j := j) (n := 3) σ (by omega) (by omega)), if_neg q0, if_neg q8, if_neg q16, if_neg q32, bie]; rfl
    · unfold f_X12_sheet
      rw [gs_t (isS_n τ hj), if_neg q0, if_neg q8, if_neg q16, if_neg q32, bie]; rfl
  · refine er2 h 1 (by omega) ?_ (fun τ hτ => ?_)
    · unfold f_X11_sheet
      rw [gs_t (show f_X11_outside a0 3 σ = some true from hx σ), bie]; rfl
    · unfold f_X12_sheet
      rw [gs_f (isS_x τ hy), bie]; rfl
