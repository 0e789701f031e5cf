/-! WHERE IT IS HIGHER -/
def hb (c : Nat) : Option Nat → Nat
  | none => c
  | some k => k
def hm (g : Nat → Nat) : Option Nat → Int32
  | none => -1
  | some k => nI (g k)
theorem cH {u : Nat → Nat → Nat} {σ : ab_F} {w c q : Nat} (hC : wC u σ w) (hB : rB q u) (hc : c < 16) (K : Int32 → Option Int32) : ∀ d i n t, i + d = 4 * c + 4 → 4 * c ≤ i → d < n → (∀ k, t = some k → k < 16) → f_X9_highestBeside_L9 w (nI c) σ K n (nI (hb c t)) (hm (u 1) t) (nI i) = K (nI (hb c (cfo (stH (u 1)) d i t))) := by
  intro d
  induction d with
  | zero =>
    intro i n t h1 h2 h3 ht
    obtain ⟨m, rfl⟩ : ∃ m, n = m + 1 := ⟨n - 1, by omega⟩
    rw [f_X9_highestBeside_L9]
    simp (disch := omega) only [lit, nI_add, pk_mul, nI_leI, if_pos, cfo]
  | succ d ih =>
    intro i n t h1 h2 h3 ht
    obtain ⟨m, rfl⟩ : ∃ m, n = m + 1 := ⟨n - 1, by omega⟩
    rw [f_X9_highestBeside_L9, cfo]
    have h4 := tb_l i (by omega)
    simp (disch := omega) only [lit, nI_add, pk_mul, nI_leI, if_neg, ib_n, ck_t, lt_d, cl_n, tb_e]
    cases htb : tb i with
    | none =>
      simp only [eto_n, m1lt, ↓reduceIte]
      exact ih (i + 1) m t (by omega) (by omega) (by omega) ht
    | some o =>
      have ho : o < 16 := h4 o htb
      have b1 := bw1 hB ho
      simp (disch := omega) only [eto_s, nI_ltI, ib_n, ck_t, cl_n, c1 hC, Nat.not_lt_zero, ↓reduceIte]
      cases t with
      | none =>
        rw [if_neg (show ¬ nI (u 1 o) ≤ hm (u 1) none from fun z => absurd (Int32.lt_of_le_of_lt z (by decide : (-1 : Int32) < 0)) (nI_pos (by omega)))]
        exact ih (i + 1) m (some o) (by omega) (by omega) (by omega) (fun k hk => by cases hk; exact ho)
      | some k =>
        have hk : k < 16 := ht k rfl
        have b2 := bw1 hB hk
        by_cases q4 : u 1 k < u 1 o
        · rw [if_neg (show ¬ nI (u 1 o) ≤ hm (u 1) (some k) from nI_ge q4 (by omega))]
          have e : stH (u 1) (some k) o = some o := by simp [stH, q4]
          rw [e]
          exact ih (i + 1) m (some o) (by omega) (by omega) (by omega) (fun k hk => by cases hk; exact ho)
        · rw [if_pos (show nI (u 1 o) ≤ hm (u 1) (some k) from nI_le (by omega) (by omega))]
          have e : stH (u 1) (some k) o = some k := by simp [stH, q4]
          rw [e]
          exact ih (i + 1) m (some k) (by omega) (by omega) (by omega) ht
theorem mH {u : Nat → Nat → Nat} {σ : ab_F} {c q : Nat} (p : Int32) (hM : rM u (σ 86)) (hB : rB q u) (hc : c < 16) (K : Int32 → Option ab_F) : ∀ d i n t, i + d = 16 → d < n → (∀ k, t = some k → k < 16) → f_X12_goesAway_L12 p (nI c) σ K n (eto t) (nI i) = K (eto (mfo (stH (u 1)) c d i t)) := by
  intro d
  induction d with
  | zero =>
    intro i n t h1 h3 ht
    obtain ⟨m, rfl⟩ : ∃ m, n = m + 1 := ⟨n - 1, by omega⟩
    rw [f_X12_goesAway_L12]
    simp (disch := omega) only [lit, nI_leI, if_pos, mfo]
  | succ d ih =>
    intro i n t h1 h3 ht
    obtain ⟨m, rfl⟩ : ∃ m, n = m + 1 := ⟨n - 1, by omega⟩
    rw [f_X12_goesAway_L12, mfo]
    have ho : i < 16 := by omega
    have b1 := bw1 hB ho
    rw [bes_n c i σ hc ho, bi]
    simp (disch := omega) only [lit, nI_leI, if_neg, lt_d, nI_add, b_eq]
    cases hb : bes c i with
    | false =>
      simp only [↓reduceIte, cond_false]
      exact ih (i + 1) m t (by omega) (by omega) ht
    | true =>
      simp (disch := omega) only [Bool.true_eq_false, ↓reduceIte, cond_true, ib_n, ck_t, cl_n, d1 hM]
      cases t with
      | none =>
        simp only [eto_n, m1lt, ↓reduceIte]
        exact ih (i + 1) m (some i) (by omega) (by omega) (fun k hk => by cases hk; exact ho)
      | some k =>
        have hk : k < 16 := ht k rfl
        have b2 := bw1 hB hk
        simp (disch := omega) only [eto_s, nI_add, ib_n, ck_t, cl_n, d1 hM, nI_ltI, nI_leI, Nat.not_lt_zero, ↓reduceIte]
        by_cases q4 : u 1 k < u 1 i
        · rw [if_neg (by omega)]
          have e : stH (u 1) (some k) i = some i := by simp [stH, q4]
          rw [e]
          exact ih (i + 1) m (some i) (by omega) (by omega) (fun k hk => by cases hk; exact ho)
        · rw [if_pos (by omega)]
          have e : stH (u 1) (some k) i = some k := by simp [stH, q4]
          rw [e]
          exact ih (i + 1) m (some k) (by omega) (by omega) ht
theorem stH_s (g : Nat → Nat) (t : Option Nat) (o : Nat) : ∃ k, stH g t o = some k := by
  unfold stH
  cases t with
  | none => exact ⟨o, rfl⟩
  | some k => by_cases q2 : g k < g o <;> simp [q2]
theorem mfo_s (g : Nat → Nat) (c : Nat) : ∀ d i t, ((∃ k, t = some k) ∨ ∃ j, i ≤ j ∧ j < i + d ∧ bes c j = true) → ∃ k, mfo (stH g) c d i t = some k := by
  intro d
  induction d with
  | zero =>
    intro i t h
    rcases h with h | ⟨j, h1, h2, _⟩
    · exact h
    · omega
  | succ d ih =>
    intro i t h
    rw [mfo]
    apply ih
    cases hb : bes c i with
    | true => exact Or.inl (stH_s g t i)
    | false =>
      rcases h with h | ⟨j, h1, h2, h3⟩
      · exact Or.inl h
      · refine Or.inr ⟨j, ?_, by omega, h3⟩
        by_cases q : j = i
        · subst q; rw [hb] at h3; cases h3
        · omega
theorem bes_ex : ∀ c, c < 16 → ∃ j, j < 16 ∧ bes c j = true := by decide +kernel
theorem hi_ex (g : Nat → Nat) {c : Nat} (hc : c < 16) : ∃ k, mfo (stH g) c 16 0 none = some k ∧ k < 16 := by
  obtain ⟨j, h1, h2⟩ := bes_ex c hc
  obtain ⟨k, hk⟩ := mfo_s g c 16 0 none (Or.inr ⟨j, by omega, by omega, h2⟩)
  exact ⟨k, hk, (mfo_ok (stH g) (stH_or g) c 16 0 none (by omega) (fun k hk => by cases hk) k hk).1⟩
/-! frames -/
def frC (w : Nat) (σ σ2 : ab_F) : Prop := (∀ e, (e < w ∨ w + 10 < e) → e ≠ 34 → e ≠ 37 → σ2 e = σ e) ∧ σ2 w 5 = σ w 5
def frM (τ τ2 : ab_F) : Prop := (∀ e, e ≠ 86 → e ≠ 91 → e ≠ 92 → τ2 e = τ e) ∧ ∀ j, (116 ≤ j ∨ j = 2 ∨ j = 3 ∨ j = 4) → τ2 86 j = τ 86 j
theorem frC_r (w : Nat) (σ : ab_F) : frC w σ σ := ⟨fun _ _ _ _ => rfl, rfl⟩
theorem frM_r (τ : ab_F) : frM τ τ := ⟨fun _ _ _ _ => rfl, fun _ _ => rfl⟩
theorem frC_t {w : Nat} {a b c : ab_F} (h1 : frC w a b) (h2 : frC w b c) : frC w a c := ⟨fun e x y z => by rw [h2.1 e x y z, h1.1 e x y z], by rw [h2.2, h1.2]⟩
theorem frM_t {a b c : ab_F} (h1 : frM a b) (h2 : frM b c) : frM a c := ⟨fun e x y z => by rw [h2.1 e x y z, h1.1 e x y z], fun j hj => by rw [h2.2 j hj, h1.2 j hj]⟩
/-- a row of the class's world changes -/
theorem frC_u {w r i : Nat} {x : Int32} (σ : ab_F) (hr : r ≤ 10) (h0 : r ≠ 0 ∨ i ≠ 5) : frC w σ (ab_u σ (w + r) i x) := by
  refine ⟨fun e x y z => ab_u_ne _ _ _ (by omega), ?_⟩
  by_cases q : r = 0
  · subst q; rw [show w + 0 = w from rfl, u_rd _ _ _ _ _ (by omega)]
  · rw [ab_u_ne _ _ _ (by omega)]
theorem frM_u {r i : Nat} {x : Int32} (τ : ab_F) (hv : val r i) : frM τ (ab_u τ 86 (ix r i) x) := by
  have := ix_lt hv
  refine ⟨fun e x y z => ab_u_ne _ _ _ x, fun j hj => u_rd _ _ _ _ _ (by omega)⟩
def TX (σ τ : ab_F) : Prop := rT 121 107 100 (σ 32 0) (σ 33) (τ 86) 116 ∧ rT 116 103 100 (σ 35 0) (σ 36) (τ 86) 241
theorem TX_fr {w : Nat} {σ σ2 τ τ2 : ab_F} (hw : 38 ≤ w) (h : TX σ τ) (h1 : frC w σ σ2) (h2 : frM τ τ2) : TX σ2 τ2 := by
  refine ⟨?_, ?_⟩
  · rw [h1.1 32 (by omega) (by omega) (by omega), h1.1 33 (by omega) (by omega) (by omega)]
    exact rT_to h.1 (fun k _ _ => h2.2 k (by omega))
  · rw [h1.1 35 (by omega) (by omega) (by omega), h1.1 36 (by omega) (by omega) (by omega)]
    exact rT_to h.2 (fun k _ _ => h2.2 k (by omega))
theorem wC_fr {u : Nat → Nat → Nat} {σ σ2 : ab_F} {w : Nat} (h : wC u σ w) (h2 : ∀ e, w ≤ e → e ≤ w + 10 → σ2 e = σ e) : wC u σ2 w := by
  intro r j hj
  have hr : r ≤ 10 := by rcases hj with q | q | q | q <;> omega
  rw [h2 _ (by omega) (by omega)]; exact h r j hj
theorem or_le {a b : Nat} (ha : a ≤ 4095) (hb : b ≤ 4095) : a ||| b ≤ 4095 := by
  have := Nat.or_lt_two_pow (x := a) (y := b) (n := 12) (by omega) (by omega)
  omega
/-! ONE GETS WET -/
theorem wetR {u : Nat → Nat → Nat} {σ τ : ab_F} {w q k : Nat} (hw : 38 ≤ w) (hq : q < 2 ^ 30) (hC : wC u σ w) (hM : rM u (τ 86)) (hB : rB q u) (hk : k < 8) (hT : TX σ τ) : ∃ (u2 : Nat → Nat → Nat) (σ2 τ2 : ab_F), f_X9_getsWet w (nI k) σ = some σ2 ∧ f_X12_getsWet (nI k) τ = some τ2 ∧ wC u2 σ2 w ∧ rM u2 (τ2 86) ∧ rB q u2 ∧ (∀ r, r ≤ 7 → u2 r = u r) ∧ (∀ j, u 10 j ||| u2 10 j = u2 10 j) ∧ frC w σ σ2 ∧ frM τ τ2 := by
  have b8 := bw8 hB hk
  have b10 := bw10 hB hk
  have b4 := bw4 hB (j := u 8 k) (by omega)
  have hv10 : val 10 k := vp (by omega) (by omega) hk
  have hv9 : val 9 k := vp (by omega) (by omega) hk
  have hv8 : val 8 k := vp (by omega) (by omega) hk
  -- what is known now
  generalize hx : u 10 k ||| u 4 (u 8 k) = x
  have hx2 : x ≤ 4095 := by rw [← hx]; exact or_le b10 b4
  have C1 : wC (uu u 10 k x) (ab_u σ (w + 10) k (nI x)) w := wC_set hC
  have M1 : rM (uu u 10 k x) ((ab_u τ 86 (ix 10 k) (nI x)) 86) := wM_set hv10 hM
  have B1 : rB q (uu u 10 k x) := rB_set hB hx2
  have F1 : frC w σ (ab_u σ (w + 10) k (nI x)) := frC_u σ (by omega) (by omega)
  have G1 : frM τ (ab_u τ 86 (ix 10 k) (nI x)) := frM_u τ hv10
  have T1 := TX_fr hw hT F1 G1
  obtain ⟨v, σ3, τ3, hv, e1, e2, e3, e4⟩ := doR hq C1 M1 B1 hk T1.1
  have C3 : wC (uu u 10 k x) σ3 w := wC_fr C1 (fun e h1 h2 => e3 e (by omega))
  have M3 : rM (uu u 10 k x) (τ3 86) := by rw [e4 86 (by omega) (by omega)]; exact M1
  have F3 : frC w σ σ3 := frC_t F1 ⟨fun e _ h _ => e3 e h, by rw [e3 w (by omega)]⟩
  have G3 : frM τ τ3 := frM_t G1 ⟨fun e _ h1 h2 => e4 e h1 h2, fun j _ => by rw [e4 86 (by omega) (by omega)]⟩
  have R1 : ∀ r, r ≤ 7 → (uu u 10 k x) r = u r := fun r hr => by
    funext j; unfold uu; rw [if_neg (by omega)]
  have K1 : ∀ j, u 10 j ||| (uu u 10 k x) 10 j = (uu u 10 k x) 10 j := fun j => by
    unfold uu
    by_cases z : j = k
    · rw [if_pos ⟨rfl, z⟩, z, ← hx, ← Nat.or_assoc, Nat.or_self]
    · rw [if_neg (fun y => z y.2), Nat.or_self]
  -- the class's and the model's ways up to the switch
  have P1 : f_X9_getsWet w (nI k) σ = (if nI v = (1 : Int32) then ab_ck (ab_ib (nI k) 8) ((f_J9_min_7cf53 (20 : Int32) ((σ3 (w + 9) (nI k).toNatClampNeg) + (1 : Int32)) σ3).bind (fun q9 => ab_ck (ab_ib (nI k) 8) (some (ab_u σ3 (w + 9) (nI k).toNatClampNeg q9)))) else if nI v = (2 : Int32) then ab_ck (ab_ib (nI k) 8) (some (ab_u σ3 (w + 9) (nI k).toNatClampNeg (0 : Int32))) else if nI v = (3 : Int32) then ab_ck (ab_ib (nI k) 8) ((f_X9_highestBeside w (σ3 (w + 8) (nI k).toNatClampNeg) σ3).bind (fun q17 => ab_ck (ab_ib (nI k) 8) (some (ab_u σ3 (w + 8) (nI k).toNatClampNeg q17)))) else (some σ3)) := by
    unfold f_X9_getsWet
    rw [ib_n hk (by omega), ck_t, ck_t, cl_n (by omega), c8 hC k hk, ib_n (by omega) (by omega), ck_t, ck_t, cl_n (by omega), c10 hC k hk, c4 hC _ (by omega), nx_or, hx, lt_d, e1, bi]
    simp only [lt_d]
  have P2 : f_X12_getsWet (nI k) τ = (if nI v = (1 : Int32) then (f_X12_its (nI k) (3 : Int32) τ3).bind (fun q12 => (f_X12_held (q12 + (1 : Int32)) (0 : Int32) (20 : Int32) τ3).bind (fun q13 => (f_X12_lays1 (nI k) (3 : Int32) q13 τ3).bind (fun q14 => (some q14)))) else (if nI v = (2 : Int32) then (f_X12_lays1 (nI k) (3 : Int32) (0 : Int32) τ3).bind (fun q11 => (some q11)) else (if nI v = (3 : Int32) then (f_X12_goesAway (nI k) τ3).bind (fun q10 => (some q10)) else (some τ3)))) := by
    unfold f_X12_getsWet
    rw [show f_X12_its (nI k) 4 τ = some (nI (u 10 k)) from its_n hM k 4 hk (by omega), bi, show f_X12_its (nI k) 2 τ = some (nI (u 8 k)) from its_n hM k 2 hk (by omega), bi, show (60 : Int32) + nI (u 8 k) = nI (60 + u 8 k) from nI_add 60 _, ib_n (by omega) (by omega), ck_t, cl_n (by omega), d4 hM _ (by omega), nx_or, hx, show f_X12_lays1 (nI k) 4 (nI x) τ = some (ab_u τ 86 (ix 10 k) (nI x)) from lays_n k 4 _ hk (by omega), bi, e2, bi, lt_d]
  have b9 := bw9 B1 hk
  have hv4 : v = 0 ∨ v = 1 ∨ v = 2 ∨ v = 3 := by omega
  rcases hv4 with rfl | rfl | rfl | rfl
  · refine ⟨uu u 10 k x, σ3, τ3, ?_, ?_, C3, M3, B1, R1, K1, F3, G3⟩
    · rw [P1, if_neg (by decide), if_neg (by decide), if_neg (by decide)]
    · rw [P2, if_neg (by decide), if_neg (by decide), if_neg (by decide)]
  · generalize hs : (uu u 10 k x) 9 k = s at b9
    refine ⟨uu (uu u 10 k x) 9 k (min 20 (s + 1)), ab_u σ3 (w + 9) k (nI (min 20 (s + 1))), ab_u τ3 86 (ix 9 k) (nI (min 20 (s + 1))), ?_, ?_, wC_set C3, wM_set hv9 M3, rB_set B1 (by show min 20 (s + 1) ≤ 20; omega), fun r hr => ?_, fun j => ?_, frC_t F3 (frC_u σ3 (by omega) (by omega)), frM_t G3 (frM_u τ3 hv9)⟩
    · rw [P1, if_pos (by decide), ib_n hk (by omega), ck_t, cl_n (by omega), c9 C3 k hk, hs]
      unfold f_J9_min_7cf53
      by_cases z : s + 1 < 20
      · rw [if_pos (show nI s + 1 < (20 : Int32) from by rw [nI_1]; exact nI_lt (b := 20) z (by omega)), bi, ck_t, nI_1, Nat.min_eq_right (by omega)]
      · rw [if_neg (show ¬ nI s + 1 < (20 : Int32) from by rw [nI_1]; exact nI_nlt (b := 20) (by omega) (by omega)), bi, ck_t, Nat.min_eq_left (by omega)]; rfl
    · rw [P2, if_pos (by decide), show f_X12_its (nI k) 3 τ3 = some (nI s) from by rw [← hs]; exact its_n M3 k 3 hk (by omega), bi]
      unfold f_X12_held
      rw [nI_1, if_pos (show (0 : Int32) ≤ nI (s + 1) from nI_pos' (by omega))]
      by_cases z : s + 1 ≤ 20
      · rw [if_pos (show nI (s + 1) ≤ (20 : Int32) from nI_le (b := 20) z (by omega)), bi, show f_X12_lays1 (nI k) 3 (nI (s + 1)) τ3 = some (ab_u τ3 86 (ix 9 k) (nI (s + 1))) from lays_n k 3 _ hk (by omega), bi, Nat.min_eq_right z]
      · rw [if_neg (show ¬ nI (s + 1) ≤ (20 : Int32) from nI_ge (a := 20) (by omega) (by omega)), bi, show f_X12_lays1 (nI k) 3 20 τ3 = some (ab_u τ3 86 (ix 9 k) 20) from lays_n k 3 _ hk (by omega), bi, Nat.min_eq_left (by omega)]; rfl
    · rw [← R1 r hr]; funext j; unfold uu; rw [if_neg (by omega)]
    · have := K1 j
      rw [show (uu (uu u 10 k x) 9 k (min 20 (s + 1))) 10 j = (uu u 10 k x) 10 j from by show (if 10 = 9 ∧ j = k then _ else _) = _; rw [if_neg (by omega)]]
      exact this
  · refine ⟨uu (uu u 10 k x) 9 k 0, ab_u σ3 (w + 9) k (nI 0), ab_u τ3 86 (ix 9 k) (nI 0), ?_, ?_, wC_set C3, wM_set hv9 M3, rB_set B1 (Nat.zero_le _), fun r hr => ?_, fun j => ?_, frC_t F3 (frC_u σ3 (by omega) (by omega)), frM_t G3 (frM_u τ3 hv9)⟩
    · rw [P1, if_neg (by decide), if_pos (by decide), ib_n hk (by omega), ck_t, cl_n (by omega)]; rfl
    · rw [P2, if_neg (by decide), if_pos (by decide), show f_X12_lays1 (nI k) 3 0 τ3 = some (ab_u τ3 86 (ix 9 k) (nI 0)) from lays_n k 3 _ hk (by omega), bi]
    · rw [← R1 r hr]; funext j; unfold uu; rw [if_neg (by omega)]
    · have := K1 j
      rw [show (uu (uu u 10 k x) 9 k 0) 10 j = (uu u 10 k x) 10 j from by show (if 10 = 9 ∧ j = k then _ else _) = _; rw [if_neg (by omega)]]
      exact this
  · have e8 : (uu u 10 k x) 8 k = u 8 k := by unfold uu; rw [if_neg (by omega)]
    obtain ⟨t, ht1, ht2⟩ := hi_ex ((uu u 10 k x) 1) (c := u 8 k) (by omega)
    refine ⟨uu (uu u 10 k x) 8 k t, ab_u σ3 (w + 8) k (nI t), ab_u τ3 86 (ix 8 k) (nI t), ?_, ?_, wC_set C3, wM_set hv8 M3, rB_set B1 (by show t ≤ 15; omega), fun r hr => ?_, fun j => ?_, frC_t F3 (frC_u σ3 (by omega) (by omega)), frM_t G3 (frM_u τ3 hv8)⟩
    · have hh : f_X9_highestBeside w (nI (u 8 k)) σ3 = some (nI t) := by
        unfold f_X9_highestBeside
        rw [lt_d, show (4 : Int32) * nI (u 8 k) = nI (4 * u 8 k) from pk_mul 4 _]
        have := cH C3 B1 (c := u 8 k) (by omega) (fun k13 => some k13) 4 (4 * u 8 k) ab_fu none (by omega) (by omega) (by unfold ab_fu; omega) (fun k hk => by cases hk)
        rw [cf_mf _ _ (by omega), ht1] at this
        exact this
      rw [P1, if_neg (by decide), if_neg (by decide), if_pos (by decide), ib_n hk (by omega), ck_t, cl_n (by omega), c8 C3 k hk, e8, hh, bi, ck_t]
    · have hh : f_X12_goesAway (nI k) τ3 = some (ab_u τ3 86 (ix 8 k) (nI t)) := by
        unfold f_X12_goesAway
        rw [show f_X12_its (nI k) 2 τ3 = some (nI (u 8 k)) from by rw [← e8]; exact its_n M3 k 2 hk (by omega), bi]
        have := mH (nI k) M3 B1 (c := u 8 k) (by omega) (fun k13 => (f_X12_lays1 (nI k) (2 : Int32) k13 τ3).bind (fun q14 => (some q14))) 16 0 ab_fu none (by omega) (by unfold ab_fu; omega) (fun k hk => by cases hk)
        rw [ht1] at this
        refine this.trans ?_
        rw [eto_s, show f_X12_lays1 (nI k) 2 (nI t) τ3 = some (ab_u τ3 86 (ix 8 k) (nI t)) from lays_n k 2 _ hk (by omega), bi]
      rw [P2, if_neg (by decide), if_neg (by decide), if_pos (by decide), hh, bi]
    · rw [← R1 r hr]; funext j; unfold uu; rw [if_neg (by omega)]
    · have := K1 j
      rw [show (uu (uu u 10 k x) 8 k t) 10 j = (uu u 10 k x) 10 j from by show (if 10 = 8 ∧ j = k then _ else _) = _; rw [if_neg (by omega)]]
      exact this
