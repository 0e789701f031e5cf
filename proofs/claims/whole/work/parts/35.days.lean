/-! DAYS -/
def dy_wet (u : Nat → Nat → Nat) (k : Nat) : Bool := decide (u 9 k < u 2 (u 8 k))
theorem wetC {u : Nat → Nat → Nat} {σ : ab_F} {w q k : Nat} (hC : wC u σ w) (hB : rB q u) (hk : k < 8) : f_X9_isWet w (nI k) σ = some (dy_wet u k) := by
  have b8 := bw8 hB hk
  have b9 := bw9 hB hk
  have b2 := bw2 hB (j := u 8 k) (by omega)
  unfold f_X9_isWet dy_wet
  rw [ib_n hk (by omega), ck_t, ck_t, cl_n (by omega), c8 hC k hk, ib_n (by omega) (by omega), ck_t, cl_n (by omega), c2 hC _ (by omega), c9 hC k hk]
  by_cases z : u 2 (u 8 k) ≤ u 9 k
  · rw [if_pos (nI_le z (by omega)), decide_eq_false (by omega)]
  · rw [if_neg (nI_ge (by omega) (by omega)), decide_eq_true (by omega)]
theorem wetM {u : Nat → Nat → Nat} {τ : ab_F} {q k : Nat} (hM : rM u (τ 86)) (hB : rB q u) (hk : k < 8) : f_X12_isWet (nI k) τ = some (dy_wet u k) := by
  have b8 := bw8 hB hk
  have b9 := bw9 hB hk
  have b2 := bw2 hB (j := u 8 k) (by omega)
  unfold f_X12_isWet dy_wet
  rw [show f_X12_its (nI k) 2 τ = some (nI (u 8 k)) from its_n hM k 2 hk (by omega), bi, show (28 : Int32) + nI (u 8 k) = nI (28 + u 8 k) from nI_add 28 _, ib_n (by omega) (by omega), ck_t, show f_X12_its (nI k) 3 τ = some (nI (u 9 k)) from its_n hM k 3 hk (by omega), bi, cl_n (by omega), d2 hM _ (by omega)]
  by_cases z : u 2 (u 8 k) ≤ u 9 k
  · rw [if_pos (nI_le z (by omega)), decide_eq_false (by omega)]
  · rw [if_neg (nI_ge (by omega) (by omega)), decide_eq_true (by omega)]
theorem or_tr {a b c : Nat} (h1 : a ||| b = b) (h2 : b ||| c = c) : a ||| c = c := by rw [← h2, ← Nat.or_assoc, h1]
theorem uu_ne {u : Nat → Nat → Nat} {r i v r2 : Nat} (h : r2 ≠ r) : uu u r i v r2 = u r2 := by
  funext j; unfold uu; rw [if_neg (fun q => h q.1)]
theorem ww_2 (u : Nat → Nat → Nat) (x : Nat → Nat) : ww u x 2 = x := if_pos rfl
theorem rB_mono {d d2 : Nat} {u : Nat → Nat → Nat} (h : rB d u) (hd : d ≤ d2) : rB d2 u := by
  intro r j hj
  have := h r j hj
  unfold mx at this ⊢
  by_cases h0 : r = 0
  · rw [if_pos h0] at this ⊢
    by_cases h3 : j = 3
    · rw [if_pos h3] at this ⊢; omega
    · rw [if_neg h3] at this ⊢; exact this
  · rw [if_neg h0] at this ⊢; exact this
theorem rB_day {q : Nat} {u : Nat → Nat → Nat} (h : rB q u) : rB (q + 1) (uu u 0 3 (u 0 3 + 1)) := by
  have := b3 h
  exact rB_set (rB_mono h (by omega)) (show u 0 3 + 1 ≤ q + 1 by omega)
def SM (w q : Nat) (u : Nat → Nat → Nat) (σ τ : ab_F) : Prop := wC u σ w ∧ rM u (τ 86) ∧ rB q u ∧ TX σ τ
/-- the people's part of a DAY -/
theorem peL {w q : Nat} (hw : 38 ≤ w) (hq : q < 2 ^ 30) : ∀ d i n1 n2 (u : Nat → Nat → Nat) (σ τ : ab_F), i + d = u 0 11 → d < n1 → d < n2 → SM w q u σ τ → ∃ (u2 : Nat → Nat → Nat) (σ2 τ2 : ab_F), (∀ K, f_X9_dayGoes_L6 w K n1 (nI i) σ = K σ2) ∧ (∀ K, f_X12_day1_L80 K n2 (nI i) τ = K τ2) ∧ SM w q u2 σ2 τ2 ∧ (∀ r, r ≤ 7 → u2 r = u r) ∧ (∀ j, u 10 j ||| u2 10 j = u2 10 j) ∧ frC w σ σ2 ∧ frM τ τ2 := by
  intro d
  induction d with
  | zero =>
    intro i n1 n2 u σ τ h1 h2 h3 hS
    obtain ⟨m1, rfl⟩ : ∃ m, n1 = m + 1 := ⟨n1 - 1, by omega⟩
    obtain ⟨m2, rfl⟩ : ∃ m, n2 = m + 1 := ⟨n2 - 1, by omega⟩
    obtain ⟨hC, hM, hB, hT⟩ := hS
    have hp := b11 hB
    refine ⟨u, σ, τ, fun K => ?_, fun K => ?_, ⟨hC, hM, hB, hT⟩, fun _ _ => rfl, fun j => Nat.or_self _, frC_r _ _, frM_r _⟩
    · rw [f_X9_dayGoes_L6, c0_11 hC, if_pos (nI_le (by omega) (by omega))]
    · rw [f_X12_day1_L80, d0_11 hM, if_pos (nI_le (by omega) (by omega))]
  | succ d ih =>
    intro i n1 n2 u σ τ h1 h2 h3 hS
    obtain ⟨m1, rfl⟩ : ∃ m, n1 = m + 1 := ⟨n1 - 1, by omega⟩
    obtain ⟨m2, rfl⟩ : ∃ m, n2 = m + 1 := ⟨n2 - 1, by omega⟩
    obtain ⟨hC, hM, hB, hT⟩ := hS
    have hp := b11 hB
    have hi : i < 8 := by omega
    have e1 := wetC hC hB hi
    have e2 := wetM hM hB hi
    cases hwt : dy_wet u i with
    | false =>
      rw [hwt] at e1 e2
      obtain ⟨u2, σ2, τ2, t1, t2, t3⟩ := ih (i + 1) m1 m2 u σ τ (by omega) (by omega) (by omega) ⟨hC, hM, hB, hT⟩
      refine ⟨u2, σ2, τ2, fun K => ?_, fun K => ?_, t3⟩
      · rw [f_X9_dayGoes_L6, c0_11 hC, if_neg (nI_ge (by omega) (by omega)), gs_f e1, lt_d, nI_1]; exact t1 K
      · rw [f_X12_day1_L80, d0_11 hM, if_neg (nI_ge (by omega) (by omega)), gs_f e2, lt_d, nI_1]; exact t2 K
    | true =>
      rw [hwt] at e1 e2
      obtain ⟨u1, σ1, τ1, g1, g2, g3, g4, g5, g6, g7, g8, g9⟩ := wetR hw hq hC hM hB hi hT
      have h11 : u1 0 11 = u 0 11 := by rw [g6 0 (by omega)]
      obtain ⟨u2, σ2, τ2, t1, t2, t3, t4, t5, t6, t7⟩ := ih (i + 1) m1 m2 u1 σ1 τ1 (by omega) (by omega) (by omega) ⟨g3, g4, g5, TX_fr hw hT g8 g9⟩
      refine ⟨u2, σ2, τ2, fun K => ?_, fun K => ?_, t3, fun r hr => by rw [t4 r hr, g6 r hr], fun j => or_tr (g7 j) (t5 j), frC_t g8 t6, frM_t g9 t7⟩
      · rw [f_X9_dayGoes_L6, c0_11 hC, if_neg (nI_ge (by omega) (by omega)), gs_t e1, g1, bi, lt_d, nI_1]; exact t1 K
      · rw [f_X12_day1_L80, d0_11 hM, if_neg (nI_ge (by omega) (by omega)), gs_t e2, g2, bi, lt_d, nI_1]; exact t2 K
/-- one DAY: what stays, what comes -/
def DS (u u2 : Nat → Nat → Nat) : Prop := u2 0 = uu u 0 3 (u 0 3 + 1) 0 ∧ u2 1 = u 1 ∧ u2 2 = ris u ∧ u2 3 = u 3 ∧ u2 4 = u 4 ∧ u2 5 = u 5 ∧ u2 6 = u 6 ∧ u2 7 = u 7 ∧ ∀ j, u 10 j ||| u2 10 j = u2 10 j
theorem dayR {w q : Nat} {u : Nat → Nat → Nat} {σ τ : ab_F} (hw : 38 ≤ w) (hq : q < 2 ^ 30) (hS : SM w q u σ τ) : ∃ (u2 : Nat → Nat → Nat) (σ2 τ2 : ab_F), f_X9_dayGoes w σ = some σ2 ∧ f_X12_day1 τ = some τ2 ∧ SM w (q + 1) u2 σ2 τ2 ∧ DS u u2 ∧ frC w σ σ2 ∧ frM τ τ2 := by
  obtain ⟨hC, hM, hB, hT⟩ := hS
  obtain ⟨σ1, a1, a2, a3⟩ := cRise hq hC hB
  obtain ⟨τ1, b1, b2, b3x, b4x⟩ := mRise hq hM hB
  have F1 : frC w σ σ1 := ⟨fun e h _ _ => a3 e (by omega), by rw [a3 w (by omega)]⟩
  have G1 : frM τ τ1 := ⟨fun e h _ _ => b3x e h, fun j hj => b4x j (by omega)⟩
  have B1 := rB_ris hB
  have hp := b11 hB
  obtain ⟨u2, σ2, τ2, t1, t2, ⟨tC, tM, tB, tT⟩, t4, t5, t6, t7⟩ := peL hw hq (u 0 11) 0 ab_fu ab_fu (ww u (ris u)) σ1 τ1 (show 0 + u 0 11 = u 0 11 by omega) (by unfold ab_fu; omega) (by unfold ab_fu; omega) ⟨a2, b2, B1, TX_fr hw hT F1 G1⟩
  have F2 : frC w σ2 (ab_u σ2 w 3 (nI (u2 0 3 + 1))) := frC_u (r := 0) σ2 (by omega) (by omega)
  have G2 : frM τ2 (ab_u τ2 86 0 (nI (u2 0 3 + 1))) := frM_u (r := 0) (i := 3) τ2 v3
  refine ⟨uu u2 0 3 (u2 0 3 + 1), ab_u σ2 w 3 (nI (u2 0 3 + 1)), ab_u τ2 86 0 (nI (u2 0 3 + 1)), ?_, ?_, ⟨wC_set (r := 0) tC, wM_set (r := 0) (i := 3) v3 tM, rB_day tB, TX_fr hw tT F2 G2⟩, ?_, frC_t (frC_t F1 t6) F2, frM_t (frM_t G1 t7) G2⟩
  · unfold f_X9_dayGoes
    rw [a1, bi]
    refine (t1 _).trans ?_
    show some (ab_u σ2 w 3 (σ2 w 3 + 1)) = _
    rw [c0_3 tC, nI_1]
  · rw [b1]
    refine (t2 _).trans ?_
    show some (ab_u τ2 86 0 (τ2 86 0 + 1)) = _
    rw [d0_3 tM, nI_1]
  · have e : ∀ r, r ≠ 0 → uu u2 0 3 (u2 0 3 + 1) r = u2 r := fun r hr => uu_ne hr
    have e0 : u2 0 = u 0 := t4 0 (by omega)
    refine ⟨?_, (e 1 (by omega)).trans (t4 1 (by omega)), (e 2 (by omega)).trans ((t4 2 (by omega)).trans (ww_2 _ _)), (e 3 (by omega)).trans (t4 3 (by omega)), (e 4 (by omega)).trans (t4 4 (by omega)), (e 5 (by omega)).trans (t4 5 (by omega)), (e 6 (by omega)).trans (t4 6 (by omega)), (e 7 (by omega)).trans (t4 7 (by omega)), fun j => ?_⟩
    · funext j
      show (if 0 = 0 ∧ j = 3 then u2 0 3 + 1 else u2 0 j) = (if 0 = 0 ∧ j = 3 then u 0 3 + 1 else u 0 j)
      rw [e0]
    · rw [e 10 (by omega)]
      exact t5 j
/-- the model alone -/
def fakeC (u : Nat → Nat → Nat) (ρ : ab_F) : ab_F := fun c j => if 49 ≤ c ∧ c ≤ 59 then nI (u (c - 49) j) else ρ c j
theorem fakeC_w (u : Nat → Nat → Nat) (ρ : ab_F) : wC u (fakeC u ρ) 49 := by
  intro r j hj
  have hr : r ≤ 10 := by rcases hj with q | q | q | q <;> omega
  unfold fakeC
  rw [if_pos (by omega), Nat.add_sub_cancel_left]
theorem fakeC_e (u : Nat → Nat → Nat) (ρ : ab_F) {c : Nat} (h : c < 49) : fakeC u ρ c = ρ c := by
  funext j; unfold fakeC; rw [if_neg (by omega)]
theorem fakeC_T {u : Nat → Nat → Nat} {ρ τ : ab_F} (h : TX ρ τ) : TX (fakeC u ρ) τ := by
  unfold TX
  rw [fakeC_e u ρ (by omega : 32 < 49), fakeC_e u ρ (by omega : 33 < 49), fakeC_e u ρ (by omega : 35 < 49), fakeC_e u ρ (by omega : 36 < 49)]
  exact h
theorem TX_m {ρ τ τ2 : ab_F} (h : TX ρ τ) (f : frM τ τ2) : TX ρ τ2 := TX_fr (w := 38) (by omega) h (frC_r _ _) f
theorem dayM {q : Nat} {u : Nat → Nat → Nat} {τ ρ : ab_F} (hq : q < 2 ^ 30) (hM : rM u (τ 86)) (hB : rB q u) (hT : TX ρ τ) : ∃ (u2 : Nat → Nat → Nat) (τ2 : ab_F), f_X12_day1 τ = some τ2 ∧ rM u2 (τ2 86) ∧ rB (q + 1) u2 ∧ DS u u2 ∧ frM τ τ2 := by
  obtain ⟨u2, _, τ2, _, g2, ⟨_, gM, gB, _⟩, gD, _, gf⟩ := dayR (w := 49) (by omega) hq ⟨fakeC_w u ρ, hM, hB, fakeC_T hT⟩
  exact ⟨u2, τ2, g2, gM, gB, gD, gf⟩
def SD (u u2 : Nat → Nat → Nat) : Prop := u2 1 = u 1 ∧ u2 3 = u 3 ∧ u2 4 = u 4 ∧ u2 5 = u 5 ∧ u2 6 = u 6 ∧ u2 7 = u 7 ∧ u2 0 4 = u 0 4 ∧ u2 0 11 = u 0 11 ∧ ∀ j, u 10 j ||| u2 10 j = u2 10 j
theorem SD_r (u : Nat → Nat → Nat) : SD u u := ⟨rfl, rfl, rfl, rfl, rfl, rfl, rfl, rfl, fun _ => Nat.or_self _⟩
theorem SD_t {a b c : Nat → Nat → Nat} (h : SD a b) (g : SD b c) : SD a c := by
  obtain ⟨h1, h2, h3, h4, h5, h6, h7, h8, h9⟩ := h
  obtain ⟨g1, g2, g3, g4, g5, g6, g7, g8, g9⟩ := g
  exact ⟨g1.trans h1, g2.trans h2, g3.trans h3, g4.trans h4, g5.trans h5, g6.trans h6, g7.trans h7, g8.trans h8, fun j => or_tr (h9 j) (g9 j)⟩
theorem SD_d {u u2 : Nat → Nat → Nat} (h : DS u u2) : SD u u2 := by
  obtain ⟨h0, h1, h2, h3, h4, h5, h6, h7, h8⟩ := h
  refine ⟨h1, h3, h4, h5, h6, h7, ?_, ?_, h8⟩
  · rw [h0]; unfold uu; rw [if_neg (by omega)]
  · rw [h0]; unfold uu; rw [if_neg (by omega)]
theorem DS_3 {u u2 : Nat → Nat → Nat} (h : DS u u2) : u2 0 3 = u 0 3 + 1 := by
  rw [h.1]; unfold uu; rw [if_pos ⟨rfl, rfl⟩]
theorem daL {w : Nat} (hw : 38 ≤ w) (N : Nat) (hN : N < 2 ^ 30) : ∀ d i n1 n2 q (u : Nat → Nat → Nat) (σ τ : ab_F), i + d = N → d < n1 → d < n2 → q + d < 2 ^ 30 → SM w q u σ τ → ∃ (u2 : Nat → Nat → Nat) (σ2 τ2 : ab_F), (∀ K, f_X9_daysGo_L2 w (nI N) K n1 (nI i) σ = K σ2) ∧ (∀ K, f_X12_goesOn_L2 (nI N) K n2 (nI i) τ = K τ2) ∧ SM w (q + d) u2 σ2 τ2 ∧ SD u u2 ∧ u2 0 3 = u 0 3 + d ∧ frC w σ σ2 ∧ frM τ τ2 := by
  intro d
  induction d with
  | zero =>
    intro i n1 n2 q u σ τ h1 h2 h3 h4 hS
    obtain ⟨m1, rfl⟩ : ∃ m, n1 = m + 1 := ⟨n1 - 1, by omega⟩
    obtain ⟨m2, rfl⟩ : ∃ m, n2 = m + 1 := ⟨n2 - 1, by omega⟩
    refine ⟨u, σ, τ, fun K => ?_, fun K => ?_, hS, SD_r u, rfl, frC_r _ _, frM_r _⟩
    · rw [f_X9_daysGo_L2, if_pos (nI_le (by omega) (by omega))]
    · rw [f_X12_goesOn_L2, if_pos (nI_le (by omega) (by omega))]
  | succ d ih =>
    intro i n1 n2 q u σ τ h1 h2 h3 h4 hS
    obtain ⟨m1, rfl⟩ : ∃ m, n1 = m + 1 := ⟨n1 - 1, by omega⟩
    obtain ⟨m2, rfl⟩ : ∃ m, n2 = m + 1 := ⟨n2 - 1, by omega⟩
    obtain ⟨u1, σ1, τ1, g1, g2, g3, g4, g5, g6⟩ := dayR hw (by omega) hS
    obtain ⟨u2, σ2, τ2, t1, t2, t3, t4, t5, t6, t7⟩ := ih (i + 1) m1 m2 (q + 1) u1 σ1 τ1 (by omega) (by omega) (by omega) (by omega) g3
    have h3x := DS_3 g4
    refine ⟨u2, σ2, τ2, fun K => ?_, fun K => ?_, by rw [show q + (d + 1) = q + 1 + d by omega]; exact t3, SD_t (SD_d g4) t4, by omega, frC_t g5 t6, frM_t g6 t7⟩
    · rw [f_X9_daysGo_L2, if_neg (nI_ge (by omega) (by omega)), g1, bi, lt_d, nI_1]; exact t1 K
    · rw [f_X12_goesOn_L2, if_neg (nI_ge (by omega) (by omega)), g2, bi, lt_d, nI_1]; exact t2 K
theorem daysR {w N q : Nat} {u : Nat → Nat → Nat} {σ τ : ab_F} (hw : 38 ≤ w) (hN : N ≤ 60) (hq : q < 2 ^ 29) (hS : SM w q u σ τ) : ∃ (u2 : Nat → Nat → Nat) (σ2 τ2 : ab_F), f_X9_daysGo w (nI N) σ = some σ2 ∧ f_X12_goesOn (nI N) τ = some τ2 ∧ SM w (q + N) u2 σ2 τ2 ∧ SD u u2 ∧ u2 0 3 = u 0 3 + N ∧ frC w σ σ2 ∧ frM τ τ2 := by
  obtain ⟨u2, σ2, τ2, t1, t2, t3⟩ := daL hw N (by omega) N 0 ab_fu ab_fu q u σ τ (by omega) (by unfold ab_fu; omega) (by unfold ab_fu; omega) (by omega) hS
  exact ⟨u2, σ2, τ2, by unfold f_X9_daysGo; exact t1 _, by unfold f_X12_goesOn; exact t2 _, t3⟩
/-- the model alone, more DAYS -/
theorem daM {N : Nat} (hN : N < 2 ^ 30) {d i n2 q : Nat} {u : Nat → Nat → Nat} {τ ρ : ab_F} (h1 : i + d = N) (h3 : d < n2) (h4 : q + d < 2 ^ 30) (hM : rM u (τ 86)) (hB : rB q u) (hT : TX ρ τ) : ∃ (u2 : Nat → Nat → Nat) (τ2 : ab_F), (∀ K, f_X12_goesOn_L2 (nI N) K n2 (nI i) τ = K τ2) ∧ rM u2 (τ2 86) ∧ rB (q + d) u2 ∧ SD u u2 ∧ frM τ τ2 := by
  obtain ⟨u2, _, τ2, _, t2, ⟨_, tM, tB, _⟩, t4, _, _, t7⟩ := daL (w := 49) (by omega) N hN d i (d + 1) n2 q u (fakeC u ρ) τ h1 (by omega) h3 h4 ⟨fakeC_w u ρ, hM, hB, fakeC_T hT⟩
  exact ⟨u2, τ2, t2, tM, tB, t4, t7⟩
/-! water alone -/
theorem wgL {w : Nat} (N : Nat) (hN : N < 2 ^ 30) (ρ : ab_F) : ∀ d i n1 n2 q (v u : Nat → Nat → Nat) (σ τ : ab_F), i + d = N → d < n1 → d < n2 → q + d < 2 ^ 30 → wC v σ w → rB q v → rM u (τ 86) → rB q u → (∀ r, r ≤ 5 → v r = u r) → TX ρ τ → ∃ (v2 u2 : Nat → Nat → Nat) (σ2 τ2 : ab_F), (∀ K, f_X9_waterGoes_L2 w (nI N) K n1 (nI i) σ = K σ2) ∧ (∀ K, f_X12_goesOn_L2 (nI N) K n2 (nI i) τ = K τ2) ∧ wC v2 σ2 w ∧ rM u2 (τ2 86) ∧ v2 2 = u2 2 ∧ rB (q + d) u2 ∧ frC w σ σ2 ∧ frM τ τ2 := by
  intro d
  induction d with
  | zero =>
    intro i n1 n2 q v u σ τ h1 h2 h3 h4 hC hBv hM hB hvu hT
    obtain ⟨m1, rfl⟩ : ∃ m, n1 = m + 1 := ⟨n1 - 1, by omega⟩
    obtain ⟨m2, rfl⟩ : ∃ m, n2 = m + 1 := ⟨n2 - 1, by omega⟩
    refine ⟨v, u, σ, τ, fun K => ?_, fun K => ?_, hC, hM, hvu 2 (by omega), hB, frC_r _ _, frM_r _⟩
    · rw [f_X9_waterGoes_L2, if_pos (nI_le (by omega) (by omega))]
    · rw [f_X12_goesOn_L2, if_pos (nI_le (by omega) (by omega))]
  | succ d ih =>
    intro i n1 n2 q v u σ τ h1 h2 h3 h4 hC hBv hM hB hvu hT
    obtain ⟨m1, rfl⟩ : ∃ m, n1 = m + 1 := ⟨n1 - 1, by omega⟩
    obtain ⟨m2, rfl⟩ : ∃ m, n2 = m + 1 := ⟨n2 - 1, by omega⟩
    obtain ⟨σ1, a1, a2, a3⟩ := cRise (by omega) hC hBv
    obtain ⟨u1, τ1, g2, gM, gB, gD, gf⟩ := dayM (by omega) hM hB hT
    have F1 : frC w σ σ1 := ⟨fun e h _ _ => a3 e (by omega), by rw [a3 w (by omega)]⟩
    have F2 : frC w σ1 (ab_u σ1 w 3 (nI ((ww v (ris v)) 0 3 + 1))) := frC_u (r := 0) σ1 (by omega) (by omega)
    have h0 := hvu 0 (by omega)
    obtain ⟨v2, u2, σ2, τ2, t1, t2, t3, t4, t5, t6, t7, t8⟩ := ih (i + 1) m1 m2 (q + 1) (uu (ww v (ris v)) 0 3 ((ww v (ris v)) 0 3 + 1)) u1 (ab_u σ1 w 3 (nI ((ww v (ris v)) 0 3 + 1))) τ1 (by omega) (by omega) (by omega) (by omega) (wC_set (r := 0) a2) (rB_day (rB_ris hBv)) gM gB (by
      intro r hr
      have hr6 : r = 0 ∨ r = 1 ∨ r = 2 ∨ r = 3 ∨ r = 4 ∨ r = 5 := by omega
      rcases hr6 with rfl | rfl | rfl | rfl | rfl | rfl
      · rw [gD.1]
        funext j
        show (if 0 = 0 ∧ j = 3 then v 0 3 + 1 else v 0 j) = (if 0 = 0 ∧ j = 3 then u 0 3 + 1 else u 0 j)
        rw [h0]
      · exact (uu_ne (by omega)).trans ((hvu 1 (by omega)).trans gD.2.1.symm)
      · exact (uu_ne (by omega)).trans ((ww_2 _ _).trans ((ris_congr hvu).trans gD.2.2.1.symm))
      · exact (uu_ne (by omega)).trans ((hvu 3 (by omega)).trans gD.2.2.2.1.symm)
      · exact (uu_ne (by omega)).trans ((hvu 4 (by omega)).trans gD.2.2.2.2.1.symm)
      · exact (uu_ne (by omega)).trans ((hvu 5 (by omega)).trans gD.2.2.2.2.2.1.symm)) (TX_m hT gf)
    refine ⟨v2, u2, σ2, τ2, fun K => ?_, fun K => ?_, t3, t4, t5, by rw [show q + (d + 1) = q + 1 + d by omega]; exact t6, frC_t (frC_t F1 F2) t7, frM_t gf t8⟩
    · rw [f_X9_waterGoes_L2, if_neg (nI_ge (by omega) (by omega)), a1, bi, lt_d, lt_d, c0_3 a2, nI_1, nI_1]; exact t1 K
    · rw [f_X12_goesOn_L2, if_neg (nI_ge (by omega) (by omega)), g2, bi, lt_d, nI_1]; exact t2 K
theorem watR {w N q : Nat} {v u : Nat → Nat → Nat} {σ τ ρ : ab_F} (hN : N ≤ 60) (hq : q < 2 ^ 29) (hC : wC v σ w) (hBv : rB q v) (hM : rM u (τ 86)) (hB : rB q u) (hvu : ∀ r, r ≤ 5 → v r = u r) (hT : TX ρ τ) : ∃ (v2 u2 : Nat → Nat → Nat) (σ2 τ2 : ab_F), f_X9_waterGoes w (nI N) σ = some σ2 ∧ f_X12_goesOn (nI N) τ = some τ2 ∧ wC v2 σ2 w ∧ rM u2 (τ2 86) ∧ v2 2 = u2 2 ∧ rB (q + N) u2 ∧ frC w σ σ2 ∧ frM τ τ2 := by
  obtain ⟨v2, u2, σ2, τ2, t1, t2, t3⟩ := wgL N (by omega) ρ N 0 ab_fu ab_fu q v u σ τ (by omega) (by unfold ab_fu; omega) (by unfold ab_fu; omega) (by omega) hC hBv hM hB hvu hT
  exact ⟨v2, u2, σ2, τ2, by unfold f_X9_waterGoes; exact t1 _, by unfold f_X12_goesOn; exact t2 _, t3⟩
