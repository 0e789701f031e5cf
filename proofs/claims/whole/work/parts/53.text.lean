/-! TEXT -/
theorem rS_le {k1 k2 k3 a b c : Int32} {d d2 : Nat} (h : rS k1 k2 k3 a b c d d2) : d2 ≤ d + 1 := by
  rcases h with ⟨_, _, _, _, _, h⟩ | ⟨_, _, _, h⟩ | ⟨_, _, _, h⟩ | ⟨_, _, _, h⟩ | ⟨_, _, _, h⟩ | ⟨_, _, _, _, _, _, h⟩ <;> omega
theorem dp_le {k1 k2 k3 : Int32} {a b c : Nat → Int32} {k : Nat} {dp : Nat → Nat} (h0 : dp 0 = 0) (h : ∀ i, i < k → rS k1 k2 k3 (a i) (b i) (c i) (dp i) (dp (i + 1))) : ∀ i, i ≤ k → dp i ≤ i := by
  intro i
  induction i with
  | zero => intro _; omega
  | succ i ih =>
    intro hi
    have h1 := rS_le (h i (by omega))
    have h2 := ih (by omega)
    omega
theorem tx_N0 : rd_N (nI 0) 4 121 107 100 := by
  refine ⟨fun b x hb => (ix_t 4 _ x (fun _ _ => 0)).trans (ix_4 b hb), fun b y hb hy => ?_, fun y hy => ?_, by omega, by omega, by omega⟩
  · have i1 : (nI b = (121 : Int32)) ↔ b = 121 := nI_eq (b := 121) (by omega) (by omega)
    have i2 : (nI b = (107 : Int32)) ↔ b = 107 := nI_eq (b := 107) (by omega) (by omega)
    have i3 : (nI b = (100 : Int32)) ↔ b = 100 := nI_eq (b := 100) (by omega) (by omega)
    unfold f_X12_isName
    rw [hy, if_pos (show nI 0 = (0 : Int32) from rfl)]
    by_cases e1 : b = 121
    · rw [if_pos (i1.mpr e1), decide_eq_true e1]; rfl
    rw [if_neg (fun z => e1 (i1.mp z)), decide_eq_false e1]
    by_cases e2 : b = 107
    · rw [if_pos (i2.mpr e2), decide_eq_true e2]; rfl
    rw [if_neg (fun z => e2 (i2.mp z)), decide_eq_false e2]
    by_cases e3 : b = 100
    · rw [if_pos (i3.mpr e3), decide_eq_true e3]; rfl
    rw [if_neg (fun z => e3 (i3.mp z)), decide_eq_false e3]; rfl
  · unfold f_X12_isName
    rw [hy, if_pos (show nI 0 = (0 : Int32) from rfl), if_neg (show ¬ (-1 : Int32) = 121 by decide), if_neg (show ¬ (-1 : Int32) = 107 by decide), if_neg (show ¬ (-1 : Int32) = 100 by decide)]
theorem tx_N1 : rd_N (nI 1) 5 116 103 100 := by
  refine ⟨fun b x hb => (ix_t 5 _ x (fun _ _ => 0)).trans (ix_5 b hb), fun b y hb hy => ?_, fun y hy => ?_, by omega, by omega, by omega⟩
  · have i1 : (nI b = (116 : Int32)) ↔ b = 116 := nI_eq (b := 116) (by omega) (by omega)
    have i2 : (nI b = (103 : Int32)) ↔ b = 103 := nI_eq (b := 103) (by omega) (by omega)
    have i3 : (nI b = (100 : Int32)) ↔ b = 100 := nI_eq (b := 100) (by omega) (by omega)
    unfold f_X12_isName
    rw [hy, if_neg (show ¬ nI 1 = (0 : Int32) by decide)]
    by_cases e1 : b = 116
    · rw [if_pos (i1.mpr e1), decide_eq_true e1]; rfl
    rw [if_neg (fun z => e1 (i1.mp z)), decide_eq_false e1]
    by_cases e2 : b = 103
    · rw [if_pos (i2.mpr e2), decide_eq_true e2]; rfl
    rw [if_neg (fun z => e2 (i2.mp z)), decide_eq_false e2]
    by_cases e3 : b = 100
    · rw [if_pos (i3.mpr e3), decide_eq_true e3]; rfl
    rw [if_neg (fun z => e3 (i3.mp z)), decide_eq_false e3]; rfl
  · unfold f_X12_isName
    rw [hy, if_neg (show ¬ nI 1 = (0 : Int32) by decide), if_neg (show ¬ (-1 : Int32) = 116 by decide), if_neg (show ¬ (-1 : Int32) = 103 by decide), if_neg (show ¬ (-1 : Int32) = 100 by decide)]
theorem tx_L {o k : Nat} (ho : o ≤ 241) (hk : k ≤ 60) : ∀ d i n (y : ab_F), i + d = 2 * k → d < n → y 85 7 = nI k → ∃ y2 : ab_F, (∀ K, f_X12_text_L101 (nI o) K n (nI i) y = K y2) ∧ (∀ c, c ≠ 86 → y2 c = y c) ∧ (∀ j, i ≤ j → j < 2 * k → y2 86 (o + 1 + j) = y 90 j) ∧ ∀ e, (e < o + 1 + i ∨ o + 1 + 2 * k ≤ e) → y2 86 e = y 86 e := by
  have e2 : (2 : Int32) * nI k = nI (2 * k) := pk_mul 2 k
  intro d
  induction d with
  | zero =>
    intro i n y h1 h2 h7
    obtain ⟨m, rfl⟩ : ∃ m, n = m + 1 := ⟨n - 1, by omega⟩
    refine ⟨y, fun K => ?_, fun _ _ => rfl, fun j h3 h4 => by omega, fun _ _ => rfl⟩
    rw [f_X12_text_L101, h7, e2, if_pos (nI_le (by omega) (by omega))]
  | succ d ih =>
    intro i n y h1 h2 h7
    obtain ⟨m, rfl⟩ : ∃ m, n = m + 1 := ⟨n - 1, by omega⟩
    have e1 : nI o + (1 : Int32) + nI i = nI (o + 1 + i) := by rw [nI_1, nI_add]
    obtain ⟨y2, t1, t2, t3, t4⟩ := ih (i + 1) m (ab_u y 86 (o + 1 + i) (y 90 i)) (by omega) (by omega) (by rw [ab_u_ne _ _ _ (by omega : (85 : Nat) ≠ 86)]; exact h7)
    refine ⟨y2, fun K => ?_, fun c hc => by rw [t2 c hc, ab_u_ne _ _ _ hc], fun j h3 h4 => ?_, fun e he => ?_⟩
    · rw [f_X12_text_L101, h7, e2, if_neg (nI_ge (by omega) (by omega)), ib_n (by omega) (by omega), ck_t, e1, ib_n (by omega) (by omega), ck_t, lt_d, lt_d, cl_n (by omega), cl_n (by omega), nI_1]; exact t1 K
    · by_cases q : j = i
      · subst q
        rw [t4 _ (by omega), u_rk]
      · rw [t3 j (by omega) h4, ab_u_ne _ _ _ (by omega : (90 : Nat) ≠ 86)]
    · rw [t4 e (by omega), u_rd _ _ _ _ _ (by omega)]
def tx_m (τ : ab_F) (us : Int32) : ab_F := ab_u (ab_u (ab_u (ab_u τ 85 8 us) 85 5 (0 : Int32)) 85 6 (0 : Int32)) 85 7 (0 : Int32)
theorem tx_R {us : Int32} {nm c1 c2 c3 L : Nat} {T : Nat → Nat} {σ τ : ab_F} (hN : rd_N us nm c1 c2 c3) (hL : L ≤ 60) (h9 : σ 9 1 = nI L) (h3 : τ 86 3 = nI L) (hT : ∀ i, i < L → T i < 256 ∧ σ 10 i = nI (T i) ∧ τ 86 (366 + i) = nI (T i)) : (∃ (x2 y2 : ab_F) (p : Nat), f_X7_read_9 nm σ = some (nI p, x2) ∧ p ≤ 60 ∧ y2 85 5 = nI p ∧ rd_x σ x2 ∧ rd_y (ab_u τ 85 8 us) y2 ∧ (f_GB 100 0 (tx_m τ us) = some (false, y2) ∨ (f_GB 100 0 (tx_m τ us) = some (true, y2) ∧ ¬ y2 85 5 = y2 86 3))) ∨ ∃ (x2 y2 : ab_F) (k : Nat) (dp : Nat → Nat), f_X7_read_9 nm σ = some (-1, x2) ∧ f_GB 100 0 (tx_m τ us) = some (true, y2) ∧ y2 85 5 = y2 86 3 ∧ rd_P (nI c1) (nI c2) (nI c3) σ (ab_u τ 85 8 us) 0 L k dp x2 y2 ∧ 0 < k ∧ k ≤ 60 ∧ dp 0 = 0 ∧ dp k = 1 := by
  have hT' : rd_T us L T σ (ab_u τ 85 8 us) := ⟨hL, h9, by rw [ab_u_ne _ _ _ (by omega : (86 : Nat) ≠ 85)]; exact h3, fun i hi => ⟨(hT i hi).1, (hT i hi).2.1, by rw [ab_u_ne _ _ _ (by omega : (86 : Nat) ≠ 85)]; exact (hT i hi).2.2⟩, u_rk _ _ _ _⟩
  have P0 : rd_P (nI c1) (nI c2) (nI c3) σ (ab_u τ 85 8 us) 0 0 0 (fun _ => 0) (ab_u (ab_u σ 17 5 (0 : Int32)) 17 0 (0 : Int32)) (tx_m τ us) := by
    unfold tx_m
    refine ⟨?_, ?_, ?_, ?_, ?_, fun i hi => absurd hi (by omega), fun c q1 q2 => by rw [ab_u_ne _ _ _ q1, ab_u_ne _ _ _ q1], fun c q1 q2 => by rw [ab_u_ne _ _ _ q1, ab_u_ne _ _ _ q1, ab_u_ne _ _ _ q1], fun j j1 j2 j3 => by rw [u_rd _ _ _ _ _ j3, u_rd _ _ _ _ _ j2, u_rd _ _ _ _ _ j1]⟩
    · rw [u_rd _ _ _ _ _ (by omega), u_rk, nI_0]
    · rw [u_rd _ _ _ _ _ (by omega), u_rd _ _ _ _ _ (by omega), u_rk, nI_0]
    · rw [u_rk, nI_0]
    · rw [u_rk, nI_0]
    · rw [u_rd _ _ _ _ _ (by omega), u_rk, nI_0]
  rcases rd_z hN hT' 0 0 (fun _ => 0) _ _ (by omega) (by omega) P0 with ⟨x2, y2, a1, a2, p, s, hp, hs, e1, e2, e3, e4, e5⟩ | ⟨x2, y2, p2, k, dp2, a1, a2, a3, a4, a5, a6, a7, a8, a9⟩
  · refine Or.inl ⟨x2, y2, p, ?_, by omega, e2, e4, e5, Or.inl a2⟩
    unfold f_X7_read_9
    rw [lt_d, lt_d]
    show (f_GA nm 100 0 (nI 0) (nI 0) _).bind _ = _
    rw [a1, bi]
    refine (if_pos rfl).trans ?_
    show some (x2 17 5, x2) = _
    rw [e1]
  · have x9 : x2 9 1 = nI L := by rw [a3.2.2.2.2.2.2.1 9 (by omega) (by omega)]; exact h9
    have y3 : y2 86 3 = nI L := by rw [a3.2.2.2.2.2.2.2.1 86 (by omega) (by omega), ab_u_ne _ _ _ (by omega : (86 : Nat) ≠ 85)]; exact h3
    by_cases q : p2 = L
    · subst q
      refine Or.inr ⟨x2, y2, k, dp2, ?_, a2, by rw [a3.2.1, y3], a3, a6, by omega, a8 0 (by omega), a9⟩
      unfold f_X7_read_9
      rw [lt_d, lt_d]
      show (f_GA nm 100 0 (nI 0) (nI 0) _).bind _ = _
      rw [a1, bi]
      refine (if_neg nb_0).trans ?_
      exact if_pos (show x2 17 5 = x2 9 1 by rw [a3.1, x9])
    · refine Or.inl ⟨x2, y2, p2, ?_, by omega, a3.2.1, a3.2.2.2.2.2.2.1, a3.2.2.2.2.2.2.2, Or.inr ⟨a2, by rw [a3.2.1, y3]; exact nI_n q (by omega) (by omega)⟩⟩
      unfold f_X7_read_9
      rw [lt_d, lt_d]
      show (f_GA nm 100 0 (nI 0) (nI 0) _).bind _ = _
      rw [a1, bi]
      refine (if_neg nb_0).trans ?_
      refine (if_neg (show ¬ x2 17 5 = x2 9 1 by rw [a3.1, x9]; exact nI_n q (by omega) (by omega))).trans ?_
      show some (x2 17 5, x2) = _
      rw [a3.1]
def tx_S (y : ab_F) (j : Int32) : Option (Int32 × ab_F) := ab_lt (ab_u y 86 3 (0 : Int32)) (fun (s12 : ab_F) => ab_lt (((116 : Int32) + ((125 : Int32) * j))) (fun x13 => ab_ck (ab_ib x13 450) (ab_lt (ab_u s12 86 (x13).toNatClampNeg (s12 85 7)) (fun (s15 : ab_F) => (f_X12_text_L101 x13 (fun (s21 : ab_F) => (some ((1 : Int32), s21))) ab_fu (0 : Int32) s15)))))
/-- what TEXT leaves: t the class's own, o where the model has it -/
def tx_P (k1 k2 k3 : Int32) (t o : Nat) (σ σ1 τ τ1 : ab_F) : Prop := σ1 86 = σ 86 ∧ σ1 9 1 = nI 0 ∧ (∀ c, c ≠ 17 → c ≠ 18 → c ≠ 9 → c ≠ t → c ≠ t + 1 → σ1 c = σ c) ∧ (∀ c, c ≠ 85 → c ≠ 86 → c ≠ 90 → τ1 c = τ c) ∧ τ1 85 12 = τ 85 12 ∧ τ1 85 3 = τ 85 3 ∧ τ1 86 3 = nI 0 ∧ (∀ k, k ≠ 3 → (k < o ∨ o + 124 < k) → τ1 86 k = σ 86 k) ∧ rT k1 k2 k3 (σ1 t 0) (σ1 (t + 1)) (τ1 86) o
theorem tx_H {j nm c1 c2 c3 L t o : Nat} {T : Nat → Nat} {σ : ab_F} {CP : ab_F → Option ab_F} (hj : j ≤ 1) (hN : rd_N (nI j) nm c1 c2 c3) (hL : L ≤ 60) (h9 : σ 9 1 = nI L) (h3 : σ 86 3 = nI L) (hT : ∀ i, i < L → T i < 256 ∧ σ 10 i = nI (T i) ∧ σ 86 (366 + i) = nI (T i)) (ho : 116 ≤ o) (ho2 : o ≤ 241) (ht : 19 ≤ t) (ht2 : t ≤ 40) (e13 : (116 : Int32) + (125 : Int32) * nI j = nI o) (hCP : ∀ (x : ab_F) (k : Nat), k ≤ 60 → x 17 0 = nI k → ∃ x2 : ab_F, CP x = some x2 ∧ x2 t 0 = nI k ∧ (∀ i, i < k → x2 (t + 1) i = x 18 i) ∧ ∀ c, c ≠ t → c ≠ t + 1 → x2 c = x c) (hF : f_X11_text (nI j) σ = (f_X7_read_9 nm σ).bind (fun q13 => ab_lt (q13.1) (fun x14 => ab_lt (ab_u q13.2 9 1 (0 : Int32)) (fun (s15 : ab_F) => (if x14 < 0 then (CP s15).bind (fun q18 => (some ((1 : Int32), q18))) else (some (((-10 : Int32) - x14), s15))))))) (hO : rT (nI c1) (nI c2) (nI c3) (σ t 0) (σ (t + 1)) (σ 86) o) (τ : ab_F) (hτ : τ 86 = σ 86) : ∃ (a : Int32) (σ1 τ1 : ab_F), f_X11_text (nI j) σ = some (a, σ1) ∧ f_X12_text (nI j) τ = some (a, τ1) ∧ tx_P (nI c1) (nI c2) (nI c3) t o σ σ1 τ τ1 := by
  have i1 : f_X12_in (nI j) 0 1 τ = some true := in_n (j := j) (l := 0) (n := 1) τ (Nat.zero_le _) hj (by omega)
  rcases tx_R (τ := τ) hN hL h9 (by rw [hτ]; exact h3) (fun i hi => by rw [hτ]; exact hT i hi) with ⟨x2, y2, p, r1, r2, r3, r4, r5, r6⟩ | ⟨x2, y2, k, dp, r1, r2, r3, r4, r5, r6, r7, r8⟩
  · have y86 : y2 86 = σ 86 := by rw [r5.1 86 (by omega) (by omega), ab_u_ne _ _ _ (by omega : (86 : Nat) ≠ 85)]; exact hτ
    refine ⟨-10 - nI p, ab_u x2 9 1 0, ab_u y2 86 3 0, ?_, ?_, ?_, ?_, ?_, ?_, ?_, ?_, ?_, ?_, ?_⟩
    · rw [hF, r1, bi, lt_d, lt_d]
      exact if_neg (show ¬ nI p < 0 from nI_pos (by omega))
    · unfold f_X12_text
      rw [gs_t i1, lt_d, lt_d, lt_d, lt_d]
      show (f_GB 100 0 (tx_m τ (nI j))).bind _ = _
      have fin : some ((-10 : Int32) - (ab_u y2 86 3 (0 : Int32)) 85 5, ab_u y2 86 3 (0 : Int32)) = some (-10 - nI p, ab_u y2 86 3 0) := by rw [ab_u_ne _ _ _ (by omega : (85 : Nat) ≠ 86), r3]
      rcases r6 with r6 | ⟨r6, r7⟩
      · rw [r6, bi]
        exact (if_pos rfl).trans fin
      · rw [r6, bi]
        exact (if_neg nb_0).trans ((if_neg r7).trans fin)
    · rw [ab_u_ne _ _ _ (by omega : (86 : Nat) ≠ 9)]; exact r4 86 (by omega) (by omega)
    · rw [u_rk, nI_0]
    · intro c q1 q2 q3 _ _
      rw [ab_u_ne _ _ _ q3]; exact r4 c q1 q2
    · intro c q1 q2 q3
      rw [ab_u_ne _ _ _ q2, r5.1 c q1 q3, ab_u_ne _ _ _ q1]
    · rw [ab_u_ne _ _ _ (by omega : (85 : Nat) ≠ 86), r5.2 12 (by omega) (by omega) (by omega), u_rd _ _ _ _ _ (by omega)]
    · rw [ab_u_ne _ _ _ (by omega : (85 : Nat) ≠ 86), r5.2 3 (by omega) (by omega) (by omega), u_rd _ _ _ _ _ (by omega)]
    · rw [u_rk, nI_0]
    · intro k q1 _
      rw [u_rd _ _ _ _ _ q1, y86]
    · rw [ab_u_ne _ _ _ (by omega : t ≠ 9), ab_u_ne _ _ _ (by omega : t + 1 ≠ 9), r4 t (by omega) (by omega), r4 (t + 1) (by omega) (by omega)]
      exact rT_to hO (fun k q1 q2 => by rw [u_rd _ _ _ _ _ (by omega), y86])
  · obtain ⟨g1, g2, g3, g4, g5, g6, g7, g8⟩ := r4
    have y86 : y2 86 = σ 86 := by rw [g8.1 86 (by omega) (by omega), ab_u_ne _ _ _ (by omega : (86 : Nat) ≠ 85)]; exact hτ
    obtain ⟨x3, w1, w2, w3, w4⟩ := hCP (ab_u x2 9 1 0) k r6 (by rw [ab_u_ne _ _ _ (by omega : (17 : Nat) ≠ 9)]; exact g3)
    have s7 : (ab_u (ab_u y2 86 3 0) 86 o (nI k)) 85 7 = nI k := by rw [ab_u_ne _ _ _ (by omega : (85 : Nat) ≠ 86), ab_u_ne _ _ _ (by omega : (85 : Nat) ≠ 86)]; exact g4
    obtain ⟨y3, v1, v2, v3, v4⟩ := tx_L (o := o) (k := k) ho2 r6 (2 * k) 0 ab_fu (ab_u (ab_u y2 86 3 0) 86 o (nI k)) (by omega) (by unfold ab_fu; omega) s7
    have v2' : ∀ c, c ≠ 86 → y3 c = y2 c := fun c hc => by rw [v2 c hc, ab_u_ne _ _ _ hc, ab_u_ne _ _ _ hc]
    refine ⟨1, x3, y3, ?_, ?_, ?_, ?_, ?_, ?_, ?_, ?_, ?_, ?_, ?_⟩
    · rw [hF, r1, bi, lt_d, lt_d]
      refine (if_pos (show (-1 : Int32) < 0 by decide)).trans ?_
      show (CP (ab_u x2 9 1 0)).bind _ = _
      rw [w1, bi]
    · unfold f_X12_text
      rw [gs_t i1, lt_d, lt_d, lt_d, lt_d]
      show (f_GB 100 0 (tx_m τ (nI j))).bind _ = _
      rw [r2, bi]
      refine (if_neg nb_0).trans ((if_pos r3).trans ?_)
      show tx_S y2 (nI j) = _
      unfold tx_S
      rw [lt_d, lt_d, e13, ib_n (by omega) (by omega), ck_t, lt_d, cl_n (by omega), ab_u_ne _ _ _ (by omega : (85 : Nat) ≠ 86), g4]
      exact v1 _
    · rw [w4 86 (by omega) (by omega), ab_u_ne _ _ _ (by omega : (86 : Nat) ≠ 9)]; exact g7 86 (by omega) (by omega)
    · rw [w4 9 (by omega) (by omega), u_rk, nI_0]
    · intro c q1 q2 q3 q4 q5
      rw [w4 c q4 q5, ab_u_ne _ _ _ q3]; exact g7 c q1 q2
    · intro c q1 q2 q3
      rw [v2' c q2, g8.1 c q1 q3, ab_u_ne _ _ _ q1]
    · rw [v2' 85 (by omega), g8.2 12 (by omega) (by omega) (by omega), u_rd _ _ _ _ _ (by omega)]
    · rw [v2' 85 (by omega), g8.2 3 (by omega) (by omega) (by omega), u_rd _ _ _ _ _ (by omega)]
    · rw [v4 3 (by omega), u_rd _ _ _ _ _ (by omega), u_rk, nI_0]
    · intro e q1 q2
      rw [v4 e (by omega), u_rd _ _ _ _ _ (by omega), u_rd _ _ _ _ _ q1, y86]
    · refine ⟨k, dp, r6, w2, ?_, r7, Or.inr r8, fun i hi => ?_, fun i hi => ?_⟩
      · rw [v4 o (by omega), u_rk]
      · have := dp_le r7 g6 i hi
        omega
      · have := g6 i hi
        rw [w3 i hi, ab_u_ne _ _ _ (by omega : (18 : Nat) ≠ 9), v3 (2 * i) (by omega) (by omega), show o + 2 + 2 * i = o + 1 + (2 * i + 1) by omega, v3 (2 * i + 1) (by omega) (by omega), ab_u_ne _ _ _ (by omega : (90 : Nat) ≠ 86), ab_u_ne _ _ _ (by omega : (90 : Nat) ≠ 86)]
        exact this
theorem tx_top {σ : ab_F} {F G : ab_F → Option (Int32 × ab_F)} {P : ab_F → ab_F → ab_F → Prop} (H : ∀ τ : ab_F, τ 86 = σ 86 → ∃ (a : Int32) (σ1 τ1 : ab_F), F σ = some (a, σ1) ∧ G τ = some (a, τ1) ∧ P σ1 τ τ1) (h86 : ∀ σ1 τ τ1, P σ1 τ τ1 → σ1 86 = σ 86) (hR : ∀ σ1 τ1, P σ1 σ1 τ1 → rR τ1) : ∃ (a : Int32) (σ1 σ2 : ab_F), F σ = some (a, σ1) ∧ G σ1 = some (a, σ2) ∧ rR σ2 := by
  obtain ⟨a, s1, t1, e1, _, p1⟩ := H σ rfl
  obtain ⟨a', s1', t1', e1', e2', p2⟩ := H s1 (h86 _ _ _ p1)
  rw [e1] at e1'
  obtain ⟨g1, g2⟩ := Prod.mk.inj (Option.some.inj e1')
  subst g1
  subst g2
  exact ⟨a, s1, t1', e1, e2', hR _ _ p2⟩
theorem m_text (a0 : Int32) : ok2 rR (f_X11_text a0) (f_X12_text a0) := by
  intro σ h
  rcases gd a0 1 (by omega) with ⟨j, hj, rfl⟩ | ⟨hx, hy⟩
  · obtain ⟨L, hL, h9, h3, hb⟩ := h.1.2.2.1
    have hT : ∀ i, i < L → (fun i => (σ 10 i).toNatClampNeg) i < 256 ∧ σ 10 i = nI ((fun i => (σ 10 i).toNatClampNeg) i) ∧ σ 86 (366 + i) = nI ((fun i => (σ 10 i).toNatClampNeg) i) := by
      intro i hi
      obtain ⟨e1, b, hb2, e2⟩ := hb i hi
      have e3 : (σ 10 i).toNatClampNeg = b := by rw [e2, cl_n (by omega)]
      show (σ 10 i).toNatClampNeg < 256 ∧ σ 10 i = nI (σ 10 i).toNatClampNeg ∧ σ 86 (366 + i) = nI (σ 10 i).toNatClampNeg
      rw [e3]
      exact ⟨hb2, e2, by rw [← e2]; exact e1.symm⟩
    have p2 := h.1.2.2.2.1
    have q3 := h.1.2.2.2.2.1
    have q4 := h.1.2.2.2.2.2
    have o1 : f_X11_outside (nI j) 1 σ = some false := ou_n (j := j) (n := 1) σ hj (by omega)
    have h2 : j = 0 ∨ j = 1 := by omega
    rcases h2 with rfl | rfl
    · refine tx_top (P := tx_P (nI 121) (nI 107) (nI 100) 32 116 σ) (fun τ hτ => tx_H (T := fun i => (σ 10 i).toNatClampNeg) (CP := f_X7_copyFrom_32) (t := 32) (o := 116) (by omega) tx_N0 hL h9 h3 hT (by omega) (by omega) (by omega) (by omega) rfl (fun x k hk hx => cP_32_17 hk hx) ?_ q3 τ hτ) (fun σ1 τ τ1 hP => hP.1) (fun σ1 τ1 hP => ?_)
      · unfold f_X11_text
        rw [gs_f o1, if_pos (show nI 0 = (0 : Int32) from rfl)]
        rfl
      · obtain ⟨z1, z2, z3, z4, z5, z6, z7, z8, z9⟩ := hP
        refine rR_t h (fun c _ c9 c10 c13 c14 c32 c33 c35 c36 c86 c85 => ?_) (fun k k1 k2 k3 => z8 k k2 (by omega)) ?_ ?_ ⟨0, by omega, ?_, z7, fun i hi => absurd hi (by omega)⟩ ?_ ?_ ?_
        · by_cases c90 : c = 90
          · subst c90; exact absurd (show scr 90 by unfold scr; omega) (by assumption)
          · by_cases c17 : c = 17
            · subst c17; exact absurd (show scr 17 by unfold scr; omega) (by assumption)
            · by_cases c18 : c = 18
              · subst c18; exact absurd (show scr 18 by unfold scr; omega) (by assumption)
              · rw [z4 c c85 c86 c90, z3 c c17 c18 c9 c32 c33]
        · rw [z5, z3 85 (by omega) (by omega) (by omega) (by omega) (by omega)]
        · rw [z6, z3 85 (by omega) (by omega) (by omega) (by omega) (by omega)]
        · rw [z4 9 (by omega) (by omega) (by omega)]; exact z2
        · rw [z4 13 (by omega) (by omega) (by omega), z4 14 (by omega) (by omega) (by omega), z3 13 (by omega) (by omega) (by omega) (by omega) (by omega), z3 14 (by omega) (by omega) (by omega) (by omega) (by omega), z8 4 (by omega) (by omega)]
          exact rP_to p2 (fun i hi => z8 _ (by omega) (by omega))
        · rw [z4 32 (by omega) (by omega) (by omega), z4 33 (by omega) (by omega) (by omega)]; exact z9
        · rw [z4 35 (by omega) (by omega) (by omega), z4 36 (by omega) (by omega) (by omega), z3 35 (by omega) (by omega) (by omega) (by omega) (by omega), z3 36 (by omega) (by omega) (by omega) (by omega) (by omega)]
          exact rT_to q4 (fun k k1 k2 => z8 k (by omega) (by omega))
    · refine tx_top (P := tx_P (nI 116) (nI 103) (nI 100) 35 241 σ) (fun τ hτ => tx_H (T := fun i => (σ 10 i).toNatClampNeg) (CP := f_X7_copyFrom_35) (t := 35) (o := 241) (by omega) tx_N1 hL h9 h3 hT (by omega) (by omega) (by omega) (by omega) rfl (fun x k hk hx => cP_35_17 hk hx) ?_ q4 τ hτ) (fun σ1 τ τ1 hP => hP.1) (fun σ1 τ1 hP => ?_)
      · unfold f_X11_text
        rw [gs_f o1, if_neg (show ¬ nI 1 = (0 : Int32) by decide)]
        rfl
      · obtain ⟨z1, z2, z3, z4, z5, z6, z7, z8, z9⟩ := hP
        refine rR_t h (fun c _ c9 c10 c13 c14 c32 c33 c35 c36 c86 c85 => ?_) (fun k k1 k2 k3 => z8 k k2 (by omega)) ?_ ?_ ⟨0, by omega, ?_, z7, fun i hi => absurd hi (by omega)⟩ ?_ ?_ ?_
        · by_cases c90 : c = 90
          · subst c90; exact absurd (show scr 90 by unfold scr; omega) (by assumption)
          · by_cases c17 : c = 17
            · subst c17; exact absurd (show scr 17 by unfold scr; omega) (by assumption)
            · by_cases c18 : c = 18
              · subst c18; exact absurd (show scr 18 by unfold scr; omega) (by assumption)
              · rw [z4 c c85 c86 c90, z3 c c17 c18 c9 c35 c36]
        · rw [z5, z3 85 (by omega) (by omega) (by omega) (by omega) (by omega)]
        · rw [z6, z3 85 (by omega) (by omega) (by omega) (by omega) (by omega)]
        · rw [z4 9 (by omega) (by omega) (by omega)]; exact z2
        · rw [z4 13 (by omega) (by omega) (by omega), z4 14 (by omega) (by omega) (by omega), z3 13 (by omega) (by omega) (by omega) (by omega) (by omega), z3 14 (by omega) (by omega) (by omega) (by omega) (by omega), z8 4 (by omega) (by omega)]
          exact rP_to p2 (fun i hi => z8 _ (by omega) (by omega))
        · rw [z4 32 (by omega) (by omega) (by omega), z4 33 (by omega) (by omega) (by omega), z3 32 (by omega) (by omega) (by omega) (by omega) (by omega), z3 33 (by omega) (by omega) (by omega) (by omega) (by omega)]
          exact rT_to q3 (fun k k1 k2 => z8 k (by omega) (by omega))
        · rw [z4 35 (by omega) (by omega) (by omega), z4 36 (by omega) (by omega) (by omega)]; exact z9
  · refine er2 h 1 (by omega) ?_ (fun τ hτ => ?_)
    · unfold f_X11_text
      rw [gs_t (show f_X11_outside a0 1 σ = some true from hx σ), bie]; rfl
    · unfold f_X12_text
      rw [gs_f (show f_X12_in a0 0 1 τ = some false from hy τ), bie]; rfl
