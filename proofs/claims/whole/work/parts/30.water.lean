/-! WATER: what flows where, in numbers -/
def ww (u : Nat → Nat → Nat) (x : Nat → Nat) : Nat → Nat → Nat := fun r => if r = 2 then x else u r
def updN (x : Nat → Nat) (i v : Nat) : Nat → Nat := fun j => if j = i then v else x j
def eto : Option Nat → Int32
  | none => -1
  | some k => nI k
def stF (g x l : Nat → Nat) (t : Option Nat) (o : Nat) : Option Nat := if l o = 0 then (match t with | none => some o | some k => if g o + x o < g k + x k then some o else t) else t
def stH (g : Nat → Nat) (t : Option Nat) (o : Nat) : Option Nat := match t with | none => some o | some k => if g k < g o then some o else t
def tb (i : Nat) : Option Nat := [none, none, some 1, some 4, none, some 0, some 2, some 5, none, some 1, some 3, some 6, none, some 2, none, some 7, some 0, none, some 5, some 8, some 1, some 4, some 6, some 9, some 2, some 5, some 7, some 10, some 3, some 6, none, some 11, some 4, none, some 9, some 12, some 5, some 8, some 10, some 13, some 6, some 9, some 11, some 14, some 7, some 10, none, some 15, some 8, none, some 13, none, some 9, some 12, some 14, none, some 10, some 13, some 15, none, some 11, some 14, none, none].getD i none
theorem tb_e : ∀ i, i < 64 → ab_tab 1 i = eto (tb i) := by decide +kernel
theorem tb_l : ∀ i, i < 64 → ∀ k ∈ tb i, k < 16 := by decide +kernel
def bes (c o : Nat) : Bool := (Nat.beq (c % 4) (o % 4) && (Nat.beq (c / 4) (o / 4 + 1) || Nat.beq (o / 4) (c / 4 + 1))) || (Nat.beq (c / 4) (o / 4) && (Nat.beq (c % 4) (o % 4 + 1) || Nat.beq (o % 4) (c % 4 + 1)))
theorem bes_0 : ∀ a, a < 16 → ∀ b, b < 16 → f_X12_areBeside (nI a) (nI b) (fun _ _ => 0) = some (bes a b) := by decide +kernel
theorem bes_n (a b : Nat) (σ : ab_F) (ha : a < 16) (hb : b < 16) : f_X12_areBeside (nI a) (nI b) σ = some (bes a b) := bes_0 a ha b hb
def cfo (st : Option Nat → Nat → Option Nat) : Nat → Nat → Option Nat → Option Nat
  | 0, _, t => t
  | d + 1, i, t => cfo st d (i + 1) (match tb i with | none => t | some o => st t o)
def mfo (st : Option Nat → Nat → Option Nat) (c : Nat) : Nat → Nat → Option Nat → Option Nat
  | 0, _, t => t
  | d + 1, i, t => mfo st c d (i + 1) (cond (bes c i) (st t i) t)
theorem le15 {j : Nat} (h : j < 16) : j = 0 ∨ j = 1 ∨ j = 2 ∨ j = 3 ∨ j = 4 ∨ j = 5 ∨ j = 6 ∨ j = 7 ∨ j = 8 ∨ j = 9 ∨ j = 10 ∨ j = 11 ∨ j = 12 ∨ j = 13 ∨ j = 14 ∨ j = 15 := by omega
theorem cf_mf (st : Option Nat → Nat → Option Nat) (c : Nat) (hc : c < 16) (t : Option Nat) : cfo st 4 (4 * c) t = mfo st c 16 0 t := by
  rcases le15 hc with rfl | rfl | rfl | rfl | rfl | rfl | rfl | rfl | rfl | rfl | rfl | rfl | rfl | rfl | rfl | rfl <;> rfl
theorem mfo_ok (st : Option Nat → Nat → Option Nat) (hst : ∀ t o, st t o = t ∨ st t o = some o) (c : Nat) : ∀ d i t, i + d ≤ 16 → (∀ k, t = some k → k < 16 ∧ bes c k = true) → ∀ k, mfo st c d i t = some k → k < 16 ∧ bes c k = true := by
  intro d
  induction d with
  | zero => intro i t _ ht k hk; exact ht k hk
  | succ d ih =>
    intro i t hi ht k hk
    refine ih (i + 1) _ (by omega) ?_ k hk
    intro k2 hk2
    cases hb : bes c i with
    | false => rw [hb] at hk2; exact ht k2 hk2
    | true =>
      rw [hb] at hk2
      rcases hst t i with q | q
      · rw [show cond true (st t i) t = st t i from rfl, q] at hk2; exact ht k2 hk2
      · rw [show cond true (st t i) t = st t i from rfl, q] at hk2
        cases hk2
        exact ⟨by omega, hb⟩
theorem stF_or (g x l : Nat → Nat) (t : Option Nat) (o : Nat) : stF g x l t o = t ∨ stF g x l t o = some o := by
  unfold stF
  cases t with
  | none => by_cases q : l o = 0 <;> simp [q]
  | some k => by_cases q : l o = 0 <;> by_cases q2 : g o + x o < g k + x k <;> simp [q, q2]
theorem stH_or (g : Nat → Nat) (t : Option Nat) (o : Nat) : stH g t o = t ∨ stH g t o = some o := by
  unfold stH
  cases t with
  | none => simp
  | some k => by_cases q2 : g k < g o <;> simp [q2]
theorem bes_ne {c k : Nat} (h : bes c k = true) : k ≠ c := by
  intro q; subst q
  simp [bes] at h
def lvo (g x : Nat → Nat) : Option Nat → Nat
  | none => 0
  | some k => g k + x k
theorem m1lt : (-nI 1 < nI 0) = True := by simp [nI]
theorem sub_lt2 {a b : Nat} (ha : a < 2 ^ 30) (hb : b < 2 ^ 30) : (nI a - nI b < nI 2) ↔ a < b + 2 := by
  rw [Int32.lt_iff_toInt_lt, pk_sub_toInt ha hb, nI_toInt (by omega)]
  omega
theorem eto_n : eto none = -nI 1 := rfl
theorem eto_s (k : Nat) : eto (some k) = nI k := rfl
theorem wB_1 {d : Nat} {u : Nat → Nat → Nat} {x : Nat → Nat} (h : rB d (ww u x)) {j : Nat} (hj : j < 16) : u 1 j ≤ 9 := bw1 h hj
theorem wB_2 {d : Nat} {u : Nat → Nat → Nat} {x : Nat → Nat} (h : rB d (ww u x)) {j : Nat} (hj : j < 16) : x j ≤ 99 := bw2 h hj
theorem wB_3 {d : Nat} {u : Nat → Nat → Nat} {x : Nat → Nat} (h : rB d (ww u x)) {j : Nat} (hj : j < 16) : u 3 j ≤ 1 := bw3 h hj
theorem ww1 {u : Nat → Nat → Nat} {x : Nat → Nat} {σ : ab_F} {w : Nat} (h : wC (ww u x) σ w) (j : Nat) (hj : j < 16) : σ (w + 1) j = nI (u 1 j) := c1 h j hj
theorem ww2 {u : Nat → Nat → Nat} {x : Nat → Nat} {σ : ab_F} {w : Nat} (h : wC (ww u x) σ w) (j : Nat) (hj : j < 16) : σ (w + 2) j = nI (x j) := c2 h j hj
theorem ww3 {u : Nat → Nat → Nat} {x : Nat → Nat} {σ : ab_F} {w : Nat} (h : wC (ww u x) σ w) (j : Nat) (hj : j < 16) : σ (w + 3) j = nI (u 3 j) := c3 h j hj
theorem wm1 {u : Nat → Nat → Nat} {x : Nat → Nat} {s : Nat → Int32} (h : rM (ww u x) s) (j : Nat) (hj : j < 16) : s (12 + j) = nI (u 1 j) := d1 h j hj
theorem wm2 {u : Nat → Nat → Nat} {x : Nat → Nat} {s : Nat → Int32} (h : rM (ww u x) s) (j : Nat) (hj : j < 16) : s (28 + j) = nI (x j) := d2 h j hj
theorem wm3 {u : Nat → Nat → Nat} {x : Nat → Nat} {s : Nat → Int32} (h : rM (ww u x) s) (j : Nat) (hj : j < 16) : s (44 + j) = nI (u 3 j) := d3 h j hj
/-- the class's search -/
theorem cL {u : Nat → Nat → Nat} {x : Nat → Nat} {σ : ab_F} {w c q : Nat} (hC : wC (ww u x) σ w) (hB : rB q (ww u x)) (hc : c < 16) (K : Int32 → Int32 → Option ab_F) : ∀ d i n t, i + d = 4 * c + 4 → 4 * c ≤ i → d < n → (∀ k, t = some k → k < 16) → f_X9_flowFrom_L9 w (nI c) σ K n (eto t) (nI (lvo (u 1) x t)) (nI i) = K (eto (cfo (stF (u 1) x (u 3)) d i t)) (nI (lvo (u 1) x (cfo (stF (u 1) x (u 3)) d i t))) := by
  intro d
  induction d with
  | zero =>
    intro i n t h1 h2 h3 ht
    obtain ⟨m, rfl⟩ : ∃ m, n = m + 1 := ⟨n - 1, by omega⟩
    rw [f_X9_flowFrom_L9]
    simp (disch := omega) only [lit, nI_add, pk_mul, nI_leI, if_pos, cfo]
  | succ d ih =>
    intro i n t h1 h2 h3 ht
    obtain ⟨m, rfl⟩ : ∃ m, n = m + 1 := ⟨n - 1, by omega⟩
    rw [f_X9_flowFrom_L9, cfo]
    have h4 := tb_l i (by omega)
    simp (disch := omega) only [lit, nI_add, pk_mul, nI_leI, if_neg, ib_n, ck_t, lt_d, cl_n, tb_e]
    cases htb : tb i with
    | none =>
      simp only [eto_n, m1lt, ↓reduceIte]
      exact ih (i + 1) m t (by omega) (by omega) (by omega) ht
    | some o =>
      have ho : o < 16 := h4 o htb
      have b1 := wB_1 hB ho
      have b2 := wB_2 hB ho
      have b3 := wB_3 hB ho
      simp (disch := omega) only [eto_s, nI_ltI, if_neg, ib_n, ck_t, cl_n, ww1 hC, ww2 hC, ww3 hC, nI_eq, nI_add, Nat.not_lt_zero, ↓reduceIte]
      by_cases q3 : u 3 o = 0
      · rw [if_pos q3]
        cases t with
        | none =>
          simp only [eto_n, m1lt, ↓reduceIte]
          have e : stF (u 1) x (u 3) none o = some o := by simp [stF, q3]
          rw [e]
          exact ih (i + 1) m (some o) (by omega) (by omega) (by omega) (fun k hk => by cases hk; exact ho)
        | some k =>
          have hk : k < 16 := ht k rfl
          have c1 := wB_1 hB hk
          have c2 := wB_2 hB hk
          simp (disch := omega) only [eto_s, nI_ltI, nI_leI, Nat.not_lt_zero, ↓reduceIte, lvo]
          by_cases q4 : u 1 o + x o < u 1 k + x k
          · rw [if_neg (by omega)]
            have e : stF (u 1) x (u 3) (some k) o = some o := by simp [stF, q3, q4]
            rw [e]
            exact ih (i + 1) m (some o) (by omega) (by omega) (by omega) (fun k hk => by cases hk; exact ho)
          · rw [if_pos (by omega)]
            have e : stF (u 1) x (u 3) (some k) o = some k := by simp [stF, q4]
            rw [e]
            exact ih (i + 1) m (some k) (by omega) (by omega) (by omega) ht
      · rw [if_neg q3]
        have e : stF (u 1) x (u 3) t o = t := by simp [stF, q3]
        rw [e]
        exact ih (i + 1) m t (by omega) (by omega) (by omega) ht
/-- the model's search -/
theorem mL {u : Nat → Nat → Nat} {x : Nat → Nat} {σ : ab_F} {c q : Nat} (hM : rM (ww u x) (σ 86)) (hB : rB q (ww u x)) (hc : c < 16) (K : Int32 → Option ab_F) : ∀ d i n t, i + d = 16 → d < n → (∀ k, t = some k → k < 16) → f_X12_flowsFrom_L4 (nI c) σ K n (eto t) (nI i) = K (eto (mfo (stF (u 1) x (u 3)) c d i t)) := by
  intro d
  induction d with
  | zero =>
    intro i n t h1 h3 ht
    obtain ⟨m, rfl⟩ : ∃ m, n = m + 1 := ⟨n - 1, by omega⟩
    rw [f_X12_flowsFrom_L4]
    simp (disch := omega) only [lit, nI_leI, if_pos, mfo]
  | succ d ih =>
    intro i n t h1 h3 ht
    obtain ⟨m, rfl⟩ : ∃ m, n = m + 1 := ⟨n - 1, by omega⟩
    rw [f_X12_flowsFrom_L4, mfo]
    have ho : i < 16 := by omega
    have b1 := wB_1 hB ho
    have b2 := wB_2 hB ho
    have b3 := wB_3 hB ho
    rw [bes_n c i σ hc ho, bi]
    simp (disch := omega) only [lit, nI_leI, if_neg, lt_d, nI_add, b_eq]
    cases hb : bes c i with
    | false =>
      simp only [↓reduceIte, cond_false]
      exact ih (i + 1) m t (by omega) (by omega) ht
    | true =>
      unfold f_X12_levelOf
      simp (disch := omega) only [lit, Bool.true_eq_false, ↓reduceIte, cond_true, ib_n, ck_t, cl_n, wm1 hM, wm2 hM, wm3 hM, nI_eq, nI_add, bi]
      by_cases q3 : u 3 i = 0
      · rw [if_pos q3]
        cases t with
        | none =>
          simp only [eto_n, m1lt, ↓reduceIte]
          have e : stF (u 1) x (u 3) none i = some i := by simp [stF, q3]
          rw [e]
          exact ih (i + 1) m (some i) (by omega) (by omega) (fun k hk => by cases hk; exact ho)
        | some k =>
          have hk : k < 16 := ht k rfl
          have c1 := wB_1 hB hk
          have c2 := wB_2 hB hk
          simp (disch := omega) only [eto_s, nI_add, ib_n, ck_t, cl_n, wm1 hM, wm2 hM, bi, nI_ltI, nI_leI, Nat.not_lt_zero, ↓reduceIte]
          by_cases q4 : u 1 i + x i < u 1 k + x k
          · rw [if_neg (by omega)]
            have e : stF (u 1) x (u 3) (some k) i = some i := by simp [stF, q3, q4]
            rw [e]
            exact ih (i + 1) m (some i) (by omega) (by omega) (fun k hk => by cases hk; exact ho)
          · rw [if_pos (by omega)]
            have e : stF (u 1) x (u 3) (some k) i = some k := by simp [stF, q4]
            rw [e]
            exact ih (i + 1) m (some k) (by omega) (by omega) ht
      · rw [if_neg q3]
        have e : stF (u 1) x (u 3) t i = t := by simp [stF, q3]
        rw [e]
        exact ih (i + 1) m t (by omega) (by omega) ht
def bst (g x l : Nat → Nat) (c : Nat) : Option Nat := mfo (stF g x l) c 16 0 none
/-- one flow -/
def fl2 (g x l : Nat → Nat) (c : Nat) : Nat → Nat := match bst g x l c with
  | none => x
  | some k => if g k + x k + 2 ≤ g c + x c ∧ x k < 99 then updN (updN x c (x c - 1)) k (x k + 1) else x
def fl1 (g x l : Nat → Nat) (c : Nat) : Nat → Nat := if x c = 0 then x else if l c = 0 then fl2 g x l c else x
theorem wC_w {u : Nat → Nat → Nat} {x : Nat → Nat} {σ : ab_F} {w i v : Nat} (h : wC (ww u x) σ w) : wC (ww u (updN x i v)) (ab_u σ (w + 2) i (nI v)) w := by
  have e : ww u (updN x i v) = uu (ww u x) 2 i v := by
    funext r j
    unfold ww uu updN
    by_cases q : r = 2
    · subst q; simp
    · simp [q]
  rw [e]; exact wC_set h
theorem wM_w {u : Nat → Nat → Nat} {x : Nat → Nat} {σ : ab_F} {i v : Nat} (hi : i < 16) (h : rM (ww u x) (σ 86)) : rM (ww u (updN x i v)) (ab_u σ 86 (28 + i) (nI v) 86) := by
  have e : ww u (updN x i v) = uu (ww u x) 2 i v := by
    funext r j
    unfold ww uu updN
    by_cases q : r = 2
    · subst q; simp
    · simp [q]
  rw [e]
  exact wM_set (r := 2) (vc (by omega) (by omega) hi) h
theorem rB_w {u : Nat → Nat → Nat} {x : Nat → Nat} {q i v : Nat} (h : rB q (ww u x)) (hv : v ≤ 99) : rB q (ww u (updN x i v)) := by
  have e : ww u (updN x i v) = uu (ww u x) 2 i v := by
    funext r j
    unfold ww uu updN
    by_cases q : r = 2
    · subst q; simp
    · simp [q]
  rw [e]; exact rB_set h hv
theorem bst_ok {g x l : Nat → Nat} {c k : Nat} (h : bst g x l c = some k) : k < 16 ∧ k ≠ c := by
  have := mfo_ok (stF g x l) (stF_or g x l) c 16 0 none (by omega) (fun k hk => by cases hk) k h
  exact ⟨this.1, bes_ne this.2⟩
theorem rB_fl2 {u : Nat → Nat → Nat} {x : Nat → Nat} {q c : Nat} (hc : c < 16) (h : rB q (ww u x)) : rB q (ww u (fl2 (u 1) x (u 3) c)) := by
  unfold fl2
  cases hk : bst (u 1) x (u 3) c with
  | none => exact h
  | some k =>
    have b2 := wB_2 h hc
    simp only
    by_cases q2 : u 1 k + x k + 2 ≤ u 1 c + x c ∧ x k < 99
    · rw [if_pos q2]
      exact rB_w (rB_w h (by omega)) (by omega)
    · rw [if_neg q2]; exact h
theorem rB_fl1 {u : Nat → Nat → Nat} {x : Nat → Nat} {q c : Nat} (hc : c < 16) (h : rB q (ww u x)) : rB q (ww u (fl1 (u 1) x (u 3) c)) := by
  unfold fl1
  by_cases q1 : x c = 0
  · rw [if_pos q1]; exact h
  · rw [if_neg q1]
    by_cases q2 : u 3 c = 0
    · rw [if_pos q2]; exact rB_fl2 hc h
    · rw [if_neg q2]; exact h
theorem cFlow {u : Nat → Nat → Nat} {x : Nat → Nat} {σ : ab_F} {w c q : Nat} (hC : wC (ww u x) σ w) (hB : rB q (ww u x)) (hc : c < 16) (hx : x c ≠ 0) : ∃ τ, f_X9_flowFrom w (nI c) σ = some τ ∧ wC (ww u (fl2 (u 1) x (u 3) c)) τ w ∧ ∀ a, a ≠ w + 2 → τ a = σ a := by
  unfold f_X9_flowFrom
  rw [lt_d, show (4 : Int32) * nI c = nI (4 * c) from pk_mul 4 c, show (-1 : Int32) = eto none from rfl, show (0 : Int32) = nI (lvo (u 1) x none) from rfl, cL hC hB hc _ 4 (4 * c) ab_fu none (by omega) (by omega) (by unfold ab_fu; omega) (fun k hk => by cases hk), cf_mf _ c hc, show mfo (stF (u 1) x (u 3)) c 16 0 none = bst (u 1) x (u 3) c from rfl]
  unfold fl2
  have g1 := wB_1 hB hc
  have g2 := wB_2 hB hc
  cases hk : bst (u 1) x (u 3) c with
  | none =>
    simp only [eto_n, lvo, m1lt, ↓reduceIte]
    exact ⟨σ, rfl, hC, fun _ _ => rfl⟩
  | some k =>
    obtain ⟨hk1, hk2⟩ := bst_ok hk
    have b1 := wB_1 hB hk1
    have b2 := wB_2 hB hk1
    unfold f_X9_level
    simp (disch := omega) only [eto_s, lvo, lit, nI_ltI, nI_leI, if_neg, ib_n, ck_t, cl_n, ww1 hC, ww2 hC, nI_add, bi, sub_lt2, lt_d, pk_sub, u_rd, Nat.not_lt_zero, ↓reduceIte]
    by_cases q2 : u 1 k + x k + 2 ≤ u 1 c + x c
    · rw [if_neg (by omega)]
      by_cases q3 : x k < 99
      · rw [if_neg (by omega), if_pos ⟨q2, q3⟩]
        refine ⟨_, rfl, wC_w (wC_w hC), fun a ha => ?_⟩
        rw [ab_u_ne _ _ _ ha, ab_u_ne _ _ _ ha]
      · rw [if_pos (by omega), if_neg (by omega)]
        exact ⟨σ, rfl, hC, fun _ _ => rfl⟩
    · rw [if_pos (by omega), if_neg (by omega)]
      exact ⟨σ, rfl, hC, fun _ _ => rfl⟩
theorem mFlow {u : Nat → Nat → Nat} {x : Nat → Nat} {σ : ab_F} {c q : Nat} (hM : rM (ww u x) (σ 86)) (hB : rB q (ww u x)) (hc : c < 16) : ∃ τ, f_X12_flowsFrom (nI c) σ = some τ ∧ rM (ww u (fl1 (u 1) x (u 3) c)) (τ 86) ∧ (∀ a, a ≠ 86 → τ a = σ a) ∧ ∀ j, (j < 28 ∨ 44 ≤ j) → τ 86 j = σ 86 j := by
  unfold f_X12_flowsFrom
  rw [show (0 : Int32) = nI 0 from rfl, show (-1 : Int32) = eto none from rfl, mL hM hB hc _ 16 0 ab_fu none (by omega) (by unfold ab_fu; omega) (fun k hk => by cases hk), show mfo (stF (u 1) x (u 3)) c 16 0 none = bst (u 1) x (u 3) c from rfl]
  have g1 := wB_1 hB hc
  have g2 := wB_2 hB hc
  have g3 := wB_3 hB hc
  unfold fl1
  simp (disch := omega) only [lit, nI_add, ib_n, ck_t, cl_n, wm2 hM, wm3 hM, nI_leI, nI_eq]
  by_cases q0 : x c = 0
  · rw [if_pos (by omega), if_pos q0]
    exact ⟨σ, rfl, hM, fun _ _ => rfl, fun _ _ => rfl⟩
  · rw [if_neg (by omega), if_neg q0]
    by_cases q1 : u 3 c = 0
    · rw [if_pos q1, if_pos q1]
      unfold fl2
      cases hk : bst (u 1) x (u 3) c with
      | none =>
        simp only [eto_n, m1lt, ↓reduceIte]
        exact ⟨σ, rfl, hM, fun _ _ => rfl, fun _ _ => rfl⟩
      | some k =>
        obtain ⟨hk1, hk2⟩ := bst_ok hk
        have b1 := wB_1 hB hk1
        have b2 := wB_2 hB hk1
        unfold f_X12_levelOf
        simp (disch := omega) only [eto_s, lit, nI_ltI, nI_leI, if_neg, ib_n, ck_t, cl_n, wm1 hM, wm2 hM, nI_add, bi, sub_lt2, lt_d, pk_sub, u_rd, Nat.not_lt_zero, ↓reduceIte]
        by_cases q2 : u 1 k + x k + 2 ≤ u 1 c + x c
        · rw [if_neg (by omega)]
          by_cases q3 : x k < 99
          · rw [if_neg (by omega), if_pos ⟨q2, q3⟩]
            refine ⟨_, rfl, wM_w hk1 (wM_w hc hM), fun a ha => ?_, fun j hj => ?_⟩
            · rw [ab_u_ne _ _ _ ha, ab_u_ne _ _ _ ha]
            · rw [u_rd _ _ _ _ _ (by omega), u_rd _ _ _ _ _ (by omega)]
          · rw [if_pos (by omega), if_neg (by omega)]
            exact ⟨σ, rfl, hM, fun _ _ => rfl, fun _ _ => rfl⟩
        · rw [if_pos (by omega), if_neg (by omega)]
          exact ⟨σ, rfl, hM, fun _ _ => rfl, fun _ _ => rfl⟩
    · rw [if_neg q1, if_neg q1]
      exact ⟨σ, rfl, hM, fun _ _ => rfl, fun _ _ => rfl⟩
