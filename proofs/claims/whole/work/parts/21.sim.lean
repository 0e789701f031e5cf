/-! numbers, for simp -/
theorem lit (n : Nat) : (no_index (@OfNat.ofNat Int32 n Int32.instOfNat)) = nI (@OfNat.ofNat Nat n (instOfNatNat n)) := rfl
theorem ck_t {α : Type} (x : Option α) : ab_ck true x = x := rfl
theorem lt_d {α β : Type} (x : α) (b : α → β) : ab_lt x b = b x := rfl
theorem b_t : ab_b true = nI 1 := rfl
theorem b_f : ab_b false = nI 0 := rfl
theorem bi {α β : Type} (x : α) (f : α → Option β) : (some x).bind f = f x := rfl
theorem bie {β γ : Type} (o : Option (β × γ)) : o.bind (fun q => some (q.1, q.2)) = o := by cases o <;> rfl
theorem b_eq (b : Bool) : (ab_b b = nI 0) ↔ b = false := by cases b <;> simp [ab_b, nI] <;> decide
theorem uL {r : Nat} {P : Nat → Prop} {n : Nat} (h : ∀ j, j < n → P j) (hr : r < n) : P r := h r hr
/-- class and model, each in its own cells -/
def wC (u : Nat → Nat → Nat) (σ : ab_F) (w : Nat) : Prop := ∀ r j, val r j → σ (w + r) j = nI (u r j)
theorem wC_of {u : Nat → Nat → Nat} {σ : ab_F} {w : Nat} (h : rC u σ w w) : wC u σ w := by
  intro r j hj
  have := h r j hj
  rwa [show (if r = 0 then w else w + r) = w + r by split <;> omega] at this
theorem wC_to {u : Nat → Nat → Nat} {σ : ab_F} {w : Nat} (h : wC u σ w) : rC u σ w w := by
  intro r j hj
  rw [show (if r = 0 then w else w + r) = w + r by split <;> omega]
  exact h r j hj
theorem v3 : val 0 3 := Or.inl ⟨rfl, Or.inl rfl⟩
theorem v4 : val 0 4 := Or.inl ⟨rfl, Or.inr (Or.inl rfl)⟩
theorem v11 : val 0 11 := Or.inl ⟨rfl, Or.inr (Or.inr rfl)⟩
theorem vc {r j : Nat} (h1 : 1 ≤ r) (h2 : r ≤ 4) (h : j < 16) : val r j := Or.inr (Or.inl ⟨h1, h2, h⟩)
theorem v5 {j : Nat} (h : j < 6) : val 5 j := Or.inr (Or.inr (Or.inl ⟨rfl, h⟩))
theorem vp {r j : Nat} (h1 : 6 ≤ r) (h2 : r ≤ 10) (h : j < 8) : val r j := Or.inr (Or.inr (Or.inr ⟨h1, h2, h⟩))
/-! the class's world, entry by entry -/
theorem c0_3 {u : Nat → Nat → Nat} {σ : ab_F} {w : Nat} (h : wC u σ w) : σ w 3 = nI (u 0 3) := h 0 3 v3
theorem c0_4 {u : Nat → Nat → Nat} {σ : ab_F} {w : Nat} (h : wC u σ w) : σ w 4 = nI (u 0 4) := h 0 4 v4
theorem c0_11 {u : Nat → Nat → Nat} {σ : ab_F} {w : Nat} (h : wC u σ w) : σ w 11 = nI (u 0 11) := h 0 11 v11
theorem c1 {u : Nat → Nat → Nat} {σ : ab_F} {w : Nat} (h : wC u σ w) (j : Nat) (hj : j < 16) : σ (w + 1) j = nI (u 1 j) := h 1 j (vc (by omega) (by omega) hj)
theorem c2 {u : Nat → Nat → Nat} {σ : ab_F} {w : Nat} (h : wC u σ w) (j : Nat) (hj : j < 16) : σ (w + 2) j = nI (u 2 j) := h 2 j (vc (by omega) (by omega) hj)
theorem c3 {u : Nat → Nat → Nat} {σ : ab_F} {w : Nat} (h : wC u σ w) (j : Nat) (hj : j < 16) : σ (w + 3) j = nI (u 3 j) := h 3 j (vc (by omega) (by omega) hj)
theorem c4 {u : Nat → Nat → Nat} {σ : ab_F} {w : Nat} (h : wC u σ w) (j : Nat) (hj : j < 16) : σ (w + 4) j = nI (u 4 j) := h 4 j (vc (by omega) (by omega) hj)
theorem c5 {u : Nat → Nat → Nat} {σ : ab_F} {w : Nat} (h : wC u σ w) (j : Nat) (hj : j < 6) : σ (w + 5) j = nI (u 5 j) := h 5 j (v5 hj)
theorem c6 {u : Nat → Nat → Nat} {σ : ab_F} {w : Nat} (h : wC u σ w) (j : Nat) (hj : j < 8) : σ (w + 6) j = nI (u 6 j) := h 6 j (vp (by omega) (by omega) hj)
theorem c7 {u : Nat → Nat → Nat} {σ : ab_F} {w : Nat} (h : wC u σ w) (j : Nat) (hj : j < 8) : σ (w + 7) j = nI (u 7 j) := h 7 j (vp (by omega) (by omega) hj)
theorem c8 {u : Nat → Nat → Nat} {σ : ab_F} {w : Nat} (h : wC u σ w) (j : Nat) (hj : j < 8) : σ (w + 8) j = nI (u 8 j) := h 8 j (vp (by omega) (by omega) hj)
theorem c9 {u : Nat → Nat → Nat} {σ : ab_F} {w : Nat} (h : wC u σ w) (j : Nat) (hj : j < 8) : σ (w + 9) j = nI (u 9 j) := h 9 j (vp (by omega) (by omega) hj)
theorem c10 {u : Nat → Nat → Nat} {σ : ab_F} {w : Nat} (h : wC u σ w) (j : Nat) (hj : j < 8) : σ (w + 10) j = nI (u 10 j) := h 10 j (vp (by omega) (by omega) hj)
/-! the model's -/
theorem d0_3 {u : Nat → Nat → Nat} {s : Nat → Int32} (h : rM u s) : s 0 = nI (u 0 3) := h 0 3 v3
theorem d0_4 {u : Nat → Nat → Nat} {s : Nat → Int32} (h : rM u s) : s 1 = nI (u 0 4) := h 0 4 v4
theorem d0_11 {u : Nat → Nat → Nat} {s : Nat → Int32} (h : rM u s) : s 5 = nI (u 0 11) := h 0 11 v11
theorem d1 {u : Nat → Nat → Nat} {s : Nat → Int32} (h : rM u s) (j : Nat) (hj : j < 16) : s (12 + j) = nI (u 1 j) := h 1 j (vc (by omega) (by omega) hj)
theorem d2 {u : Nat → Nat → Nat} {s : Nat → Int32} (h : rM u s) (j : Nat) (hj : j < 16) : s (28 + j) = nI (u 2 j) := h 2 j (vc (by omega) (by omega) hj)
theorem d3 {u : Nat → Nat → Nat} {s : Nat → Int32} (h : rM u s) (j : Nat) (hj : j < 16) : s (44 + j) = nI (u 3 j) := h 3 j (vc (by omega) (by omega) hj)
theorem d4 {u : Nat → Nat → Nat} {s : Nat → Int32} (h : rM u s) (j : Nat) (hj : j < 16) : s (60 + j) = nI (u 4 j) := h 4 j (vc (by omega) (by omega) hj)
theorem d5 {u : Nat → Nat → Nat} {s : Nat → Int32} (h : rM u s) (j : Nat) (hj : j < 6) : s (6 + j) = nI (u 5 j) := h 5 j (v5 hj)
theorem d6 {u : Nat → Nat → Nat} {s : Nat → Int32} (h : rM u s) (j q : Nat) (hj : j < 8) (hq : q ≤ 4) : s (76 + 5 * j + q) = nI (u (6 + q) j) := by
  have := h (6 + q) j (vp (by omega) (by omega) hj)
  rwa [show ix (6 + q) j = 76 + 5 * j + q by unfold ix; (repeat' split) <;> omega] at this
theorem ix0_3 : ix 0 3 = 0 := rfl
theorem ix0_4 : ix 0 4 = 1 := rfl
theorem ix0_11 : ix 0 11 = 5 := rfl
theorem ix1 (j : Nat) : ix 1 j = 12 + j := rfl
theorem ix2 (j : Nat) : ix 2 j = 28 + j := rfl
theorem ix3 (j : Nat) : ix 3 j = 44 + j := rfl
theorem ix4 (j : Nat) : ix 4 j = 60 + j := rfl
theorem ix5 (j : Nat) : ix 5 j = 6 + j := rfl
theorem ixp (j q : Nat) (hq : q ≤ 4) : ix (6 + q) j = 76 + 5 * j + q := by unfold ix; (repeat' split) <;> omega
/-! the model's ways to it -/
theorem its_n {u : Nat → Nat → Nat} {σ : ab_F} (h : rM u (σ 86)) (j q : Nat) (hj : j < 8) (hq : q ≤ 4) : f_X12_its (nI j) (nI q) σ = some (nI (u (6 + q) j)) := by
  unfold f_X12_its
  simp (disch := omega) only [lit, nI_add, pk_mul, ib_n, ck_t, cl_n, d6 h]
theorem lays_n {σ : ab_F} (j q : Nat) (x : Int32) (hj : j < 8) (hq : q ≤ 4) : f_X12_lays1 (nI j) (nI q) x σ = some (ab_u σ 86 (ix (6 + q) j) x) := by
  unfold f_X12_lays1
  simp (disch := omega) only [lit, nI_add, pk_mul, ib_n, ck_t, cl_n, lt_d, ixp]
theorem chg_n {σ : ab_F} (j : Nat) (x : Int32) (hj : j < 450) : f_X12_change1 (nI j) x σ = some (σ 86 j, ab_u σ 86 j x) := by
  unfold f_X12_change1
  simp (disch := omega) only [ib_n, ck_t, cl_n, lt_d]
/-! bounds -/
theorem bd {d : Nat} {u : Nat → Nat → Nat} (h : rB d u) (r j : Nat) (hv : val r j) : u r j ≤ mx d r j := h r j hv
theorem b11 {d : Nat} {u : Nat → Nat → Nat} (h : rB d u) : u 0 11 ≤ 8 := h 0 11 v11
theorem b4 {d : Nat} {u : Nat → Nat → Nat} (h : rB d u) : u 0 4 ≤ 15 := h 0 4 v4
theorem b3 {d : Nat} {u : Nat → Nat → Nat} (h : rB d u) : u 0 3 ≤ d := h 0 3 v3
theorem bw1 {d : Nat} {u : Nat → Nat → Nat} (h : rB d u) {j : Nat} (hj : j < 16) : u 1 j ≤ 9 := h 1 j (vc (by omega) (by omega) hj)
theorem bw2 {d : Nat} {u : Nat → Nat → Nat} (h : rB d u) {j : Nat} (hj : j < 16) : u 2 j ≤ 99 := h 2 j (vc (by omega) (by omega) hj)
theorem bw3 {d : Nat} {u : Nat → Nat → Nat} (h : rB d u) {j : Nat} (hj : j < 16) : u 3 j ≤ 1 := h 3 j (vc (by omega) (by omega) hj)
theorem bw4 {d : Nat} {u : Nat → Nat → Nat} (h : rB d u) {j : Nat} (hj : j < 16) : u 4 j ≤ 4095 := h 4 j (vc (by omega) (by omega) hj)
theorem bw5 {d : Nat} {u : Nat → Nat → Nat} (h : rB d u) {j : Nat} (hj : j < 6) : u 5 j ≤ 9 := h 5 j (v5 hj)
theorem bw6 {d : Nat} {u : Nat → Nat → Nat} (h : rB d u) {j : Nat} (hj : j < 8) : u 6 j ≤ 6 := h 6 j (vp (by omega) (by omega) hj)
theorem bw7 {d : Nat} {u : Nat → Nat → Nat} (h : rB d u) {j : Nat} (hj : j < 8) : u 7 j ≤ 9 := h 7 j (vp (by omega) (by omega) hj)
theorem bw8 {d : Nat} {u : Nat → Nat → Nat} (h : rB d u) {j : Nat} (hj : j < 8) : u 8 j ≤ 15 := h 8 j (vp (by omega) (by omega) hj)
theorem bw9 {d : Nat} {u : Nat → Nat → Nat} (h : rB d u) {j : Nat} (hj : j < 8) : u 9 j ≤ 20 := h 9 j (vp (by omega) (by omega) hj)
theorem bw10 {d : Nat} {u : Nat → Nat → Nat} (h : rB d u) {j : Nat} (hj : j < 8) : u 10 j ≤ 4095 := h 10 j (vp (by omega) (by omega) hj)
/-! cells -/
theorem u_comm (σ : ab_F) {c c2 : Nat} (k k2 : Nat) (x x2 : Int32) (h : c ≠ c2) : ab_u (ab_u σ c k x) c2 k2 x2 = ab_u (ab_u σ c2 k2 x2) c k x := by
  funext a
  unfold ab_u
  by_cases h1 : a = c2 <;> by_cases h2 : a = c <;> simp_all
theorem u_rd (σ : ab_F) (c k : Nat) (x : Int32) (j : Nat) (h : j ≠ k) : ab_u σ c k x c j = σ c j := by
  rw [ab_u_same]; exact pk_un h
theorem u_rk (σ : ab_F) (c k : Nat) (x : Int32) : ab_u σ c k x c k = x := by
  rw [ab_u_same]; exact pk_us
theorem wC_set {u : Nat → Nat → Nat} {σ : ab_F} {w r i v : Nat} (h : wC u σ w) : wC (uu u r i v) (ab_u σ (w + r) i (nI v)) w := by
  intro r2 j hj
  have e := h r2 j hj
  unfold uu ab_u upd
  by_cases q1 : r2 = r
  · subst q1
    rw [if_pos rfl]
    by_cases q2 : j = i
    · subst q2; rw [if_pos rfl, if_pos ⟨rfl, rfl⟩]
    · rw [if_neg q2, if_neg (fun q => q2 q.2), e]
  · rw [if_neg (by omega), if_neg (fun q => q1 q.1), e]
theorem wM_set {u : Nat → Nat → Nat} {σ : ab_F} {r i v : Nat} (hi : val r i) (h : rM u (σ 86)) : rM (uu u r i v) (ab_u σ 86 (ix r i) (nI v) 86) := by
  rw [ab_u_same]; exact rM_set hi h
/-- scratch -/
def scr (c : Nat) : Prop := c = 17 ∨ c = 18 ∨ c = 19 ∨ c = 34 ∨ c = 37 ∨ (49 ≤ c ∧ c ≤ 59) ∨ c = 88 ∨ c = 90 ∨ c = 91 ∨ c = 92 ∨ c = 97
theorem rR_to {σ τ : ab_F} (h : rR σ) (h1 : ∀ c, ¬ scr c → c ≠ 21 → c ≠ 85 → τ c = σ c) (h2 : τ 21 4 = σ 21 4) (h3 : τ 85 12 = σ 85 12) (h4 : τ 85 3 = σ 85 3) : rR τ := by
  have e : ∀ c, ¬ scr c → c ≠ 21 → c ≠ 85 → τ c = σ c := h1
  obtain ⟨g1, g2, g3, g4, g5, g6⟩ := h
  have k : ∀ c, (¬ (c = 17 ∨ c = 18 ∨ c = 19 ∨ c = 34 ∨ c = 37 ∨ (49 ≤ c ∧ c ≤ 59) ∨ c = 88 ∨ c = 90 ∨ c = 91 ∨ c = 92 ∨ c = 97) ∧ c ≠ 21 ∧ c ≠ 85) → τ c = σ c := fun c q => h1 c q.1 q.2.1 q.2.2
  refine ⟨?_, ?_, ?_, by rw [h2, k 22 (by omega), h3, k 93 (by omega)]; exact g4, by rw [k 8 (by omega), h4]; exact g5, ?_⟩
  · rw [k 86 (by omega)]
    exact rI_to g1 (k _ (by omega)) (fun r hr => k _ (by omega)) (k _ (by omega)) (k _ (by omega)) (k _ (by omega)) (k _ (by omega)) (k _ (by omega)) (k _ (by omega)) (k _ (by omega)) (k _ (by omega))
  · intro j hj; rw [k 23 (by omega), k 89 (by omega)]; exact g2 j hj
  · intro j hj
    have := g3 j hj
    rw [k (77 + 2 * j) (by omega), k (78 + 2 * j) (by omega), k 94 (by omega), k 95 (by omega), k 96 (by omega)]
    exact this
  · rw [k 8 (by omega), k 87 (by omega)]
    rcases g6 with g6 | g6
    · exact Or.inl g6
    · exact Or.inr (rI_to g6 (k _ (by omega)) (fun r hr => k _ (by omega)) (k _ (by omega)) (k _ (by omega)) (k _ (by omega)) (k _ (by omega)) (k _ (by omega)) (k _ (by omega)) (k _ (by omega)) (k _ (by omega)))
theorem rR_fr {σ τ : ab_F} (h : rR σ) (h1 : ∀ c, ¬ scr c → τ c = σ c) : rR τ :=
  rR_to h (fun c a _ _ => h1 c a) (by rw [h1 21 (by unfold scr; omega)]) (by rw [h1 85 (by unfold scr; omega)]) (by rw [h1 85 (by unfold scr; omega)])
/-- the world changes, and scratch -/
theorem rR_w {σ τ : ab_F} (h : rR σ) (h1 : ∀ c, ¬ scr c → (c < 38 ∨ 48 < c) → c ≠ 86 → τ c = σ c) (u : Nat → Nat → Nat) (hB : rB 9999 u) (hC : wC u τ 38) (hM : rM u (τ 86)) (hz : τ 38 5 = τ 86 2) (hs : ∀ k, (116 ≤ k ∨ k = 3 ∨ k = 4) → τ 86 k = σ 86 k) : rR τ := by
  obtain ⟨g1, g2, g3, g4, g5, g6⟩ := h
  have k : ∀ c, (¬ (c = 17 ∨ c = 18 ∨ c = 19 ∨ c = 34 ∨ c = 37 ∨ (49 ≤ c ∧ c ≤ 59) ∨ c = 88 ∨ c = 90 ∨ c = 91 ∨ c = 92 ∨ c = 97) ∧ (c < 38 ∨ 48 < c) ∧ c ≠ 86) → τ c = σ c := fun c q => h1 c q.1 q.2.1 q.2.2
  refine ⟨?_, ?_, ?_, by rw [k 21 (by omega), k 22 (by omega), k 85 (by omega), k 93 (by omega)]; exact g4, by rw [k 8 (by omega), k 85 (by omega)]; exact g5, ?_⟩
  · obtain ⟨_, _, q1, q2, q3, q4⟩ := g1
    refine ⟨⟨u, hB, wC_to hC, hM⟩, hz, ?_, ?_, ?_, ?_⟩
    · rw [k 9 (by omega), k 10 (by omega), hs 3 (by omega), show (fun i => τ 86 (366 + i)) = (fun i => σ 86 (366 + i)) from funext (fun i => hs _ (by omega))]; exact q1
    · rw [k 13 (by omega), k 14 (by omega), hs 4 (by omega), show (fun i => τ 86 (426 + i)) = (fun i => σ 86 (426 + i)) from funext (fun i => hs _ (by omega))]; exact q2
    · rw [k 32 (by omega), k 33 (by omega)]
      obtain ⟨n, dp, a1, a2, a3, a4, a5, a6, a7⟩ := q3
      exact ⟨n, dp, a1, a2, by rw [hs _ (by omega)]; exact a3, a4, a5, a6, fun i hi => by rw [hs _ (by omega), hs _ (by omega)]; exact a7 i hi⟩
    · rw [k 35 (by omega), k 36 (by omega)]
      obtain ⟨n, dp, a1, a2, a3, a4, a5, a6, a7⟩ := q4
      exact ⟨n, dp, a1, a2, by rw [hs _ (by omega)]; exact a3, a4, a5, a6, fun i hi => by rw [hs _ (by omega), hs _ (by omega)]; exact a7 i hi⟩
  · intro j hj; rw [k 23 (by omega), k 89 (by omega)]; exact g2 j hj
  · intro j hj
    have := g3 j hj
    rw [k (77 + 2 * j) (by omega), k (78 + 2 * j) (by omega), k 94 (by omega), k 95 (by omega), k 96 (by omega)]
    exact this
  · rw [k 8 (by omega), k 87 (by omega)]
    rcases g6 with g6 | g6
    · exact Or.inl g6
    · exact Or.inr (rI_to g6 (k _ (by omega)) (fun r hr => k _ (by omega)) (k _ (by omega)) (k _ (by omega)) (k _ (by omega)) (k _ (by omega)) (k _ (by omega)) (k _ (by omega)) (k _ (by omega)) (k _ (by omega)))
/-- one entry of the world is set, in both -/
theorem rR_set {σ : ab_F} (h : rR σ) {r i v : Nat} (hv : val r i) (hb : v ≤ mx 9999 r i) : rR (ab_u (ab_u σ (38 + r) i (nI v)) 86 (ix r i) (nI v)) := by
  obtain ⟨u, hB, hC, hM⟩ := h.1.1
  have hr : r ≤ 10 := by rcases hv with q | q | q | q <;> omega
  have hx := ix_lt hv
  refine rR_w h (fun c _ a1 a2 => by rw [ab_u_ne _ _ _ a2, ab_u_ne _ _ _ (by omega)]) (uu u r i v) (rB_set hB hb) ?_ ?_ ?_ ?_
  · have := wC_set (r := r) (i := i) (v := v) (wC_of hC)
    intro r2 j hj
    rw [ab_u_ne _ _ _ (by have : r2 ≤ 10 := by { rcases hj with q | q | q | q <;> omega }; omega)]
    exact this r2 j hj
  · refine wM_set hv ?_
    rw [ab_u_ne _ _ _ (by omega)]; exact hM
  · rw [ab_u_ne _ _ _ (by omega), u_rd _ _ _ _ _ (by omega), ab_u_ne _ _ _ (by omega : 86 ≠ 38 + r)]
    by_cases q : r = 0
    · subst q
      rw [show 38 + 0 = 38 from rfl, u_rd _ _ _ _ _ (by rcases hv with ⟨_, q | q | q⟩ | q | q | q <;> omega)]
      exact h.1.2.1
    · rw [ab_u_ne _ _ _ (by omega : 38 ≠ 38 + r)]; exact h.1.2.1
  · intro k hk
    rw [u_rd _ _ _ _ _ (by omega), ab_u_ne _ _ _ (by omega : 86 ≠ 38 + r)]
/-! arguments -/
theorem ou_n {j n : Nat} (σ : ab_F) (h : j ≤ n) (hn : n < 2 ^ 31) : f_X11_outside (nI j) (nI n) σ = some false := by
  unfold f_X11_outside
  rw [if_neg (nI_pos (by omega)), if_pos (nI_le h hn)]
theorem in_n {j l n : Nat} (σ : ab_F) (h0 : l ≤ j) (h : j ≤ n) (hn : n < 2 ^ 31) : f_X12_in (nI j) (nI l) (nI n) σ = some true := by
  unfold f_X12_in
  rw [if_neg (nI_nlt h0 (by omega)), if_neg (nI_nlt h hn)]
/-- out of 0 .. n, for both -/
def Out (x : Int32) (n : Nat) : Prop := (∀ σ, f_X11_outside x (nI n) σ = some true) ∧ ∀ σ, f_X12_in x (nI 0) (nI n) σ = some false
theorem gd (x : Int32) (n : Nat) (hn : n < 2 ^ 31) : (∃ j : Nat, j ≤ n ∧ x = nI j) ∨ Out x n := by
  rcases rng x n hn with h | h
  · exact Or.inl h
  · refine Or.inr ⟨fun σ => ?_, fun σ => ?_⟩
    · unfold f_X11_outside
      rcases h with h | h
      · rw [if_pos h]
      · by_cases h0 : x < 0
        · rw [if_pos h0]
        · rw [if_neg h0, if_neg h]
    · unfold f_X12_in
      rw [nI_0]
      rcases h with h | h
      · rw [if_pos h]
      · by_cases h0 : x < 0
        · rw [if_pos h0]
        · rw [if_neg h0, if_pos (Int32.not_le.mp h)]
/-- no person, for both -/
def Nob (x : Int32) (p : Nat) : Prop := (∀ σ : ab_F, σ 38 11 = nI p → f_X11_nobody x σ = some true) ∧ ∀ σ : ab_F, σ 86 5 = nI p → f_X12_isOne x σ = some false
theorem nb_n {j p : Nat} {σ : ab_F} (hp : p < 2 ^ 31) (h : j < p) (hs : σ 38 11 = nI p) : f_X11_nobody (nI j) σ = some false := by
  unfold f_X11_nobody
  rw [hs, if_neg (nI_pos (by omega)), if_pos (nI_lt h hp)]
theorem is_n {j p : Nat} {σ : ab_F} (hp : p < 2 ^ 31) (h : j < p) (hs : σ 86 5 = nI p) : f_X12_isOne (nI j) σ = some true := by
  unfold f_X12_isOne
  rw [hs]
  simp (disch := omega) only [lit, pk_sub, in_n, bi]
theorem go (x : Int32) (p : Nat) (hp : p ≤ 8) : (∃ j : Nat, j < p ∧ x = nI j) ∨ Nob x p := by
  by_cases h0 : x < 0
  · refine Or.inr ⟨fun σ hs => ?_, fun σ hs => ?_⟩
    · unfold f_X11_nobody; rw [if_pos h0]
    · unfold f_X12_isOne f_X12_in; rw [if_pos h0]; rfl
  · obtain ⟨j, h1, rfl⟩ := nI_of h0
    by_cases h2 : j < p
    · exact Or.inl ⟨j, h2, rfl⟩
    · refine Or.inr ⟨fun σ hs => ?_, fun σ hs => ?_⟩
      · unfold f_X11_nobody; rw [hs, if_neg h0, if_neg (nI_nlt (by omega) (by omega))]
      · unfold f_X12_isOne f_X12_in
        rw [hs, if_neg h0]
        by_cases h3 : p = 0
        · subst h3
          rw [if_pos]; rfl
          rw [Int32.lt_iff_toInt_lt, nI_toInt h1]
          have : (nI 0 - 1 : Int32).toInt = -1 := by decide
          omega
        · rw [show (1 : Int32) = nI 1 from rfl, pk_sub (by omega), if_pos (nI_lt (by omega) (by omega))]; rfl
/-- both refuse -/
theorem er2 {σ : ab_F} {f g : ab_F → Option (Int32 × ab_F)} (h : rR σ) (k : Nat) (hk : k < 7) (hf : f σ = f_X11_refuse (nI k) σ) (hg : ∀ τ : ab_F, (∀ c, c ≠ 23 → τ c = σ c) → g τ = f_X12_error (nI k) τ) : ∃ (a : Int32) (σ1 σ2 : ab_F), f σ = some (a, σ1) ∧ g σ1 = some (a, σ2) ∧ rR σ2 := by
  obtain ⟨a, σ1, σ2, e1, e2, e3⟩ := ok_er h k hk
  refine ⟨a, σ1, σ2, hf.trans e1, ?_, e3⟩
  rw [hg σ1 ?_, e2]
  rw [rf_n k hk] at e1
  have e4 := (Prod.mk.inj (Option.some.inj e1)).2
  subst e4
  intro c hc
  exact ab_u_ne _ _ _ hc
/-- the world that both are in -/
theorem rR_u {σ : ab_F} (h : rR σ) : ∃ u, rB 9999 u ∧ wC u σ 38 ∧ rM u (σ 86) := by
  obtain ⟨u, hB, hC, hM⟩ := h.1.1
  exact ⟨u, hB, wC_of hC, hM⟩
/-! a test is passed, or not -/
theorem gs_f {α : Type} {x : Option Bool} {A B : Option α} (h : x = some false) : (x.bind fun q => if ab_b q = 0 then A else B) = A := by subst h; rfl
theorem gs_t {α : Type} {x : Option Bool} {A B : Option α} (h : x = some true) : (x.bind fun q => if ab_b q = 0 then A else B) = B := by subst h; rfl
