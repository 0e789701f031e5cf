/-! WHAT TIES THE CLASS'S CELLS TO THE MODEL'S. u: the document's world in numbers: u 0 3 DAY, u 0 4 SPRING, u 0 11 PEOPLE; rows 1 GROUND, 2 WATER, 3 WALLED, 4 KEPT, 5 RISES, 6 KIND, 7 m, 8 cell, 9 STILTS, 10 KNOWS -/
def val (r j : Nat) : Prop := (r = 0 ∧ (j = 3 ∨ j = 4 ∨ j = 11)) ∨ (1 ≤ r ∧ r ≤ 4 ∧ j < 16) ∨ (r = 5 ∧ j < 6) ∨ (6 ≤ r ∧ r ≤ 10 ∧ j < 8)
/-- where the model has it -/
def ix (r j : Nat) : Nat := if r = 0 then (if j = 3 then 0 else if j = 4 then 1 else 5) else if r ≤ 4 then 16 * (r - 1) + 12 + j else if r = 5 then 6 + j else 76 + 5 * j + (r - 6)
/-- the most that it may be -/
def mx (d r j : Nat) : Nat := if r = 0 then (if j = 3 then d else if j = 4 then 15 else 8) else [0, 9, 99, 1, 4095, 9, 6, 9, 15, 20, 4095].getD r 0
theorem ix_inj {r j r2 j2 : Nat} (h : val r j) (h2 : val r2 j2) (e : ix r j = ix r2 j2) : r = r2 ∧ j = j2 := by
  unfold ix at e
  rcases h with ⟨rfl, h⟩ | ⟨a1, a2, a3⟩ | ⟨rfl, a3⟩ | ⟨a1, a2, a3⟩ <;> rcases h2 with ⟨rfl, h2⟩ | ⟨b1, b2, b3⟩ | ⟨rfl, b3⟩ | ⟨b1, b2, b3⟩
  · rcases h with rfl | rfl | rfl <;> rcases h2 with rfl | rfl | rfl <;> simp_all
  all_goals (repeat' split at e) <;> omega
theorem ix_lt {r j : Nat} (h : val r j) : ix r j < 116 ∧ ix r j ≠ 2 ∧ ix r j ≠ 3 ∧ ix r j ≠ 4 := by
  unfold ix
  rcases h with ⟨rfl, rfl | rfl | rfl⟩ | ⟨a1, a2, a3⟩ | ⟨rfl, a3⟩ | ⟨a1, a2, a3⟩
  · simp
  · simp
  · simp
  all_goals (repeat' split) <;> omega
def rB (d : Nat) (u : Nat → Nat → Nat) : Prop := ∀ r j, val r j → u r j ≤ mx d r j
/-- the class's world: its object w, its rows from b on -/
def rC (u : Nat → Nat → Nat) (σ : ab_F) (w b : Nat) : Prop := ∀ r j, val r j → σ (if r = 0 then w else b + r) j = nI (u r j)
/-- the model's world, in its row of numbers -/
def rM (u : Nat → Nat → Nat) (s : Nat → Int32) : Prop := ∀ r j, val r j → s (ix r j) = nI (u r j)
def uu (u : Nat → Nat → Nat) (r i v : Nat) : Nat → Nat → Nat := fun r2 j => if r2 = r ∧ j = i then v else u r2 j
theorem rB_set {d : Nat} {u : Nat → Nat → Nat} {r i v : Nat} (h : rB d u) (hv : v ≤ mx d r i) : rB d (uu u r i v) := by
  intro r2 j hj
  unfold uu
  by_cases q : r2 = r ∧ j = i
  · rw [if_pos q, q.1, q.2]; exact hv
  · rw [if_neg q]; exact h r2 j hj
theorem rC_set {u : Nat → Nat → Nat} {σ : ab_F} {r i v : Nat} (h : rC u σ 38 38) : rC (uu u r i v) (ab_u σ (38 + r) i (nI v)) 38 38 := by
  intro r2 j hj
  have e := h r2 j hj
  rw [show (if r2 = 0 then 38 else 38 + r2) = 38 + r2 by split <;> omega] at e ⊢
  unfold uu ab_u upd
  by_cases q1 : r2 = r
  · subst q1
    rw [if_pos rfl]
    by_cases q2 : j = i
    · subst q2; rw [if_pos rfl, if_pos ⟨rfl, rfl⟩]
    · rw [if_neg q2, if_neg (fun q => q2 q.2), e]
  · rw [if_neg (by omega), if_neg (fun q => q1 q.1), e]
theorem rM_set {u : Nat → Nat → Nat} {s : Nat → Int32} {r i v : Nat} (hi : val r i) (h : rM u s) : rM (uu u r i v) (upd s (ix r i) (nI v)) := by
  intro r2 j hj
  have e := h r2 j hj
  unfold uu upd
  by_cases q : r2 = r ∧ j = i
  · rw [if_pos (by rw [q.1, q.2]), if_pos q]
  · rw [if_neg (fun z => q (ix_inj hj hi z)), if_neg q, e]
/-- numbers in a row: THE TAPE, those that wait -/
def rP (most : Nat) (ok : Int32 → Prop) (n : Int32) (a : Nat → Int32) (n2 : Int32) (a2 : Nat → Int32) : Prop := ∃ k : Nat, k ≤ most ∧ n = nI k ∧ n2 = nI k ∧ ∀ i, i < k → a i = a2 i ∧ ok (a i)
def okB (x : Int32) : Prop := ∃ j : Nat, j < 256 ∧ x = nI j
def okA (_ : Int32) : Prop := True
/-- a step of a TEXT: the class's number, the model's two; how many values it takes and gives -/
def rS (c1 c2 c3 : Int32) (x y z : Int32) (d d2 : Nat) : Prop :=
  (∃ v : Nat, v ≤ 9999 ∧ x = nI v ∧ y = 0 ∧ z = nI v ∧ d2 = d + 1) ∨ (x = -1 ∧ y = 1 ∧ z = c1 ∧ d2 = d + 1) ∨ (x = -2 ∧ y = 1 ∧ z = c2 ∧ d2 = d + 1) ∨ (x = -3 ∧ y = 1 ∧ z = c3 ∧ d2 = d + 1) ∨ (x = -33 ∧ y = 2 ∧ 1 ≤ d ∧ d2 = d) ∨ (∃ k ∈ [37, 38, 42, 43, 45, 47, 60, 61, 62, 124], x = -(nI k) ∧ y = 3 ∧ z = nI k ∧ 2 ≤ d ∧ d2 + 1 = d)
/-- a TEXT; o: where the model has it -/
def rT (c1 c2 c3 : Int32) (n : Int32) (a : Nat → Int32) (s : Nat → Int32) (o : Nat) : Prop := ∃ (k : Nat) (dp : Nat → Nat), k ≤ 60 ∧ n = nI k ∧ s o = nI k ∧ dp 0 = 0 ∧ (k = 0 ∨ dp k = 1) ∧ (∀ i, i ≤ k → dp i ≤ 60) ∧ ∀ i, i < k → rS c1 c2 c3 (a i) (s (o + 1 + 2 * i)) (s (o + 2 + 2 * i)) (dp i) (dp (i + 1))
/-- all that an IMAGE keeps: world object w, its rows from b on, THE TAPE's row p, the waiting row q, the TEXTS t0, t1; the model's s -/
def rI (σ : ab_F) (w b p q t0 t1 : Nat) (s : Nat → Int32) : Prop := (∃ u, rB 9999 u ∧ rC u σ w b ∧ rM u s) ∧ σ w 5 = s 2 ∧ rP 60 okB (σ p 1) (σ (p + 1)) (s 3) (fun i => s (366 + i)) ∧ rP 24 okA (σ q 1) (σ (q + 1)) (s 4) (fun i => s (426 + i)) ∧ rT 121 107 100 (σ t0 0) (σ (t0 + 1)) s 116 ∧ rT 116 103 100 (σ t1 0) (σ (t1 + 1)) s 241
/-- the SHEETS -/
def rH (σ : ab_F) : Prop := ∀ j, j < 4 → (∃ n : Nat, n ≤ 24 ∧ σ (77 + 2 * j) 1 = nI n ∧ σ 95 j = nI n) ∧ (σ (77 + 2 * j) 2 = σ 94 j ∧ (σ 94 j = 0 ∨ σ 94 j = 8 ∨ σ 94 j = 16 ∨ σ 94 j = 32)) ∧ ∀ i, i < 24 → σ (78 + 2 * j) i = σ 96 (24 * j + i)
def rR (σ : ab_F) : Prop := rI σ 38 38 9 13 32 35 (σ 86) ∧ (∀ k, k < 7 → σ 23 k = σ 89 k) ∧ rH σ ∧ rP 30 okA (σ 21 4) (σ 22) (σ 85 12) (σ 93) ∧ σ 8 11 = σ 85 3 ∧ (σ 8 11 = 0 ∨ rI σ 60 66 11 15 61 64 (σ 87))
/-- cells that rI looks at -/
theorem rI_to {σ τ : ab_F} {w b p q t0 t1 : Nat} {s : Nat → Int32} (h : rI σ w b p q t0 t1 s) (h1 : τ w = σ w) (h2 : ∀ r, r ≤ 10 → τ (b + r) = σ (b + r)) (h3 : τ p = σ p) (h4 : τ (p + 1) = σ (p + 1)) (h5 : τ q = σ q) (h6 : τ (q + 1) = σ (q + 1)) (h7 : τ t0 = σ t0) (h8 : τ (t0 + 1) = σ (t0 + 1)) (h9 : τ t1 = σ t1) (h10 : τ (t1 + 1) = σ (t1 + 1)) : rI τ w b p q t0 t1 s := by
  obtain ⟨⟨u, g1, g2, g3⟩, g4, g5, g6, g7, g8⟩ := h
  refine ⟨⟨u, g1, ?_, g3⟩, by rw [h1]; exact g4, by rw [h3, h4]; exact g5, by rw [h5, h6]; exact g6, by rw [h7, h8]; exact g7, by rw [h9, h10]; exact g8⟩
  intro r j hj
  have e := g2 r j hj
  by_cases q : r = 0
  · rw [if_pos q] at e ⊢; rw [h1]; exact e
  · rw [if_neg q] at e ⊢
    rw [h2 r (by rcases hj with h | h | h | h <;> omega)]; exact e
/-- nothing that counts has changed but ERRORS' tallies -/
theorem rR_er {σ τ : ab_F} (h : rR σ) (h1 : ∀ c, c ≠ 23 → c ≠ 89 → τ c = σ c) (h2 : ∀ k, k < 7 → τ 23 k = τ 89 k) : rR τ := by
  obtain ⟨g1, g2, g3, g4, g5, g6⟩ := h
  refine ⟨?_, h2, ?_, by rw [h1 21 (by decide) (by decide), h1 22 (by decide) (by decide), h1 85 (by decide) (by decide), h1 93 (by decide) (by decide)]; exact g4, by rw [h1 8 (by decide) (by decide), h1 85 (by decide) (by decide)]; exact g5, ?_⟩
  · rw [h1 86 (by decide) (by decide)]
    exact rI_to g1 (h1 _ (by decide) (by decide)) (fun r hr => h1 _ (by omega) (by omega)) (h1 _ (by decide) (by decide)) (h1 _ (by decide) (by decide)) (h1 _ (by decide) (by decide)) (h1 _ (by decide) (by decide)) (h1 _ (by decide) (by decide)) (h1 _ (by decide) (by decide)) (h1 _ (by decide) (by decide)) (h1 _ (by decide) (by decide))
  · intro j hj
    have := g3 j hj
    rw [h1 (77 + 2 * j) (by omega) (by omega), h1 (78 + 2 * j) (by omega) (by omega), h1 94 (by decide) (by decide), h1 95 (by decide) (by decide), h1 96 (by decide) (by decide)]
    exact this
  · rw [h1 8 (by decide) (by decide), h1 87 (by decide) (by decide)]
    rcases g6 with g6 | g6
    · exact Or.inl g6
    · exact Or.inr (rI_to g6 (h1 _ (by decide) (by decide)) (fun r hr => h1 _ (by omega) (by omega)) (h1 _ (by decide) (by decide)) (h1 _ (by decide) (by decide)) (h1 _ (by decide) (by decide)) (h1 _ (by decide) (by decide)) (h1 _ (by decide) (by decide)) (h1 _ (by decide) (by decide)) (h1 _ (by decide) (by decide)) (h1 _ (by decide) (by decide)))
/-! numbers -/
theorem ib_n {i n : Nat} (h : i < n) (hn : n < 2 ^ 31) : ab_ib (nI i) n = true := ab_ib_n h hn
theorem cl_n {i : Nat} (h : i < 2 ^ 31) : (nI i).toNatClampNeg = i := nI_clamp h
/-- an argument within 0 .. n, or not -/
theorem rng (x : Int32) (n : Nat) (hn : n < 2 ^ 31) : (∃ j : Nat, j ≤ n ∧ x = nI j) ∨ (x < 0 ∨ ¬ x ≤ nI n) := by
  by_cases h0 : x < 0
  · exact Or.inr (Or.inl h0)
  · by_cases h1 : x ≤ nI n
    · obtain ⟨j, h2, h3⟩ := nI_of2 (M := nI n) (n := n) (nI_toInt hn) h0 h1
      exact Or.inl ⟨j, h2, h3⟩
    · exact Or.inr (Or.inr h1)
theorem out_n (x m : Int32) (n : Nat) (hn : n < 2 ^ 31) (hm : m = nI n) (σ τ : ab_F) : (∃ j : Nat, j ≤ n ∧ x = nI j ∧ f_X11_outside x m σ = some false ∧ f_X12_in x 0 m τ = some true) ∨ (f_X11_outside x m σ = some true ∧ f_X12_in x 0 m τ = some false) := by
  subst hm
  rcases rng x n hn with ⟨j, hj, rfl⟩ | h
  · refine Or.inl ⟨j, hj, rfl, ?_, ?_⟩
    · unfold f_X11_outside
      rw [if_neg (nI_pos (by omega)), if_pos (nI_le hj hn)]
    · unfold f_X12_in
      rw [if_neg (nI_pos (by omega)), if_neg (nI_nlt hj hn)]
  · refine Or.inr ⟨?_, ?_⟩
    · unfold f_X11_outside
      rcases h with h | h
      · rw [if_pos h]
      · by_cases h0 : x < 0
        · rw [if_pos h0]
        · rw [if_neg h0, if_neg h]
    · unfold f_X12_in
      rcases h with h | h
      · rw [if_pos h]
      · by_cases h0 : x < 0
        · rw [if_pos h0]
        · rw [if_neg h0, if_pos (Int32.not_le.mp h)]
theorem rf_n (k : Nat) (hk : k < 7) (σ : ab_F) : f_X11_refuse (nI k) σ = some (-1000000000 - nI k, ab_u σ 23 k (σ 23 k + 1)) := by
  unfold f_X11_refuse
  rw [ib_n hk (by omega), cl_n (by omega)]
  rfl
theorem re_n (k : Nat) (hk : k < 7) (σ : ab_F) : f_X12_error (nI k) σ = some (-1000000000 - nI k, ab_u σ 89 k (σ 89 k + 1)) := by
  unfold f_X12_error
  rw [ib_n hk (by omega), cl_n (by omega)]
  rfl
/-- both refuse alike -/
theorem ok_er {σ : ab_F} (h : rR σ) (k : Nat) (hk : k < 7) : ∃ (a : Int32) (σ1 σ2 : ab_F), f_X11_refuse (nI k) σ = some (a, σ1) ∧ f_X12_error (nI k) σ1 = some (a, σ2) ∧ rR σ2 := by
  refine ⟨_, _, _, rf_n k hk σ, re_n k hk _, rR_er h (fun c h1 h2 => ?_) (fun i hi => ?_)⟩
  · rw [ab_u_ne _ _ _ h2, ab_u_ne _ _ _ h1]
  · rw [ab_u_ne _ _ _ (by decide : (23 : Nat) ≠ 89), ab_u_same, ab_u_same, ab_u_ne _ _ _ (by decide : (89 : Nat) ≠ 23)]
    have e := h.2.1
    unfold upd
    by_cases q : i = k
    · rw [if_pos q, if_pos q, e k hk]
    · rw [if_neg q, if_neg q, e i hi]
