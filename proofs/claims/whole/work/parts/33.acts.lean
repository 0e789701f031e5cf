/-! DOES and MADE -/
theorem byD (w : Nat) (a b c : Int32) (σ τ : ab_F) (h : rT 121 107 100 (σ 32 0) (σ 33) (τ 86) 116) : ∃ (v : Nat) (σ2 τ2 : ab_F), v ≤ 3 ∧ f_X9_doesBy w a b c σ = some (nI v, σ2) ∧ f_X12_givenBy 0 a b c τ = some (nI v, τ2) ∧ (∀ e, e ≠ 34 → σ2 e = σ e) ∧ ∀ e, e ≠ 91 → e ≠ 92 → τ2 e = τ e := by
  obtain ⟨k, dp, hk, e1, e2, d0, dk, hdp, hS⟩ := h
  have g : f_X12_givenBy 0 a b c τ = (f_X12_hasText 0 (ab_u (ab_u (ab_u τ 91 121 a) 91 107 b) 91 100 c)).bind (fun q44 => (if (ab_b q44) = 0 then (f_X12_restOf a (ab_u (ab_u (ab_u τ 91 121 a) 91 107 b) 91 100 c)).bind (fun q48 => (some (q48, ab_u (ab_u (ab_u τ 91 121 a) 91 107 b) 91 100 c))) else (f_X12_worked 0 (ab_u (ab_u (ab_u τ 91 121 a) 91 107 b) 91 100 c)).bind (fun q49 => (f_X12_restOf q49.1 q49.2).bind (fun q53 => (some (q53, q49.2)))))) := rfl
  generalize ht : (ab_u (ab_u (ab_u τ 91 121 a) 91 107 b) 91 100 c) = t at g
  have f1 : ∀ e, e ≠ 91 → t e = τ e := fun e he => by rw [← ht, ab_u_ne _ _ _ he, ab_u_ne _ _ _ he, ab_u_ne _ _ _ he]
  have f86 : t 86 = τ 86 := f1 86 (by omega)
  have n1 : t 91 121 = a := by rw [← ht, u_rd _ _ _ _ _ (by omega), u_rd _ _ _ _ _ (by omega), u_rk]
  have n2 : t 91 107 = b := by rw [← ht, u_rd _ _ _ _ _ (by omega), u_rk]
  have n3 : t 91 100 = c := by rw [← ht, u_rk]
  by_cases hz : k = 0
  · subst hz
    obtain ⟨v, hv, r1, r2⟩ := rest4 a
    refine ⟨v, σ, t, hv, ?_, ?_, fun _ _ => rfl, fun e he _ => f1 e he⟩
    · unfold f_X9_doesBy
      rw [e1, if_pos (by decide), r1, bi]
    · have hh : f_X12_hasText 0 t = some false := by
        unfold f_X12_hasText
        rw [show (116 : Int32) + (125 : Int32) * 0 = nI 116 from rfl, ib_n (by omega) (by omega), ck_t, cl_n (by omega), f86, e2, if_pos (by decide)]
      rw [g, gs_f hh, r2, bi]
  · have dk1 : dp k = 1 := by omega
    obtain ⟨σ2, τ2, z1, z2, z3, z4, z5⟩ := tx 32 116 a b c 121 107 100 k dp (by omega) (by omega) (by omega) (by omega) hk hdp k 0 ab_fu ab_fu σ t (by omega) (by unfold ab_fu; omega) (by unfold ab_fu; omega) e1 (by rw [f86]; exact e2) (by rw [f86]; exact hS) n1 n2 n3 (fun j hj => by rw [d0] at hj; omega)
    rw [d0] at z1 z2
    obtain ⟨v, hv, r1, r2⟩ := rest4 (σ2 34 0)
    have e0 : τ2 92 0 = σ2 34 0 := (z3 0 (by omega)).symm
    refine ⟨v, σ2, τ2, hv, ?_, ?_, fun e he => z4 e he, fun e he he2 => by rw [z5 e he2, f1 e he]⟩
    · have hg : f_X7_gives 32 a b c σ = some (σ2 34 0, σ2) := by
        unfold f_X7_gives
        exact z1 _
      unfold f_X9_doesBy
      rw [e1, if_neg (by rw [show (0 : Int32) = nI 0 from rfl]; exact nI_ge (by omega) (by omega)), hg, bi]
      simp only [r1, bi]
    · have hh : f_X12_hasText 0 t = some true := by
        unfold f_X12_hasText
        rw [show (116 : Int32) + (125 : Int32) * 0 = nI 116 from rfl, ib_n (by omega) (by omega), ck_t, cl_n (by omega), f86, e2, if_neg (by rw [show (0 : Int32) = nI 0 from rfl]; exact nI_ge (by omega) (by omega))]
      have hw : f_X12_worked 0 t = some (σ2 34 0, τ2) := by
        rw [← e0]
        unfold f_X12_worked
        rw [lt_d]
        exact z2 _
      rw [g, gs_t hh, hw, bi]
      simp only [r2, bi]
theorem byM (w : Nat) (a b c : Int32) (σ τ : ab_F) (h : rT 116 103 100 (σ 35 0) (σ 36) (τ 86) 241) : ∃ (v : Nat) (σ2 τ2 : ab_F), v ≤ 20 ∧ f_X9_madeBy w a b c σ = some (nI v, σ2) ∧ f_X12_givenBy 1 a b c τ = some (nI v, τ2) ∧ (∀ e, e ≠ 37 → σ2 e = σ e) ∧ ∀ e, e ≠ 91 → e ≠ 92 → τ2 e = τ e := by
  obtain ⟨k, dp, hk, e1, e2, d0, dk, hdp, hS⟩ := h
  have g : f_X12_givenBy 1 a b c τ = (f_X12_hasText 1 (ab_u (ab_u (ab_u τ 91 116 a) 91 103 b) 91 100 c)).bind (fun q44 => (if (ab_b q44) = 0 then (f_X12_held a 0 20 (ab_u (ab_u (ab_u τ 91 116 a) 91 103 b) 91 100 c)).bind (fun q48 => (some (q48, ab_u (ab_u (ab_u τ 91 116 a) 91 103 b) 91 100 c))) else (f_X12_worked 1 (ab_u (ab_u (ab_u τ 91 116 a) 91 103 b) 91 100 c)).bind (fun q49 => (f_X12_held q49.1 0 20 q49.2).bind (fun q53 => (some (q53, q49.2)))))) := rfl
  generalize ht : (ab_u (ab_u (ab_u τ 91 116 a) 91 103 b) 91 100 c) = t at g
  have f1 : ∀ e, e ≠ 91 → t e = τ e := fun e he => by rw [← ht, ab_u_ne _ _ _ he, ab_u_ne _ _ _ he, ab_u_ne _ _ _ he]
  have f86 : t 86 = τ 86 := f1 86 (by omega)
  have n1 : t 91 116 = a := by rw [← ht, u_rd _ _ _ _ _ (by omega), u_rd _ _ _ _ _ (by omega), u_rk]
  have n2 : t 91 103 = b := by rw [← ht, u_rd _ _ _ _ _ (by omega), u_rk]
  have n3 : t 91 100 = c := by rw [← ht, u_rk]
  by_cases hz : k = 0
  · subst hz
    obtain ⟨v, hv, r1, r2⟩ := held20 a
    refine ⟨v, σ, t, hv, ?_, ?_, fun _ _ => rfl, fun e he _ => f1 e he⟩
    · unfold f_X9_madeBy
      have r := r1 σ
      rw [e1, if_pos (by decide)]
      cases hq : f_J9_min_7cf53 20 a σ with
      | none => rw [hq] at r; cases r
      | some q => rw [hq, bi] at r; rw [bi, r, bi]
    · have hh : f_X12_hasText 1 t = some false := by
        unfold f_X12_hasText
        rw [show (116 : Int32) + (125 : Int32) * 1 = nI 241 from rfl, ib_n (by omega) (by omega), ck_t, cl_n (by omega), f86, e2, if_pos (by decide)]
      rw [g, gs_f hh, r2, bi]
  · have dk1 : dp k = 1 := by omega
    obtain ⟨σ2, τ2, z1, z2, z3, z4, z5⟩ := tx 35 241 a b c 116 103 100 k dp (by omega) (by omega) (by omega) (by omega) hk hdp k 0 ab_fu ab_fu σ t (by omega) (by unfold ab_fu; omega) (by unfold ab_fu; omega) e1 (by rw [f86]; exact e2) (by rw [f86]; exact hS) n1 n2 n3 (fun j hj => by rw [d0] at hj; omega)
    rw [d0] at z1 z2
    obtain ⟨v, hv, r1, r2⟩ := held20 (σ2 37 0)
    have e0 : τ2 92 0 = σ2 37 0 := (z3 0 (by omega)).symm
    refine ⟨v, σ2, τ2, hv, ?_, ?_, fun e he => z4 e he, fun e he he2 => by rw [z5 e he2, f1 e he]⟩
    · have hg : f_X7_gives 35 a b c σ = some (σ2 37 0, σ2) := by
        unfold f_X7_gives
        exact z1 _
      unfold f_X9_madeBy
      have r := r1 σ2
      rw [e1, if_neg (by rw [show (0 : Int32) = nI 0 from rfl]; exact nI_ge (by omega) (by omega)), hg, bi]
      simp only [lt_d]
      cases hq : f_J9_min_7cf53 20 (σ2 37 0) σ2 with
      | none => rw [hq] at r; cases r
      | some q => rw [hq, bi] at r; rw [bi, r, bi]
    · have hh : f_X12_hasText 1 t = some true := by
        unfold f_X12_hasText
        rw [show (116 : Int32) + (125 : Int32) * 1 = nI 241 from rfl, ib_n (by omega) (by omega), ck_t, cl_n (by omega), f86, e2, if_neg (by rw [show (0 : Int32) = nI 0 from rfl]; exact nI_ge (by omega) (by omega))]
      have hw : f_X12_worked 1 t = some (σ2 37 0, τ2) := by
        rw [← e0]
        unfold f_X12_worked
        rw [lt_d]
        exact z2 _
      rw [g, gs_t hh, hw, bi]
      simp only [r2, bi]
/-! those who are down -/
def dnF (x : Nat → Nat) : Nat → Nat → Nat → Nat
  | 0, _, a => a
  | d + 1, i, a => dnF x d (i + 1) (if x i = 0 then a + 1 else a)
theorem dnF_le (x : Nat → Nat) : ∀ d i a, dnF x d i a ≤ a + d := by
  intro d
  induction d with
  | zero => intro i a; exact Nat.le_refl _
  | succ d ih =>
    intro i a
    have := ih (i + 1) (if x i = 0 then a + 1 else a)
    rw [dnF]
    split at this <;> (rename_i q; simp only [q, ↓reduceIte]; omega)
theorem cDn {u : Nat → Nat → Nat} {σ : ab_F} {w q : Nat} (hC : wC u σ w) (hB : rB q u) (K : Int32 → Option Int32) : ∀ d i n a, i + d = u 0 11 → d < n → f_X9_downOnes_L4 w σ K n (nI a) (nI i) = K (nI (dnF (u 9) d i a)) := by
  have hp := b11 hB
  intro d
  induction d with
  | zero =>
    intro i n a h1 h2
    obtain ⟨m, rfl⟩ : ∃ m, n = m + 1 := ⟨n - 1, by omega⟩
    rw [f_X9_downOnes_L4, c0_11 hC, if_pos (nI_le (by omega) (by omega))]
    rfl
  | succ d ih =>
    intro i n a h1 h2
    obtain ⟨m, rfl⟩ : ∃ m, n = m + 1 := ⟨n - 1, by omega⟩
    have b9 := bw9 hB (j := i) (by omega)
    rw [f_X9_downOnes_L4, c0_11 hC, if_neg (nI_ge (by omega) (by omega)), dnF]
    simp (disch := omega) only [lit, ib_n, ck_t, cl_n, c9 hC, nI_eq, lt_d, nI_add]
    by_cases h0 : u 9 i = 0
    · simp only [h0, ↓reduceIte]; exact ih _ _ _ (by omega) (by omega)
    · simp only [h0, ↓reduceIte]; exact ih _ _ _ (by omega) (by omega)
theorem mDn {u : Nat → Nat → Nat} {σ : ab_F} {q : Nat} (hM : rM u (σ 86)) (hB : rB q u) (K : Int32 → Option Int32) : ∀ d i n a, i + d = u 0 11 → d < n → f_X12_downNow_L4 σ K n (nI a) (nI i) = K (nI (dnF (u 9) d i a)) := by
  have hp := b11 hB
  intro d
  induction d with
  | zero =>
    intro i n a h1 h2
    obtain ⟨m, rfl⟩ : ∃ m, n = m + 1 := ⟨n - 1, by omega⟩
    rw [f_X12_downNow_L4, d0_11 hM, if_pos (nI_le (by omega) (by omega))]
    rfl
  | succ d ih =>
    intro i n a h1 h2
    obtain ⟨m, rfl⟩ : ∃ m, n = m + 1 := ⟨n - 1, by omega⟩
    have b9 := bw9 hB (j := i) (by omega)
    rw [f_X12_downNow_L4, d0_11 hM, if_neg (nI_ge (by omega) (by omega)), dnF]
    simp (disch := omega) only [lit, its_n hM, bi, nI_eq, lt_d, nI_add, Nat.reduceAdd, Nat.add_zero]
    by_cases h0 : u 9 i = 0
    · simp only [h0, ↓reduceIte]; exact ih _ _ _ (by omega) (by omega)
    · simp only [h0, ↓reduceIte]; exact ih _ _ _ (by omega) (by omega)
def dn (u : Nat → Nat → Nat) : Nat := dnF (u 9) (u 0 11) 0 0
theorem dn_c {u : Nat → Nat → Nat} {σ : ab_F} {w q : Nat} (hC : wC u σ w) (hB : rB q u) : f_X9_downOnes w σ = some (nI (dn u)) := by
  have hp := b11 hB
  unfold f_X9_downOnes
  exact cDn hC hB _ _ 0 ab_fu 0 (by omega) (by unfold ab_fu; omega)
theorem dn_m {u : Nat → Nat → Nat} {σ : ab_F} {q : Nat} (hM : rM u (σ 86)) (hB : rB q u) : f_X12_downNow σ = some (nI (dn u)) := by
  have hp := b11 hB
  unfold f_X12_downNow
  exact mDn hM hB _ _ 0 ab_fu 0 (by omega) (by unfold ab_fu; omega)
theorem dn_le {u : Nat → Nat → Nat} {q : Nat} (hB : rB q u) : dn u ≤ 8 := by
  have hp := b11 hB
  have := dnF_le (u 9) (u 0 11) 0 0
  unfold dn; omega
/-! what their kinds do -/
def young (x : Nat) : Nat := if bc x ≤ 3 then 1 else 2
def acts (u : Nat → Nat → Nat) (k : Nat) : Nat := if u 6 k = 1 then 3 else if u 6 k = 2 then young (u 10 k) else if u 6 k = 3 then 0 else if u 6 k = 4 then (if u 0 3 % 2 = 0 then 3 else 1) else if u 6 k = 5 then (if dn u ≤ 1 then young (u 10 k) else 2) else if u 6 k = 6 then (if u 7 k ≤ 4 then 0 else 2) else 1
def tall (u : Nat → Nat → Nat) (k : Nat) : Nat := if u 6 k = 1 then 8 else if u 6 k = 2 then 6 - u 7 k / 2 else if u 6 k = 3 then 0 else if u 6 k = 4 then 8 + u 7 k else if u 6 k = 5 then (6 - u 7 k / 2) / 2 else if u 6 k = 6 then bc (u 10 k) else 6
theorem actsM {u : Nat → Nat → Nat} {σ : ab_F} {q k : Nat} (hq : q < 2 ^ 30) (hM : rM u (σ 86)) (hB : rB q u) (hk : k < 8) : f_X12_actsOf (nI k) σ = some (nI (acts u k)) := by
  have b6 := bw6 hB hk
  have b7 := bw7 hB hk
  have b10 := bw10 hB hk
  have b3 := b3 hB
  have bb := bc_le (x := u 10 k) (by omega)
  have bd := dn_le hB
  have hd : u 0 3 - u 0 3 / 2 * 2 = u 0 3 % 2 := by omega
  have i0 : f_X12_its (nI k) 0 σ = some (nI (u 6 k)) := its_n hM k 0 hk (by omega)
  have i1 : f_X12_its (nI k) 1 σ = some (nI (u 7 k)) := its_n hM k 1 hk (by omega)
  have i4 : f_X12_its (nI k) 4 σ = some (nI (u 10 k)) := its_n hM k 4 hk (by omega)
  unfold f_X12_actsOf
  rw [i4, bi, bc_m _ _ (by omega), bi]
  unfold acts young
  by_cases q3 : bc (u 10 k) ≤ 3
  · rw [if_pos (show nI (bc (u 10 k)) ≤ (3 : Int32) from nI_le (b := 3) q3 (by omega)), if_pos q3, i0, bi]
    rcases le6 b6 with e | e | e | e | e | e | e <;> rw [e] <;> simp (disch := omega) only [lit, nI_eq, Nat.reduceEqDiff, ↓reduceIte]
    · simp (disch := omega) only [d0_3 hM, pk_div, pk_mul, pk_sub, hd, nI_eq]
      by_cases z : u 0 3 % 2 = 0 <;> simp only [z, ↓reduceIte]
    · simp (disch := omega) only [dn_m hM hB, bi, nI_leI]
      by_cases z : dn u ≤ 1 <;> simp only [z, ↓reduceIte]
    · rw [show f_X12_its (nI k) (nI 1) σ = some (nI (u 7 k)) from i1, bi]
      simp (disch := omega) only [nI_leI]
      by_cases z : u 7 k ≤ 4 <;> simp only [z, ↓reduceIte]
  · rw [if_neg (show ¬ nI (bc (u 10 k)) ≤ (3 : Int32) from nI_ge (a := 3) (by omega) (by omega)), if_neg q3, i0, bi]
    rcases le6 b6 with e | e | e | e | e | e | e <;> rw [e] <;> simp (disch := omega) only [lit, nI_eq, Nat.reduceEqDiff, ↓reduceIte]
    · simp (disch := omega) only [d0_3 hM, pk_div, pk_mul, pk_sub, hd, nI_eq]
      by_cases z : u 0 3 % 2 = 0 <;> simp only [z, ↓reduceIte]
    · simp (disch := omega) only [dn_m hM hB, bi, nI_leI]
      by_cases z : dn u ≤ 1 <;> simp only [z, ↓reduceIte]
    · rw [show f_X12_its (nI k) (nI 1) σ = some (nI (u 7 k)) from i1, bi]
      simp (disch := omega) only [nI_leI]
      by_cases z : u 7 k ≤ 4 <;> simp only [z, ↓reduceIte]
theorem tallM {u : Nat → Nat → Nat} {σ : ab_F} {q k : Nat} (hM : rM u (σ 86)) (hB : rB q u) (hk : k < 8) : f_X12_tallOf (nI k) σ = some (nI (tall u k)) := by
  have b6 := bw6 hB hk
  have b7 := bw7 hB hk
  have b10 := bw10 hB hk
  unfold f_X12_tallOf
  simp (disch := omega) only [lit, its_n hM, Nat.reduceAdd, bi, bc_m, nI_eq, pk_div, pk_sub, lt_d, nI_add]
  unfold tall
  rcases le6 b6 with e | e | e | e | e | e | e <;> simp only [e, Nat.reduceEqDiff, ↓reduceIte]
theorem actsC {u : Nat → Nat → Nat} {σ : ab_F} {w q k : Nat} (hq : q < 2 ^ 30) (hC : wC u σ w) (hB : rB q u) (hk : k < 8) : f_X9_does w (nI k) σ = f_X9_doesBy w (nI (acts u k)) (nI (bc (u 10 k))) (nI (u 0 3 % 8)) σ := by
  have b6 := bw6 hB hk
  have b7 := bw7 hB hk
  have b10 := bw10 hB hk
  have b3 := b3 hB
  have bb := bc_le (x := u 10 k) (by omega)
  have bd := dn_le hB
  have hd : u 0 3 - u 0 3 / 2 * 2 = u 0 3 % 2 := by omega
  have hd8 : u 0 3 - u 0 3 / 8 * 8 = u 0 3 % 8 := by omega
  unfold f_X9_does
  unfold acts young
  rw [ib_n hk (by omega), ck_t, cl_n (by omega), c6 hC k hk]
  rcases le6 b6 with e | e | e | e | e | e | e <;> rw [e] <;> simp (disch := omega) only [lit, nI_eq, Nat.reduceEqDiff, ↓reduceIte, ib_n, ck_t, cl_n, c10 hC, bc_c, bi, c0_3 hC, pk_div, pk_mul, pk_sub, hd8, bie]
  · rfl
  · rfl
  · unfold f_X10_acts_27 f_X2_acts_27
    simp (disch := omega) only [lit, ib_n, ck_t, cl_n, c10 hC, bc_c, bi, nI_leI]
    by_cases z : bc (u 10 k) ≤ 3 <;> simp only [z, ↓reduceIte, bi]
  · rfl
  · unfold f_X1_acts_29 f_X5_acts_29
    simp (disch := omega) only [lit, c0_3 hC, pk_div, pk_mul, pk_sub, hd, nI_eq, bi]
    by_cases z : u 0 3 % 2 = 0 <;> simp only [z, ↓reduceIte, bi]
  · unfold f_X0_acts_30 f_X10_acts_30 f_X2_acts_30
    simp (disch := omega) only [lit, dn_c hC hB, ib_n, ck_t, cl_n, c10 hC, bc_c, bi, nI_leI]
    by_cases z : dn u ≤ 1 <;> by_cases z2 : bc (u 10 k) ≤ 3 <;> simp only [z, z2, ↓reduceIte, bi]
  · unfold f_X4_acts_31
    simp (disch := omega) only [lit, ib_n, ck_t, cl_n, c7 hC, nI_leI]
    by_cases z : u 7 k ≤ 4 <;> simp only [z, ↓reduceIte, bi]
theorem tallC {u : Nat → Nat → Nat} {σ : ab_F} {w q k : Nat} (hq : q < 2 ^ 30) (hC : wC u σ w) (hB : rB q u) (hk : k < 8) : f_X9_made w (nI k) σ = f_X9_madeBy w (nI (tall u k)) (nI (u 1 (u 8 k))) (nI (u 0 3 % 8)) σ := by
  have b6 := bw6 hB hk
  have b7 := bw7 hB hk
  have b8 := bw8 hB hk
  have b10 := bw10 hB hk
  have b3 := b3 hB
  have hd8 : u 0 3 - u 0 3 / 8 * 8 = u 0 3 % 8 := by omega
  unfold f_X9_made
  unfold tall
  rw [ib_n hk (by omega), ck_t, cl_n (by omega), c6 hC k hk]
  rcases le6 b6 with e | e | e | e | e | e | e <;> rw [e] <;> simp (disch := omega) only [lit, nI_eq, Nat.reduceEqDiff, ↓reduceIte, ib_n, ck_t, cl_n, c8 hC, c1 hC, bi, c0_3 hC, pk_div, pk_mul, pk_sub, hd8, bie]
  · rfl
  · rfl
  · unfold f_X10_tall_27 f_X2_tall_27
    simp (disch := omega) only [lit, ib_n, ck_t, cl_n, c7 hC, bi, pk_div, pk_sub]
  · rfl
  · unfold f_X1_tall_29 f_X5_tall_29 f_X2_tall_29
    simp (disch := omega) only [lit, ib_n, ck_t, cl_n, c7 hC, bi, nI_add, Nat.reduceAdd]
  · unfold f_X0_tall_30 f_X10_tall_30 f_X2_tall_30
    simp (disch := omega) only [lit, ib_n, ck_t, cl_n, c7 hC, bi, pk_div, pk_sub]
  · unfold f_X4_tall_31
    simp (disch := omega) only [lit, ib_n, ck_t, cl_n, c10 hC, bc_c, bi]
theorem doR {u : Nat → Nat → Nat} {σ τ : ab_F} {w q k : Nat} (hq : q < 2 ^ 30) (hC : wC u σ w) (hM : rM u (τ 86)) (hB : rB q u) (hk : k < 8) (h : rT 121 107 100 (σ 32 0) (σ 33) (τ 86) 116) : ∃ (v : Nat) (σ2 τ2 : ab_F), v ≤ 3 ∧ f_X9_does w (nI k) σ = some (nI v, σ2) ∧ f_X12_doesNow (nI k) τ = some (nI v, τ2) ∧ (∀ e, e ≠ 34 → σ2 e = σ e) ∧ ∀ e, e ≠ 91 → e ≠ 92 → τ2 e = τ e := by
  obtain ⟨v, σ2, τ2, hv, f1, f2, f3, f4⟩ := byD w (nI (acts u k)) (nI (bc (u 10 k))) (nI (u 0 3 % 8)) σ τ h
  refine ⟨v, σ2, τ2, hv, by rw [actsC hq hC hB hk]; exact f1, ?_, f3, f4⟩
  have b10 := bw10 hB hk
  have b3 := b3 hB
  have hd8 : u 0 3 - u 0 3 / 8 * 8 = u 0 3 % 8 := by omega
  have hx : τ 86 0 - τ 86 0 / (8 : Int32) * (8 : Int32) = nI (u 0 3 % 8) := by
    rw [d0_3 hM]
    simp (disch := omega) only [lit, pk_div, pk_mul, pk_sub, hd8]
  unfold f_X12_doesNow
  rw [actsM hq hM hB hk, bi, show f_X12_its (nI k) 4 τ = some (nI (u 10 k)) from its_n hM k 4 hk (by omega), bi, bc_m _ _ (by omega), bi, hx, f2, bi]
theorem maR {u : Nat → Nat → Nat} {σ τ : ab_F} {w q k : Nat} (hq : q < 2 ^ 30) (hC : wC u σ w) (hM : rM u (τ 86)) (hB : rB q u) (hk : k < 8) (h : rT 116 103 100 (σ 35 0) (σ 36) (τ 86) 241) : ∃ (v : Nat) (σ2 τ2 : ab_F), v ≤ 20 ∧ f_X9_made w (nI k) σ = some (nI v, σ2) ∧ f_X12_madeNow (nI k) τ = some (nI v, τ2) ∧ (∀ e, e ≠ 37 → σ2 e = σ e) ∧ ∀ e, e ≠ 91 → e ≠ 92 → τ2 e = τ e := by
  obtain ⟨v, σ2, τ2, hv, f1, f2, f3, f4⟩ := byM w (nI (tall u k)) (nI (u 1 (u 8 k))) (nI (u 0 3 % 8)) σ τ h
  refine ⟨v, σ2, τ2, hv, by rw [tallC hq hC hB hk]; exact f1, ?_, f3, f4⟩
  have b8 := bw8 hB hk
  have b3 := b3 hB
  have hd8 : u 0 3 - u 0 3 / 8 * 8 = u 0 3 % 8 := by omega
  have hx : τ 86 0 - τ 86 0 / (8 : Int32) * (8 : Int32) = nI (u 0 3 % 8) := by
    rw [d0_3 hM]
    simp (disch := omega) only [lit, pk_div, pk_mul, pk_sub, hd8]
  unfold f_X12_madeNow
  rw [tallM hM hB hk, bi, show f_X12_its (nI k) 2 τ = some (nI (u 8 k)) from its_n hM k 2 hk (by omega), bi, show (12 : Int32) + nI (u 8 k) = nI (12 + u 8 k) from nI_add 12 _, ib_n (by omega) (by omega), ck_t, cl_n (by omega), d1 hM _ (by omega), hx, f2, bi]
