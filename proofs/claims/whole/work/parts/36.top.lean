/-! what is tried in thought leaves only scratch behind -/
def dy_fr (σ τ : ab_F) : Prop := ∀ c, ¬ scr c → τ c = σ c
theorem dy_r (σ : ab_F) : dy_fr σ σ := fun _ _ => rfl
theorem dy_t {a b c : ab_F} (h : dy_fr a b) (g : dy_fr b c) : dy_fr a c := fun e he => by rw [g e he, h e he]
theorem dy_C {σ σ2 : ab_F} (h : frC 49 σ σ2) : dy_fr σ σ2 := fun c hc => by
  unfold scr at hc
  exact h.1 c (by omega) (by omega) (by omega)
theorem dy_u {σ : ab_F} {c k : Nat} {x : Int32} (hc : 49 ≤ c ∧ c ≤ 59) : dy_fr σ (ab_u σ c k x) := fun e he => by
  unfold scr at he
  exact ab_u_ne _ _ _ (by omega)
theorem dy_top {σ : ab_F} {F G : ab_F → Option (Int32 × ab_F)} (h : rR σ) (H : ∀ τ : ab_F, (∀ c, ¬ scr c → c ≠ 23 → τ c = σ c) → (∃ (a : Int32) (σ1 τ1 : ab_F), F σ = some (a, σ1) ∧ G τ = some (a, τ1) ∧ dy_fr σ σ1 ∧ dy_fr τ τ1) ∨ (∃ (k : Nat) (σ1 τ1 : ab_F), k < 7 ∧ F σ = f_X11_refuse (nI k) σ1 ∧ G τ = f_X12_error (nI k) τ1 ∧ dy_fr σ σ1 ∧ dy_fr τ τ1)) : ∃ (a : Int32) (σ1 σ2 : ab_F), F σ = some (a, σ1) ∧ G σ1 = some (a, σ2) ∧ rR σ2 := by
  have H1 : ∃ (a : Int32) (σ1 : ab_F), F σ = some (a, σ1) ∧ ∀ c, ¬ scr c → c ≠ 23 → σ1 c = σ c := by
    rcases H σ (fun _ _ _ => rfl) with ⟨a, σ1, _, e, _, f, _⟩ | ⟨k, σ1, _, hk, e, _, f, _⟩
    · exact ⟨a, σ1, e, fun c h1 _ => f c h1⟩
    · refine ⟨_, _, e.trans (rf_n k hk σ1), fun c h1 h2 => ?_⟩
      rw [ab_u_ne _ _ _ h2, f c h1]
  obtain ⟨a, s1, e1, f1⟩ := H1
  rcases H s1 f1 with ⟨a', σ1, τ1, e1', e2, f2, f3⟩ | ⟨k, σ1, τ1, hk, e1', e2, f2, f3⟩
  · rw [e1] at e1'
    obtain ⟨h1, h2⟩ := Prod.mk.inj (Option.some.inj e1')
    subst h1
    subst h2
    exact ⟨a, s1, τ1, e1, e2, rR_fr h (fun c hc => by rw [f3 c hc, f2 c hc])⟩
  · have g := rR_fr h f2
    obtain ⟨a0, x1, x2, q1, q2, q3⟩ := ok_er g k hk
    have q1' : some (a, s1) = some (a0, x1) := by rw [← e1, e1', q1]
    obtain ⟨h1, h2⟩ := Prod.mk.inj (Option.some.inj q1')
    subst h1
    subst h2
    rw [re_n k hk] at q2 e2
    obtain ⟨h3, h4⟩ := Prod.mk.inj (Option.some.inj q2)
    refine ⟨a, s1, ab_u τ1 89 k (τ1 89 k + 1), e1, by rw [e2, h3], rR_fr q3 (fun c hc => ?_)⟩
    rw [← h4]
    by_cases hc9 : c = 89
    · subst hc9; rw [ab_u_same, ab_u_same, f3 89 hc]
    · rw [ab_u_ne _ _ _ hc9, ab_u_ne _ _ _ hc9, f3 c hc]
theorem dy_topW {σ : ab_F} {F G : ab_F → Option (Int32 × ab_F)} (h : rR σ) (H : ∀ τ : ab_F, (∀ c, ¬ scr c → (c < 38 ∨ 48 < c) → τ c = σ c) → ∃ (a : Int32) (σ1 τ1 : ab_F) (u : Nat → Nat → Nat), F σ = some (a, σ1) ∧ G τ = some (a, τ1) ∧ (∀ c, ¬ scr c → (c < 38 ∨ 48 < c) → σ1 c = σ c) ∧ (∀ c, ¬ scr c → c ≠ 86 → τ1 c = τ c) ∧ (∀ k, (116 ≤ k ∨ k = 3 ∨ k = 4) → τ1 86 k = τ 86 k) ∧ rB 9999 u ∧ wC u σ1 38 ∧ rM u (τ1 86) ∧ σ1 38 5 = τ1 86 2) : ∃ (a : Int32) (σ1 σ2 : ab_F), F σ = some (a, σ1) ∧ G σ1 = some (a, σ2) ∧ rR σ2 := by
  obtain ⟨a, s1, _, _, e1, _, f1, _⟩ := H σ (fun _ _ _ => rfl)
  obtain ⟨a', σ1, τ1, u, e1', e2, _, f2, f3, hB, hC, hM, hz⟩ := H s1 f1
  rw [e1] at e1'
  obtain ⟨h1, h2⟩ := Prod.mk.inj (Option.some.inj e1')
  subst h1
  subst h2
  refine ⟨a, s1, τ1, e1, e2, rR_w h (fun c h1 h2 h3 => by rw [f2 c h1 h3, f1 c h1 h2]) u hB ?_ hM ?_ (fun k hk => by rw [f3 k hk, f1 86 (by unfold scr; omega) (by omega)])⟩
  · exact wC_fr hC (fun e h1 h2 => f2 e (by unfold scr; omega) (by omega))
  · rw [f2 38 (by unfold scr; omega) (by omega)]; exact hz
/-- where both begin -/
theorem dy_cx {σ τ : ab_F} (h : rR σ) (ht : τ 86 = σ 86) : ∃ u, rB 9999 u ∧ wC u σ 38 ∧ rM u (τ 86) ∧ TX σ τ := by
  obtain ⟨u, hB, hC, hM⟩ := rR_u h
  refine ⟨u, hB, hC, by rw [ht]; exact hM, ?_⟩
  unfold TX
  rw [ht]
  exact ⟨h.1.2.2.2.2.1, h.1.2.2.2.2.2⟩
theorem dy_cp {u : Nat → Nat → Nat} {σ : ab_F} (hC : wC u σ 38) : ∃ τ : ab_F, f_X9_copyFrom_49_38 σ = some τ ∧ wC u τ 49 ∧ dy_fr σ τ := by
  obtain ⟨τ, e1, e2, _, e4⟩ := cW_49_38 σ
  refine ⟨τ, e1, ?_, fun c hc => ?_⟩
  · refine wC_of (fun r j hj => ?_)
    rw [e2 r j hj]
    exact wC_to hC r j hj
  · unfold scr at hc
    exact e4 c (by omega) (by omega)
/-- the model's numbers laid aside -/
def dy_sv (τ0 τ : ab_F) : Prop := (∀ c, ¬ scr c → c ≠ 86 → τ c = τ0 c) ∧ (∀ j, j < 116 → τ 88 j = τ0 86 j) ∧ ∀ j, 116 ≤ j → τ 86 j = τ0 86 j
theorem sv_S (τ0 : ab_F) : ∃ τ : ab_F, f_X12_saves τ0 = some τ ∧ dy_sv τ0 τ ∧ τ 86 = τ0 86 ∧ dy_fr τ0 τ := by
  refine ⟨_, k_saves τ0, ⟨fun c h1 h2 => ?_, fun j hj => ?_, fun j hj => ?_⟩, ?_, fun c hc => ?_⟩
  · exact ab_r_ne _ _ (by unfold scr at h1; omega)
  · rw [ab_r_same]; exact if_pos hj
  · rw [ab_r_ne _ _ (by omega)]
  · rw [ab_r_ne _ _ (by omega)]
  · exact ab_r_ne _ _ (by unfold scr at hc; omega)
theorem sv_B {τ0 τ : ab_F} (h : dy_sv τ0 τ) : ∃ τ2 : ab_F, f_X12_putsBack τ = some τ2 ∧ dy_sv τ0 τ2 ∧ τ2 86 = τ0 86 ∧ dy_fr τ0 τ2 := by
  obtain ⟨h1, h2, h3⟩ := h
  have e : (ab_r τ 86 (fun j => if j < 116 then τ 88 j else τ 86 j)) 86 = τ0 86 := by
    rw [ab_r_same]
    funext j
    by_cases hj : j < 116
    · rw [if_pos hj]; exact h2 j hj
    · rw [if_neg hj]; exact h3 j (by omega)
  refine ⟨_, k_putsBack τ, ⟨fun c c1 c2 => ?_, fun j hj => ?_, fun j hj => ?_⟩, e, fun c hc => ?_⟩
  · rw [ab_r_ne _ _ c2]; exact h1 c c1 c2
  · rw [ab_r_ne _ _ (by omega)]; exact h2 j hj
  · rw [e]
  · by_cases c6 : c = 86
    · subst c6; exact e
    · rw [ab_r_ne _ _ c6]; exact h1 c hc c6
theorem sv_M {τ0 τ τ2 : ab_F} (h : dy_sv τ0 τ) (f : frM τ τ2) : dy_sv τ0 τ2 := by
  obtain ⟨h1, h2, h3⟩ := h
  refine ⟨fun c c1 c2 => ?_, fun j hj => ?_, fun j hj => ?_⟩
  · rw [f.1 c c2 (by unfold scr at c1; omega) (by unfold scr at c1; omega)]; exact h1 c c1 c2
  · rw [f.1 88 (by omega) (by omega) (by omega)]; exact h2 j hj
  · rw [f.2 j (by omega)]; exact h3 j hj
theorem sv_U {τ0 τ : ab_F} {k : Nat} {x : Int32} (h : dy_sv τ0 τ) (hk : k < 116) : dy_sv τ0 (ab_u τ 86 k x) := by
  obtain ⟨h1, h2, h3⟩ := h
  refine ⟨fun c c1 c2 => ?_, fun j hj => ?_, fun j hj => ?_⟩
  · rw [ab_u_ne _ _ _ c2]; exact h1 c c1 c2
  · rw [ab_u_ne _ _ _ (by omega)]; exact h2 j hj
  · rw [u_rd _ _ _ _ _ (by omega)]; exact h3 j hj
/-- texts stay where only scratch and the world's numbers change -/
theorem TX_x {σ τ x y : ab_F} (h : TX σ τ) (h1 : dy_fr σ x) (h2 : ∀ j, 116 ≤ j → y 86 j = τ 86 j) : TX x y := by
  refine ⟨?_, ?_⟩
  · rw [h1 32 (by unfold scr; omega), h1 33 (by unfold scr; omega)]
    exact rT_to h.1 (fun k hk _ => h2 k (by omega))
  · rw [h1 35 (by unfold scr; omega), h1 36 (by unfold scr; omega)]
    exact rT_to h.2 (fun k hk _ => h2 k (by omega))
theorem wC_x {u : Nat → Nat → Nat} {σ x : ab_F} (hC : wC u σ 38) (h1 : dy_fr σ x) : wC u x 38 := wC_fr hC (fun e h2 h3 => h1 e (by unfold scr; omega))
/-! what is known -/
def knF (x : Nat → Nat) : Nat → Nat → Nat → Nat
  | 0, _, a => a
  | d + 1, i, a => knF x d (i + 1) (a ||| x i)
theorem knF_le (x : Nat → Nat) : ∀ d i a, a ≤ 4095 → (∀ j, j < i + d → x j ≤ 4095) → knF x d i a ≤ 4095 := by
  intro d
  induction d with
  | zero => intro i a h _; exact h
  | succ d ih =>
    intro i a h hx
    exact ih (i + 1) _ (or_le h (hx i (by omega))) (fun j hj => hx j (by omega))
def kn (u : Nat → Nat → Nat) : Nat := knF (u 10) (u 0 11) 0 0
theorem kn_le {u : Nat → Nat → Nat} {q : Nat} (hB : rB q u) : kn u ≤ 4095 := by
  have hp := b11 hB
  exact knF_le (u 10) (u 0 11) 0 0 (by omega) (fun j hj => bw10 hB (by omega))
theorem m1bit : ∀ i, i < 8 → (((-1 : Int32) >>> (nI i &&& 31)) &&& (1 : Int32)) = 1 := by decide +kernel
theorem knC {u : Nat → Nat → Nat} {σ : ab_F} {w q : Nat} (hC : wC u σ w) (hB : rB q u) (K : Int32 → Option Int32) : ∀ d i n a, i + d = u 0 11 → d < n → f_X9_knownAmong_L4 w (-1) σ K n (nI a) (nI i) = K (nI (knF (u 10) d i a)) := by
  have hp := b11 hB
  intro d
  induction d with
  | zero =>
    intro i n a h1 h2
    obtain ⟨m, rfl⟩ : ∃ m, n = m + 1 := ⟨n - 1, by omega⟩
    rw [f_X9_knownAmong_L4, c0_11 hC, if_pos (nI_le (by omega) (by omega))]
    rfl
  | succ d ih =>
    intro i n a h1 h2
    obtain ⟨m, rfl⟩ : ∃ m, n = m + 1 := ⟨n - 1, by omega⟩
    rw [f_X9_knownAmong_L4, c0_11 hC, if_neg (nI_ge (by omega) (by omega)), if_pos (m1bit i (by omega)), ib_n (by omega) (by omega), ck_t, lt_d, lt_d, cl_n (by omega), c10 hC i (by omega), nx_or, nI_1]
    exact ih _ _ _ (by omega) (by omega)
theorem knM {u : Nat → Nat → Nat} {τ : ab_F} {q : Nat} (hM : rM u (τ 86)) (hB : rB q u) (K : Int32 → Option Int32) : ∀ d i n a, i + d = u 0 11 → d < n → f_X12_knownNow_L4 τ K n (nI a) (nI i) = K (nI (knF (u 10) d i a)) := by
  have hp := b11 hB
  intro d
  induction d with
  | zero =>
    intro i n a h1 h2
    obtain ⟨m, rfl⟩ : ∃ m, n = m + 1 := ⟨n - 1, by omega⟩
    rw [f_X12_knownNow_L4, d0_11 hM, if_pos (nI_le (by omega) (by omega))]
    rfl
  | succ d ih =>
    intro i n a h1 h2
    obtain ⟨m, rfl⟩ : ∃ m, n = m + 1 := ⟨n - 1, by omega⟩
    rw [f_X12_knownNow_L4, d0_11 hM, if_neg (nI_ge (by omega) (by omega)), show f_X12_its (nI i) 4 τ = some (nI (u 10 i)) from its_n hM i 4 (by omega) (by omega), bi, lt_d, lt_d, nx_or, nI_1]
    exact ih _ _ _ (by omega) (by omega)
theorem kn_c {u : Nat → Nat → Nat} {σ : ab_F} {w q : Nat} (hC : wC u σ w) (hB : rB q u) : f_X9_known w σ = some (nI (kn u)) := by
  have hp := b11 hB
  have e : f_X9_knownAmong w (-1) σ = some (nI (kn u)) := by
    unfold f_X9_knownAmong
    exact knC hC hB _ _ 0 ab_fu 0 (by omega) (by unfold ab_fu; omega)
  unfold f_X9_known
  rw [e, bi]
theorem kn_m {u : Nat → Nat → Nat} {τ : ab_F} {q : Nat} (hM : rM u (τ 86)) (hB : rB q u) : f_X12_knownNow τ = some (nI (kn u)) := by
  have hp := b11 hB
  unfold f_X12_knownNow
  exact knM hM hB _ _ 0 ab_fu 0 (by omega) (by unfold ab_fu; omega)
/-- 1 .. n, or not -/
theorem dy_1n (x : Int32) (n : Nat) (hn : n < 2 ^ 31) : (∃ j : Nat, 1 ≤ j ∧ j ≤ n ∧ x = nI j) ∨ ((x < 1 ∨ ¬ x ≤ nI n) ∧ ∀ τ, f_X12_in x 1 (nI n) τ = some false) := by
  have k : (x < 1 ∨ ¬ x ≤ nI n) → ∀ τ, f_X12_in x 1 (nI n) τ = some false := by
    intro h τ
    unfold f_X12_in
    by_cases h1 : x < 1
    · rw [if_pos h1]
    · rw [if_neg h1, if_pos]
      rcases h with h | h
      · exact absurd h h1
      · exact Int32.not_le.mp h
  rcases rng x n hn with ⟨j, hj, rfl⟩ | h
  · by_cases h0 : j = 0
    · subst h0
      have : nI 0 < (1 : Int32) := nI_lt (b := 1) (by omega) (by omega)
      exact Or.inr ⟨Or.inl this, k (Or.inl this)⟩
    · exact Or.inl ⟨j, by omega, hj, rfl⟩
  · have : x < 1 ∨ ¬ x ≤ nI n := by
      rcases h with h | h
      · exact Or.inl (Int32.lt_trans h (by decide))
      · exact Or.inr h
    exact Or.inr ⟨this, k this⟩
/-- the frames of the world's own DAYS -/
theorem dy_C38 {σ σ2 : ab_F} (h : frC 38 σ σ2) : ∀ c, ¬ scr c → (c < 38 ∨ 48 < c) → σ2 c = σ c := fun c hc h2 => h.1 c (by omega) (by unfold scr at hc; omega) (by unfold scr at hc; omega)
theorem dy_M {τ τ2 : ab_F} (h : frM τ τ2) : ∀ c, ¬ scr c → c ≠ 86 → τ2 c = τ c := fun c hc h2 => h.1 c h2 (by unfold scr at hc; omega) (by unfold scr at hc; omega)
theorem n86 : ¬ scr 86 := by unfold scr; omega
theorem dy_q {q : Nat} {u : Nat → Nat → Nat} (h : rB q u) : rB (u 0 3) u := by
  intro r j hj
  have := h r j hj
  unfold mx at this ⊢
  by_cases h0 : r = 0
  · subst h0
    rw [if_pos rfl] at this ⊢
    by_cases h3 : j = 3
    · subst h3; rw [if_pos rfl]; exact Nat.le_refl _
    · rw [if_neg h3] at this ⊢; exact this
  · rw [if_neg h0] at this ⊢; exact this
theorem m_days (a0 : Int32) : ok2 rR (f_X11_days a0) (f_X12_days a0) := by
  intro σ h
  obtain ⟨u, hB, hC, hM⟩ := rR_u h
  have hd := b3 hB
  rcases dy_1n a0 60 (by omega) with ⟨n, h1, h2, rfl⟩ | ⟨hx, hy⟩
  · have c1 : ¬ nI n < (1 : Int32) := nI_nlt (b := 1) h1 (by omega)
    have c2 : nI n ≤ (60 : Int32) := nI_le (b := 60) h2 (by omega)
    have cI : ∀ τ, f_X12_in (nI n) 1 60 τ = some true := fun τ => in_n (l := 1) (n := 60) τ h1 h2 (by omega)
    by_cases hs : u 0 3 + n ≤ 9999
    · refine dy_topW h (fun τ hτ => ?_)
      have e86 : τ 86 = σ 86 := hτ 86 n86 (by omega)
      obtain ⟨_, _, _, _, hT⟩ := dy_cx h e86
      obtain ⟨u2, σ2, τ2, t1, t2, ⟨tC, tM, tB, tT⟩, t4, t5, t6, t7⟩ := daysR (w := 38) (N := n) (q := u 0 3) (by omega) (by omega) (by omega) ⟨hC, (by rw [e86]; exact hM : rM u (τ 86)), dy_q hB, hT⟩
      refine ⟨nI (kn u2), σ2, τ2, u2, ?_, ?_, dy_C38 t6, dy_M t7, fun k hk => t7.2 k (by omega), rB_mono tB (by omega), tC, tM, ?_⟩
      · unfold f_X11_days
        rw [if_neg c1, if_pos c2, c0_3 hC, nI_add, if_pos (show nI (u 0 3 + n) ≤ (9999 : Int32) from nI_le (b := 9999) hs (by omega)), t1, bi, kn_c tC tB, bi]
      · unfold f_X12_days
        rw [gs_t (cI τ), e86, d0_3 hM, nI_add, if_pos (show nI (u 0 3 + n) ≤ (9999 : Int32) from nI_le (b := 9999) hs (by omega)), t2, bi, kn_m tM tB, bi]
      · rw [t6.2, t7.2 2 (by omega), e86]; exact h.1.2.1
    · refine er2 h 3 (by omega) ?_ (fun τ hτ => ?_)
      · unfold f_X11_days
        rw [if_neg c1, if_pos c2, c0_3 hC, nI_add, if_neg (show ¬ nI (u 0 3 + n) ≤ (9999 : Int32) from nI_ge (a := 9999) (by omega) (by omega)), bie]; rfl
      · unfold f_X12_days
        rw [gs_t (cI τ), hτ 86 (by omega), d0_3 hM, nI_add, if_neg (show ¬ nI (u 0 3 + n) ≤ (9999 : Int32) from nI_ge (a := 9999) (by omega) (by omega)), bie]; rfl
  · refine er2 h 1 (by omega) ?_ (fun τ hτ => ?_)
    · unfold f_X11_days
      by_cases c1 : a0 < 1
      · rw [if_pos c1, bie]; rfl
      · rw [if_neg c1, if_neg (show ¬ a0 ≤ 60 from hx.resolve_left c1), bie]; rfl
    · unfold f_X12_days
      rw [gs_f (show f_X12_in a0 1 60 τ = some false from hy τ), bie]; rfl
