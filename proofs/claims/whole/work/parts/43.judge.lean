/-! SHEETS -/
theorem rR_h {σ τ : ab_F} (h : rR σ) (h1 : ∀ c, ¬ scr c → (c < 77 ∨ 84 < c) → c ≠ 94 → c ≠ 95 → c ≠ 96 → τ c = σ c) (h2 : rH τ) : rR τ := by
  obtain ⟨g1, g2, g3, g4, g5, g6⟩ := h
  have k : ∀ c, (¬ (c = 17 ∨ c = 18 ∨ c = 19 ∨ c = 34 ∨ c = 37 ∨ (49 ≤ c ∧ c ≤ 59) ∨ c = 88 ∨ c = 90 ∨ c = 91 ∨ c = 92 ∨ c = 97) ∧ (c < 77 ∨ 84 < c) ∧ c ≠ 94 ∧ c ≠ 95 ∧ c ≠ 96) → τ c = σ c := fun c q => h1 c q.1 q.2.1 q.2.2.1 q.2.2.2.1 q.2.2.2.2
  refine ⟨?_, ?_, h2, by rw [k 21 (by omega), k 22 (by omega), k 85 (by omega), k 93 (by omega)]; exact g4, by rw [k 8 (by omega), k 85 (by omega)]; exact g5, ?_⟩
  · rw [k 86 (by omega)]
    exact rI_to g1 (k _ (by omega)) (fun r hr => k _ (by omega)) (k _ (by omega)) (k _ (by omega)) (k _ (by omega)) (k _ (by omega)) (k _ (by omega)) (k _ (by omega)) (k _ (by omega)) (k _ (by omega))
  · intro j hj; rw [k 23 (by omega), k 89 (by omega)]; exact g2 j hj
  · rw [k 8 (by omega), k 87 (by omega)]
    rcases g6 with g6 | g6
    · exact Or.inl g6
    · exact Or.inr (rI_to g6 (k _ (by omega)) (fun r hr => k _ (by omega)) (k _ (by omega)) (k _ (by omega)) (k _ (by omega)) (k _ (by omega)) (k _ (by omega)) (k _ (by omega)) (k _ (by omega)) (k _ (by omega)))
theorem le3 {j : Nat} (h : j ≤ 3) : j = 0 ∨ j = 1 ∨ j = 2 ∨ j = 3 := by omega
/-! judge -/
def gJ (R : Nat) (σ : ab_F) (K : Int32 → Option (Int32 × ab_F)) : Nat → Int32 → Option (Int32 × ab_F)
  | 0, _ => none
  | n + 1, u3 => (if (σ R 1) ≤ u3 then (K u3) else (if (16 : Int32) ≤ u3 then (K u3) else ab_ck (ab_ib u3 24) (ab_ck (ab_ib u3 16) ((if (σ (R + 1) (u3).toNatClampNeg) = (σ 40 (u3).toNatClampNeg) then ab_lt (u3 + (1 : Int32)) (fun x9 => (gJ R σ K n x9)) else (K u3))))))
def gG (R : Nat) (K : Int32 → ab_F → Option (Int32 × ab_F)) : Nat → Int32 → ab_F → Option (Int32 × ab_F)
  | 0, _, _ => none
  | n + 1, u3, σ => (if (σ R 1) ≤ u3 then (K u3 σ) else (if (16 : Int32) ≤ u3 then (K u3 σ) else ab_ck (ab_ib u3 24) ((f_X11_outside (σ (R + 1) (u3).toNatClampNeg) (9 : Int32) σ).bind (fun q7 => (if (ab_b q7) = 0 then ab_ck (ab_ib u3 24) (ab_ck (ab_ib u3 16) (ab_lt (ab_u σ 39 (u3).toNatClampNeg (σ (R + 1) (u3).toNatClampNeg)) (fun (s11 : ab_F) => ab_lt (u3 + (1 : Int32)) (fun x12 => (gG R K n x12 s11))))) else (K u3 σ))))))
theorem gJ_77 (σ : ab_F) (K : Int32 → Option (Int32 × ab_F)) : ∀ n i, f_X11_judge_L36_77 σ K n i = gJ 77 σ K n i := by
  intro n
  induction n with
  | zero => intro i; rfl
  | succ n ih =>
    intro i
    rw [f_X11_judge_L36_77, gJ]
    simp only [ih, Nat.reduceAdd]
theorem gG_77 (K : Int32 → ab_F → Option (Int32 × ab_F)) : ∀ n i σ, f_X11_grounds_L36_77 K n i σ = gG 77 K n i σ := by
  intro n
  induction n with
  | zero => intro i σ; rfl
  | succ n ih =>
    intro i σ
    rw [f_X11_grounds_L36_77, gG]
    simp only [ih, Nat.reduceAdd]
theorem gJ_79 (σ : ab_F) (K : Int32 → Option (Int32 × ab_F)) : ∀ n i, f_X11_judge_L36_79 σ K n i = gJ 79 σ K n i := by
  intro n
  induction n with
  | zero => intro i; rfl
  | succ n ih =>
    intro i
    rw [f_X11_judge_L36_79, gJ]
    simp only [ih, Nat.reduceAdd]
theorem gG_79 (K : Int32 → ab_F → Option (Int32 × ab_F)) : ∀ n i σ, f_X11_grounds_L36_79 K n i σ = gG 79 K n i σ := by
  intro n
  induction n with
  | zero => intro i σ; rfl
  | succ n ih =>
    intro i σ
    rw [f_X11_grounds_L36_79, gG]
    simp only [ih, Nat.reduceAdd]
theorem gJ_81 (σ : ab_F) (K : Int32 → Option (Int32 × ab_F)) : ∀ n i, f_X11_judge_L36_81 σ K n i = gJ 81 σ K n i := by
  intro n
  induction n with
  | zero => intro i; rfl
  | succ n ih =>
    intro i
    rw [f_X11_judge_L36_81, gJ]
    simp only [ih, Nat.reduceAdd]
theorem gG_81 (K : Int32 → ab_F → Option (Int32 × ab_F)) : ∀ n i σ, f_X11_grounds_L36_81 K n i σ = gG 81 K n i σ := by
  intro n
  induction n with
  | zero => intro i σ; rfl
  | succ n ih =>
    intro i σ
    rw [f_X11_grounds_L36_81, gG]
    simp only [ih, Nat.reduceAdd]
theorem gJ_83 (σ : ab_F) (K : Int32 → Option (Int32 × ab_F)) : ∀ n i, f_X11_judge_L36_83 σ K n i = gJ 83 σ K n i := by
  intro n
  induction n with
  | zero => intro i; rfl
  | succ n ih =>
    intro i
    rw [f_X11_judge_L36_83, gJ]
    simp only [ih, Nat.reduceAdd]
theorem gG_83 (K : Int32 → ab_F → Option (Int32 × ab_F)) : ∀ n i σ, f_X11_grounds_L36_83 K n i σ = gG 83 K n i σ := by
  intro n
  induction n with
  | zero => intro i σ; rfl
  | succ n ih =>
    intro i σ
    rw [f_X11_grounds_L36_83, gG]
    simp only [ih, Nat.reduceAdd]
theorem lk_n {j : Nat} {τ : ab_F} (hj : j ≤ 3) : f_X12_lacks (nI j) τ = if τ 94 j = 0 then some 2 else some 0 := by
  unfold f_X12_lacks
  rw [gs_t (isS_n τ hj), ib_n (by omega) (by omega), ck_t, cl_n (by omega)]
theorem lk_x {x : Int32} (τ : ab_F) (h : ∀ σ, f_X12_in x (nI 0) (nI 3) σ = some false) : f_X12_lacks x τ = some 1 := by
  unfold f_X12_lacks
  rw [gs_f (isS_x τ h)]
theorem juL {n j R : Nat} {u : Nat → Nat → Nat} {σ τ : ab_F} (hn : n ≤ 24) (hj : j ≤ 3) (hC : wC u σ 38) (hM : rM u (τ 86)) (e1 : σ R 1 = nI n) (e2 : τ 95 j = nI n) (e3 : ∀ i, i < 24 → σ (R + 1) i = τ 96 (24 * j + i)) : ∀ d i n1 n2, i + d = 16 → d < n1 → d < n2 → ∃ a : Int32, (∀ K, gJ R σ K n1 (nI i) = K a) ∧ ∀ K, f_X12_judge_L18 (nI j) τ K n2 (nI i) = K a := by
  intro d
  induction d with
  | zero =>
    intro i n1 n2 h1 h2 h3
    obtain ⟨m1, rfl⟩ : ∃ m, n1 = m + 1 := ⟨n1 - 1, by omega⟩
    obtain ⟨m2, rfl⟩ : ∃ m, n2 = m + 1 := ⟨n2 - 1, by omega⟩
    have c1 : (16 : Int32) ≤ nI i := nI_le (a := 16) (by omega) (by omega)
    refine ⟨nI i, fun K => ?_, fun K => ?_⟩
    · rw [gJ, if_pos c1, ite_self]
    · rw [f_X12_judge_L18, ib_n (by omega) (by omega), ck_t, if_pos c1, ite_self]
  | succ d ih =>
    intro i n1 n2 h1 h2 h3
    obtain ⟨m1, rfl⟩ : ∃ m, n1 = m + 1 := ⟨n1 - 1, by omega⟩
    obtain ⟨m2, rfl⟩ : ∃ m, n2 = m + 1 := ⟨n2 - 1, by omega⟩
    have c1 : ¬ (16 : Int32) ≤ nI i := nI_ge (b := 16) (by omega) (by omega)
    have ex : (24 : Int32) * nI j + nI i = nI (24 * j + i) := by
      rw [show (24 : Int32) * nI j = nI (24 * j) from pk_mul 24 j, nI_add]
    by_cases q : n ≤ i
    · refine ⟨nI i, fun K => ?_, fun K => ?_⟩
      · rw [gJ, e1, if_pos (nI_le q (by omega))]
      · rw [f_X12_judge_L18, ib_n (by omega) (by omega), ck_t, cl_n (by omega), e2, if_pos (nI_le q (by omega))]
    · have k1 : ∀ K, gJ R σ K (m1 + 1) (nI i) = if σ (R + 1) i = nI (u 2 i) then gJ R σ K m1 (nI (i + 1)) else K (nI i) := fun K => by
        rw [gJ, e1, if_neg (nI_ge (by omega) (by omega)), if_neg c1, ib_n (by omega) (by omega), ck_t, ib_n (by omega) (by omega), ck_t, cl_n (by omega), lt_d, nI_1, show σ 40 i = nI (u 2 i) from c2 hC i (by omega)]
      have k2 : ∀ K, f_X12_judge_L18 (nI j) τ K (m2 + 1) (nI i) = if σ (R + 1) i = nI (u 2 i) then f_X12_judge_L18 (nI j) τ K m2 (nI (i + 1)) else K (nI i) := fun K => by
        rw [f_X12_judge_L18, ib_n (by omega) (by omega), ck_t, cl_n (by omega), e2, if_neg (nI_ge (by omega) (by omega)), if_neg c1, ex, ib_n (by omega) (by omega), ck_t, show (28 : Int32) + nI i = nI (28 + i) from nI_add 28 i, ib_n (by omega) (by omega), ck_t, cl_n (by omega), cl_n (by omega), ← e3 i (by omega), d2 hM i (by omega), lt_d, nI_1]
      by_cases q2 : σ (R + 1) i = nI (u 2 i)
      · obtain ⟨a, t1, t2⟩ := ih (i + 1) m1 m2 (by omega) (by omega) (by omega)
        refine ⟨a, fun K => ?_, fun K => ?_⟩
        · rw [k1, if_pos q2]; exact t1 K
        · rw [k2, if_pos q2]; exact t2 K
      · refine ⟨nI i, fun K => ?_, fun K => ?_⟩
        · rw [k1, if_neg q2]
        · rw [k2, if_neg q2]
theorem m_judge (a0 : Int32) : ok2 rR (f_X11_judge a0) (f_X12_judge a0) := by
  intro σ h
  obtain ⟨u, hB, hC, hM⟩ := rR_u h
  rcases gd a0 3 (by omega) with ⟨j, hj, rfl⟩ | ⟨hx, hy⟩
  · obtain ⟨⟨n, hn, e1, e2⟩, ⟨e3, _⟩, e4⟩ := h.2.2.1 j (by omega)
    have k1 : f_X11_judge (nI j) σ = (if (σ (77 + 2 * j) 2) = 0 then (f_X11_refuse (2 : Int32) σ).bind (fun q11 => (some (q11.1, q11.2))) else gJ (77 + 2 * j) σ (fun (k10 : Int32) => (some (k10, σ))) ab_fu (nI 0)) := by
      unfold f_X11_judge
      rw [gs_f (show f_X11_outside (nI j) 3 σ = some false from ou_n (j := j) (n := 3) σ (by omega) (by omega))]
      rcases le3 hj with rfl | rfl | rfl | rfl
      · rw [if_pos (show nI 0 = (0 : Int32) from rfl), gJ_77]; rfl
      · rw [if_neg (show ¬ nI 1 = (0 : Int32) by decide), if_pos (show nI 1 = (1 : Int32) from rfl), gJ_79]; rfl
      · rw [if_neg (show ¬ nI 2 = (0 : Int32) by decide), if_neg (show ¬ nI 2 = (1 : Int32) by decide), if_pos (show nI 2 = (2 : Int32) from rfl), gJ_81]; rfl
      · rw [if_neg (show ¬ nI 3 = (0 : Int32) by decide), if_neg (show ¬ nI 3 = (1 : Int32) by decide), if_neg (show ¬ nI 3 = (2 : Int32) by decide), if_pos (show nI 3 = (3 : Int32) from rfl), gJ_83]; rfl
    by_cases hz : σ (77 + 2 * j) 2 = 0
    · refine er2 h 2 (by omega) ?_ (fun τ hτ => ?_)
      · rw [k1, if_pos hz, bie]; rfl
      · unfold f_X12_judge
        rw [lk_n hj, hτ 94 (by omega), ← e3, if_pos hz, bi, if_neg (by decide), bie]; rfl
    · obtain ⟨a, t1, t2⟩ := juL (R := 77 + 2 * j) hn hj hC hM e1 e2 (fun i hi => by rw [show 77 + 2 * j + 1 = 78 + 2 * j by omega]; exact e4 i hi) 16 0 ab_fu ab_fu (by omega) (by unfold ab_fu; omega) (by unfold ab_fu; omega)
      refine ⟨a, σ, σ, ?_, ?_, h⟩
      · rw [k1, if_neg hz]; exact t1 _
      · unfold f_X12_judge
        rw [lk_n hj, ← e3, if_neg hz, bi, if_pos rfl]; exact t2 _
  · refine er2 h 1 (by omega) ?_ (fun τ hτ => ?_)
    · unfold f_X11_judge
      rw [gs_t (show f_X11_outside a0 3 σ = some true from hx σ), bie]; rfl
    · unfold f_X12_judge
      rw [lk_x τ hy, bi, if_neg (by decide), bie]; rfl
/-! grounds -/
theorem grL {n j R : Nat} (hn : n ≤ 24) (hj : j ≤ 3) (hR : 49 ≤ R) : ∀ d i n1 n2 (u : Nat → Nat → Nat) (x y : ab_F), i + d = 16 → d < n1 → d < n2 → wC u x 38 → rM u (y 86) → rB 9999 u → x R 1 = nI n → y 95 j = nI n → (∀ i, i < 24 → x (R + 1) i = y 96 (24 * j + i)) → ∃ (a : Int32) (u2 : Nat → Nat → Nat) (x2 y2 : ab_F), (∀ K, gG R K n1 (nI i) x = K a x2) ∧ (∀ K, f_X12_grounds_L18 (nI j) K n2 (nI i) y = K a y2) ∧ wC u2 x2 38 ∧ rM u2 (y2 86) ∧ rB 9999 u2 ∧ (∀ c, c ≠ 39 → x2 c = x c) ∧ (∀ c, c ≠ 86 → y2 c = y c) ∧ ∀ k, (k < 12 ∨ 28 ≤ k) → y2 86 k = y 86 k := by
  intro d
  induction d with
  | zero =>
    intro i n1 n2 u x y h1 h2 h3 hC hM hB e1 e2 e3
    obtain ⟨m1, rfl⟩ : ∃ m, n1 = m + 1 := ⟨n1 - 1, by omega⟩
    obtain ⟨m2, rfl⟩ : ∃ m, n2 = m + 1 := ⟨n2 - 1, by omega⟩
    have c1 : (16 : Int32) ≤ nI i := nI_le (a := 16) (by omega) (by omega)
    refine ⟨nI i, u, x, y, fun K => ?_, fun K => ?_, hC, hM, hB, fun _ _ => rfl, fun _ _ => rfl, fun _ _ => rfl⟩
    · rw [gG, if_pos c1, ite_self]
    · rw [f_X12_grounds_L18, ib_n (by omega) (by omega), ck_t, if_pos c1, ite_self]
  | succ d ih =>
    intro i n1 n2 u x y h1 h2 h3 hC hM hB e1 e2 e3
    obtain ⟨m1, rfl⟩ : ∃ m, n1 = m + 1 := ⟨n1 - 1, by omega⟩
    obtain ⟨m2, rfl⟩ : ∃ m, n2 = m + 1 := ⟨n2 - 1, by omega⟩
    have c1 : ¬ (16 : Int32) ≤ nI i := nI_ge (b := 16) (by omega) (by omega)
    have ex : (24 : Int32) * nI j + nI i = nI (24 * j + i) := by
      rw [show (24 : Int32) * nI j = nI (24 * j) from pk_mul 24 j, nI_add]
    have em := e3 i (by omega)
    by_cases q : n ≤ i
    · refine ⟨nI i, u, x, y, fun K => ?_, fun K => ?_, hC, hM, hB, fun _ _ => rfl, fun _ _ => rfl, fun _ _ => rfl⟩
      · rw [gG, e1, if_pos (nI_le q (by omega))]
      · rw [f_X12_grounds_L18, ib_n (by omega) (by omega), ck_t, cl_n (by omega), e2, if_pos (nI_le q (by omega))]
    · rcases gd (x (R + 1) i) 9 (by omega) with ⟨v, hv, ev⟩ | ⟨hx, hy⟩
      · have hv1 : val 1 i := vc (by omega) (by omega) (by omega)
        obtain ⟨a, u2, x2, y2, t1, t2, t3, t4, t5, t6, t7, t8⟩ := ih (i + 1) m1 m2 (uu u 1 i v) (ab_u x 39 i (nI v)) (ab_u y 86 (12 + i) (nI v)) (by omega) (by omega) (by omega) (wC_set (r := 1) hC) (wM_set (r := 1) hv1 hM) (rB_set hB (show v ≤ 9 from hv)) (by rw [ab_u_ne _ _ _ (by omega)]; exact e1) (by rw [ab_u_ne _ _ _ (by omega)]; exact e2) (fun k hk => by rw [ab_u_ne _ _ _ (by omega), ab_u_ne _ _ _ (by omega)]; exact e3 k hk)
        refine ⟨a, u2, x2, y2, fun K => ?_, fun K => ?_, t3, t4, t5, fun c hc => by rw [t6 c hc, ab_u_ne _ _ _ hc], fun c hc => by rw [t7 c hc, ab_u_ne _ _ _ hc], fun k hk => by rw [t8 k hk, u_rd _ _ _ _ _ (by omega)]⟩
        · rw [gG, e1, if_neg (nI_ge (by omega) (by omega)), if_neg c1, ib_n (by omega) (by omega), ck_t, cl_n (by omega), ev, gs_f (show f_X11_outside (nI v) 9 x = some false from ou_n (j := v) (n := 9) x hv (by omega)), ck_t, ib_n (by omega) (by omega), ck_t, lt_d, lt_d, nI_1]
          exact t1 K
        · rw [f_X12_grounds_L18, ib_n (by omega) (by omega), ck_t, cl_n (by omega), e2, if_neg (nI_ge (by omega) (by omega)), if_neg c1, ex, ib_n (by omega) (by omega), ck_t, cl_n (by omega), ← em, ev, gs_t (show f_X12_in (nI v) 0 9 y = some true from in_n (j := v) (l := 0) (n := 9) y (Nat.zero_le _) (by omega) (by omega)), ck_t, show (12 : Int32) + nI i = nI (12 + i) from nI_add 12 i, ib_n (by omega) (by omega), ck_t, cl_n (by omega), lt_d, lt_d, nI_1]
          exact t2 K
      · refine ⟨nI i, u, x, y, fun K => ?_, fun K => ?_, hC, hM, hB, fun _ _ => rfl, fun _ _ => rfl, fun _ _ => rfl⟩
        · rw [gG, e1, if_neg (nI_ge (by omega) (by omega)), if_neg c1, ib_n (by omega) (by omega), ck_t, cl_n (by omega), gs_t (show f_X11_outside (x (R + 1) i) 9 x = some true from hx x)]
        · rw [f_X12_grounds_L18, ib_n (by omega) (by omega), ck_t, cl_n (by omega), e2, if_neg (nI_ge (by omega) (by omega)), if_neg c1, ex, ib_n (by omega) (by omega), ck_t, cl_n (by omega), ← em, gs_f (show f_X12_in (x (R + 1) i) 0 9 y = some false from hy y)]
theorem m_grounds (a0 : Int32) : ok2 rR (f_X11_grounds a0) (f_X12_grounds a0) := by
  intro σ h
  obtain ⟨u, hB, hC, hM⟩ := rR_u h
  rcases gd a0 3 (by omega) with ⟨j, hj, rfl⟩ | ⟨hx, hy⟩
  · obtain ⟨⟨n, hn, e1, e2⟩, ⟨e3, _⟩, e4⟩ := h.2.2.1 j (by omega)
    have k1 : f_X11_grounds (nI j) σ = (if (σ (77 + 2 * j) 2) = 0 then (f_X11_refuse (2 : Int32) σ).bind (fun q15 => (some (q15.1, q15.2))) else gG (77 + 2 * j) (fun (k13 : Int32) (s14 : ab_F) => (some (k13, s14))) ab_fu (nI 0) σ) := by
      unfold f_X11_grounds
      rw [gs_f (show f_X11_outside (nI j) 3 σ = some false from ou_n (j := j) (n := 3) σ (by omega) (by omega))]
      rcases le3 hj with rfl | rfl | rfl | rfl
      · rw [if_pos (show nI 0 = (0 : Int32) from rfl), gG_77]; rfl
      · rw [if_neg (show ¬ nI 1 = (0 : Int32) by decide), if_pos (show nI 1 = (1 : Int32) from rfl), gG_79]; rfl
      · rw [if_neg (show ¬ nI 2 = (0 : Int32) by decide), if_neg (show ¬ nI 2 = (1 : Int32) by decide), if_pos (show nI 2 = (2 : Int32) from rfl), gG_81]; rfl
      · rw [if_neg (show ¬ nI 3 = (0 : Int32) by decide), if_neg (show ¬ nI 3 = (1 : Int32) by decide), if_neg (show ¬ nI 3 = (2 : Int32) by decide), if_pos (show nI 3 = (3 : Int32) from rfl), gG_83]; rfl
    by_cases hz : σ (77 + 2 * j) 2 = 0
    · refine er2 h 2 (by omega) ?_ (fun τ hτ => ?_)
      · rw [k1, if_pos hz, bie]; rfl
      · unfold f_X12_grounds
        rw [lk_n hj, hτ 94 (by omega), ← e3, if_pos hz, bi, if_neg (by decide), bie]; rfl
    · refine dy_topW h (fun τ hτ => ?_)
      have e86 : τ 86 = σ 86 := hτ 86 n86 (by omega)
      have t94 := hτ 94 (by unfold scr; omega) (by omega)
      have t95 := hτ 95 (by unfold scr; omega) (by omega)
      have t96 := hτ 96 (by unfold scr; omega) (by omega)
      obtain ⟨a, u2, x2, y2, t1, t2, t3, t4, t5, t6, t7, t8⟩ := grL (R := 77 + 2 * j) hn hj (by omega) 16 0 ab_fu ab_fu u σ τ (by omega) (by unfold ab_fu; omega) (by unfold ab_fu; omega) hC (by rw [e86]; exact hM) hB e1 (by rw [t95]; exact e2) (fun i hi => by rw [show 77 + 2 * j + 1 = 78 + 2 * j by omega, t96]; exact e4 i hi)
      refine ⟨a, x2, y2, u2, ?_, ?_, fun c hc h2 => t6 c (by omega), fun c hc h2 => t7 c h2, fun k hk => t8 k (by omega), t5, t3, t4, ?_⟩
      · rw [k1, if_neg hz]; exact t1 _
      · unfold f_X12_grounds
        rw [lk_n hj, t94, ← e3, if_neg hz, bi, if_pos rfl]; exact t2 _
      · rw [t6 38 (by omega), t8 2 (by omega), e86]; exact h.1.2.1
  · refine er2 h 1 (by omega) ?_ (fun τ hτ => ?_)
    · unfold f_X11_grounds
      rw [gs_t (show f_X11_outside a0 3 σ = some true from hx σ), bie]; rfl
    · unfold f_X12_grounds
      rw [lk_x τ hy, bi, if_neg (by decide), bie]; rfl
