/-! READING A TEXT: what ties the class's reading to the model's -/
theorem ix_s (σ τ : ab_F) (nb : Nat) (p3 p4 : Int32) (K : Option Int32) : ∀ n i, f_J1_indexOfChar_4cfef_L7 nb p3 p4 σ K n i = f_J1_indexOfChar_4cfef_L7 nb p3 p4 τ K n i := by
  intro n
  induction n with
  | zero => intro i; rfl
  | succ n ih =>
    intro i
    rw [f_J1_indexOfChar_4cfef_L7, f_J1_indexOfChar_4cfef_L7, lt_d, lt_d, ih]
theorem ix_t (nm : Nat) (a : Int32) (σ τ : ab_F) : f_J0_indexOf_0f7a4 nm a σ = f_J0_indexOf_0f7a4 nm a τ := by
  unfold f_J0_indexOf_0f7a4 f_J0_indexOf_7cf53 f_J1_indexOf_4cfef f_J1_indexOfChar_4cfef
  simp only [ix_s σ τ]
  rfl
def nmI (c1 c2 c3 b : Nat) : Int32 := if b = c1 then 0 else if b = c2 then 1 else if b = c3 then 2 else -1
theorem ix_4 : ∀ b, b < 256 → f_J0_indexOf_0f7a4 4 ((nI b).toUInt32 % 65536).toInt32 (fun _ _ => 0) = some (nmI 121 107 100 b) := by decide +kernel
theorem ix_5 : ∀ b, b < 256 → f_J0_indexOf_0f7a4 5 ((nI b).toUInt32 % 65536).toInt32 (fun _ _ => 0) = some (nmI 116 103 100 b) := by decide +kernel
/-- the byte at hand -/
def rd_n (T : Nat → Nat) (L p : Nat) : Int32 := if p < L then nI (T p) else -1
/-- the names of a use -/
def rd_N (us : Int32) (nm c1 c2 c3 : Nat) : Prop := (∀ b x, b < 256 → f_J0_indexOf_0f7a4 nm ((nI b).toUInt32 % 65536).toInt32 x = some (nmI c1 c2 c3 b)) ∧ (∀ b (y : ab_F), b < 256 → y 85 8 = us → f_X12_isName (nI b) y = some (decide (b = c1) || decide (b = c2) || decide (b = c3))) ∧ (∀ y : ab_F, y 85 8 = us → f_X12_isName (-1) y = some false) ∧ 57 < c1 ∧ 57 < c2 ∧ 57 < c3
/-- THE TAPE, in both -/
def rd_T (us : Int32) (L : Nat) (T : Nat → Nat) (x0 y0 : ab_F) : Prop := L ≤ 60 ∧ x0 9 1 = nI L ∧ y0 86 3 = nI L ∧ (∀ i, i < L → T i < 256 ∧ x0 10 i = nI (T i) ∧ y0 86 (366 + i) = nI (T i)) ∧ y0 85 8 = us
def rd_x (x0 x : ab_F) : Prop := ∀ c, c ≠ 17 → c ≠ 18 → x c = x0 c
def rd_y (y0 y : ab_F) : Prop := (∀ c, c ≠ 85 → c ≠ 90 → y c = y0 c) ∧ ∀ j, j ≠ 5 → j ≠ 6 → j ≠ 7 → y 85 j = y0 85 j
/-- both have read p bytes, have o open and s steps -/
def rd_P (k1 k2 k3 : Int32) (x0 y0 : ab_F) (o p s : Nat) (dp : Nat → Nat) (x y : ab_F) : Prop := x 17 5 = nI p ∧ y 85 5 = nI p ∧ x 17 0 = nI s ∧ y 85 7 = nI s ∧ y 85 6 = nI o ∧ (∀ i, i < s → rS k1 k2 k3 (x 18 i) (y 90 (2 * i)) (y 90 (2 * i + 1)) (dp i) (dp (i + 1))) ∧ rd_x x0 x ∧ rd_y y0 y
/-- both have stopped at a FAULT -/
def rd_F (x0 y0 : ab_F) (L : Nat) (x y : ab_F) : Prop := ∃ p s : Nat, p ≤ L ∧ s ≤ 60 ∧ x 17 5 = nI p ∧ y 85 5 = nI p ∧ x 17 0 = nI s ∧ rd_x x0 x ∧ rd_y y0 y
theorem rd_c {us : Int32} {L : Nat} {T : Nat → Nat} {x0 y0 x : ab_F} {p : Nat} (hT : rd_T us L T x0 y0) (h5 : x 17 5 = nI p) (hf : rd_x x0 x) (hp : p ≤ L) (nm : Nat) : f_X7_next nm x = some (rd_n T L p) := by
  have hL := hT.1
  unfold f_X7_next rd_n
  rw [hf 9 (by omega) (by omega), hT.2.1, h5]
  by_cases q : p < L
  · rw [if_neg (nI_ge q (by omega)), ib_n (by omega) (by omega), ck_t, cl_n (by omega), hf 10 (by omega) (by omega), (hT.2.2.2.1 p q).2.1, if_pos q]
  · rw [if_pos (nI_le (by omega) (by omega)), if_neg q]
theorem rd_m {us : Int32} {L : Nat} {T : Nat → Nat} {x0 y0 y : ab_F} {p : Nat} (hT : rd_T us L T x0 y0) (h5 : y 85 5 = nI p) (hf : rd_y y0 y) (hp : p ≤ L) : f_X12_look y = some (rd_n T L p) := by
  have hL := hT.1
  unfold f_X12_look rd_n
  rw [hf.1 86 (by omega) (by omega), hT.2.2.1, h5]
  by_cases q : p < L
  · rw [if_neg (nI_ge q (by omega)), show (366 : Int32) + nI p = nI (366 + p) from nI_add 366 p, ib_n (by omega) (by omega), ck_t, cl_n (by omega), (hT.2.2.2.1 p q).2.2, if_pos q]
  · rw [if_pos (nI_le (by omega) (by omega)), if_neg q]
theorem rd_a {k1 k2 k3 : Int32} {x0 y0 x y : ab_F} {o p s : Nat} {dp : Nat → Nat} (h : rd_P k1 k2 k3 x0 y0 o p s dp x y) : rd_P k1 k2 k3 x0 y0 o (p + 1) s dp (ab_u x 17 5 (x 17 5 + 1)) (ab_u y 85 5 (y 85 5 + 1)) := by
  obtain ⟨h1, h2, h3, h4, h5, h6, h7, h8⟩ := h
  rw [h1, h2, nI_1]
  refine ⟨u_rk _ _ _ _, u_rk _ _ _ _, ?_, ?_, ?_, fun i hi => ?_, fun c c1 c2 => by rw [ab_u_ne _ _ _ c1]; exact h7 c c1 c2, fun c c1 c2 => by rw [ab_u_ne _ _ _ c1]; exact h8.1 c c1 c2, fun j j1 j2 j3 => by rw [u_rd _ _ _ _ _ j1]; exact h8.2 j j1 j2 j3⟩
  · rw [u_rd _ _ _ _ _ (by omega)]; exact h3
  · rw [u_rd _ _ _ _ _ (by omega)]; exact h4
  · rw [u_rd _ _ _ _ _ (by omega)]; exact h5
  · rw [ab_u_ne _ _ _ (by omega : (18 : Nat) ≠ 17), ab_u_ne _ _ _ (by omega : (90 : Nat) ≠ 85)]; exact h6 i hi
/-- another number of open ones -/
theorem rd_o {k1 k2 k3 : Int32} {x0 y0 x y : ab_F} {o p s : Nat} {dp : Nat → Nat} (h : rd_P k1 k2 k3 x0 y0 o p s dp x y) (o2 : Nat) : rd_P k1 k2 k3 x0 y0 o2 p s dp x (ab_u y 85 6 (nI o2)) := by
  obtain ⟨h1, h2, h3, h4, h5, h6, h7, h8⟩ := h
  refine ⟨h1, ?_, h3, ?_, u_rk _ _ _ _, fun i hi => ?_, h7, fun c c1 c2 => by rw [ab_u_ne _ _ _ c1]; exact h8.1 c c1 c2, fun j j1 j2 j3 => by rw [u_rd _ _ _ _ _ j2]; exact h8.2 j j1 j2 j3⟩
  · rw [u_rd _ _ _ _ _ (by omega)]; exact h2
  · rw [u_rd _ _ _ _ _ (by omega)]; exact h4
  · rw [ab_u_ne _ _ _ (by omega : (90 : Nat) ≠ 85)]; exact h6 i hi
theorem rd_s {k1 k2 k3 : Int32} {x0 y0 x y : ab_F} {o p s : Nat} {dp : Nat → Nat} (h : rd_P k1 k2 k3 x0 y0 o p s dp x y) (hs : s ≤ 59) (nm : Nat) {a b c : Int32} {d2 : Nat} (hS : rS k1 k2 k3 a b c (dp s) d2) : ∃ x2 y2 : ab_F, f_X7_step nm a x = some x2 ∧ f_X12_step1 b c y = some y2 ∧ rd_P k1 k2 k3 x0 y0 o p (s + 1) (updN dp (s + 1) d2) x2 y2 := by
  obtain ⟨h1, h2, h3, h4, h5, h6, h7, h8⟩ := h
  have e1 : (2 : Int32) * nI s = nI (2 * s) := pk_mul 2 s
  refine ⟨ab_u (ab_u x 18 s a) 17 0 (nI (s + 1)), ab_u (ab_u (ab_u y 90 (2 * s) b) 90 (2 * s + 1) c) 85 7 (nI (s + 1)), ?_, ?_, ?_⟩
  · unfold f_X7_step
    rw [h3, if_neg (show ¬ (60 : Int32) ≤ nI s from nI_ge (b := 60) (by omega) (by omega)), ib_n (by omega) (by omega), ck_t, lt_d, lt_d, cl_n (by omega), ab_u_ne _ _ _ (by omega : (17 : Nat) ≠ 18), h3, nI_1]
  · unfold f_X12_step1
    rw [h4, e1, ib_n (by omega) (by omega), ck_t, lt_d, cl_n (by omega), ab_u_ne _ _ _ (by omega : (85 : Nat) ≠ 90), h4, e1, nI_1, ib_n (by omega) (by omega), ck_t, lt_d, lt_d, cl_n (by omega), ab_u_ne _ _ _ (by omega : (85 : Nat) ≠ 90), ab_u_ne _ _ _ (by omega : (85 : Nat) ≠ 90), h4, nI_1]
  · refine ⟨?_, ?_, u_rk _ _ _ _, u_rk _ _ _ _, ?_, fun i hi => ?_, fun c c1 c2 => by rw [ab_u_ne _ _ _ c1, ab_u_ne _ _ _ c2]; exact h7 c c1 c2, fun c c1 c2 => by rw [ab_u_ne _ _ _ c1, ab_u_ne _ _ _ c2, ab_u_ne _ _ _ c2]; exact h8.1 c c1 c2, fun j j1 j2 j3 => by rw [u_rd _ _ _ _ _ j3, ab_u_ne _ _ _ (by omega : (85 : Nat) ≠ 90), ab_u_ne _ _ _ (by omega : (85 : Nat) ≠ 90)]; exact h8.2 j j1 j2 j3⟩
    · rw [u_rd _ _ _ _ _ (by omega), ab_u_ne _ _ _ (by omega : (17 : Nat) ≠ 18)]; exact h1
    · rw [u_rd _ _ _ _ _ (by omega), ab_u_ne _ _ _ (by omega : (85 : Nat) ≠ 90), ab_u_ne _ _ _ (by omega : (85 : Nat) ≠ 90)]; exact h2
    · rw [u_rd _ _ _ _ _ (by omega), ab_u_ne _ _ _ (by omega : (85 : Nat) ≠ 90), ab_u_ne _ _ _ (by omega : (85 : Nat) ≠ 90)]; exact h5
    · rw [ab_u_ne _ _ _ (by omega : (18 : Nat) ≠ 17), ab_u_ne _ _ _ (by omega : (90 : Nat) ≠ 85)]
      by_cases q : i = s
      · subst q
        rw [u_rk, u_rk, u_rd _ _ _ _ _ (by omega : 2 * i ≠ 2 * i + 1), u_rk]
        unfold updN
        rw [if_neg (by omega), if_pos rfl]
        exact hS
      · rw [u_rd _ _ _ _ _ q, u_rd _ _ _ _ (2 * i) (by omega), u_rd _ _ _ _ (2 * i) (by omega), u_rd _ _ _ _ (2 * i + 1) (by omega), u_rd _ _ _ _ (2 * i + 1) (by omega)]
        unfold updN
        rw [if_neg (by omega), if_neg (by omega)]
        exact h6 i (by omega)
/-- the class's step at a FAULT -/
theorem rd_f {x0 y0 x y : ab_F} {L : Nat} (h : rd_F x0 y0 L x y) (nm : Nat) (a : Int32) : ∃ x2 : ab_F, f_X7_step nm a x = some x2 ∧ rd_F x0 y0 L x2 y := by
  have h0 := h
  obtain ⟨p, s, hp, hs, h1, h2, h3, h4, h5⟩ := h
  by_cases q : s = 60
  · subst q
    refine ⟨x, ?_, h0⟩
    unfold f_X7_step
    rw [h3, if_pos (show (60 : Int32) ≤ nI 60 from nI_le (a := 60) (by omega) (by omega))]
  · refine ⟨ab_u (ab_u x 18 s a) 17 0 (nI (s + 1)), ?_, p, s + 1, hp, by omega, ?_, h2, u_rk _ _ _ _, fun c c1 c2 => by rw [ab_u_ne _ _ _ c1, ab_u_ne _ _ _ c2]; exact h4 c c1 c2, h5⟩
    · unfold f_X7_step
      rw [h3, if_neg (show ¬ (60 : Int32) ≤ nI s from nI_ge (b := 60) (by omega) (by omega)), ib_n (by omega) (by omega), ck_t, lt_d, lt_d, cl_n (by omega), ab_u_ne _ _ _ (by omega : (17 : Nat) ≠ 18), h3, nI_1]
    · rw [u_rd _ _ _ _ _ (by omega), ab_u_ne _ _ _ (by omega : (17 : Nat) ≠ 18)]; exact h1
theorem rd_pf {k1 k2 k3 : Int32} {x0 y0 x y : ab_F} {o p s L : Nat} {dp : Nat → Nat} (h : rd_P k1 k2 k3 x0 y0 o p s dp x y) (hp : p ≤ L) (hs : s ≤ 60) : rd_F x0 y0 L x y := ⟨p, s, hp, hs, h.1, h.2.1, h.2.2.1, h.2.2.2.2.2.2.1, h.2.2.2.2.2.2.2⟩
/-- a digit, or none -/
theorem rd_d {us : Int32} {L : Nat} {T : Nat → Nat} {x0 y0 : ab_F} (hT : rd_T us L T x0 y0) (p : Nat) : (p < L ∧ 48 ≤ T p ∧ T p ≤ 57) ∨ ((rd_n T L p < 48 ∨ (57 : Int32) < rd_n T L p) ∧ ∀ τ, f_X12_in (rd_n T L p) 48 57 τ = some false) := by
  by_cases q : p < L
  · have hb := (hT.2.2.2.1 p q).1
    by_cases q1 : 48 ≤ T p
    · by_cases q2 : T p ≤ 57
      · exact Or.inl ⟨q, q1, q2⟩
      · have z : (57 : Int32) < rd_n T L p := by
          unfold rd_n
          rw [if_pos q]; exact nI_lt (a := 57) (by omega) (by omega)
        refine Or.inr ⟨Or.inr z, fun τ => ?_⟩
        unfold f_X12_in
        rw [if_neg, if_pos z]
        unfold rd_n
        rw [if_pos q]; exact nI_nlt (b := 48) (by omega) (by omega)
    · have z : rd_n T L p < 48 := by
        unfold rd_n
        rw [if_pos q]; exact nI_lt (b := 48) (by omega) (by omega)
      refine Or.inr ⟨Or.inl z, fun τ => ?_⟩
      unfold f_X12_in
      rw [if_pos z]
  · have z : rd_n T L p < 48 := by
      unfold rd_n
      rw [if_neg q]; decide
    refine Or.inr ⟨Or.inl z, fun τ => ?_⟩
    unfold f_X12_in
    rw [if_pos z]
/-- numbers -/
theorem rd_nu {us k1 k2 k3 : Int32} {L : Nat} {T : Nat → Nat} {x0 y0 : ab_F} (hT : rd_T us L T x0 y0) (nm o s : Nat) (dp : Nat → Nat) : ∀ d i n1 n2 v p (x y : ab_F), i + d = 4 → d < n1 → d < n2 → v + 1 ≤ 10 ^ i → p ≤ L → rd_P k1 k2 k3 x0 y0 o p s dp x y → ∃ (v2 p2 : Nat) (x2 y2 : ab_F), v2 ≤ 9999 ∧ p ≤ p2 ∧ p2 ≤ L ∧ (0 < d → p < L → 48 ≤ T p → T p ≤ 57 → p < p2) ∧ (∀ K, f_X7_readNumber_L4 nm K n1 (nI v) (nI i) x = K (nI v2) x2) ∧ (∀ rc K, g_X12_one_L46 rc K n2 (nI v) (nI i) y = K (nI v2) y2) ∧ rd_P k1 k2 k3 x0 y0 o p2 s dp x2 y2 := by
  intro d
  induction d with
  | zero =>
    intro i n1 n2 v p x y h1 h2 h3 hv hp h
    obtain ⟨m1, rfl⟩ : ∃ m, n1 = m + 1 := ⟨n1 - 1, by omega⟩
    obtain ⟨m2, rfl⟩ : ∃ m, n2 = m + 1 := ⟨n2 - 1, by omega⟩
    have hi : i = 4 := by omega
    subst hi
    have p1 : (4 : Int32) ≤ nI 4 := nI_le (a := 4) (by omega) (by omega)
    refine ⟨v, p, x, y, by omega, Nat.le_refl _, hp, fun z => absurd z (by omega), fun K => ?_, fun rc K => ?_, h⟩
    · rw [f_X7_readNumber_L4, if_pos p1]
    · rw [g_X12_one_L46, if_pos p1]
  | succ d ih =>
    intro i n1 n2 v p x y h1 h2 h3 hv hp h
    obtain ⟨m1, rfl⟩ : ∃ m, n1 = m + 1 := ⟨n1 - 1, by omega⟩
    obtain ⟨m2, rfl⟩ : ∃ m, n2 = m + 1 := ⟨n2 - 1, by omega⟩
    have p1 : ¬ (4 : Int32) ≤ nI i := nI_ge (b := 4) (by omega) (by omega)
    have hc := rd_c hT h.1 h.2.2.2.2.2.2.1 hp nm
    have hm := rd_m hT h.2.1 h.2.2.2.2.2.2.2 hp
    rcases rd_d hT p with ⟨q, q1, q2⟩ | ⟨q1, q2⟩
    · have en : rd_n T L p = nI (T p) := by unfold rd_n; rw [if_pos q]
      rw [en] at hc hm
      have ev : (10 : Int32) * nI v + nI (T p) - (48 : Int32) = nI (10 * v + T p - 48) := by
        rw [show (10 : Int32) * nI v = nI (10 * v) from pk_mul 10 v, nI_add]
        exact pk_sub (b := 48) (by omega)
      have h10 : 10 ^ (i + 1) = 10 ^ i * 10 := Nat.pow_succ ..
      obtain ⟨v2, p2, x2, y2, t1, t2, t3, t4, t5, t6, t7⟩ := ih (i + 1) m1 m2 (10 * v + T p - 48) (p + 1) _ _ (by omega) (by omega) (by omega) (by omega) (by omega) (rd_a h)
      refine ⟨v2, p2, x2, y2, t1, by omega, t3, fun _ _ _ _ => by omega, fun K => ?_, fun rc K => ?_, t7⟩
      · rw [f_X7_readNumber_L4, if_neg p1, hc, bi, if_neg (show ¬ nI (T p) < (48 : Int32) from nI_nlt (b := 48) (by omega) (by omega)), bi, if_neg (show ¬ (57 : Int32) < nI (T p) from nI_nlt (a := 57) (by omega) (by omega)), bi, ev, lt_d, lt_d, lt_d, nI_1]; exact t5 K
      · rw [g_X12_one_L46, if_neg p1, hm, bi, gs_t (show f_X12_in (nI (T p)) 48 57 y = some true from in_n (j := T p) (l := 48) (n := 57) y q1 q2 (by omega)), bi, ev, lt_d, lt_d, lt_d, nI_1]; exact t6 rc K
    · refine ⟨v, p, x, y, ?_, Nat.le_refl _, hp, ?_, fun K => ?_, fun rc K => ?_, h⟩
      · have : 10 ^ i ≤ 10 ^ 3 := Nat.pow_le_pow_right (by omega) (by omega)
        omega
      · intro _ z1 z2 z3
        have := q2 x
        unfold rd_n at this
        rw [if_pos z1, show f_X12_in (nI (T p)) 48 57 x = some true from in_n (j := T p) (l := 48) (n := 57) x z2 z3 (by omega)] at this
        exact absurd this (by decide)
      · rw [f_X7_readNumber_L4, if_neg p1, hc, bi]
        by_cases z : rd_n T L p < 48
        · rw [if_pos z]
        · rw [if_neg z, bi, if_pos (q1.resolve_left z)]
      · rw [g_X12_one_L46, if_neg p1, hm, bi, gs_f (q2 y)]
