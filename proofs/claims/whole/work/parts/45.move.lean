/-! move -/
def mvG (R1 R2 : Nat) (a2 a4 a5 : Int32) (σ : ab_F) : Option (Int32 × ab_F) := (if (σ R1 2) = 0 then (f_X11_refuse (2 : Int32) σ).bind (fun q7 => (some (q7.1, q7.2))) else (if (σ R2 2) = 0 then (f_X11_refuse (2 : Int32) σ).bind (fun q22 => (some (q22.1, q22.2))) else (if (σ R1 2) = (σ R2 2) then (f_X11_outside a5 (24 : Int32) σ).bind (fun q10 => (if (ab_b q10) = 0 then (f_X11_outside a2 ((σ R1 1) - a5) σ).bind (fun q13 => (if (ab_b q13) = 0 then (f_X11_outside a4 ((σ R2 1) - a5) σ).bind (fun q16 => (if (ab_b q16) = 0 then ab_ck (ab_cp a2 a4 a5 24 24) (ab_lt (ab_r σ (R2 + 1) (va_cpy (σ (R1 + 1)) (σ (R2 + 1)) (a2).toNatClampNeg (a4).toNatClampNeg (a5).toNatClampNeg)) (fun (s19 : ab_F) => (some (a5, s19)))) else (f_X11_refuse (1 : Int32) σ).bind (fun q20 => (some (q20.1, q20.2))))) else (f_X11_refuse (1 : Int32) σ).bind (fun q15 => (some (q15.1, q15.2))))) else (f_X11_refuse (1 : Int32) σ).bind (fun q12 => (some (q12.1, q12.2))))) else (f_X11_refuse (5 : Int32) σ).bind (fun q21 => (some (q21.1, q21.2))))))
theorem mv_f {j k : Nat} (hj : j ≤ 3) (hk : k ≤ 3) (a2 a4 a5 : Int32) (σ : ab_F) : f_X11_move (nI j) a2 (nI k) a4 a5 σ = mvG (77 + 2 * j) (77 + 2 * k) a2 a4 a5 σ := by
  unfold f_X11_move
  rw [gs_f (show f_X11_outside (nI j) 3 σ = some false from ou_n (j := j) (n := 3) σ (by omega) (by omega)), gs_f (show f_X11_outside (nI k) 3 σ = some false from ou_n (j := k) (n := 3) σ (by omega) (by omega))]
  rcases le3 hj with rfl | rfl | rfl | rfl
  · rcases le3 hk with rfl | rfl | rfl | rfl
    · rw [if_pos (show nI 0 = (0 : Int32) from rfl), if_pos (show nI 0 = (0 : Int32) from rfl)]; rfl
    · rw [if_pos (show nI 0 = (0 : Int32) from rfl), if_neg (show ¬ nI 1 = (0 : Int32) by decide), if_pos (show nI 1 = (1 : Int32) from rfl)]; rfl
    · rw [if_pos (show nI 0 = (0 : Int32) from rfl), if_neg (show ¬ nI 2 = (0 : Int32) by decide), if_neg (show ¬ nI 2 = (1 : Int32) by decide), if_pos (show nI 2 = (2 : Int32) from rfl)]; rfl
    · rw [if_pos (show nI 0 = (0 : Int32) from rfl), if_neg (show ¬ nI 3 = (0 : Int32) by decide), if_neg (show ¬ nI 3 = (1 : Int32) by decide), if_neg (show ¬ nI 3 = (2 : Int32) by decide), if_pos (show nI 3 = (3 : Int32) from rfl)]; rfl
  · rcases le3 hk with rfl | rfl | rfl | rfl
    · rw [if_neg (show ¬ nI 1 = (0 : Int32) by decide), if_pos (show nI 1 = (1 : Int32) from rfl), if_pos (show nI 0 = (0 : Int32) from rfl)]; rfl
    · rw [if_neg (show ¬ nI 1 = (0 : Int32) by decide), if_pos (show nI 1 = (1 : Int32) from rfl), if_neg (show ¬ nI 1 = (0 : Int32) by decide), if_pos (show nI 1 = (1 : Int32) from rfl)]; rfl
    · rw [if_neg (show ¬ nI 1 = (0 : Int32) by decide), if_pos (show nI 1 = (1 : Int32) from rfl), if_neg (show ¬ nI 2 = (0 : Int32) by decide), if_neg (show ¬ nI 2 = (1 : Int32) by decide), if_pos (show nI 2 = (2 : Int32) from rfl)]; rfl
    · rw [if_neg (show ¬ nI 1 = (0 : Int32) by decide), if_pos (show nI 1 = (1 : Int32) from rfl), if_neg (show ¬ nI 3 = (0 : Int32) by decide), if_neg (show ¬ nI 3 = (1 : Int32) by decide), if_neg (show ¬ nI 3 = (2 : Int32) by decide), if_pos (show nI 3 = (3 : Int32) from rfl)]; rfl
  · rcases le3 hk with rfl | rfl | rfl | rfl
    · rw [if_neg (show ¬ nI 2 = (0 : Int32) by decide), if_neg (show ¬ nI 2 = (1 : Int32) by decide), if_pos (show nI 2 = (2 : Int32) from rfl), if_pos (show nI 0 = (0 : Int32) from rfl)]; rfl
    · rw [if_neg (show ¬ nI 2 = (0 : Int32) by decide), if_neg (show ¬ nI 2 = (1 : Int32) by decide), if_pos (show nI 2 = (2 : Int32) from rfl), if_neg (show ¬ nI 1 = (0 : Int32) by decide), if_pos (show nI 1 = (1 : Int32) from rfl)]; rfl
    · rw [if_neg (show ¬ nI 2 = (0 : Int32) by decide), if_neg (show ¬ nI 2 = (1 : Int32) by decide), if_pos (show nI 2 = (2 : Int32) from rfl), if_neg (show ¬ nI 2 = (0 : Int32) by decide), if_neg (show ¬ nI 2 = (1 : Int32) by decide), if_pos (show nI 2 = (2 : Int32) from rfl)]; rfl
    · rw [if_neg (show ¬ nI 2 = (0 : Int32) by decide), if_neg (show ¬ nI 2 = (1 : Int32) by decide), if_pos (show nI 2 = (2 : Int32) from rfl), if_neg (show ¬ nI 3 = (0 : Int32) by decide), if_neg (show ¬ nI 3 = (1 : Int32) by decide), if_neg (show ¬ nI 3 = (2 : Int32) by decide), if_pos (show nI 3 = (3 : Int32) from rfl)]; rfl
  · rcases le3 hk with rfl | rfl | rfl | rfl
    · rw [if_neg (show ¬ nI 3 = (0 : Int32) by decide), if_neg (show ¬ nI 3 = (1 : Int32) by decide), if_neg (show ¬ nI 3 = (2 : Int32) by decide), if_pos (show nI 3 = (3 : Int32) from rfl), if_pos (show nI 0 = (0 : Int32) from rfl)]; rfl
    · rw [if_neg (show ¬ nI 3 = (0 : Int32) by decide), if_neg (show ¬ nI 3 = (1 : Int32) by decide), if_neg (show ¬ nI 3 = (2 : Int32) by decide), if_pos (show nI 3 = (3 : Int32) from rfl), if_neg (show ¬ nI 1 = (0 : Int32) by decide), if_pos (show nI 1 = (1 : Int32) from rfl)]; rfl
    · rw [if_neg (show ¬ nI 3 = (0 : Int32) by decide), if_neg (show ¬ nI 3 = (1 : Int32) by decide), if_neg (show ¬ nI 3 = (2 : Int32) by decide), if_pos (show nI 3 = (3 : Int32) from rfl), if_neg (show ¬ nI 2 = (0 : Int32) by decide), if_neg (show ¬ nI 2 = (1 : Int32) by decide), if_pos (show nI 2 = (2 : Int32) from rfl)]; rfl
    · rw [if_neg (show ¬ nI 3 = (0 : Int32) by decide), if_neg (show ¬ nI 3 = (1 : Int32) by decide), if_neg (show ¬ nI 3 = (2 : Int32) by decide), if_pos (show nI 3 = (3 : Int32) from rfl), if_neg (show ¬ nI 3 = (0 : Int32) by decide), if_neg (show ¬ nI 3 = (1 : Int32) by decide), if_neg (show ¬ nI 3 = (2 : Int32) by decide), if_pos (show nI 3 = (3 : Int32) from rfl)]; rfl
theorem ou_t {x m : Int32} (σ : ab_F) (h : x.toInt < 0 ∨ m.toInt < x.toInt) : f_X11_outside x m σ = some true := by
  unfold f_X11_outside
  by_cases q : x < 0
  · rw [if_pos q]
  · rw [if_neg q, if_neg]
    rw [Int32.le_iff_toInt_le]
    rw [Int32.lt_iff_toInt_lt] at q
    have z1 : (0 : Int32).toInt = 0 := rfl
    omega
theorem ou_f {x m : Int32} (σ : ab_F) (h : ¬ (x.toInt < 0 ∨ m.toInt < x.toInt)) : f_X11_outside x m σ = some false := by
  have z1 : (0 : Int32).toInt = 0 := rfl
  unfold f_X11_outside
  rw [if_neg (by rw [Int32.lt_iff_toInt_lt]; omega), if_pos (by rw [Int32.le_iff_toInt_le]; omega)]
theorem mv_sb {s n : Nat} (hs : s ≤ 24) (hn : n < 2 ^ 31) : (nI s - nI n).toInt = (s : Int) - n := by
  rw [Int32.toInt_sub, nI_toInt (by omega), nI_toInt hn]
  exact Int.bmod_eq_of_le (by omega) (by omega)
theorem mv_A {j n i0 : Nat} (p3 p4 : Int32) (hj : j ≤ 3) (hi : i0 + n ≤ 24) : ∀ d i n1 (y : ab_F), i + d = n → d < n1 → ∃ y2 : ab_F, (∀ K, f_X12_move_L115 (nI j) (nI i0) p3 p4 (nI n) K n1 (nI i) y = K y2) ∧ (∀ q, i ≤ q → q < n → y2 97 q = y 96 (24 * j + i0 + q)) ∧ (∀ q, q < i → y2 97 q = y 97 q) ∧ ∀ c, c ≠ 97 → y2 c = y c := by
  intro d
  induction d with
  | zero =>
    intro i n1 y h1 h2
    obtain ⟨m, rfl⟩ : ∃ m, n1 = m + 1 := ⟨n1 - 1, by omega⟩
    refine ⟨y, fun K => ?_, fun q h3 h4 => by omega, fun _ _ => rfl, fun _ _ => rfl⟩
    rw [f_X12_move_L115, if_pos (nI_le (by omega) (by omega))]
  | succ d ih =>
    intro i n1 y h1 h2
    obtain ⟨m, rfl⟩ : ∃ m, n1 = m + 1 := ⟨n1 - 1, by omega⟩
    obtain ⟨y2, t1, t2, t3, t4⟩ := ih (i + 1) m (ab_u y 97 i (y 96 (24 * j + i0 + i))) (by omega) (by omega)
    refine ⟨y2, fun K => ?_, fun q h3 h4 => ?_, fun q hq => by rw [t3 q (by omega), u_rd _ _ _ _ _ (by omega)], fun c hc => by rw [t4 c hc, ab_u_ne _ _ _ hc]⟩
    · rw [f_X12_move_L115, if_neg (nI_ge (by omega) (by omega)), show (24 : Int32) * nI j = nI (24 * j) from pk_mul 24 j, nI_add, nI_add, ib_n (by omega) (by omega), ck_t, ib_n (by omega) (by omega), ck_t, lt_d, lt_d, cl_n (by omega), cl_n (by omega), nI_1]; exact t1 K
    · by_cases q2 : q = i
      · subst q2; rw [t3 q (by omega), u_rk]
      · rw [t2 q (by omega) h4, ab_u_ne _ _ _ (by omega)]
theorem mv_B {j n k0 : Nat} (hj : j ≤ 3) (hi : k0 + n ≤ 24) : ∀ d i n1 (y : ab_F), i + d = n → d < n1 → ∃ y2 : ab_F, (∀ K, f_X12_move_L152 (nI j) (nI k0) (nI n) K n1 (nI i) y = K y2) ∧ (∀ q, i ≤ q → q < n → y2 96 (24 * j + k0 + q) = y 97 q) ∧ (∀ q, (q < 24 * j + k0 + i ∨ 24 * j + k0 + n ≤ q) → y2 96 q = y 96 q) ∧ ∀ c, c ≠ 96 → y2 c = y c := by
  intro d
  induction d with
  | zero =>
    intro i n1 y h1 h2
    obtain ⟨m, rfl⟩ : ∃ m, n1 = m + 1 := ⟨n1 - 1, by omega⟩
    refine ⟨y, fun K => ?_, fun q h3 h4 => by omega, fun _ _ => rfl, fun _ _ => rfl⟩
    rw [f_X12_move_L152, if_pos (nI_le (by omega) (by omega))]
  | succ d ih =>
    intro i n1 y h1 h2
    obtain ⟨m, rfl⟩ : ∃ m, n1 = m + 1 := ⟨n1 - 1, by omega⟩
    obtain ⟨y2, t1, t2, t3, t4⟩ := ih (i + 1) m (ab_u y 96 (24 * j + k0 + i) (y 97 i)) (by omega) (by omega)
    refine ⟨y2, fun K => ?_, fun q h3 h4 => ?_, fun q hq => by rw [t3 q (by omega), u_rd _ _ _ _ _ (by omega)], fun c hc => by rw [t4 c hc, ab_u_ne _ _ _ hc]⟩
    · rw [f_X12_move_L152, if_neg (nI_ge (by omega) (by omega)), show (24 : Int32) * nI j = nI (24 * j) from pk_mul 24 j, nI_add, nI_add, ib_n (by omega) (by omega), ck_t, ib_n (by omega) (by omega), ck_t, lt_d, lt_d, cl_n (by omega), cl_n (by omega), nI_1]; exact t1 K
    · by_cases q2 : q = i
      · subst q2; rw [t3 _ (by omega), u_rk]
      · rw [t2 q (by omega) h4, ab_u_ne _ _ _ (by omega)]
theorem m_move (a0 a1 a2 a3 a4 : Int32) : ok2 rR (f_X11_move a0 a1 a2 a3 a4) (f_X12_move a0 a1 a2 a3 a4) := by
  intro σ h
  have z0 : (0 : Int32).toInt = 0 := rfl
  rcases gd a0 3 (by omega) with ⟨j, hj, rfl⟩ | ⟨hx, hy⟩
  · rcases gd a2 3 (by omega) with ⟨k, hk, rfl⟩ | ⟨hx, hy⟩
    · obtain ⟨⟨s, hs, e1, e2⟩, ⟨e3, _⟩, e4⟩ := h.2.2.1 j (by omega)
      obtain ⟨⟨t, ht, g1, g2⟩, ⟨g3, _⟩, g4⟩ := h.2.2.1 k (by omega)
      have kM : ∀ τ : ab_F, τ 94 = σ 94 → τ 95 = σ 95 → f_X12_move (nI j) a1 (nI k) a3 a4 τ = (if σ (77 + 2 * j) 2 = 0 then f_X12_error 2 τ else if σ (77 + 2 * k) 2 = 0 then f_X12_error 2 τ else if σ (77 + 2 * j) 2 = σ (77 + 2 * k) 2 then (if a4 < 0 then f_X12_error 1 τ else (if a1 < 0 then f_X12_error 1 τ else (if a3 < 0 then f_X12_error 1 τ else (if (nI s - a4) < a1 then f_X12_error 1 τ else (if a3 ≤ (nI t - a4) then (f_X12_move_L115 (nI j) a1 (nI k) a3 a4 (fun (s30 : ab_F) => (f_X12_move_L152 (nI k) a3 a4 (fun (s36 : ab_F) => (some (a4, s36))) ab_fu (nI 0) s30)) ab_fu (nI 0) τ) else f_X12_error 1 τ))))) else f_X12_error 5 τ) := fun τ t94 t95 => by
        unfold f_X12_move
        rw [gs_t (isS_n τ hj), gs_t (isS_n τ hk), ib_n (i := j) (n := 4) (by omega) (by omega), ib_n (i := k) (n := 4) (by omega) (by omega)]
        simp only [ck_t, cl_n (i := j) (by omega), cl_n (i := k) (by omega), t94, t95, e2, g2, ← e3, ← g3, bie]
        rfl
      have fr94 : ∀ τ : ab_F, (∀ c, c ≠ 23 → τ c = σ c) → τ 94 = σ 94 ∧ τ 95 = σ 95 := fun τ hτ => ⟨hτ 94 (by omega), hτ 95 (by omega)⟩
      have kC := mv_f hj hk a1 a3 a4 σ
      unfold mvG at kC
      by_cases q1 : σ (77 + 2 * j) 2 = 0
      · refine er2 h 2 (by omega) ?_ (fun τ hτ => ?_)
        · rw [kC, if_pos q1, bie]; rfl
        · rw [kM τ (fr94 τ hτ).1 (fr94 τ hτ).2, if_pos q1]; rfl
      by_cases q2 : σ (77 + 2 * k) 2 = 0
      · refine er2 h 2 (by omega) ?_ (fun τ hτ => ?_)
        · rw [kC, if_neg q1, if_pos q2, bie]; rfl
        · rw [kM τ (fr94 τ hτ).1 (fr94 τ hτ).2, if_neg q1, if_pos q2]; rfl
      by_cases q3 : σ (77 + 2 * j) 2 = σ (77 + 2 * k) 2
      · rw [if_neg q1, if_neg q2, if_pos q3, e1, g1] at kC
        by_cases good : 0 ≤ a4.toInt ∧ 0 ≤ a1.toInt ∧ 0 ≤ a3.toInt ∧ a1.toInt + a4.toInt ≤ s ∧ a3.toInt + a4.toInt ≤ t
        · obtain ⟨o1, o2, o3, o4, o5⟩ := good
          obtain ⟨n, hn, rfl⟩ := nI_of (x := a4) (by rw [Int32.lt_iff_toInt_lt]; omega)
          obtain ⟨i, hi, rfl⟩ := nI_of (x := a1) (by rw [Int32.lt_iff_toInt_lt]; omega)
          obtain ⟨p, hp, rfl⟩ := nI_of (x := a3) (by rw [Int32.lt_iff_toInt_lt]; omega)
          rw [nI_toInt hn] at o1 o4 o5
          rw [nI_toInt hi] at o2 o4
          rw [nI_toInt hp] at o3 o5
          have b1 : i + n ≤ 24 := by omega
          have b2 : p + n ≤ 24 := by omega
          obtain ⟨y2, t1, t2, _, t4⟩ := mv_A (j := j) (nI k) (nI p) hj b1 n 0 ab_fu (ab_r σ (78 + 2 * k) (va_cpy (σ (78 + 2 * j)) (σ (78 + 2 * k)) i p n)) (by omega) (by unfold ab_fu; omega)
          obtain ⟨y3, v1, v2, v3, v4⟩ := mv_B (j := k) hk b2 n 0 ab_fu y2 (by omega) (by unfold ab_fu; omega)
          refine ⟨nI n, ab_r σ (78 + 2 * k) (va_cpy (σ (78 + 2 * j)) (σ (78 + 2 * k)) i p n), y3, ?_, ?_, ?_⟩
          · rw [kC, gs_f (show f_X11_outside (nI n) 24 σ = some false from ou_n (j := n) (n := 24) σ (by omega) (by omega)), gs_f (ou_f σ (by rw [mv_sb hs hn, nI_toInt hi]; omega)), gs_f (ou_f σ (by rw [mv_sb ht hn, nI_toInt hp]; omega)), cp_n b1 b2 (by omega) (by omega) (by omega), ck_t, lt_d, cl_n (by omega), cl_n (by omega), cl_n (by omega), show 77 + 2 * j + 1 = 78 + 2 * j by omega, show 77 + 2 * k + 1 = 78 + 2 * k by omega]
          · rw [kM _ (ab_r_ne _ _ (by omega)) (ab_r_ne _ _ (by omega)), if_neg q1, if_neg q2, if_pos q3, if_neg (nI_pos hn), if_neg (nI_pos hi), if_neg (nI_pos hp), if_neg (by rw [Int32.lt_iff_toInt_lt, mv_sb hs hn, nI_toInt hi]; omega), if_pos (by rw [Int32.le_iff_toInt_le, mv_sb ht hn, nI_toInt hp]; omega)]
            exact (t1 _).trans (v1 _)
          · have fr : ∀ c, c ≠ 97 → c ≠ 96 → c ≠ 78 + 2 * k → y3 c = σ c := fun c c1 c2 c3 => by rw [v4 c c2, t4 c c1, ab_r_ne _ _ c3]
            refine rR_h h (fun c b0 b1 b2 b3 b4 => fr c (by unfold scr at b0; omega) b4 (by omega)) ?_
            have e96 : ∀ q, y2 96 q = σ 96 q := fun q => by rw [t4 96 (by omega), ab_r_ne _ _ (by omega)]
            intro l hl
            obtain ⟨w1, w2, w3⟩ := h.2.2.1 l hl
            rw [fr (77 + 2 * l) (by omega) (by omega) (by omega), fr 95 (by omega) (by omega) (by omega), fr 94 (by omega) (by omega) (by omega)]
            refine ⟨w1, w2, fun q hq => ?_⟩
            by_cases lk : l = k
            · subst lk
              rw [v4 (78 + 2 * l) (by omega), t4 (78 + 2 * l) (by omega), ab_r_same]
              by_cases hin : p ≤ q ∧ q < p + n
              · rw [pk_cpy_in hin.1 hin.2, show 24 * l + q = 24 * l + p + (q - p) by omega, v2 (q - p) (by omega) (by omega), t2 (q - p) (by omega) (by omega), ab_r_ne _ _ (by omega), show 24 * j + i + (q - p) = 24 * j + (i + (q - p)) by omega]
                exact e4 (i + (q - p)) (by omega)
              · rw [pk_cpy_out (by omega), v3 _ (by omega), e96]
                exact w3 q hq
            · rw [fr (78 + 2 * l) (by omega) (by omega) (by omega), v3 _ (by omega), e96]
              exact w3 q hq
        · refine er2 h 1 (by omega) ?_ (fun τ hτ => ?_)
          · rw [kC]
            rcases rng a4 24 (by omega) with ⟨n, hn, rfl⟩ | hx
            · rw [gs_f (show f_X11_outside (nI n) 24 σ = some false from ou_n (j := n) (n := 24) σ (by omega) (by omega))]
              rw [nI_toInt (by omega)] at good
              by_cases c1 : a1.toInt < 0 ∨ (nI s - nI n).toInt < a1.toInt
              · rw [gs_t (ou_t σ c1), bie]; rfl
              · rw [gs_f (ou_f σ c1)]
                by_cases c2 : a3.toInt < 0 ∨ (nI t - nI n).toInt < a3.toInt
                · rw [gs_t (ou_t σ c2), bie]; rfl
                · rw [mv_sb hs (by omega)] at c1
                  rw [mv_sb ht (by omega)] at c2
                  exact absurd (by omega) good
            · have z24 : (24 : Int32).toInt = 24 := rfl
              have e24 : nI 24 = (24 : Int32) := rfl
              rw [gs_t (ou_t (m := 24) σ (by
                rcases hx with hx | hx
                · rw [Int32.lt_iff_toInt_lt] at hx; omega
                · rw [e24, Int32.le_iff_toInt_le] at hx; omega)), bie]; rfl
          · rw [kM τ (fr94 τ hτ).1 (fr94 τ hτ).2, if_neg q1, if_neg q2, if_pos q3]
            by_cases c1 : a4 < 0
            · rw [if_pos c1]; rfl
            rw [if_neg c1]
            by_cases c2 : a1 < 0
            · rw [if_pos c2]; rfl
            rw [if_neg c2]
            by_cases c3 : a3 < 0
            · rw [if_pos c3]; rfl
            rw [if_neg c3]
            obtain ⟨n, hn, rfl⟩ := nI_of c1
            obtain ⟨i, hi, rfl⟩ := nI_of c2
            obtain ⟨p, hp, rfl⟩ := nI_of c3
            rw [nI_toInt hn, nI_toInt hi, nI_toInt hp] at good
            by_cases c4 : nI s - nI n < nI i
            · rw [if_pos c4]; rfl
            rw [if_neg c4]
            by_cases c5 : nI p ≤ nI t - nI n
            · rw [Int32.lt_iff_toInt_lt, mv_sb hs hn, nI_toInt hi] at c4
              rw [Int32.le_iff_toInt_le, mv_sb ht hn, nI_toInt hp] at c5
              exact absurd (by omega) good
            · rw [if_neg c5]; rfl
      · refine er2 h 5 (by omega) ?_ (fun τ hτ => ?_)
        · rw [kC, if_neg q1, if_neg q2, if_neg q3, bie]; rfl
        · rw [kM τ (fr94 τ hτ).1 (fr94 τ hτ).2, if_neg q1, if_neg q2, if_neg q3]; rfl
    · refine er2 h 1 (by omega) ?_ (fun τ hτ => ?_)
      · unfold f_X11_move
        rw [gs_f (show f_X11_outside (nI j) 3 σ = some false from ou_n (j := j) (n := 3) σ (by omega) (by omega)), gs_t (show f_X11_outside a2 3 σ = some true from hx σ), bie]; rfl
      · unfold f_X12_move
        rw [gs_t (isS_n τ hj), gs_f (isS_x τ hy), bie]; rfl
  · refine er2 h 1 (by omega) ?_ (fun τ hτ => ?_)
    · unfold f_X11_move
      rw [gs_t (show f_X11_outside a0 3 σ = some true from hx σ), bie]; rfl
    · unfold f_X12_move
      rw [gs_f (isS_x τ hy), bie]; rfl
