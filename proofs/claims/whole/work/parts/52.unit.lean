/-! READING A TEXT: units -/
def rd_t (nm : Nat) (rc : Nat → Int32 → Int32 → ab_F → Option (Bool × ab_F)) (a1 q1 : Int32) (σ : ab_F) : Option (Bool × ab_F) := (if a1 < (5 : Int32) then (if q1 = (33 : Int32) then ab_lt (ab_u σ 17 5 ((σ 17 5) + (1 : Int32))) (fun (s11 : ab_F) => (rc 1 (a1 + (1 : Int32)) 0 s11).bind (fun q12 => (f_X7_step nm (-33 : Int32) q12.2).bind (fun q13 => (some (q12.1, q13))))) else (if q1 = (40 : Int32) then (rc 2 (a1 + (1 : Int32)) 0 σ).bind (fun q9 => (if (ab_b q9.1) = 0 then (some (false, q9.2)) else (some (true, q9.2)))) else (some (false, σ)))) else (some (false, σ)))
def rd_k (nm : Nat) (q4 : Int32) (σ : ab_F) : Option (Bool × ab_F) := ab_lt (ab_u σ 17 5 ((σ 17 5) + (1 : Int32))) (fun (s14 : ab_F) => (f_X7_step nm ((-1 : Int32) - q4) s14).bind (fun q15 => (some (true, q15))))
theorem rd_ru {nm b : Nat} {rc : Nat → Int32 → Int32 → ab_F → Option (Bool × ab_F)} {a1 j : Int32} {x : ab_F} (hb : b < 256) (hd : ¬ (48 ≤ b ∧ b ≤ 57)) (hc : f_X7_next nm x = some (nI b)) (hj : f_J0_indexOf_0f7a4 nm ((nI b).toUInt32 % 65536).toInt32 x = some j) : g_X7_readUnit nm rc a1 x = if j < 0 then rd_t nm rc a1 (nI b) x else rd_k nm j x := by
  have h0 : (0 : Int32) ≤ nI b := nI_pos' (by omega)
  rw [g_X7_readUnit, hc, bi]
  by_cases q : b < 48
  · rw [if_pos (show nI b < (48 : Int32) from nI_lt (b := 48) q (by omega)), if_pos h0, hj, bi]
    rfl
  · rw [if_neg (show ¬ nI b < (48 : Int32) from nI_nlt (b := 48) (by omega) (by omega)), if_pos (show (57 : Int32) < nI b from nI_lt (a := 57) (by omega) (by omega)), if_pos h0, hj, bi]
    rfl
theorem rd_ru2 {nm : Nat} {rc : Nat → Int32 → Int32 → ab_F → Option (Bool × ab_F)} {a1 : Int32} {x : ab_F} (hc : f_X7_next nm x = some (-1)) : g_X7_readUnit nm rc a1 x = some (false, x) := by
  rw [g_X7_readUnit, hc, bi, if_pos (show (-1 : Int32) < 48 by decide), if_neg (show ¬ (0 : Int32) ≤ -1 by decide), if_neg (show ¬ (-1 : Int32) = 33 by decide), if_neg (show ¬ (-1 : Int32) = 40 by decide)]
  by_cases q : a1 < (5 : Int32)
  · rw [if_pos q]
  · rw [if_neg q]
theorem nI_n {a b : Nat} (h : a ≠ b) (ha : a < 2 ^ 31) (hb : b < 2 ^ 31) : ¬ nI a = nI b := fun z => h ((nI_eq ha hb).mp z)
theorem rd_u {us : Int32} {nm c1 c2 c3 L : Nat} {T : Nat → Nat} {x0 y0 : ab_F} (hN : rd_N us nm c1 c2 c3) (hT : rd_T us L T x0 y0) {o n1 n2 : Nat} (ho : o ≤ 5) (hU : o < 5 → rd_S (nI c1) (nI c2) (nI c3) x0 y0 L (o + 1) (f_GA nm (n1 + 1) 1 (nI (o + 1)) 0) (f_GB n2 5)) (hW : o < 5 → rd_S (nI c1) (nI c2) (nI c3) x0 y0 L (o + 1) (f_GA nm n1 0 (nI 0) (nI (o + 1))) (f_GB n2 0)) : rd_S (nI c1) (nI c2) (nI c3) x0 y0 L o (f_GA nm (n1 + 1 + 1) 1 (nI o) 0) (f_GB (n2 + 1) 5) := by
  have hL := hT.1
  obtain ⟨N1, N2, N3, N4, N5, N6⟩ := hN
  intro p s dp x y hp hs h
  have hc := rd_c hT h.1 h.2.2.2.2.2.2.1 hp nm
  have hm := rd_m hT h.2.1 h.2.2.2.2.2.2.2 hp
  have hy8 : y 85 8 = us := (h.2.2.2.2.2.2.2.2 8 (by omega) (by omega) (by omega)).trans hT.2.2.2.2
  by_cases q : p < L
  · have en : rd_n T L p = nI (T p) := by unfold rd_n; rw [if_pos q]
    have hb := (hT.2.2.2.1 p q).1
    rw [en] at hc hm
    generalize hbq : T p = b at *
    have hx := N1 b x hb
    have hn := N2 b y hb hy8
    by_cases dg : 48 ≤ b ∧ b ≤ 57
    · obtain ⟨v2, p2, x2, y2, t1, t2, t3, t4, t5, t6, t7⟩ := rd_nu hT nm o s dp 4 0 ab_fu ab_fu 0 p x y (by omega) (by unfold ab_fu; omega) (by unfold ab_fu; omega) (by omega) hp h
      obtain ⟨x3, y3, b1, b2, b3⟩ := rd_s t7 (by omega) nm (a := nI v2) (b := 0) (c := nI v2) (d2 := dp s + 1) (Or.inl ⟨v2, t1, rfl, rfl, rfl, rfl⟩)
      have pp : p < p2 := t4 (by omega) q (by omega) (by omega)
      refine Or.inr ⟨x3, y3, p2, s + 1, _, ?_, ?_, b3, pp, t3, by omega, by omega, fun i hi => upN_a (by omega), upN_s⟩
      · have rn : f_X7_readNumber nm x = some x3 := by
          unfold f_X7_readNumber
          refine (t5 _).trans ?_
          show (f_X7_step nm (nI v2) x2).bind _ = _
          rw [b1, bi]
        rw [ga1, g_X7_readUnit, hc, bi, if_neg (show ¬ nI b < (48 : Int32) from nI_nlt (b := 48) (by omega) (by omega)), if_neg (show ¬ (57 : Int32) < nI b from nI_nlt (a := 57) (by omega) (by omega)), rn, bi]
      · have nn : f_X12_isName (nI b) y = some false := by
          rw [hn, decide_eq_false (show ¬ b = c1 by omega), decide_eq_false (show ¬ b = c2 by omega), decide_eq_false (show ¬ b = c3 by omega)]; rfl
        rw [gb5, g_X12_one, hm, bi, gs_f nn, gs_t (show f_X12_in (nI b) 48 57 y = some true from in_n (j := b) (l := 48) (n := 57) y dg.1 dg.2 (by omega))]
        refine (t6 _ _).trans ?_
        show (f_X12_step1 0 (nI v2) y2).bind _ = _
        rw [b2, bi]
    · have ndg : f_X12_in (nI b) 48 57 y = some false := by
        unfold f_X12_in
        by_cases z : b < 48
        · rw [if_pos (show nI b < (48 : Int32) from nI_lt (b := 48) z (by omega))]
        · rw [if_neg (show ¬ nI b < (48 : Int32) from nI_nlt (b := 48) (by omega) (by omega)), if_pos (show (57 : Int32) < nI b from nI_lt (a := 57) (by omega) (by omega))]
      have FA := rd_ru (rc := f_GA nm (n1 + 1)) (a1 := nI o) hb dg hc hx
      /- a name: the class's step, the model's -/
      have nam : ∀ (j : Int32) (k : Int32), nmI c1 c2 c3 b = j → ¬ j < 0 → (decide (b = c1) || decide (b = c2) || decide (b = c3)) = true → rS (nI c1) (nI c2) (nI c3) ((-1 : Int32) - j) 1 (nI b) (dp s) (dp s + 1) → rd_R (nI c1) (nI c2) (nI c3) x0 y0 L o p s dp x y (f_GA nm (n1 + 1 + 1) 1 (nI o) 0) (f_GB (n2 + 1) 5) := by
        intro j k e1 e2 e3 e4
        obtain ⟨x3, y3, b1, b2, b3⟩ := rd_s (rd_a h) (by omega) nm e4
        refine Or.inr ⟨x3, y3, p + 1, s + 1, _, ?_, ?_, b3, by omega, by omega, by omega, by omega, fun i hi => upN_a (by omega), upN_s⟩
        · rw [ga1, FA, e1, if_neg e2]
          unfold rd_k
          rw [lt_d, b1, bi]
        · rw [gb5, g_X12_one, hm, bi, gs_t (by rw [hn, e3]), lt_d, b2, bi]
      by_cases m1 : b = c1
      · exact nam 0 0 (by unfold nmI; rw [if_pos m1]) (by decide) (by rw [decide_eq_true m1]; rfl) (Or.inr (Or.inl ⟨rfl, rfl, by rw [m1], rfl⟩))
      by_cases m2 : b = c2
      · exact nam 1 0 (by unfold nmI; rw [if_neg m1, if_pos m2]) (by decide) (by rw [decide_eq_true m2]; cases decide (b = c1) <;> rfl) (Or.inr (Or.inr (Or.inl ⟨rfl, rfl, by rw [m2], rfl⟩)))
      by_cases m3 : b = c3
      · exact nam 2 0 (by unfold nmI; rw [if_neg m1, if_neg m2, if_pos m3]) (by decide) (by rw [decide_eq_true m3]; cases decide (b = c1) <;> cases decide (b = c2) <;> rfl) (Or.inr (Or.inr (Or.inr (Or.inl ⟨rfl, rfl, by rw [m3], rfl⟩))))
      have nn : f_X12_isName (nI b) y = some false := by
        rw [hn, decide_eq_false m1, decide_eq_false m2, decide_eq_false m3]; rfl
      have FA2 : f_GA nm (n1 + 1 + 1) 1 (nI o) 0 x = rd_t nm (f_GA nm (n1 + 1)) (nI o) (nI b) x := by
        rw [ga1, FA, show nmI c1 c2 c3 b = -1 by unfold nmI; rw [if_neg m1, if_neg m2, if_neg m3], if_pos (show (-1 : Int32) < 0 by decide)]
      have fall : f_GA nm (n1 + 1 + 1) 1 (nI o) 0 x = some (false, x) → f_GB (n2 + 1) 5 y = some (false, y) → rd_R (nI c1) (nI c2) (nI c3) x0 y0 L o p s dp x y (f_GA nm (n1 + 1 + 1) 1 (nI o) 0) (f_GB (n2 + 1) 5) := fun e1 e2 => Or.inl ⟨x, y, e1, e2, rd_pf h hp (by omega)⟩
      by_cases o5 : o < 5
      · have lo : nI o < (5 : Int32) := nI_lt (b := 5) o5 (by omega)
        have op : f_X12_opens y = some (true, ab_u (ab_u y 85 6 (nI (o + 1))) 85 5 ((ab_u y 85 6 (nI (o + 1))) 85 5 + 1)) := by
          unfold f_X12_opens
          rw [h.2.2.2.2.1, if_neg (show ¬ nI o = (5 : Int32) from nI_n (b := 5) (by omega) (by omega) (by omega)), lt_d, lt_d, nI_1]
        by_cases b33 : b = 33
        · rcases hU o5 (p + 1) s dp _ _ (by omega) (by omega) (rd_a (rd_o h (o + 1))) with ⟨x2, y2, a1, a2, a3⟩ | ⟨x2, y2, p2, s2, dp2, a1, a2, a3, a4, a5, a6, a7, a8, a9⟩
          · obtain ⟨x3, e1, e2⟩ := rd_f a3 nm (-33)
            refine Or.inl ⟨x3, y2, ?_, ?_, e2⟩
            · rw [FA2]
              unfold rd_t
              rw [if_pos lo, b33, if_pos (show nI 33 = (33 : Int32) from rfl), lt_d, nI_1, a1, bi]
              show (f_X7_step nm (-33) x2).bind _ = _
              rw [e1, bi]
            · rw [gb5, g_X12_one, hm, bi, gs_f nn, gs_f ndg, b33, if_pos (show nI 33 = (33 : Int32) from rfl), op, bi]
              refine (if_neg nb_0).trans ?_
              show (f_GB n2 5 _).bind _ = _
              rw [a2, bi]
              exact if_pos rfl
          · obtain ⟨x3, y3, b1, b2, b3⟩ := rd_s (rd_o a3 o) (by omega) nm (a := -33) (b := 2) (c := 0) (d2 := dp2 s2) (Or.inr (Or.inr (Or.inr (Or.inr (Or.inl ⟨rfl, rfl, by omega, rfl⟩)))))
            refine Or.inr ⟨x3, y3, p2, s2 + 1, _, ?_, ?_, b3, by omega, a5, by omega, by omega, fun i hi => by rw [upN_a (by omega)]; exact a8 i hi, upN_s.trans a9⟩
            · rw [FA2]
              unfold rd_t
              rw [if_pos lo, b33, if_pos (show nI 33 = (33 : Int32) from rfl), lt_d, nI_1, a1, bi]
              show (f_X7_step nm (-33) x2).bind _ = _
              rw [b1, bi]
            · rw [gb5, g_X12_one, hm, bi, gs_f nn, gs_f ndg, b33, if_pos (show nI 33 = (33 : Int32) from rfl), op, bi]
              refine (if_neg nb_0).trans ?_
              show (f_GB n2 5 _).bind _ = _
              rw [a2, bi]
              refine (if_neg nb_0).trans ?_
              show (f_X12_step1 2 0 (ab_u y2 85 6 (y2 85 6 - 1))).bind _ = _
              rw [a3.2.2.2.2.1, nI_pred, b2, bi]
        · have n33 : ¬ nI b = (33 : Int32) := nI_n (b := 33) b33 (by omega) (by omega)
          by_cases b40 : b = 40
          · rcases hW o5 (p + 1) s dp _ _ (by omega) (by omega) (rd_a (rd_o h (o + 1))) with ⟨x2, y2, a1, a2, a3⟩ | ⟨x2, y2, p2, s2, dp2, a1, a2, a3, a4, a5, a6, a7, a8, a9⟩
            · refine Or.inl ⟨x2, y2, ?_, ?_, a3⟩
              · have br : f_GA nm (n1 + 1) 2 (nI (o + 1)) 0 x = some (false, x2) := by
                  rw [ga2, g_X7_readBracket, lt_d]
                  show (f_GA nm n1 0 (nI 0) (nI (o + 1)) _).bind _ = _
                  rw [a1, bi]
                  exact if_pos rfl
                rw [FA2]
                unfold rd_t
                rw [if_pos lo, if_neg n33, b40, if_pos (show nI 40 = (40 : Int32) from rfl), nI_1, br, bi]
                exact if_pos rfl
              · rw [gb5, g_X12_one, hm, bi, gs_f nn, gs_f ndg, if_neg n33, b40, if_pos (show nI 40 = (40 : Int32) from rfl), op, bi]
                refine (if_neg nb_0).trans ?_
                show (f_GB n2 0 _).bind _ = _
                rw [a2, bi]
                exact if_pos rfl
            · have hc2 := rd_c hT a3.1 a3.2.2.2.2.2.2.1 a5 nm
              have hm2 := rd_m hT a3.2.1 a3.2.2.2.2.2.2.2 a5
              have brr : f_GA nm (n1 + 1) 2 (nI (o + 1)) 0 x = if rd_n T L p2 = (41 : Int32) then some (true, ab_u x2 17 5 (x2 17 5 + 1)) else some (false, x2) := by
                rw [ga2, g_X7_readBracket, lt_d]
                show (f_GA nm n1 0 (nI 0) (nI (o + 1)) _).bind _ = _
                rw [a1, bi]
                refine (if_neg nb_0).trans ?_
                show (f_X7_next nm x2).bind _ = _
                rw [hc2, bi]
                rfl
              have mo : f_GB (n2 + 1) 5 y = if rd_n T L p2 = (41 : Int32) then some (true, ab_u (ab_u y2 85 5 (y2 85 5 + 1)) 85 6 (ab_u y2 85 5 (y2 85 5 + 1) 85 6 - 1)) else some (false, y2) := by
                rw [gb5, g_X12_one, hm, bi, gs_f nn, gs_f ndg, if_neg n33, b40, if_pos (show nI 40 = (40 : Int32) from rfl), op, bi]
                refine (if_neg nb_0).trans ?_
                show (f_GB n2 0 _).bind _ = _
                rw [a2, bi]
                refine (if_neg nb_0).trans ?_
                show (f_X12_look y2).bind _ = _
                rw [hm2, bi]
                rfl
              have cl : ∀ (r : Bool) (z : ab_F), f_GA nm (n1 + 1) 2 (nI (o + 1)) 0 x = some (r, z) → f_GA nm (n1 + 1 + 1) 1 (nI o) 0 x = some (r, z) := by
                intro r z e
                rw [FA2]
                unfold rd_t
                rw [if_pos lo, if_neg n33, b40, if_pos (show nI 40 = (40 : Int32) from rfl), nI_1, e, bi]
                cases r
                · exact if_pos rfl
                · exact if_neg nb_0
              by_cases q41 : rd_n T L p2 = (41 : Int32)
              · have pL : p2 < L := by
                  rcases Nat.lt_or_ge p2 L with z | z
                  · exact z
                  · unfold rd_n at q41
                    rw [if_neg (by omega)] at q41
                    exact absurd q41 (by decide)
                rw [if_pos q41] at brr mo
                have a3' := rd_a a3
                have o6 : ab_u y2 85 5 (y2 85 5 + 1) 85 6 - 1 = nI o := by rw [a3'.2.2.2.2.1, nI_pred]
                rw [o6] at mo
                exact Or.inr ⟨_, _, p2 + 1, s2, dp2, cl _ _ brr, mo, rd_o a3' o, by omega, by omega, by omega, by omega, a8, a9⟩
              · rw [if_neg q41] at brr mo
                exact Or.inl ⟨_, _, cl _ _ brr, mo, rd_pf a3 a5 (by omega)⟩
          · have n40 : ¬ nI b = (40 : Int32) := nI_n (b := 40) b40 (by omega) (by omega)
            refine fall ?_ ?_
            · rw [FA2]
              unfold rd_t
              rw [if_pos lo, if_neg n33, if_neg n40]
            · rw [gb5, g_X12_one, hm, bi, gs_f nn, gs_f ndg, if_neg n33, if_neg n40]
      · have o55 : o = 5 := by omega
        have op : f_X12_opens y = some (false, y) := by
          unfold f_X12_opens
          rw [h.2.2.2.2.1, o55, if_pos (show nI 5 = (5 : Int32) from rfl)]
        refine fall ?_ ?_
        · rw [FA2]
          unfold rd_t
          rw [if_neg (show ¬ nI o < (5 : Int32) from nI_nlt (b := 5) (by omega) (by omega))]
        · rw [gb5, g_X12_one, hm, bi, gs_f nn, gs_f ndg]
          by_cases b33 : nI b = (33 : Int32)
          · rw [if_pos b33, op, bi]; exact if_pos rfl
          · rw [if_neg b33]
            by_cases b40 : nI b = (40 : Int32)
            · rw [if_pos b40, op, bi]; exact if_pos rfl
            · rw [if_neg b40]
  · have en : rd_n T L p = -1 := by unfold rd_n; rw [if_neg q]
    rw [en] at hc hm
    refine Or.inl ⟨x, y, ?_, ?_, rd_pf h hp (by omega)⟩
    · rw [ga1, rd_ru2 hc]
    · rw [gb5, g_X12_one, hm, bi, gs_f (N3 y hy8), gs_f (show f_X12_in (-1) 48 57 y = some false from rfl), if_neg (show ¬ (-1 : Int32) = 33 by decide), if_neg (show ¬ (-1 : Int32) = 40 by decide)]
theorem rd_all {us : Int32} {nm c1 c2 c3 L : Nat} {T : Nat → Nat} {x0 y0 : ab_F} (hN : rd_N us nm c1 c2 c3) (hT : rd_T us L T x0 y0) : ∀ e o n1 n2, o + e = 5 → 8 * e + 2 ≤ n1 → 6 * e + 1 ≤ n2 → rd_S (nI c1) (nI c2) (nI c3) x0 y0 L o (f_GA nm n1 1 (nI o) 0) (f_GB n2 5) := by
  intro e
  induction e with
  | zero =>
    intro o n1 n2 h1 h2 h3
    obtain ⟨m1, rfl⟩ : ∃ m, n1 = m + 1 + 1 := ⟨n1 - 2, by omega⟩
    obtain ⟨m2, rfl⟩ : ∃ m, n2 = m + 1 := ⟨n2 - 1, by omega⟩
    exact rd_u hN hT (by omega) (fun z => absurd z (by omega)) (fun z => absurd z (by omega))
  | succ e ih =>
    intro o n1 n2 h1 h2 h3
    obtain ⟨m1, rfl⟩ : ∃ m, n1 = m + 6 + 1 + 1 := ⟨n1 - 8, by omega⟩
    obtain ⟨m2, rfl⟩ : ∃ m, n2 = m + 5 + 1 := ⟨n2 - 6, by omega⟩
    exact rd_u hN hT (by omega) (fun _ => ih (o + 1) _ _ (by omega) (by omega) (by omega)) (fun _ => rd_w hT nm (ih (o + 1) _ _ (by omega) (by omega) (by omega)))
/-- a whole TEXT -/
theorem rd_z {us : Int32} {nm c1 c2 c3 L : Nat} {T : Nat → Nat} {x0 y0 : ab_F} (hN : rd_N us nm c1 c2 c3) (hT : rd_T us L T x0 y0) : rd_S (nI c1) (nI c2) (nI c3) x0 y0 L 0 (f_GA nm 100 0 (nI 0) (nI 0)) (f_GB 100 0) := rd_w (n1 := 94) (n2 := 95) hT nm (rd_all hN hT 5 0 94 95 (by omega) (by omega) (by omega))
