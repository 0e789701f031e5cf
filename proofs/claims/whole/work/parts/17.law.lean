/-- the class's method and the model's answer alike, and what ties the two is kept -/
def ok2 (R : ab_F → Prop) (f g : ab_F → Option (Int32 × ab_F)) : Prop := ∀ σ, R σ → ∃ (a : Int32) (σ1 σ2 : ab_F), f σ = some (a, σ1) ∧ g σ1 = some (a, σ2) ∧ R σ2
theorem ab_ib_n {i n : Nat} (h : i < n) (hn : n < 2 ^ 31) : ab_ib (nI i) n = true := by
  have h1 := nI_pos (n := i) (by omega)
  have h2 := nI_clamp (n := i) (by omega)
  simp [ab_ib, h1, h2, h]
set_option maxRecDepth 100000 in
set_option maxHeartbeats 8000000 in
theorem law_ok (R : ab_F → Prop) (m0 : ∀ (a0 : Int32) (a1 : Int32), ok2 R (f_X11_one a0 a1) (f_X12_one_ a0 a1)) (m1 : ∀ (a0 : Int32) (a1 : Int32), ok2 R (f_X11_oneIs a0 a1) (f_X12_oneIs a0 a1)) (m2 : ∀ (a0 : Int32) (a1 : Int32), ok2 R (f_X11_become a0 a1) (f_X12_become a0 a1)) (m3 : ∀ (a0 : Int32) (a1 : Int32), ok2 R (f_X11_as a0 a1) (f_X12_as a0 a1)) (m4 : ∀ (a0 : Int32) (a1 : Int32) (a2 : Int32), ok2 R (f_X11_set a0 a1 a2) (f_X12_set a0 a1 a2)) (m5 : ∀ (a0 : Int32), ok2 R (f_X11_cut a0) (f_X12_cut a0)) (m6 : ∀ (a0 : Int32) (a1 : Int32) (a2 : Int32), ok2 R (f_X11_land a0 a1 a2) (f_X12_land a0 a1 a2)) (m7 : ∀ (a0 : Int32) (a1 : Int32), ok2 R (f_X11_landIs a0 a1) (f_X12_landIs a0 a1)) (m8 : ∀ (a0 : Int32) (a1 : Int32), ok2 R (f_X11_rises a0 a1) (f_X12_rises a0 a1)) (m9 : ∀ (a0 : Int32), ok2 R (f_X11_springs a0) (f_X12_springs a0)) (m10 : ∀ (a0 : Int64) (a1 : Int32), ok2 R (f_X11_feed a0 a1) (f_X12_feed a0 a1)) (m11 : ∀ (a0 : Int32), ok2 R (f_X11_text a0) (f_X12_text a0)) (m12 : ∀ (a0 : Int32), ok2 R (f_X11_untell a0) (f_X12_untell a0)) (m13 : ∀ (a0 : Int32) (a1 : Int32) (a2 : Int32) (a3 : Int32), ok2 R (f_X11_law a0 a1 a2 a3) (f_X12_law a0 a1 a2 a3)) (m14 : ∀ (a0 : Int32), ok2 R (f_X11_days a0) (f_X12_days a0)) (m15 : ∀ (a0 : Int32), ok2 R (f_X11_loose a0) (f_X12_loose a0)) (m16 : ∀ (a0 : Int32), ok2 R (f_X11_day a0) (f_X12_day a0)) (m17 : ∀ (a0 : Int32), ok2 R (f_X11_seed a0) (f_X12_seed a0)) (m18 : ∀ (a0 : Int32) (a1 : Int32), ok2 R (f_X11_then a0 a1) (f_X12_then a0 a1)) (m19 : ∀ (a0 : Int32) (a1 : Int32), ok2 R (f_X11_learns a0 a1) (f_X12_learns a0 a1)) (m20 : ∀ (a0 : Int32), ok2 R (f_X11_soonest a0) (f_X12_soonest a0)) (m21 : ∀ (a0 : Int32) (a1 : Int32), ok2 R (f_X11_stiltsFor a0 a1) (f_X12_stiltsFor a0 a1)) (m22 : ∀ (a0 : Int32) (a1 : Int32) (a2 : Int32), ok2 R (f_X11_wallFor a0 a1 a2) (f_X12_wallFor a0 a1 a2)) (m23 : ∀ (a0 : Int32) (a1 : Int32), ok2 R (f_X11_springFor a0 a1) (f_X12_springFor a0 a1)) (m24 : ∀ (a0 : Int32) (a1 : Int32), ok2 R (f_X11_walk a0 a1) (f_X12_walk a0 a1)) (m25 : ∀ (a0 : Int32), ok2 R (f_X11_council a0) (f_X12_council a0)) (m26 : ∀ (a0 : Int32) (a1 : Int32) (a2 : Int32), ok2 R (f_X11_odds a0 a1 a2) (f_X12_odds a0 a1 a2)) (m27 : ∀ (a0 : Int32) (a1 : Int32) (a2 : Int32), ok2 R (f_X11_fits a0 a1 a2) (f_X12_fits a0 a1 a2)) (m28 : ∀ (a0 : Int32) (a1 : Int32) (a2 : Int32), ok2 R (f_X11_voice a0 a1 a2) (f_X12_voice a0 a1 a2)) (m29 : ∀ (a0 : Int32), ok2 R (f_X11_body a0) (f_X12_body a0)) (m30 : ∀ (a0 : Int32) (a1 : Int32) (a2 : Int32), ok2 R (f_X11_sheet a0 a1 a2) (f_X12_sheet a0 a1 a2)) (m31 : ∀ (a0 : Int32) (a1 : Int32) (a2 : Int32), ok2 R (f_X11_put a0 a1 a2) (f_X12_put a0 a1 a2)) (m32 : ∀ (a0 : Int32) (a1 : Int32) (a2 : Int32) (a3 : Int32) (a4 : Int32), ok2 R (f_X11_move a0 a1 a2 a3 a4) (f_X12_move a0 a1 a2 a3 a4)) (m33 : ∀ (a0 : Int32), ok2 R (f_X11_grounds a0) (f_X12_grounds a0)) (m34 : ∀ (a0 : Int32), ok2 R (f_X11_judge a0) (f_X12_judge a0)) (m35 : ok2 R (f_X11_image) (f_X12_image)) (m36 : ok2 R (f_X11_restore) (f_X12_restore)) (m37 : ∀ (a0 : Int32), ok2 R (f_X11_tell a0) (f_X12_tell a0)) (m38 : ok2 R (f_X11_check) (f_X12_check)) (m39 : ∀ (a0 : Int32), ok2 R (f_X11_count a0) (f_X12_count a0)) (m40 : ∀ (a0 : Int32), ok2 R (f_X11_told a0) (f_X12_told a0)) {L : Nat} (xs : Nat → Int32) (hL : L ≤ 3072) : ∀ (n i : Nat) (σ : ab_F), R σ → L + 6 ≤ 6 * n + 6 * i → 6 * i ≤ L → f_law_L18 (L, xs) (fun _ => some true) (n + 1) (nI (6 * i)) σ = some true := by
  intro n
  induction n with
  | zero => intro i σ hR h1 h2; omega
  | succ n ih =>
    intro i σ hR h1 h2
    rw [f_law_L18]
    have eL : (Int32.ofNat L - 6 : Int32) < nI (6 * i) ↔ L < 6 * i + 6 := by
      rw [Int32.lt_iff_toInt_lt]
      have e1 : (Int32.ofNat L - 6 : Int32) = nI L - nI 6 := rfl
      rw [e1, pk_sub_toInt (by omega) (by omega), nI_toInt (by omega)]
      omega
    by_cases hx : L < 6 * i + 6
    · rw [if_pos (eL.mpr hx)]
    · rw [if_neg (fun q => hx (eL.mp q))]
      have b0 : ab_ib (nI (6 * i)) L = true := ab_ib_n (by omega) (by omega)
      have b1 : ab_ib (nI (6 * i) + 1) L = true := by rw [show nI (6 * i) + 1 = nI (6 * i + 1) from nI_add _ 1]; exact ab_ib_n (by omega) (by omega)
      have b2 : ab_ib (nI (6 * i) + 2) L = true := by rw [show nI (6 * i) + 2 = nI (6 * i + 2) from nI_add _ 2]; exact ab_ib_n (by omega) (by omega)
      have b3 : ab_ib (nI (6 * i) + 3) L = true := by rw [show nI (6 * i) + 3 = nI (6 * i + 3) from nI_add _ 3]; exact ab_ib_n (by omega) (by omega)
      have b4 : ab_ib (nI (6 * i) + 4) L = true := by rw [show nI (6 * i) + 4 = nI (6 * i + 4) from nI_add _ 4]; exact ab_ib_n (by omega) (by omega)
      have b5 : ab_ib (nI (6 * i) + 5) L = true := by rw [show nI (6 * i) + 5 = nI (6 * i + 5) from nI_add _ 5]; exact ab_ib_n (by omega) (by omega)
      have e6 : nI (6 * i) + 6 = nI (6 * (i + 1)) := by rw [show 6 * (i + 1) = 6 * i + 6 by omega]; exact nI_add _ 6
      have go : ∀ σ2, R σ2 → f_law_L18 (L, xs) (fun _ => some true) (n + 1) (nI (6 * (i + 1))) σ2 = some true := fun σ2 h => ih (i + 1) σ2 h (by omega) (by omega)
      simp only [b0, ab_ck, cond_true]
      by_cases c0 : (xs (nI (6 * i)).toNatClampNeg &&& 63) = (0 : Int32)
      · rw [if_pos c0]
        obtain ⟨a, s1, s2, e1, e2, hR2⟩ := m0 (xs (((nI (6 * i)) + (1 : Int32))).toNatClampNeg) (xs (((nI (6 * i)) + (2 : Int32))).toNatClampNeg) σ hR
        simp only [b1, b2, b3, b4, b5, cond_true, e1, Option.bind_some, e2, if_true, ab_lt, e6]
        exact go s2 hR2
      rw [if_neg c0]
      by_cases c1 : (xs (nI (6 * i)).toNatClampNeg &&& 63) = (1 : Int32)
      · rw [if_pos c1]
        obtain ⟨a, s1, s2, e1, e2, hR2⟩ := m1 (xs (((nI (6 * i)) + (1 : Int32))).toNatClampNeg) (xs (((nI (6 * i)) + (2 : Int32))).toNatClampNeg) σ hR
        simp only [b1, b2, b3, b4, b5, cond_true, e1, Option.bind_some, e2, if_true, ab_lt, e6]
        exact go s2 hR2
      rw [if_neg c1]
      by_cases c2 : (xs (nI (6 * i)).toNatClampNeg &&& 63) = (2 : Int32)
      · rw [if_pos c2]
        obtain ⟨a, s1, s2, e1, e2, hR2⟩ := m2 (xs (((nI (6 * i)) + (1 : Int32))).toNatClampNeg) (xs (((nI (6 * i)) + (2 : Int32))).toNatClampNeg) σ hR
        simp only [b1, b2, b3, b4, b5, cond_true, e1, Option.bind_some, e2, if_true, ab_lt, e6]
        exact go s2 hR2
      rw [if_neg c2]
      by_cases c3 : (xs (nI (6 * i)).toNatClampNeg &&& 63) = (3 : Int32)
      · rw [if_pos c3]
        obtain ⟨a, s1, s2, e1, e2, hR2⟩ := m3 (xs (((nI (6 * i)) + (1 : Int32))).toNatClampNeg) (xs (((nI (6 * i)) + (2 : Int32))).toNatClampNeg) σ hR
        simp only [b1, b2, b3, b4, b5, cond_true, e1, Option.bind_some, e2, if_true, ab_lt, e6]
        exact go s2 hR2
      rw [if_neg c3]
      by_cases c4 : (xs (nI (6 * i)).toNatClampNeg &&& 63) = (4 : Int32)
      · rw [if_pos c4]
        obtain ⟨a, s1, s2, e1, e2, hR2⟩ := m4 (xs (((nI (6 * i)) + (1 : Int32))).toNatClampNeg) (xs (((nI (6 * i)) + (2 : Int32))).toNatClampNeg) (xs (((nI (6 * i)) + (3 : Int32))).toNatClampNeg) σ hR
        simp only [b1, b2, b3, b4, b5, cond_true, e1, Option.bind_some, e2, if_true, ab_lt, e6]
        exact go s2 hR2
      rw [if_neg c4]
      by_cases c5 : (xs (nI (6 * i)).toNatClampNeg &&& 63) = (5 : Int32)
      · rw [if_pos c5]
        obtain ⟨a, s1, s2, e1, e2, hR2⟩ := m5 (xs (((nI (6 * i)) + (1 : Int32))).toNatClampNeg) σ hR
        simp only [b1, b2, b3, b4, b5, cond_true, e1, Option.bind_some, e2, if_true, ab_lt, e6]
        exact go s2 hR2
      rw [if_neg c5]
      by_cases c6 : (xs (nI (6 * i)).toNatClampNeg &&& 63) = (6 : Int32)
      · rw [if_pos c6]
        obtain ⟨a, s1, s2, e1, e2, hR2⟩ := m6 (xs (((nI (6 * i)) + (1 : Int32))).toNatClampNeg) (xs (((nI (6 * i)) + (2 : Int32))).toNatClampNeg) (xs (((nI (6 * i)) + (3 : Int32))).toNatClampNeg) σ hR
        simp only [b1, b2, b3, b4, b5, cond_true, e1, Option.bind_some, e2, if_true, ab_lt, e6]
        exact go s2 hR2
      rw [if_neg c6]
      by_cases c7 : (xs (nI (6 * i)).toNatClampNeg &&& 63) = (7 : Int32)
      · rw [if_pos c7]
        obtain ⟨a, s1, s2, e1, e2, hR2⟩ := m7 (xs (((nI (6 * i)) + (1 : Int32))).toNatClampNeg) (xs (((nI (6 * i)) + (2 : Int32))).toNatClampNeg) σ hR
        simp only [b1, b2, b3, b4, b5, cond_true, e1, Option.bind_some, e2, if_true, ab_lt, e6]
        exact go s2 hR2
      rw [if_neg c7]
      by_cases c8 : (xs (nI (6 * i)).toNatClampNeg &&& 63) = (8 : Int32)
      · rw [if_pos c8]
        obtain ⟨a, s1, s2, e1, e2, hR2⟩ := m8 (xs (((nI (6 * i)) + (1 : Int32))).toNatClampNeg) (xs (((nI (6 * i)) + (2 : Int32))).toNatClampNeg) σ hR
        simp only [b1, b2, b3, b4, b5, cond_true, e1, Option.bind_some, e2, if_true, ab_lt, e6]
        exact go s2 hR2
      rw [if_neg c8]
      by_cases c9 : (xs (nI (6 * i)).toNatClampNeg &&& 63) = (9 : Int32)
      · rw [if_pos c9]
        obtain ⟨a, s1, s2, e1, e2, hR2⟩ := m9 (xs (((nI (6 * i)) + (1 : Int32))).toNatClampNeg) σ hR
        simp only [b1, b2, b3, b4, b5, cond_true, e1, Option.bind_some, e2, if_true, ab_lt, e6]
        exact go s2 hR2
      rw [if_neg c9]
      by_cases c10 : (xs (nI (6 * i)).toNatClampNeg &&& 63) = (10 : Int32)
      · rw [if_pos c10]
        obtain ⟨a, s1, s2, e1, e2, hR2⟩ := m10 ((((xs (((nI (6 * i)) + (1 : Int32))).toNatClampNeg)).toInt64 <<< (((32 : Int32)).toInt64 &&& 63)) ||| (((xs (((nI (6 * i)) + (2 : Int32))).toNatClampNeg)).toInt64 &&& (4294967295 : Int64))) (xs (((nI (6 * i)) + (3 : Int32))).toNatClampNeg) σ hR
        simp only [b1, b2, b3, b4, b5, cond_true, e1, Option.bind_some, e2, if_true, ab_lt, e6]
        exact go s2 hR2
      rw [if_neg c10]
      by_cases c11 : (xs (nI (6 * i)).toNatClampNeg &&& 63) = (11 : Int32)
      · rw [if_pos c11]
        obtain ⟨a, s1, s2, e1, e2, hR2⟩ := m11 (xs (((nI (6 * i)) + (1 : Int32))).toNatClampNeg) σ hR
        simp only [b1, b2, b3, b4, b5, cond_true, e1, Option.bind_some, e2, if_true, ab_lt, e6]
        exact go s2 hR2
      rw [if_neg c11]
      by_cases c12 : (xs (nI (6 * i)).toNatClampNeg &&& 63) = (12 : Int32)
      · rw [if_pos c12]
        obtain ⟨a, s1, s2, e1, e2, hR2⟩ := m12 (xs (((nI (6 * i)) + (1 : Int32))).toNatClampNeg) σ hR
        simp only [b1, b2, b3, b4, b5, cond_true, e1, Option.bind_some, e2, if_true, ab_lt, e6]
        exact go s2 hR2
      rw [if_neg c12]
      by_cases c13 : (xs (nI (6 * i)).toNatClampNeg &&& 63) = (13 : Int32)
      · rw [if_pos c13]
        obtain ⟨a, s1, s2, e1, e2, hR2⟩ := m13 (xs (((nI (6 * i)) + (1 : Int32))).toNatClampNeg) (xs (((nI (6 * i)) + (2 : Int32))).toNatClampNeg) (xs (((nI (6 * i)) + (3 : Int32))).toNatClampNeg) (xs (((nI (6 * i)) + (4 : Int32))).toNatClampNeg) σ hR
        simp only [b1, b2, b3, b4, b5, cond_true, e1, Option.bind_some, e2, if_true, ab_lt, e6]
        exact go s2 hR2
      rw [if_neg c13]
      by_cases c14 : (xs (nI (6 * i)).toNatClampNeg &&& 63) = (14 : Int32)
      · rw [if_pos c14]
        obtain ⟨a, s1, s2, e1, e2, hR2⟩ := m14 (xs (((nI (6 * i)) + (1 : Int32))).toNatClampNeg) σ hR
        simp only [b1, b2, b3, b4, b5, cond_true, e1, Option.bind_some, e2, if_true, ab_lt, e6]
        exact go s2 hR2
      rw [if_neg c14]
      by_cases c15 : (xs (nI (6 * i)).toNatClampNeg &&& 63) = (15 : Int32)
      · rw [if_pos c15]
        obtain ⟨a, s1, s2, e1, e2, hR2⟩ := m15 (xs (((nI (6 * i)) + (1 : Int32))).toNatClampNeg) σ hR
        simp only [b1, b2, b3, b4, b5, cond_true, e1, Option.bind_some, e2, if_true, ab_lt, e6]
        exact go s2 hR2
      rw [if_neg c15]
      by_cases c16 : (xs (nI (6 * i)).toNatClampNeg &&& 63) = (16 : Int32)
      · rw [if_pos c16]
        obtain ⟨a, s1, s2, e1, e2, hR2⟩ := m16 (xs (((nI (6 * i)) + (1 : Int32))).toNatClampNeg) σ hR
        simp only [b1, b2, b3, b4, b5, cond_true, e1, Option.bind_some, e2, if_true, ab_lt, e6]
        exact go s2 hR2
      rw [if_neg c16]
      by_cases c17 : (xs (nI (6 * i)).toNatClampNeg &&& 63) = (17 : Int32)
      · rw [if_pos c17]
        obtain ⟨a, s1, s2, e1, e2, hR2⟩ := m17 (xs (((nI (6 * i)) + (1 : Int32))).toNatClampNeg) σ hR
        simp only [b1, b2, b3, b4, b5, cond_true, e1, Option.bind_some, e2, if_true, ab_lt, e6]
        exact go s2 hR2
      rw [if_neg c17]
      by_cases c18 : (xs (nI (6 * i)).toNatClampNeg &&& 63) = (18 : Int32)
      · rw [if_pos c18]
        obtain ⟨a, s1, s2, e1, e2, hR2⟩ := m18 (xs (((nI (6 * i)) + (1 : Int32))).toNatClampNeg) (xs (((nI (6 * i)) + (2 : Int32))).toNatClampNeg) σ hR
        simp only [b1, b2, b3, b4, b5, cond_true, e1, Option.bind_some, e2, if_true, ab_lt, e6]
        exact go s2 hR2
      rw [if_neg c18]
      by_cases c19 : (xs (nI (6 * i)).toNatClampNeg &&& 63) = (19 : Int32)
      · rw [if_pos c19]
        obtain ⟨a, s1, s2, e1, e2, hR2⟩ := m19 (xs (((nI (6 * i)) + (1 : Int32))).toNatClampNeg) (xs (((nI (6 * i)) + (2 : Int32))).toNatClampNeg) σ hR
        simp only [b1, b2, b3, b4, b5, cond_true, e1, Option.bind_some, e2, if_true, ab_lt, e6]
        exact go s2 hR2
      rw [if_neg c19]
      by_cases c20 : (xs (nI (6 * i)).toNatClampNeg &&& 63) = (20 : Int32)
      · rw [if_pos c20]
        obtain ⟨a, s1, s2, e1, e2, hR2⟩ := m20 (xs (((nI (6 * i)) + (1 : Int32))).toNatClampNeg) σ hR
        simp only [b1, b2, b3, b4, b5, cond_true, e1, Option.bind_some, e2, if_true, ab_lt, e6]
        exact go s2 hR2
      rw [if_neg c20]
      by_cases c21 : (xs (nI (6 * i)).toNatClampNeg &&& 63) = (21 : Int32)
      · rw [if_pos c21]
        obtain ⟨a, s1, s2, e1, e2, hR2⟩ := m21 (xs (((nI (6 * i)) + (1 : Int32))).toNatClampNeg) (xs (((nI (6 * i)) + (2 : Int32))).toNatClampNeg) σ hR
        simp only [b1, b2, b3, b4, b5, cond_true, e1, Option.bind_some, e2, if_true, ab_lt, e6]
        exact go s2 hR2
      rw [if_neg c21]
      by_cases c22 : (xs (nI (6 * i)).toNatClampNeg &&& 63) = (22 : Int32)
      · rw [if_pos c22]
        obtain ⟨a, s1, s2, e1, e2, hR2⟩ := m22 (xs (((nI (6 * i)) + (1 : Int32))).toNatClampNeg) (xs (((nI (6 * i)) + (2 : Int32))).toNatClampNeg) (xs (((nI (6 * i)) + (3 : Int32))).toNatClampNeg) σ hR
        simp only [b1, b2, b3, b4, b5, cond_true, e1, Option.bind_some, e2, if_true, ab_lt, e6]
        exact go s2 hR2
      rw [if_neg c22]
      by_cases c23 : (xs (nI (6 * i)).toNatClampNeg &&& 63) = (23 : Int32)
      · rw [if_pos c23]
        obtain ⟨a, s1, s2, e1, e2, hR2⟩ := m23 (xs (((nI (6 * i)) + (1 : Int32))).toNatClampNeg) (xs (((nI (6 * i)) + (2 : Int32))).toNatClampNeg) σ hR
        simp only [b1, b2, b3, b4, b5, cond_true, e1, Option.bind_some, e2, if_true, ab_lt, e6]
        exact go s2 hR2
      rw [if_neg c23]
      by_cases c24 : (xs (nI (6 * i)).toNatClampNeg &&& 63) = (24 : Int32)
      · rw [if_pos c24]
        obtain ⟨a, s1, s2, e1, e2, hR2⟩ := m24 (xs (((nI (6 * i)) + (1 : Int32))).toNatClampNeg) (xs (((nI (6 * i)) + (2 : Int32))).toNatClampNeg) σ hR
        simp only [b1, b2, b3, b4, b5, cond_true, e1, Option.bind_some, e2, if_true, ab_lt, e6]
        exact go s2 hR2
      rw [if_neg c24]
      by_cases c25 : (xs (nI (6 * i)).toNatClampNeg &&& 63) = (25 : Int32)
      · rw [if_pos c25]
        obtain ⟨a, s1, s2, e1, e2, hR2⟩ := m25 (xs (((nI (6 * i)) + (1 : Int32))).toNatClampNeg) σ hR
        simp only [b1, b2, b3, b4, b5, cond_true, e1, Option.bind_some, e2, if_true, ab_lt, e6]
        exact go s2 hR2
      rw [if_neg c25]
      by_cases c26 : (xs (nI (6 * i)).toNatClampNeg &&& 63) = (26 : Int32)
      · rw [if_pos c26]
        obtain ⟨a, s1, s2, e1, e2, hR2⟩ := m26 (xs (((nI (6 * i)) + (1 : Int32))).toNatClampNeg) (xs (((nI (6 * i)) + (2 : Int32))).toNatClampNeg) (xs (((nI (6 * i)) + (3 : Int32))).toNatClampNeg) σ hR
        simp only [b1, b2, b3, b4, b5, cond_true, e1, Option.bind_some, e2, if_true, ab_lt, e6]
        exact go s2 hR2
      rw [if_neg c26]
      by_cases c27 : (xs (nI (6 * i)).toNatClampNeg &&& 63) = (27 : Int32)
      · rw [if_pos c27]
        obtain ⟨a, s1, s2, e1, e2, hR2⟩ := m27 (xs (((nI (6 * i)) + (1 : Int32))).toNatClampNeg) (xs (((nI (6 * i)) + (2 : Int32))).toNatClampNeg) (xs (((nI (6 * i)) + (3 : Int32))).toNatClampNeg) σ hR
        simp only [b1, b2, b3, b4, b5, cond_true, e1, Option.bind_some, e2, if_true, ab_lt, e6]
        exact go s2 hR2
      rw [if_neg c27]
      by_cases c28 : (xs (nI (6 * i)).toNatClampNeg &&& 63) = (28 : Int32)
      · rw [if_pos c28]
        obtain ⟨a, s1, s2, e1, e2, hR2⟩ := m28 (xs (((nI (6 * i)) + (1 : Int32))).toNatClampNeg) (xs (((nI (6 * i)) + (2 : Int32))).toNatClampNeg) (xs (((nI (6 * i)) + (3 : Int32))).toNatClampNeg) σ hR
        simp only [b1, b2, b3, b4, b5, cond_true, e1, Option.bind_some, e2, if_true, ab_lt, e6]
        exact go s2 hR2
      rw [if_neg c28]
      by_cases c29 : (xs (nI (6 * i)).toNatClampNeg &&& 63) = (29 : Int32)
      · rw [if_pos c29]
        obtain ⟨a, s1, s2, e1, e2, hR2⟩ := m29 (xs (((nI (6 * i)) + (1 : Int32))).toNatClampNeg) σ hR
        simp only [b1, b2, b3, b4, b5, cond_true, e1, Option.bind_some, e2, if_true, ab_lt, e6]
        exact go s2 hR2
      rw [if_neg c29]
      by_cases c30 : (xs (nI (6 * i)).toNatClampNeg &&& 63) = (30 : Int32)
      · rw [if_pos c30]
        obtain ⟨a, s1, s2, e1, e2, hR2⟩ := m30 (xs (((nI (6 * i)) + (1 : Int32))).toNatClampNeg) (xs (((nI (6 * i)) + (2 : Int32))).toNatClampNeg) (xs (((nI (6 * i)) + (3 : Int32))).toNatClampNeg) σ hR
        simp only [b1, b2, b3, b4, b5, cond_true, e1, Option.bind_some, e2, if_true, ab_lt, e6]
        exact go s2 hR2
      rw [if_neg c30]
      by_cases c31 : (xs (nI (6 * i)).toNatClampNeg &&& 63) = (31 : Int32)
      · rw [if_pos c31]
        obtain ⟨a, s1, s2, e1, e2, hR2⟩ := m31 (xs (((nI (6 * i)) + (1 : Int32))).toNatClampNeg) (xs (((nI (6 * i)) + (2 : Int32))).toNatClampNeg) (xs (((nI (6 * i)) + (3 : Int32))).toNatClampNeg) σ hR
        simp only [b1, b2, b3, b4, b5, cond_true, e1, Option.bind_some, e2, if_true, ab_lt, e6]
        exact go s2 hR2
      rw [if_neg c31]
      by_cases c32 : (xs (nI (6 * i)).toNatClampNeg &&& 63) = (32 : Int32)
      · rw [if_pos c32]
        obtain ⟨a, s1, s2, e1, e2, hR2⟩ := m32 (xs (((nI (6 * i)) + (1 : Int32))).toNatClampNeg) (xs (((nI (6 * i)) + (2 : Int32))).toNatClampNeg) (xs (((nI (6 * i)) + (3 : Int32))).toNatClampNeg) (xs (((nI (6 * i)) + (4 : Int32))).toNatClampNeg) (xs (((nI (6 * i)) + (5 : Int32))).toNatClampNeg) σ hR
        simp only [b1, b2, b3, b4, b5, cond_true, e1, Option.bind_some, e2, if_true, ab_lt, e6]
        exact go s2 hR2
      rw [if_neg c32]
      by_cases c33 : (xs (nI (6 * i)).toNatClampNeg &&& 63) = (33 : Int32)
      · rw [if_pos c33]
        obtain ⟨a, s1, s2, e1, e2, hR2⟩ := m33 (xs (((nI (6 * i)) + (1 : Int32))).toNatClampNeg) σ hR
        simp only [b1, b2, b3, b4, b5, cond_true, e1, Option.bind_some, e2, if_true, ab_lt, e6]
        exact go s2 hR2
      rw [if_neg c33]
      by_cases c34 : (xs (nI (6 * i)).toNatClampNeg &&& 63) = (34 : Int32)
      · rw [if_pos c34]
        obtain ⟨a, s1, s2, e1, e2, hR2⟩ := m34 (xs (((nI (6 * i)) + (1 : Int32))).toNatClampNeg) σ hR
        simp only [b1, b2, b3, b4, b5, cond_true, e1, Option.bind_some, e2, if_true, ab_lt, e6]
        exact go s2 hR2
      rw [if_neg c34]
      by_cases c35 : (xs (nI (6 * i)).toNatClampNeg &&& 63) = (35 : Int32)
      · rw [if_pos c35]
        obtain ⟨a, s1, s2, e1, e2, hR2⟩ := m35  σ hR
        simp only [b1, b2, b3, b4, b5, cond_true, e1, Option.bind_some, e2, if_true, ab_lt, e6]
        exact go s2 hR2
      rw [if_neg c35]
      by_cases c36 : (xs (nI (6 * i)).toNatClampNeg &&& 63) = (36 : Int32)
      · rw [if_pos c36]
        obtain ⟨a, s1, s2, e1, e2, hR2⟩ := m36  σ hR
        simp only [b1, b2, b3, b4, b5, cond_true, e1, Option.bind_some, e2, if_true, ab_lt, e6]
        exact go s2 hR2
      rw [if_neg c36]
      by_cases c37 : (xs (nI (6 * i)).toNatClampNeg &&& 63) = (37 : Int32)
      · rw [if_pos c37]
        obtain ⟨a, s1, s2, e1, e2, hR2⟩ := m37 (xs (((nI (6 * i)) + (1 : Int32))).toNatClampNeg) σ hR
        simp only [b1, b2, b3, b4, b5, cond_true, e1, Option.bind_some, e2, if_true, ab_lt, e6]
        exact go s2 hR2
      rw [if_neg c37]
      by_cases c38 : (xs (nI (6 * i)).toNatClampNeg &&& 63) = (38 : Int32)
      · rw [if_pos c38]
        obtain ⟨a, s1, s2, e1, e2, hR2⟩ := m38  σ hR
        simp only [b1, b2, b3, b4, b5, cond_true, e1, Option.bind_some, e2, if_true, ab_lt, e6]
        exact go s2 hR2
      rw [if_neg c38]
      by_cases c39 : (xs (nI (6 * i)).toNatClampNeg &&& 63) = (39 : Int32)
      · rw [if_pos c39]
        obtain ⟨a, s1, s2, e1, e2, hR2⟩ := m39 (xs (((nI (6 * i)) + (1 : Int32))).toNatClampNeg) σ hR
        simp only [b1, b2, b3, b4, b5, cond_true, e1, Option.bind_some, e2, if_true, ab_lt, e6]
        exact go s2 hR2
      rw [if_neg c39]
      by_cases c40 : (xs (nI (6 * i)).toNatClampNeg &&& 63) = (40 : Int32)
      · rw [if_pos c40]
        obtain ⟨a, s1, s2, e1, e2, hR2⟩ := m40 (xs (((nI (6 * i)) + (1 : Int32))).toNatClampNeg) σ hR
        simp only [b1, b2, b3, b4, b5, cond_true, e1, Option.bind_some, e2, if_true, ab_lt, e6]
        exact go s2 hR2
      rw [if_neg c40]
      simp only [ab_lt, e6]
      exact go σ hR

theorem Hp_of (R : ab_F → Prop) (m0 : ∀ (a0 : Int32) (a1 : Int32), ok2 R (f_X11_one a0 a1) (f_X12_one_ a0 a1)) (m1 : ∀ (a0 : Int32) (a1 : Int32), ok2 R (f_X11_oneIs a0 a1) (f_X12_oneIs a0 a1)) (m2 : ∀ (a0 : Int32) (a1 : Int32), ok2 R (f_X11_become a0 a1) (f_X12_become a0 a1)) (m3 : ∀ (a0 : Int32) (a1 : Int32), ok2 R (f_X11_as a0 a1) (f_X12_as a0 a1)) (m4 : ∀ (a0 : Int32) (a1 : Int32) (a2 : Int32), ok2 R (f_X11_set a0 a1 a2) (f_X12_set a0 a1 a2)) (m5 : ∀ (a0 : Int32), ok2 R (f_X11_cut a0) (f_X12_cut a0)) (m6 : ∀ (a0 : Int32) (a1 : Int32) (a2 : Int32), ok2 R (f_X11_land a0 a1 a2) (f_X12_land a0 a1 a2)) (m7 : ∀ (a0 : Int32) (a1 : Int32), ok2 R (f_X11_landIs a0 a1) (f_X12_landIs a0 a1)) (m8 : ∀ (a0 : Int32) (a1 : Int32), ok2 R (f_X11_rises a0 a1) (f_X12_rises a0 a1)) (m9 : ∀ (a0 : Int32), ok2 R (f_X11_springs a0) (f_X12_springs a0)) (m10 : ∀ (a0 : Int64) (a1 : Int32), ok2 R (f_X11_feed a0 a1) (f_X12_feed a0 a1)) (m11 : ∀ (a0 : Int32), ok2 R (f_X11_text a0) (f_X12_text a0)) (m12 : ∀ (a0 : Int32), ok2 R (f_X11_untell a0) (f_X12_untell a0)) (m13 : ∀ (a0 : Int32) (a1 : Int32) (a2 : Int32) (a3 : Int32), ok2 R (f_X11_law a0 a1 a2 a3) (f_X12_law a0 a1 a2 a3)) (m14 : ∀ (a0 : Int32), ok2 R (f_X11_days a0) (f_X12_days a0)) (m15 : ∀ (a0 : Int32), ok2 R (f_X11_loose a0) (f_X12_loose a0)) (m16 : ∀ (a0 : Int32), ok2 R (f_X11_day a0) (f_X12_day a0)) (m17 : ∀ (a0 : Int32), ok2 R (f_X11_seed a0) (f_X12_seed a0)) (m18 : ∀ (a0 : Int32) (a1 : Int32), ok2 R (f_X11_then a0 a1) (f_X12_then a0 a1)) (m19 : ∀ (a0 : Int32) (a1 : Int32), ok2 R (f_X11_learns a0 a1) (f_X12_learns a0 a1)) (m20 : ∀ (a0 : Int32), ok2 R (f_X11_soonest a0) (f_X12_soonest a0)) (m21 : ∀ (a0 : Int32) (a1 : Int32), ok2 R (f_X11_stiltsFor a0 a1) (f_X12_stiltsFor a0 a1)) (m22 : ∀ (a0 : Int32) (a1 : Int32) (a2 : Int32), ok2 R (f_X11_wallFor a0 a1 a2) (f_X12_wallFor a0 a1 a2)) (m23 : ∀ (a0 : Int32) (a1 : Int32), ok2 R (f_X11_springFor a0 a1) (f_X12_springFor a0 a1)) (m24 : ∀ (a0 : Int32) (a1 : Int32), ok2 R (f_X11_walk a0 a1) (f_X12_walk a0 a1)) (m25 : ∀ (a0 : Int32), ok2 R (f_X11_council a0) (f_X12_council a0)) (m26 : ∀ (a0 : Int32) (a1 : Int32) (a2 : Int32), ok2 R (f_X11_odds a0 a1 a2) (f_X12_odds a0 a1 a2)) (m27 : ∀ (a0 : Int32) (a1 : Int32) (a2 : Int32), ok2 R (f_X11_fits a0 a1 a2) (f_X12_fits a0 a1 a2)) (m28 : ∀ (a0 : Int32) (a1 : Int32) (a2 : Int32), ok2 R (f_X11_voice a0 a1 a2) (f_X12_voice a0 a1 a2)) (m29 : ∀ (a0 : Int32), ok2 R (f_X11_body a0) (f_X12_body a0)) (m30 : ∀ (a0 : Int32) (a1 : Int32) (a2 : Int32), ok2 R (f_X11_sheet a0 a1 a2) (f_X12_sheet a0 a1 a2)) (m31 : ∀ (a0 : Int32) (a1 : Int32) (a2 : Int32), ok2 R (f_X11_put a0 a1 a2) (f_X12_put a0 a1 a2)) (m32 : ∀ (a0 : Int32) (a1 : Int32) (a2 : Int32) (a3 : Int32) (a4 : Int32), ok2 R (f_X11_move a0 a1 a2 a3 a4) (f_X12_move a0 a1 a2 a3 a4)) (m33 : ∀ (a0 : Int32), ok2 R (f_X11_grounds a0) (f_X12_grounds a0)) (m34 : ∀ (a0 : Int32), ok2 R (f_X11_judge a0) (f_X12_judge a0)) (m35 : ok2 R (f_X11_image) (f_X12_image)) (m36 : ok2 R (f_X11_restore) (f_X12_restore)) (m37 : ∀ (a0 : Int32), ok2 R (f_X11_tell a0) (f_X12_tell a0)) (m38 : ok2 R (f_X11_check) (f_X12_check)) (m39 : ∀ (a0 : Int32), ok2 R (f_X11_count a0) (f_X12_count a0)) (m40 : ∀ (a0 : Int32), ok2 R (f_X11_told a0) (f_X12_told a0)) (hR : R s_0) : ∀ sc : Nat × (Nat → Int32), sc.1 ≤ 3072 → f_law_L18 sc (fun _ => some true) 1000 0 s_0 = some true := by
  intro sc hL
  obtain ⟨L, xs⟩ := sc
  have hL : L ≤ 3072 := hL
  exact law_ok R m0 m1 m2 m3 m4 m5 m6 m7 m8 m9 m10 m11 m12 m13 m14 m15 m16 m17 m18 m19 m20 m21 m22 m23 m24 m25 m26 m27 m28 m29 m30 m31 m32 m33 m34 m35 m36 m37 m38 m39 m40 xs hL 999 0 s_0 hR (by omega) (by omega)

