/-! THE START, AND THE CLAIM -/
def u0 (r j : Nat) : Nat := if r = 1 then 7 * j % 10 else if r = 5 then j else 0
theorem i0_a : ∀ j ∈ [3, 4, 11], s_0 (38 + 0) j = nI (u0 0 j) ∧ s_0 86 (ix 0 j) = nI (u0 0 j) ∧ u0 0 j ≤ mx 9999 0 j := by decide +kernel
theorem i0_b : ∀ r, r < 4 → ∀ j, j < 16 → s_0 (38 + (r + 1)) j = nI (u0 (r + 1) j) ∧ s_0 86 (ix (r + 1) j) = nI (u0 (r + 1) j) ∧ u0 (r + 1) j ≤ mx 9999 (r + 1) j := by decide +kernel
theorem i0_c : ∀ j, j < 6 → s_0 (38 + 5) j = nI (u0 5 j) ∧ s_0 86 (ix 5 j) = nI (u0 5 j) ∧ u0 5 j ≤ mx 9999 5 j := by decide +kernel
theorem i0_d : ∀ r, r < 5 → ∀ j, j < 8 → s_0 (38 + (r + 6)) j = nI (u0 (r + 6) j) ∧ s_0 86 (ix (r + 6) j) = nI (u0 (r + 6) j) ∧ u0 (r + 6) j ≤ mx 9999 (r + 6) j := by decide +kernel
theorem i0_v {r j : Nat} (h : val r j) : s_0 (38 + r) j = nI (u0 r j) ∧ s_0 86 (ix r j) = nI (u0 r j) ∧ u0 r j ≤ mx 9999 r j := by
  rcases h with ⟨rfl, h⟩ | ⟨h1, h2, h3⟩ | ⟨rfl, h⟩ | ⟨h1, h2, h3⟩
  · rcases h with rfl | rfl | rfl
    · exact i0_a 3 (by decide)
    · exact i0_a 4 (by decide)
    · exact i0_a 11 (by decide)
  · have := i0_b (r - 1) (by omega) j h3
    rwa [show r - 1 + 1 = r by omega] at this
  · exact i0_c j h
  · have := i0_d (r - 6) (by omega) j h3
    rwa [show r - 6 + 6 = r by omega] at this
theorem i0_e : ∀ k, k < 7 → s_0 23 k = s_0 89 k := by decide +kernel
theorem i0_h : ∀ j, j < 4 → s_0 (77 + 2 * j) 1 = nI 0 ∧ s_0 95 j = nI 0 ∧ s_0 (77 + 2 * j) 2 = s_0 94 j ∧ s_0 94 j = 0 ∧ ∀ i, i < 24 → s_0 (78 + 2 * j) i = s_0 96 (24 * j + i) := by decide +kernel
theorem i0_z : s_0 38 5 = s_0 86 2 ∧ s_0 9 1 = nI 0 ∧ s_0 86 3 = nI 0 ∧ s_0 13 1 = nI 0 ∧ s_0 86 4 = nI 0 ∧ s_0 32 0 = nI 0 ∧ s_0 86 116 = nI 0 ∧ s_0 35 0 = nI 0 ∧ s_0 86 241 = nI 0 ∧ s_0 21 4 = nI 0 ∧ s_0 85 12 = nI 0 ∧ s_0 8 11 = s_0 85 3 ∧ s_0 8 11 = 0 := by decide +kernel
theorem rR_0 : rR s_0 := by
  obtain ⟨z1, z2, z3, z4, z5, z6, z7, z8, z9, z10, z11, z12, z13⟩ := i0_z
  refine ⟨⟨⟨u0, fun r j hj => (i0_v hj).2.2, wC_to (fun r j hj => (i0_v hj).1), fun r j hj => (i0_v hj).2.1⟩, z1, ⟨0, by omega, z2, z3, fun i hi => absurd hi (by omega)⟩, ⟨0, by omega, z4, z5, fun i hi => absurd hi (by omega)⟩, ⟨0, fun _ => 0, by omega, z6, z7, rfl, Or.inl rfl, fun _ _ => Nat.zero_le _, fun i hi => absurd hi (by omega)⟩, ⟨0, fun _ => 0, by omega, z8, z9, rfl, Or.inl rfl, fun _ _ => Nat.zero_le _, fun i hi => absurd hi (by omega)⟩⟩, i0_e, fun j hj => ?_, ⟨0, by omega, z10, z11, fun i hi => absurd hi (by omega)⟩, z12, Or.inl z13⟩
  obtain ⟨h1, h2, h3, h4, h5⟩ := i0_h j hj
  exact ⟨⟨0, by omega, h1, h2⟩, ⟨h3, Or.inl h4⟩, h5⟩
theorem Hp_all : ∀ sc : Nat × (Nat → Int32), sc.1 ≤ 3072 → f_law_L18 sc (fun _ => some true) 1000 0 s_0 = some true := Hp_of rR m_one m_oneIs m_become m_as m_set m_cut m_land m_landIs m_rises m_springs m_feed m_text m_untell m_law m_days m_loose m_day m_seed m_then m_learns m_soonest m_stiltsFor m_wallFor m_springFor m_walk m_council m_odds m_fits m_voice m_body m_sheet m_put m_move m_grounds m_judge m_image m_restore m_tell m_check m_count m_told rR_0
