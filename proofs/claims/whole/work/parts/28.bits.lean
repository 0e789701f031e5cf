/-! ===== Int32 by its bits: bt x i ===== -/
def bt (x : Int32) (i : Nat) : Bool := x.toBitVec.getLsbD i
theorem b_ext {x y : Int32} (h : ∀ i, i < 32 → bt x i = bt y i) : x = y := Int32.toBitVec_inj.mp (BitVec.eq_of_getLsbD_eq (fun i hi => h i hi))
theorem b_or (x y : Int32) (i : Nat) : bt (x ||| y) i = (bt x i || bt y i) := by unfold bt; rw [Int32.toBitVec_or, BitVec.getLsbD_or]
theorem b_and (x y : Int32) (i : Nat) : bt (x &&& y) i = (bt x i && bt y i) := by unfold bt; rw [Int32.toBitVec_and, BitVec.getLsbD_and]
theorem b_xor (x y : Int32) (i : Nat) : bt (x ^^^ y) i = (bt x i ^^ bt y i) := by unfold bt; rw [Int32.toBitVec_xor, BitVec.getLsbD_xor]
theorem b_big {x : Int32} {i : Nat} (h : 32 ≤ i) : bt x i = false := BitVec.getLsbD_of_ge _ _ h
theorem b_m1 : ∀ i, i < 32 → bt (-1) i = true := by decide +kernel
theorem b_0 (i : Nat) : bt 0 i = false := BitVec.getLsbD_zero
theorem s_l : ∀ n, n < 32 → ((nI n &&& 31).toBitVec.smod 32).toNat = n := by decide +kernel
theorem s_u : ∀ n, n < 32 → (((nI n).toUInt32 &&& Int32.toUInt32 31).toBitVec % 32).toNat = n := by decide +kernel
theorem b_shl (n : Nat) (hn : n < 32) (x : Int32) {i : Nat} (hi : i < 32) : bt (x <<< (nI n &&& 31)) i = (decide (n ≤ i) && bt x (i - n)) := by
  unfold bt
  rw [Int32.toBitVec_shiftLeft]
  show (x.toBitVec <<< ((nI n &&& 31).toBitVec.smod 32).toNat).getLsbD i = _
  rw [s_l n hn, BitVec.getLsbD_shiftLeft]
  rcases Nat.lt_or_ge i n with h | h
  · simp [h, Nat.not_le.mpr h]
  · simp [hi, h, Nat.not_lt.mpr h]
theorem b_ushr (n : Nat) (hn : n < 32) (x : Int32) (i : Nat) : bt ((x.toUInt32 >>> ((nI n).toUInt32 &&& Int32.toUInt32 31)).toInt32) i = bt x (n + i) := by
  show (x.toUInt32 >>> ((nI n).toUInt32 &&& Int32.toUInt32 31)).toBitVec.getLsbD i = x.toUInt32.toBitVec.getLsbD (n + i)
  rw [UInt32.toBitVec_shiftRight]
  show (x.toUInt32.toBitVec >>> (((nI n).toUInt32 &&& Int32.toUInt32 31).toBitVec % 32).toNat).getLsbD i = _
  rw [s_u n hn, BitVec.getLsbD_ushiftRight]
theorem b_sshr (n : Nat) (hn : n < 32) (x : Int32) {i : Nat} (hi : i < 32) : bt (x >>> (nI n &&& 31)) i = if n + i < 32 then bt x (n + i) else bt x 31 := by
  unfold bt
  rw [Int32.toBitVec_shiftRight]
  show (x.toBitVec.sshiftRight ((nI n &&& 31).toBitVec.smod 32).toNat).getLsbD i = _
  rw [s_l n hn, BitVec.getLsbD_sshiftRight, BitVec.msb_eq_getLsbD_last]
  simp [hi]
/-! ===== nI under and, xor, >>>, one bit, 65535 ===== -/
theorem nx_and (a b : Nat) : nI a &&& nI b = nI (a &&& b) := by
  apply Int32.toBitVec_inj.1
  show BitVec.ofNat 32 a &&& BitVec.ofNat 32 b = BitVec.ofNat 32 (a &&& b)
  apply BitVec.eq_of_getLsbD_eq
  intro i hi
  simp [hi]
theorem nx_or (a b : Nat) : nI a ||| nI b = nI (a ||| b) := by
  apply Int32.toBitVec_inj.1
  show BitVec.ofNat 32 a ||| BitVec.ofNat 32 b = BitVec.ofNat 32 (a ||| b)
  apply BitVec.eq_of_getLsbD_eq
  intro i hi
  simp [hi]
theorem b_sign (x : Int32) : x < 0 ↔ bt x 31 = true := by
  rw [Int32.lt_iff_toInt_lt]
  have h := BitVec.msb_eq_toInt (x := x.toBitVec)
  rw [BitVec.msb_eq_getLsbD_last] at h
  have h2 : bt x 31 = decide (x.toBitVec.toInt < 0) := h
  rw [h2, decide_eq_true_iff]
  exact Iff.rfl
theorem x4_sign (x : Int32) : (x ^^^ 4 < 0) ↔ x < 0 := by
  rw [b_sign, b_sign, b_xor, show bt 4 31 = false by decide, Bool.xor_false]
theorem rem4 (x : Int32) : (x - x / 4 * 4).toInt = x.toInt.tmod 4 := by
  have h1 := Int32.le_toInt x
  have h2 := Int32.toInt_lt x
  have h3 := Int.tmod_lt_of_pos x.toInt (b := 4) (by omega)
  have h4 := Int.lt_tmod_of_pos x.toInt (b := 4) (by omega)
  have h5 := Int.tmod_def x.toInt 4
  have h6 : 0 ≤ x.toInt → 0 ≤ x.toInt.tmod 4 := fun q => Int.tmod_nonneg 4 q
  have e4 : (4 : Int32).toInt = 4 := rfl
  have e1 : (x / 4).toInt = x.toInt.tdiv 4 := by
    rw [Int32.toInt_div, e4]
    exact Int.bmod_eq_of_le (by omega) (by omega)
  have e2 : (x / 4 * 4).toInt = x.toInt.tdiv 4 * 4 := by
    rw [Int32.toInt_mul, e4, e1]
    exact Int.bmod_eq_of_le (by omega) (by omega)
  rw [Int32.toInt_sub, e2]
  have : x.toInt - x.toInt.tdiv 4 * 4 = x.toInt.tmod 4 := by omega
  rw [this]
  exact Int.bmod_eq_of_le (by omega) (by omega)
/-- both take the rest of 4 alike -/
theorem rest4 (x : Int32) : ∃ v : Nat, v ≤ 3 ∧ (∀ σ, f_J9_floorMod_7cf53 x 4 σ = some (nI v)) ∧ ∀ τ, f_X12_restOf x τ = some (nI v) := by
  have h := rem4 x
  have h3 := Int.tmod_lt_of_pos x.toInt (b := 4) (by omega)
  have h4 := Int.lt_tmod_of_pos x.toInt (b := 4) (by omega)
  have hz : ab_nz 4 = true := by decide
  generalize hr : x - x / 4 * 4 = r at h
  have z0 : (0 : Int32).toInt = 0 := rfl
  by_cases h0 : 0 ≤ r
  · have h5 : 0 ≤ r.toInt := by rw [Int32.le_iff_toInt_le] at h0; omega
    obtain ⟨v, hv⟩ : ∃ v : Nat, r = nI v ∧ v ≤ 3 := ⟨r.toInt.toNat, by
      apply Int32.toInt_inj.mp
      rw [nI_toInt (by omega)]; omega, by omega⟩
    refine ⟨v, hv.2, fun σ => ?_, fun τ => ?_⟩
    · unfold f_J9_floorMod_7cf53
      rw [hz, ck_t, lt_d, hr]
      by_cases q : 0 ≤ x ^^^ 4
      · rw [if_pos q, hv.1]
      · rw [if_neg q, if_pos]
        · rw [hv.1]
        · have q2 : x ^^^ 4 < 0 := Int32.not_le.mp q
          rw [x4_sign, Int32.lt_iff_toInt_lt] at q2
          apply Int32.toInt_inj.mp
          have h6 : x.toInt.tmod 4 ≤ 0 := by
            have h7 := Int.tmod_nonneg (a := -x.toInt) 4 (by omega)
            rw [Int.neg_tmod] at h7; omega
          omega
    · unfold f_X12_restOf
      rw [lt_d, hr, if_pos h0, hv.1]
  · have h5 : r.toInt < 0 := by
      have := Int32.not_le.mp h0
      rw [Int32.lt_iff_toInt_lt] at this; omega
    obtain ⟨v, hv⟩ : ∃ v : Nat, r + 4 = nI v ∧ v ≤ 3 := ⟨(r.toInt + 4).toNat, by
      apply Int32.toInt_inj.mp
      rw [nI_toInt (by omega), Int32.toInt_add, show (4 : Int32).toInt = 4 from rfl, Int.bmod_eq_of_le (by omega) (by omega)]; omega, by omega⟩
    refine ⟨v, hv.2, fun σ => ?_, fun τ => ?_⟩
    · unfold f_J9_floorMod_7cf53
      rw [hz, ck_t, lt_d, hr, if_neg, if_neg, hv.1]
      · intro q; rw [q] at h5; omega
      · intro q
        have q3 : ¬ x < 0 := fun q2 => by
          have := (x4_sign x).mpr q2
          rw [Int32.lt_iff_toInt_lt] at this
          rw [Int32.le_iff_toInt_le] at q
          omega
        rw [Int32.lt_iff_toInt_lt] at q3
        have := Int.tmod_nonneg (a := x.toInt) 4 (by omega)
        omega
    · unfold f_X12_restOf
      rw [lt_d, hr, if_neg h0, hv.1]
/-- both keep within 0 .. 20 alike -/
theorem held20 (x : Int32) : ∃ v : Nat, v ≤ 20 ∧ (∀ σ, (f_J9_min_7cf53 20 x σ).bind (fun q => f_J9_max_7cf53 0 q σ) = some (nI v)) ∧ ∀ τ, f_X12_held x 0 20 τ = some (nI v) := by
  by_cases h0 : x < 0
  · refine ⟨0, by omega, fun σ => ?_, fun τ => ?_⟩
    · unfold f_J9_min_7cf53 f_J9_max_7cf53
      rw [if_pos (Int32.lt_trans h0 (by decide)), bi, if_neg]; rfl
      rw [Int32.lt_iff_toInt_lt] at h0 ⊢; omega
    · unfold f_X12_held
      rw [if_neg (Int32.not_le.mpr h0)]; rfl
  · obtain ⟨j, h1, rfl⟩ := nI_of h0
    by_cases h2 : j ≤ 20
    · refine ⟨j, h2, fun σ => ?_, fun τ => ?_⟩
      · unfold f_J9_min_7cf53 f_J9_max_7cf53
        by_cases h3 : j = 20
        · subst h3; rfl
        · simp (disch := omega) only [lit, nI_ltI, if_pos, bi]
          by_cases h4 : j = 0
          · subst h4; rfl
          · rw [if_pos (by omega)]
      · unfold f_X12_held
        simp (disch := omega) only [lit, nI_leI, if_pos]
    · refine ⟨20, by omega, fun σ => ?_, fun τ => ?_⟩
      · unfold f_J9_min_7cf53 f_J9_max_7cf53
        simp (disch := omega) only [lit, nI_ltI, if_neg, bi, if_pos]
      · unfold f_X12_held
        simp (disch := omega) only [lit, nI_leI, if_pos, if_neg]
/-! how many bits -/
def bcr : Nat → Nat → Nat
  | 0, _ => 0
  | n + 1, x => x % 2 + bcr n (x / 2)
def bc (x : Nat) : Nat := bcr 12 x
set_option maxRecDepth 100000 in
theorem bc_0 : ∀ a, a < 64 → ∀ b, b < 64 → f_J6_bitCount_0f7a4 (nI (64 * a + b)) (fun _ _ => 0) = some (nI (bc (64 * a + b))) ∧ f_X12_ones (nI (64 * a + b)) (fun _ _ => 0) = some (nI (bc (64 * a + b))) ∧ bc (64 * a + b) ≤ 12 := by decide +kernel
theorem bc_c (x : Nat) (σ : ab_F) (h : x < 4096) : f_J6_bitCount_0f7a4 (nI x) σ = some (nI (bc x)) := by
  have := (bc_0 (x / 64) (by omega) (x % 64) (by omega)).1
  rw [Nat.div_add_mod] at this
  exact this
theorem ones_L (σ τ : ab_F) (K : Int32 → Option Int32) : ∀ n a b, f_X12_ones_L4 σ K n a b = f_X12_ones_L4 τ K n a b := by
  intro n
  induction n with
  | zero => intro a b; rfl
  | succ n ih =>
    intro a b
    rw [f_X12_ones_L4, f_X12_ones_L4]
    simp only [lt_d, ih]
theorem bc_m (x : Nat) (σ : ab_F) (h : x < 4096) : f_X12_ones (nI x) σ = some (nI (bc x)) := by
  have := (bc_0 (x / 64) (by omega) (x % 64) (by omega)).2.1
  rw [Nat.div_add_mod] at this
  rw [← this]
  unfold f_X12_ones
  exact ones_L _ _ _ _ _ _
theorem bc_le {x : Nat} (h : x < 4096) : bc x ≤ 12 := by
  have := (bc_0 (x / 64) (by omega) (x % 64) (by omega)).2.2
  rwa [Nat.div_add_mod] at this
