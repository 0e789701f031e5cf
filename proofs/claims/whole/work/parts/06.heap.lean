/-! fields -/
def ab_FF (ci k : Nat) (ir : Bool) (F : String × String × String × Bool) : Prop := ∃ (C : String) (T : u_T) (N : Nat) (ty : Nat → FieldType), vwCl[ci]? = some (C, T, N) ∧ (∀ w ∈ u_ws C T N, w ∈ ab_T) ∧ (∀ k, k < N → parseFieldDescriptor (T k).2.2.1 = some (ty k)) ∧ (∀ a, a < N → ∀ b, b < N → a ≠ b → (T a).2.1 ≠ (T b).2.1) ∧ ab_nf ci = N ∧ k < N ∧ ab_isr ci k = ir ∧ T k = F
theorem ab_fs_get {ad : Nat → Nat} {S : ab_S} {c ci k : Nat} (hk : k < ab_nf ci) : (ab_fs ad S c ci)[k]? = some (cond (ab_isr ci k) (va_rf ((ab_rho S.2.1 S.2.2 c k).map ad)) (.int (S.1 c k))) := by
  simp [ab_fs, hk]
theorem ab_fs_len {ad : Nat → Nat} {S : ab_S} {c ci : Nat} : (ab_fs ad S c ci).length = ab_nf ci := by simp [ab_fs]
theorem ab_fs_set {ad : Nat → Nat} {S : ab_S} {c ci k : Nat} {x : Int32} (hir : ab_isr ci k = false) : (ab_fs ad S c ci).set k (.int x) = ab_fs ad (ab_u S.1 c k x, S.2) c ci := by
  apply List.ext_getElem?
  intro i
  by_cases hi : i < ab_nf ci
  · by_cases hk : i = k
    · subst hk
      rw [List.getElem?_set_self (by rw [ab_fs_len]; exact hi), ab_fs_get hi, hir]
      simp [ab_u, upd]
    · rw [List.getElem?_set_ne (Ne.symm hk), ab_fs_get hi, ab_fs_get hi]
      simp [ab_u, upd, hk]
  · rw [List.getElem?_eq_none (by rw [List.length_set, ab_fs_len]; omega), List.getElem?_eq_none (by rw [ab_fs_len]; omega)]
theorem ab_rho_ne {a a' b b' : Option Nat} {c k : Nat} (h : c ≠ 17) : ab_rho a b c k = ab_rho a' b' c k := by
  have e : Nat.beq c 17 = false := by
    cases hb : Nat.beq c 17 with
    | false => rfl
    | true => exact absurd (Nat.eq_of_beq_eq_true hb) h
  simp [ab_rho, e]
theorem ab_el_ne {cK : Nat → ClassId} {ad : Nat → Nat} {f : Nat → Nat → Int32} {a a' b b' : Option Nat} {c : Nat} (h : c ≠ 17) (q : Nat × Nat) : ab_el cK ad (f, a, b) c q = ab_el cK ad (f, a', b') c q := by
  have e : ∀ k, ab_rho a b c k = ab_rho a' b' c k := fun k => ab_rho_ne h
  unfold ab_el ab_fs
  simp only [e]
theorem ab_getI {M : ab_Me} {d pc : Nat} {sc : Nat × (Nat → Int32)} {L : List (Option Value)} {st : List Value} {S : ab_S} {Q : Option Value → ab_S → Prop} (c ci k : Nat) {idx : Nat} {F : String × String × String × Bool} (hd : decode M.2.1 pc = .ok (.getfield idx, 3)) (h8 : 8 ≤ c) (hq : ab_sh[c - 8]? = some (ci + 3, 0)) (hF : ab_FF ci k false F) (hw : Cond.fieldLink M.1 idx F.1 F.2.1 F.2.2.1 ∈ ab_T) (kk : ab_E M d sc (pc + 3) L (.int (S.1 c k) :: st) S Q) : ab_E M d sc pc L (.ref c :: st) S Q := by
  obtain ⟨C, T, N, ty, hc, hin, hty, hnm, hnf, hk, hir, hT⟩ := hF
  intro p l e R s m args below meth cd H locs cs sl D cK ad A ls Z G RC
  obtain ⟨hx, hb, hml, hown, hts, hfr, hlo, hcs, hsl, hK, hX, hP, hD, hS, hA, hl⟩ := id G
  refine va_get (ref := F.1) (index := idx) hx hb hts hin hown hK.1 hP (c - 8) (ab_ws_get h8 hq) hc k hk (by rw [hT]; exact hts _ hw) (by rw [hT]; exact fun x h => h) (v := .int (S.1 c k)) ?_ hd (kk p l e R s m args below meth cd H locs cs sl D cK ad A ls Z G RC)
  rw [ab_fs_get (by rw [hnf]; exact hk), hir]
  rfl
theorem ab_getR {M : ab_Me} {d pc : Nat} {sc : Nat × (Nat → Int32)} {L : List (Option Value)} {st : List Value} {S : ab_S} {Q : Option Value → ab_S → Prop} (c ci k r : Nat) {idx : Nat} {F : String × String × String × Bool} (hd : decode M.2.1 pc = .ok (.getfield idx, 3)) (h8 : 8 ≤ c) (hq : ab_sh[c - 8]? = some (ci + 3, 0)) (hF : ab_FF ci k true F) (hw : Cond.fieldLink M.1 idx F.1 F.2.1 F.2.2.1 ∈ ab_T) (hr : ab_rho S.2.1 S.2.2 c k = some r) (kk : ab_E M d sc (pc + 3) L (.ref r :: st) S Q) : ab_E M d sc pc L (.ref c :: st) S Q := by
  obtain ⟨C, T, N, ty, hc, hin, hty, hnm, hnf, hk, hir, hT⟩ := hF
  intro p l e R s m args below meth cd H locs cs sl D cK ad A ls Z G RC
  obtain ⟨hx, hb, hml, hown, hts, hfr, hlo, hcs, hsl, hK, hX, hP, hD, hS, hA, hl⟩ := id G
  refine va_get (ref := F.1) (index := idx) hx hb hts hin hown hK.1 hP (c - 8) (ab_ws_get h8 hq) hc k hk (by rw [hT]; exact hts _ hw) (by rw [hT]; exact fun x h => h) (v := .ref (ad r)) ?_ hd (kk p l e R s m args below meth cd H locs cs sl D cK ad A ls Z G RC)
  rw [ab_fs_get (by rw [hnf]; exact hk), hir, hr]
  rfl
theorem ab_putI {M : ab_Me} {d pc : Nat} {sc : Nat × (Nat → Int32)} {L : List (Option Value)} {st : List Value} {S : ab_S} {Q : Option Value → ab_S → Prop} (c ci k : Nat) {idx : Nat} {F : String × String × String × Bool} {ft : FieldType} {x : Int32} (hd : decode M.2.1 pc = .ok (.putfield idx, 3)) (h8 : 8 ≤ c) (hq : ab_sh[c - 8]? = some (ci + 3, 0)) (hF : ab_FF ci k false F) (hw : Cond.fieldLink M.1 idx F.1 F.2.1 F.2.2.1 ∈ ab_T) (hfin : F.2.2.2 = false) (hft : parseFieldDescriptor F.2.2.1 = some ft) (hn : narrow ft (.int x) = .int x) (hfit : fits ft (.int x) = true) (kk : ab_E M d sc (pc + 3) L st (ab_u S.1 c k x, S.2) Q) : ab_E M d sc pc L (.int x :: .ref c :: st) S Q := by
  obtain ⟨C, T, N, ty, hc, hin, hty, hnm, hnf, hk, hir, hT⟩ := hF
  intro p l e R s m args below meth cd H locs cs sl D cK ad A ls Z G RC
  obtain ⟨hx, hb, hml, hown, hts, hfr, hlo, hcs, hsl, hK, hX, hP, hD, hS, hA, hl⟩ := id G
  refine va_put (ref := F.1) (index := idx) (ty := ft) (v := .int x) hx hb hts hin ty hty hnm hown hK.1 hP hD hS (c - 8) (ab_ws_get h8 hq) hc k hk (by rw [hT]; exact hts _ hw) (by rw [hT]; exact fun x h => h) (by rw [hT]; exact hfin) (by rw [hT]; exact hft) hn hfit (by rw [ab_fs_len, hnf]; exact hk) hd (fun H1 locs1 hP1 hD1 hS1 => ?_)
  have e1 : (ab_ws cK ad S).set (c - 8) (ad c, .inr (ci, (ab_fs ad S c ci).set k (.int x))) = ab_ws cK ad (ab_u S.1 c k x, S.2) := by
    rw [ab_fs_set hir]
    exact ab_ws_set (S' := (ab_u S.1 c k x, S.2)) h8 hq (fun c' hc' q' => ab_el_other (ab_u_ne S.1 k x hc') q')
  rw [e1] at hP1 hD1
  exact kk p l e R s m args below meth cd H1 locs1 cs sl D cK ad A ls Z ⟨hx, hb, hml, hown, hts, hfr, hlo, hcs, hsl, hK, hX, hP1, hD1, hS1, hA, hl⟩ RC
theorem ab_putT {M : ab_Me} {d pc : Nat} {sc : Nat × (Nat → Int32)} {L : List (Option Value)} {st : List Value} {S : ab_S} {Q : Option Value → ab_S → Prop} (r : Nat) {idx : Nat} {F : String × String × String × Bool} {ft : FieldType} (hd : decode M.2.1 pc = .ok (.putfield idx, 3)) (hq : ab_sh[17 - 8]? = some (7 + 3, 0)) (hF : ab_FF 7 3 true F) (hw : Cond.fieldLink M.1 idx F.1 F.2.1 F.2.2.1 ∈ ab_T) (hfin : F.2.2.2 = false) (hft : parseFieldDescriptor F.2.2.1 = some ft) (hn : ∀ a, narrow ft (.ref a) = .ref a) (hfit : ∀ a, fits ft (.ref a) = true) (kk : ab_E M d sc (pc + 3) L st (S.1, some r, S.2.2) Q) : ab_E M d sc pc L (.ref r :: .ref 17 :: st) S Q := by
  obtain ⟨C, T, N, ty, hc, hin, hty, hnm, hnf, hk, hir, hT⟩ := hF
  intro p l e R s m args below meth cd H locs cs sl D cK ad A ls Z G RC
  obtain ⟨hx, hb, hml, hown, hts, hfr, hlo, hcs, hsl, hK, hX, hP, hD, hS, hA, hl⟩ := id G
  refine va_put (ref := F.1) (index := idx) (ty := ft) (v := .ref (ad r)) hx hb hts hin ty hty hnm hown hK.1 hP hD hS (17 - 8) (ab_ws_get (c := 17) (by decide) hq) hc 3 hk (by rw [hT]; exact hts _ hw) (by rw [hT]; exact fun x h => h) (by rw [hT]; exact hfin) (by rw [hT]; exact hft) (hn _) (hfit _) (by rw [ab_fs_len, hnf]; exact hk) hd (fun H1 locs1 hP1 hD1 hS1 => ?_)
  have e0 : (ab_fs ad S 17 7).set 3 (.ref (ad r)) = ab_fs ad (S.1, some r, S.2.2) 17 7 := rfl
  have e1 : (ab_ws cK ad S).set (17 - 8) (ad 17, .inr (7, (ab_fs ad S 17 7).set 3 (.ref (ad r)))) = ab_ws cK ad (S.1, some r, S.2.2) := by
    rw [e0]
    exact ab_ws_set (S' := (S.1, some r, S.2.2)) (c := 17) (by decide) hq (fun c' hc' q' => ab_el_ne hc' q')
  rw [e1] at hP1 hD1
  exact kk p l e R s m args below meth cd H1 locs1 cs sl D cK ad A ls Z ⟨hx, hb, hml, hown, hts, hfr, hlo, hcs, hsl, hK, hX, hP1, hD1, hS1, hA, hl⟩ RC
theorem ab_putN {M : ab_Me} {d pc : Nat} {sc : Nat × (Nat → Int32)} {L : List (Option Value)} {st : List Value} {S : ab_S} {Q : Option Value → ab_S → Prop} (r : Nat) {idx : Nat} {F : String × String × String × Bool} {ft : FieldType} (hd : decode M.2.1 pc = .ok (.putfield idx, 3)) (hq : ab_sh[17 - 8]? = some (7 + 3, 0)) (hF : ab_FF 7 4 true F) (hw : Cond.fieldLink M.1 idx F.1 F.2.1 F.2.2.1 ∈ ab_T) (hfin : F.2.2.2 = false) (hft : parseFieldDescriptor F.2.2.1 = some ft) (hn : ∀ a, narrow ft (.ref a) = .ref a) (hfit : ∀ a, fits ft (.ref a) = true) (kk : ab_E M d sc (pc + 3) L st (S.1, S.2.1, some r) Q) : ab_E M d sc pc L (.ref r :: .ref 17 :: st) S Q := by
  obtain ⟨C, T, N, ty, hc, hin, hty, hnm, hnf, hk, hir, hT⟩ := hF
  intro p l e R s m args below meth cd H locs cs sl D cK ad A ls Z G RC
  obtain ⟨hx, hb, hml, hown, hts, hfr, hlo, hcs, hsl, hK, hX, hP, hD, hS, hA, hl⟩ := id G
  refine va_put (ref := F.1) (index := idx) (ty := ft) (v := .ref (ad r)) hx hb hts hin ty hty hnm hown hK.1 hP hD hS (17 - 8) (ab_ws_get (c := 17) (by decide) hq) hc 4 hk (by rw [hT]; exact hts _ hw) (by rw [hT]; exact fun x h => h) (by rw [hT]; exact hfin) (by rw [hT]; exact hft) (hn _) (hfit _) (by rw [ab_fs_len, hnf]; exact hk) hd (fun H1 locs1 hP1 hD1 hS1 => ?_)
  have e0 : (ab_fs ad S 17 7).set 4 (.ref (ad r)) = ab_fs ad (S.1, S.2.1, some r) 17 7 := rfl
  have e1 : (ab_ws cK ad S).set (17 - 8) (ad 17, .inr (7, (ab_fs ad S 17 7).set 4 (.ref (ad r)))) = ab_ws cK ad (S.1, S.2.1, some r) := by
    rw [e0]
    exact ab_ws_set (S' := (S.1, S.2.1, some r)) (c := 17) (by decide) hq (fun c' hc' q' => ab_el_ne hc' q')
  rw [e1] at hP1 hD1
  exact kk p l e R s m args below meth cd H1 locs1 cs sl D cK ad A ls Z ⟨hx, hb, hml, hown, hts, hfr, hlo, hcs, hsl, hK, hX, hP1, hD1, hS1, hA, hl⟩ RC
/-! arrays -/
theorem ab_iald {M : ab_Me} {d pc : Nat} {sc : Nat × (Nat → Int32)} {L : List (Option Value)} {st : List Value} {S : ab_S} {Q : Option Value → ab_S → Prop} (c : Nat) {n : Nat} {i : Int32} (hd : decode M.2.1 pc = .ok (.iaload, 1)) (h8 : 8 ≤ c) (hq : ab_sh[c - 8]? = some (0, n)) (hin : vp_in i n) (kk : ab_E M d sc (pc + 1) L (.int (S.1 c i.toNatClampNeg) :: st) S Q) : ab_E M d sc pc L (.int i :: .ref c :: st) S Q := by
  intro p l e R s m args below meth cd H locs cs sl D cK ad A ls Z G RC
  obtain ⟨hx, hb, hml, hown, hts, hfr, hlo, hcs, hsl, hK, hX, hP, hD, hS, hA, hl⟩ := id G
  exact va_iald hx hb hK.1 hP (c - 8) 0 (ab_ws_get h8 hq) rfl hin hd (kk p l e R s m args below meth cd H locs cs sl D cK ad A ls Z G RC)
theorem ab_iast {M : ab_Me} {d pc : Nat} {sc : Nat × (Nat → Int32)} {L : List (Option Value)} {st : List Value} {S : ab_S} {Q : Option Value → ab_S → Prop} (c : Nat) {n : Nat} {i x : Int32} (hd : decode M.2.1 pc = .ok (.iastore, 1)) (h8 : 8 ≤ c) (hq : ab_sh[c - 8]? = some (0, n)) (hin : vp_in i n) (kk : ab_E M d sc (pc + 1) L st (ab_u S.1 c i.toNatClampNeg x, S.2) Q) : ab_E M d sc pc L (.int x :: .int i :: .ref c :: st) S Q := by
  intro p l e R s m args below meth cd H locs cs sl D cK ad A ls Z G RC
  obtain ⟨hx, hb, hml, hown, hts, hfr, hlo, hcs, hsl, hK, hX, hP, hD, hS, hA, hl⟩ := id G
  refine va_iast hx hb hK.1 hP hD hS (c - 8) 0 (ab_ws_get h8 hq) rfl hin hd (fun H1 locs1 hP1 hD1 hS1 => ?_)
  have e1 : (ab_ws cK ad S).set (c - 8) (ad c, .inl (cK 0, n, .inl (upd (S.1 c) i.toNatClampNeg x))) = ab_ws cK ad (ab_u S.1 c i.toNatClampNeg x, S.2) := by
    rw [← ab_ws_set (S := S) (S' := (ab_u S.1 c i.toNatClampNeg x, S.2)) (cK := cK) (ad := ad) h8 hq (fun c' hc' q' => ab_el_other (ab_u_ne S.1 _ x hc') q')]
    show _ = (ab_ws cK ad S).set (c - 8) (ad c, .inl (cK 0, n, .inl (ab_u S.1 c i.toNatClampNeg x c)))
    rw [ab_u_same]
  rw [e1] at hP1 hD1
  exact kk p l e R s m args below meth cd H1 locs1 cs sl D cK ad A ls Z ⟨hx, hb, hml, hown, hts, hfr, hlo, hcs, hsl, hK, hX, hP1, hD1, hS1, hA, hl⟩ RC
theorem ab_alen {M : ab_Me} {d pc : Nat} {sc : Nat × (Nat → Int32)} {L : List (Option Value)} {st : List Value} {S : ab_S} {Q : Option Value → ab_S → Prop} (c : Nat) {n : Nat} {v : Int32} (hd : decode M.2.1 pc = .ok (.arraylength, 1)) (h8 : 8 ≤ c) (hq : ab_sh[c - 8]? = some (0, n)) (hv : Int32.ofNat n = v) (kk : ab_E M d sc (pc + 1) L (.int v :: st) S Q) : ab_E M d sc pc L (.ref c :: st) S Q := by
  intro p l e R s m args below meth cd H locs cs sl D cK ad A ls Z G RC
  obtain ⟨hx, hb, hml, hown, hts, hfr, hlo, hcs, hsl, hK, hX, hP, hD, hS, hA, hl⟩ := id G
  exact va_alen hx hb hK.1 hP (c - 8) 0 (ab_ws_get h8 hq) rfl hv hd (kk p l e R s m args below meth cd H locs cs sl D cK ad A ls Z G RC)
theorem ab_aaldG {M : ab_Me} {d pc : Nat} {sc : Nat × (Nat → Int32)} {L : List (Option Value)} {st : List Value} {S : ab_S} {Q : Option Value → ab_S → Prop} (c r : Nat) {n : Nat} {i : Int32} (hd : decode M.2.1 pc = .ok (.aaload, 1)) (h8 : 8 ≤ c) (hq : ab_sh[c - 8]? = some (1, n)) (hin : vp_in i n) (hr : ab_rho S.2.1 S.2.2 c i.toNatClampNeg = some r) (kk : ab_E M d sc (pc + 1) L (.ref r :: st) S Q) : ab_E M d sc pc L (.int i :: .ref c :: st) S Q := by
  intro p l e R s m args below meth cd H locs cs sl D cK ad A ls Z G RC
  obtain ⟨hx, hb, hml, hown, hts, hfr, hlo, hcs, hsl, hK, hX, hP, hD, hS, hA, hl⟩ := id G
  refine va_aldq hx hb hK.1 hP (c - 8) 1 (ab_ws_get h8 hq) rfl hin hd ?_
  show W p l e R s m args below meth cd H locs cs sl Z (F0 m (pc + 1) ls (va_rf ((ab_rho S.2.1 S.2.2 c i.toNatClampNeg).map ad) :: st.map (ab_tv ad)))
  rw [hr]
  exact kk p l e R s m args below meth cd H locs cs sl D cK ad A ls Z G RC
theorem ab_aaldR {M : ab_Me} {d pc : Nat} {sc : Nat × (Nat → Int32)} {L : List (Option Value)} {st : List Value} {S : ab_S} {Q : Option Value → ab_S → Prop} (c r : Nat) {n : Nat} {i : Int32} (hd : decode M.2.1 pc = .ok (.aaload, 1)) (h8 : 8 ≤ c) (hq : ab_sh[c - 8]? = some (2, n)) (hin : vp_in i n) (hr : ab_rho S.2.1 S.2.2 c i.toNatClampNeg = some r) (kk : ab_E M d sc (pc + 1) L (.ref r :: st) S Q) : ab_E M d sc pc L (.int i :: .ref c :: st) S Q := by
  intro p l e R s m args below meth cd H locs cs sl D cK ad A ls Z G RC
  obtain ⟨hx, hb, hml, hown, hts, hfr, hlo, hcs, hsl, hK, hX, hP, hD, hS, hA, hl⟩ := id G
  refine va_aldq hx hb hK.1 hP (c - 8) 2 (ab_ws_get h8 hq) rfl hin hd ?_
  show W p l e R s m args below meth cd H locs cs sl Z (F0 m (pc + 1) ls (va_rf ((ab_rho S.2.1 S.2.2 c i.toNatClampNeg).map ad) :: st.map (ab_tv ad)))
  rw [hr]
  exact kk p l e R s m args below meth cd H locs cs sl D cK ad A ls Z G RC
/-! what nobody writes -/
theorem ab_tald {M : ab_Me} {d pc : Nat} {sc : Nat × (Nat → Int32)} {L : List (Option Value)} {st : List Value} {S : ab_S} {Q : Option Value → ab_S → Prop} (q : Nat × Nat) {i : Int32} (hd : decode M.2.1 pc = .ok (.iaload, 1)) (hq : q ∈ ab_tas) (hin : vp_in i q.2) (kk : ab_E M d sc (pc + 1) L (.int (ab_tab q.1 i.toNatClampNeg) :: st) S Q) : ab_E M d sc pc L (.int i :: .ref q.1 :: st) S Q := by
  intro p l e R s m args below meth c H locs cs sl D cK ad A ls Z G RC
  obtain ⟨hx, hb, hml, hown, hts, hfr, hlo, hcs, hsl, hK, hX, hP, hD, hS, hA, hl⟩ := id G
  exact va_ti hx hb (hX.2.2.1 q hq) hS hin rfl hd (kk p l e R s m args below meth c H locs cs sl D cK ad A ls Z G RC)
theorem ab_talen {M : ab_Me} {d pc : Nat} {sc : Nat × (Nat → Int32)} {L : List (Option Value)} {st : List Value} {S : ab_S} {Q : Option Value → ab_S → Prop} (q : Nat × Nat) {v : Int32} (hd : decode M.2.1 pc = .ok (.arraylength, 1)) (hq : q ∈ ab_tas) (hv : Int32.ofNat q.2 = v) (kk : ab_E M d sc (pc + 1) L (.int v :: st) S Q) : ab_E M d sc pc L (.ref q.1 :: st) S Q := by
  intro p l e R s m args below meth c H locs cs sl D cK ad A ls Z G RC
  obtain ⟨hx, hb, hml, hown, hts, hfr, hlo, hcs, hsl, hK, hX, hP, hD, hS, hA, hl⟩ := id G
  exact va_tlen hx hb (hX.2.2.1 q hq) hS hv hd (kk p l e R s m args below meth c H locs cs sl D cK ad A ls Z G RC)
theorem ab_sald {M : ab_Me} {d pc : Nat} {sc : Nat × (Nat → Int32)} {L : List (Option Value)} {st : List Value} {S : ab_S} {Q : Option Value → ab_S → Prop} {i : Int32} (hd : decode M.2.1 pc = .ok (.iaload, 1)) (hin : vp_in i sc.1) (kk : ab_E M d sc (pc + 1) L (.int (sc.2 i.toNatClampNeg) :: st) S Q) : ab_E M d sc pc L (.int i :: .ref 0 :: st) S Q := by
  intro p l e R s m args below meth c H locs cs sl D cK ad A ls Z G RC
  obtain ⟨hx, hb, hml, hown, hts, hfr, hlo, hcs, hsl, hK, hX, hP, hD, hS, hA, hl⟩ := id G
  exact va_ti hx hb hX.1 hS hin rfl hd (kk p l e R s m args below meth c H locs cs sl D cK ad A ls Z G RC)
theorem ab_salen {M : ab_Me} {d pc : Nat} {sc : Nat × (Nat → Int32)} {L : List (Option Value)} {st : List Value} {S : ab_S} {Q : Option Value → ab_S → Prop} (hd : decode M.2.1 pc = .ok (.arraylength, 1)) (kk : ab_E M d sc (pc + 1) L (.int (Int32.ofNat sc.1) :: st) S Q) : ab_E M d sc pc L (.ref 0 :: st) S Q := by
  intro p l e R s m args below meth c H locs cs sl D cK ad A ls Z G RC
  obtain ⟨hx, hb, hml, hown, hts, hfr, hlo, hcs, hsl, hK, hX, hP, hD, hS, hA, hl⟩ := id G
  exact va_tlen hx hb hX.1 hS rfl hd (kk p l e R s m args below meth c H locs cs sl D cK ad A ls Z G RC)
theorem ab_gets {M : ab_Me} {d pc : Nat} {sc : Nat × (Nat → Int32)} {L : List (Option Value)} {st : List Value} {S : ab_S} {Q : Option Value → ab_S → Prop} (q : Nat × String) {idx : Nat} (hd : decode M.2.1 pc = .ok (.getstatic idx, 3)) (hq : q ∈ ab_sts) (hw : Cond.fieldLink M.1 idx "StiltParish" q.2 "[I" ∈ ab_T) (kk : ab_E M d sc (pc + 3) L (.ref q.1 :: st) S Q) : ab_E M d sc pc L st S Q := by
  intro p l e R s m args below meth c H locs cs sl D cK ad A ls Z G RC
  obtain ⟨hx, hb, hml, hown, hts, hfr, hlo, hcs, hsl, hK, hX, hP, hD, hS, hA, hl⟩ := id G
  exact va_gets hx hb (hX.2.1 q hq) hS hown (hts _ hw) (fun x h => h) hd (kk p l e R s m args below meth c H locs cs sl D cK ad A ls Z G RC)
theorem ab_getsB {M : ab_Me} {d pc : Nat} {sc : Nat × (Nat → Int32)} {L : List (Option Value)} {st : List Value} {S : ab_S} {Q : Option Value → ab_S → Prop} (hM : M.1 = "StiltParish$World") (hd : decode M.2.1 pc = .ok (.getstatic 143, 3)) (kk : ab_E M d sc (pc + 3) L (.ref 1 :: st) S Q) : ab_E M d sc pc L st S Q := by
  intro p l e R s m args below meth c H locs cs sl D cK ad A ls Z G RC
  obtain ⟨hx, hb, hml, hown, hts, hfr, hlo, hcs, hsl, hK, hX, hP, hD, hS, hA, hl⟩ := id G
  rw [hM] at hown
  exact va_getsN hx hb (hX.2.1 (1, "BESIDE") (by decide)) hS hown (va_Nw.use rfl hK.2.1) (fun x h => h) hd (kk p l e R s m args below meth c H locs cs sl D cK ad A ls Z G RC)
theorem ab_getsC {M : ab_Me} {d pc : Nat} {sc : Nat × (Nat → Int32)} {L : List (Option Value)} {st : List Value} {S : ab_S} {Q : Option Value → ab_S → Prop} {idx : Nat} (hd : decode M.2.1 pc = .ok (.getstatic idx, 3)) (hw : Cond.fieldLink M.1 idx "java/lang/String" "COMPACT_STRINGS" "Z" ∈ ab_T) (kk : ab_E M d sc (pc + 3) L (.int 1 :: st) S Q) : ab_E M d sc pc L st S Q := by
  intro p l e R s m args below meth c H locs cs sl D cK ad A ls Z G RC
  obtain ⟨hx, hb, hml, hown, hts, hfr, hlo, hcs, hsl, hK, hX, hP, hD, hS, hA, hl⟩ := id G
  exact va_gets hx hb hX.2.2.2.1 hS hown (hts _ hw) (fun x h => h) hd (kk p l e R s m args below meth c H locs cs sl D cK ad A ls Z G RC)
theorem ab_ldcS {M : ab_Me} {d pc : Nat} {sc : Nat × (Nat → Int32)} {L : List (Option Value)} {st : List Value} {S : ab_S} {Q : Option Value → ab_S → Prop} (q : Nat × String × Nat × Nat × Nat) (hM : M.1 = "StiltParish") (hd : decode M.2.1 pc = .ok (.ldc q.1, 2)) (hq : q ∈ ab_srs) (kk : ab_E M d sc (pc + 2) L (.ref q.2.2.1 :: st) S Q) : ab_E M d sc pc L st S Q := by
  intro p l e R s m args below meth c H locs cs sl D cK ad A ls Z G RC
  obtain ⟨hx, hb, hml, hown, hts, hfr, hlo, hcs, hsl, hK, hX, hP, hD, hS, hA, hl⟩ := id G
  rw [hM] at hown
  exact va_ldcS hx hb hown (hX.2.2.2.2.2 q hq) hd (kk p l e R s m args below meth c H locs cs sl D cK ad A ls Z G RC)
theorem ab_strV {M : ab_Me} {d pc : Nat} {sc : Nat × (Nat → Int32)} {L : List (Option Value)} {st : List Value} {S : ab_S} {Q : Option Value → ab_S → Prop} (q : Nat × String × Nat × Nat × Nat) {idx : Nat} (hd : decode M.2.1 pc = .ok (.getfield idx, 3)) (hq : q ∈ ab_srs) (hw : Cond.fieldLink M.1 idx "java/lang/String" "value" "[B" ∈ ab_T) (kk : ab_E M d sc (pc + 3) L (.ref q.2.2.2.1 :: st) S Q) : ab_E M d sc pc L (.ref q.2.2.1 :: st) S Q := by
  intro p l e R s m args below meth c H locs cs sl D cK ad A ls Z G RC
  obtain ⟨hx, hb, hml, hown, hts, hfr, hlo, hcs, hsl, hK, hX, hP, hD, hS, hA, hl⟩ := id G
  exact vk_getf hx hb (hX.2.2.2.2.1 q hq).2.2.1 hS hown (hts _ hw) (fun x h => h) hd (kk p l e R s m args below meth c H locs cs sl D cK ad A ls Z G RC)
theorem ab_strC {M : ab_Me} {d pc : Nat} {sc : Nat × (Nat → Int32)} {L : List (Option Value)} {st : List Value} {S : ab_S} {Q : Option Value → ab_S → Prop} (q : Nat × String × Nat × Nat × Nat) {idx : Nat} (hd : decode M.2.1 pc = .ok (.getfield idx, 3)) (hq : q ∈ ab_srs) (hw : Cond.fieldLink M.1 idx "java/lang/String" "coder" "B" ∈ ab_T) (kk : ab_E M d sc (pc + 3) L (.int 0 :: st) S Q) : ab_E M d sc pc L (.ref q.2.2.1 :: st) S Q := by
  intro p l e R s m args below meth c H locs cs sl D cK ad A ls Z G RC
  obtain ⟨hx, hb, hml, hown, hts, hfr, hlo, hcs, hsl, hK, hX, hP, hD, hS, hA, hl⟩ := id G
  exact vk_getf hx hb (hX.2.2.2.2.1 q hq).2.1 hS hown (hts _ hw) (fun x h => h) hd (kk p l e R s m args below meth c H locs cs sl D cK ad A ls Z G RC)
theorem ab_bald {M : ab_Me} {d pc : Nat} {sc : Nat × (Nat → Int32)} {L : List (Option Value)} {st : List Value} {S : ab_S} {Q : Option Value → ab_S → Prop} (q : Nat × String × Nat × Nat × Nat) {i : Int32} (hd : decode M.2.1 pc = .ok (.baload, 1)) (hq : q ∈ ab_srs) (hin : vp_in i q.2.2.2.2) (kk : ab_E M d sc (pc + 1) L (.int (ab_tab q.2.2.2.1 i.toNatClampNeg) :: st) S Q) : ab_E M d sc pc L (.int i :: .ref q.2.2.2.1 :: st) S Q := by
  intro p l e R s m args below meth c H locs cs sl D cK ad A ls Z G RC
  obtain ⟨hx, hb, hml, hown, hts, hfr, hlo, hcs, hsl, hK, hX, hP, hD, hS, hA, hl⟩ := id G
  exact va_tb hx hb (hX.2.2.2.2.1 q hq).2.2.2 hS hin rfl hd (kk p l e R s m args below meth c H locs cs sl D cK ad A ls Z G RC)
theorem ab_balen {M : ab_Me} {d pc : Nat} {sc : Nat × (Nat → Int32)} {L : List (Option Value)} {st : List Value} {S : ab_S} {Q : Option Value → ab_S → Prop} (q : Nat × String × Nat × Nat × Nat) {v : Int32} (hd : decode M.2.1 pc = .ok (.arraylength, 1)) (hq : q ∈ ab_srs) (hv : Int32.ofNat q.2.2.2.2 = v) (kk : ab_E M d sc (pc + 1) L (.int v :: st) S Q) : ab_E M d sc pc L (.ref q.2.2.2.1 :: st) S Q := by
  intro p l e R s m args below meth c H locs cs sl D cK ad A ls Z G RC
  obtain ⟨hx, hb, hml, hown, hts, hfr, hlo, hcs, hsl, hK, hX, hP, hD, hS, hA, hl⟩ := id G
  exact va_tlen hx hb (hX.2.2.2.2.1 q hq).2.2.2 hS hv hd (kk p l e R s m args below meth c H locs cs sl D cK ad A ls Z G RC)
/-! instanceof -/
theorem ab_instS {M : ab_Me} {d pc : Nat} {sc : Nat × (Nat → Int32)} {L : List (Option Value)} {st : List Value} {S : ab_S} {Q : Option Value → ab_S → Prop} (c ci : Nat) {idx N : Nat} {C nm : String} {T : u_T} (hd : decode M.2.1 pc = .ok (.instanceof idx, 3)) (h8 : 8 ≤ c) (hq : ab_sh[c - 8]? = some (ci + 3, 0)) (hc : vwCl[ci]? = some (C, T, N)) (hC : C = nm) (hw : Cond.classLink M.1 idx nm ∈ ab_T) (kk : ab_E M d sc (pc + 3) L (.int 1 :: st) S Q) : ab_E M d sc pc L (.ref c :: st) S Q := by
  intro p l e R s m args below meth cd H locs cs sl D cK ad A ls Z G RC
  obtain ⟨hx, hb, hml, hown, hts, hfr, hlo, hcs, hsl, hK, hX, hP, hD, hS, hA, hl⟩ := id G
  subst hC
  exact va_instS hx hb hown (hts _ hw) (hK.1.1 ci _ hc).2 (va_recv hK.1 hP hc (ab_ws_get h8 hq)) hd (kk p l e R s m args below meth cd H locs cs sl D cK ad A ls Z G RC)
theorem ab_instY {M : ab_Me} {d pc : Nat} {sc : Nat × (Nat → Int32)} {L : List (Option Value)} {st : List Value} {S : ab_S} {Q : Option Value → ab_S → Prop} (c ci : Nat) {idx N : Nat} {C nm : String} {T : u_T} (hd : decode M.2.1 pc = .ok (.instanceof idx, 3)) (h8 : 8 ≤ c) (hq : ab_sh[c - 8]? = some (ci + 3, 0)) (hc : vwCl[ci]? = some (C, T, N)) (hy : (C, nm) ∈ ab_cy) (hw : Cond.classLink M.1 idx nm ∈ ab_T) (kk : ab_E M d sc (pc + 3) L (.int 1 :: st) S Q) : ab_E M d sc pc L (.ref c :: st) S Q := by
  intro p l e R s m args below meth cd H locs cs sl D cK ad A ls Z G RC
  obtain ⟨hx, hb, hml, hown, hts, hfr, hlo, hcs, hsl, hK, hX, hP, hD, hS, hA, hl⟩ := id G
  exact va_instY hx hb hown (hts _ hw) (hK.2.2.1 _ hy) (va_recv hK.1 hP hc (ab_ws_get h8 hq)) hd (kk p l e R s m args below meth cd H locs cs sl D cK ad A ls Z G RC)
theorem ab_instN {M : ab_Me} {d pc : Nat} {sc : Nat × (Nat → Int32)} {L : List (Option Value)} {st : List Value} {S : ab_S} {Q : Option Value → ab_S → Prop} (c ci : Nat) {idx N : Nat} {C nm : String} {T : u_T} (hd : decode M.2.1 pc = .ok (.instanceof idx, 3)) (h8 : 8 ≤ c) (hq : ab_sh[c - 8]? = some (ci + 3, 0)) (hc : vwCl[ci]? = some (C, T, N)) (hy : (C, nm) ∈ ab_nc) (hw : Cond.classLink M.1 idx nm ∈ ab_T) (kk : ab_E M d sc (pc + 3) L (.int 0 :: st) S Q) : ab_E M d sc pc L (.ref c :: st) S Q := by
  intro p l e R s m args below meth cd H locs cs sl D cK ad A ls Z G RC
  obtain ⟨hx, hb, hml, hown, hts, hfr, hlo, hcs, hsl, hK, hX, hP, hD, hS, hA, hl⟩ := id G
  exact va_instNo hx hb hown (hts _ hw) (hK.2.2.2 _ hy) (va_recv hK.1 hP hc (ab_ws_get h8 hq)) hd (kk p l e R s m args below meth cd H locs cs sl D cK ad A ls Z G RC)
/-! the ends -/
theorem ab_iret {M : ab_Me} {d pc : Nat} {sc : Nat × (Nat → Int32)} {L : List (Option Value)} {st : List Value} {S : ab_S} {Q : Option Value → ab_S → Prop} {ty : FieldType} {x : Int32} (hd : decode M.2.1 pc = .ok (.ireturn, 1)) (hty : M.2.2.2 = some ty) (hn : narrow ty (.int x) = .int x) (hq : Q (some (.int x)) S) : ab_E M d sc pc L [.int x] S Q := by
  intro p l e R s m args below meth c H locs cs sl D cK ad A ls Z G RC
  obtain ⟨hx, hb, hml, hown, hts, hfr, hlo, hcs, hsl, hK, hX, hP, hD, hS, hA, hl⟩ := id G
  exact RC (some (.int x)) S H locs pc ls L hq G (Or.inl ⟨ty, x, hty, rfl, hn, hd⟩)
theorem ab_vret {M : ab_Me} {d pc : Nat} {sc : Nat × (Nat → Int32)} {L : List (Option Value)} {st : List Value} {S : ab_S} {Q : Option Value → ab_S → Prop} (hd : decode M.2.1 pc = .ok (.return_, 1)) (hty : M.2.2.2 = none) (hq : Q none S) : ab_E M d sc pc L [] S Q := by
  intro p l e R s m args below meth c H locs cs sl D cK ad A ls Z G RC
  obtain ⟨hx, hb, hml, hown, hts, hfr, hlo, hcs, hsl, hK, hX, hP, hD, hS, hA, hl⟩ := id G
  exact RC none S H locs pc ls L hq G (Or.inr (Or.inl ⟨hty, rfl, hd⟩))
theorem ab_aret {M : ab_Me} {d pc : Nat} {sc : Nat × (Nat → Int32)} {L : List (Option Value)} {st : List Value} {S : ab_S} {Q : Option Value → ab_S → Prop} {rt : FieldType} {r : Nat} (hd : decode M.2.1 pc = .ok (.areturn, 1)) (hty : M.2.2.2 = some rt) (ho : (∃ n, rt = .object n) ∨ ∃ t, rt = .array t) (hq : Q (some (.ref r)) S) : ab_E M d sc pc L [.ref r] S Q := by
  intro p l e R s m args below meth c H locs cs sl D cK ad A ls Z G RC
  obtain ⟨hx, hb, hml, hown, hts, hfr, hlo, hcs, hsl, hK, hX, hP, hD, hS, hA, hl⟩ := id G
  exact RC (some (.ref r)) S H locs pc ls L hq G (Or.inr (Or.inr ⟨rt, r, hty, ho, rfl, hd⟩))
theorem ab_mono {M : ab_Me} {d pc : Nat} {sc : Nat × (Nat → Int32)} {L : List (Option Value)} {st : List Value} {S : ab_S} {Q Q2 : Option Value → ab_S → Prop} (h : ab_E M d sc pc L st S Q) (hq : ∀ v S, Q v S → Q2 v S) : ab_E M d sc pc L st S Q2 := by
  intro p l e R s m args below meth c H locs cs sl D cK ad A ls Z G RC
  exact h p l e R s m args below meth c H locs cs sl D cK ad A ls Z G (fun v S H locs pc ls L q => RC v S H locs pc ls L (hq v S q))
/-! calls -/
def ab_Pre (sc : Nat × (Nat → Int32)) (D : va_G) (cK : Nat → ClassId) (ad : Nat → Nat) (S : ab_S) (sz : Nat) (U : State) : Prop := U.heap.size = sz ∧ ab_K D cK U ∧ ab_X sc ad (va_A (ab_ws cK ad S) sz) U U.heap ∧ va_P D vwCl (ab_ws cK ad S) U.heap ∧ va_D (fun _ => True) (ab_ws cK ad S)
def ab_Qc (Q : Option Value → ab_S → Prop) (D : va_G) (cK : Nat → ClassId) (ad : Nat → Nat) (A : Nat → Prop) : Array Value → State → Outcome → State → Prop := fun _ st oc t => (∃ (v : Option Value) (S : ab_S), oc = .returned (v.map (ab_tv ad)) ∧ Q v S ∧ va_P D vwCl (ab_ws cK ad S) t.heap) ∧ va_F A st t
theorem ab_met {M : ab_Me} {y : MethodName} {d : Nat} {sc : Nat × (Nat → Int32)} {S : ab_S} {Q : Option Value → ab_S → Prop} {D : va_G} {cK : Nat → ClassId} {ad : Nat → Nat} (l : Launch) (sz : Nat) (vs : List Value) (L : List (Option Value)) (hy : plainFor y = true) (hM : M.1 = y.cls) (hL : ∀ ad, ab_lv ad 0 L = lv_args 0 (vs.map (ab_tv ad))) (hn : ∀ ad, (lg_sl (vs.map (ab_tv ad))).length ≤ M.2.2.1) (hE : ab_E M d sc 0 L [] S Q) :
    Met l y (Cond.code y M.2.1 M.2.2.1 M.2.2.2 :: ab_T) ({ frames := d, cells := 0, slots := 0, locals := 40 * d }) (va_Pc (vs.map (ab_tv ad)) (ab_Pre sc D cK ad S sz)) (ab_Qc Q D cK ad (va_A (ab_ws cK ad S) sz)) 0 0 (va_A (ab_ws cK ad S) sz) := by
  refine va_MetF (cc := M.2.1) (maxL := M.2.2.1) (ret := M.2.2.2) hy rfl ?_
  intro p e s m args below meth c s₁ B hml hv
  obtain ⟨rfl, hsz, hK, hX, hP, hD0⟩ := hv
  have hts := atoms_spec (ws := Cond.code y M.2.1 M.2.2.1 M.2.2.2 :: ab_T) B.pre
  have hown : s.vm.findClass M.1 = some m.cls := by rw [hM]; exact findClass_of_methodNamed B.named
  subst hsz
  have hD := hD0.self (sz := s.heap.size)
  have hl := lv_entry (vs.map (ab_tv ad)) (n := M.2.2.1) (hn ad)
  rw [lg_entry_eq]
  generalize (lg_sl (vs.map (ab_tv ad)) ++ List.replicate (M.2.2.1 - (lg_sl (vs.map (ab_tv ad))).length) Slot.unset).toArray = ls at hl ⊢
  refine hE p l e _ s m _ below meth c s.heap [] 0 0 D cK ad (va_A (ab_ws cK ad S) s.heap.size) ls _ ⟨B.exec, B.bytes, hml, hown, fun w h => hts w (List.mem_cons_of_mem _ h), Nat.le_refl _, Nat.le_refl _, Nat.zero_le _, Nat.zero_le _, hK, hX, hP, hD, va_S.rf, fun q h => Or.inr h, by rw [hL]; exact hl⟩ ?_
  intro v S' H locs pc ls L' hq G hR
  obtain ⟨hx, hb, hml, hown, hts, hfr, hlo, hcs, hsl, hK, hX, hP, hD, hS, hA, hl⟩ := G
  have hpost : ∀ t : State, t.heap = H → s.WarmedH t.vm → ab_Qc Q D cK ad (va_A (ab_ws cK ad S) s.heap.size) (vs.map (ab_tv ad)).toArray s (.returned (v.map (ab_tv ad))) t := fun t ht _ => ⟨⟨v, S', rfl, hq, by rw [ht]; exact hP⟩, hS.F ht⟩
  rcases hR with ⟨ty, x, h1, rfl, h3, h4⟩ | ⟨h1, rfl, h3⟩ | ⟨rt, k, h1, h2, rfl, h4⟩
  · exact W.zret hx hb (B.returns.trans h1) h3 hpost hS.2.2 h4 (hlocks := B.notSynchronized)
  · exact W.vret hx hb (B.returns.trans h1) hpost hS.2.2 h3 (hlocks := B.notSynchronized)
  · exact W.aret (v := .ref (ad k)) hx hb (B.returns.trans h1) h2 (Or.inr ⟨_, rfl⟩) hpost hS.2.2 h4 (hlocks := B.notSynchronized)
section
variable {p : Program} {l : Launch} {e : Env} {R : Room} {s : State} {m : MethodId} {args : Array Value} {below : List Frame} {meth : Method} {c : Code} {H : Heap} {locs : List Loc} {cs sl : Nat} {D : va_G} {cK : Nat → ClassId} {ad : Nat → Nat} {A : Nat → Prop} {ls : Array Slot} {Z : State → Prop} {M : ab_Me} {d pc : Nat} {sc : Nat × (Nat → Int32)} {L : List (Option Value)} {S : ab_S}
theorem ab_G.free (G : ab_G M d sc p l e R s m args c H locs cs sl D cK ad A ls L S) : ∀ q, va_A (ab_ws cK ad S) H.size q → A q := by
  obtain ⟨hx, hb, hml, hown, hts, hfr, hlo, hcs, hsl, hK, hX, hP, hD, hS, hA, hl⟩ := G
  intro q h
  rcases h with ⟨k, e, h⟩ | h
  · exact hD.2 k _ h
  · exact hA q (Nat.le_trans hS.1 h)
theorem ab_preS (G : ab_G M d sc p l e R s m args c H locs cs sl D cK ad A ls L S) (vs : List Value) : PreS s H (va_Pc vs (ab_Pre sc D cK ad S H.size)) vs := by
  have hF := G.free
  obtain ⟨hx, hb, hml, hown, hts, hfr, hlo, hcs, hsl, hK, hX, hP, hD, hS, hA, hl⟩ := G
  refine ⟨fun a U g mk q => ⟨q.1, q.2.1, q.2.2.1.same rfl, q.2.2.2.1.same rfl, q.2.2.2.2.1, q.2.2.2.2.2⟩, fun U hU hW => ⟨rfl, by rw [hU], hK.warm hW, ?_, by rw [hU]; exact hP, hD.weaken (fun _ _ _ _ => trivial)⟩⟩
  rw [hU]
  exact hX.go hS.2.1 hF hW
theorem ab_after {st0 rest : List Value} {Q1 : Option Value → ab_S → Prop} {as : Array Value} (G : ab_G M d sc p l e R s m args c H locs cs sl D cK ad A ls L S)
    (hr : va_Run p l e R s m args below meth c H locs cs sl 0 0 (F0 m pc ls st0) rest (ab_Qc Q1 D cK ad (va_A (ab_ws cK ad S) H.size) as) (va_A (ab_ws cK ad S) H.size))
    (k : ∀ (v : Option Value) (S' : ab_S) (H1 : Heap) (locs1 : List Loc), Q1 v S' → ab_G M d sc p l e R s m args c H1 locs1 cs sl D cK ad A ls L S' → W p l e R s m args below meth c H1 locs1 cs sl Z (F0 m (pc + 3) ls ((v.map (ab_tv ad)).toList ++ rest))) : W p l e R s m args below meth c H locs cs sl Z (F0 m pc ls st0) := by
  have hF := G.free
  obtain ⟨hx, hb, hml, hown, hts, hfr, hlo, hcs, hsl, hK, hX, hP, hD, hS, hA, hl⟩ := G
  intro T hT X
  obtain ⟨v, st₀, t, T', Lc, h0, X', hLc, e1, e2, ⟨⟨w, S', hv, hq, hP'⟩, hz, hk⟩, stp⟩ := hr T hT X
  have hv' : v = w.map (ab_tv ad) := Outcome.returned.inj hv
  subst hv'
  rw [h0] at hz hk
  obtain ⟨t2, a1, b1⟩ := k w S' T'.heap (locs ++ Lc) hq ⟨hx, hb, hml, hown, hts, hfr, hlo, hcs, hsl, hK, hX, by rw [e1]; exact hP', ab_ws_D hD, ⟨Nat.le_trans hS.1 (by rw [e1]; exact hz), fun q h1 h2 => by rw [e1, hk q (Nat.lt_of_lt_of_le h1 hS.1) (fun z => h2 (hF q z))]; exact hS.2.1 q h1 h2, fun q hq => by
      rcases List.mem_append.mp hq with h | h
      · exact hS.2.2 q h
      · exact hF _ (hLc q h)⟩, hA, hl⟩ T' rfl X'
  exact ⟨t2, stp t2 a1, b1⟩
end
theorem ab_gi {pre : List Cond} {cd : Cond} (h : ∀ w ∈ pre, w ∈ ab_T) (hc : cd ∈ ab_T) : GoodIn ab_T (pre ++ (cd :: ab_T)) := by
  have g : ∀ w, w ∈ ab_T → w ∈ ab_T ∧ ((w.onTables && w.keeps) = true ∨ ∃ ty, w = .arrayClass ty) := fun w hw => ⟨hw, good_of_word (List.mem_filter.mp hw).2⟩
  intro w hw
  rcases List.mem_append.mp hw with hw | hw
  · exact g w (h w hw)
  · rcases List.mem_cons.mp hw with rfl | hw
    · exact g _ hc
    · exact g w hw
theorem ab_gi0 {cd : Cond} (hc : cd ∈ ab_T) : GoodIn ab_T (cd :: ab_T) := ab_gi (pre := []) (fun _ h => by cases h) hc
/-- who may be called: an object of the world of class C, or one of the two texts -/
def ab_RV (C : String) (c : Nat) : Prop := (8 ≤ c ∧ ∃ (ci N : Nat) (T : u_T), ab_sh[c - 8]? = some (ci + 3, 0) ∧ vwCl[ci]? = some (C, T, N)) ∨ ∃ q ∈ ab_srs, c = q.2.2.1 ∧ C = "java/lang/String"
theorem ab_recv {p : Program} {l : Launch} {e : Env} {R : Room} {s : State} {m : MethodId} {args : Array Value} {c : Code} {H : Heap} {locs : List Loc} {cs sl : Nat} {D : va_G} {cK : Nat → ClassId} {ad : Nat → Nat} {A : Nat → Prop} {ls : Array Slot} {M : ab_Me} {d : Nat} {sc : Nat × (Nat → Int32)} {L : List (Option Value)} {S : ab_S} (G : ab_G M d sc p l e R s m args c H locs cs sl D cK ad A ls L S) {C : String} {o : Nat} (h : ab_RV C o) : ∃ cell : Cell, H[ad o]? = some cell ∧ cell.vm.isStatics = false ∧ s.vm.findClass C = some cell.cls := by
  obtain ⟨hx, hb, hml, hown, hts, hfr, hlo, hcs, hsl, hK, hX, hP, hD, hS, hA, hl⟩ := G
  rcases h with ⟨h8, ci, N, T, hq, hc⟩ | ⟨q, hq, rfl, rfl⟩
  · exact va_recv hK.1 hP hc (ab_ws_get h8 hq)
  · obtain ⟨cell, h1, h2, h3, -⟩ := (hX.2.2.2.2.1 q hq).1.kept hS.2.1
    exact ⟨cell, h1, h2, h3⟩
/-- a method's way from its start: its bytes are in the tables, it fits its room -/
def ab_Ok (M : ab_Me) (y : MethodName) (n : Nat) : Prop := plainFor y = true ∧ M.1 = y.cls ∧ M.2.2.1 ≤ 21 ∧ Cond.code y M.2.1 M.2.2.1 M.2.2.2 ∈ ab_T ∧ Cond.initialized y.cls ∈ ab_T ∧ y.cls ≠ "java/lang/invoke/MethodHandle" ∧ y.cls ≠ "java/lang/invoke/VarHandle" ∧ (parseMethodDescriptor y.desc).map (fun d => d.parameters.length) = some n
def ab_Lo (L : List (Option Value)) (vs : List Value) (n : Nat) : Prop := (∀ ad, ab_lv ad 0 L = lv_args 0 (vs.map (ab_tv ad))) ∧ ∀ ad, (lg_sl (vs.map (ab_tv ad))).length ≤ n
theorem ab_callS {M : ab_Me} {d pc : Nat} {sc : Nat × (Nat → Int32)} {L : List (Option Value)} {st : List Value} {S : ab_S} {Q : Option Value → ab_S → Prop} {M1 : ab_Me} {d1 : Nat} {Q1 : Option Value → ab_S → Prop} {idx : Nat} {y : MethodName} (vs : List Value) (L1 : List (Option Value)) (hd : decode M.2.1 pc = .ok (.invokestatic idx, 3)) (hok : ab_Ok M1 y vs.length) (hLo : ab_Lo L1 vs M1.2.2.1) (hd1 : d1 + 1 ≤ d) (hw1 : Cond.methodLink M.1 idx y ∈ ab_T) (hw2 : Cond.static y ∈ ab_T) (hWr : (st.map fun v => v.category).sum ≤ 8) (hE : ab_E M1 d1 sc 0 L1 [] S Q1) (k : ∀ v S', Q1 v S' → ab_E M d sc (pc + 3) L (v.toList ++ st) S' Q) : ab_E M d sc pc L (vs.reverse ++ st) S Q := by
  obtain ⟨hy, hM1, hmx, hc, hini, hy1, hy2, hyn⟩ := hok
  intro p l e R s m args below meth c H locs cs sl D cK ad A ls Z G RC
  obtain ⟨hx, hb, hml, hown, hts, hfr, hlo, hcs, hsl, hK, hX, hP, hD, hS, hA, hl⟩ := id G
  have hm := ab_met (D := D) (cK := cK) (ad := ad) l H.size vs L1 hy hM1 hLo.1 hLo.2 hE
  have hr := va_runS (cells := cs) (slots := sl) (locs := locs) (e := e) (R := R) (below := below) (meth := meth) (n := vs.length) (index := idx) (bytes := M1.2.1) (maxL := M1.2.2.1) (ret := M1.2.2.2) (As := vs.map (ab_tv ad)) (rest := st.map (ab_tv ad)) (g := F0 m pc ls ((vs.reverse ++ st).map (ab_tv ad))) ⟨hx, hb, hml, hown, hts⟩ hm (va_cwS vs.length hts (ab_gi (pre := [.methodLink M.1 idx y, .static y, .initialized y.cls]) (List.forall_mem_cons.mpr ⟨hw1, List.forall_mem_cons.mpr ⟨hw2, List.forall_mem_cons.mpr ⟨hini, fun _ h => absurd h List.not_mem_nil⟩⟩⟩) hc) rfl rfl rfl ⟨hy1, hy2, hyn⟩ ⟨Nat.le_trans hd1 hfr, by show 8 + (M1.2.2.1 + 11) + 40 * d1 ≤ R.locals; omega⟩) (ab_preS G _) rfl (by simp) hl.1 (by simp [F0]) (lv_room (by rw [ab_cats]; exact hWr)) hd ⟨hcs, hsl⟩
  exact ab_after G hr (fun v S' H1 locs1 hq G' => by
    have h := k v S' hq p l e R s m args below meth c H1 locs1 cs sl D cK ad A ls Z G' RC
    rw [List.map_append] at h
    cases v <;> exact h)
theorem ab_callV {M : ab_Me} {d pc : Nat} {sc : Nat × (Nat → Int32)} {L : List (Option Value)} {st : List Value} {S : ab_S} {Q : Option Value → ab_S → Prop} {M1 : ab_Me} {d1 : Nat} {Q1 : Option Value → ab_S → Prop} {idx : Nat} {y : MethodName} (o : Nat) (vs : List Value) (L1 : List (Option Value)) (hd : decode M.2.1 pc = .ok (.invokevirtual idx, 3)) (hok : ab_Ok M1 y vs.length) (hLo : ab_Lo L1 (.ref o :: vs) M1.2.2.1) (hd1 : d1 + 1 ≤ d) (hv : ab_RV y.cls o) (hw1 : Cond.methodLink M.1 idx y ∈ ab_T) (hw2 : Cond.instanceMethod y ∈ ab_T) (hw3 : Cond.selects y.cls y y ∈ ab_T) (hWr : (st.map fun v => v.category).sum ≤ 8) (hE : ab_E M1 d1 sc 0 L1 [] S Q1) (k : ∀ v S', Q1 v S' → ab_E M d sc (pc + 3) L (v.toList ++ st) S' Q) : ab_E M d sc pc L (vs.reverse ++ .ref o :: st) S Q := by
  obtain ⟨hy, hM1, hmx, hc, hini, hy1, hy2, hyn⟩ := hok
  intro p l e R s m args below meth c H locs cs sl D cK ad A ls Z G RC
  obtain ⟨hx, hb, hml, hown, hts, hfr, hlo, hcs, hsl, hK, hX, hP, hD, hS, hA, hl⟩ := id G
  have hm := ab_met (D := D) (cK := cK) (ad := ad) l H.size (.ref o :: vs) L1 hy hM1 hLo.1 hLo.2 hE
  have hp := ab_preS G ((.ref o :: vs).map (ab_tv ad))
  have hr := va_runV (cells := cs) (slots := sl) (locs := locs) (e := e) (R := R) (below := below) (meth := meth) (n := vs.length) (index := idx) (C := y.cls) (b := ad o) (bytes := M1.2.1) (maxL := M1.2.2.1) (ret := M1.2.2.2) (As := vs.map (ab_tv ad)) (rest := st.map (ab_tv ad)) (g := F0 m pc ls ((vs.reverse ++ .ref o :: st).map (ab_tv ad))) ⟨hx, hb, hml, hown, hts⟩ hm (cwV vs.length hts (ab_gi (pre := [.methodLink M.1 idx y, .instanceMethod y, .selects y.cls y y, .initialized y.cls]) (List.forall_mem_cons.mpr ⟨hw1, List.forall_mem_cons.mpr ⟨hw2, List.forall_mem_cons.mpr ⟨hw3, List.forall_mem_cons.mpr ⟨hini, fun _ h => absurd h List.not_mem_nil⟩⟩⟩⟩) hc) rfl rfl rfl ⟨rfl, hy1, hy2, hyn⟩ ⟨Nat.le_trans hd1 hfr, by show 8 + (M1.2.2.1 + 11) + 40 * d1 ≤ R.locals; omega⟩) ⟨hp.1, ab_recv G hv, hp.2⟩ rfl (by simp) hl.1 (by simp [F0, ab_tv]) (lv_room (by rw [ab_cats]; exact hWr)) hd ⟨hcs, hsl⟩
  exact ab_after G hr (fun v S' H1 locs1 hq G' => by
    have h := k v S' hq p l e R s m args below meth c H1 locs1 cs sl D cK ad A ls Z G' RC
    rw [List.map_append] at h
    cases v <;> exact h)
theorem ab_callO {M : ab_Me} {d pc : Nat} {sc : Nat × (Nat → Int32)} {L : List (Option Value)} {st : List Value} {S : ab_S} {Q : Option Value → ab_S → Prop} {M1 : ab_Me} {d1 : Nat} {Q1 : Option Value → ab_S → Prop} {idx : Nat} {y : MethodName} (C owner : String) (x : MethodName) (b0 : ByteArray) (m0 : Nat) (r0 : Option FieldType) (o : Nat) (vs : List Value) (L1 : List (Option Value)) (hd : decode M.2.1 pc = .ok (.invokevirtual idx, 3)) (hok : ab_Ok M1 y vs.length) (hLo : ab_Lo L1 (.ref o :: vs) M1.2.2.1) (hd1 : d1 + 1 ≤ d) (hv : ab_RV C o) (hw1 : Cond.methodLink M.1 idx x ∈ ab_T) (hw2 : Cond.sameMethod x.cls owner x.name x.desc ∈ ab_T) (hw3 : Cond.instanceMethod ⟨owner, x.name, x.desc⟩ ∈ ab_T) (hw4 : Cond.selects C x y ∈ ab_T) (hw5 : Cond.instanceMethod y ∈ ab_T) (hw0 : Cond.code ⟨owner, x.name, x.desc⟩ b0 m0 r0 ∈ ab_T) (hxo : owner ≠ "java/lang/invoke/MethodHandle" ∧ owner ≠ "java/lang/invoke/VarHandle" ∧ x.desc = y.desc) (hWr : (st.map fun v => v.category).sum ≤ 8) (hE : ab_E M1 d1 sc 0 L1 [] S Q1) (k : ∀ v S', Q1 v S' → ab_E M d sc (pc + 3) L (v.toList ++ st) S' Q) : ab_E M d sc pc L (vs.reverse ++ .ref o :: st) S Q := by
  obtain ⟨hy, hM1, hmx, hc, hini, hy1, hy2, hyn⟩ := hok
  intro p l e R s m args below meth c H locs cs sl D cK ad A ls Z G RC
  obtain ⟨hx, hb, hml, hown, hts, hfr, hlo, hcs, hsl, hK, hX, hP, hD, hS, hA, hl⟩ := id G
  have hm := ab_met (D := D) (cK := cK) (ad := ad) l H.size (.ref o :: vs) L1 hy hM1 hLo.1 hLo.2 hE
  have hp := ab_preS G ((.ref o :: vs).map (ab_tv ad))
  have hr := va_runU (cells := cs) (slots := sl) (locs := locs) (e := e) (R := R) (below := below) (meth := meth) (n := vs.length) (index := idx) (C := C) (b := ad o) (bytes := M1.2.1) (maxL := M1.2.2.1) (ret := M1.2.2.2) (As := vs.map (ab_tv ad)) (rest := st.map (ab_tv ad)) (g := F0 m pc ls ((vs.reverse ++ .ref o :: st).map (ab_tv ad))) ⟨hx, hb, hml, hown, hts⟩ hm (va_cwO (owner := owner) (x := x) vs.length hts (ab_gi (pre := [.methodLink M.1 idx x, .sameMethod x.cls owner x.name x.desc, .instanceMethod ⟨owner, x.name, x.desc⟩, .selects C x y, .instanceMethod y, .initialized y.cls]) (List.forall_mem_cons.mpr ⟨hw1, List.forall_mem_cons.mpr ⟨hw2, List.forall_mem_cons.mpr ⟨hw3, List.forall_mem_cons.mpr ⟨hw4, List.forall_mem_cons.mpr ⟨hw5, List.forall_mem_cons.mpr ⟨hini, fun _ h => absurd h List.not_mem_nil⟩⟩⟩⟩⟩⟩) hc) rfl rfl rfl hw0 ⟨hxo.1, hxo.2.1, by rw [hxo.2.2]; exact hyn⟩ ⟨Nat.le_trans hd1 hfr, by show 8 + (M1.2.2.1 + 11) + 40 * d1 ≤ R.locals; omega⟩) ⟨hp.1, ab_recv G hv, hp.2⟩ rfl (by simp) hl.1 (by simp [F0, ab_tv]) (lv_room (by rw [ab_cats]; exact hWr)) hd ⟨hcs, hsl⟩
  exact ab_after G hr (fun v S' H1 locs1 hq G' => by
    have h := k v S' hq p l e R s m args below meth c H1 locs1 cs sl D cK ad A ls Z G' RC
    rw [List.map_append] at h
    cases v <;> exact h)
