theorem ab_callU {M : ab_Me} {d pc : Nat} {sc : Nat × (Nat → Int32)} {L : List (Option Value)} {st : List Value} {S : ab_S} {Q : Option Value → ab_S → Prop} {M1 : ab_Me} {d1 : Nat} {Q1 : Option Value → ab_S → Prop} {idx : Nat} (C owner : String) (x : MethodName) (o : Nat) (vs : List Value) (L1 : List (Option Value)) (hd : decode M.2.1 pc = .ok (.invokespecial idx, 3)) (hok : ab_Ok M1 ⟨owner, x.name, x.desc⟩ vs.length) (hLo : ab_Lo L1 (.ref o :: vs) M1.2.2.1) (hd1 : d1 + 1 ≤ d) (hv : ab_RV C o) (hw1 : Cond.methodLink M.1 idx x ∈ ab_T) (hw2 : Cond.sameMethod x.cls owner x.name x.desc ∈ ab_T) (hw3 : Cond.superclass M.1 x.cls ∈ ab_T) (hw4 : owner = x.cls ∨ Cond.superclass x.cls owner ∈ ab_T) (hw5 : Cond.instanceMethod ⟨owner, x.name, x.desc⟩ ∈ ab_T) (hno : x.name ≠ "<init>") (hWr : (st.map fun v => v.category).sum ≤ 8) (hE : ab_E M1 d1 sc 0 L1 [] S Q1) (k : ∀ v S', Q1 v S' → ab_E M d sc (pc + 3) L (v.toList ++ st) S' Q) : ab_E M d sc pc L (vs.reverse ++ .ref o :: st) S Q := by
  obtain ⟨hy, hM1, hmx, hc, hini, hy1, hy2, hyn⟩ := hok
  intro p l e R s m args below meth c H locs cs sl D cK ad A ls Z G RC
  obtain ⟨hx, hb, hml, hown, hts, hfr, hlo, hcs, hsl, hK, hX, hP, hD, hS, hA, hl⟩ := id G
  have hm := ab_met (D := D) (cK := cK) (ad := ad) l H.size (.ref o :: vs) L1 hy hM1 hLo.1 hLo.2 hE
  have hp := ab_preS G ((.ref o :: vs).map (ab_tv ad))
  have hB := back_of (p := p) (e := e) (below := below) (s := s) (sargs := args) (len := 3) (W := 8) (R := R) (bytes := M1.2.1) (maxL := M1.2.2.1) (ret := M1.2.2.2) hm hp.1 rfl rfl (Nat.le_trans hd1 hfr) (by show 8 + (M1.2.2.1 + 11) + 40 * d1 ≤ R.locals; omega) (pay_in hts (ab_gi0 hc)) List.mem_cons_self (fun a' U hW => word_at hW (Or.inl (by first | rfl | simp [Cond.onTables, Cond.keeps, Cond.steady])) (hts _ hini))
  have hr : va_Run p l e R s m args below meth c H locs cs sl 0 0 (F0 m pc ls ((vs.reverse ++ .ref o :: st).map (ab_tv ad))) (st.map (ab_tv ad)) (ab_Qc Q1 D cK ad (va_A (ab_ws cK ad S) H.size) ((.ref o :: vs).map (ab_tv ad)).toArray) (va_A (ab_ws cK ad S) H.size) := by
    intro T hT X
    obtain ⟨mk, methM, hnamed, hmethM, hstM, habM⟩ := Cond.instanceMethod_spec (hts _ hw5)
    obtain ⟨methM', cM, hmethM', -, -, -, -, -, -, hsigM⟩ := Cond.code_spec hnamed (hts _ hc)
    cases hmethM.symm.trans hmethM'
    obtain ⟨ps, dk, kp, hps, hdk, hkp, hsuper, -, -, hnid⟩ := Cond.superclass_spec hown (hts _ hw3)
    have hmk : s.vm.findClass owner = some mk.cls := findClass_of_methodNamed hnamed
    have hsub : s.vm.isSubclass ps mk.cls = true := by
      rcases hw4 with e1 | e1
      · rw [e1, hps] at hmk
        cases hmk
        simp [Vm.isSubclass, Vm.isSubclassAux]
      · obtain ⟨p2, k2, kp2, h1, h2, h3, h4, -, -, -⟩ := Cond.superclass_spec hps (hts _ e1)
        rw [h1] at hmk
        cases hmk
        have hz : 0 < s.vm.classes.size := Nat.lt_of_le_of_lt (Nat.zero_le _) (Array.getElem?_eq_some_iff.mp h2).1
        obtain ⟨z, hz⟩ : ∃ z, s.vm.classes.size = z + 1 := ⟨s.vm.classes.size - 1, by omega⟩
        simp [Vm.isSubclass, Vm.isSubclassAux, hz, h2, h4]
    obtain ⟨cellB, hcB, hoB, hclB⟩ := ab_recv G hv
    obtain ⟨kB, hkB, -⟩ := Vm.findClass_spec hclB
    have hlen : (vs.map (ab_tv ad)).length = methM.sig.parameters.length := by
      have h2 := hyn
      rw [hsigM] at h2
      rw [List.length_map]
      exact (Option.some.inj h2).symm
    obtain ⟨vm₁, X₁, hstep₁⟩ := X.invokespecialUp hx hown (hts _ hw1) (hts _ hw2) hnamed hmethM hstM habM hno hdk hnid hps hsuper hsub (a := ad o) (cell := cellB) (by rw [hT]; exact hcB)
      (fun z h => by rw [h] at hoB; cases hoB) hkB (g := F0 m pc ls ((vs.reverse ++ .ref o :: st).map (ab_tv ad))) rfl (argsL := vs.map (ab_tv ad)) (rest := st.map (ab_tv ad)) hlen (by simp [F0, ab_tv]) (by rw [hb]; exact hd)
    obtain ⟨v, ⟨U', l2, c2, s2⟩, X', ⟨g', mk', t, Lc, e1, e2, hq, h1, hL, h2, h3⟩, hsteps⟩ := hB m meth c ⟨T.setVm vm₁, locs, cs, sl⟩ { F0 m pc ls ((vs.reverse ++ .ref o :: st).map (ab_tv ad)) with stack := st.map (ab_tv ad) } (.invokespecial idx) mk ((.ref o :: vs).map (ab_tv ad)).toArray X₁ rfl (hl.1.trans hml.symm) (by rw [hb]; exact hd) (lv_room (by rw [ab_cats]; exact hWr)) (X₁.named hnamed) ⟨hcs, hsl, hp.2 (T.setVm vm₁) hT X₁.warmed⟩
    dsimp only [Pt.U, Pt.locs, Pt.cells, Pt.slots] at X' e1 e2 h1 h2 h3 hsteps
    subst h1; subst h2; subst h3
    exact ⟨v, (T.setVm vm₁).calling g' mk' ((.ref o :: vs).map (ab_tv ad)).toArray, t, U', Lc, hT, X', hL, e1, e2, hq, fun target h => hstep₁ _ (by rw [doInvoke_state]; exact hsteps.trans h)⟩
  exact ab_after G hr (fun v S' H1 locs1 hq G' => by
    have h := k v S' hq p l e R s m args below meth c H1 locs1 cs sl D cK ad A ls Z G' RC
    rw [List.map_append] at h
    cases v <;> exact h)
theorem ab_acopy {M : ab_Me} {d pc : Nat} {sc : Nat × (Nat → Int32)} {L : List (Option Value)} {st : List Value} {S : ab_S} {Q : Option Value → ab_S → Prop} (c0 c1 : Nat) {n0 n1 idx : Nat} {sp dp n : Int32} (hd : decode M.2.1 pc = .ok (.invokestatic idx, 3)) (h0 : 8 ≤ c0) (hq0 : ab_sh[c0 - 8]? = some (0, n0)) (h1 : 8 ≤ c1) (hq1 : ab_sh[c1 - 8]? = some (0, n1)) (hw1 : Cond.methodLink M.1 idx arraycopyName ∈ ab_T) (hw2 : Cond.native arraycopyName ∈ ab_T) (hw3 : Cond.static arraycopyName ∈ ab_T) (hw4 : Cond.initialized "java/lang/System" ∈ ab_T) (hs : ¬ sp < 0) (hp : ¬ dp < 0) (hn : ¬ n < 0) (hs1 : sp.toNatClampNeg + n.toNatClampNeg ≤ n0) (hp1 : dp.toNatClampNeg + n.toNatClampNeg ≤ n1) (hd1 : 1 ≤ d) (hWr : (st.map fun v => v.category).sum ≤ 8) (kk : ab_E M d sc (pc + 3) L st (ab_r S.1 c1 (va_cpy (S.1 c0) (S.1 c1) sp.toNatClampNeg dp.toNatClampNeg n.toNatClampNeg), S.2) Q) : ab_E M d sc pc L (.int n :: .int dp :: .ref c1 :: .int sp :: .ref c0 :: st) S Q := by
  intro p l e R s m args below meth cd H locs cs sl D cK ad A ls Z G RC
  obtain ⟨hx, hb, hml, hown, hts, hfr, hlo, hcs, hsl, hK, hX, hP, hD, hS, hA, hl⟩ := id G
  refine va_copyi (ty := .int) hx hb (hml.trans hl.1.symm) hown (hts _ hw1) (hts _ hw2) (hts _ hw3) (hts _ hw4) hK.1 hP hD hS (c0 - 8) (c1 - 8) 0 0 (ab_ws_get h0 hq0) (ab_ws_get h1 hq1) rfl rfl rfl hs hp hn hs1 hp1 (fun _ _ => rfl) (Nat.le_trans hd1 hfr) ?_ hd (fun H1 locs1 hP1 hD1 hS1 => ?_)
  · have e1 : nativeFrameWords "java/lang/System" "arraycopy" 5 + 11 ≤ 30 := by decide +kernel
    rw [ab_cats]
    omega
  · have e1 : (ab_ws cK ad S).set (c1 - 8) (ad c1, .inl (cK 0, n1, .inl (va_cpy (S.1 c0) (S.1 c1) sp.toNatClampNeg dp.toNatClampNeg n.toNatClampNeg))) = ab_ws cK ad (ab_r S.1 c1 (va_cpy (S.1 c0) (S.1 c1) sp.toNatClampNeg dp.toNatClampNeg n.toNatClampNeg), S.2) := by
      rw [← ab_ws_set (S := S) (S' := (ab_r S.1 c1 (va_cpy (S.1 c0) (S.1 c1) sp.toNatClampNeg dp.toNatClampNeg n.toNatClampNeg), S.2)) (cK := cK) (ad := ad) h1 hq1 (fun c' hc' q' => ab_el_other (ab_r_ne S.1 _ hc') q')]
      show _ = (ab_ws cK ad S).set (c1 - 8) (ad c1, .inl (cK 0, n1, .inl (ab_r S.1 c1 (va_cpy (S.1 c0) (S.1 c1) sp.toNatClampNeg dp.toNatClampNeg n.toNatClampNeg) c1)))
      rw [ab_r_same]
    rw [e1] at hP1 hD1
    exact kk p l e R s m args below meth cd H1 locs1 cs sl D cK ad A ls Z ⟨hx, hb, hml, hown, hts, hfr, hlo, hcs, hsl, hK, hX, hP1, hD1, hS1, hA, hl⟩ RC
