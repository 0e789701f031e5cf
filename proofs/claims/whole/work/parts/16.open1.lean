set_option maxRecDepth 100000 in
set_option maxHeartbeats 8000000 in
/-- the law from its entry, the functions' answers being taken for granted -/
theorem whole_start_open (Hp : ∀ sc : Nat × (Nat → Int32), sc.1 ≤ 3072 → f_law_L18 sc (fun _ => some true) 1000 0 s_0 = some true) {p : Program} {e : Env} {s : State} {m : MethodId} {below : List Frame} {meth : Method} {c : Code} (l : Launch) {b L : Nat} {xs : Nat → Int32} (hL : L ≤ 3072) (C0 : lw_At p s m meth c b L xs) : W p l e room_1 s m #[Value.ref b] below meth c s.heap [] 0 0 (lw_Z below #[Value.ref b] s) (entryFrame m ([Value.ref b] : List Value).toArray 4) := by
  obtain ⟨hx, hb, hr, hml, hown, hts, hX, hbl, hlocks, hgv⟩ := id C0
  have hs := flat_of_before _ hgv
  have htg : ∀ w ∈ ab_T, w.before #[Value.ref b] s = true := fun w h => hts w (List.mem_filter.mp h).1
  have hnA : ∀ q : Nat, q < s.heap.size → ¬ (fun q : Nat => s.heap.size ≤ q) q := fun q h => Nat.not_le.mpr h
  obtain ⟨c0, iS0, hKn0⟩ := u_known (C := RX0) (T := TX0) (N := 0) (n := 0) htg in_0 (htg _ wd_209)
  obtain ⟨c1, iS1, hKn1⟩ := u_known (C := RX1) (T := TX1) (N := 0) (n := 0) htg in_1 (htg _ wd_202)
  obtain ⟨c2, iS2, hKn2⟩ := u_known (C := RX2) (T := TX2) (N := 0) (n := 0) htg in_2 (htg _ wd_174)
  obtain ⟨c3, iS3, hKn3⟩ := u_known (C := RX3) (T := TX3) (N := 0) (n := 0) htg in_3 (htg _ wd_195)
  obtain ⟨c4, iS4, hKn4⟩ := u_known (C := RX4) (T := TX4) (N := 0) (n := 0) htg in_4 (htg _ wd_216)
  obtain ⟨c5, iS5, hKn5⟩ := u_known (C := RX5) (T := TX5) (N := 0) (n := 0) htg in_5 (htg _ wd_181)
  obtain ⟨c6, iS6, hKn6⟩ := u_known (C := RX6) (T := TX6) (N := 3) (n := 3) htg in_6 (htg _ wd_92)
  obtain ⟨c7, iS7, hKn7⟩ := u_known (C := RX7) (T := TX7) (N := 6) (n := 6) htg in_7 (htg _ wd_114)
  obtain ⟨c8, iS8, hKn8⟩ := u_known (C := RX8) (T := TX8) (N := 5) (n := 5) htg in_8 (htg _ wd_142)
  obtain ⟨c9, iS9, hKn9⟩ := u_known (C := RX9) (T := TX9) (N := 17) (n := 17) htg in_9 (htg _ wd_223)
  obtain ⟨c10, iS10, hKn10⟩ := u_known (C := RX10) (T := TX10) (N := 0) (n := 0) htg in_10 (htg _ wd_188)
  obtain ⟨c11, iS11, hKn11⟩ := u_known (C := RX11) (T := TX11) (N := 12) (n := 12) htg in_11 (htg _ wd_84)
  obtain ⟨c12, iS12, hKn12⟩ := u_known (C := RX12) (T := TX12) (N := 20) (n := 20) htg in_12 (htg _ wd_972)
  obtain ⟨cI, kI, compI, i1, i2, i3⟩ := Cond.arrayClass_spec (hts _ ws_ai)
  obtain ⟨compG, cG, kG, g1, g2, g3, g4, g5⟩ := Cond.arrayOver_spec (hts _ ws_o2)
  obtain ⟨compR, cR, kR, r1, r2, r3, r4, r5⟩ := Cond.arrayOver_spec (hts _ ws_o6)
  obtain ⟨dC, dI, hKc⟩ : ∃ (dC : Nat → ClassId) (dI : Nat → Nat → Nat), ∀ (k : Nat) (q : vw_C), vwCl[k]? = some q → u_Kn s q.1 q.2.1 q.2.2 (dC k) (dI k) := by
    refine ⟨fun k => [c0, c1, c2, c3, c4, c5, c6, c7, c8, c9, c10, c11, c12].getD k 0, fun k => [iS0, iS1, iS2, iS3, iS4, iS5, iS6, iS7, iS8, iS9, iS10, iS11, iS12].getD k (fun _ => 0), ?_⟩
    intro k q hq
    match k, hq with
    | 0, hq => cases hq; exact hKn0
    | 1, hq => cases hq; exact hKn1
    | 2, hq => cases hq; exact hKn2
    | 3, hq => cases hq; exact hKn3
    | 4, hq => cases hq; exact hKn4
    | 5, hq => cases hq; exact hKn5
    | 6, hq => cases hq; exact hKn6
    | 7, hq => cases hq; exact hKn7
    | 8, hq => cases hq; exact hKn8
    | 9, hq => cases hq; exact hKn9
    | 10, hq => cases hq; exact hKn10
    | 11, hq => cases hq; exact hKn11
    | 12, hq => cases hq; exact hKn12
    | k + 13, hq => simp [vwCl] at hq
  have hK0 : va_K (dC, dI) vwCl [(cI, .int), (cG, .object RX2), (cR, .object RX6)] s := by
    refine ⟨hKc, fun k q hq => ?_⟩
    match k, hq with
    | 0, hq => cases hq; exact ⟨fun n z => ⟨fun k h => (by cases h), kI, i2, compI, i3⟩, i1⟩
    | 1, hq => cases hq; exact ⟨fun n z => ⟨fun k h => (by cases h), kG, g3, compG, g4⟩, kG, compG, g3, g4, g1, g5⟩
    | 2, hq => cases hq; exact ⟨fun n z => ⟨fun k h => (by cases h), kR, r3, compR, r4⟩, kR, compR, r3, r4, r1, r5⟩
    | k + 3, hq => simp at hq
  have hKb : bb_K (dC, dI) (fun k => [cI, cG, cR].getD k 0) s := ⟨hK0, fun q hq => va_Nw.of rfl (hts _ (ws_nl q hq)), ⟨va_AO.of (hts _ ws_o2), va_AO.of (hts _ ws_o6)⟩, fun q hq => va_Nw.of rfl (hts _ (ws_cg q hq))⟩
  have hKa : ab_K (dC, dI) (fun k => [cI, cG, cR].getD k 0) s := ⟨hK0, va_Nw.of rfl (hts _ ws_nb), fun q hq => va_Nw.of rfl (hts _ (ws_cy q hq)), fun q hq => va_Nc.of (hs _ (ws_nc q hq))⟩
  obtain ⟨t1, ht1, hT1⟩ := va_Tof (s := s) (args := #[Value.ref b]) (tm := .static "StiltParish" "BESIDE" "[I") (ty := .int) (N := 64) (f := fun j => .int (ab_tab 1 j)) (A := fun q : Nat => s.heap.size ≤ q) (by decide) (hs _ ws_a1) (va_eqt (hs _ ws_n1)) (fun j hj => va_eqt (hs _ (ws_e1 j hj))) hnA
  obtain ⟨t2, ht2, hT2⟩ := va_Tof (s := s) (args := #[Value.ref b]) (tm := .static "StiltParish" "MOST_OF_CELL" "[I") (ty := .int) (N := 4) (f := fun j => .int (ab_tab 2 j)) (A := fun q : Nat => s.heap.size ≤ q) (by decide) (hs _ ws_a2) (va_eqt (hs _ ws_n2)) (fun j hj => va_eqt (hs _ (ws_e2 j hj))) hnA
  obtain ⟨t3, ht3, hT3⟩ := va_Tof (s := s) (args := #[Value.ref b]) (tm := .static "StiltParish" "MOST_OF_ONE" "[I") (ty := .int) (N := 3) (f := fun j => .int (ab_tab 3 j)) (A := fun q : Nat => s.heap.size ≤ q) (by decide) (hs _ ws_a3) (va_eqt (hs _ ws_n3)) (fun j hj => va_eqt (hs _ (ws_e3 j hj))) hnA
  obtain ⟨adK, adV, hSt, hSe⟩ := vk_Sof (s := s) (args := #[Value.ref b]) (N := 2) (tm := ws_tm) (len := [3, 3]) (byt := [[121, 107, 100], [116, 103, 100]]) (A := fun q : Nat => s.heap.size ≤ q) (by decide) (fun i hi => hs _ (ws_t1 i hi)) (fun i hi => hs _ (ws_t2 i hi)) (fun i hi => hs _ (ws_t3 i hi)) (fun i hi => hs _ (ws_t4 i hi)) (fun i hi j hj => hs _ (ws_t5 i hi j hj)) (fun i j hi hj hij => by
    rcases (show i = 0 ∨ i = 1 by omega) with rfl | rfl <;> rcases (show j = 0 ∨ j = 1 by omega) with rfl | rfl
    · exact absurd rfl hij
    · exact Or.inl (hs _ ws_t6)
    · exact Or.inr (hs _ ws_t6)
    · exact absurd rfl hij) hnA
  have hXs : va_T .int b L (fun j => .int (xs j)) (fun q : Nat => s.heap.size ≤ q) s s.heap := by
    obtain ⟨scr, x1, x2, x3, x4, x5⟩ := hX
    exact ⟨scr, x1, x2, x3, by omega, by rw [x4] <;> rfl, x5, Nat.not_le.mpr hbl⟩
  obtain ⟨ex, hex⟩ : ∃ ex : Nat → Nat, ex = fun k => [b, t1, t2, t3, adK 0, adK 1, adV 0, adV 1].getD k 0 := ⟨_, rfl⟩
  have e0 : ex 0 = b := by rw [hex]; rfl
  have hl := lv_entry ([.ref b]) (n := 4) (Nat.le_of_ble_eq_true rfl)
  rw [lg_entry_eq]
  generalize (lg_sl ([.ref b]) ++ List.replicate (4 - (lg_sl ([.ref b])).length) Slot.unset).toArray = ls at hl ⊢
  refine lb_law (D := (dC, dI)) (cK := fun k => [cI, cG, cR].getD k 0) (nm := meth.name) (ex := ex) p l e room_1 s m #[Value.ref b] below meth c s.heap [] (fun q : Nat => s.heap.size ≤ q) ls (lw_Z below #[Value.ref b] s) ⟨hx, hb, hml, hown, htg, rfl, Nat.le_of_ble_eq_true rfl, Nat.le_of_ble_eq_true rfl, Nat.le_of_ble_eq_true rfl, Nat.le_of_ble_eq_true rfl, hKb, fun k q h => by simp at h, ⟨fun i j p q h => by simp at h, fun k q h => by simp at h⟩, va_S.rf, fun _ h => h, by rw [e0]; exact hl⟩ ?_
  intro H locs ls qs G18
  obtain ⟨-, -, -, -, -, -, -, -, -, -, -, hP, hD, hS, hA, hl2⟩ := G18
  have a0 : lb_ad ex qs 0 = b := e0
  have a1 : lb_ad ex qs 1 = t1 := by show ex 1 = t1; rw [hex]; rfl
  have a2 : lb_ad ex qs 2 = t2 := by show ex 2 = t2; rw [hex]; rfl
  have a3 : lb_ad ex qs 3 = t3 := by show ex 3 = t3; rw [hex]; rfl
  have a4 : lb_ad ex qs 4 = adK 0 := by show ex 4 = adK 0; rw [hex]; rfl
  have a5 : lb_ad ex qs 5 = adK 1 := by show ex 5 = adK 1; rw [hex]; rfl
  have a6 : lb_ad ex qs 6 = adV 0 := by show ex 6 = adV 0; rw [hex]; rfl
  have a7 : lb_ad ex qs 7 = adV 1 := by show ex 7 = adV 1; rw [hex]; rfl
  have hXa : ab_X (L, xs) (lb_ad ex qs) (fun q : Nat => s.heap.size ≤ q) s s.heap := by
    refine ⟨by rw [a0]; exact hXs, fun q hq => ?_, fun q hq => ?_, va_Zof (hts _ ws_lc) (hts _ ws_i2) (va_eqi (hs _ ws_cs)) hnA, fun q hq => ?_, fun q hq => ?_⟩
    · simp only [ab_sts, List.mem_cons, List.not_mem_nil, or_false] at hq
      rcases hq with rfl | rfl | rfl
      · show va_Z "StiltParish" "BESIDE" "[I" (.ref (lb_ad ex qs 1)) _ s s.heap
        rw [a1]; exact va_Zref (hts _ (ws_ls (1, "BESIDE") (by decide))) (hts _ ws_i1) ht1 hnA
      · show va_Z "StiltParish" "MOST_OF_CELL" "[I" (.ref (lb_ad ex qs 2)) _ s s.heap
        rw [a2]; exact va_Zref (hts _ (ws_ls (2, "MOST_OF_CELL") (by decide))) (hts _ ws_i1) ht2 hnA
      · show va_Z "StiltParish" "MOST_OF_ONE" "[I" (.ref (lb_ad ex qs 3)) _ s s.heap
        rw [a3]; exact va_Zref (hts _ (ws_ls (3, "MOST_OF_ONE") (by decide))) (hts _ ws_i1) ht3 hnA
    · simp only [ab_tas, List.mem_cons, List.not_mem_nil, or_false] at hq
      rcases hq with rfl | rfl | rfl
      · show va_T .int (lb_ad ex qs 1) 64 _ _ s s.heap
        rw [a1]; exact hT1
      · show va_T .int (lb_ad ex qs 2) 4 _ _ s s.heap
        rw [a2]; exact hT2
      · show va_T .int (lb_ad ex qs 3) 3 _ _ s s.heap
        rw [a3]; exact hT3
    · simp only [ab_srs, List.mem_cons, List.not_mem_nil, or_false] at hq
      rcases hq with rfl | rfl
      · obtain ⟨h1, h2, h3, h4⟩ := hSt.1 0 (by decide)
        refine ⟨?_, ?_, ?_, ?_⟩
        · show va_O "java/lang/String" (lb_ad ex qs 4) _ s s.heap
          rw [a4]; exact h1
        · show va_OF "java/lang/String" "coder" "B" (.int 0) (lb_ad ex qs 4) _ s s.heap
          rw [a4]; exact h2
        · show va_OF "java/lang/String" "value" "[B" (.ref (lb_ad ex qs 6)) (lb_ad ex qs 4) _ s s.heap
          rw [a4, a6]; exact h3
        · show va_T .byte (lb_ad ex qs 6) 3 (fun j => .int (ab_tab 6 j)) _ s s.heap
          rw [a6]; exact h4
      · obtain ⟨h1, h2, h3, h4⟩ := hSt.1 1 (by decide)
        refine ⟨?_, ?_, ?_, ?_⟩
        · show va_O "java/lang/String" (lb_ad ex qs 5) _ s s.heap
          rw [a5]; exact h1
        · show va_OF "java/lang/String" "coder" "B" (.int 0) (lb_ad ex qs 5) _ s s.heap
          rw [a5]; exact h2
        · show va_OF "java/lang/String" "value" "[B" (.ref (lb_ad ex qs 7)) (lb_ad ex qs 5) _ s s.heap
          rw [a5, a7]; exact h3
        · show va_T .byte (lb_ad ex qs 7) 3 (fun j => .int (ab_tab 7 j)) _ s s.heap
          rw [a7]; exact h4
    · simp only [ab_srs, List.mem_cons, List.not_mem_nil, or_false] at hq
      rcases hq with rfl | rfl
      · show vk_R "StiltParish" 169 "ykd" (lb_ad ex qs 4) s
        rw [a4]
        exact vk_R.of (A := #[Value.ref b]) (hts _ (ws_sr (169, "ykd", 4, 6, 3) (by decide))) (hSe 0 (by decide))
      · show vk_R "StiltParish" 171 "tgd" (lb_ad ex qs 5) s
        rw [a5]
        exact vk_R.of (A := #[Value.ref b]) (hts _ (ws_sr (171, "tgd", 5, 7, 3) (by decide))) (hSe 1 (by decide))
  have hE := e_law_L18 (sc := (L, xs)) (K := fun _ => some true) (res := true) (fun σ r h => by
    refine z_iconst (pc2 := 1512) rfl dL_law_1511 lt_i_1 ?_
    exact z_iret dL_law_1512 rfl rfl (fl_z rfl h)) 1000 0 s_0 (none, none) (Hp (L, xs) hL)
  refine hE p l e room_1 s m #[Value.ref b] below meth c H locs 90 2881 (dC, dI) (fun k => [cI, cG, cR].getD k 0) (lb_ad ex qs) (fun q : Nat => s.heap.size ≤ q) ls (lw_Z below #[Value.ref b] s) ⟨hx, hb, hml, hown, htg, Nat.le_of_ble_eq_true rfl, Nat.le_of_ble_eq_true rfl, Nat.le_of_ble_eq_true rfl, Nat.le_of_ble_eq_true rfl, hKa, hXa, hP, hD, hS, hA, hl2⟩ ?_
  intro v S H locs pc ls L' hq G hR
  obtain ⟨hx, hb, hml, hown, hts, hfr, hlo, hcs, hsl, hK, hX, hP, hD, hS, hA, hl⟩ := G
  cases hq
  refine va_forget (fun q h => hS.2.2 q h) ?_
  refine W.widen (k := 600000) (n := 7302249) (Nat.le_of_ble_eq_true rfl) (Nat.le_of_ble_eq_true rfl) ?_
  rcases hR with ⟨ty, x, h1, h2, h3, h4⟩ | ⟨h1, h2, h3⟩ | ⟨rt, k, h1, h2, h3, h4⟩
  · exact lw_ret hx hb hr hlocks h4
  · cases h2
  · cases h3
