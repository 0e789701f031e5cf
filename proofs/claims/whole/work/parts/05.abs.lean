/-! THE ABSTRACT STATE: numbers of the cells 8 .. 97 by cell and place, and the draft's two references; a reference is the number of its cell -/
abbrev ab_S : Type := (Nat → Nat → Int32) × Option Nat × Option Nat
def ab_tv (ad : Nat → Nat) : Value → Value
  | .ref k => .ref (ad k)
  | v => v
theorem ab_tv_cat (ad : Nat → Nat) (v : Value) : (ab_tv ad v).category = v.category := by cases v <;> rfl
theorem ab_cats (ad : Nat → Nat) (st : List Value) : ((st.map (ab_tv ad)).map fun v => v.category).sum = (st.map fun v => v.category).sum := by
  rw [List.map_map]
  congr 1
  exact List.map_congr_left fun v _ => ab_tv_cat ad v
/-! the locals -/
def ab_lv (ad : Nat → Nat) : Nat → List (Option Value) → List (Nat × Value)
  | _, [] => []
  | i, none :: t => ab_lv ad (i + 1) t
  | i, some v :: t => (i, ab_tv ad v) :: ab_lv ad (i + 1) t
theorem ab_lv_mem {ad : Nat → Nat} : ∀ (L : List (Option Value)) (i j : Nat) (w : Value), (j, w) ∈ ab_lv ad i L ↔ ∃ (k : Nat) (v : Value), L[k]? = some (some v) ∧ j = i + k ∧ w = ab_tv ad v := by
  intro L
  induction L with
  | nil => intro i j w; simp [ab_lv]
  | cons o t ih =>
    intro i j w
    cases o with
    | none =>
      simp only [ab_lv]
      rw [ih (i + 1) j w]
      constructor
      · rintro ⟨k, v, h1, h2, h3⟩
        exact ⟨k + 1, v, by simpa using h1, by omega, h3⟩
      · rintro ⟨k, v, h1, h2, h3⟩
        cases k with
        | zero => simp at h1
        | succ k => exact ⟨k, v, by simpa using h1, by omega, h3⟩
    | some x =>
      simp only [ab_lv, List.mem_cons, Prod.mk.injEq]
      rw [ih (i + 1) j w]
      constructor
      · rintro (⟨h1, h2⟩ | ⟨k, v, h1, h2, h3⟩)
        · exact ⟨0, x, by simp, by omega, h2⟩
        · exact ⟨k + 1, v, by simpa using h1, by omega, h3⟩
      · rintro ⟨k, v, h1, h2, h3⟩
        cases k with
        | zero =>
          left
          simp at h1
          subst h1
          exact ⟨by omega, h3⟩
        | succ k => exact Or.inr ⟨k, v, by simpa using h1, by omega, h3⟩
theorem ab_ld {ls : Array Slot} {nL i : Nat} {L : List (Option Value)} {v : Value} {ad : Nat → Nat} (h : lv_has ls nL (ab_lv ad 0 L)) (hi : L[i]? = some (some v)) : ls[i]? = some (.val (ab_tv ad v)) :=
  h.2.2 (i, _) ((ab_lv_mem L 0 i _).mpr ⟨i, v, hi, by omega, rfl⟩)
def ab_ok1 (L : List (Option Value)) (i : Nat) : Bool := match i with
  | 0 => true
  | j + 1 => match L[j]? with
    | some (some v) => Nat.beq v.category 1
    | _ => true
theorem ab_st1 {ls : Array Slot} {nL i : Nat} {L : List (Option Value)} {v : Value} {ad : Nat → Nat} (h : lv_has ls nL ((i, ab_tv ad v) :: (ab_lv ad 0 L).filter (fun q => !(q.1 == i) && !(q.1 + 1 == i && q.2.category == 2)))) (hok : ab_ok1 L i = true) : lv_has ls nL (ab_lv ad 0 (L.set i (some v))) := by
  refine ⟨h.1, h.2.1, fun q hq => ?_⟩
  obtain ⟨j, w⟩ := q
  obtain ⟨k, x, h1, h2, h3⟩ := (ab_lv_mem _ 0 j w).mp hq
  have hj : j = k := by omega
  subst hj
  by_cases hi : j = i
  · subst hi
    have hl : j < L.length := by
      have := (List.getElem?_eq_some_iff.mp h1).1
      simpa using this
    rw [List.getElem?_set_self hl] at h1
    cases h1
    exact h.2.2 _ (by rw [h3]; exact List.mem_cons_self)
  · rw [List.getElem?_set_ne (Ne.symm hi)] at h1
    refine h.2.2 _ (List.mem_cons_of_mem _ (List.mem_filter.mpr ⟨(ab_lv_mem _ 0 j w).mpr ⟨j, x, h1, by omega, h3⟩, ?_⟩))
    have hc : j + 1 = i → w.category = 1 := by
      intro e
      subst e
      simp only [ab_ok1, h1] at hok
      rw [h3, ab_tv_cat]
      exact Nat.eq_of_beq_eq_true hok
    by_cases e : j + 1 = i
    · simp [hi, hc e]
    · simp [hi, e]
/-! the world's cells -/
def ab_fs (ad : Nat → Nat) (S : ab_S) (c ci : Nat) : List Value := (List.range (ab_nf ci)).map (fun j => cond (ab_isr ci j) (va_rf ((ab_rho S.2.1 S.2.2 c j).map ad)) (.int (S.1 c j)))
def ab_el (cK : Nat → ClassId) (ad : Nat → Nat) (S : ab_S) (c : Nat) (q : Nat × Nat) : va_E := match q.1 with
  | 0 => .inl (cK 0, q.2, .inl (S.1 c))
  | 1 => .inl (cK 1, q.2, .inr (.inr (.inr (.inr (fun j => (ab_rho S.2.1 S.2.2 c j).map ad)))))
  | 2 => .inl (cK 2, q.2, .inr (.inr (.inr (.inr (fun j => (ab_rho S.2.1 S.2.2 c j).map ad)))))
  | k + 3 => .inr (k, ab_fs ad S c k)
def ab_wl (cK : Nat → ClassId) (ad : Nat → Nat) (S : ab_S) : List (Nat × Nat) → Nat → va_W
  | [], _ => []
  | q :: l, c => (ad c, ab_el cK ad S c q) :: ab_wl cK ad S l (c + 1)
def ab_ws (cK : Nat → ClassId) (ad : Nat → Nat) (S : ab_S) : va_W := ab_wl cK ad S ab_sh 8
theorem ab_wl_get {cK : Nat → ClassId} {ad : Nat → Nat} {S : ab_S} : ∀ (l : List (Nat × Nat)) (c k : Nat), (ab_wl cK ad S l c)[k]? = (l[k]?).map (fun q => (ad (c + k), ab_el cK ad S (c + k) q)) := by
  intro l
  induction l with
  | nil => intro c k; simp [ab_wl]
  | cons q l ih =>
    intro c k
    cases k with
    | zero => simp [ab_wl]
    | succ k =>
      simp only [ab_wl, List.getElem?_cons_succ]
      rw [ih (c + 1) k, show c + 1 + k = c + (k + 1) by omega]
theorem ab_ws_get {cK : Nat → ClassId} {ad : Nat → Nat} {S : ab_S} {c : Nat} {q : Nat × Nat} (h8 : 8 ≤ c) (hq : ab_sh[c - 8]? = some q) : (ab_ws cK ad S)[c - 8]? = some (ad c, ab_el cK ad S c q) := by
  unfold ab_ws
  rw [ab_wl_get, hq, show 8 + (c - 8) = c by omega]
  rfl
theorem ab_ws_set {cK : Nat → ClassId} {ad : Nat → Nat} {S S' : ab_S} {c : Nat} {q : Nat × Nat} (h8 : 8 ≤ c) (hq : ab_sh[c - 8]? = some q) (ho : ∀ c', c' ≠ c → ∀ q', ab_el cK ad S' c' q' = ab_el cK ad S c' q') : (ab_ws cK ad S).set (c - 8) (ad c, ab_el cK ad S' c q) = ab_ws cK ad S' := by
  apply List.ext_getElem?
  intro i
  by_cases hi : i = c - 8
  · subst hi
    rw [List.getElem?_set_self ((List.getElem?_eq_some_iff.mp (ab_ws_get (cK := cK) (ad := ad) (S := S) h8 hq)).1), ab_ws_get h8 hq]
  · rw [List.getElem?_set_ne (Ne.symm hi)]
    unfold ab_ws
    rw [ab_wl_get, ab_wl_get]
    congr 1
    funext q'
    rw [ho (8 + i) (by omega)]
theorem ab_ws_D {cK : Nat → ClassId} {ad : Nat → Nat} {S S' : ab_S} {A : Nat → Prop} (h : va_D A (ab_ws cK ad S)) : va_D A (ab_ws cK ad S') := by
  have key : ∀ (k : Nat) (q : Nat × va_E), (ab_ws cK ad S')[k]? = some q → ∃ e, (ab_ws cK ad S)[k]? = some (q.1, e) := by
    intro k q hq
    unfold ab_ws at hq ⊢
    rw [ab_wl_get] at hq ⊢
    cases hx : ab_sh[k]? with
    | none => rw [hx] at hq; cases hq
    | some x =>
      rw [hx] at hq
      cases hq
      exact ⟨_, rfl⟩
  refine ⟨fun i j p q hi hj e => ?_, fun k q hk => ?_⟩
  · obtain ⟨e1, h1⟩ := key i p hi
    obtain ⟨e2, h2⟩ := key j q hj
    exact h.1 i j _ _ h1 h2 e
  · obtain ⟨e1, h1⟩ := key k q hk
    exact h.2 k (q.1, e1) h1
theorem ab_ws_A {cK : Nat → ClassId} {ad : Nat → Nat} {S S' : ab_S} {sz q : Nat} (h : va_A (ab_ws cK ad S) sz q) : va_A (ab_ws cK ad S') sz q := by
  rcases h with ⟨k, e, h⟩ | h
  · refine Or.inl ?_
    unfold ab_ws at h ⊢
    rw [ab_wl_get] at h
    cases hx : ab_sh[k]? with
    | none => rw [hx] at h; cases h
    | some x =>
      rw [hx] at h
      cases h
      exact ⟨k, ab_el cK ad S' (8 + k) x, by rw [ab_wl_get, hx]; rfl⟩
  · exact Or.inr h
/-! a number of the state changes -/
def ab_u (f : Nat → Nat → Int32) (c k : Nat) (x : Int32) : Nat → Nat → Int32 := fun a => if a = c then upd (f c) k x else f a
theorem ab_u_same (f : Nat → Nat → Int32) (c k : Nat) (x : Int32) : ab_u f c k x c = upd (f c) k x := if_pos rfl
theorem ab_u_ne (f : Nat → Nat → Int32) {c a : Nat} (k : Nat) (x : Int32) (h : a ≠ c) : ab_u f c k x a = f a := if_neg h
/-! all of an array changes -/
def ab_r (f : Nat → Nat → Int32) (c : Nat) (g : Nat → Int32) : Nat → Nat → Int32 := fun a => if a = c then g else f a
theorem ab_r_same (f : Nat → Nat → Int32) (c : Nat) (g : Nat → Int32) : ab_r f c g c = g := if_pos rfl
theorem ab_r_ne (f : Nat → Nat → Int32) {c a : Nat} (g : Nat → Int32) (h : a ≠ c) : ab_r f c g a = f a := if_neg h
theorem ab_el_other {cK : Nat → ClassId} {ad : Nat → Nat} {f g : Nat → Nat → Int32} {r : Option Nat × Option Nat} {c' : Nat} (h : g c' = f c') (q : Nat × Nat) : ab_el cK ad (g, r) c' q = ab_el cK ad (f, r) c' q := by
  unfold ab_el ab_fs
  simp only [h]
/-! what the tables and the statics say -/
def ab_K (D : va_G) (cK : Nat → ClassId) (U : State) : Prop := va_K D vwCl [(cK 0, .int), (cK 1, .object RX2), (cK 2, .object RX6)] U ∧ va_Nw ab_nb U ∧ (∀ q ∈ ab_cy, va_Nw (.castable q.1 q.2) U) ∧ ∀ q ∈ ab_nc, va_Nc q.1 q.2 U
theorem ab_K.warm {D : va_G} {cK : Nat → ClassId} {s U : State} (hW : s.WarmedH U.vm) (h : ab_K D cK s) : ab_K D cK U := ⟨h.1.moved hW.alike, va_Nw.warmF hW h.2.1, fun q hq => va_Nw.warmC hW (h.2.2.1 q hq), fun q hq => (h.2.2.2 q hq).moved hW.alike⟩
theorem ab_K.same {D : va_G} {cK : Nat → ClassId} {s U : State} (hv : s.vm = U.vm) (h : ab_K D cK s) : ab_K D cK U := ⟨h.1.moved (by rw [hv]; exact Vm.Alike.refl U.vm), va_Nw.same rfl hv h.2.1, fun q hq => va_Nw.same rfl hv (h.2.2.1 q hq), fun q hq => (h.2.2.2 q hq).moved (by rw [hv]; exact Vm.Alike.refl U.vm)⟩
abbrev ab_X1 (q : Nat × String × Nat × Nat × Nat) (ad : Nat → Nat) (A : Nat → Prop) (U : State) (H : Heap) : Prop := va_O "java/lang/String" (ad q.2.2.1) A U H ∧ va_OF "java/lang/String" "coder" "B" (.int 0) (ad q.2.2.1) A U H ∧ va_OF "java/lang/String" "value" "[B" (.ref (ad q.2.2.2.1)) (ad q.2.2.1) A U H ∧ va_T .byte (ad q.2.2.2.1) q.2.2.2.2 (fun j => .int (ab_tab q.2.2.2.1 j)) A U H
def ab_X (sc : Nat × (Nat → Int32)) (ad : Nat → Nat) (A : Nat → Prop) (U : State) (H : Heap) : Prop :=
  va_T .int (ad 0) sc.1 (fun j => .int (sc.2 j)) A U H ∧ (∀ q ∈ ab_sts, va_Z "StiltParish" q.2 "[I" (.ref (ad q.1)) A U H) ∧ (∀ q ∈ ab_tas, va_T .int (ad q.1) q.2 (fun j => .int (ab_tab q.1 j)) A U H) ∧ va_Z "java/lang/String" "COMPACT_STRINGS" "Z" (.int 1) A U H ∧ (∀ q ∈ ab_srs, ab_X1 q ad A U H) ∧ ∀ q ∈ ab_srs, vk_R "StiltParish" q.1 q.2.1 (ad q.2.2.1) U
theorem ab_X.go {sc : Nat × (Nat → Int32)} {ad : Nat → Nat} {A A1 : Nat → Prop} {s U : State} {H H1 : Heap} (h : ab_X sc ad A s H) (hk : ∀ a : Nat, a < H.size → ¬ A a → H1[a]? = H[a]?) (hA : ∀ q, A1 q → A q) (hW : s.WarmedH U.vm) : ab_X sc ad A1 U H1 := by
  obtain ⟨h1, h2, h3, h4, h5, h6⟩ := h
  refine ⟨((h1.kept hk).narrow hA).moved hW.alike, fun q hq => (((h2 q hq).kept hk).narrow hA).moved hW.alike, fun q hq => (((h3 q hq).kept hk).narrow hA).moved hW.alike, ((h4.kept hk).narrow hA).moved hW.alike, fun q hq => ?_, fun q hq => vk_R.warm hW (h6 q hq)⟩
  obtain ⟨g1, g2, g3, g4⟩ := h5 q hq
  exact ⟨((g1.kept hk).narrow hA).moved hW.alike, ((g2.kept hk).narrow hA).moved hW.alike, ((g3.kept hk).narrow hA).moved hW.alike, ((g4.kept hk).narrow hA).moved hW.alike⟩
theorem ab_X.same {sc : Nat × (Nat → Int32)} {ad : Nat → Nat} {A : Nat → Prop} {s U : State} {H : Heap} (h : ab_X sc ad A s H) (hv : s.vm = U.vm) : ab_X sc ad A U H := by
  have ha : s.vm.Alike U.vm := by rw [hv]; exact Vm.Alike.refl U.vm
  obtain ⟨h1, h2, h3, h4, h5, h6⟩ := h
  refine ⟨h1.moved ha, fun q hq => (h2 q hq).moved ha, fun q hq => (h3 q hq).moved ha, h4.moved ha, fun q hq => ?_, fun q hq => vk_R.same hv.symm (h6 q hq)⟩
  obtain ⟨g1, g2, g3, g4⟩ := h5 q hq
  exact ⟨g1.moved ha, g2.moved ha, g3.moved ha, g4.moved ha⟩
/-! THE JUDGEMENT. M: a method's class, bytes, locals, answer's type -/
abbrev ab_Me : Type := String × ByteArray × Nat × Option FieldType
def ab_G (M : ab_Me) (d : Nat) (sc : Nat × (Nat → Int32)) (p : Program) (l : Launch) (e : Env) (R : Room) (s : State) (m : MethodId) (args : Array Value) (c : Code) (H : Heap) (locs : List Loc) (cs sl : Nat) (D : va_G) (cK : Nat → ClassId) (ad : Nat → Nat) (A : Nat → Prop) (ls : Array Slot) (L : List (Option Value)) (S : ab_S) : Prop :=
  p.tables.exec = Jvm.exec ∧ c.code = M.2.1 ∧ c.maxLocals = M.2.2.1 ∧ s.vm.findClass M.1 = some m.cls ∧ (∀ w ∈ ab_T, w.before args s = true) ∧ d ≤ R.frames ∧ 40 * d ≤ R.locals ∧ cs ≤ R.cells ∧ sl ≤ R.slots ∧ ab_K D cK s ∧ ab_X sc ad A s s.heap ∧ va_P D vwCl (ab_ws cK ad S) H ∧ va_D A (ab_ws cK ad S) ∧ va_S A s.heap H locs ∧ (∀ q, s.heap.size ≤ q → A q) ∧ lv_has ls M.2.2.1 (ab_lv ad 0 L)
/-- how a method of this type answers -/
def ab_isR (M : ab_Me) (v : Option Value) (pc : Nat) : Prop :=
  (∃ (ty : FieldType) (x : Int32), M.2.2.2 = some ty ∧ v = some (.int x) ∧ narrow ty (.int x) = .int x ∧ decode M.2.1 pc = .ok (.ireturn, 1)) ∨ (M.2.2.2 = none ∧ v = none ∧ decode M.2.1 pc = .ok (.return_, 1)) ∨ ∃ (rt : FieldType) (k : Nat), M.2.2.2 = some rt ∧ ((∃ n, rt = .object n) ∨ ∃ t, rt = .array t) ∧ v = some (.ref k) ∧ decode M.2.1 pc = .ok (.areturn, 1)
def ab_RC (M : ab_Me) (d : Nat) (sc : Nat × (Nat → Int32)) (p : Program) (l : Launch) (e : Env) (R : Room) (s : State) (m : MethodId) (args : Array Value) (below : List Frame) (meth : Method) (c : Code) (cs sl : Nat) (D : va_G) (cK : Nat → ClassId) (ad : Nat → Nat) (A : Nat → Prop) (Q : Option Value → ab_S → Prop) (Z : State → Prop) : Prop :=
  ∀ (v : Option Value) (S : ab_S) (H : Heap) (locs : List Loc) (pc : Nat) (ls : Array Slot) (L : List (Option Value)), Q v S → ab_G M d sc p l e R s m args c H locs cs sl D cK ad A ls L S → ab_isR M v pc → W p l e R s m args below meth c H locs cs sl Z (F0 m pc ls (v.map (ab_tv ad)).toList)
def ab_E (M : ab_Me) (d : Nat) (sc : Nat × (Nat → Int32)) (pc : Nat) (L : List (Option Value)) (st : List Value) (S : ab_S) (Q : Option Value → ab_S → Prop) : Prop :=
  ∀ (p : Program) (l : Launch) (e : Env) (R : Room) (s : State) (m : MethodId) (args : Array Value) (below : List Frame) (meth : Method) (c : Code) (H : Heap) (locs : List Loc) (cs sl : Nat) (D : va_G) (cK : Nat → ClassId) (ad : Nat → Nat) (A : Nat → Prop) (ls : Array Slot) (Z : State → Prop),
    ab_G M d sc p l e R s m args c H locs cs sl D cK ad A ls L S → ab_RC M d sc p l e R s m args below meth c cs sl D cK ad A Q Z → W p l e R s m args below meth c H locs cs sl Z (F0 m pc ls (st.map (ab_tv ad)))
theorem ab_iadd {M : ab_Me} {d pc : Nat} {sc : Nat × (Nat → Int32)} {L : List (Option Value)} {st : List Value} {S : ab_S} {Q : Option Value → ab_S → Prop} {x y : Int32} (hd : decode M.2.1 pc = .ok (.iadd, 1))  (k : ab_E M d sc (pc + 1) L (.int (x + y) :: st) S Q) : ab_E M d sc pc L (.int y :: .int x :: st) S Q := by
  intro p l e R s m args below meth c H locs cs sl D cK ad A ls Z G RC
  obtain ⟨hx, hb, hml, hown, hts, hfr, hlo, hcs, hsl, hK, hX, hP, hD, hS, hA, hl⟩ := id G
  exact lv_iadd hx hb hd (k p l e R s m args below meth c H locs cs sl D cK ad A ls Z G RC)
theorem ab_isub {M : ab_Me} {d pc : Nat} {sc : Nat × (Nat → Int32)} {L : List (Option Value)} {st : List Value} {S : ab_S} {Q : Option Value → ab_S → Prop} {x y : Int32} (hd : decode M.2.1 pc = .ok (.isub, 1))  (k : ab_E M d sc (pc + 1) L (.int (x - y) :: st) S Q) : ab_E M d sc pc L (.int y :: .int x :: st) S Q := by
  intro p l e R s m args below meth c H locs cs sl D cK ad A ls Z G RC
  obtain ⟨hx, hb, hml, hown, hts, hfr, hlo, hcs, hsl, hK, hX, hP, hD, hS, hA, hl⟩ := id G
  exact lv_isub hx hb hd (k p l e R s m args below meth c H locs cs sl D cK ad A ls Z G RC)
theorem ab_imul {M : ab_Me} {d pc : Nat} {sc : Nat × (Nat → Int32)} {L : List (Option Value)} {st : List Value} {S : ab_S} {Q : Option Value → ab_S → Prop} {x y : Int32} (hd : decode M.2.1 pc = .ok (.imul, 1))  (k : ab_E M d sc (pc + 1) L (.int (x * y) :: st) S Q) : ab_E M d sc pc L (.int y :: .int x :: st) S Q := by
  intro p l e R s m args below meth c H locs cs sl D cK ad A ls Z G RC
  obtain ⟨hx, hb, hml, hown, hts, hfr, hlo, hcs, hsl, hK, hX, hP, hD, hS, hA, hl⟩ := id G
  exact lv_imul hx hb hd (k p l e R s m args below meth c H locs cs sl D cK ad A ls Z G RC)
theorem ab_iand {M : ab_Me} {d pc : Nat} {sc : Nat × (Nat → Int32)} {L : List (Option Value)} {st : List Value} {S : ab_S} {Q : Option Value → ab_S → Prop} {x y : Int32} (hd : decode M.2.1 pc = .ok (.iand, 1))  (k : ab_E M d sc (pc + 1) L (.int (x &&& y) :: st) S Q) : ab_E M d sc pc L (.int y :: .int x :: st) S Q := by
  intro p l e R s m args below meth c H locs cs sl D cK ad A ls Z G RC
  obtain ⟨hx, hb, hml, hown, hts, hfr, hlo, hcs, hsl, hK, hX, hP, hD, hS, hA, hl⟩ := id G
  exact lv_iand hx hb hd (k p l e R s m args below meth c H locs cs sl D cK ad A ls Z G RC)
theorem ab_ior {M : ab_Me} {d pc : Nat} {sc : Nat × (Nat → Int32)} {L : List (Option Value)} {st : List Value} {S : ab_S} {Q : Option Value → ab_S → Prop} {x y : Int32} (hd : decode M.2.1 pc = .ok (.ior, 1))  (k : ab_E M d sc (pc + 1) L (.int (x ||| y) :: st) S Q) : ab_E M d sc pc L (.int y :: .int x :: st) S Q := by
  intro p l e R s m args below meth c H locs cs sl D cK ad A ls Z G RC
  obtain ⟨hx, hb, hml, hown, hts, hfr, hlo, hcs, hsl, hK, hX, hP, hD, hS, hA, hl⟩ := id G
  exact lv_ior hx hb hd (k p l e R s m args below meth c H locs cs sl D cK ad A ls Z G RC)
theorem ab_ixor {M : ab_Me} {d pc : Nat} {sc : Nat × (Nat → Int32)} {L : List (Option Value)} {st : List Value} {S : ab_S} {Q : Option Value → ab_S → Prop} {x y : Int32} (hd : decode M.2.1 pc = .ok (.ixor, 1))  (k : ab_E M d sc (pc + 1) L (.int (x ^^^ y) :: st) S Q) : ab_E M d sc pc L (.int y :: .int x :: st) S Q := by
  intro p l e R s m args below meth c H locs cs sl D cK ad A ls Z G RC
  obtain ⟨hx, hb, hml, hown, hts, hfr, hlo, hcs, hsl, hK, hX, hP, hD, hS, hA, hl⟩ := id G
  exact lv_ixor hx hb hd (k p l e R s m args below meth c H locs cs sl D cK ad A ls Z G RC)
theorem ab_ishl {M : ab_Me} {d pc : Nat} {sc : Nat × (Nat → Int32)} {L : List (Option Value)} {st : List Value} {S : ab_S} {Q : Option Value → ab_S → Prop} {x y : Int32} (hd : decode M.2.1 pc = .ok (.ishl, 1))  (k : ab_E M d sc (pc + 1) L (.int (x <<< (y &&& 31)) :: st) S Q) : ab_E M d sc pc L (.int y :: .int x :: st) S Q := by
  intro p l e R s m args below meth c H locs cs sl D cK ad A ls Z G RC
  obtain ⟨hx, hb, hml, hown, hts, hfr, hlo, hcs, hsl, hK, hX, hP, hD, hS, hA, hl⟩ := id G
  exact lv_ishl hx hb hd (k p l e R s m args below meth c H locs cs sl D cK ad A ls Z G RC)
theorem ab_ishr {M : ab_Me} {d pc : Nat} {sc : Nat × (Nat → Int32)} {L : List (Option Value)} {st : List Value} {S : ab_S} {Q : Option Value → ab_S → Prop} {x y : Int32} (hd : decode M.2.1 pc = .ok (.ishr, 1))  (k : ab_E M d sc (pc + 1) L (.int (x >>> (y &&& 31)) :: st) S Q) : ab_E M d sc pc L (.int y :: .int x :: st) S Q := by
  intro p l e R s m args below meth c H locs cs sl D cK ad A ls Z G RC
  obtain ⟨hx, hb, hml, hown, hts, hfr, hlo, hcs, hsl, hK, hX, hP, hD, hS, hA, hl⟩ := id G
  exact lv_ishr hx hb hd (k p l e R s m args below meth c H locs cs sl D cK ad A ls Z G RC)
theorem ab_idiv {M : ab_Me} {d pc : Nat} {sc : Nat × (Nat → Int32)} {L : List (Option Value)} {st : List Value} {S : ab_S} {Q : Option Value → ab_S → Prop} {x y : Int32} (hd : decode M.2.1 pc = .ok (.idiv, 1)) (hne : ¬ y = 0) (k : ab_E M d sc (pc + 1) L (.int (x / y) :: st) S Q) : ab_E M d sc pc L (.int y :: .int x :: st) S Q := by
  intro p l e R s m args below meth c H locs cs sl D cK ad A ls Z G RC
  obtain ⟨hx, hb, hml, hown, hts, hfr, hlo, hcs, hsl, hK, hX, hP, hD, hS, hA, hl⟩ := id G
  exact lv_idiv hx hb hd hne (k p l e R s m args below meth c H locs cs sl D cK ad A ls Z G RC)
theorem ab_irem {M : ab_Me} {d pc : Nat} {sc : Nat × (Nat → Int32)} {L : List (Option Value)} {st : List Value} {S : ab_S} {Q : Option Value → ab_S → Prop} {x y : Int32} (hd : decode M.2.1 pc = .ok (.irem, 1)) (hne : ¬ y = 0) (k : ab_E M d sc (pc + 1) L (.int (x - x / y * y) :: st) S Q) : ab_E M d sc pc L (.int y :: .int x :: st) S Q := by
  intro p l e R s m args below meth c H locs cs sl D cK ad A ls Z G RC
  obtain ⟨hx, hb, hml, hown, hts, hfr, hlo, hcs, hsl, hK, hX, hP, hD, hS, hA, hl⟩ := id G
  exact lv_irem hx hb hd hne (k p l e R s m args below meth c H locs cs sl D cK ad A ls Z G RC)
theorem ab_iushr {M : ab_Me} {d pc : Nat} {sc : Nat × (Nat → Int32)} {L : List (Option Value)} {st : List Value} {S : ab_S} {Q : Option Value → ab_S → Prop} {x y : Int32} (hd : decode M.2.1 pc = .ok (.iushr, 1))  (k : ab_E M d sc (pc + 1) L (.int (x.toUInt32 >>> (y.toUInt32 &&& Int32.toUInt32 31)).toInt32 :: st) S Q) : ab_E M d sc pc L (.int y :: .int x :: st) S Q := by
  intro p l e R s m args below meth c H locs cs sl D cK ad A ls Z G RC
  obtain ⟨hx, hb, hml, hown, hts, hfr, hlo, hcs, hsl, hK, hX, hP, hD, hS, hA, hl⟩ := id G
  exact lv_iushr hx hb hd rfl (k p l e R s m args below meth c H locs cs sl D cK ad A ls Z G RC)
theorem ab_ineg {M : ab_Me} {d pc : Nat} {sc : Nat × (Nat → Int32)} {L : List (Option Value)} {st : List Value} {S : ab_S} {Q : Option Value → ab_S → Prop} {x : Int32} (hd : decode M.2.1 pc = .ok (.ineg, 1))  (k : ab_E M d sc (pc + 1) L (.int (-x) :: st) S Q) : ab_E M d sc pc L (.int x :: st) S Q := by
  intro p l e R s m args below meth c H locs cs sl D cK ad A ls Z G RC
  obtain ⟨hx, hb, hml, hown, hts, hfr, hlo, hcs, hsl, hK, hX, hP, hD, hS, hA, hl⟩ := id G
  exact lv_ineg hx hb hd (k p l e R s m args below meth c H locs cs sl D cK ad A ls Z G RC)
theorem ab_i2l {M : ab_Me} {d pc : Nat} {sc : Nat × (Nat → Int32)} {L : List (Option Value)} {st : List Value} {S : ab_S} {Q : Option Value → ab_S → Prop} {x : Int32} (hd : decode M.2.1 pc = .ok (.i2l, 1))  (k : ab_E M d sc (pc + 1) L (.long x.toInt64 :: st) S Q) : ab_E M d sc pc L (.int x :: st) S Q := by
  intro p l e R s m args below meth c H locs cs sl D cK ad A ls Z G RC
  obtain ⟨hx, hb, hml, hown, hts, hfr, hlo, hcs, hsl, hK, hX, hP, hD, hS, hA, hl⟩ := id G
  exact lv_i2l hx hb hd rfl (k p l e R s m args below meth c H locs cs sl D cK ad A ls Z G RC)
theorem ab_l2i {M : ab_Me} {d pc : Nat} {sc : Nat × (Nat → Int32)} {L : List (Option Value)} {st : List Value} {S : ab_S} {Q : Option Value → ab_S → Prop} {x : Int64} (hd : decode M.2.1 pc = .ok (.l2i, 1))  (k : ab_E M d sc (pc + 1) L (.int x.toInt32 :: st) S Q) : ab_E M d sc pc L (.long x :: st) S Q := by
  intro p l e R s m args below meth c H locs cs sl D cK ad A ls Z G RC
  obtain ⟨hx, hb, hml, hown, hts, hfr, hlo, hcs, hsl, hK, hX, hP, hD, hS, hA, hl⟩ := id G
  exact lv_l2i hx hb hd rfl (k p l e R s m args below meth c H locs cs sl D cK ad A ls Z G RC)
theorem ab_i2b {M : ab_Me} {d pc : Nat} {sc : Nat × (Nat → Int32)} {L : List (Option Value)} {st : List Value} {S : ab_S} {Q : Option Value → ab_S → Prop} {x : Int32} (hd : decode M.2.1 pc = .ok (.i2b, 1))  (k : ab_E M d sc (pc + 1) L (.int x.toInt8.toInt32 :: st) S Q) : ab_E M d sc pc L (.int x :: st) S Q := by
  intro p l e R s m args below meth c H locs cs sl D cK ad A ls Z G RC
  obtain ⟨hx, hb, hml, hown, hts, hfr, hlo, hcs, hsl, hK, hX, hP, hD, hS, hA, hl⟩ := id G
  exact lv_i2b hx hb hd rfl (k p l e R s m args below meth c H locs cs sl D cK ad A ls Z G RC)
theorem ab_i2s {M : ab_Me} {d pc : Nat} {sc : Nat × (Nat → Int32)} {L : List (Option Value)} {st : List Value} {S : ab_S} {Q : Option Value → ab_S → Prop} {x : Int32} (hd : decode M.2.1 pc = .ok (.i2s, 1))  (k : ab_E M d sc (pc + 1) L (.int x.toInt16.toInt32 :: st) S Q) : ab_E M d sc pc L (.int x :: st) S Q := by
  intro p l e R s m args below meth c H locs cs sl D cK ad A ls Z G RC
  obtain ⟨hx, hb, hml, hown, hts, hfr, hlo, hcs, hsl, hK, hX, hP, hD, hS, hA, hl⟩ := id G
  exact lv_i2s hx hb hd rfl (k p l e R s m args below meth c H locs cs sl D cK ad A ls Z G RC)
theorem ab_i2c {M : ab_Me} {d pc : Nat} {sc : Nat × (Nat → Int32)} {L : List (Option Value)} {st : List Value} {S : ab_S} {Q : Option Value → ab_S → Prop} {x : Int32} (hd : decode M.2.1 pc = .ok (.i2c, 1))  (k : ab_E M d sc (pc + 1) L (.int (x.toUInt32 % 65536).toInt32 :: st) S Q) : ab_E M d sc pc L (.int x :: st) S Q := by
  intro p l e R s m args below meth c H locs cs sl D cK ad A ls Z G RC
  obtain ⟨hx, hb, hml, hown, hts, hfr, hlo, hcs, hsl, hK, hX, hP, hD, hS, hA, hl⟩ := id G
  exact lv_i2c hx hb hd rfl (k p l e R s m args below meth c H locs cs sl D cK ad A ls Z G RC)
theorem ab_land {M : ab_Me} {d pc : Nat} {sc : Nat × (Nat → Int32)} {L : List (Option Value)} {st : List Value} {S : ab_S} {Q : Option Value → ab_S → Prop} {x y : Int64} (hd : decode M.2.1 pc = .ok (.land, 1))  (k : ab_E M d sc (pc + 1) L (.long (x &&& y) :: st) S Q) : ab_E M d sc pc L (.long y :: .long x :: st) S Q := by
  intro p l e R s m args below meth c H locs cs sl D cK ad A ls Z G RC
  obtain ⟨hx, hb, hml, hown, hts, hfr, hlo, hcs, hsl, hK, hX, hP, hD, hS, hA, hl⟩ := id G
  exact lv_land hx hb hd (k p l e R s m args below meth c H locs cs sl D cK ad A ls Z G RC)
theorem ab_lor {M : ab_Me} {d pc : Nat} {sc : Nat × (Nat → Int32)} {L : List (Option Value)} {st : List Value} {S : ab_S} {Q : Option Value → ab_S → Prop} {x y : Int64} (hd : decode M.2.1 pc = .ok (.lor, 1))  (k : ab_E M d sc (pc + 1) L (.long (x ||| y) :: st) S Q) : ab_E M d sc pc L (.long y :: .long x :: st) S Q := by
  intro p l e R s m args below meth c H locs cs sl D cK ad A ls Z G RC
  obtain ⟨hx, hb, hml, hown, hts, hfr, hlo, hcs, hsl, hK, hX, hP, hD, hS, hA, hl⟩ := id G
  exact lv_lor hx hb hd (k p l e R s m args below meth c H locs cs sl D cK ad A ls Z G RC)
theorem ab_lshl {M : ab_Me} {d pc : Nat} {sc : Nat × (Nat → Int32)} {L : List (Option Value)} {st : List Value} {S : ab_S} {Q : Option Value → ab_S → Prop} {x : Int64} {y : Int32} (hd : decode M.2.1 pc = .ok (.lshl, 1))  (k : ab_E M d sc (pc + 1) L (.long (x <<< (y.toInt64 &&& 63)) :: st) S Q) : ab_E M d sc pc L (.int y :: .long x :: st) S Q := by
  intro p l e R s m args below meth c H locs cs sl D cK ad A ls Z G RC
  obtain ⟨hx, hb, hml, hown, hts, hfr, hlo, hcs, hsl, hK, hX, hP, hD, hS, hA, hl⟩ := id G
  exact lv_lshl hx hb hd rfl (k p l e R s m args below meth c H locs cs sl D cK ad A ls Z G RC)
theorem ab_lshr {M : ab_Me} {d pc : Nat} {sc : Nat × (Nat → Int32)} {L : List (Option Value)} {st : List Value} {S : ab_S} {Q : Option Value → ab_S → Prop} {x : Int64} {y : Int32} (hd : decode M.2.1 pc = .ok (.lshr, 1))  (k : ab_E M d sc (pc + 1) L (.long (x >>> (y.toInt64 &&& 63)) :: st) S Q) : ab_E M d sc pc L (.int y :: .long x :: st) S Q := by
  intro p l e R s m args below meth c H locs cs sl D cK ad A ls Z G RC
  obtain ⟨hx, hb, hml, hown, hts, hfr, hlo, hcs, hsl, hK, hX, hP, hD, hS, hA, hl⟩ := id G
  exact lv_lshr hx hb hd rfl (k p l e R s m args below meth c H locs cs sl D cK ad A ls Z G RC)
theorem ab_lushr {M : ab_Me} {d pc : Nat} {sc : Nat × (Nat → Int32)} {L : List (Option Value)} {st : List Value} {S : ab_S} {Q : Option Value → ab_S → Prop} {x : Int64} {y : Int32} (hd : decode M.2.1 pc = .ok (.lushr, 1))  (k : ab_E M d sc (pc + 1) L (.long (x.toUInt64 >>> (y.toInt64.toUInt64 &&& Int64.toUInt64 63)).toInt64 :: st) S Q) : ab_E M d sc pc L (.int y :: .long x :: st) S Q := by
  intro p l e R s m args below meth c H locs cs sl D cK ad A ls Z G RC
  obtain ⟨hx, hb, hml, hown, hts, hfr, hlo, hcs, hsl, hK, hX, hP, hD, hS, hA, hl⟩ := id G
  exact lv_lushr hx hb hd rfl (k p l e R s m args below meth c H locs cs sl D cK ad A ls Z G RC)
theorem ab_iconst {M : ab_Me} {d pc : Nat} {sc : Nat × (Nat → Int32)} {L : List (Option Value)} {st : List Value} {S : ab_S} {Q : Option Value → ab_S → Prop} {n : Int} {v : Int32} (hd : decode M.2.1 pc = .ok (.iconst n, 1)) (hv : Int32.ofInt n = v) (k : ab_E M d sc (pc + 1) L (.int v :: st) S Q) : ab_E M d sc pc L (st) S Q := by
  intro p l e R s m args below meth c H locs cs sl D cK ad A ls Z G RC
  obtain ⟨hx, hb, hml, hown, hts, hfr, hlo, hcs, hsl, hK, hX, hP, hD, hS, hA, hl⟩ := id G
  exact lv_iconst hx hb hd hv (k p l e R s m args below meth c H locs cs sl D cK ad A ls Z G RC)
theorem ab_bipush {M : ab_Me} {d pc : Nat} {sc : Nat × (Nat → Int32)} {L : List (Option Value)} {st : List Value} {S : ab_S} {Q : Option Value → ab_S → Prop} {n : Int} {v : Int32} (hd : decode M.2.1 pc = .ok (.bipush n, 2)) (hv : (Int8.ofInt n).toInt32 = v) (k : ab_E M d sc (pc + 2) L (.int v :: st) S Q) : ab_E M d sc pc L (st) S Q := by
  intro p l e R s m args below meth c H locs cs sl D cK ad A ls Z G RC
  obtain ⟨hx, hb, hml, hown, hts, hfr, hlo, hcs, hsl, hK, hX, hP, hD, hS, hA, hl⟩ := id G
  exact lv_bipush hx hb hd hv (k p l e R s m args below meth c H locs cs sl D cK ad A ls Z G RC)
theorem ab_sipush {M : ab_Me} {d pc : Nat} {sc : Nat × (Nat → Int32)} {L : List (Option Value)} {st : List Value} {S : ab_S} {Q : Option Value → ab_S → Prop} {n : Int} {v : Int32} (hd : decode M.2.1 pc = .ok (.sipush n, 3)) (hv : (Int16.ofInt n).toInt32 = v) (k : ab_E M d sc (pc + 3) L (.int v :: st) S Q) : ab_E M d sc pc L (st) S Q := by
  intro p l e R s m args below meth c H locs cs sl D cK ad A ls Z G RC
  obtain ⟨hx, hb, hml, hown, hts, hfr, hlo, hcs, hsl, hK, hX, hP, hD, hS, hA, hl⟩ := id G
  exact lv_sipush hx hb hd hv (k p l e R s m args below meth c H locs cs sl D cK ad A ls Z G RC)
theorem ab_ldc {M : ab_Me} {d pc : Nat} {sc : Nat × (Nat → Int32)} {L : List (Option Value)} {st : List Value} {S : ab_S} {Q : Option Value → ab_S → Prop} {i : Nat} {v : Int32} (hd : decode M.2.1 pc = .ok (.ldc i, 2)) (hw : Cond.constant M.1 i v ∈ ab_T) (k : ab_E M d sc (pc + 2) L (.int v :: st) S Q) : ab_E M d sc pc L (st) S Q := by
  intro p l e R s m args below meth c H locs cs sl D cK ad A ls Z G RC
  obtain ⟨hx, hb, hml, hown, hts, hfr, hlo, hcs, hsl, hK, hX, hP, hD, hS, hA, hl⟩ := id G
  exact lv_ldc hx hb hown (hts _ hw) hd (k p l e R s m args below meth c H locs cs sl D cK ad A ls Z G RC)
theorem ab_ldcw {M : ab_Me} {d pc : Nat} {sc : Nat × (Nat → Int32)} {L : List (Option Value)} {st : List Value} {S : ab_S} {Q : Option Value → ab_S → Prop} {i : Nat} {v : Int32} (hd : decode M.2.1 pc = .ok (.ldc_w i, 3)) (hw : Cond.constant M.1 i v ∈ ab_T) (k : ab_E M d sc (pc + 3) L (.int v :: st) S Q) : ab_E M d sc pc L (st) S Q := by
  intro p l e R s m args below meth c H locs cs sl D cK ad A ls Z G RC
  obtain ⟨hx, hb, hml, hown, hts, hfr, hlo, hcs, hsl, hK, hX, hP, hD, hS, hA, hl⟩ := id G
  exact lv_ldcw hx hb hown (hts _ hw) hd (k p l e R s m args below meth c H locs cs sl D cK ad A ls Z G RC)
theorem ab_ldc2 {M : ab_Me} {d pc : Nat} {sc : Nat × (Nat → Int32)} {L : List (Option Value)} {st : List Value} {S : ab_S} {Q : Option Value → ab_S → Prop} {i : Nat} {v : Int64} (hd : decode M.2.1 pc = .ok (.ldc2_w i, 3)) (hw : Cond.constantLong M.1 i v ∈ ab_T) (k : ab_E M d sc (pc + 3) L (.long v :: st) S Q) : ab_E M d sc pc L (st) S Q := by
  intro p l e R s m args below meth c H locs cs sl D cK ad A ls Z G RC
  obtain ⟨hx, hb, hml, hown, hts, hfr, hlo, hcs, hsl, hK, hX, hP, hD, hS, hA, hl⟩ := id G
  exact lv_ldc2 hx hb hown (hts _ hw) hd (k p l e R s m args below meth c H locs cs sl D cK ad A ls Z G RC)
theorem ab_iload_n {M : ab_Me} {d pc : Nat} {sc : Nat × (Nat → Int32)} {L : List (Option Value)} {st : List Value} {S : ab_S} {Q : Option Value → ab_S → Prop} {i : Fin 4} {x : Int32} (hd : decode M.2.1 pc = .ok (.iload_n i, 1)) (hi : L[(i : Nat)]? = some (some (.int x))) (k : ab_E M d sc (pc + 1) L (.int x :: st) S Q) : ab_E M d sc pc L (st) S Q := by
  intro p l e R s m args below meth c H locs cs sl D cK ad A ls Z G RC
  obtain ⟨hx, hb, hml, hown, hts, hfr, hlo, hcs, hsl, hK, hX, hP, hD, hS, hA, hl⟩ := id G
  exact lv_iload_n hx hb hd rfl (ab_ld hl hi) (k p l e R s m args below meth c H locs cs sl D cK ad A ls Z G RC)
theorem ab_iload {M : ab_Me} {d pc : Nat} {sc : Nat × (Nat → Int32)} {L : List (Option Value)} {st : List Value} {S : ab_S} {Q : Option Value → ab_S → Prop} {i : Nat} {x : Int32} (hd : decode M.2.1 pc = .ok (.iload i, 2)) (hi : L[i]? = some (some (.int x))) (k : ab_E M d sc (pc + 2) L (.int x :: st) S Q) : ab_E M d sc pc L (st) S Q := by
  intro p l e R s m args below meth c H locs cs sl D cK ad A ls Z G RC
  obtain ⟨hx, hb, hml, hown, hts, hfr, hlo, hcs, hsl, hK, hX, hP, hD, hS, hA, hl⟩ := id G
  exact lv_iload hx hb hd (ab_ld hl hi) (k p l e R s m args below meth c H locs cs sl D cK ad A ls Z G RC)
theorem ab_lload_n {M : ab_Me} {d pc : Nat} {sc : Nat × (Nat → Int32)} {L : List (Option Value)} {st : List Value} {S : ab_S} {Q : Option Value → ab_S → Prop} {i : Fin 4} {x : Int64} (hd : decode M.2.1 pc = .ok (.lload_n i, 1)) (hi : L[(i : Nat)]? = some (some (.long x))) (k : ab_E M d sc (pc + 1) L (.long x :: st) S Q) : ab_E M d sc pc L (st) S Q := by
  intro p l e R s m args below meth c H locs cs sl D cK ad A ls Z G RC
  obtain ⟨hx, hb, hml, hown, hts, hfr, hlo, hcs, hsl, hK, hX, hP, hD, hS, hA, hl⟩ := id G
  exact lv_lload_n hx hb hd rfl (ab_ld hl hi) (k p l e R s m args below meth c H locs cs sl D cK ad A ls Z G RC)
theorem ab_aload_n {M : ab_Me} {d pc : Nat} {sc : Nat × (Nat → Int32)} {L : List (Option Value)} {st : List Value} {S : ab_S} {Q : Option Value → ab_S → Prop} {i : Fin 4} {x : Nat} (hd : decode M.2.1 pc = .ok (.aload_n i, 1)) (hi : L[(i : Nat)]? = some (some (.ref x))) (k : ab_E M d sc (pc + 1) L (.ref x :: st) S Q) : ab_E M d sc pc L (st) S Q := by
  intro p l e R s m args below meth c H locs cs sl D cK ad A ls Z G RC
  obtain ⟨hx, hb, hml, hown, hts, hfr, hlo, hcs, hsl, hK, hX, hP, hD, hS, hA, hl⟩ := id G
  exact lv_aload_n hx hb hd rfl (ab_ld hl hi) (k p l e R s m args below meth c H locs cs sl D cK ad A ls Z G RC)
theorem ab_aload {M : ab_Me} {d pc : Nat} {sc : Nat × (Nat → Int32)} {L : List (Option Value)} {st : List Value} {S : ab_S} {Q : Option Value → ab_S → Prop} {i : Nat} {x : Nat} (hd : decode M.2.1 pc = .ok (.aload i, 2)) (hi : L[i]? = some (some (.ref x))) (k : ab_E M d sc (pc + 2) L (.ref x :: st) S Q) : ab_E M d sc pc L (st) S Q := by
  intro p l e R s m args below meth c H locs cs sl D cK ad A ls Z G RC
  obtain ⟨hx, hb, hml, hown, hts, hfr, hlo, hcs, hsl, hK, hX, hP, hD, hS, hA, hl⟩ := id G
  exact lv_aload hx hb hd (ab_ld hl hi) (k p l e R s m args below meth c H locs cs sl D cK ad A ls Z G RC)
theorem ab_dup {M : ab_Me} {d pc : Nat} {sc : Nat × (Nat → Int32)} {L : List (Option Value)} {st : List Value} {S : ab_S} {Q : Option Value → ab_S → Prop} {v : Value} (hd : decode M.2.1 pc = .ok (.dup, 1)) (hv : v.category = 1) (k : ab_E M d sc (pc + 1) L (v :: v :: st) S Q) : ab_E M d sc pc L (v :: st) S Q := by
  intro p l e R s m args below meth c H locs cs sl D cK ad A ls Z G RC
  obtain ⟨hx, hb, hml, hown, hts, hfr, hlo, hcs, hsl, hK, hX, hP, hD, hS, hA, hl⟩ := id G
  exact lv_dup hx hb hd (by rw [ab_tv_cat]; exact hv) (k p l e R s m args below meth c H locs cs sl D cK ad A ls Z G RC)
theorem ab_dup2 {M : ab_Me} {d pc : Nat} {sc : Nat × (Nat → Int32)} {L : List (Option Value)} {st : List Value} {S : ab_S} {Q : Option Value → ab_S → Prop} {v w : Value} (hd : decode M.2.1 pc = .ok (.dup2, 1)) (hv : v.category = 1) (hw : w.category = 1) (k : ab_E M d sc (pc + 1) L (v :: w :: v :: w :: st) S Q) : ab_E M d sc pc L (v :: w :: st) S Q := by
  intro p l e R s m args below meth c H locs cs sl D cK ad A ls Z G RC
  obtain ⟨hx, hb, hml, hown, hts, hfr, hlo, hcs, hsl, hK, hX, hP, hD, hS, hA, hl⟩ := id G
  exact lv_dup2_11 hx hb hd (by rw [ab_tv_cat]; exact hv) (by rw [ab_tv_cat]; exact hw) (k p l e R s m args below meth c H locs cs sl D cK ad A ls Z G RC)
theorem ab_istore_n {M : ab_Me} {d pc : Nat} {sc : Nat × (Nat → Int32)} {L : List (Option Value)} {st : List Value} {S : ab_S} {Q : Option Value → ab_S → Prop} {i : Fin 4} {x : Int32} (hd : decode M.2.1 pc = .ok (.istore_n i, 1)) (hn : (i : Nat) < M.2.2.1) (hok : ab_ok1 L (i : Nat) = true) (k : ab_E M d sc (pc + 1) (L.set (i : Nat) (some (.int x))) st S Q) : ab_E M d sc pc L (.int x :: st) S Q := by
  intro p l e R s m args below meth c H locs cs sl D cK ad A ls Z G RC
  obtain ⟨hx, hb, hml, hown, hts, hfr, hlo, hcs, hsl, hK, hX, hP, hD, hS, hA, hl⟩ := id G
  refine lv_istore_n hx hb hd rfl hl hn rfl (fun ls' hl' => ?_)
  exact k p l e R s m args below meth c H locs cs sl D cK ad A ls' Z ⟨hx, hb, hml, hown, hts, hfr, hlo, hcs, hsl, hK, hX, hP, hD, hS, hA, ab_st1 (v := .int x) hl' hok⟩ RC
theorem ab_istore {M : ab_Me} {d pc : Nat} {sc : Nat × (Nat → Int32)} {L : List (Option Value)} {st : List Value} {S : ab_S} {Q : Option Value → ab_S → Prop} {i : Nat} {x : Int32} (hd : decode M.2.1 pc = .ok (.istore i, 2)) (hn : i < M.2.2.1) (hok : ab_ok1 L i = true) (k : ab_E M d sc (pc + 2) (L.set i (some (.int x))) st S Q) : ab_E M d sc pc L (.int x :: st) S Q := by
  intro p l e R s m args below meth c H locs cs sl D cK ad A ls Z G RC
  obtain ⟨hx, hb, hml, hown, hts, hfr, hlo, hcs, hsl, hK, hX, hP, hD, hS, hA, hl⟩ := id G
  refine lv_istore hx hb hd hl hn rfl (fun ls' hl' => ?_)
  exact k p l e R s m args below meth c H locs cs sl D cK ad A ls' Z ⟨hx, hb, hml, hown, hts, hfr, hlo, hcs, hsl, hK, hX, hP, hD, hS, hA, ab_st1 (v := .int x) hl' hok⟩ RC
theorem ab_astore_n {M : ab_Me} {d pc : Nat} {sc : Nat × (Nat → Int32)} {L : List (Option Value)} {st : List Value} {S : ab_S} {Q : Option Value → ab_S → Prop} {i : Fin 4} {x : Nat} (hd : decode M.2.1 pc = .ok (.astore_n i, 1)) (hn : (i : Nat) < M.2.2.1) (hok : ab_ok1 L (i : Nat) = true) (k : ab_E M d sc (pc + 1) (L.set (i : Nat) (some (.ref x))) st S Q) : ab_E M d sc pc L (.ref x :: st) S Q := by
  intro p l e R s m args below meth c H locs cs sl D cK ad A ls Z G RC
  obtain ⟨hx, hb, hml, hown, hts, hfr, hlo, hcs, hsl, hK, hX, hP, hD, hS, hA, hl⟩ := id G
  refine lv_astore_n hx hb hd rfl hl hn rfl (fun ls' hl' => ?_)
  exact k p l e R s m args below meth c H locs cs sl D cK ad A ls' Z ⟨hx, hb, hml, hown, hts, hfr, hlo, hcs, hsl, hK, hX, hP, hD, hS, hA, ab_st1 (v := .ref x) hl' hok⟩ RC
theorem ab_astore {M : ab_Me} {d pc : Nat} {sc : Nat × (Nat → Int32)} {L : List (Option Value)} {st : List Value} {S : ab_S} {Q : Option Value → ab_S → Prop} {i : Nat} {x : Nat} (hd : decode M.2.1 pc = .ok (.astore i, 2)) (hn : i < M.2.2.1) (hok : ab_ok1 L i = true) (k : ab_E M d sc (pc + 2) (L.set i (some (.ref x))) st S Q) : ab_E M d sc pc L (.ref x :: st) S Q := by
  intro p l e R s m args below meth c H locs cs sl D cK ad A ls Z G RC
  obtain ⟨hx, hb, hml, hown, hts, hfr, hlo, hcs, hsl, hK, hX, hP, hD, hS, hA, hl⟩ := id G
  refine lv_astore hx hb hd hl hn rfl (fun ls' hl' => ?_)
  exact k p l e R s m args below meth c H locs cs sl D cK ad A ls' Z ⟨hx, hb, hml, hown, hts, hfr, hlo, hcs, hsl, hK, hX, hP, hD, hS, hA, ab_st1 (v := .ref x) hl' hok⟩ RC
theorem ab_iinc {M : ab_Me} {d pc : Nat} {sc : Nat × (Nat → Int32)} {L : List (Option Value)} {st : List Value} {S : ab_S} {Q : Option Value → ab_S → Prop} {i : Nat} {n : Int} {x v : Int32} (hd : decode M.2.1 pc = .ok (.iinc i n, 3)) (hi : L[i]? = some (some (.int x))) (hv : x + Int32.ofInt n = v) (hn : i < M.2.2.1) (hok : ab_ok1 L i = true) (k : ab_E M d sc (pc + 3) (L.set i (some (.int v))) st S Q) : ab_E M d sc pc L st S Q := by
  intro p l e R s m args below meth c H locs cs sl D cK ad A ls Z G RC
  obtain ⟨hx, hb, hml, hown, hts, hfr, hlo, hcs, hsl, hK, hX, hP, hD, hS, hA, hl⟩ := id G
  have hm : (i, Value.int x) ∈ ab_lv ad 0 L := (ab_lv_mem L 0 i _).mpr ⟨i, .int x, hi, by omega, rfl⟩
  obtain ⟨k0, hk0⟩ := List.getElem?_of_mem hm
  refine lv_iinc hx hb hd hl hk0 hv hn rfl (fun ls' hl' => ?_)
  exact k p l e R s m args below meth c H locs cs sl D cK ad A ls' Z ⟨hx, hb, hml, hown, hts, hfr, hlo, hcs, hsl, hK, hX, hP, hD, hS, hA, ab_st1 (v := .int v) hl' hok⟩ RC
theorem ab_if_eq {M : ab_Me} {d pc : Nat} {sc : Nat × (Nat → Int32)} {L : List (Option Value)} {st : List Value} {S : ab_S} {Q : Option Value → ab_S → Prop} {x : Int32} {off : Int} {tgt : Nat} (hd : decode M.2.1 pc = .ok (.ifCond .eq off, 3)) (ht : (pc : Int) + off = (tgt : Int)) (kt : x = 0 → ab_E M d sc tgt L st S Q) (kf : ¬ x = 0 → ab_E M d sc (pc + 3) L st S Q) : ab_E M d sc pc L (.int x :: st) S Q := by
  intro p l e R s m args below meth c H locs cs sl D cK ad A ls Z G RC
  obtain ⟨hx, hb, hml, hown, hts, hfr, hlo, hcs, hsl, hK, hX, hP, hD, hS, hA, hl⟩ := id G
  exact lv_if_eq hx hb hd ht (fun h => kt h p l e R s m args below meth c H locs cs sl D cK ad A ls Z G RC) (fun h => kf h p l e R s m args below meth c H locs cs sl D cK ad A ls Z G RC)
theorem ab_icmp_eq {M : ab_Me} {d pc : Nat} {sc : Nat × (Nat → Int32)} {L : List (Option Value)} {st : List Value} {S : ab_S} {Q : Option Value → ab_S → Prop} {x y : Int32} {off : Int} {tgt : Nat} (hd : decode M.2.1 pc = .ok (.if_icmp .eq off, 3)) (ht : (pc : Int) + off = (tgt : Int)) (kt : x = y → ab_E M d sc tgt L st S Q) (kf : ¬ x = y → ab_E M d sc (pc + 3) L st S Q) : ab_E M d sc pc L (.int y :: .int x :: st) S Q := by
  intro p l e R s m args below meth c H locs cs sl D cK ad A ls Z G RC
  obtain ⟨hx, hb, hml, hown, hts, hfr, hlo, hcs, hsl, hK, hX, hP, hD, hS, hA, hl⟩ := id G
  exact lv_icmp_eq hx hb hd ht (fun h => kt h p l e R s m args below meth c H locs cs sl D cK ad A ls Z G RC) (fun h => kf h p l e R s m args below meth c H locs cs sl D cK ad A ls Z G RC)
theorem ab_if_ne {M : ab_Me} {d pc : Nat} {sc : Nat × (Nat → Int32)} {L : List (Option Value)} {st : List Value} {S : ab_S} {Q : Option Value → ab_S → Prop} {x : Int32} {off : Int} {tgt : Nat} (hd : decode M.2.1 pc = .ok (.ifCond .ne off, 3)) (ht : (pc : Int) + off = (tgt : Int)) (kt : ¬ x = 0 → ab_E M d sc tgt L st S Q) (kf : x = 0 → ab_E M d sc (pc + 3) L st S Q) : ab_E M d sc pc L (.int x :: st) S Q := by
  intro p l e R s m args below meth c H locs cs sl D cK ad A ls Z G RC
  obtain ⟨hx, hb, hml, hown, hts, hfr, hlo, hcs, hsl, hK, hX, hP, hD, hS, hA, hl⟩ := id G
  exact lv_if_ne hx hb hd ht (fun h => kt h p l e R s m args below meth c H locs cs sl D cK ad A ls Z G RC) (fun h => kf h p l e R s m args below meth c H locs cs sl D cK ad A ls Z G RC)
theorem ab_icmp_ne {M : ab_Me} {d pc : Nat} {sc : Nat × (Nat → Int32)} {L : List (Option Value)} {st : List Value} {S : ab_S} {Q : Option Value → ab_S → Prop} {x y : Int32} {off : Int} {tgt : Nat} (hd : decode M.2.1 pc = .ok (.if_icmp .ne off, 3)) (ht : (pc : Int) + off = (tgt : Int)) (kt : ¬ x = y → ab_E M d sc tgt L st S Q) (kf : x = y → ab_E M d sc (pc + 3) L st S Q) : ab_E M d sc pc L (.int y :: .int x :: st) S Q := by
  intro p l e R s m args below meth c H locs cs sl D cK ad A ls Z G RC
  obtain ⟨hx, hb, hml, hown, hts, hfr, hlo, hcs, hsl, hK, hX, hP, hD, hS, hA, hl⟩ := id G
  exact lv_icmp_ne hx hb hd ht (fun h => kt h p l e R s m args below meth c H locs cs sl D cK ad A ls Z G RC) (fun h => kf h p l e R s m args below meth c H locs cs sl D cK ad A ls Z G RC)
theorem ab_if_lt {M : ab_Me} {d pc : Nat} {sc : Nat × (Nat → Int32)} {L : List (Option Value)} {st : List Value} {S : ab_S} {Q : Option Value → ab_S → Prop} {x : Int32} {off : Int} {tgt : Nat} (hd : decode M.2.1 pc = .ok (.ifCond .lt off, 3)) (ht : (pc : Int) + off = (tgt : Int)) (kt : x < 0 → ab_E M d sc tgt L st S Q) (kf : ¬ x < 0 → ab_E M d sc (pc + 3) L st S Q) : ab_E M d sc pc L (.int x :: st) S Q := by
  intro p l e R s m args below meth c H locs cs sl D cK ad A ls Z G RC
  obtain ⟨hx, hb, hml, hown, hts, hfr, hlo, hcs, hsl, hK, hX, hP, hD, hS, hA, hl⟩ := id G
  exact lv_if_lt hx hb hd ht (fun h => kt h p l e R s m args below meth c H locs cs sl D cK ad A ls Z G RC) (fun h => kf h p l e R s m args below meth c H locs cs sl D cK ad A ls Z G RC)
theorem ab_icmp_lt {M : ab_Me} {d pc : Nat} {sc : Nat × (Nat → Int32)} {L : List (Option Value)} {st : List Value} {S : ab_S} {Q : Option Value → ab_S → Prop} {x y : Int32} {off : Int} {tgt : Nat} (hd : decode M.2.1 pc = .ok (.if_icmp .lt off, 3)) (ht : (pc : Int) + off = (tgt : Int)) (kt : x < y → ab_E M d sc tgt L st S Q) (kf : ¬ x < y → ab_E M d sc (pc + 3) L st S Q) : ab_E M d sc pc L (.int y :: .int x :: st) S Q := by
  intro p l e R s m args below meth c H locs cs sl D cK ad A ls Z G RC
  obtain ⟨hx, hb, hml, hown, hts, hfr, hlo, hcs, hsl, hK, hX, hP, hD, hS, hA, hl⟩ := id G
  exact lv_icmp_lt hx hb hd ht (fun h => kt h p l e R s m args below meth c H locs cs sl D cK ad A ls Z G RC) (fun h => kf h p l e R s m args below meth c H locs cs sl D cK ad A ls Z G RC)
theorem ab_if_ge {M : ab_Me} {d pc : Nat} {sc : Nat × (Nat → Int32)} {L : List (Option Value)} {st : List Value} {S : ab_S} {Q : Option Value → ab_S → Prop} {x : Int32} {off : Int} {tgt : Nat} (hd : decode M.2.1 pc = .ok (.ifCond .ge off, 3)) (ht : (pc : Int) + off = (tgt : Int)) (kt : 0 ≤ x → ab_E M d sc tgt L st S Q) (kf : ¬ 0 ≤ x → ab_E M d sc (pc + 3) L st S Q) : ab_E M d sc pc L (.int x :: st) S Q := by
  intro p l e R s m args below meth c H locs cs sl D cK ad A ls Z G RC
  obtain ⟨hx, hb, hml, hown, hts, hfr, hlo, hcs, hsl, hK, hX, hP, hD, hS, hA, hl⟩ := id G
  exact lv_if_ge hx hb hd ht (fun h => kt h p l e R s m args below meth c H locs cs sl D cK ad A ls Z G RC) (fun h => kf h p l e R s m args below meth c H locs cs sl D cK ad A ls Z G RC)
theorem ab_icmp_ge {M : ab_Me} {d pc : Nat} {sc : Nat × (Nat → Int32)} {L : List (Option Value)} {st : List Value} {S : ab_S} {Q : Option Value → ab_S → Prop} {x y : Int32} {off : Int} {tgt : Nat} (hd : decode M.2.1 pc = .ok (.if_icmp .ge off, 3)) (ht : (pc : Int) + off = (tgt : Int)) (kt : y ≤ x → ab_E M d sc tgt L st S Q) (kf : ¬ y ≤ x → ab_E M d sc (pc + 3) L st S Q) : ab_E M d sc pc L (.int y :: .int x :: st) S Q := by
  intro p l e R s m args below meth c H locs cs sl D cK ad A ls Z G RC
  obtain ⟨hx, hb, hml, hown, hts, hfr, hlo, hcs, hsl, hK, hX, hP, hD, hS, hA, hl⟩ := id G
  exact lv_icmp_ge hx hb hd ht (fun h => kt h p l e R s m args below meth c H locs cs sl D cK ad A ls Z G RC) (fun h => kf h p l e R s m args below meth c H locs cs sl D cK ad A ls Z G RC)
theorem ab_if_gt {M : ab_Me} {d pc : Nat} {sc : Nat × (Nat → Int32)} {L : List (Option Value)} {st : List Value} {S : ab_S} {Q : Option Value → ab_S → Prop} {x : Int32} {off : Int} {tgt : Nat} (hd : decode M.2.1 pc = .ok (.ifCond .gt off, 3)) (ht : (pc : Int) + off = (tgt : Int)) (kt : 0 < x → ab_E M d sc tgt L st S Q) (kf : ¬ 0 < x → ab_E M d sc (pc + 3) L st S Q) : ab_E M d sc pc L (.int x :: st) S Q := by
  intro p l e R s m args below meth c H locs cs sl D cK ad A ls Z G RC
  obtain ⟨hx, hb, hml, hown, hts, hfr, hlo, hcs, hsl, hK, hX, hP, hD, hS, hA, hl⟩ := id G
  exact lv_if_gt hx hb hd ht (fun h => kt h p l e R s m args below meth c H locs cs sl D cK ad A ls Z G RC) (fun h => kf h p l e R s m args below meth c H locs cs sl D cK ad A ls Z G RC)
theorem ab_icmp_gt {M : ab_Me} {d pc : Nat} {sc : Nat × (Nat → Int32)} {L : List (Option Value)} {st : List Value} {S : ab_S} {Q : Option Value → ab_S → Prop} {x y : Int32} {off : Int} {tgt : Nat} (hd : decode M.2.1 pc = .ok (.if_icmp .gt off, 3)) (ht : (pc : Int) + off = (tgt : Int)) (kt : y < x → ab_E M d sc tgt L st S Q) (kf : ¬ y < x → ab_E M d sc (pc + 3) L st S Q) : ab_E M d sc pc L (.int y :: .int x :: st) S Q := by
  intro p l e R s m args below meth c H locs cs sl D cK ad A ls Z G RC
  obtain ⟨hx, hb, hml, hown, hts, hfr, hlo, hcs, hsl, hK, hX, hP, hD, hS, hA, hl⟩ := id G
  exact lv_icmp_gt hx hb hd ht (fun h => kt h p l e R s m args below meth c H locs cs sl D cK ad A ls Z G RC) (fun h => kf h p l e R s m args below meth c H locs cs sl D cK ad A ls Z G RC)
theorem ab_if_le {M : ab_Me} {d pc : Nat} {sc : Nat × (Nat → Int32)} {L : List (Option Value)} {st : List Value} {S : ab_S} {Q : Option Value → ab_S → Prop} {x : Int32} {off : Int} {tgt : Nat} (hd : decode M.2.1 pc = .ok (.ifCond .le off, 3)) (ht : (pc : Int) + off = (tgt : Int)) (kt : x ≤ 0 → ab_E M d sc tgt L st S Q) (kf : ¬ x ≤ 0 → ab_E M d sc (pc + 3) L st S Q) : ab_E M d sc pc L (.int x :: st) S Q := by
  intro p l e R s m args below meth c H locs cs sl D cK ad A ls Z G RC
  obtain ⟨hx, hb, hml, hown, hts, hfr, hlo, hcs, hsl, hK, hX, hP, hD, hS, hA, hl⟩ := id G
  exact lv_if_le hx hb hd ht (fun h => kt h p l e R s m args below meth c H locs cs sl D cK ad A ls Z G RC) (fun h => kf h p l e R s m args below meth c H locs cs sl D cK ad A ls Z G RC)
theorem ab_icmp_le {M : ab_Me} {d pc : Nat} {sc : Nat × (Nat → Int32)} {L : List (Option Value)} {st : List Value} {S : ab_S} {Q : Option Value → ab_S → Prop} {x y : Int32} {off : Int} {tgt : Nat} (hd : decode M.2.1 pc = .ok (.if_icmp .le off, 3)) (ht : (pc : Int) + off = (tgt : Int)) (kt : x ≤ y → ab_E M d sc tgt L st S Q) (kf : ¬ x ≤ y → ab_E M d sc (pc + 3) L st S Q) : ab_E M d sc pc L (.int y :: .int x :: st) S Q := by
  intro p l e R s m args below meth c H locs cs sl D cK ad A ls Z G RC
  obtain ⟨hx, hb, hml, hown, hts, hfr, hlo, hcs, hsl, hK, hX, hP, hD, hS, hA, hl⟩ := id G
  exact lv_icmp_le hx hb hd ht (fun h => kt h p l e R s m args below meth c H locs cs sl D cK ad A ls Z G RC) (fun h => kf h p l e R s m args below meth c H locs cs sl D cK ad A ls Z G RC)
theorem ab_goto {M : ab_Me} {d pc : Nat} {sc : Nat × (Nat → Int32)} {L : List (Option Value)} {st : List Value} {S : ab_S} {Q : Option Value → ab_S → Prop} {off : Int} {tgt : Nat} (hd : decode M.2.1 pc = .ok (.goto off, 3)) (ht : (pc : Int) + off = (tgt : Int)) (k : ab_E M d sc tgt L st S Q) : ab_E M d sc pc L st S Q := by
  intro p l e R s m args below meth c H locs cs sl D cK ad A ls Z G RC
  obtain ⟨hx, hb, hml, hown, hts, hfr, hlo, hcs, hsl, hK, hX, hP, hD, hS, hA, hl⟩ := id G
  exact lv_goto hx hb hd ht (k p l e R s m args below meth c H locs cs sl D cK ad A ls Z G RC)
theorem ab_tsOut {M : ab_Me} {d pc : Nat} {sc : Nat × (Nat → Int32)} {L : List (Option Value)} {st : List Value} {S : ab_S} {Q : Option Value → ab_S → Prop} {df lo hi : Int} {offs : Array Int} {len : Nat} {x : Int32} {tgt : Nat} (hd : decode M.2.1 pc = .ok (.tableswitch df lo hi offs, len)) (h : x.toInt < lo ∨ hi < x.toInt) (ht : (pc : Int) + df = (tgt : Int)) (k : ab_E M d sc tgt L st S Q) : ab_E M d sc pc L (.int x :: st) S Q := by
  intro p l e R s m args below meth c H locs cs sl D cK ad A ls Z G RC
  obtain ⟨hx, hb, hml, hown, hts, hfr, hlo, hcs, hsl, hK, hX, hP, hD, hS, hA, hl⟩ := id G
  exact lv_tableOut hx hb hd h ht (k p l e R s m args below meth c H locs cs sl D cK ad A ls Z G RC)
theorem ab_tsIn {M : ab_Me} {d pc : Nat} {sc : Nat × (Nat → Int32)} {L : List (Option Value)} {st : List Value} {S : ab_S} {Q : Option Value → ab_S → Prop} {df lo hi off : Int} {offs : Array Int} {len : Nat} {x : Int32} {tgt : Nat} (hd : decode M.2.1 pc = .ok (.tableswitch df lo hi offs, len)) (h1 : ¬ x.toInt < lo) (h2 : ¬ hi < x.toInt) (ho : offs[(x.toInt - lo).toNat]? = some off) (ht : (pc : Int) + off = (tgt : Int)) (k : ab_E M d sc tgt L st S Q) : ab_E M d sc pc L (.int x :: st) S Q := by
  intro p l e R s m args below meth c H locs cs sl D cK ad A ls Z G RC
  obtain ⟨hx, hb, hml, hown, hts, hfr, hlo, hcs, hsl, hK, hX, hP, hD, hS, hA, hl⟩ := id G
  exact lv_tableIn hx hb hd h1 h2 ho ht (k p l e R s m args below meth c H locs cs sl D cK ad A ls Z G RC)
theorem ab_ls {M : ab_Me} {d pc : Nat} {sc : Nat × (Nat → Int32)} {L : List (Option Value)} {st : List Value} {S : ab_S} {Q : Option Value → ab_S → Prop} {df off : Int} {ps : Array (Int × Int)} {len : Nat} {x : Int32} {tgt : Nat} (hd : decode M.2.1 pc = .ok (.lookupswitch df ps, len)) (hp : (ps.toList.zip (ps.toList.drop 1)).all (fun (a, next) => a.1 < next.1) = true) (ho : Op.lookupswitch.offset ps.toList df x.toInt = off) (ht : (pc : Int) + off = (tgt : Int)) (k : ab_E M d sc tgt L st S Q) : ab_E M d sc pc L (.int x :: st) S Q := by
  intro p l e R s m args below meth c H locs cs sl D cK ad A ls Z G RC
  obtain ⟨hx, hb, hml, hown, hts, hfr, hlo, hcs, hsl, hK, hX, hP, hD, hS, hA, hl⟩ := id G
  exact lv_lookup hx hb hd hp ho ht (k p l e R s m args below meth c H locs cs sl D cK ad A ls Z G RC)
