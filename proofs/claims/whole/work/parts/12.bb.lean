/-! WHILE CELLS ARE MADE: the world is a list of cells, references are addresses -/
def bb_nl : List (String × Nat × MethodName × String) := [("StiltParish", 29, ⟨"StiltParish$Text", "<init>", "()V"⟩, "StiltParish"), ("StiltParish", 40, ⟨"StiltParish$Voice", "<init>", "()V"⟩, "StiltParish"), ("StiltParish", 51, ⟨"StiltParish$Goer", "<init>", "()V"⟩, "StiltParish"), ("StiltParish", 54, ⟨"StiltParish$Postman", "<init>", "()V"⟩, "StiltParish"), ("StiltParish$Postman", 1, ⟨"StiltParish$Goer", "<init>", "()V"⟩, "StiltParish"), ("StiltParish", 57, ⟨"StiltParish$Young", "<init>", "()V"⟩, "StiltParish"), ("StiltParish$Young", 1, ⟨"StiltParish$Goer", "<init>", "()V"⟩, "StiltParish"), ("StiltParish", 60, ⟨"StiltParish$Lame", "<init>", "()V"⟩, "StiltParish"), ("StiltParish$Lame", 1, ⟨"StiltParish$Goer", "<init>", "()V"⟩, "StiltParish"), ("StiltParish", 63, ⟨"StiltParish$Boots", "<init>", "()V"⟩, "StiltParish"), ("StiltParish$Boots", 1, ⟨"StiltParish$Postman", "<init>", "()V"⟩, "StiltParish"), ("StiltParish", 66, ⟨"StiltParish$Bold", "<init>", "()V"⟩, "StiltParish"), ("StiltParish$Bold", 1, ⟨"StiltParish$Young", "<init>", "()V"⟩, "StiltParish"), ("StiltParish", 69, ⟨"StiltParish$Parr", "<init>", "()V"⟩, "StiltParish"), ("StiltParish$Parr", 1, ⟨"StiltParish$Goer", "<init>", "()V"⟩, "StiltParish")]
def bb_cg : List (String × String) := [("StiltParish$Postman", "StiltParish$Goer"), ("StiltParish$Young", "StiltParish$Goer"), ("StiltParish$Lame", "StiltParish$Goer"), ("StiltParish$Boots", "StiltParish$Goer"), ("StiltParish$Bold", "StiltParish$Goer"), ("StiltParish$Parr", "StiltParish$Goer")]
def bb_K (D : va_G) (cK : Nat → ClassId) (U : State) : Prop := va_K D vwCl [(cK 0, .int), (cK 1, .object RX2), (cK 2, .object RX6)] U ∧ (∀ q ∈ bb_nl, va_Nw (.methodLinkNest q.1 q.2.1 q.2.2.1 q.2.2.2) U) ∧ (va_AO RX2 U ∧ va_AO RX6 U) ∧ ∀ q ∈ bb_cg, va_Nw (.castable q.1 q.2) U
theorem bb_K.warm {D : va_G} {cK : Nat → ClassId} {s U : State} (hW : s.WarmedH U.vm) (h : bb_K D cK s) : bb_K D cK U := ⟨h.1.moved hW.alike, fun q hq => va_Nw.warmM hW (h.2.1 q hq), ⟨h.2.2.1.1.moved hW.alike, h.2.2.1.2.moved hW.alike⟩, fun q hq => va_Nw.warmC hW (h.2.2.2 q hq)⟩
theorem bb_K.same {D : va_G} {cK : Nat → ClassId} {s U : State} (hv : s.vm = U.vm) (h : bb_K D cK s) : bb_K D cK U := by
  have ha : s.vm.Alike U.vm := by rw [hv]; exact Vm.Alike.refl U.vm
  exact ⟨h.1.moved ha, fun q hq => va_Nw.same rfl hv (h.2.1 q hq), ⟨h.2.2.1.1.moved ha, h.2.2.1.2.moved ha⟩, fun q hq => va_Nw.same rfl hv (h.2.2.2 q hq)⟩
def bb_G (D : va_G) (cK : Nat → ClassId) (M : ab_Me) (nm : String) (d mc ms : Nat) (p : Program) (l : Launch) (e : Env) (R : Room) (s : State) (m : MethodId) (args : Array Value) (meth : Method) (c : Code) (H : Heap) (locs : List Loc) (A : Nat → Prop) (ls : Array Slot) (L : List (Option Value)) (ws : va_W) : Prop :=
  p.tables.exec = Jvm.exec ∧ c.code = M.2.1 ∧ c.maxLocals = M.2.2.1 ∧ s.vm.findClass M.1 = some m.cls ∧ (∀ w ∈ ab_T, w.before args s = true) ∧ meth.name = nm ∧ d ≤ R.frames ∧ 40 * d ≤ R.locals ∧ mc ≤ R.cells ∧ ms ≤ R.slots ∧ bb_K D cK s ∧ va_P D vwCl ws H ∧ va_D A ws ∧ va_S A s.heap H locs ∧ (∀ q, s.heap.size ≤ q → A q) ∧ lv_has ls M.2.2.1 (ab_lv id 0 L)
def bb_RC (D : va_G) (cK : Nat → ClassId) (M : ab_Me) (nm : String) (d mc ms : Nat) (p : Program) (l : Launch) (e : Env) (R : Room) (s : State) (m : MethodId) (args : Array Value) (below : List Frame) (meth : Method) (c : Code) (A : Nat → Prop) (Q : va_W → Prop) (Z : State → Prop) : Prop :=
  ∀ (ws : va_W) (H : Heap) (locs : List Loc) (cs sl pc : Nat) (ls : Array Slot) (L : List (Option Value)), Q ws → bb_G D cK M nm d mc ms p l e R s m args meth c H locs A ls L ws → cs ≤ mc → sl ≤ ms → decode M.2.1 pc = .ok (.return_, 1) → W p l e R s m args below meth c H locs cs sl Z (F0 m pc ls [])
abbrev bb_CX : Type := Program → Launch → Env → Room → State → MethodId → Array Value → List Frame → Method → Code → (Nat → Prop) → (State → Prop) → Prop
def bb_Rt (D : va_G) (cK : Nat → ClassId) (M : ab_Me) (nm : String) (d mc ms : Nat) (Q : va_W → Prop) : bb_CX := fun p l e R s m args below meth c A Z => bb_RC D cK M nm d mc ms p l e R s m args below meth c A Q Z
def bb_E (D : va_G) (cK : Nat → ClassId) (M : ab_Me) (nm : String) (d mc ms cs sl pc : Nat) (L : List (Option Value)) (st : List Value) (ws : va_W) (X : bb_CX) : Prop :=
  ∀ (p : Program) (l : Launch) (e : Env) (R : Room) (s : State) (m : MethodId) (args : Array Value) (below : List Frame) (meth : Method) (c : Code) (H : Heap) (locs : List Loc) (A : Nat → Prop) (ls : Array Slot) (Z : State → Prop),
    bb_G D cK M nm d mc ms p l e R s m args meth c H locs A ls L ws → X p l e R s m args below meth c A Z → W p l e R s m args below meth c H locs cs sl Z (F0 m pc ls st)
theorem bb_iadd {D : va_G} {cK : Nat → ClassId} {M : ab_Me} {nm : String} {d mc ms cs sl pc pc2 : Nat} {L : List (Option Value)} {st : List Value} {ws : va_W} {X : bb_CX} {x y : Int32} (hp : pc + 1 = pc2) (hd : decode M.2.1 pc = .ok (.iadd, 1))  (k : bb_E D cK M nm d mc ms cs sl pc2 L (.int (x + y) :: st) (ws) X) : bb_E D cK M nm d mc ms cs sl pc L (.int y :: .int x :: st) (ws) X := by
  subst hp
  intro p l e R s m args below meth c H locs A ls Z G RC
  obtain ⟨hx, hb, hml, hown, hts, hnm, hfr, hlo, hcs, hsl, hK, hP, hD, hS, hA, hl⟩ := id G
  exact lv_iadd hx hb hd (k p l e R s m args below meth c H locs A ls Z G RC)
theorem bb_imul {D : va_G} {cK : Nat → ClassId} {M : ab_Me} {nm : String} {d mc ms cs sl pc pc2 : Nat} {L : List (Option Value)} {st : List Value} {ws : va_W} {X : bb_CX} {x y : Int32} (hp : pc + 1 = pc2) (hd : decode M.2.1 pc = .ok (.imul, 1))  (k : bb_E D cK M nm d mc ms cs sl pc2 L (.int (x * y) :: st) (ws) X) : bb_E D cK M nm d mc ms cs sl pc L (.int y :: .int x :: st) (ws) X := by
  subst hp
  intro p l e R s m args below meth c H locs A ls Z G RC
  obtain ⟨hx, hb, hml, hown, hts, hnm, hfr, hlo, hcs, hsl, hK, hP, hD, hS, hA, hl⟩ := id G
  exact lv_imul hx hb hd (k p l e R s m args below meth c H locs A ls Z G RC)
theorem bb_ireml {D : va_G} {cK : Nat → ClassId} {M : ab_Me} {nm : String} {d mc ms cs sl pc pc2 : Nat} {L : List (Option Value)} {st : List Value} {ws : va_W} {X : bb_CX} {x y z : Int32} (hp : pc + 1 = pc2) (hd : decode M.2.1 pc = .ok (.irem, 1)) (hne : ¬ y = 0) (hz : x - x / y * y = z) (k : bb_E D cK M nm d mc ms cs sl pc2 L (.int z :: st) (ws) X) : bb_E D cK M nm d mc ms cs sl pc L (.int y :: .int x :: st) (ws) X := by
  subst hp; subst hz
  intro p l e R s m args below meth c H locs A ls Z G RC
  obtain ⟨hx, hb, hml, hown, hts, hnm, hfr, hlo, hcs, hsl, hK, hP, hD, hS, hA, hl⟩ := id G
  exact lv_irem hx hb hd hne (k p l e R s m args below meth c H locs A ls Z G RC)
theorem bb_imull {D : va_G} {cK : Nat → ClassId} {M : ab_Me} {nm : String} {d mc ms cs sl pc pc2 : Nat} {L : List (Option Value)} {st : List Value} {ws : va_W} {X : bb_CX} {x y z : Int32} (hp : pc + 1 = pc2) (hd : decode M.2.1 pc = .ok (.imul, 1)) (hz : x * y = z) (k : bb_E D cK M nm d mc ms cs sl pc2 L (.int z :: st) (ws) X) : bb_E D cK M nm d mc ms cs sl pc L (.int y :: .int x :: st) (ws) X := by
  subst hp; subst hz
  intro p l e R s m args below meth c H locs A ls Z G RC
  obtain ⟨hx, hb, hml, hown, hts, hnm, hfr, hlo, hcs, hsl, hK, hP, hD, hS, hA, hl⟩ := id G
  exact lv_imul hx hb hd (k p l e R s m args below meth c H locs A ls Z G RC)
theorem bb_iaddl {D : va_G} {cK : Nat → ClassId} {M : ab_Me} {nm : String} {d mc ms cs sl pc pc2 : Nat} {L : List (Option Value)} {st : List Value} {ws : va_W} {X : bb_CX} {x y z : Int32} (hp : pc + 1 = pc2) (hd : decode M.2.1 pc = .ok (.iadd, 1)) (hz : x + y = z) (k : bb_E D cK M nm d mc ms cs sl pc2 L (.int z :: st) (ws) X) : bb_E D cK M nm d mc ms cs sl pc L (.int y :: .int x :: st) (ws) X := by
  subst hp; subst hz
  intro p l e R s m args below meth c H locs A ls Z G RC
  obtain ⟨hx, hb, hml, hown, hts, hnm, hfr, hlo, hcs, hsl, hK, hP, hD, hS, hA, hl⟩ := id G
  exact lv_iadd hx hb hd (k p l e R s m args below meth c H locs A ls Z G RC)
theorem bb_iconst {D : va_G} {cK : Nat → ClassId} {M : ab_Me} {nm : String} {d mc ms cs sl pc pc2 : Nat} {L : List (Option Value)} {st : List Value} {ws : va_W} {X : bb_CX} {n : Int} {v : Int32} (hp : pc + 1 = pc2) (hd : decode M.2.1 pc = .ok (.iconst n, 1)) (hv : Int32.ofInt n = v) (k : bb_E D cK M nm d mc ms cs sl pc2 L (.int v :: st) (ws) X) : bb_E D cK M nm d mc ms cs sl pc L (st) (ws) X := by
  subst hp
  intro p l e R s m args below meth c H locs A ls Z G RC
  obtain ⟨hx, hb, hml, hown, hts, hnm, hfr, hlo, hcs, hsl, hK, hP, hD, hS, hA, hl⟩ := id G
  exact lv_iconst hx hb hd hv (k p l e R s m args below meth c H locs A ls Z G RC)
theorem bb_bipush {D : va_G} {cK : Nat → ClassId} {M : ab_Me} {nm : String} {d mc ms cs sl pc pc2 : Nat} {L : List (Option Value)} {st : List Value} {ws : va_W} {X : bb_CX} {n : Int} {v : Int32} (hp : pc + 2 = pc2) (hd : decode M.2.1 pc = .ok (.bipush n, 2)) (hv : (Int8.ofInt n).toInt32 = v) (k : bb_E D cK M nm d mc ms cs sl pc2 L (.int v :: st) (ws) X) : bb_E D cK M nm d mc ms cs sl pc L (st) (ws) X := by
  subst hp
  intro p l e R s m args below meth c H locs A ls Z G RC
  obtain ⟨hx, hb, hml, hown, hts, hnm, hfr, hlo, hcs, hsl, hK, hP, hD, hS, hA, hl⟩ := id G
  exact lv_bipush hx hb hd hv (k p l e R s m args below meth c H locs A ls Z G RC)
theorem bb_sipush {D : va_G} {cK : Nat → ClassId} {M : ab_Me} {nm : String} {d mc ms cs sl pc pc2 : Nat} {L : List (Option Value)} {st : List Value} {ws : va_W} {X : bb_CX} {n : Int} {v : Int32} (hp : pc + 3 = pc2) (hd : decode M.2.1 pc = .ok (.sipush n, 3)) (hv : (Int16.ofInt n).toInt32 = v) (k : bb_E D cK M nm d mc ms cs sl pc2 L (.int v :: st) (ws) X) : bb_E D cK M nm d mc ms cs sl pc L (st) (ws) X := by
  subst hp
  intro p l e R s m args below meth c H locs A ls Z G RC
  obtain ⟨hx, hb, hml, hown, hts, hnm, hfr, hlo, hcs, hsl, hK, hP, hD, hS, hA, hl⟩ := id G
  exact lv_sipush hx hb hd hv (k p l e R s m args below meth c H locs A ls Z G RC)
theorem bb_iload_n {D : va_G} {cK : Nat → ClassId} {M : ab_Me} {nm : String} {d mc ms cs sl pc pc2 : Nat} {L : List (Option Value)} {st : List Value} {ws : va_W} {X : bb_CX} {i : Fin 4} {x : Int32} (hp : pc + 1 = pc2) (hd : decode M.2.1 pc = .ok (.iload_n i, 1)) (hi : L[(i : Nat)]? = some (some (.int x))) (k : bb_E D cK M nm d mc ms cs sl pc2 L (.int x :: st) (ws) X) : bb_E D cK M nm d mc ms cs sl pc L (st) (ws) X := by
  subst hp
  intro p l e R s m args below meth c H locs A ls Z G RC
  obtain ⟨hx, hb, hml, hown, hts, hnm, hfr, hlo, hcs, hsl, hK, hP, hD, hS, hA, hl⟩ := id G
  exact lv_iload_n hx hb hd rfl (ab_ld hl hi) (k p l e R s m args below meth c H locs A ls Z G RC)
theorem bb_iload {D : va_G} {cK : Nat → ClassId} {M : ab_Me} {nm : String} {d mc ms cs sl pc pc2 : Nat} {L : List (Option Value)} {st : List Value} {ws : va_W} {X : bb_CX} {i : Nat} {x : Int32} (hp : pc + 2 = pc2) (hd : decode M.2.1 pc = .ok (.iload i, 2)) (hi : L[i]? = some (some (.int x))) (k : bb_E D cK M nm d mc ms cs sl pc2 L (.int x :: st) (ws) X) : bb_E D cK M nm d mc ms cs sl pc L (st) (ws) X := by
  subst hp
  intro p l e R s m args below meth c H locs A ls Z G RC
  obtain ⟨hx, hb, hml, hown, hts, hnm, hfr, hlo, hcs, hsl, hK, hP, hD, hS, hA, hl⟩ := id G
  exact lv_iload hx hb hd (ab_ld hl hi) (k p l e R s m args below meth c H locs A ls Z G RC)
theorem bb_aload_n {D : va_G} {cK : Nat → ClassId} {M : ab_Me} {nm : String} {d mc ms cs sl pc pc2 : Nat} {L : List (Option Value)} {st : List Value} {ws : va_W} {X : bb_CX} {i : Fin 4} {x : Nat} (hp : pc + 1 = pc2) (hd : decode M.2.1 pc = .ok (.aload_n i, 1)) (hi : L[(i : Nat)]? = some (some (.ref x))) (k : bb_E D cK M nm d mc ms cs sl pc2 L (.ref x :: st) (ws) X) : bb_E D cK M nm d mc ms cs sl pc L (st) (ws) X := by
  subst hp
  intro p l e R s m args below meth c H locs A ls Z G RC
  obtain ⟨hx, hb, hml, hown, hts, hnm, hfr, hlo, hcs, hsl, hK, hP, hD, hS, hA, hl⟩ := id G
  exact lv_aload_n hx hb hd rfl (ab_ld hl hi) (k p l e R s m args below meth c H locs A ls Z G RC)
theorem bb_aload {D : va_G} {cK : Nat → ClassId} {M : ab_Me} {nm : String} {d mc ms cs sl pc pc2 : Nat} {L : List (Option Value)} {st : List Value} {ws : va_W} {X : bb_CX} {i : Nat} {x : Nat} (hp : pc + 2 = pc2) (hd : decode M.2.1 pc = .ok (.aload i, 2)) (hi : L[i]? = some (some (.ref x))) (k : bb_E D cK M nm d mc ms cs sl pc2 L (.ref x :: st) (ws) X) : bb_E D cK M nm d mc ms cs sl pc L (st) (ws) X := by
  subst hp
  intro p l e R s m args below meth c H locs A ls Z G RC
  obtain ⟨hx, hb, hml, hown, hts, hnm, hfr, hlo, hcs, hsl, hK, hP, hD, hS, hA, hl⟩ := id G
  exact lv_aload hx hb hd (ab_ld hl hi) (k p l e R s m args below meth c H locs A ls Z G RC)
theorem bb_dup {D : va_G} {cK : Nat → ClassId} {M : ab_Me} {nm : String} {d mc ms cs sl pc pc2 : Nat} {L : List (Option Value)} {st : List Value} {ws : va_W} {X : bb_CX} {v : Value} (hp : pc + 1 = pc2) (hd : decode M.2.1 pc = .ok (.dup, 1)) (hv : v.category = 1) (k : bb_E D cK M nm d mc ms cs sl pc2 L (v :: v :: st) (ws) X) : bb_E D cK M nm d mc ms cs sl pc L (v :: st) (ws) X := by
  subst hp
  intro p l e R s m args below meth c H locs A ls Z G RC
  obtain ⟨hx, hb, hml, hown, hts, hnm, hfr, hlo, hcs, hsl, hK, hP, hD, hS, hA, hl⟩ := id G
  exact lv_dup hx hb hd hv (k p l e R s m args below meth c H locs A ls Z G RC)
theorem bb_istore_n {D : va_G} {cK : Nat → ClassId} {M : ab_Me} {nm : String} {d mc ms cs sl pc pc2 : Nat} {L : List (Option Value)} {st : List Value} {ws : va_W} {X : bb_CX} {i : Fin 4} {x : Int32} {L2 : List (Option Value)} (hp : pc + 1 = pc2) (hd : decode M.2.1 pc = .ok (.istore_n i, 1)) (hn : (i : Nat) < M.2.2.1) (hok : ab_ok1 L (i : Nat) = true) (hL : L.set (i : Nat) (some (.int x)) = L2) (k : bb_E D cK M nm d mc ms cs sl pc2 L2 (st) (ws) X) : bb_E D cK M nm d mc ms cs sl pc L (.int x :: st) (ws) X := by
  subst hp; subst hL
  intro p l e R s m args below meth c H locs A ls Z G RC
  obtain ⟨hx, hb, hml, hown, hts, hnm, hfr, hlo, hcs, hsl, hK, hP, hD, hS, hA, hl⟩ := id G
  refine lv_istore_n hx hb hd rfl hl hn rfl (fun ls' hl' => ?_)
  exact k p l e R s m args below meth c H locs A ls' Z ⟨hx, hb, hml, hown, hts, hnm, hfr, hlo, hcs, hsl, hK, hP, hD, hS, hA, ab_st1 (v := .int x) hl' hok⟩ RC
theorem bb_istore {D : va_G} {cK : Nat → ClassId} {M : ab_Me} {nm : String} {d mc ms cs sl pc pc2 : Nat} {L : List (Option Value)} {st : List Value} {ws : va_W} {X : bb_CX} {i : Nat} {x : Int32} {L2 : List (Option Value)} (hp : pc + 2 = pc2) (hd : decode M.2.1 pc = .ok (.istore i, 2)) (hn : i < M.2.2.1) (hok : ab_ok1 L i = true) (hL : L.set i (some (.int x)) = L2) (k : bb_E D cK M nm d mc ms cs sl pc2 L2 (st) (ws) X) : bb_E D cK M nm d mc ms cs sl pc L (.int x :: st) (ws) X := by
  subst hp; subst hL
  intro p l e R s m args below meth c H locs A ls Z G RC
  obtain ⟨hx, hb, hml, hown, hts, hnm, hfr, hlo, hcs, hsl, hK, hP, hD, hS, hA, hl⟩ := id G
  refine lv_istore hx hb hd hl hn rfl (fun ls' hl' => ?_)
  exact k p l e R s m args below meth c H locs A ls' Z ⟨hx, hb, hml, hown, hts, hnm, hfr, hlo, hcs, hsl, hK, hP, hD, hS, hA, ab_st1 (v := .int x) hl' hok⟩ RC
theorem bb_astore_n {D : va_G} {cK : Nat → ClassId} {M : ab_Me} {nm : String} {d mc ms cs sl pc pc2 : Nat} {L : List (Option Value)} {st : List Value} {ws : va_W} {X : bb_CX} {i : Fin 4} {x : Nat} {L2 : List (Option Value)} (hp : pc + 1 = pc2) (hd : decode M.2.1 pc = .ok (.astore_n i, 1)) (hn : (i : Nat) < M.2.2.1) (hok : ab_ok1 L (i : Nat) = true) (hL : L.set (i : Nat) (some (.ref x)) = L2) (k : bb_E D cK M nm d mc ms cs sl pc2 L2 (st) (ws) X) : bb_E D cK M nm d mc ms cs sl pc L (.ref x :: st) (ws) X := by
  subst hp; subst hL
  intro p l e R s m args below meth c H locs A ls Z G RC
  obtain ⟨hx, hb, hml, hown, hts, hnm, hfr, hlo, hcs, hsl, hK, hP, hD, hS, hA, hl⟩ := id G
  refine lv_astore_n hx hb hd rfl hl hn rfl (fun ls' hl' => ?_)
  exact k p l e R s m args below meth c H locs A ls' Z ⟨hx, hb, hml, hown, hts, hnm, hfr, hlo, hcs, hsl, hK, hP, hD, hS, hA, ab_st1 (v := .ref x) hl' hok⟩ RC
theorem bb_astore {D : va_G} {cK : Nat → ClassId} {M : ab_Me} {nm : String} {d mc ms cs sl pc pc2 : Nat} {L : List (Option Value)} {st : List Value} {ws : va_W} {X : bb_CX} {i : Nat} {x : Nat} {L2 : List (Option Value)} (hp : pc + 2 = pc2) (hd : decode M.2.1 pc = .ok (.astore i, 2)) (hn : i < M.2.2.1) (hok : ab_ok1 L i = true) (hL : L.set i (some (.ref x)) = L2) (k : bb_E D cK M nm d mc ms cs sl pc2 L2 (st) (ws) X) : bb_E D cK M nm d mc ms cs sl pc L (.ref x :: st) (ws) X := by
  subst hp; subst hL
  intro p l e R s m args below meth c H locs A ls Z G RC
  obtain ⟨hx, hb, hml, hown, hts, hnm, hfr, hlo, hcs, hsl, hK, hP, hD, hS, hA, hl⟩ := id G
  refine lv_astore hx hb hd hl hn rfl (fun ls' hl' => ?_)
  exact k p l e R s m args below meth c H locs A ls' Z ⟨hx, hb, hml, hown, hts, hnm, hfr, hlo, hcs, hsl, hK, hP, hD, hS, hA, ab_st1 (v := .ref x) hl' hok⟩ RC
theorem bb_iinc {D : va_G} {cK : Nat → ClassId} {M : ab_Me} {nm : String} {d mc ms cs sl pc pc2 : Nat} {L : List (Option Value)} {st : List Value} {ws : va_W} {X : bb_CX} {i : Nat} {n : Int} {x v : Int32} {L2 : List (Option Value)} (hp : pc + 3 = pc2) (hd : decode M.2.1 pc = .ok (.iinc i n, 3)) (hi : L[i]? = some (some (.int x))) (hv : x + Int32.ofInt n = v) (hn : i < M.2.2.1) (hok : ab_ok1 L i = true) (hL : L.set i (some (.int v)) = L2) (k : bb_E D cK M nm d mc ms cs sl pc2 L2 (st) (ws) X) : bb_E D cK M nm d mc ms cs sl pc L (st) (ws) X := by
  subst hp; subst hL
  intro p l e R s m args below meth c H locs A ls Z G RC
  obtain ⟨hx, hb, hml, hown, hts, hnm, hfr, hlo, hcs, hsl, hK, hP, hD, hS, hA, hl⟩ := id G
  have hm : (i, Value.int x) ∈ ab_lv id 0 L := (ab_lv_mem L 0 i _).mpr ⟨i, .int x, hi, by omega, rfl⟩
  obtain ⟨k0, hk0⟩ := List.getElem?_of_mem hm
  refine lv_iinc hx hb hd hl hk0 hv hn rfl (fun ls' hl' => ?_)
  exact k p l e R s m args below meth c H locs A ls' Z ⟨hx, hb, hml, hown, hts, hnm, hfr, hlo, hcs, hsl, hK, hP, hD, hS, hA, ab_st1 (v := .int v) hl' hok⟩ RC
theorem bb_icmp_ge {D : va_G} {cK : Nat → ClassId} {M : ab_Me} {nm : String} {d mc ms cs sl pc pc2 : Nat} {L : List (Option Value)} {st : List Value} {ws : va_W} {X : bb_CX} {x y : Int32} {off : Int} {tgt : Nat} (hp : pc + 3 = pc2) (hd : decode M.2.1 pc = .ok (.if_icmp .ge off, 3)) (ht : (pc : Int) + off = (tgt : Int)) (kt : y ≤ x → bb_E D cK M nm d mc ms cs sl tgt L (st) (ws) X) (kf : ¬ y ≤ x → bb_E D cK M nm d mc ms cs sl pc2 L (st) (ws) X) : bb_E D cK M nm d mc ms cs sl pc L (.int y :: .int x :: st) (ws) X := by
  subst hp
  intro p l e R s m args below meth c H locs A ls Z G RC
  obtain ⟨hx, hb, hml, hown, hts, hnm, hfr, hlo, hcs, hsl, hK, hP, hD, hS, hA, hl⟩ := id G
  exact lv_icmp_ge hx hb hd ht (fun h => kt h p l e R s m args below meth c H locs A ls Z G RC) (fun h => kf h p l e R s m args below meth c H locs A ls Z G RC)
theorem bb_goto {D : va_G} {cK : Nat → ClassId} {M : ab_Me} {nm : String} {d mc ms cs sl pc : Nat} {L : List (Option Value)} {st : List Value} {ws : va_W} {X : bb_CX} {off : Int} {tgt : Nat} (hd : decode M.2.1 pc = .ok (.goto off, 3)) (ht : (pc : Int) + off = (tgt : Int)) (k : bb_E D cK M nm d mc ms cs sl tgt L (st) (ws) X) : bb_E D cK M nm d mc ms cs sl pc L (st) (ws) X := by
  intro p l e R s m args below meth c H locs A ls Z G RC
  obtain ⟨hx, hb, hml, hown, hts, hnm, hfr, hlo, hcs, hsl, hK, hP, hD, hS, hA, hl⟩ := id G
  exact lv_goto hx hb hd ht (k p l e R s m args below meth c H locs A ls Z G RC)
theorem bb_ws {D : va_G} {cK : Nat → ClassId} {M : ab_Me} {nm : String} {d mc ms cs sl pc : Nat} {L : List (Option Value)} {st : List Value} {ws : va_W} {X : bb_CX} {ws2 : va_W} (h : ws = ws2) (k : bb_E D cK M nm d mc ms cs sl pc L (st) (ws2) X) : bb_E D cK M nm d mc ms cs sl pc L (st) (ws) X := by rw [h]; exact k
theorem bb_ret {D : va_G} {cK : Nat → ClassId} {M : ab_Me} {nm : String} {d mc ms cs sl pc : Nat} {L : List (Option Value)} {ws : va_W} {Q : va_W → Prop} (hd : decode M.2.1 pc = .ok (.return_, 1)) (hc : Nat.ble cs mc = true) (hs : Nat.ble sl ms = true) (hq : Q ws) : bb_E D cK M nm d mc ms cs sl pc L ([]) (ws) (bb_Rt D cK M nm d mc ms Q) := by
  intro p l e R s m args below meth c H locs A ls Z G RC
  obtain ⟨hx, hb, hml, hown, hts, hnm, hfr, hlo, hcs, hsl, hK, hP, hD, hS, hA, hl⟩ := id G
  exact RC ws H locs cs sl pc ls L hq G (Nat.le_of_ble_eq_true hc) (Nat.le_of_ble_eq_true hs) hd
theorem bb_new {D : va_G} {cK : Nat → ClassId} {M : ab_Me} {nm : String} {d mc ms cs sl pc pc2 : Nat} {L : List (Option Value)} {st : List Value} {ws : va_W} {X : bb_CX} {ci idx N : Nat} {C : String} {T : u_T} (ty : Nat → FieldType) {fs : List Value} (hp : pc + 3 = pc2) (hd : decode M.2.1 pc = .ok (.new idx, 3)) (hc : vwCl[ci]? = some (C, T, N)) (hin : ∀ w ∈ u_ws C T N, w ∈ ab_T) (hty : ∀ k, k < N → parseFieldDescriptor (T k).2.2.1 = some (ty k)) (hw1 : Cond.classLink M.1 idx C ∈ ab_T) (hw2 : Cond.instantiable C N ∈ ab_T) (hw3 : Cond.initialized C ∈ ab_T) (hfs : ∀ j, j < N → defaultValue (ty j) = vp_V fs j) (hc1 : Nat.ble (cs + 1) mc = true) (hs1 : Nat.ble (sl + N) ms = true) (k : ∀ q : Nat, bb_E D cK M nm d mc ms (cs + 1) (sl + N) pc2 L (.ref q :: st) (ws ++ [(q, .inr (ci, fs))]) X) : bb_E D cK M nm d mc ms cs sl pc L (st) (ws) X := by
  subst hp
  intro p l e R s m args below meth c H locs A ls Z G RC
  obtain ⟨hx, hb, hml, hown, hts, hnm, hfr, hlo, hcs, hsl, hK, hP, hD, hS, hA, hl⟩ := id G
  refine va_new (ci := ci) (fs := fs) hx hb hts hin ty hty hown (hts _ hw1) (hts _ hw2) (hts _ hw3) hK.1 hP hD hS hA hc hfs (Nat.le_trans (Nat.le_of_ble_eq_true hc1) hcs) (Nat.le_trans (Nat.le_of_ble_eq_true hs1) hsl) hd (fun q H1 hP1 hD1 hS1 => ?_)
  exact k q p l e R s m args below meth c H1 locs A ls Z ⟨hx, hb, hml, hown, hts, hnm, hfr, hlo, hcs, hsl, hK, hP1, hD1, hS1, hA, hl⟩ RC
theorem bb_newa {D : va_G} {cK : Nat → ClassId} {M : ab_Me} {nm : String} {d mc ms cs sl pc pc2 : Nat} {L : List (Option Value)} {st : List Value} {ws : va_W} {X : bb_CX} {n : Int32} {N : Nat} (hp : pc + 2 = pc2) (hd : decode M.2.1 pc = .ok (.newarray .int, 2)) (hw : Cond.arrayClass .int ∈ ab_T) (hn : ¬ n < 0) (hN : n.toNatClampNeg = N) (h4 : Nat.ble (N * 4) 536870912 = true) (hc1 : Nat.ble (cs + 1) mc = true) (hs1 : Nat.ble (sl + N) ms = true) (k : ∀ q : Nat, bb_E D cK M nm d mc ms (cs + 1) (sl + N) pc2 L (.ref q :: st) (ws ++ [(q, .inl (cK 0, N, .inl (fun _ => 0)))]) X) : bb_E D cK M nm d mc ms cs sl pc L (.int n :: st) (ws) X := by
  subst hp
  intro p l e R s m args below meth c H locs A ls Z G RC
  obtain ⟨hx, hb, hml, hown, hts, hnm, hfr, hlo, hcs, hsl, hK, hP, hD, hS, hA, hl⟩ := id G
  refine va_newa (atype := .int) (ty := .int) (a0 := (N, .inl (fun _ => 0))) hx hb (hts _ hw) rfl hK.1 hP hD hS hA (fun cA => rfl) hn hN (Nat.le_of_ble_eq_true h4) (Nat.le_trans (Nat.le_of_ble_eq_true hc1) hcs) (Nat.le_trans (Nat.le_of_ble_eq_true hs1) hsl) hd (fun q cA H1 hK1 hP1 hD1 hS1 => ?_)
  have h1 : s.vm.findClass ("[" ++ FieldType.int.toString) = some cA := (hK1.2 3 _ rfl).2
  have h2 : s.vm.findClass ("[" ++ FieldType.int.toString) = some (cK 0) := (hK.1.2 0 _ rfl).2
  have e1 : cA = cK 0 := Option.some.inj (h1.symm.trans h2)
  subst e1
  exact k q p l e R s m args below meth c H1 locs A ls Z ⟨hx, hb, hml, hown, hts, hnm, hfr, hlo, hcs, hsl, hK, hP1, hD1, hS1, hA, hl⟩ RC
theorem bb_newq1 {D : va_G} {cK : Nat → ClassId} {M : ab_Me} {nm : String} {d mc ms cs sl pc pc2 : Nat} {L : List (Option Value)} {st : List Value} {ws : va_W} {X : bb_CX} {n : Int32} {N idx : Nat} (hp : pc + 3 = pc2) (hd : decode M.2.1 pc = .ok (.anewarray idx, 3)) (hw : Cond.classLink M.1 idx RX2 ∈ ab_T) (hn : ¬ n < 0) (hN : n.toNatClampNeg = N) (h4 : Nat.ble (N * 4) 536870912 = true) (hc1 : Nat.ble (cs + 1) mc = true) (hs1 : Nat.ble (sl + N) ms = true) (k : ∀ q : Nat, bb_E D cK M nm d mc ms (cs + 1) (sl + N) pc2 L (.ref q :: st) (ws ++ [(q, .inl (cK 1, N, .inr (.inr (.inr (.inr (fun _ => none))))))]) X) : bb_E D cK M nm d mc ms cs sl pc L (.int n :: st) (ws) X := by
  subst hp
  intro p l e R s m args below meth c H locs A ls Z G RC
  obtain ⟨hx, hb, hml, hown, hts, hnm, hfr, hlo, hcs, hsl, hK, hP, hD, hS, hA, hl⟩ := id G
  refine va_newq hx hb hown (hts _ hw) hK.2.2.1.1 hK.1 hP hD hS hA hn hN (Nat.le_of_ble_eq_true h4) (Nat.le_trans (Nat.le_of_ble_eq_true hc1) hcs) (Nat.le_trans (Nat.le_of_ble_eq_true hs1) hsl) hd (fun q cA H1 hK1 hP1 hD1 hS1 => ?_)
  obtain ⟨kA, comp, -, -, -, h1⟩ := (hK1.2 3 _ rfl).2
  obtain ⟨kA2, comp2, -, -, -, h2⟩ := (hK.1.2 1 _ rfl).2
  have e1 : cA = cK 1 := Option.some.inj (h1.symm.trans h2)
  subst e1
  exact k q p l e R s m args below meth c H1 locs A ls Z ⟨hx, hb, hml, hown, hts, hnm, hfr, hlo, hcs, hsl, hK, hP1, hD1, hS1, hA, hl⟩ RC
theorem bb_newq2 {D : va_G} {cK : Nat → ClassId} {M : ab_Me} {nm : String} {d mc ms cs sl pc pc2 : Nat} {L : List (Option Value)} {st : List Value} {ws : va_W} {X : bb_CX} {n : Int32} {N idx : Nat} (hp : pc + 3 = pc2) (hd : decode M.2.1 pc = .ok (.anewarray idx, 3)) (hw : Cond.classLink M.1 idx RX6 ∈ ab_T) (hn : ¬ n < 0) (hN : n.toNatClampNeg = N) (h4 : Nat.ble (N * 4) 536870912 = true) (hc1 : Nat.ble (cs + 1) mc = true) (hs1 : Nat.ble (sl + N) ms = true) (k : ∀ q : Nat, bb_E D cK M nm d mc ms (cs + 1) (sl + N) pc2 L (.ref q :: st) (ws ++ [(q, .inl (cK 2, N, .inr (.inr (.inr (.inr (fun _ => none))))))]) X) : bb_E D cK M nm d mc ms cs sl pc L (.int n :: st) (ws) X := by
  subst hp
  intro p l e R s m args below meth c H locs A ls Z G RC
  obtain ⟨hx, hb, hml, hown, hts, hnm, hfr, hlo, hcs, hsl, hK, hP, hD, hS, hA, hl⟩ := id G
  refine va_newq hx hb hown (hts _ hw) hK.2.2.1.2 hK.1 hP hD hS hA hn hN (Nat.le_of_ble_eq_true h4) (Nat.le_trans (Nat.le_of_ble_eq_true hc1) hcs) (Nat.le_trans (Nat.le_of_ble_eq_true hs1) hsl) hd (fun q cA H1 hK1 hP1 hD1 hS1 => ?_)
  obtain ⟨kA, comp, -, -, -, h1⟩ := (hK1.2 3 _ rfl).2
  obtain ⟨kA2, comp2, -, -, -, h2⟩ := (hK.1.2 2 _ rfl).2
  have e1 : cA = cK 2 := Option.some.inj (h1.symm.trans h2)
  subst e1
  exact k q p l e R s m args below meth c H1 locs A ls Z ⟨hx, hb, hml, hown, hts, hnm, hfr, hlo, hcs, hsl, hK, hP1, hD1, hS1, hA, hl⟩ RC
theorem bb_get {D : va_G} {cK : Nat → ClassId} {M : ab_Me} {nm : String} {d mc ms cs sl pc pc2 : Nat} {L : List (Option Value)} {st : List Value} {ws : va_W} {X : bb_CX} (q0 ci k0 : Nat) {idx a : Nat} {ir : Bool} {F : String × String × String × Bool} {fs : List Value} {v : Value} (hp : pc + 3 = pc2) (hd : decode M.2.1 pc = .ok (.getfield idx, 3)) (he : ws[q0]? = some (a, .inr (ci, fs))) (hF : ab_FF ci k0 ir F) (hw : Cond.fieldLink M.1 idx F.1 F.2.1 F.2.2.1 ∈ ab_T) (hv : fs[k0]? = some v) (kk : bb_E D cK M nm d mc ms cs sl pc2 L (v :: st) (ws) X) : bb_E D cK M nm d mc ms cs sl pc L (.ref a :: st) (ws) X := by
  subst hp
  obtain ⟨C, T, N, ty, hc, hin, hty, hnm0, hnf, hk, hir, hT⟩ := hF
  intro p l e R s m args below meth c H locs A ls Z G RC
  obtain ⟨hx, hb, hml, hown, hts, hnm, hfr, hlo, hcs, hsl, hK, hP, hD, hS, hA, hl⟩ := id G
  exact va_get (ref := F.1) (index := idx) hx hb hts hin hown hK.1 hP q0 he hc k0 hk (by rw [hT]; exact hts _ hw) (by rw [hT]; exact fun x h => h) hv hd (kk p l e R s m args below meth c H locs A ls Z G RC)
theorem bb_putF {D : va_G} {cK : Nat → ClassId} {M : ab_Me} {nm : String} {d mc ms cs sl pc pc2 : Nat} {L : List (Option Value)} {st : List Value} {ws : va_W} {X : bb_CX} (q0 ci k0 : Nat) {idx a : Nat} {ir : Bool} {F : String × String × String × Bool} {fs : List Value} {ft : FieldType} {v : Value} {ws2 : va_W} (hp : pc + 3 = pc2) (hd : decode M.2.1 pc = .ok (.putfield idx, 3)) (he : ws[q0]? = some (a, .inr (ci, fs))) (hF : ab_FF ci k0 ir F) (hw : Cond.fieldLink M.1 idx F.1 F.2.1 F.2.2.1 ∈ ab_T) (hfin : F.2.2.2 = true) (hin : nm = "<init>") (ho : F.1 = M.1) (hft : parseFieldDescriptor F.2.2.1 = some ft) (hn : narrow ft v = v) (hfit : fits ft v = true) (hl0 : k0 < fs.length) (hw2 : ws.set q0 (a, .inr (ci, fs.set k0 v)) = ws2) (kk : bb_E D cK M nm d mc ms cs sl pc2 L (st) (ws2) X) : bb_E D cK M nm d mc ms cs sl pc L (v :: .ref a :: st) (ws) X := by
  subst hp; subst hw2
  obtain ⟨C, T, N, ty, hc, hin0, hty, hnm0, hnf, hk, hir, hT⟩ := hF
  intro p l e R s m args below meth c H locs A ls Z G RC
  obtain ⟨hx, hb, hml, hown, hts, hnm, hfr, hlo, hcs, hsl, hK, hP, hD, hS, hA, hl⟩ := id G
  refine va_putF (ref := F.1) (index := idx) (ty := ft) (v := v) hx hb hts hin0 ty hty hnm0 hown hK.1 hP hD hS q0 he hc k0 hk (by rw [hT]; exact hts _ hw) (by rw [hT]; exact fun x h => h) (by rw [hT]; exact hfin) (hnm.trans hin) (by rw [hT]; exact ho) (by rw [hT]; exact hft) hn hfit hl0 hd (fun H1 locs1 hP1 hD1 hS1 => ?_)
  exact kk p l e R s m args below meth c H1 locs1 A ls Z ⟨hx, hb, hml, hown, hts, hnm, hfr, hlo, hcs, hsl, hK, hP1, hD1, hS1, hA, hl⟩ RC
theorem bb_put {D : va_G} {cK : Nat → ClassId} {M : ab_Me} {nm : String} {d mc ms cs sl pc pc2 : Nat} {L : List (Option Value)} {st : List Value} {ws : va_W} {X : bb_CX} (q0 ci k0 : Nat) {idx a : Nat} {ir : Bool} {F : String × String × String × Bool} {fs : List Value} {ft : FieldType} {v : Value} {ws2 : va_W} (hp : pc + 3 = pc2) (hd : decode M.2.1 pc = .ok (.putfield idx, 3)) (he : ws[q0]? = some (a, .inr (ci, fs))) (hF : ab_FF ci k0 ir F) (hw : Cond.fieldLink M.1 idx F.1 F.2.1 F.2.2.1 ∈ ab_T) (hfin : F.2.2.2 = false) (hft : parseFieldDescriptor F.2.2.1 = some ft) (hn : narrow ft v = v) (hfit : fits ft v = true) (hl0 : k0 < fs.length) (hw2 : ws.set q0 (a, .inr (ci, fs.set k0 v)) = ws2) (kk : bb_E D cK M nm d mc ms cs sl pc2 L (st) (ws2) X) : bb_E D cK M nm d mc ms cs sl pc L (v :: .ref a :: st) (ws) X := by
  subst hp; subst hw2
  obtain ⟨C, T, N, ty, hc, hin0, hty, hnm0, hnf, hk, hir, hT⟩ := hF
  intro p l e R s m args below meth c H locs A ls Z G RC
  obtain ⟨hx, hb, hml, hown, hts, hnm, hfr, hlo, hcs, hsl, hK, hP, hD, hS, hA, hl⟩ := id G
  refine va_put (ref := F.1) (index := idx) (ty := ft) (v := v) hx hb hts hin0 ty hty hnm0 hown hK.1 hP hD hS q0 he hc k0 hk (by rw [hT]; exact hts _ hw) (by rw [hT]; exact fun x h => h) (by rw [hT]; exact hfin) (by rw [hT]; exact hft) hn hfit hl0 hd (fun H1 locs1 hP1 hD1 hS1 => ?_)
  exact kk p l e R s m args below meth c H1 locs1 A ls Z ⟨hx, hb, hml, hown, hts, hnm, hfr, hlo, hcs, hsl, hK, hP1, hD1, hS1, hA, hl⟩ RC
theorem bb_iast {D : va_G} {cK : Nat → ClassId} {M : ab_Me} {nm : String} {d mc ms cs sl pc pc2 : Nat} {L : List (Option Value)} {st : List Value} {ws : va_W} {X : bb_CX} (q0 : Nat) {a n : Nat} {f : Nat → Int32} {i x : Int32} {ws2 : va_W} (hp : pc + 1 = pc2) (hd : decode M.2.1 pc = .ok (.iastore, 1)) (he : ws[q0]? = some (a, .inl (cK 0, n, .inl f))) (hin : ab_ib i n = true) (hw2 : ws.set q0 (a, .inl (cK 0, n, .inl (upd f i.toNatClampNeg x))) = ws2) (kk : bb_E D cK M nm d mc ms cs sl pc2 L (st) (ws2) X) : bb_E D cK M nm d mc ms cs sl pc L (.int x :: .int i :: .ref a :: st) (ws) X := by
  subst hp; subst hw2
  intro p l e R s m args below meth c H locs A ls Z G RC
  obtain ⟨hx, hb, hml, hown, hts, hnm, hfr, hlo, hcs, hsl, hK, hP, hD, hS, hA, hl⟩ := id G
  refine va_iast hx hb hK.1 hP hD hS q0 0 he rfl (ab_ib_in hin) hd (fun H1 locs1 hP1 hD1 hS1 => ?_)
  exact kk p l e R s m args below meth c H1 locs1 A ls Z ⟨hx, hb, hml, hown, hts, hnm, hfr, hlo, hcs, hsl, hK, hP1, hD1, hS1, hA, hl⟩ RC
theorem bb_aast1 {D : va_G} {cK : Nat → ClassId} {M : ab_Me} {nm : String} {d mc ms cs sl pc pc2 : Nat} {L : List (Option Value)} {st : List Value} {ws : va_W} {X : bb_CX} (q0 q1 ci : Nat) {a n v N : Nat} {C0 : String} {T : u_T} {fs : List Value} {g : Nat → Option Nat} {i : Int32} {ws2 : va_W} (hp : pc + 1 = pc2) (hd : decode M.2.1 pc = .ok (.aastore, 1)) (he : ws[q0]? = some (a, .inl (cK 1, n, .inr (.inr (.inr (.inr g)))))) (hv : ws[q1]? = some (v, .inr (ci, fs))) (hc : vwCl[ci]? = some (C0, T, N)) (hcs0 : C0 = RX2 ∨ (C0, RX2) ∈ bb_cg) (hin : ab_ib i n = true) (hw2 : ws.set q0 (a, .inl (cK 1, n, .inr (.inr (.inr (.inr (va_up g i.toNatClampNeg (some v))))))) = ws2) (kk : bb_E D cK M nm d mc ms cs sl pc2 L (st) (ws2) X) : bb_E D cK M nm d mc ms cs sl pc L (.ref v :: .int i :: .ref a :: st) (ws) X := by
  subst hp; subst hw2
  intro p l e R s m args below meth c H locs A ls Z G RC
  obtain ⟨hx, hb, hml, hown, hts, hnm, hfr, hlo, hcs, hsl, hK, hP, hD, hS, hA, hl⟩ := id G
  have hany : va_Any RX2 s H v := va_rAny hK.1 hP hv hc (fun comp c0 h1 h2 => by
    rcases hcs0 with e1 | e1
    · subst e1
      cases h1.symm.trans h2
      exact va_asg _ _
    · obtain ⟨c1, t1, f1, f2, f3⟩ := Cond.castable_spec (va_Nw.use (A := args) rfl (hK.2.2.2 _ e1))
      cases h1.symm.trans f2
      cases h2.symm.trans f1
      exact f3)
  refine va_astqM hx hb hK.1 hP hD hS q0 1 he rfl hany (ab_ib_in hin) hd (fun H1 locs1 hP1 hD1 hS1 => ?_)
  exact kk p l e R s m args below meth c H1 locs1 A ls Z ⟨hx, hb, hml, hown, hts, hnm, hfr, hlo, hcs, hsl, hK, hP1, hD1, hS1, hA, hl⟩ RC
theorem bb_aast2 {D : va_G} {cK : Nat → ClassId} {M : ab_Me} {nm : String} {d mc ms cs sl pc pc2 : Nat} {L : List (Option Value)} {st : List Value} {ws : va_W} {X : bb_CX} (q0 q1 ci : Nat) {a n v N : Nat} {C0 : String} {T : u_T} {fs : List Value} {g : Nat → Option Nat} {i : Int32} {ws2 : va_W} (hp : pc + 1 = pc2) (hd : decode M.2.1 pc = .ok (.aastore, 1)) (he : ws[q0]? = some (a, .inl (cK 2, n, .inr (.inr (.inr (.inr g)))))) (hv : ws[q1]? = some (v, .inr (ci, fs))) (hc : vwCl[ci]? = some (C0, T, N)) (hcs0 : C0 = RX6 ∨ (C0, RX6) ∈ bb_cg) (hin : ab_ib i n = true) (hw2 : ws.set q0 (a, .inl (cK 2, n, .inr (.inr (.inr (.inr (va_up g i.toNatClampNeg (some v))))))) = ws2) (kk : bb_E D cK M nm d mc ms cs sl pc2 L (st) (ws2) X) : bb_E D cK M nm d mc ms cs sl pc L (.ref v :: .int i :: .ref a :: st) (ws) X := by
  subst hp; subst hw2
  intro p l e R s m args below meth c H locs A ls Z G RC
  obtain ⟨hx, hb, hml, hown, hts, hnm, hfr, hlo, hcs, hsl, hK, hP, hD, hS, hA, hl⟩ := id G
  have hany : va_Any RX6 s H v := va_rAny hK.1 hP hv hc (fun comp c0 h1 h2 => by
    rcases hcs0 with e1 | e1
    · subst e1
      cases h1.symm.trans h2
      exact va_asg _ _
    · obtain ⟨c1, t1, f1, f2, f3⟩ := Cond.castable_spec (va_Nw.use (A := args) rfl (hK.2.2.2 _ e1))
      cases h1.symm.trans f2
      cases h2.symm.trans f1
      exact f3)
  refine va_astqM hx hb hK.1 hP hD hS q0 2 he rfl hany (ab_ib_in hin) hd (fun H1 locs1 hP1 hD1 hS1 => ?_)
  exact kk p l e R s m args below meth c H1 locs1 A ls Z ⟨hx, hb, hml, hown, hts, hnm, hfr, hlo, hcs, hsl, hK, hP1, hD1, hS1, hA, hl⟩ RC
theorem bb_oinit {D : va_G} {cK : Nat → ClassId} {M : ab_Me} {nm : String} {d mc ms cs sl pc pc2 : Nat} {L : List (Option Value)} {st : List Value} {ws : va_W} {X : bb_CX} {idx a : Nat} (hp : pc + 3 = pc2) (hd : decode M.2.1 pc = .ok (.invokespecial idx, 3)) (hw1 : Cond.methodLink M.1 idx Lib.objectInit ∈ ab_T) (hw2 : Cond.instanceMethod Lib.objectInit ∈ ab_T) (hw3 : Cond.code Lib.objectInit ⟨#[0xb1]⟩ 1 none ∈ ab_T) (hd1 : Nat.ble 1 d = true) (hWr : Nat.ble (st.map fun v => v.category).sum 8 = true) (k : bb_E D cK M nm d mc ms cs sl pc2 L (st) (ws) X) : bb_E D cK M nm d mc ms cs sl pc L (.ref a :: st) (ws) X := by
  subst hp
  intro p l e R s m args below meth c H locs A ls Z G RC
  obtain ⟨hx, hb, hml, hown, hts, hnm, hfr, hlo, hcs, hsl, hK, hP, hD, hS, hA, hl⟩ := id G
  have h1 := Nat.le_of_ble_eq_true hd1
  have h2 := Nat.le_of_ble_eq_true hWr
  exact W.objInit hx hb hown (hts _ hw1) (hts _ hw2) (hts _ hw3) (g := F0 m pc ls (.ref a :: st)) rfl (hl.1.trans hml.symm) rfl hd (Nat.le_trans h1 hfr) (by show 2 * 0 + _ + 12 ≤ _; omega) (k p l e R s m args below meth c H locs A ls Z G RC)
def bb_Pre (D : va_G) (cK : Nat → ClassId) (ws : va_W) (sz : Nat) (U : State) : Prop := U.heap.size = sz ∧ bb_K D cK U ∧ va_P D vwCl ws U.heap ∧ va_D (fun _ => True) ws
def bb_Qc (Q : va_W → Prop) (D : va_G) (A : Nat → Prop) : Array Value → State → Outcome → State → Prop := fun _ st oc t => (∃ ws : va_W, oc = .returned none ∧ Q ws ∧ va_P D vwCl ws t.heap ∧ va_D A ws) ∧ va_F A st t
theorem ab_tv_id (v : Value) : ab_tv id v = v := by cases v <;> rfl
theorem bb_met {M : ab_Me} {y : MethodName} {d mc ms : Nat} {D : va_G} {cK : Nat → ClassId} {ws : va_W} {Q : va_W → Prop} (l : Launch) (sz : Nat) (vs : List Value) (L : List (Option Value)) (hy : plainFor y = true) (hM : M.1 = y.cls) (hr : M.2.2.2 = none) (hL : ab_lv id 0 L = lv_args 0 vs) (hn : (lg_sl vs).length ≤ M.2.2.1) (hE : bb_E D cK M y.name d mc ms 0 0 0 L [] ws (bb_Rt D cK M y.name d mc ms Q)) :
    Met l y (Cond.code y M.2.1 M.2.2.1 M.2.2.2 :: ab_T) ({ frames := d, cells := mc, slots := ms, locals := 40 * d }) (va_Pc vs (bb_Pre D cK ws sz)) (bb_Qc Q D (va_A ws sz)) mc ms (va_A ws sz) := by
  refine va_MetF (cc := M.2.1) (maxL := M.2.2.1) (ret := M.2.2.2) hy rfl ?_
  intro p e s m args below meth c s₁ B hml hv
  obtain ⟨rfl, hsz, hK, hP, hD0⟩ := hv
  have hts := atoms_spec (ws := Cond.code y M.2.1 M.2.2.1 M.2.2.2 :: ab_T) B.pre
  have hown : s.vm.findClass M.1 = some m.cls := by rw [hM]; exact findClass_of_methodNamed B.named
  have hnm : meth.name = y.name := (name_of_methodNamed B.named B.method).1
  subst hsz
  have hD := hD0.self (sz := s.heap.size)
  have hl := lv_entry vs (n := M.2.2.1) hn
  rw [lg_entry_eq]
  generalize (lg_sl vs ++ List.replicate (M.2.2.1 - (lg_sl vs).length) Slot.unset).toArray = ls at hl ⊢
  refine hE p l e _ s m _ below meth c s.heap [] (va_A ws s.heap.size) ls _ ⟨B.exec, B.bytes, hml, hown, fun w h => hts w (List.mem_cons_of_mem _ h), hnm, Nat.le_refl _, Nat.le_refl _, Nat.le_refl _, Nat.le_refl _, hK, hP, hD, va_S.rf, fun q h => Or.inr h, by rw [hL]; exact hl⟩ ?_
  intro ws' H locs cs sl pc ls L' hq G h1 h2 hd
  obtain ⟨hx, hb, hml, hown, hts, hnm, hfr, hlo, hcs, hsl, hK, hP, hD, hS, hA, hl⟩ := G
  refine W.widen h1 h2 ?_
  exact W.vret hx hb (B.returns.trans hr) (fun t ht _ => ⟨⟨ws', rfl, hq, by rw [ht]; exact hP, hD⟩, hS.F ht⟩) hS.2.2 hd (hlocks := B.notSynchronized)
theorem bb_init {D : va_G} {cK : Nat → ClassId} {M : ab_Me} {nm : String} {d mc ms cs sl pc pc2 : Nat} {L : List (Option Value)} {st : List Value} {ws : va_W} {X : bb_CX} {M1 : ab_Me} {d1 mc1 ms1 idx o : Nat} {Q1 : va_W → Prop} {y : MethodName} {st0 : List Value} (vs : List Value) (L1 : List (Option Value)) (hp : pc + 3 = pc2) (hst : vs.reverse ++ .ref o :: st = st0) (hd : decode M.2.1 pc = .ok (.invokespecial idx, 3)) (hok : ab_Ok M1 y vs.length) (hr : M1.2.2.2 = none) (hyi : y.name = "<init>") (hL : ab_lv id 0 L1 = lv_args 0 (.ref o :: vs)) (hn : Nat.ble (lg_sl (.ref o :: vs)).length M1.2.2.1 = true) (hd1 : Nat.ble (d1 + 1) d = true) (hw1 : Cond.methodLink M.1 idx y ∈ ab_T) (hwi : Cond.instanceMethod y ∈ ab_T) (hWr : Nat.ble (st.map fun v => v.category).sum 8 = true) (hc1 : Nat.ble (cs + mc1) mc = true) (hs1 : Nat.ble (sl + ms1) ms = true) (hE : bb_E D cK M1 "<init>" d1 mc1 ms1 0 0 0 L1 [] ws (bb_Rt D cK M1 "<init>" d1 mc1 ms1 Q1)) (k : ∀ ws' : va_W, Q1 ws' → bb_E D cK M nm d mc ms (cs + mc1) (sl + ms1) pc2 L (st) (ws') X) : bb_E D cK M nm d mc ms cs sl pc L (st0) (ws) X := by
  subst hp; subst hst
  obtain ⟨hy, hM1, hmx, hc, hini, hy1, hy2, hyn⟩ := hok
  have hc2 : Cond.code y M1.2.1 M1.2.2.1 none ∈ ab_T := by rw [← hr]; exact hc
  intro p l e R s m args below meth c H locs A ls Z G RC
  obtain ⟨hx, hb, hml, hown, hts, hnm, hfr, hlo, hcs, hsl, hK, hP, hD, hS, hA, hl⟩ := id G
  have hm0 := bb_met (d := d1) (mc := mc1) (ms := ms1) (D := D) (cK := cK) l H.size (.ref o :: vs) L1 hy hM1 hr hL (Nat.le_of_ble_eq_true hn) (by rw [hyi]; exact hE)
  have hm : Met l y (Cond.code y M1.2.1 M1.2.2.1 none :: ab_T) ({ frames := d1, cells := mc1, slots := ms1, locals := 40 * d1 }) (va_Pc (.ref o :: vs) (bb_Pre D cK ws H.size)) (bb_Qc Q1 D (va_A ws H.size)) mc1 ms1 (va_A ws H.size) := by rw [← hr]; exact hm0
  have hF : ∀ q, va_A ws H.size q → A q := by
    intro q h
    rcases h with ⟨k, e, h⟩ | h
    · exact hD.2 k _ h
    · exact hA q (Nat.le_trans hS.1 h)
  have hpre : PreS s H (va_Pc (.ref o :: vs) (bb_Pre D cK ws H.size)) (.ref o :: vs) := ⟨fun a U g mk q => ⟨q.1, q.2.1, q.2.2.1.same rfl, q.2.2.2.1, q.2.2.2.2⟩, fun U hU hW => ⟨rfl, by rw [hU], hK.warm hW, by rw [hU]; exact hP, hD.weaken (fun _ _ _ _ => trivial)⟩⟩
  have hrun := va_runI (cells := cs) (slots := sl) (locs := locs) (e := e) (R := R) (below := below) (meth := meth) (n := vs.length) (index := idx) (b := o) (bytes := M1.2.1) (maxL := M1.2.2.1) (As := vs) (rest := st) (g := F0 m pc ls (vs.reverse ++ .ref o :: st)) ⟨hx, hb, hml, hown, hts⟩ hm (cwI vs.length hts (ab_gi0 hc2) rfl rfl rfl (hts _ hini) (hts _ hw1) (hts _ hwi) hyi ⟨hy1, hy2, hyn⟩ ⟨Nat.le_trans (Nat.le_of_ble_eq_true hd1) hfr, by show 8 + (M1.2.2.1 + 11) + 40 * d1 ≤ R.locals; have := Nat.le_of_ble_eq_true hd1; omega⟩) hpre rfl rfl hl.1 rfl (lv_room (Nat.le_of_ble_eq_true hWr)) hd ⟨Nat.le_trans (Nat.le_of_ble_eq_true hc1) hcs, Nat.le_trans (Nat.le_of_ble_eq_true hs1) hsl⟩
  intro T hT X0
  obtain ⟨v, st₀, t, T', Lc, h0, X', hLc, e1, e2, ⟨⟨w, hv, hq, hP', hD'⟩, hz, hk⟩, stp⟩ := hrun T hT X0
  cases hv
  rw [h0] at hz hk
  obtain ⟨t2, a1, b1⟩ := k w hq p l e R s m args below meth c T'.heap (locs ++ Lc) A ls Z ⟨hx, hb, hml, hown, hts, hnm, hfr, hlo, hcs, hsl, hK, by rw [e1]; exact hP', hD'.weaken (fun _ _ _ h => hF _ h), ⟨Nat.le_trans hS.1 (by rw [e1]; exact hz), fun q h1 h2 => by rw [e1, hk q (Nat.lt_of_lt_of_le h1 hS.1) (fun z => h2 (hF q z))]; exact hS.2.1 q h1 h2, fun q hq => by
      rcases List.mem_append.mp hq with h | h
      · exact hS.2.2 q h
      · exact hF _ (hLc q h)⟩, hA, hl⟩ RC T' rfl X'
  exact ⟨t2, stp t2 a1, b1⟩
theorem bb_initN {D : va_G} {cK : Nat → ClassId} {M : ab_Me} {nm : String} {d mc ms cs sl pc pc2 : Nat} {L : List (Option Value)} {st : List Value} {ws : va_W} {X : bb_CX} {M1 : ab_Me} {d1 mc1 ms1 idx o : Nat} {Q1 : va_W → Prop} {y : MethodName} {st0 : List Value} (vs : List Value) (L1 : List (Option Value)) (hp : pc + 3 = pc2) (hst : vs.reverse ++ .ref o :: st = st0) (hd : decode M.2.1 pc = .ok (.invokespecial idx, 3)) (hok : ab_Ok M1 y vs.length) (hr : M1.2.2.2 = none) (hyi : y.name = "<init>") (hL : ab_lv id 0 L1 = lv_args 0 (.ref o :: vs)) (hn : Nat.ble (lg_sl (.ref o :: vs)).length M1.2.2.1 = true) (hd1 : Nat.ble (d1 + 1) d = true) {host : String} (hw1 : (M.1, idx, y, host) ∈ bb_nl) (hwi : Cond.instanceMethod y ∈ ab_T) (hWr : Nat.ble (st.map fun v => v.category).sum 8 = true) (hc1 : Nat.ble (cs + mc1) mc = true) (hs1 : Nat.ble (sl + ms1) ms = true) (hE : bb_E D cK M1 "<init>" d1 mc1 ms1 0 0 0 L1 [] ws (bb_Rt D cK M1 "<init>" d1 mc1 ms1 Q1)) (k : ∀ ws' : va_W, Q1 ws' → bb_E D cK M nm d mc ms (cs + mc1) (sl + ms1) pc2 L (st) (ws') X) : bb_E D cK M nm d mc ms cs sl pc L (st0) (ws) X := by
  subst hp; subst hst
  obtain ⟨hy, hM1, hmx, hc, hini, hy1, hy2, hyn⟩ := hok
  have hc2 : Cond.code y M1.2.1 M1.2.2.1 none ∈ ab_T := by rw [← hr]; exact hc
  intro p l e R s m args below meth c H locs A ls Z G RC
  obtain ⟨hx, hb, hml, hown, hts, hnm, hfr, hlo, hcs, hsl, hK, hP, hD, hS, hA, hl⟩ := id G
  have hm0 := bb_met (d := d1) (mc := mc1) (ms := ms1) (D := D) (cK := cK) l H.size (.ref o :: vs) L1 hy hM1 hr hL (Nat.le_of_ble_eq_true hn) (by rw [hyi]; exact hE)
  have hm : Met l y (Cond.code y M1.2.1 M1.2.2.1 none :: ab_T) ({ frames := d1, cells := mc1, slots := ms1, locals := 40 * d1 }) (va_Pc (.ref o :: vs) (bb_Pre D cK ws H.size)) (bb_Qc Q1 D (va_A ws H.size)) mc1 ms1 (va_A ws H.size) := by rw [← hr]; exact hm0
  have hF : ∀ q, va_A ws H.size q → A q := by
    intro q h
    rcases h with ⟨k, e, h⟩ | h
    · exact hD.2 k _ h
    · exact hA q (Nat.le_trans hS.1 h)
  have hpre : PreS s H (va_Pc (.ref o :: vs) (bb_Pre D cK ws H.size)) (.ref o :: vs) := ⟨fun a U g mk q => ⟨q.1, q.2.1, q.2.2.1.same rfl, q.2.2.2.1, q.2.2.2.2⟩, fun U hU hW => ⟨rfl, by rw [hU], hK.warm hW, by rw [hU]; exact hP, hD.weaken (fun _ _ _ _ => trivial)⟩⟩
  have hrun := va_runIN (host := host) (cells := cs) (slots := sl) (locs := locs) (e := e) (R := R) (below := below) (meth := meth) (n := vs.length) (index := idx) (b := o) (bytes := M1.2.1) (maxL := M1.2.2.1) (As := vs) (rest := st) (g := F0 m pc ls (vs.reverse ++ .ref o :: st)) ⟨hx, hb, hml, hown, hts⟩ hm ⟨va_cnB vs.length hts (ab_gi0 hc2) rfl rfl rfl (hK.2.1 _ hw1) (hts _ hini) ⟨hy1, hy2, hyn⟩ ⟨Nat.le_trans (Nat.le_of_ble_eq_true hd1) hfr, by show 8 + (M1.2.2.1 + 11) + 40 * d1 ≤ R.locals; have := Nat.le_of_ble_eq_true hd1; omega⟩, hyi, hts _ hwi⟩ hpre rfl rfl hl.1 rfl (lv_room (Nat.le_of_ble_eq_true hWr)) hd ⟨Nat.le_trans (Nat.le_of_ble_eq_true hc1) hcs, Nat.le_trans (Nat.le_of_ble_eq_true hs1) hsl⟩
  intro T hT X0
  obtain ⟨v, st₀, t, T', Lc, h0, X', hLc, e1, e2, ⟨⟨w, hv, hq, hP', hD'⟩, hz, hk⟩, stp⟩ := hrun T hT X0
  cases hv
  rw [h0] at hz hk
  obtain ⟨t2, a1, b1⟩ := k w hq p l e R s m args below meth c T'.heap (locs ++ Lc) A ls Z ⟨hx, hb, hml, hown, hts, hnm, hfr, hlo, hcs, hsl, hK, by rw [e1]; exact hP', hD'.weaken (fun _ _ _ h => hF _ h), ⟨Nat.le_trans hS.1 (by rw [e1]; exact hz), fun q h1 h2 => by rw [e1, hk q (Nat.lt_of_lt_of_le h1 hS.1) (fun z => h2 (hF q z))]; exact hS.2.1 q h1 h2, fun q hq => by
      rcases List.mem_append.mp hq with h | h
      · exact hS.2.2 q h
      · exact hF _ (hLc q h)⟩, hA, hl⟩ RC T' rfl X'
  exact ⟨t2, stp t2 a1, b1⟩
/-! lists: an object at its place, and what came behind -/
theorem bb_self {ws0 : va_W} {k : Nat} {x : Nat × va_E} (h : ws0[k]? = some x) : ws0 = ws0.set k x ++ [] := by
  rw [List.append_nil]
  apply List.ext_getElem?
  intro i
  by_cases hi : i = k
  · subst hi
    rw [List.getElem?_set_self (List.getElem?_eq_some_iff.mp h).1, h]
  · rw [List.getElem?_set_ne (Ne.symm hi)]
theorem bb_gk {ws0 news : va_W} {k : Nat} {x x0 : Nat × va_E} (h : ws0[k]? = some x0) : (ws0.set k x ++ news)[k]? = some x := by
  have hl := (List.getElem?_eq_some_iff.mp h).1
  rw [List.getElem?_append_left (by rw [List.length_set]; exact hl), List.getElem?_set_self hl]
theorem bb_sk {ws0 news : va_W} {k : Nat} {x y x0 : Nat × va_E} (h : ws0[k]? = some x0) : (ws0.set k x ++ news).set k y = ws0.set k y ++ news := by
  have hl := (List.getElem?_eq_some_iff.mp h).1
  rw [List.set_append_left _ _ (by rw [List.length_set]; exact hl), List.set_set]
theorem bb_gn {ws0 news : va_W} {k j : Nat} {x : Nat × va_E} : (ws0.set k x ++ news)[ws0.length + j]? = news[j]? := by
  rw [List.getElem?_append_right (by rw [List.length_set]; omega), List.length_set, show ws0.length + j - ws0.length = j by omega]
theorem bb_sn {ws0 news : va_W} {k j : Nat} {x y : Nat × va_E} : (ws0.set k x ++ news).set (ws0.length + j) y = ws0.set k x ++ news.set j y := by
  rw [List.set_append_right _ _ (by rw [List.length_set]; omega), List.length_set, show ws0.length + j - ws0.length = j by omega]
theorem bb_nn {ws0 news more : va_W} {k : Nat} {x : Nat × va_E} : (ws0.set k x ++ news) ++ more = ws0.set k x ++ (news ++ more) := List.append_assoc _ _ _
