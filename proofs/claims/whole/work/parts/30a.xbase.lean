-- THE THROWS OF THE CLASS: what a throw asks beside the tables' steady words (the rows vx_ are those of the printed names)
def vx_L (C n d : String) (A : Nat → Prop) (U : State) (H : Heap) : Prop := ∃ (c : ClassId) (k : Class) (i : Nat) (f : Field) (a : Nat) (cell : Cell), U.vm.findClass C = some c ∧ U.fieldFound? C n d = some (c, k, i, f) ∧ f.isStatic = true ∧ k.statics = some a ∧ H[a]? = some cell ∧ cell.vm.isStatics = true ∧ cell.cls = c ∧ f.slot < cell.slots.size ∧ k.staticTypes[f.slot]? = some f.type ∧ ¬ A a
theorem vx_L.moved {C n d : String} {A : Nat → Prop} {u U : State} {H : Heap} (hvm : u.vm.Alike U.vm) (h : vx_L C n d A u H) : vx_L C n d A U H := by
  obtain ⟨c, k, i, f, a, cell, h1, h2, h3, h4, h5, h6, h7, h8, h9, h10⟩ := h
  obtain ⟨k', hi', he⟩ := State.fieldFound?_setVm hvm h2
  exact ⟨c, k', i, f, a, cell, by rw [hvm.findClass]; exact h1, hi', h3, by rw [he]; exact h4, h5, h6, h7, h8, by rw [he]; exact h9, h10⟩
theorem vx_L.kept {C n d : String} {A : Nat → Prop} {U : State} {H H1 : Heap} (h : vx_L C n d A U H) (hq : ∀ a : Nat, a < H.size → ¬ A a → H1[a]? = H[a]?) : vx_L C n d A U H1 := by
  obtain ⟨c, k, i, f, a, cell, h1, h2, h3, h4, h5, h6, h7, h8, h9, h10⟩ := h
  exact ⟨c, k, i, f, a, cell, h1, h2, h3, h4, by rw [hq a (Array.getElem?_eq_some_iff.mp h5).1 h10]; exact h5, h6, h7, h8, h9, h10⟩
theorem vx_L.narrow {C n d : String} {A B : Nat → Prop} {U : State} {H : Heap} (h : vx_L C n d A U H) (hAB : ∀ q, B q → A q) : vx_L C n d B U H := by
  obtain ⟨c, k, i, f, a, cell, h1, h2, h3, h4, h5, h6, h7, h8, h9, h10⟩ := h
  exact ⟨c, k, i, f, a, cell, h1, h2, h3, h4, h5, h6, h7, h8, h9, fun z => h10 (hAB _ z)⟩
theorem vx_L.word {C n d : String} {A : Nat → Prop} {s : State} {args : Array Value} (h : vx_L C n d A s s.heap) : (Cond.laysStatic C n d).before args s = true := by
  obtain ⟨c, k, i, f, a, cell, h1, h2, h3, h4, h5, h6, h7, h8, h9, -⟩ := h
  show (Cond.laysStatic C n d).holds args s none s [] = true
  exact Cond.laysStatic_of h1 h2 h3 h4 h5 h6 h7 h8 h9
/-- .. and what it holds: null or some reference -/
def vx_Zq (C n d : String) (A : Nat → Prop) (U : State) (H : Heap) : Prop := va_Zq C n d A U H ∧ vx_L C n d A U H
theorem vx_Zq.moved {C n d : String} {A : Nat → Prop} {u U : State} {H : Heap} (hvm : u.vm.Alike U.vm) (h : vx_Zq C n d A u H) : vx_Zq C n d A U H := ⟨va_Zq.moved hvm h.1, vx_L.moved hvm h.2⟩
theorem vx_Zq.kept {C n d : String} {A : Nat → Prop} {U : State} {H H1 : Heap} (h : vx_Zq C n d A U H) (hq : ∀ a : Nat, a < H.size → ¬ A a → H1[a]? = H[a]?) : vx_Zq C n d A U H1 := ⟨va_Zq.kept h.1 hq, vx_L.kept h.2 hq⟩
theorem vx_Zq.narrow {C n d : String} {A B : Nat → Prop} {U : State} {H : Heap} (h : vx_Zq C n d A U H) (hAB : ∀ q, B q → A q) : vx_Zq C n d B U H := ⟨va_Zq.narrow h.1 hAB, vx_L.narrow h.2 hAB⟩
theorem vx_Zqof {args : Array Value} {s : State} {C n d : String} {A : Nat → Prop} (hl : (Cond.laysStatic C n d).before args s = true) (hini : (Cond.initialized C).before args s = true) (h : (Cond.isRef (.static C n d)).before args s = true) (hA : ∀ a : Nat, a < s.heap.size → ¬ A a) : vx_Zq C n d A s s.heap := by
  refine ⟨va_Zqof hl hini h hA, ?_⟩
  obtain ⟨c, k, i, f, a, cell, h1, h2, h3, h4, h5, h6, h7, h8, h9⟩ := Cond.laysStatic_spec hl
  exact ⟨c, k, i, f, a, cell, h1, h2, h3, h4, h5, h6, h7, h8, h9, hA a (Array.getElem?_eq_some_iff.mp h5).1⟩
theorem vx_isRef {C n d : String} {v : Value} {A : Nat → Prop} {s : State} {args : Array Value} (h : va_Z C n d v A s s.heap) (hv : v.isRef = true) : (Cond.isRef (.static C n d)).before args s = true := by
  obtain ⟨cf, kf, fi, f, a, cell, h1, h2, h3, h4, h5, h6, h7, -⟩ := h
  have he : (Term.static C n d).eval args s none [] s = some v := by
    simp [Term.eval, State.fieldNamed?, h1, h2, h4, h5, h6, h7]
  simp only [Cond.before, Cond.holds, Cond.value, he]
  cases v <;> simp_all [Value.isRef]
theorem vx_isRefq {C n d : String} {A : Nat → Prop} {s : State} {args : Array Value} (h : va_Zq C n d A s s.heap) : (Cond.isRef (.static C n d)).before args s = true := by
  rcases h with h | ⟨t, h⟩
  · exact vx_isRef h rfl
  · exact vx_isRef h rfl

def er_IAE : String := "java/lang/IllegalArgumentException"
def er_ISE : String := "java/lang/IllegalStateException"
def er_names : List String := ["java/lang/RuntimeException", "java/lang/Exception"]
def er_dw : List Cond := [.castable er_IAE er_IAE, .castable er_ISE er_ISE, .declares ⟨"java/lang/RuntimeException", "<init>", "()V"⟩, .declares ⟨"java/lang/RuntimeException", "<init>", "(Ljava/lang/String;)V"⟩, .declares ⟨"java/lang/Exception", "<init>", "()V"⟩, .declares ⟨"java/lang/Exception", "<init>", "(Ljava/lang/String;)V"⟩, .declares ⟨"java/lang/Throwable", "<init>", "()V"⟩, .declares ⟨"java/lang/Throwable", "<init>", "(Ljava/lang/String;)V"⟩]
def er_hw : List Cond := [.isRef (.static Bundle.tN "UNASSIGNED_STACK" Bundle.steD), .isRef (.static Bundle.tN "SUPPRESSED_SENTINEL" Bundle.listD), .laysStatic Bundle.tN "UNASSIGNED_STACK" Bundle.steD, .laysStatic Bundle.tN "SUPPRESSED_SENTINEL" Bundle.listD]
def er_strs : List (Nat × String) := [(58, "there is no such corner"), (67, "x and y must be -16384 .. 16383"), (70, "the depth must be 0 .. 2^24 - 1"), (73, "q must be 1 .. 2^23"), (100, "there is no such corner or value"), (106, "x0 and y0 must be 0 .. 1023"), (108, "wide and high must be 1 .. 64"), (110, "x and y must be -1024 .. 2047"), (118, "there is no walk"), (126, "there is no place that came last"), (142, "n must be 0 .. 27")]
set_option maxRecDepth 100000 in
theorem er_ownA : ∀ w ∈ Bundle.ownAtoms R_E 60 er_IAE er_names, w ∈ er_big ∨ w ∈ er_dw ∨ w ∈ er_hw := by decide +kernel
set_option maxRecDepth 100000 in
theorem er_ownS : ∀ w ∈ Bundle.ownAtoms R_E 120 er_ISE er_names, w ∈ er_big ∨ w ∈ er_dw ∨ w ∈ er_hw := by decide +kernel
def er_X (A : Nat → Prop) (U : State) (H : Heap) : Prop :=
  (∀ w ∈ er_dw, va_Nw w U) ∧ (∀ q ∈ er_strs, ∃ a, vk_R R_E q.1 q.2 a U) ∧ vx_Zq Bundle.tN "UNASSIGNED_STACK" Bundle.steD A U H ∧ vx_Zq Bundle.tN "SUPPRESSED_SENTINEL" Bundle.listD A U H ∧ (∀ c1 c2, U.vm.findClass er_ISE = some c1 → U.vm.findClass er_IAE = some c2 → U.vm.assignable c1 c2 = false)
theorem er_castW {a b : String} {s U : State} (hW : s.WarmedH U.vm) (h : va_Nw (.castable a b) s) : va_Nw (.castable a b) U := by
  have hal := hW.alike
  unfold va_Nw at h ⊢
  simp only [Cond.before, Cond.holds, Cond.value] at h ⊢
  simp only [hal.findClass, hal.assignable]
  exact h
theorem er_dwW {s U : State} (hW : s.WarmedH U.vm) (h : ∀ w ∈ er_dw, va_Nw w s) : ∀ w ∈ er_dw, va_Nw w U := fun w hw => by
  have q := h w hw
  simp only [er_dw, List.mem_cons, List.not_mem_nil, or_false] at hw
  rcases hw with rfl | rfl | rfl | rfl | rfl | rfl | rfl | rfl <;> first | exact er_castW hW q | exact va_Nw.warmD hW q
theorem er_X.at {A : Nat → Prop} {s : State} {H : Heap} {locs : List Loc} (h : er_X A s s.heap) (hS : va_S A s.heap H locs) {U : State} (hU : U.heap = H) (hW : s.WarmedH U.vm) : er_X (fun _ => False) U U.heap := by
  obtain ⟨h1, h2, h3, h4, h5⟩ := h
  refine ⟨er_dwW hW h1, fun q hq => ?_, ?_, ?_, ?_⟩
  · obtain ⟨a, ha⟩ := h2 q hq
    exact ⟨a, ha.warm hW⟩
  · rw [hU]; exact ((h3.kept hS.2.1).moved hW.alike).narrow (fun _ q => q.elim)
  · rw [hU]; exact ((h4.kept hS.2.1).moved hW.alike).narrow (fun _ q => q.elim)
  · rw [hW.alike.findClass, hW.alike.findClass]
    intro c1 c2 q1 q2
    rw [hW.alike.assignable]
    exact h5 c1 c2 q1 q2
theorem er_X.call {A : Nat → Prop} {U : State} {g : JFrame} {mk : MethodId} {a : Array Value} (h : er_X A U U.heap) : er_X A (U.calling g mk a) (U.calling g mk a).heap := by
  obtain ⟨h1, h2, h3, h4, h5⟩ := h
  refine ⟨fun w hw => va_Nw.same (u := U) (U := U.calling g mk a) ?_ rfl (h1 w hw), fun q hq => ?_, vx_Zq.moved (u := U) (U := U.calling g mk a) (Vm.Alike.refl U.vm) h3, vx_Zq.moved (u := U) (U := U.calling g mk a) (Vm.Alike.refl U.vm) h4, h5⟩
  · have z : er_dw.all (fun w => w.onTables) = true := by decide +kernel
    exact List.all_eq_true.mp z w hw
  · obtain ⟨b, hb⟩ := h2 q hq
    exact ⟨b, vk_R.same (u := U) (U := U.calling g mk a) rfl hb⟩
theorem er_X.words {s : State} {args : Array Value} (hts : ∀ w ∈ er_big, w.before args s = true) (h : er_X (fun _ => False) s s.heap) : ∀ w, (w ∈ er_big ∨ w ∈ er_dw ∨ w ∈ er_hw) → w.before args s = true := by
  obtain ⟨h1, h2, h3, h4, h5⟩ := h
  intro w hw
  rcases hw with hw | hw | hw
  · exact hts w hw
  · refine va_Nw.use ?_ (h1 w hw)
    have z : er_dw.all (fun w => w.onTables) = true := by decide +kernel
    exact List.all_eq_true.mp z w hw
  · simp only [er_hw, List.mem_cons, List.not_mem_nil, or_false] at hw
    rcases hw with rfl | rfl | rfl | rfl
    · exact vx_isRefq h3.1
    · exact vx_isRefq h4.1
    · exact h3.2.word
    · exact h4.2.word
def PT (dC : Nat → ClassId) (dI : Nat → Nat → Nat) (tys : List (ClassId × FieldType)) (ws : va_W) (U : State) : Prop := PP dC dI tys ws U ∧ er_X (fun _ => False) U U.heap
theorem PT.blind {av : List Value} {dC : Nat → ClassId} {dI : Nat → Nat → Nat} {tys : List (ClassId × FieldType)} {ws : va_W} : FrameBlind (va_Pc av (PT dC dI tys ws)) :=
  fun a U g mk q => ⟨q.1, (PP.blind (av := av) a U g mk ⟨q.1, q.2.1⟩).2, q.2.2.call⟩
theorem PT.at {A : Nat → Prop} {s : State} {H : Heap} {locs : List Loc} {av : List Value} {dC : Nat → ClassId} {dI : Nat → Nat → Nat} {tys : List (ClassId × FieldType)} {ws : va_W} (hN : er_N s) (hK : va_K (dC, dI) classes tys s) (hP : va_P (dC, dI) classes ws H) (hX : er_X A s s.heap) (hS : va_S A s.heap H locs) :
    ∀ U : State, U.heap = H → s.WarmedH U.vm → va_Pc av (PT dC dI tys ws) av.toArray U := fun U hU hW => ⟨rfl, (PP.at (av := av) hN hK hP U hU hW).2, hX.at hS hU hW⟩
def PX (dC : Nat → ClassId) (dI : Nat → Nat → Nat) (tys : List (ClassId × FieldType)) (ws : va_W) (sz : Nat) (U : State) : Prop := PI dC dI tys ws sz U ∧ er_X (fun _ => False) U U.heap
theorem PX.blind {av : List Value} {dC : Nat → ClassId} {dI : Nat → Nat → Nat} {tys : List (ClassId × FieldType)} {ws : va_W} {sz : Nat} : FrameBlind (va_Pc av (PX dC dI tys ws sz)) :=
  fun a U g mk q => ⟨q.1, (PI.blind (av := av) a U g mk ⟨q.1, q.2.1⟩).2, q.2.2.call⟩
theorem PX.at {A : Nat → Prop} {s : State} {H : Heap} {locs : List Loc} {av : List Value} {dC : Nat → ClassId} {dI : Nat → Nat → Nat} {tys : List (ClassId × FieldType)} {ws : va_W} {B : Nat → Prop} (hN : er_N s) (hK : va_K (dC, dI) classes tys s) (hP : va_P (dC, dI) classes ws H) (hD : va_D B ws) (hX : er_X A s s.heap) (hS : va_S A s.heap H locs) :
    ∀ U : State, U.heap = H → s.WarmedH U.vm → va_Pc av (PX dC dI tys ws H.size) av.toArray U := fun U hU hW => ⟨rfl, (PI.at (av := av) hN hK hP hD U hU hW).2, hX.at hS hU hW⟩
theorem er_h1 {L : List ExceptionTableEntry} {a b c d : Nat} {r : List (Nat × Nat × Nat × Nat)} (h : L.map (fun h => (h.startPc, h.endPc, h.handlerPc, h.catchType)) = (a, b, c, d) :: r) : ∃ (x : ExceptionTableEntry) (L' : List ExceptionTableEntry), L = x :: L' ∧ x.startPc = a ∧ x.endPc = b ∧ x.handlerPc = c ∧ x.catchType = d ∧ L'.map (fun h => (h.startPc, h.endPc, h.handlerPc, h.catchType)) = r := by
  cases L with
  | nil => simp at h
  | cons x L' =>
    simp only [List.map_cons, List.cons.injEq, Prod.mk.injEq] at h
    exact ⟨x, L', rfl, h.1.1, h.1.2.1, h.1.2.2.1, h.1.2.2.2, h.2⟩
def er_l (b : Bool) : Int64 := if b = true then 1 else 0
theorem er_l_t {b : Bool} (h : b = true) : 1 = er_l b := by rw [h]; rfl
theorem er_l_f {b : Bool} (h : b = false) : 0 = er_l b := by rw [h]; rfl
