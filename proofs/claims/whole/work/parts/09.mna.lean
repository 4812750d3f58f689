/-! AN ARRAY OF INT ARRAYS, out of the model's own words: 'multianewarray' of two dimensions. The outer array is laid, then row by row an inner one is laid and written into its place; the walk goes on standing all the way. -/
section Mna
/-- what 'arrayOver' says of int[][] -/
theorem mn_over {a : Array Value} {U : State} (h : (Cond.arrayOver (.array .int)).before a U = true) :
    ∃ (ci co : ClassId) (k : Class), U.vm.findClass "[I" = some ci ∧ (U.vm.classes.findIdx? fun (x : Class) => match x.kind with | .array component _ => component == ci | _ => false) = some co ∧ U.vm.findClass "[[I" = some co ∧ U.vm.classes[co]? = some k ∧ k.kind = .array ci (.array .int) := by
  have hv : ((U.vm.findClass "[I").bind fun comp => (U.vm.classes.findIdx? fun (x : Class) => match x.kind with | .array component _ => component == comp | _ => false).bind fun c => (U.vm.classes[c]?).map fun (k : Class) => match k.kind with
      | .array _ ty => decide (ty = FieldType.array .int) && decide (U.vm.findClass "[[I" = some c)
      | _ => false) = some true := beq_iff_eq.mp h
  obtain ⟨ci, h1, hv⟩ := Option.bind_eq_some_iff.mp hv
  obtain ⟨co, h2, hv⟩ := Option.bind_eq_some_iff.mp hv
  obtain ⟨k, h3, hv⟩ := Option.map_eq_some_iff.mp hv
  obtain ⟨hlt, hp, -⟩ := Array.findIdx?_eq_some_iff_getElem.mp h2
  rw [(Array.getElem?_eq_some_iff.mp h3).2] at hp
  cases hk : k.kind with
  | array x ty =>
    simp only [hk, Bool.and_eq_true, decide_eq_true_eq] at hv
    simp only [hk, beq_iff_eq] at hp
    exact ⟨ci, co, k, h1, h2, hv.2, h3, by rw [hk, hp, hv.1]⟩
  | _ => simp [hk] at hv
/-- it reads names and kinds alone -/
theorem mn_alike {a b : Array Value} {U V : State} (hal : U.vm.Alike V.vm) (h : (Cond.arrayOver (.array .int)).before a U = true) : (Cond.arrayOver (.array .int)).before b V = true := by
  obtain ⟨ci, co, k, h1, h2, h3, h4, h5⟩ := mn_over h
  obtain ⟨k', g4, ge⟩ := hal.2.2 _ _ h4
  have g5 : k'.kind = .array ci (.array .int) := by rw [ge]; exact h5
  have g1 : V.vm.findClass "[I" = some ci := by rw [hal.findClass]; exact h1
  have g3 : V.vm.findClass "[[I" = some co := by rw [hal.findClass]; exact h3
  have g2 : (V.vm.classes.findIdx? fun (x : Class) => match x.kind with | .array component _ => component == ci | _ => false) = some co := by rw [hal.findIdx?_eqK _ (fun _ => rfl)]; exact h2
  show (((V.vm.findClass "[I").bind fun comp => (V.vm.classes.findIdx? fun (x : Class) => match x.kind with | .array component _ => component == comp | _ => false).bind fun c => (V.vm.classes[c]?).map fun (k : Class) => match k.kind with
      | .array _ ty => decide (ty = FieldType.array .int) && decide (V.vm.findClass "[[I" = some c)
      | _ => false) == some true) = true
  simp only [g1, g2, g3, g4, g5, Option.bind_some, Option.map_some]
  rfl
/-- the outer array with its first i places written -/
def mnO (co N h0 i : Nat) : Cell := arrV co N (fun j => va_rf (if j < i then some (h0 + 1 + j) else none))
/-- an inner one -/
def mnI (ci M : Nat) : Cell := arrV ci M (fun _ => .int 0)
/-- the state with i of the inner arrays in their places -/
def mnS (T : State) (co ci N M : Nat) : Nat → State
  | 0 => T.pushCell (mnO co N T.heap.size 0)
  | i + 1 => ((mnS T co ci N M i).pushCell (mnI ci M)).setCell T.heap.size (mnO co N T.heap.size (i + 1))
theorem mnO_step (co N h0 i : Nat) : (mnO co N h0 i).setSlot i (.ref (h0 + 1 + i)) = mnO co N h0 (i + 1) := by
  unfold mnO
  rw [arrV_store]
  refine congrArg (arrV co N) (funext fun j => ?_)
  unfold updV
  by_cases e : j = i
  · rw [if_pos e, if_pos (by omega), e]; rfl
  · rw [if_neg e]
    show va_rf (if j < i then some (h0 + 1 + j) else none) = _
    by_cases h : j < i
    · rw [if_pos h, if_pos (show j < i + 1 by omega)]
    · rw [if_neg h, if_neg (show ¬ j < i + 1 by omega)]
theorem mnS_vm (T : State) (co ci N M : Nat) : ∀ i, (mnS T co ci N M i).vm = T.vm
  | 0 => rfl
  | i + 1 => mnS_vm T co ci N M i
theorem mnS_java (T : State) (co ci N M : Nat) : ∀ i, (mnS T co ci N M i).topJava? = T.topJava?
  | 0 => rfl
  | i + 1 => mnS_java T co ci N M i
theorem mnS_top (T : State) (f : JFrame) (co ci N M : Nat) : ∀ i, mnS (T.setTop f) co ci N M i = (mnS T co ci N M i).setTop f
  | 0 => rfl
  | i + 1 => by
    show ((mnS (T.setTop f) co ci N M i).pushCell _).setCell _ _ = _
    rw [mnS_top T f co ci N M i]
    rfl
theorem mnS_size (T : State) (co ci N M : Nat) : ∀ i, (mnS T co ci N M i).heap.size = T.heap.size + 1 + i
  | 0 => by simp [mnS]
  | i + 1 => by
    have := mnS_size T co ci N M i
    simp [mnS, this]
    omega
theorem mnS_outer (T : State) (co ci N M : Nat) : ∀ i, (mnS T co ci N M i).heap[T.heap.size]? = some (mnO co N T.heap.size i)
  | 0 => State.heap_pushCell_size _ _
  | i + 1 => by
    have h := mnS_outer T co ci N M i
    have hlt : T.heap.size < (mnS T co ci N M i).heap.size := by rw [mnS_size]; omega
    refine State.heap_setCell_self (c := mnO co N T.heap.size i) ?_
    rw [State.heap_pushCell_of_lt _ _ hlt]
    exact h
theorem mnS_rest (T : State) (co ci N M : Nat) : ∀ i, (∀ q, q < T.heap.size → (mnS T co ci N M i).heap[q]? = T.heap[q]?) ∧ ∀ j, j < i → (mnS T co ci N M i).heap[T.heap.size + 1 + j]? = some (mnI ci M)
  | 0 => ⟨fun q hq => State.heap_pushCell_of_lt _ _ hq, fun j hj => absurd hj (Nat.not_lt_zero j)⟩
  | i + 1 => by
    obtain ⟨h1, h2⟩ := mnS_rest T co ci N M i
    have hz := mnS_size T co ci N M i
    refine ⟨fun q hq => ?_, fun j hj => ?_⟩
    · show (((mnS T co ci N M i).pushCell (mnI ci M)).setCell T.heap.size _).heap[q]? = _
      rw [State.heap_setCell_other (show T.heap.size ≠ q by omega), State.heap_pushCell_of_lt _ _ (show q < (mnS T co ci N M i).heap.size by omega)]
      exact h1 q hq
    · show (((mnS T co ci N M i).pushCell (mnI ci M)).setCell T.heap.size _).heap[T.heap.size + 1 + j]? = _
      rw [State.heap_setCell_other (show T.heap.size ≠ T.heap.size + 1 + j by omega)]
      by_cases e : j = i
      · rw [e, ← hz]; exact State.heap_pushCell_size _ _
      · rw [State.heap_pushCell_of_lt _ _ (show T.heap.size + 1 + j < (mnS T co ci N M i).heap.size by omega)]
        exact h2 j (by omega)
/-- the walk stands at each of them -/
theorem mnS_stand {p : Program} {l : Launch} {e : Env} {R : Room} {s : State} {m : MethodId} {args : Array Value} {below : List Frame} {meth : Method} {c : Code} {T : State} {locs : List Loc} {cells slots : Nat} (X : Stand p l e R s m args below meth c T locs cells slots) (co ci N M : Nat) :
    ∀ i, ∃ L : List Loc, (∀ q ∈ L, q.base = T.heap.size) ∧ Stand p l e R s m args below meth c (mnS T co ci N M i) (locs ++ L) (cells + 1 + i) (slots + N + i * M)
  | 0 => ⟨[], (fun q h => by cases h), by
      have h := X.pushed (mnO co N T.heap.size 0)
      rw [show (mnO co N T.heap.size 0).slots.size = N from arrV_size _ _ _] at h
      rw [List.append_nil, Nat.zero_mul]
      exact h⟩
  | i + 1 => by
    obtain ⟨L, hL, Y⟩ := mnS_stand X co ci N M i
    have h := Y.pushed (mnI ci M)
    rw [show (mnI ci M).slots.size = M from arrV_size _ _ _] at h
    have hlt : T.heap.size < (mnS T co ci N M i).heap.size := by rw [mnS_size]; omega
    have h2 := h.stored (a := T.heap.size) (cell := mnO co N T.heap.size i) (by rw [State.heap_pushCell_of_lt _ _ hlt]; exact mnS_outer T co ci N M i) i (.ref (T.heap.size + 1 + i))
    rw [mnO_step] at h2
    refine ⟨L ++ [⟨T.heap.size, i⟩], fun q hq => ?_, ?_⟩
    · rcases List.mem_append.mp hq with g | g
      · exact hL q g
      · rw [List.mem_singleton.mp g]
    · rw [← List.append_assoc, show slots + N + (i + 1) * M = slots + N + i * M + M by rw [Nat.succ_mul]; omega]
      exact h2
/-- a fresh array of default values -/
theorem mn_new {E : CtlPost} {e : Env} {d : Bool} {acts : List Action} {S : State} {c x len : Nat} {k : Class} {ty : FieldType} {v : Value} {Q : Addr → Pre} (hk : S.vm.classes[c]? = some k) (hkd : k.kind = .array x ty) (h1 : len ≤ e.platform.arrayLengthLimit) (h2 : len * componentBytes ty ≤ e.platform.maxHeapBytes) (hf : fits ty v = true) (hv : v.isDefault = true) (h3 : S.heap.size < e.platform.maxCells) (h4 : S.slotsUsed + len ≤ e.platform.maxSlots)
    (hq : ∀ acts', Q S.heap.size d acts' (S.pushCell (arrV c len fun _ => v))) : wp (Jvm.newArray c len v) Q E e d acts S := by
  have hno1 : ¬ len > e.platform.arrayLengthLimit := Nat.not_lt.mpr h1
  have hno2 : ¬ len * componentBytes ty > e.platform.maxHeapBytes := Nat.not_lt.mpr h2
  simp only [Jvm.newArray, Jvm.arrayFits, wp_bind', W.ask, W.ite, if_neg hno1, wp_pure', W.theClass, hk, hkd, if_neg hno2, W.alloc, W.stop, Option.some.injEq, exists_eq_left']
  rw [if_neg (show ¬ len > e.platform.maxSlots by omega)]
  refine ⟨h3, by rw [Array.size_replicate]; exact h4, fun i w hw => ?_, ?_⟩
  · have hw2 : w = v := by
      rw [Array.getElem?_replicate] at hw
      split at hw
      · exact (Option.some.inj hw).symm
      · cases hw
    rw [hw2]
    simp [State.fitsSlot, State.slotType?, hk, hkd, hf]
  · rw [arrV_new]
    exact hq _
/-- one row of it -/
theorem mn_row {E : CtlPost} {e : Env} {d : Bool} {acts : List Action} {S : State} {ci x : Nat} {k : Class} {n : Int32} {Q : Addr → Pre} (hk : S.vm.classes[ci]? = some k) (hkd : k.kind = .array x .int) (hn : ¬ n < 0) (h1 : n.toNatClampNeg ≤ e.platform.arrayLengthLimit) (h2 : n.toNatClampNeg * 4 ≤ e.platform.maxHeapBytes) (h3 : S.heap.size < e.platform.maxCells) (h4 : S.slotsUsed + n.toNatClampNeg ≤ e.platform.maxSlots)
    (hq : ∀ acts', Q S.heap.size d acts' (S.pushCell (mnI ci n.toNatClampNeg))) : wp (multianewarray.make ci [n]) Q E e d acts S := by
  rw [multianewarray.make]
  simp only [wp_bind', W.ite, if_neg hn, wp_pure', W.theClass, hk, hkd, Option.some.injEq, exists_eq_left']
  exact mn_new hk hkd h1 h2 rfl rfl h3 h4 hq
/-- the rows, from the i-th on -/
theorem mn_loop {E : CtlPost} {e : Env} {T : State} {co ci x N : Nat} {k k2 : Class} {n : Int32} {Q : PUnit → Pre} (hk : T.vm.classes[co]? = some k) (hkd : k.kind = .array ci (.array .int)) (hk2 : T.vm.classes[ci]? = some k2) (hkd2 : k2.kind = .array x .int) (hn : ¬ n < 0) (h1 : n.toNatClampNeg ≤ e.platform.arrayLengthLimit) (h2 : n.toNatClampNeg * 4 ≤ e.platform.maxHeapBytes)
    (hr : ∀ i, i < N → (mnS T co ci N n.toNatClampNeg i).heap.size < e.platform.maxCells ∧ (mnS T co ci N n.toNatClampNeg i).slotsUsed + n.toNatClampNeg ≤ e.platform.maxSlots) (hq : ∀ d acts, Q PUnit.unit d acts (mnS T co ci N n.toNatClampNeg N)) :
    ∀ (w i : Nat), i + w = N → ∀ (d : Bool) (acts : List Action), wp (forIn (List.range' i w 1) PUnit.unit fun j _ => do
      Jvm.writeLoc T.heap.size j (.ref (← multianewarray.make ci [n]))
      Pure.pure (ForInStep.yield PUnit.unit)) Q E e d acts (mnS T co ci N n.toNatClampNeg i)
  | 0, i, e0, d, acts => by
    have : i = N := e0
    subst this
    simp only [List.range'_zero, List.forIn_nil, wp_pure']
    exact hq d acts
  | w + 1, i, e0, d, acts => by
    rw [List.range'_succ]
    simp only [List.forIn_cons, wp_bind']
    refine mn_row (by rw [mnS_vm]; exact hk2) hkd2 hn h1 h2 (hr i (by omega)).1 (hr i (by omega)).2 (fun acts1 => ?_)
    have hlt : T.heap.size < (mnS T co ci N n.toNatClampNeg i).heap.size := by rw [mnS_size]; omega
    simp only [wp_bind', W.writeLoc, wp_pure']
    refine ⟨mnO co N T.heap.size i, by rw [State.heap_pushCell_of_lt _ _ hlt]; exact mnS_outer T co ci N _ i, (fun h => by cases h), by rw [show (mnO co N T.heap.size i).slots.size = N from arrV_size _ _ _]; omega, ?_, ?_⟩
    · have hk' : (mnS T co ci N n.toNatClampNeg i).vm.classes[co]? = some k := by rw [mnS_vm]; exact hk
      show State.fitsSlot _ co .none i _ = true
      simp [State.fitsSlot, State.slotType?, hk', hkd]
      rfl
    · rw [mnS_size, mnO_step]
      exact mn_loop hk hkd hk2 hkd2 hn h1 h2 hr hq w (i + 1) (by omega) _ _
/-- all of it -/
theorem mn_make {E : CtlPost} {e : Env} {T : State} {d : Bool} {acts : List Action} {co ci x : Nat} {k k2 : Class} {nn n : Int32} {Q : Addr → Pre} (hk : T.vm.classes[co]? = some k) (hkd : k.kind = .array ci (.array .int)) (hk2 : T.vm.classes[ci]? = some k2) (hkd2 : k2.kind = .array x .int) (hnn : ¬ nn < 0) (hn : ¬ n < 0) (g1 : nn.toNatClampNeg ≤ e.platform.arrayLengthLimit) (g2 : nn.toNatClampNeg * 4 ≤ e.platform.maxHeapBytes) (h1 : n.toNatClampNeg ≤ e.platform.arrayLengthLimit) (h2 : n.toNatClampNeg * 4 ≤ e.platform.maxHeapBytes) (h3 : T.heap.size < e.platform.maxCells) (h4 : T.slotsUsed + nn.toNatClampNeg ≤ e.platform.maxSlots)
    (hr : ∀ i, i < nn.toNatClampNeg → (mnS T co ci nn.toNatClampNeg n.toNatClampNeg i).heap.size < e.platform.maxCells ∧ (mnS T co ci nn.toNatClampNeg n.toNatClampNeg i).slotsUsed + n.toNatClampNeg ≤ e.platform.maxSlots) (hq : ∀ d acts, Q T.heap.size d acts (mnS T co ci nn.toNatClampNeg n.toNatClampNeg nn.toNatClampNeg)) :
    wp (multianewarray.make co [nn, n]) Q E e d acts T := by
  have hf : [n].find? (fun z => decide (z < 0)) = none := by simp [hn]
  rw [multianewarray.make]
  simp only [wp_bind', W.ite, if_neg hnn, wp_pure', W.theClass, hk, hkd, Option.some.injEq, exists_eq_left']
  refine mn_new hk hkd g1 g2 rfl rfl h3 h4 (fun acts1 => ?_)
  simp only [hf, ite_self, wp_bind', wp_pure', Std.Legacy.Range.forIn_eq_forIn_range']
  have hz : ([:nn.toNatClampNeg] : Std.Legacy.Range).size = nn.toNatClampNeg := by simp [Std.Legacy.Range.size]
  rw [hz]
  have h0 : T.pushCell (arrV co nn.toNatClampNeg fun _ => .null) = mnS T co ci nn.toNatClampNeg n.toNatClampNeg 0 := by
    show _ = T.pushCell (mnO co nn.toNatClampNeg T.heap.size 0)
    unfold mnO
    refine congrArg (fun f => T.pushCell (arrV co nn.toNatClampNeg f)) (funext fun j => ?_)
    rw [if_neg (Nat.not_lt_zero j)]
    rfl
  rw [h0]
  exact mn_loop hk hkd hk2 hkd2 hn h1 h2 hr hq nn.toNatClampNeg 0 (Nat.zero_add _) d acts1
/-- the instruction -/
theorem mn_sem {E : CtlPost} {e : Env} {T : State} {g : JFrame} {d : Bool} {acts : List Action} {co ci x index : Nat} {vm₁ : Vm} {k k2 : Class} {nn n : Int32} {rest : List Value} {Q : Unit → Pre} (ht : T.topJava?.isSome) (hg : (Jvm.resolveClass g.method.cls index).Gives e.toSetting T.vm (.ok co) vm₁) (hrd : vm₁.classReady g.method.cls index co) (hsz : vm₁.classes.size ≤ T.vm.classes.size) (hst : g.stack = .int n :: .int nn :: rest)
    (hk : vm₁.classes[co]? = some k) (hkd : k.kind = .array ci (.array .int)) (hk2 : vm₁.classes[ci]? = some k2) (hkd2 : k2.kind = .array x .int) (hnn : ¬ nn < 0) (hn : ¬ n < 0) (g1 : nn.toNatClampNeg ≤ e.platform.arrayLengthLimit) (g2 : nn.toNatClampNeg * 4 ≤ e.platform.maxHeapBytes) (h1 : n.toNatClampNeg ≤ e.platform.arrayLengthLimit) (h2 : n.toNatClampNeg * 4 ≤ e.platform.maxHeapBytes) (h3 : T.heap.size < e.platform.maxCells) (h4 : T.slotsUsed + nn.toNatClampNeg ≤ e.platform.maxSlots)
    (hr : ∀ i, i < nn.toNatClampNeg → (mnS (T.setVm vm₁) co ci nn.toNatClampNeg n.toNatClampNeg i).heap.size < e.platform.maxCells ∧ (mnS (T.setVm vm₁) co ci nn.toNatClampNeg n.toNatClampNeg i).slotsUsed + n.toNatClampNeg ≤ e.platform.maxSlots)
    (hq : ∀ acts', Q () true acts' ((mnS (T.setVm vm₁) co ci nn.toNatClampNeg n.toNatClampNeg nn.toNatClampNeg).setTop { g with stack := .ref T.heap.size :: rest })) :
    wp (multianewarray.sem index 2) Q E e d acts (T.setTop g) := by
  have hp := fun (Q' : List Value → Pre) => Op.popN_top (Q := Q') (E := E) (e := e) (d := d) (acts := acts) (s := T.setVm vm₁) (f := g) ht (args := [.int nn, .int n]) (rest := rest) hst
  simp only [multianewarray.sem, wp_bind']
  rw [W.resolveClassAt_transfer (s := T.setTop g) (State.method?_setTop g ht) hg hrd hsz]
  rw [W.resolveClassAt_ready (s := (T.setTop g).setVm vm₁) (State.method?_setTop g ht) hrd]
  simp only [wp_bind']
  refine (hp _).mpr ?_
  simp only [List.mapM_cons, List.mapM_nil, wp_bind', wp_pure']
  refine mn_make hk hkd hk2 hkd2 hnn hn g1 g2 h1 h2 h3 h4 (fun i hi => ?_) (fun d' acts' => ?_)
  · rw [mnS_top]; exact hr i hi
  · have htt : (mnS (T.setVm vm₁) co ci nn.toNatClampNeg n.toNatClampNeg nn.toNatClampNeg).topJava?.isSome := by rw [mnS_java]; exact ht
    rw [mnS_top]
    simp only [wp_bind', W.mark, W.pushRef, State.topJava?_setTop' _ htt, Option.some.injEq, exists_eq_left', State.setTop_setTop]
    exact hq acts'
/-- THE ROW: int[N][M] -/
theorem mn_step {p : Program} {l : Launch} {e : Env} {R : Room} {s : State} {m : MethodId} {args a2 : Array Value} {below : List Frame} {meth : Method} {c : Code} {T : State} {locs : List Loc} {cells slots : Nat} (X : Stand p l e R s m args below meth c T locs cells slots) (hexec : p.tables.exec = Jvm.exec) {own : String} {index : Nat} (hown : s.vm.findClass own = some m.cls) (hcl : (Cond.classLink own index "[[I").before args s = true) (hov : (Cond.arrayOver (.array .int)).before a2 s = true) (hac : (Cond.arrayClass .int).before args s = true)
    {g : JFrame} (hg : g.method = m) (hdg : decode c.code g.pc = .ok (.multianewarray index 2, 4)) {nn n : Int32} {rest : List Value} (hst : g.stack = .int n :: .int nn :: rest) (hnn : ¬ nn < 0) (hn : ¬ n < 0) {N M : Nat} (eN : nn.toNatClampNeg = N) (eM : n.toNatClampNeg = M) (bN : N ≤ 100000) (bM : M ≤ 100000) (hce : cells + 1 + N ≤ R.cells) (hsl : slots + N + N * M ≤ R.slots) :
    ∃ (co ci : ClassId) (Z : State) (L : List Loc), s.vm.findClass "[[I" = some co ∧ s.vm.findClass "[I" = some ci ∧ (∀ q ∈ L, q.base = T.heap.size) ∧ Z.heap.size = T.heap.size + 1 + N ∧ Z.heap[T.heap.size]? = some (mnO co N T.heap.size N) ∧ (∀ q, q < T.heap.size → Z.heap[q]? = T.heap[q]?) ∧ (∀ j, j < N → Z.heap[T.heap.size + 1 + j]? = some (mnI ci M)) ∧
      Stand p l e R s m args below meth c Z (locs ++ L) (cells + 1 + N) (slots + N + N * M) ∧ ∀ target, Steps p.tables e below (Z.setTop { g with pc := g.pc + 4, stack := .ref T.heap.size :: rest }) target → Steps p.tables e below (T.setTop g) target := by
  subst hg eN eM
  obtain ⟨ci, co, k, h1, -, h3, h4, h5⟩ := mn_over hov
  obtain ⟨ci', k2, x, i1, i2, i3⟩ := Cond.arrayClass_spec hac
  have hci : ci' = ci := Option.some.inj (i1.symm.trans h1)
  subst hci
  obtain ⟨cc, hcc, hlk⟩ := Cond.classLink_spec hown hcl e.platform (by rw [X.admits.platform])
  have hco : cc = co := Option.some.inj (hcc.symm.trans h3)
  subst hco
  obtain ⟨hgv, hw, hrd⟩ := State.classEntry (e := e) X.warmed hlk
  have hsz : (T.vm.noted g.method.cls index (.cls cc)).classes.size ≤ T.vm.classes.size := by no_record
  generalize T.vm.noted g.method.cls index (.cls cc) = vm₁ at hgv hw hrd hsz
  obtain ⟨k', h4', ke⟩ := hw.alike.2.2 _ _ h4
  obtain ⟨k2', i2', ke2⟩ := hw.alike.2.2 _ _ i2
  have X₁ := X.noted hw
  have hpl : e.platform.arrayLengthLimit = _ := Launch.admits_arrayLengthLimit X.admits
  have hph : e.platform.maxHeapBytes = _ := Launch.admits_maxHeapBytes X.admits
  obtain ⟨L, hL, XL⟩ := mnS_stand X₁ cc ci' nn.toNatClampNeg n.toNatClampNeg nn.toNatClampNeg
  obtain ⟨r1, r2⟩ := X₁.roomAbove (a := 1) (b := nn.toNatClampNeg) (by omega) (by omega)
  refine ⟨cc, ci', mnS (T.setVm vm₁) cc ci' nn.toNatClampNeg n.toNatClampNeg nn.toNatClampNeg, L, h3, h1, hL, mnS_size (T.setVm vm₁) _ _ _ _ _, mnS_outer (T.setVm vm₁) _ _ _ _ _, (mnS_rest (T.setVm vm₁) _ _ _ _ _).1, (mnS_rest (T.setVm vm₁) _ _ _ _ _).2, XL, fun target hgo => ?_⟩
  refine Steps.instr (c := c) (by simpa using X.here) ?_
  simp [jvm, wpRun, exec, X.here.top, hexec, hdg]
  refine mn_sem X.here.top hgv hrd hsz hst h4' (by rw [ke]; exact h5) i2' (by rw [ke2]; exact i3) hnn hn (by omega) (by omega) (by omega) (by omega) r1 r2 (fun i hi => ?_) (fun acts' => ?_)
  · obtain ⟨L', -, Y⟩ := mnS_stand X₁ cc ci' nn.toNatClampNeg n.toNatClampNeg i
    have hm : i * n.toNatClampNeg + n.toNatClampNeg ≤ nn.toNatClampNeg * n.toNatClampNeg := by
      rw [← Nat.succ_mul]
      exact Nat.mul_le_mul_right _ hi
    obtain ⟨q1, q2⟩ := Y.roomAbove (a := 1) (b := n.toNatClampNeg) (by omega) (by omega)
    exact ⟨q1, q2⟩
  · have htt : (mnS (T.setVm vm₁) cc ci' nn.toNatClampNeg n.toNatClampNeg nn.toNatClampNeg).topJava?.isSome = true := by rw [mnS_java]; exact X.here.top
    simp [jvm, htt]
    exact hgo
end Mna
