/-! THE JUDGEMENT THAT ALL WALKS HERE SPEAK IN. The whole heap that the law makes is known: cell k of it lies at gB + k, its shape (shp k) is fixed by the order in which the constructors make cells; its numbers are σ k j : Int, its references ρ k j. -/
abbrev Si : Type := Nat → Nat → Int
abbrev Rho : Type := Nat → Nat → Option Nat
abbrev GG : Type := va_G × (Nat × Nat × Nat × Nat) × (Nat × Nat × Nat × (Nat → Int32)) × Nat × Nat
def gD (G : GG) : va_G := G.1
def gI (G : GG) : Nat := G.2.1.1
def gZ (G : GG) : Nat := G.2.1.2.1
def gJ (G : GG) : Nat := G.2.1.2.2.1
def gII (G : GG) : Nat := G.2.1.2.2.2
def gB (G : GG) : Nat := G.2.2.1.1
def gb (G : GG) : Nat := G.2.2.1.2.1
def gL (G : GG) : Nat := G.2.2.1.2.2.1
def gx (G : GG) : Nat → Int32 := G.2.2.1.2.2.2
def gM (G : GG) : Nat := G.2.2.2.1
def gR (G : GG) : Nat := G.2.2.2.2
def gA (G : GG) : Nat → Prop := fun q => gB G ≤ q
def iv (z : Int) : Value := .int (Int32.ofInt z)
def jl (z : Int) : Value := .long (Int64.ofInt z)
def rf (G : GG) (k : Nat) : Value := .ref (gB G + k)
def rv (G : GG) (r : Option Nat) : Value := va_rf (r.map (gB G + ·))
/-- a local of which nothing is known -/
def xx : Value := .retAddr 0
/-- a number's field, by its descriptor -/
def isI (d : String) : Bool := d == "I" || d == "Z"
def fvv (G : GG) (T : u_T) (ρ : Nat → Option Nat) (σ : Nat → Int) (j : Nat) : Value := if isI (T j).2.2.1 = true then iv (σ j) else rv G (ρ j)
/-- the shapes: (100, n) int[n], (101, n) boolean[n], (102, n) long[n], (103, n) int[n][], (t, _) an object of the class t of vwCl -/
def shpL : List (Nat × Nat) := [(7, 8), (100, 5), (1, 7), (103, 3), (100, 80), (100, 80), (100, 80), (100, 80), (100, 80), (3, 3), (100, 80), (101, 80), (6, 3), (103, 3), (100, 80), (100, 80), (100, 80), (100, 3), (100, 3), (4, 13), (100, 8), (100, 8), (100, 40), (100, 40), (100, 40), (100, 40), (100, 20), (100, 20), (100, 20), (5, 8), (100, 8), (100, 8), (100, 8), (100, 8), (102, 8), (2, 4), (100, 8), (100, 8), (8, 57), (100, 80), (100, 80), (101, 80), (100, 3), (100, 3), (100, 240), (100, 8), (100, 8), (100, 40), (100, 40), (100, 40), (100, 40), (100, 20), (100, 20), (100, 20), (100, 8), (100, 8), (100, 8), (100, 8), (100, 80), (100, 80), (100, 8), (100, 8), (100, 8), (100, 8), (101, 8), (100, 2000), (100, 2000), (100, 2000), (100, 2000), (102, 2000), (102, 2000), (100, 8), (100, 8), (0, 19), (100, 1980), (100, 1980), (102, 1980), (102, 1980), (103, 8), (100, 1980), (100, 1980), (100, 1980), (100, 1980), (100, 1980), (100, 1980), (100, 1980), (100, 1980), (100, 8), (100, 8), (100, 8), (100, 8), (100, 8)]
def shp (k : Nat) : Nat × Nat := shpL.getD k (99, 0)
def at_ (G : GG) (ρ : Rho) (σ : Si) (k : Nat) (H : Heap) : Prop :=
  (∀ N, shp k = (100, N) → H[gB G + k]? = some (arrV (gI G) N (fun j => iv (σ k j)))) ∧
  (∀ N, shp k = (101, N) → H[gB G + k]? = some (arrV (gZ G) N (fun j => iv (σ k j)))) ∧
  (∀ N, shp k = (102, N) → H[gB G + k]? = some (arrV (gJ G) N (fun j => jl (σ k j)))) ∧
  (∀ N, shp k = (103, N) → H[gB G + k]? = some (arrV (gII G) N (fun j => rv G (ρ k j)))) ∧
  (∀ t C T N, (shp k).1 = t → vwCl[t]? = some (C, T, N) → t_OB (gB G + k) ((gD G).1 t) N ((gD G).2 t) H (fvv G T (ρ k) (σ k)))
def mostMark : Nat → Int := fun j => match j with
  | 0 => 9
  | 1 => 2
  | _ => 1
def mostRule : Nat → Int := fun j => match j with
  | 0 => 999
  | 1 => 999
  | 2 => 50
  | 3 => 1000
  | _ => 50
/-- what lies below gB and is only read: the script, the two static rows -/
def RO (G : GG) (U : State) (H : Heap) : Prop :=
  va_X (gb G) (gL G) (gx G) U H ∧ gb G < gB G ∧ gL G ≤ 3072 ∧
  va_Z "AwardDesk" "MOST_OF_MARK" "[I" (.ref (gM G)) (gA G) U H ∧ va_T .int (gM G) 3 (fun j => iv (mostMark j)) (gA G) U H ∧
  va_Z "AwardDesk" "MOST_OF_RULE" "[I" (.ref (gR G)) (gA G) U H ∧ va_T .int (gR G) 5 (fun j => iv (mostRule j)) (gA G) U H
def tysG (G : GG) : List (ClassId × FieldType) := [(gI G, .int), (gZ G, .boolean), (gJ G, .long), (gII G, .array .int)]
def Wd (G : GG) (n : Nat) (ρ : Rho) (σ : Si) (U : State) (H : Heap) : Prop :=
  H.size = gB G + n ∧ (∀ k, k < n → at_ G ρ σ k H) ∧ va_K (gD G) vwCl (tysG G) U ∧ RO G U H
theorem va_Z.kept' {C n d : String} {v : Value} {A : Nat → Prop} {U : State} {H H1 : Heap} (h : va_Z C n d v A U H) (hq : ∀ q : Nat, ¬ A q → H1[q]? = H[q]?) : va_Z C n d v A U H1 := by
  obtain ⟨cf, kf, fi, f, a, cell, h1, h2, h3, h4, h5, h6, h7, h8⟩ := h
  exact ⟨cf, kf, fi, f, a, cell, h1, h2, h3, h4, by rw [hq a h8]; exact h5, h6, h7, h8⟩
theorem va_T.kept' {ty : FieldType} {t N : Nat} {f : Nat → Value} {A : Nat → Prop} {U : State} {H H1 : Heap} (h : va_T ty t N f A U H) (hq : ∀ q : Nat, ¬ A q → H1[q]? = H[q]?) : va_T ty t N f A U H1 := by
  obtain ⟨cell, h1, h2, h3, h4, h5, h6, h7⟩ := h
  exact ⟨cell, by rw [hq t h7]; exact h1, h2, h3, h4, h5, h6, h7⟩
theorem RO.kept {G : GG} {U : State} {H H1 : Heap} (h : RO G U H) (hq : ∀ q : Nat, ¬ gA G q → H1[q]? = H[q]?) : RO G U H1 := by
  obtain ⟨h1, h2, h3, h4, h5, h6, h7⟩ := h
  exact ⟨h1.kept (hq _ (by unfold gA; omega)), h2, h3, h4.kept' hq, h5.kept' hq, h6.kept' hq, h7.kept' hq⟩
theorem RO.moved {G : GG} {u U : State} {H : Heap} (hvm : u.vm.Alike U.vm) (h : RO G u H) : RO G U H := by
  obtain ⟨h1, h2, h3, h4, h5, h6, h7⟩ := h
  exact ⟨h1.moved hvm, h2, h3, h4.moved hvm, h5.moved hvm, h6.moved hvm, h7.moved hvm⟩
theorem Wd.moved {G : GG} {n : Nat} {ρ : Rho} {σ : Si} {u U : State} {H : Heap} (hvm : u.vm.Alike U.vm) (h : Wd G n ρ σ u H) : Wd G n ρ σ U H := ⟨h.1, h.2.1, h.2.2.1.moved hvm, h.2.2.2.moved hvm⟩
abbrev Mi : Type := MethodName × ByteArray × Nat × Option FieldType
abbrev Kx : Type := Launch × GG × Mi × Room × (List Frame → Array Value → State → State → Prop)
/-- cells and slots made so far by this call, how many cells there are, what the references are -/
abbrev Ph : Type := Nat × Nat × Nat × Rho
/-- two words of the tables that aren't of the kind that calls hand on: they ride beside -/
def NW (U : State) : Prop := (Cond.arrayOver (.array .int)).before #[] U = true ∧ va_Nw (.methodLinkNest "AwardDesk" 31 yX7_init "AwardDesk") U
theorem NW.warm {s U : State} (hW : s.WarmedH U.vm) (h : NW s) : NW U := ⟨mn_alike hW.alike h.1, h.2.warmM hW⟩
def Fx (M : Mi) (p : Program) (s : State) (m : MethodId) (args : Array Value) (meth : Method) (c : Code) : Prop :=
  p.tables.exec = Jvm.exec ∧ c.code = M.2.1 ∧ meth.sig.returnType = M.2.2.2 ∧ c.maxLocals = M.2.2.1 ∧ s.vm.findClass M.1.cls = some m.cls ∧ (∀ w ∈ lw_tbl, goodWord w = true → w.before args s = true) ∧ meth.locks = false ∧ meth.name = M.1.name ∧ NW s
/-- the locals: place by place, xx where nothing is known -/
def lh (ls : Array Slot) (nL : Nat) (L : List Value) : Prop := ∃ l, lv_has ls nL l ∧ ∀ (i : Nat) (v : Value), L[i]? = some v → v ≠ xx → (i, v) ∈ l
/-- from pc, with locals L and stack st, over the world (φ, σ), the method comes to its end -/
def RW (K : Kx) (φ : Ph) (σ : Si) (pc : Nat) (L : List Value) (st : List Value) : Prop :=
  ∀ (p : Program) (e : Env) (s : State) (m : MethodId) (args : Array Value) (below : List Frame) (meth : Method) (c : Code) (H : Heap) (locs : List Loc) (ls : Array Slot),
    Fx K.2.2.1 p s m args meth c → Wd K.2.1 φ.2.2.1 φ.2.2.2 σ s H → va_S (gA K.2.1) s.heap H locs → lh ls K.2.2.1.2.2.1 L → gB K.2.1 ≤ s.heap.size →
    W p K.1 e K.2.2.2.1 s m args below meth c H locs φ.1 φ.2.1 (K.2.2.2.2 below args s) (F0 m pc ls st)
