/-! ROWS: numbers, locals, the stack, branches -/
theorem lh.at {ls : Array Slot} {nL : Nat} {L : List Value} {i : Nat} {v : Value} (h : lh ls nL L) (hi : L[i]? = some v) (hv : v ≠ xx) : ls[i]? = some (.val v) := by
  obtain ⟨l, h1, h2⟩ := h
  exact h1.2.2 _ (h2 i v hi hv)
def isJ : Value → Bool
  | .long _ => true
  | .double _ => true
  | _ => false
theorem cat_isJ {v : Value} (h : isJ v = false) : v.category = 1 := by cases v <;> first | rfl | cases h
def pvOK (L : List Value) : Nat → Bool
  | 0 => true
  | i + 1 => match L[i]? with
    | some v => !isJ v
    | none => true
theorem lh.st1 {ls ls' : Array Slot} {nL : Nat} {L : List Value} {i : Nat} {v : Value} {l : List (Nat × Value)} (h2 : ∀ (i : Nat) (v : Value), L[i]? = some v → v ≠ xx → (i, v) ∈ l) (hp : pvOK L i = true) (h : lv_has ls' nL ((i, v) :: l.filter (fun q => !(q.1 == i) && !(q.1 + 1 == i && q.2.category == 2)))) : lh ls' nL (L.set i v) := by
  refine ⟨_, h, fun j w hj hw => ?_⟩
  by_cases e : j = i
  · subst e
    by_cases hl : j < L.length
    · rw [List.getElem?_set_self hl] at hj
      cases hj
      exact List.mem_cons_self
    · rw [List.getElem?_eq_none (by rw [List.length_set]; omega)] at hj
      cases hj
  · rw [List.getElem?_set_ne (Ne.symm e)] at hj
    refine List.mem_cons_of_mem _ (List.mem_filter.mpr ⟨h2 j w hj hw, ?_⟩)
    have e1 : (j == i) = false := by simp [e]
    have e2 : (j + 1 == i && w.category == 2) = false := by
      by_cases e3 : j + 1 = i
      · subst e3
        have hp : (match L[j]? with | some v => !isJ v | none => true) = true := hp
        rw [hj] at hp
        have : isJ w = false := by simpa using hp
        simp [cat_isJ this]
      · simp [e3]
    simp only [e1, e2]
    rfl
theorem lh.st2 {ls ls' : Array Slot} {nL : Nat} {L : List Value} {i : Nat} {v : Value} {l : List (Nat × Value)} (h2 : ∀ (i : Nat) (v : Value), L[i]? = some v → v ≠ xx → (i, v) ∈ l) (hp : pvOK L i = true) (h : lv_has ls' nL ((i, v) :: l.filter (fun q => !(q.1 == i) && (!(q.1 == i + 1) && !(q.1 + 1 == i && q.2.category == 2))))) : lh ls' nL ((L.set i v).set (i + 1) xx) := by
  refine ⟨_, h, fun j w hj hw => ?_⟩
  by_cases e1 : j = i + 1
  · subst e1
    by_cases hl : i + 1 < L.length
    · rw [List.getElem?_set_self (by rw [List.length_set]; exact hl)] at hj
      cases hj
      exact absurd rfl hw
    · rw [List.getElem?_eq_none (by rw [List.length_set, List.length_set]; omega)] at hj
      cases hj
  · rw [List.getElem?_set_ne (Ne.symm e1)] at hj
    by_cases e : j = i
    · subst e
      by_cases hl : j < L.length
      · rw [List.getElem?_set_self hl] at hj
        cases hj
        exact List.mem_cons_self
      · rw [List.getElem?_eq_none (by rw [List.length_set]; omega)] at hj
        cases hj
    · rw [List.getElem?_set_ne (Ne.symm e)] at hj
      refine List.mem_cons_of_mem _ (List.mem_filter.mpr ⟨h2 j w hj hw, ?_⟩)
      have f1 : (j == i) = false := by simp [e]
      have f0 : (j == i + 1) = false := by simp [e1]
      have f2 : (j + 1 == i && w.category == 2) = false := by
        by_cases e3 : j + 1 = i
        · subst e3
          have hp : (match L[j]? with | some v => !isJ v | none => true) = true := hp
          rw [hj] at hp
          have : isJ w = false := by simpa using hp
          simp [cat_isJ this]
        · simp [e3]
      simp only [f1, f0, f2]
      rfl
abbrev R32 (z : Int) : Prop := -2147483648 ≤ z ∧ z < 2147483648
theorem i32_toInt {z : Int} (h : R32 z) : (Int32.ofInt z).toInt = z := Int32.toInt_ofInt_of_le (by simpa using h.1) (by simpa using h.2)
theorem i32_lt {a b : Int} (ha : R32 a) (hb : R32 b) : Int32.ofInt a < Int32.ofInt b ↔ a < b := by rw [Int32.lt_iff_toInt_lt, i32_toInt ha, i32_toInt hb]
theorem i32_le {a b : Int} (ha : R32 a) (hb : R32 b) : Int32.ofInt a ≤ Int32.ofInt b ↔ a ≤ b := by rw [Int32.le_iff_toInt_le, i32_toInt ha, i32_toInt hb]
theorem i32_eq {a b : Int} (ha : R32 a) (hb : R32 b) : Int32.ofInt a = Int32.ofInt b ↔ a = b := by rw [← Int32.toInt_inj, i32_toInt ha, i32_toInt hb]
theorem i32_clamp {c : Nat} (h : c < 2147483648) : (Int32.ofInt (c : Int)).toNatClampNeg = c := by
  show (Int32.ofInt (c : Int)).toInt.toNat = c
  rw [i32_toInt ⟨by omega, by omega⟩]
  exact Int.toNat_natCast c
theorem vp_in_nat {c N : Nat} (h : c < N) (hN : N < 2147483648) : vp_in (Int32.ofInt (c : Int)) N := by
  unfold vp_in
  rw [i32_clamp (by omega)]
  rintro (h1 | h1)
  · have h2 : Int32.ofInt (c : Int) < Int32.ofInt 0 := h1
    rw [i32_lt ⟨by omega, by omega⟩ ⟨by omega, by omega⟩] at h2
    omega
  · omega
section RowsA
variable {K : Kx} {φ : Ph} {σ : Si} {pc : Nat} {L L' : List Value} {st : List Value}
theorem r_iconst {n : Int} (hd : decode K.2.2.1.2.1 pc = .ok (.iconst n, 1)) (k : RW K φ σ (pc + 1) L (iv n :: st)) : RW K φ σ pc L st :=
  fun p e s m args below meth c H locs ls F hW hS hl h0 => lv_iconst F.1 F.2.1 hd rfl (k p e s m args below meth c H locs ls F hW hS hl h0)
theorem r_bipush {n : Int} (hd : decode K.2.2.1.2.1 pc = .ok (.bipush n, 2)) (k : RW K φ σ (pc + 2) L (iv n :: st)) (hn : (Int8.ofInt n).toInt32 = Int32.ofInt n := by decide +kernel) : RW K φ σ pc L st :=
  fun p e s m args below meth c H locs ls F hW hS hl h0 => lv_bipush F.1 F.2.1 hd hn (k p e s m args below meth c H locs ls F hW hS hl h0)
theorem r_sipush {n : Int} (hd : decode K.2.2.1.2.1 pc = .ok (.sipush n, 3)) (k : RW K φ σ (pc + 3) L (iv n :: st)) (hn : (Int16.ofInt n).toInt32 = Int32.ofInt n := by decide +kernel) : RW K φ σ pc L st :=
  fun p e s m args below meth c H locs ls F hW hS hl h0 => lv_sipush F.1 F.2.1 hd hn (k p e s m args below meth c H locs ls F hW hS hl h0)
theorem r_lconst {n : Fin 2} (hd : decode K.2.2.1.2.1 pc = .ok (.lconst n, 1)) (k : RW K φ σ (pc + 1) L (jl ((n : Nat) : Int) :: st)) : RW K φ σ pc L st :=
  fun p e s m args below meth c H locs ls F hW hS hl h0 => lv_lconst F.1 F.2.1 hd rfl (k p e s m args below meth c H locs ls F hW hS hl h0)
theorem r_null (hd : decode K.2.2.1.2.1 pc = .ok (.aconst_null, 1)) (k : RW K φ σ (pc + 1) L (.null :: st)) : RW K φ σ pc L st :=
  fun p e s m args below meth c H locs ls F hW hS hl h0 => lv_null F.1 F.2.1 hd (k p e s m args below meth c H locs ls F hW hS hl h0)
theorem r_ldc {ix : Nat} {z : Int} (hd : decode K.2.2.1.2.1 pc = .ok (.ldc ix, 2)) (hc : Cond.constant K.2.2.1.1.cls ix (Int32.ofInt z) ∈ lw_tbl) (k : RW K φ σ (pc + 2) L (iv z :: st)) : RW K φ σ pc L st :=
  fun p e s m args below meth c H locs ls F hW hS hl h0 => lv_ldc F.1 F.2.1 F.2.2.2.2.1 (F.2.2.2.2.2.1 _ hc rfl) hd (k p e s m args below meth c H locs ls F hW hS hl h0)
theorem r_ldc2 {ix : Nat} {z : Int} (hd : decode K.2.2.1.2.1 pc = .ok (.ldc2_w ix, 3)) (hc : Cond.constantLong K.2.2.1.1.cls ix (Int64.ofInt z) ∈ lw_tbl) (k : RW K φ σ (pc + 3) L (jl z :: st)) : RW K φ σ pc L st :=
  fun p e s m args below meth c H locs ls F hW hS hl h0 => lv_ldc2 F.1 F.2.1 F.2.2.2.2.1 (F.2.2.2.2.2.1 _ hc rfl) hd (k p e s m args below meth c H locs ls F hW hS hl h0)
theorem r_iload_n {n : Fin 4} {x : Int} (hd : decode K.2.2.1.2.1 pc = .ok (.iload_n n, 1)) (hx : L[(n : Nat)]? = some (iv x)) (k : RW K φ σ (pc + 1) L (iv x :: st)) : RW K φ σ pc L st :=
  fun p e s m args below meth c H locs ls F hW hS hl h0 => lv_iload_n F.1 F.2.1 hd rfl (hl.at hx (by intro h; cases h)) (k p e s m args below meth c H locs ls F hW hS hl h0)
theorem r_iload {i : Nat} {x : Int} (hd : decode K.2.2.1.2.1 pc = .ok (.iload i, 2)) (hx : L[i]? = some (iv x)) (k : RW K φ σ (pc + 2) L (iv x :: st)) : RW K φ σ pc L st :=
  fun p e s m args below meth c H locs ls F hW hS hl h0 => lv_iload F.1 F.2.1 hd (hl.at hx (by intro h; cases h)) (k p e s m args below meth c H locs ls F hW hS hl h0)
theorem r_lload_n {n : Fin 4} {x : Int} (hd : decode K.2.2.1.2.1 pc = .ok (.lload_n n, 1)) (hx : L[(n : Nat)]? = some (jl x)) (k : RW K φ σ (pc + 1) L (jl x :: st)) : RW K φ σ pc L st :=
  fun p e s m args below meth c H locs ls F hW hS hl h0 => lv_lload_n F.1 F.2.1 hd rfl (hl.at hx (by intro h; cases h)) (k p e s m args below meth c H locs ls F hW hS hl h0)
theorem r_lload {i : Nat} {x : Int} (hd : decode K.2.2.1.2.1 pc = .ok (.lload i, 2)) (hx : L[i]? = some (jl x)) (k : RW K φ σ (pc + 2) L (jl x :: st)) : RW K φ σ pc L st :=
  fun p e s m args below meth c H locs ls F hW hS hl h0 => lv_lload F.1 F.2.1 hd (hl.at hx (by intro h; cases h)) (k p e s m args below meth c H locs ls F hW hS hl h0)
theorem r_aload_n {n : Fin 4} {x : Nat} (hd : decode K.2.2.1.2.1 pc = .ok (.aload_n n, 1)) (hx : L[(n : Nat)]? = some (.ref x)) (k : RW K φ σ (pc + 1) L (.ref x :: st)) : RW K φ σ pc L st :=
  fun p e s m args below meth c H locs ls F hW hS hl h0 => lv_aload_n F.1 F.2.1 hd rfl (hl.at hx (by intro h; cases h)) (k p e s m args below meth c H locs ls F hW hS hl h0)
theorem r_aload {i : Nat} {x : Nat} (hd : decode K.2.2.1.2.1 pc = .ok (.aload i, 2)) (hx : L[i]? = some (.ref x)) (k : RW K φ σ (pc + 2) L (.ref x :: st)) : RW K φ σ pc L st :=
  fun p e s m args below meth c H locs ls F hW hS hl h0 => lv_aload F.1 F.2.1 hd (hl.at hx (by intro h; cases h)) (k p e s m args below meth c H locs ls F hW hS hl h0)
theorem r_aloadk_n {n : Fin 4} {x : Nat} (hd : decode K.2.2.1.2.1 pc = .ok (.aload_n n, 1)) (hx : L[(n : Nat)]? = some (rf K.2.1 x)) (k : RW K φ σ (pc + 1) L (rf K.2.1 x :: st)) : RW K φ σ pc L st :=
  fun p e s m args below meth c H locs ls F hW hS hl h0 => lv_aload_n F.1 F.2.1 hd rfl (hl.at hx (by intro h; cases h)) (k p e s m args below meth c H locs ls F hW hS hl h0)
theorem r_aloadk {i : Nat} {x : Nat} (hd : decode K.2.2.1.2.1 pc = .ok (.aload i, 2)) (hx : L[i]? = some (rf K.2.1 x)) (k : RW K φ σ (pc + 2) L (rf K.2.1 x :: st)) : RW K φ σ pc L st :=
  fun p e s m args below meth c H locs ls F hW hS hl h0 => lv_aload F.1 F.2.1 hd (hl.at hx (by intro h; cases h)) (k p e s m args below meth c H locs ls F hW hS hl h0)
theorem r_istore_n {n : Fin 4} {x : Int} (hd : decode K.2.2.1.2.1 pc = .ok (.istore_n n, 1)) (hn : (n : Nat) < K.2.2.1.2.2.1) (hp : pvOK L n = true) (hL : L.set n (iv x) = L') (k : RW K φ σ (pc + 1) L' st) : RW K φ σ pc L (iv x :: st) := by
  intro p e s m args below meth c H locs ls F hW hS hl h0
  obtain ⟨l, h1, h2⟩ := hl
  exact lv_istore_n F.1 F.2.1 hd rfl h1 hn rfl (fun ls' h => k p e s m args below meth c H locs ls' F hW hS (hL ▸ lh.st1 (ls := ls) h2 hp h) h0)
theorem r_istore {i : Nat} {x : Int} (hd : decode K.2.2.1.2.1 pc = .ok (.istore i, 2)) (hn : i < K.2.2.1.2.2.1) (hp : pvOK L i = true) (hL : L.set i (iv x) = L') (k : RW K φ σ (pc + 2) L' st) : RW K φ σ pc L (iv x :: st) := by
  intro p e s m args below meth c H locs ls F hW hS hl h0
  obtain ⟨l, h1, h2⟩ := hl
  exact lv_istore F.1 F.2.1 hd h1 hn rfl (fun ls' h => k p e s m args below meth c H locs ls' F hW hS (hL ▸ lh.st1 (ls := ls) h2 hp h) h0)
theorem r_astore_n {n : Fin 4} {x : Nat} (hd : decode K.2.2.1.2.1 pc = .ok (.astore_n n, 1)) (hn : (n : Nat) < K.2.2.1.2.2.1) (hp : pvOK L n = true) (hL : L.set n (.ref x) = L') (k : RW K φ σ (pc + 1) L' st) : RW K φ σ pc L (.ref x :: st) := by
  intro p e s m args below meth c H locs ls F hW hS hl h0
  obtain ⟨l, h1, h2⟩ := hl
  exact lv_astore_n F.1 F.2.1 hd rfl h1 hn rfl (fun ls' h => k p e s m args below meth c H locs ls' F hW hS (hL ▸ lh.st1 (ls := ls) h2 hp h) h0)
theorem r_astore {i : Nat} {x : Nat} (hd : decode K.2.2.1.2.1 pc = .ok (.astore i, 2)) (hn : i < K.2.2.1.2.2.1) (hp : pvOK L i = true) (hL : L.set i (.ref x) = L') (k : RW K φ σ (pc + 2) L' st) : RW K φ σ pc L (.ref x :: st) := by
  intro p e s m args below meth c H locs ls F hW hS hl h0
  obtain ⟨l, h1, h2⟩ := hl
  exact lv_astore F.1 F.2.1 hd h1 hn rfl (fun ls' h => k p e s m args below meth c H locs ls' F hW hS (hL ▸ lh.st1 (ls := ls) h2 hp h) h0)
theorem r_lstore_n {n : Fin 4} {x : Int} (hd : decode K.2.2.1.2.1 pc = .ok (.lstore_n n, 1)) (hn : (n : Nat) + 1 < K.2.2.1.2.2.1) (hp : pvOK L n = true) (hL : (L.set n (jl x)).set ((n : Nat) + 1) xx = L') (k : RW K φ σ (pc + 1) L' st) : RW K φ σ pc L (jl x :: st) := by
  intro p e s m args below meth c H locs ls F hW hS hl h0
  obtain ⟨l, h1, h2⟩ := hl
  exact lv_lstore_n F.1 F.2.1 hd rfl h1 hn rfl (fun ls' h => k p e s m args below meth c H locs ls' F hW hS (hL ▸ lh.st2 (ls := ls) h2 hp h) h0)
theorem r_lstore {i : Nat} {x : Int} (hd : decode K.2.2.1.2.1 pc = .ok (.lstore i, 2)) (hn : i + 1 < K.2.2.1.2.2.1) (hp : pvOK L i = true) (hL : (L.set i (jl x)).set (i + 1) xx = L') (k : RW K φ σ (pc + 2) L' st) : RW K φ σ pc L (jl x :: st) := by
  intro p e s m args below meth c H locs ls F hW hS hl h0
  obtain ⟨l, h1, h2⟩ := hl
  exact lv_lstore F.1 F.2.1 hd h1 hn rfl (fun ls' h => k p e s m args below meth c H locs ls' F hW hS (hL ▸ lh.st2 (ls := ls) h2 hp h) h0)
theorem r_iinc {i : Nat} {n x : Int} (hd : decode K.2.2.1.2.1 pc = .ok (.iinc i n, 3)) (hn : i < K.2.2.1.2.2.1) (hp : pvOK L i = true) (hx : L[i]? = some (iv x)) (hL : L.set i (iv (x + n)) = L') (k : RW K φ σ (pc + 3) L' st) : RW K φ σ pc L st := by
  intro p e s m args below meth c H locs ls F hW hS hl h0
  obtain ⟨l, h1, h2⟩ := hl
  obtain ⟨j, hj⟩ := List.getElem?_of_mem (h2 i _ hx (by intro h; cases h))
  exact lv_iinc F.1 F.2.1 hd h1 hj (Int32.ofInt_add x n).symm hn rfl (fun ls' h => k p e s m args below meth c H locs ls' F hW hS (hL ▸ lh.st1 (ls := ls) h2 hp h) h0)
theorem r_iincW {i : Nat} {n x : Int} (hd : decode K.2.2.1.2.1 pc = .ok (.iinc i n, 6)) (hn : i < K.2.2.1.2.2.1) (hp : pvOK L i = true) (hx : L[i]? = some (iv x)) (hL : L.set i (iv (x + n)) = L') (k : RW K φ σ (pc + 6) L' st) : RW K φ σ pc L st := by
  intro p e s m args below meth c H locs ls F hW hS hl h0
  obtain ⟨l, h1, h2⟩ := hl
  obtain ⟨j, hj⟩ := List.getElem?_of_mem (h2 i _ hx (by intro h; cases h))
  exact lv_iincW F.1 F.2.1 hd h1 hj (Int32.ofInt_add x n).symm hn rfl (fun ls' h => k p e s m args below meth c H locs ls' F hW hS (hL ▸ lh.st1 (ls := ls) h2 hp h) h0)
theorem r_dup {v : Value} (hd : decode K.2.2.1.2.1 pc = .ok (.dup, 1)) (hv : v.category = 1) (k : RW K φ σ (pc + 1) L (v :: v :: st)) : RW K φ σ pc L (v :: st) :=
  fun p e s m args below meth c H locs ls F hW hS hl h0 => lv_dup F.1 F.2.1 hd hv (k p e s m args below meth c H locs ls F hW hS hl h0)
theorem r_dup_x1 {v w : Value} (hd : decode K.2.2.1.2.1 pc = .ok (.dup_x1, 1)) (hv : v.category = 1) (hw : w.category = 1) (k : RW K φ σ (pc + 1) L (v :: w :: v :: st)) : RW K φ σ pc L (v :: w :: st) :=
  fun p e s m args below meth c H locs ls F hW hS hl h0 => lv_dup_x1 F.1 F.2.1 hd hv hw (k p e s m args below meth c H locs ls F hW hS hl h0)
theorem r_dup2 {v w : Value} (hd : decode K.2.2.1.2.1 pc = .ok (.dup2, 1)) (hv : v.category = 1) (hw : w.category = 1) (k : RW K φ σ (pc + 1) L (v :: w :: v :: w :: st)) : RW K φ σ pc L (v :: w :: st) :=
  fun p e s m args below meth c H locs ls F hW hS hl h0 => lv_dup2_11 F.1 F.2.1 hd hv hw (k p e s m args below meth c H locs ls F hW hS hl h0)
theorem r_iadd {a b : Int} (hd : decode K.2.2.1.2.1 pc = .ok (.iadd, 1)) (k : RW K φ σ (pc + 1) L (iv (a + b) :: st)) : RW K φ σ pc L (iv b :: iv a :: st) := by
  intro p e s m args below meth c H locs ls F hW hS hl h0
  have k := k p e s m args below meth c H locs ls F hW hS hl h0
  unfold iv at k
  rw [Int32.ofInt_add] at k
  exact lv_iadd F.1 F.2.1 hd k
theorem r_isub {a b : Int} (hd : decode K.2.2.1.2.1 pc = .ok (.isub, 1)) (k : RW K φ σ (pc + 1) L (iv (a - b) :: st)) : RW K φ σ pc L (iv b :: iv a :: st) := by
  intro p e s m args below meth c H locs ls F hW hS hl h0
  have k := k p e s m args below meth c H locs ls F hW hS hl h0
  unfold iv at k
  rw [Int32.ofInt_sub] at k
  exact lv_isub F.1 F.2.1 hd k
theorem r_imul {a b : Int} (hd : decode K.2.2.1.2.1 pc = .ok (.imul, 1)) (k : RW K φ σ (pc + 1) L (iv (a * b) :: st)) : RW K φ σ pc L (iv b :: iv a :: st) := by
  intro p e s m args below meth c H locs ls F hW hS hl h0
  have k := k p e s m args below meth c H locs ls F hW hS hl h0
  unfold iv at k
  rw [Int32.ofInt_mul] at k
  exact lv_imul F.1 F.2.1 hd k
theorem r_ladd {a b : Int} (hd : decode K.2.2.1.2.1 pc = .ok (.ladd, 1)) (k : RW K φ σ (pc + 1) L (jl (a + b) :: st)) : RW K φ σ pc L (jl b :: jl a :: st) := by
  intro p e s m args below meth c H locs ls F hW hS hl h0
  have k := k p e s m args below meth c H locs ls F hW hS hl h0
  unfold jl at k
  rw [Int64.ofInt_add] at k
  exact lv_ladd F.1 F.2.1 hd k
theorem r_lsub {a b : Int} (hd : decode K.2.2.1.2.1 pc = .ok (.lsub, 1)) (k : RW K φ σ (pc + 1) L (jl (a - b) :: st)) : RW K φ σ pc L (jl b :: jl a :: st) := by
  intro p e s m args below meth c H locs ls F hW hS hl h0
  have k := k p e s m args below meth c H locs ls F hW hS hl h0
  unfold jl at k
  rw [Int64.ofInt_sub] at k
  exact lv_lsub F.1 F.2.1 hd k
theorem r_lmul {a b : Int} (hd : decode K.2.2.1.2.1 pc = .ok (.lmul, 1)) (k : RW K φ σ (pc + 1) L (jl (a * b) :: st)) : RW K φ σ pc L (jl b :: jl a :: st) := by
  intro p e s m args below meth c H locs ls F hW hS hl h0
  have k := k p e s m args below meth c H locs ls F hW hS hl h0
  unfold jl at k
  rw [Int64.ofInt_mul] at k
  exact lv_lmul F.1 F.2.1 hd k
theorem r_ineg {a : Int} (hd : decode K.2.2.1.2.1 pc = .ok (.ineg, 1)) (k : RW K φ σ (pc + 1) L (iv (-a) :: st)) : RW K φ σ pc L (iv a :: st) := by
  intro p e s m args below meth c H locs ls F hW hS hl h0
  have k := k p e s m args below meth c H locs ls F hW hS hl h0
  unfold iv at k
  rw [Int32.ofInt_neg] at k
  exact lv_ineg F.1 F.2.1 hd k
theorem r_goto {off : Int} {tgt : Nat} (hd : decode K.2.2.1.2.1 pc = .ok (.goto off, 3)) (ht : (pc : Int) + off = (tgt : Int)) (k : RW K φ σ tgt L st) : RW K φ σ pc L st :=
  fun p e s m args below meth c H locs ls F hW hS hl h0 => lv_goto F.1 F.2.1 hd ht (k p e s m args below meth c H locs ls F hW hS hl h0)
theorem r_icmpeq {a b : Int} {off : Int} {tgt : Nat} (hd : decode K.2.2.1.2.1 pc = .ok (.if_icmp .eq off, 3)) (ht : (pc : Int) + off = (tgt : Int)) (ha : R32 a) (hb : R32 b) (kt : a = b → RW K φ σ tgt L st) (kf : ¬ a = b → RW K φ σ (pc + 3) L st) : RW K φ σ pc L (iv b :: iv a :: st) := by
  intro p e s m args below meth c H locs ls F hW hS hl h0
  refine lv_icmp_eq F.1 F.2.1 hd ht (fun h => ?_) (fun h => ?_)
  · exact kt (by simp only [GE.ge, GT.gt, i32_lt ha hb, i32_lt hb ha, i32_le ha hb, i32_le hb ha, i32_eq ha hb] at h; omega) p e s m args below meth c H locs ls F hW hS hl h0
  · exact kf (by simp only [GE.ge, GT.gt, i32_lt ha hb, i32_lt hb ha, i32_le ha hb, i32_le hb ha, i32_eq ha hb] at h; omega) p e s m args below meth c H locs ls F hW hS hl h0
theorem r_ifeq {a : Int} {off : Int} {tgt : Nat} (hd : decode K.2.2.1.2.1 pc = .ok (.ifCond .eq off, 3)) (ht : (pc : Int) + off = (tgt : Int)) (ha : R32 a) (kt : a = (0 : Int) → RW K φ σ tgt L st) (kf : ¬ a = 0 → RW K φ σ (pc + 3) L st) : RW K φ σ pc L (iv a :: st) := by
  intro p e s m args below meth c H locs ls F hW hS hl h0
  have hb : R32 0 := ⟨by omega, by omega⟩
  have e0 : (0 : Int32) = Int32.ofInt 0 := rfl
  refine lv_if_eq F.1 F.2.1 hd ht (fun h => ?_) (fun h => ?_)
  · exact kt (by rw [e0] at h; simp only [GE.ge, GT.gt, i32_lt ha hb, i32_lt hb ha, i32_le ha hb, i32_le hb ha, i32_eq ha hb] at h; omega) p e s m args below meth c H locs ls F hW hS hl h0
  · exact kf (by rw [e0] at h; simp only [GE.ge, GT.gt, i32_lt ha hb, i32_lt hb ha, i32_le ha hb, i32_le hb ha, i32_eq ha hb] at h; omega) p e s m args below meth c H locs ls F hW hS hl h0
theorem r_icmpne {a b : Int} {off : Int} {tgt : Nat} (hd : decode K.2.2.1.2.1 pc = .ok (.if_icmp .ne off, 3)) (ht : (pc : Int) + off = (tgt : Int)) (ha : R32 a) (hb : R32 b) (kt : ¬ a = b → RW K φ σ tgt L st) (kf : a = b → RW K φ σ (pc + 3) L st) : RW K φ σ pc L (iv b :: iv a :: st) := by
  intro p e s m args below meth c H locs ls F hW hS hl h0
  refine lv_icmp_ne F.1 F.2.1 hd ht (fun h => ?_) (fun h => ?_)
  · exact kt (by simp only [GE.ge, GT.gt, i32_lt ha hb, i32_lt hb ha, i32_le ha hb, i32_le hb ha, i32_eq ha hb] at h; omega) p e s m args below meth c H locs ls F hW hS hl h0
  · exact kf (by simp only [GE.ge, GT.gt, i32_lt ha hb, i32_lt hb ha, i32_le ha hb, i32_le hb ha, i32_eq ha hb] at h; omega) p e s m args below meth c H locs ls F hW hS hl h0
theorem r_ifne {a : Int} {off : Int} {tgt : Nat} (hd : decode K.2.2.1.2.1 pc = .ok (.ifCond .ne off, 3)) (ht : (pc : Int) + off = (tgt : Int)) (ha : R32 a) (kt : ¬ a = 0 → RW K φ σ tgt L st) (kf : a = (0 : Int) → RW K φ σ (pc + 3) L st) : RW K φ σ pc L (iv a :: st) := by
  intro p e s m args below meth c H locs ls F hW hS hl h0
  have hb : R32 0 := ⟨by omega, by omega⟩
  have e0 : (0 : Int32) = Int32.ofInt 0 := rfl
  refine lv_if_ne F.1 F.2.1 hd ht (fun h => ?_) (fun h => ?_)
  · exact kt (by rw [e0] at h; simp only [GE.ge, GT.gt, i32_lt ha hb, i32_lt hb ha, i32_le ha hb, i32_le hb ha, i32_eq ha hb] at h; omega) p e s m args below meth c H locs ls F hW hS hl h0
  · exact kf (by rw [e0] at h; simp only [GE.ge, GT.gt, i32_lt ha hb, i32_lt hb ha, i32_le ha hb, i32_le hb ha, i32_eq ha hb] at h; omega) p e s m args below meth c H locs ls F hW hS hl h0
theorem r_icmplt {a b : Int} {off : Int} {tgt : Nat} (hd : decode K.2.2.1.2.1 pc = .ok (.if_icmp .lt off, 3)) (ht : (pc : Int) + off = (tgt : Int)) (ha : R32 a) (hb : R32 b) (kt : a < b → RW K φ σ tgt L st) (kf : b ≤ a → RW K φ σ (pc + 3) L st) : RW K φ σ pc L (iv b :: iv a :: st) := by
  intro p e s m args below meth c H locs ls F hW hS hl h0
  refine lv_icmp_lt F.1 F.2.1 hd ht (fun h => ?_) (fun h => ?_)
  · exact kt (by simp only [GE.ge, GT.gt, i32_lt ha hb, i32_lt hb ha, i32_le ha hb, i32_le hb ha, i32_eq ha hb] at h; omega) p e s m args below meth c H locs ls F hW hS hl h0
  · exact kf (by simp only [GE.ge, GT.gt, i32_lt ha hb, i32_lt hb ha, i32_le ha hb, i32_le hb ha, i32_eq ha hb] at h; omega) p e s m args below meth c H locs ls F hW hS hl h0
theorem r_iflt {a : Int} {off : Int} {tgt : Nat} (hd : decode K.2.2.1.2.1 pc = .ok (.ifCond .lt off, 3)) (ht : (pc : Int) + off = (tgt : Int)) (ha : R32 a) (kt : a < (0 : Int) → RW K φ σ tgt L st) (kf : (0 : Int) ≤ a → RW K φ σ (pc + 3) L st) : RW K φ σ pc L (iv a :: st) := by
  intro p e s m args below meth c H locs ls F hW hS hl h0
  have hb : R32 0 := ⟨by omega, by omega⟩
  have e0 : (0 : Int32) = Int32.ofInt 0 := rfl
  refine lv_if_lt F.1 F.2.1 hd ht (fun h => ?_) (fun h => ?_)
  · exact kt (by rw [e0] at h; simp only [GE.ge, GT.gt, i32_lt ha hb, i32_lt hb ha, i32_le ha hb, i32_le hb ha, i32_eq ha hb] at h; omega) p e s m args below meth c H locs ls F hW hS hl h0
  · exact kf (by rw [e0] at h; simp only [GE.ge, GT.gt, i32_lt ha hb, i32_lt hb ha, i32_le ha hb, i32_le hb ha, i32_eq ha hb] at h; omega) p e s m args below meth c H locs ls F hW hS hl h0
theorem r_icmpge {a b : Int} {off : Int} {tgt : Nat} (hd : decode K.2.2.1.2.1 pc = .ok (.if_icmp .ge off, 3)) (ht : (pc : Int) + off = (tgt : Int)) (ha : R32 a) (hb : R32 b) (kt : b ≤ a → RW K φ σ tgt L st) (kf : a < b → RW K φ σ (pc + 3) L st) : RW K φ σ pc L (iv b :: iv a :: st) := by
  intro p e s m args below meth c H locs ls F hW hS hl h0
  refine lv_icmp_ge F.1 F.2.1 hd ht (fun h => ?_) (fun h => ?_)
  · exact kt (by simp only [GE.ge, GT.gt, i32_lt ha hb, i32_lt hb ha, i32_le ha hb, i32_le hb ha, i32_eq ha hb] at h; omega) p e s m args below meth c H locs ls F hW hS hl h0
  · exact kf (by simp only [GE.ge, GT.gt, i32_lt ha hb, i32_lt hb ha, i32_le ha hb, i32_le hb ha, i32_eq ha hb] at h; omega) p e s m args below meth c H locs ls F hW hS hl h0
theorem r_ifge {a : Int} {off : Int} {tgt : Nat} (hd : decode K.2.2.1.2.1 pc = .ok (.ifCond .ge off, 3)) (ht : (pc : Int) + off = (tgt : Int)) (ha : R32 a) (kt : (0 : Int) ≤ a → RW K φ σ tgt L st) (kf : a < (0 : Int) → RW K φ σ (pc + 3) L st) : RW K φ σ pc L (iv a :: st) := by
  intro p e s m args below meth c H locs ls F hW hS hl h0
  have hb : R32 0 := ⟨by omega, by omega⟩
  have e0 : (0 : Int32) = Int32.ofInt 0 := rfl
  refine lv_if_ge F.1 F.2.1 hd ht (fun h => ?_) (fun h => ?_)
  · exact kt (by rw [e0] at h; simp only [GE.ge, GT.gt, i32_lt ha hb, i32_lt hb ha, i32_le ha hb, i32_le hb ha, i32_eq ha hb] at h; omega) p e s m args below meth c H locs ls F hW hS hl h0
  · exact kf (by rw [e0] at h; simp only [GE.ge, GT.gt, i32_lt ha hb, i32_lt hb ha, i32_le ha hb, i32_le hb ha, i32_eq ha hb] at h; omega) p e s m args below meth c H locs ls F hW hS hl h0
theorem r_icmpgt {a b : Int} {off : Int} {tgt : Nat} (hd : decode K.2.2.1.2.1 pc = .ok (.if_icmp .gt off, 3)) (ht : (pc : Int) + off = (tgt : Int)) (ha : R32 a) (hb : R32 b) (kt : b < a → RW K φ σ tgt L st) (kf : a ≤ b → RW K φ σ (pc + 3) L st) : RW K φ σ pc L (iv b :: iv a :: st) := by
  intro p e s m args below meth c H locs ls F hW hS hl h0
  refine lv_icmp_gt F.1 F.2.1 hd ht (fun h => ?_) (fun h => ?_)
  · exact kt (by simp only [GE.ge, GT.gt, i32_lt ha hb, i32_lt hb ha, i32_le ha hb, i32_le hb ha, i32_eq ha hb] at h; omega) p e s m args below meth c H locs ls F hW hS hl h0
  · exact kf (by simp only [GE.ge, GT.gt, i32_lt ha hb, i32_lt hb ha, i32_le ha hb, i32_le hb ha, i32_eq ha hb] at h; omega) p e s m args below meth c H locs ls F hW hS hl h0
theorem r_ifgt {a : Int} {off : Int} {tgt : Nat} (hd : decode K.2.2.1.2.1 pc = .ok (.ifCond .gt off, 3)) (ht : (pc : Int) + off = (tgt : Int)) (ha : R32 a) (kt : (0 : Int) < a → RW K φ σ tgt L st) (kf : a ≤ (0 : Int) → RW K φ σ (pc + 3) L st) : RW K φ σ pc L (iv a :: st) := by
  intro p e s m args below meth c H locs ls F hW hS hl h0
  have hb : R32 0 := ⟨by omega, by omega⟩
  have e0 : (0 : Int32) = Int32.ofInt 0 := rfl
  refine lv_if_gt F.1 F.2.1 hd ht (fun h => ?_) (fun h => ?_)
  · exact kt (by rw [e0] at h; simp only [GE.ge, GT.gt, i32_lt ha hb, i32_lt hb ha, i32_le ha hb, i32_le hb ha, i32_eq ha hb] at h; omega) p e s m args below meth c H locs ls F hW hS hl h0
  · exact kf (by rw [e0] at h; simp only [GE.ge, GT.gt, i32_lt ha hb, i32_lt hb ha, i32_le ha hb, i32_le hb ha, i32_eq ha hb] at h; omega) p e s m args below meth c H locs ls F hW hS hl h0
theorem r_icmple {a b : Int} {off : Int} {tgt : Nat} (hd : decode K.2.2.1.2.1 pc = .ok (.if_icmp .le off, 3)) (ht : (pc : Int) + off = (tgt : Int)) (ha : R32 a) (hb : R32 b) (kt : a ≤ b → RW K φ σ tgt L st) (kf : b < a → RW K φ σ (pc + 3) L st) : RW K φ σ pc L (iv b :: iv a :: st) := by
  intro p e s m args below meth c H locs ls F hW hS hl h0
  refine lv_icmp_le F.1 F.2.1 hd ht (fun h => ?_) (fun h => ?_)
  · exact kt (by simp only [GE.ge, GT.gt, i32_lt ha hb, i32_lt hb ha, i32_le ha hb, i32_le hb ha, i32_eq ha hb] at h; omega) p e s m args below meth c H locs ls F hW hS hl h0
  · exact kf (by simp only [GE.ge, GT.gt, i32_lt ha hb, i32_lt hb ha, i32_le ha hb, i32_le hb ha, i32_eq ha hb] at h; omega) p e s m args below meth c H locs ls F hW hS hl h0
theorem r_ifle {a : Int} {off : Int} {tgt : Nat} (hd : decode K.2.2.1.2.1 pc = .ok (.ifCond .le off, 3)) (ht : (pc : Int) + off = (tgt : Int)) (ha : R32 a) (kt : a ≤ (0 : Int) → RW K φ σ tgt L st) (kf : (0 : Int) < a → RW K φ σ (pc + 3) L st) : RW K φ σ pc L (iv a :: st) := by
  intro p e s m args below meth c H locs ls F hW hS hl h0
  have hb : R32 0 := ⟨by omega, by omega⟩
  have e0 : (0 : Int32) = Int32.ofInt 0 := rfl
  refine lv_if_le F.1 F.2.1 hd ht (fun h => ?_) (fun h => ?_)
  · exact kt (by rw [e0] at h; simp only [GE.ge, GT.gt, i32_lt ha hb, i32_lt hb ha, i32_le ha hb, i32_le hb ha, i32_eq ha hb] at h; omega) p e s m args below meth c H locs ls F hW hS hl h0
  · exact kf (by rw [e0] at h; simp only [GE.ge, GT.gt, i32_lt ha hb, i32_lt hb ha, i32_le ha hb, i32_le hb ha, i32_eq ha hb] at h; omega) p e s m args below meth c H locs ls F hW hS hl h0
end RowsA
