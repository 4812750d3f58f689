def srT : List (List (Option Nat)) := [[some 1, some 2, some 9, some 12, some 19, some 29, some 35], [], [none, none, none, none, some 3, some 7, some 8], [some 4, some 5, some 6], [], [], [], [], [], [some 2, some 10, some 11], [], [], [some 13, some 17, some 18], [some 14, some 15, some 16], [], [], [], [], [], [some 2, none, none, none, some 20, some 21, some 22, some 23, some 24, some 25, some 26, some 27, some 28], [], [], [], [], [], [], [], [], [], [some 2, some 19, some 1, some 30, some 31, some 32, some 33, some 34], [], [], [], [], [], [some 2, some 19, some 36, some 37], [], [], [none, none, none, some 39, some 40, some 41, none, some 42, some 43, some 44, none, some 45, some 46, none, some 47, some 48, some 49, some 50, none, some 51, some 52, some 53, none, none, none, none, none, some 54, some 55, some 56, some 57, some 58, some 59, none, some 60, some 61, some 62, some 63, none, none, none, none, none, some 64, none, some 65, some 66, some 67, some 68, some 69, some 70, some 71, some 72]]
def srD : List (List (Option Nat)) := [[none, none, none, none, none, none, none, some 73], [], [], [], [], [], [], [], [], [], [], [], [], [], [], [], [], [], [], [], [], [], [], [], [], [], [], [], [], [], [], [], [], [], [], [], [], [], [], [], [], [], [], [], [], [], [], [], [], [], [], [], [], [], [], [], [], [], [], [], [], [], [], [], [], [], [], [], [], [], [], [], [], [some 2, some 19, some 35, none, none, none, none, none, none, some 74, some 75, some 76, some 77, some 78, some 87, some 88, some 89, some 90, some 91], [], [], [], [], [some 79, some 80, some 81, some 82, some 83, some 84, some 85, some 86]]
/-- the references that the two constructors set -/
def sref (k j : Nat) : Option Nat := (srT.getD k []).getD j none
def srefD (k j : Nat) : Option Nat := (srD.getD k []).getD j none
/-- both objects are made -/
def Std (n : Nat) (ρ : Rho) : Prop := 73 ≤ n ∧ ∀ k j r, sref k j = some r → ρ k j = some r
/-- the rows of draw are made too -/
def StdD (n : Nat) (ρ : Rho) : Prop := 92 ≤ n ∧ ∀ k j r, srefD k j = some r → ρ k j = some r
theorem Std.lt {n : Nat} {ρ : Rho} (h : Std n ρ) {k : Nat} (hk : Nat.ble (k + 1) 73 = true) : k < n := Nat.lt_of_lt_of_le (Nat.le_of_ble_eq_true hk) h.1
theorem Std.rf {n : Nat} {ρ : Rho} (h : Std n ρ) {k j r : Nat} (hk : sref k j = some r) : ρ k j = some r := h.2 k j r hk
theorem StdD.lt {n : Nat} {ρ : Rho} (h : StdD n ρ) {k : Nat} (hk : Nat.ble (k + 1) 92 = true) : k < n := Nat.lt_of_lt_of_le (Nat.le_of_ble_eq_true hk) h.1
theorem StdD.rf {n : Nat} {ρ : Rho} (h : StdD n ρ) {k j r : Nat} (hk : srefD k j = some r) : ρ k j = some r := h.2 k j r hk
theorem s0 {x0 v : Value} {t : List Value} : (x0 :: t).set 0 v = v :: t := rfl
theorem w0 {x0 y v : Value} {t : List Value} : ((x0 :: y :: t).set 0 v).set (0 + 1) xx = v :: xx :: t := rfl
theorem s1 {x0 x1 v : Value} {t : List Value} : (x0 :: x1 :: t).set 1 v = x0 :: v :: t := rfl
theorem w1 {x0 x1 y v : Value} {t : List Value} : ((x0 :: x1 :: y :: t).set 1 v).set (1 + 1) xx = x0 :: v :: xx :: t := rfl
theorem s2 {x0 x1 x2 v : Value} {t : List Value} : (x0 :: x1 :: x2 :: t).set 2 v = x0 :: x1 :: v :: t := rfl
theorem w2 {x0 x1 x2 y v : Value} {t : List Value} : ((x0 :: x1 :: x2 :: y :: t).set 2 v).set (2 + 1) xx = x0 :: x1 :: v :: xx :: t := rfl
theorem s3 {x0 x1 x2 x3 v : Value} {t : List Value} : (x0 :: x1 :: x2 :: x3 :: t).set 3 v = x0 :: x1 :: x2 :: v :: t := rfl
theorem w3 {x0 x1 x2 x3 y v : Value} {t : List Value} : ((x0 :: x1 :: x2 :: x3 :: y :: t).set 3 v).set (3 + 1) xx = x0 :: x1 :: x2 :: v :: xx :: t := rfl
theorem s4 {x0 x1 x2 x3 x4 v : Value} {t : List Value} : (x0 :: x1 :: x2 :: x3 :: x4 :: t).set 4 v = x0 :: x1 :: x2 :: x3 :: v :: t := rfl
theorem w4 {x0 x1 x2 x3 x4 y v : Value} {t : List Value} : ((x0 :: x1 :: x2 :: x3 :: x4 :: y :: t).set 4 v).set (4 + 1) xx = x0 :: x1 :: x2 :: x3 :: v :: xx :: t := rfl
theorem s5 {x0 x1 x2 x3 x4 x5 v : Value} {t : List Value} : (x0 :: x1 :: x2 :: x3 :: x4 :: x5 :: t).set 5 v = x0 :: x1 :: x2 :: x3 :: x4 :: v :: t := rfl
theorem w5 {x0 x1 x2 x3 x4 x5 y v : Value} {t : List Value} : ((x0 :: x1 :: x2 :: x3 :: x4 :: x5 :: y :: t).set 5 v).set (5 + 1) xx = x0 :: x1 :: x2 :: x3 :: x4 :: v :: xx :: t := rfl
theorem s6 {x0 x1 x2 x3 x4 x5 x6 v : Value} {t : List Value} : (x0 :: x1 :: x2 :: x3 :: x4 :: x5 :: x6 :: t).set 6 v = x0 :: x1 :: x2 :: x3 :: x4 :: x5 :: v :: t := rfl
theorem w6 {x0 x1 x2 x3 x4 x5 x6 y v : Value} {t : List Value} : ((x0 :: x1 :: x2 :: x3 :: x4 :: x5 :: x6 :: y :: t).set 6 v).set (6 + 1) xx = x0 :: x1 :: x2 :: x3 :: x4 :: x5 :: v :: xx :: t := rfl
theorem s7 {x0 x1 x2 x3 x4 x5 x6 x7 v : Value} {t : List Value} : (x0 :: x1 :: x2 :: x3 :: x4 :: x5 :: x6 :: x7 :: t).set 7 v = x0 :: x1 :: x2 :: x3 :: x4 :: x5 :: x6 :: v :: t := rfl
theorem w7 {x0 x1 x2 x3 x4 x5 x6 x7 y v : Value} {t : List Value} : ((x0 :: x1 :: x2 :: x3 :: x4 :: x5 :: x6 :: x7 :: y :: t).set 7 v).set (7 + 1) xx = x0 :: x1 :: x2 :: x3 :: x4 :: x5 :: x6 :: v :: xx :: t := rfl
theorem s8 {x0 x1 x2 x3 x4 x5 x6 x7 x8 v : Value} {t : List Value} : (x0 :: x1 :: x2 :: x3 :: x4 :: x5 :: x6 :: x7 :: x8 :: t).set 8 v = x0 :: x1 :: x2 :: x3 :: x4 :: x5 :: x6 :: x7 :: v :: t := rfl
theorem w8 {x0 x1 x2 x3 x4 x5 x6 x7 x8 y v : Value} {t : List Value} : ((x0 :: x1 :: x2 :: x3 :: x4 :: x5 :: x6 :: x7 :: x8 :: y :: t).set 8 v).set (8 + 1) xx = x0 :: x1 :: x2 :: x3 :: x4 :: x5 :: x6 :: x7 :: v :: xx :: t := rfl
theorem s9 {x0 x1 x2 x3 x4 x5 x6 x7 x8 x9 v : Value} {t : List Value} : (x0 :: x1 :: x2 :: x3 :: x4 :: x5 :: x6 :: x7 :: x8 :: x9 :: t).set 9 v = x0 :: x1 :: x2 :: x3 :: x4 :: x5 :: x6 :: x7 :: x8 :: v :: t := rfl
theorem w9 {x0 x1 x2 x3 x4 x5 x6 x7 x8 x9 y v : Value} {t : List Value} : ((x0 :: x1 :: x2 :: x3 :: x4 :: x5 :: x6 :: x7 :: x8 :: x9 :: y :: t).set 9 v).set (9 + 1) xx = x0 :: x1 :: x2 :: x3 :: x4 :: x5 :: x6 :: x7 :: x8 :: v :: xx :: t := rfl
theorem s10 {x0 x1 x2 x3 x4 x5 x6 x7 x8 x9 x10 v : Value} {t : List Value} : (x0 :: x1 :: x2 :: x3 :: x4 :: x5 :: x6 :: x7 :: x8 :: x9 :: x10 :: t).set 10 v = x0 :: x1 :: x2 :: x3 :: x4 :: x5 :: x6 :: x7 :: x8 :: x9 :: v :: t := rfl
theorem w10 {x0 x1 x2 x3 x4 x5 x6 x7 x8 x9 x10 y v : Value} {t : List Value} : ((x0 :: x1 :: x2 :: x3 :: x4 :: x5 :: x6 :: x7 :: x8 :: x9 :: x10 :: y :: t).set 10 v).set (10 + 1) xx = x0 :: x1 :: x2 :: x3 :: x4 :: x5 :: x6 :: x7 :: x8 :: x9 :: v :: xx :: t := rfl
theorem s11 {x0 x1 x2 x3 x4 x5 x6 x7 x8 x9 x10 x11 v : Value} {t : List Value} : (x0 :: x1 :: x2 :: x3 :: x4 :: x5 :: x6 :: x7 :: x8 :: x9 :: x10 :: x11 :: t).set 11 v = x0 :: x1 :: x2 :: x3 :: x4 :: x5 :: x6 :: x7 :: x8 :: x9 :: x10 :: v :: t := rfl
theorem w11 {x0 x1 x2 x3 x4 x5 x6 x7 x8 x9 x10 x11 y v : Value} {t : List Value} : ((x0 :: x1 :: x2 :: x3 :: x4 :: x5 :: x6 :: x7 :: x8 :: x9 :: x10 :: x11 :: y :: t).set 11 v).set (11 + 1) xx = x0 :: x1 :: x2 :: x3 :: x4 :: x5 :: x6 :: x7 :: x8 :: x9 :: x10 :: v :: xx :: t := rfl
theorem s12 {x0 x1 x2 x3 x4 x5 x6 x7 x8 x9 x10 x11 x12 v : Value} {t : List Value} : (x0 :: x1 :: x2 :: x3 :: x4 :: x5 :: x6 :: x7 :: x8 :: x9 :: x10 :: x11 :: x12 :: t).set 12 v = x0 :: x1 :: x2 :: x3 :: x4 :: x5 :: x6 :: x7 :: x8 :: x9 :: x10 :: x11 :: v :: t := rfl
theorem w12 {x0 x1 x2 x3 x4 x5 x6 x7 x8 x9 x10 x11 x12 y v : Value} {t : List Value} : ((x0 :: x1 :: x2 :: x3 :: x4 :: x5 :: x6 :: x7 :: x8 :: x9 :: x10 :: x11 :: x12 :: y :: t).set 12 v).set (12 + 1) xx = x0 :: x1 :: x2 :: x3 :: x4 :: x5 :: x6 :: x7 :: x8 :: x9 :: x10 :: x11 :: v :: xx :: t := rfl
theorem s13 {x0 x1 x2 x3 x4 x5 x6 x7 x8 x9 x10 x11 x12 x13 v : Value} {t : List Value} : (x0 :: x1 :: x2 :: x3 :: x4 :: x5 :: x6 :: x7 :: x8 :: x9 :: x10 :: x11 :: x12 :: x13 :: t).set 13 v = x0 :: x1 :: x2 :: x3 :: x4 :: x5 :: x6 :: x7 :: x8 :: x9 :: x10 :: x11 :: x12 :: v :: t := rfl
theorem w13 {x0 x1 x2 x3 x4 x5 x6 x7 x8 x9 x10 x11 x12 x13 y v : Value} {t : List Value} : ((x0 :: x1 :: x2 :: x3 :: x4 :: x5 :: x6 :: x7 :: x8 :: x9 :: x10 :: x11 :: x12 :: x13 :: y :: t).set 13 v).set (13 + 1) xx = x0 :: x1 :: x2 :: x3 :: x4 :: x5 :: x6 :: x7 :: x8 :: x9 :: x10 :: x11 :: x12 :: v :: xx :: t := rfl
theorem s14 {x0 x1 x2 x3 x4 x5 x6 x7 x8 x9 x10 x11 x12 x13 x14 v : Value} {t : List Value} : (x0 :: x1 :: x2 :: x3 :: x4 :: x5 :: x6 :: x7 :: x8 :: x9 :: x10 :: x11 :: x12 :: x13 :: x14 :: t).set 14 v = x0 :: x1 :: x2 :: x3 :: x4 :: x5 :: x6 :: x7 :: x8 :: x9 :: x10 :: x11 :: x12 :: x13 :: v :: t := rfl
theorem w14 {x0 x1 x2 x3 x4 x5 x6 x7 x8 x9 x10 x11 x12 x13 x14 y v : Value} {t : List Value} : ((x0 :: x1 :: x2 :: x3 :: x4 :: x5 :: x6 :: x7 :: x8 :: x9 :: x10 :: x11 :: x12 :: x13 :: x14 :: y :: t).set 14 v).set (14 + 1) xx = x0 :: x1 :: x2 :: x3 :: x4 :: x5 :: x6 :: x7 :: x8 :: x9 :: x10 :: x11 :: x12 :: x13 :: v :: xx :: t := rfl
theorem s15 {x0 x1 x2 x3 x4 x5 x6 x7 x8 x9 x10 x11 x12 x13 x14 x15 v : Value} {t : List Value} : (x0 :: x1 :: x2 :: x3 :: x4 :: x5 :: x6 :: x7 :: x8 :: x9 :: x10 :: x11 :: x12 :: x13 :: x14 :: x15 :: t).set 15 v = x0 :: x1 :: x2 :: x3 :: x4 :: x5 :: x6 :: x7 :: x8 :: x9 :: x10 :: x11 :: x12 :: x13 :: x14 :: v :: t := rfl
theorem w15 {x0 x1 x2 x3 x4 x5 x6 x7 x8 x9 x10 x11 x12 x13 x14 x15 y v : Value} {t : List Value} : ((x0 :: x1 :: x2 :: x3 :: x4 :: x5 :: x6 :: x7 :: x8 :: x9 :: x10 :: x11 :: x12 :: x13 :: x14 :: x15 :: y :: t).set 15 v).set (15 + 1) xx = x0 :: x1 :: x2 :: x3 :: x4 :: x5 :: x6 :: x7 :: x8 :: x9 :: x10 :: x11 :: x12 :: x13 :: x14 :: v :: xx :: t := rfl
theorem s16 {x0 x1 x2 x3 x4 x5 x6 x7 x8 x9 x10 x11 x12 x13 x14 x15 x16 v : Value} {t : List Value} : (x0 :: x1 :: x2 :: x3 :: x4 :: x5 :: x6 :: x7 :: x8 :: x9 :: x10 :: x11 :: x12 :: x13 :: x14 :: x15 :: x16 :: t).set 16 v = x0 :: x1 :: x2 :: x3 :: x4 :: x5 :: x6 :: x7 :: x8 :: x9 :: x10 :: x11 :: x12 :: x13 :: x14 :: x15 :: v :: t := rfl
theorem w16 {x0 x1 x2 x3 x4 x5 x6 x7 x8 x9 x10 x11 x12 x13 x14 x15 x16 y v : Value} {t : List Value} : ((x0 :: x1 :: x2 :: x3 :: x4 :: x5 :: x6 :: x7 :: x8 :: x9 :: x10 :: x11 :: x12 :: x13 :: x14 :: x15 :: x16 :: y :: t).set 16 v).set (16 + 1) xx = x0 :: x1 :: x2 :: x3 :: x4 :: x5 :: x6 :: x7 :: x8 :: x9 :: x10 :: x11 :: x12 :: x13 :: x14 :: x15 :: v :: xx :: t := rfl
theorem s17 {x0 x1 x2 x3 x4 x5 x6 x7 x8 x9 x10 x11 x12 x13 x14 x15 x16 x17 v : Value} {t : List Value} : (x0 :: x1 :: x2 :: x3 :: x4 :: x5 :: x6 :: x7 :: x8 :: x9 :: x10 :: x11 :: x12 :: x13 :: x14 :: x15 :: x16 :: x17 :: t).set 17 v = x0 :: x1 :: x2 :: x3 :: x4 :: x5 :: x6 :: x7 :: x8 :: x9 :: x10 :: x11 :: x12 :: x13 :: x14 :: x15 :: x16 :: v :: t := rfl
theorem w17 {x0 x1 x2 x3 x4 x5 x6 x7 x8 x9 x10 x11 x12 x13 x14 x15 x16 x17 y v : Value} {t : List Value} : ((x0 :: x1 :: x2 :: x3 :: x4 :: x5 :: x6 :: x7 :: x8 :: x9 :: x10 :: x11 :: x12 :: x13 :: x14 :: x15 :: x16 :: x17 :: y :: t).set 17 v).set (17 + 1) xx = x0 :: x1 :: x2 :: x3 :: x4 :: x5 :: x6 :: x7 :: x8 :: x9 :: x10 :: x11 :: x12 :: x13 :: x14 :: x15 :: x16 :: v :: xx :: t := rfl
section RowsG
variable {K : Kx} {φ : Ph} {σ : Si} {pc : Nat} {L L' : List Value} {rest st : List Value}
theorem r_lconst0 (hd : decode K.2.2.1.2.1 pc = .ok (.lconst 0, 1)) (k : RW K φ σ (pc + 1) L (jl 0 :: st)) : RW K φ σ pc L st := r_lconst hd k
theorem r_lconst1 (hd : decode K.2.2.1.2.1 pc = .ok (.lconst 1, 1)) (k : RW K φ σ (pc + 1) L (jl 1 :: st)) : RW K φ σ pc L st := r_lconst hd k
/-- a method that writes nothing, its answer e -/
abbrev RdI (l : Launch) (G : GG) (d : Nat) (M : Mi) (n : Nat) (ρ : Rho) (σ : Si) (av : List Value) (e : Int) : Prop := CtI l G d M n ρ σ av (fun σ' z => σ' = σ ∧ z = e)
abbrev RdJ (l : Launch) (G : GG) (d : Nat) (M : Mi) (n : Nat) (ρ : Rho) (σ : Si) (av : List Value) (e : Int) : Prop := CtJ l G d M n ρ σ av (fun σ' z => σ' = σ ∧ z = e)
theorem q_callVi {M' : Mi} {d k t ix na : Nat} {Q' : Si → Int → Prop} {As : List Value} (hd : decode K.2.2.1.2.1 pc = .ok (.invokevirtual ix, 3)) (hC : CtI K.1 K.2.1 d M' φ.2.2.1 φ.2.2.2 σ (rf K.2.1 k :: As) Q') (hlk : Cond.methodLink K.2.2.1.1.cls ix M'.1 ∈ lw_tbl) (hok : okV M' na) (hna : As.length = na) (hs : (shp k).1 = t) (hk : k < φ.2.2.1) (hcl : (vwCl[t]?).map (fun q => q.1) = some M'.1.cls) (hst : st = As.reverse ++ rf K.2.1 k :: rest) (hcs : catSum rest ≤ 8) (hR : roomOK K.2.2.2.1 d) (hce : φ.1 ≤ K.2.2.2.1.cells ∧ φ.2.1 ≤ K.2.2.2.1.slots)
    (kk : ∀ σ' z, Q' σ' z → RW K φ σ' (pc + 3) L (iv z :: rest)) : RW K φ σ pc L st :=
  r_callV hd hC hlk hok hna hs hk hcl hst hcs hR hce (fun σ' v hQ => by obtain ⟨z, rfl, hq⟩ := hQ; exact kk σ' z hq)
theorem q_callVr {M' : Mi} {d k t ix na : Nat} {e : Int} {As : List Value} (hd : decode K.2.2.1.2.1 pc = .ok (.invokevirtual ix, 3)) (hC : RdI K.1 K.2.1 d M' φ.2.2.1 φ.2.2.2 σ (rf K.2.1 k :: As) e) (hlk : Cond.methodLink K.2.2.1.1.cls ix M'.1 ∈ lw_tbl) (hok : okV M' na) (hna : As.length = na) (hs : (shp k).1 = t) (hk : k < φ.2.2.1) (hcl : (vwCl[t]?).map (fun q => q.1) = some M'.1.cls) (hst : st = As.reverse ++ rf K.2.1 k :: rest) (hcs : catSum rest ≤ 8) (hR : roomOK K.2.2.2.1 d) (hce : φ.1 ≤ K.2.2.2.1.cells ∧ φ.2.1 ≤ K.2.2.2.1.slots)
    (kk : RW K φ σ (pc + 3) L (iv e :: rest)) : RW K φ σ pc L st :=
  r_callV hd hC hlk hok hna hs hk hcl hst hcs hR hce (fun σ' v hQ => by obtain ⟨z, rfl, rfl, rfl⟩ := hQ; exact kk)
theorem q_callVv {M' : Mi} {d k t ix na : Nat} {Q' : Si → Prop} {As : List Value} (hd : decode K.2.2.1.2.1 pc = .ok (.invokevirtual ix, 3)) (hC : CtV K.1 K.2.1 d M' φ.2.2.1 φ.2.2.2 σ (rf K.2.1 k :: As) Q') (hlk : Cond.methodLink K.2.2.1.1.cls ix M'.1 ∈ lw_tbl) (hok : okV M' na) (hna : As.length = na) (hs : (shp k).1 = t) (hk : k < φ.2.2.1) (hcl : (vwCl[t]?).map (fun q => q.1) = some M'.1.cls) (hst : st = As.reverse ++ rf K.2.1 k :: rest) (hcs : catSum rest ≤ 8) (hR : roomOK K.2.2.2.1 d) (hce : φ.1 ≤ K.2.2.2.1.cells ∧ φ.2.1 ≤ K.2.2.2.1.slots)
    (kk : ∀ σ', Q' σ' → RW K φ σ' (pc + 3) L rest) : RW K φ σ pc L st :=
  r_callV hd hC hlk hok hna hs hk hcl hst hcs hR hce (fun σ' v hQ => by obtain ⟨rfl, hq⟩ := hQ; exact kk σ' hq)
theorem q_callSi {M' : Mi} {d ix na : Nat} {Q' : Si → Int → Prop} {As : List Value} (hd : decode K.2.2.1.2.1 pc = .ok (.invokestatic ix, 3)) (hC : CtI K.1 K.2.1 d M' φ.2.2.1 φ.2.2.2 σ As Q') (hlk : Cond.methodLink K.2.2.1.1.cls ix M'.1 ∈ lw_tbl) (hok : okS M' na) (hna : As.length = na) (hst : st = As.reverse ++ rest) (hcs : catSum rest ≤ 8) (hR : roomOK K.2.2.2.1 d) (hce : φ.1 ≤ K.2.2.2.1.cells ∧ φ.2.1 ≤ K.2.2.2.1.slots)
    (kk : ∀ σ' z, Q' σ' z → RW K φ σ' (pc + 3) L (iv z :: rest)) : RW K φ σ pc L st :=
  r_callS hd hC hlk hok hna hst hcs hR hce (fun σ' v hQ => by obtain ⟨z, rfl, hq⟩ := hQ; exact kk σ' z hq)
theorem q_callSr {M' : Mi} {d ix na : Nat} {e : Int} {As : List Value} (hd : decode K.2.2.1.2.1 pc = .ok (.invokestatic ix, 3)) (hC : RdI K.1 K.2.1 d M' φ.2.2.1 φ.2.2.2 σ As e) (hlk : Cond.methodLink K.2.2.1.1.cls ix M'.1 ∈ lw_tbl) (hok : okS M' na) (hna : As.length = na) (hst : st = As.reverse ++ rest) (hcs : catSum rest ≤ 8) (hR : roomOK K.2.2.2.1 d) (hce : φ.1 ≤ K.2.2.2.1.cells ∧ φ.2.1 ≤ K.2.2.2.1.slots)
    (kk : RW K φ σ (pc + 3) L (iv e :: rest)) : RW K φ σ pc L st :=
  r_callS hd hC hlk hok hna hst hcs hR hce (fun σ' v hQ => by obtain ⟨z, rfl, rfl, rfl⟩ := hQ; exact kk)
theorem q_callSj {M' : Mi} {d ix na : Nat} {e : Int} {As : List Value} (hd : decode K.2.2.1.2.1 pc = .ok (.invokestatic ix, 3)) (hC : RdJ K.1 K.2.1 d M' φ.2.2.1 φ.2.2.2 σ As e) (hlk : Cond.methodLink K.2.2.1.1.cls ix M'.1 ∈ lw_tbl) (hok : okS M' na) (hna : As.length = na) (hst : st = As.reverse ++ rest) (hcs : catSum rest ≤ 8) (hR : roomOK K.2.2.2.1 d) (hce : φ.1 ≤ K.2.2.2.1.cells ∧ φ.2.1 ≤ K.2.2.2.1.slots)
    (kk : RW K φ σ (pc + 3) L (jl e :: rest)) : RW K φ σ pc L st :=
  r_callS hd hC hlk hok hna hst hcs hR hce (fun σ' v hQ => by obtain ⟨z, rfl, rfl, rfl⟩ := hQ; exact kk)
theorem q_callSv {M' : Mi} {d ix na : Nat} {Q' : Si → Prop} {As : List Value} (hd : decode K.2.2.1.2.1 pc = .ok (.invokestatic ix, 3)) (hC : CtV K.1 K.2.1 d M' φ.2.2.1 φ.2.2.2 σ As Q') (hlk : Cond.methodLink K.2.2.1.1.cls ix M'.1 ∈ lw_tbl) (hok : okS M' na) (hna : As.length = na) (hst : st = As.reverse ++ rest) (hcs : catSum rest ≤ 8) (hR : roomOK K.2.2.2.1 d) (hce : φ.1 ≤ K.2.2.2.1.cells ∧ φ.2.1 ≤ K.2.2.2.1.slots)
    (kk : ∀ σ', Q' σ' → RW K φ σ' (pc + 3) L rest) : RW K φ σ pc L st :=
  r_callS hd hC hlk hok hna hst hcs hR hce (fun σ' v hQ => by obtain ⟨rfl, hq⟩ := hQ; exact kk σ' hq)
end RowsG
theorem bi_01 (P : Prop) [Decidable P] : bi P = 0 ∨ bi P = 1 := by unfold bi; split <;> simp
theorem bi_t {P : Prop} [Decidable P] (h : P) : bi P = 1 := if_pos h
theorem bi_f {P : Prop} [Decidable P] (h : ¬ P) : bi P = 0 := if_neg h
theorem bi_iff {P Q : Prop} [Decidable P] [Decidable Q] (h : P ↔ Q) : bi P = bi Q := by
  by_cases hp : P
  · rw [bi_t hp, bi_t (h.mp hp)]
  · rw [bi_f hp, bi_f (fun q => hp (h.mpr q))]
