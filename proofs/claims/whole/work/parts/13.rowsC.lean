/-! ROWS: fields, arrays, new cells -/
def up (σ : Si) (k j : Nat) (z : Int) : Si := fun a b => if a = k ∧ b = j then z else σ a b
def upR (ρ : Rho) (k j : Nat) (r : Option Nat) : Rho := fun a b => if a = k ∧ b = j then r else ρ a b
theorem up_same {σ : Si} {k j : Nat} {z : Int} : up σ k j z k j = z := if_pos ⟨rfl, rfl⟩
theorem up_row {σ : Si} {k j a : Nat} {z : Int} (h : a ≠ k) : up σ k j z a = σ a := funext fun b => if_neg (fun q => h q.1)
theorem up_ne {σ : Si} {k j b : Nat} {z : Int} (h : b ≠ j) : up σ k j z k b = σ k b := if_neg (fun q => h q.2)
theorem up_at {σ : Si} {k j b : Nat} {z : Int} : up σ k j z k b = if b = j then z else σ k b := by
  unfold up
  by_cases h : b = j
  · rw [if_pos ⟨rfl, h⟩, if_pos h]
  · rw [if_neg (fun q => h q.2), if_neg h]
theorem upR_row {ρ : Rho} {k j a : Nat} {z : Option Nat} (h : a ≠ k) : upR ρ k j z a = ρ a := funext fun b => if_neg (fun q => h q.1)
theorem upR_at {ρ : Rho} {k j b : Nat} {z : Option Nat} : upR ρ k j z k b = if b = j then z else ρ k b := by
  unfold upR
  by_cases h : b = j
  · rw [if_pos ⟨rfl, h⟩, if_pos h]
  · rw [if_neg (fun q => h q.2), if_neg h]
/-- a field by its number in the pool of a class: field j of class t -/
def fl (own : String) (ix t j : Nat) (d : String) (fin : Bool) : Prop := ∃ C T N, vwCl[t]? = some (C, T, N) ∧ j < N ∧ (T j).2.2.1 = d ∧ (T j).2.2.2 = fin ∧ (T j).1 = C ∧ Cond.fieldLink own ix C (T j).2.1 d ∈ lw_tbl
theorem cls_cases {t : Nat} {q : vw_C} (h : vwCl[t]? = some q) : (t = 0 ∧ q = (RX0, TX0, 19)) ∨ (t = 1 ∧ q = (RX1, TX1, 7)) ∨ (t = 2 ∧ q = (RX2, TX2, 4)) ∨ (t = 3 ∧ q = (RX3, TX3, 3)) ∨ (t = 4 ∧ q = (RX4, TX4, 13)) ∨ (t = 5 ∧ q = (RX6, TX6, 8)) ∨ (t = 6 ∧ q = (RX7, TX7, 3)) ∨ (t = 7 ∧ q = (RX8, TX8, 8)) ∨ (t = 8 ∧ q = (RX9, TX9, 57)) := by
  have hl : t < 9 := (List.getElem?_eq_some_iff.mp h).1
  rcases (show t = 0 ∨ t = 1 ∨ t = 2 ∨ t = 3 ∨ t = 4 ∨ t = 5 ∨ t = 6 ∨ t = 7 ∨ t = 8 by omega) with rfl | rfl | rfl | rfl | rfl | rfl | rfl | rfl | rfl <;> (cases h; simp)
theorem inX0 : ∀ w ∈ u_ws RX0 TX0 19, w ∈ lw_tbl := by decide +kernel
theorem inX1 : ∀ w ∈ u_ws RX1 TX1 7, w ∈ lw_tbl := by decide +kernel
theorem inX2 : ∀ w ∈ u_ws RX2 TX2 4, w ∈ lw_tbl := by decide +kernel
theorem inX3 : ∀ w ∈ u_ws RX3 TX3 3, w ∈ lw_tbl := by decide +kernel
theorem inX4 : ∀ w ∈ u_ws RX4 TX4 13, w ∈ lw_tbl := by decide +kernel
theorem inX6 : ∀ w ∈ u_ws RX6 TX6 8, w ∈ lw_tbl := by decide +kernel
theorem inX7 : ∀ w ∈ u_ws RX7 TX7 3, w ∈ lw_tbl := by decide +kernel
theorem inX8 : ∀ w ∈ u_ws RX8 TX8 8, w ∈ lw_tbl := by decide +kernel
theorem inX9 : ∀ w ∈ u_ws RX9 TX9 57, w ∈ lw_tbl := by decide +kernel
theorem cls_in {t : Nat} {C : String} {T : u_T} {N : Nat} (h : vwCl[t]? = some (C, T, N)) : ∀ w ∈ u_ws C T N, w ∈ lw_tbl := by
  rcases cls_cases h with ⟨-, h⟩ | ⟨-, h⟩ | ⟨-, h⟩ | ⟨-, h⟩ | ⟨-, h⟩ | ⟨-, h⟩ | ⟨-, h⟩ | ⟨-, h⟩ | ⟨-, h⟩ <;> cases h
  · exact inX0
  · exact inX1
  · exact inX2
  · exact inX3
  · exact inX4
  · exact inX6
  · exact inX7
  · exact inX8
  · exact inX9
theorem cls_ty {t : Nat} {C : String} {T : u_T} {N : Nat} (h : vwCl[t]? = some (C, T, N)) : ∃ ty : Nat → FieldType, (∀ k, k < N → parseFieldDescriptor (T k).2.2.1 = some (ty k)) ∧ ∀ a, a < N → ∀ b, b < N → a ≠ b → (T a).2.1 ≠ (T b).2.1 := by
  rcases cls_cases h with ⟨-, h⟩ | ⟨-, h⟩ | ⟨-, h⟩ | ⟨-, h⟩ | ⟨-, h⟩ | ⟨-, h⟩ | ⟨-, h⟩ | ⟨-, h⟩ | ⟨-, h⟩ <;> cases h
  · exact ⟨_, tyX0_ok, nmX0⟩
  · exact ⟨_, tyX1_ok, nmX1⟩
  · exact ⟨_, tyX2_ok, nmX2⟩
  · exact ⟨_, tyX3_ok, nmX3⟩
  · exact ⟨_, tyX4_ok, nmX4⟩
  · exact ⟨_, tyX6_ok, nmX6⟩
  · exact ⟨_, tyX7_ok, nmX7⟩
  · exact ⟨_, tyX8_ok, nmX8⟩
  · exact ⟨_, tyX9_ok, nmX9⟩
/-- the words that calls hand on -/
def lw_gd : List Cond := lw_tbl.filter goodWord
theorem gd_mem {w : Cond} (h : w ∈ lw_tbl) (hg : goodWord w = true) : w ∈ lw_gd := List.mem_filter.mpr ⟨h, hg⟩
theorem ws_good (C : String) (T : u_T) (N : Nat) : ∀ w ∈ u_ws C T N, goodWord w = true := by
  intro w hw
  obtain ⟨k, -, rfl⟩ := List.mem_map.mp hw
  unfold u_lay
  split <;> rfl
theorem Fx.gd {M : Mi} {p : Program} {s : State} {m : MethodId} {args : Array Value} {meth : Method} {c : Code} (F : Fx M p s m args meth c) : ∀ w ∈ lw_gd, w.before args s = true := fun w h => F.2.2.2.2.2.1 w (List.mem_filter.mp h).1 (List.mem_filter.mp h).2
theorem shp_small {k t N : Nat} (h : shp k = (t, N)) : N < 3000 := by
  unfold shp at h
  have key : ∀ q ∈ shpL, q.2 < 3000 := by decide +kernel
  by_cases hk : k < shpL.length
  · rw [List.getD_eq_getElem?_getD, List.getElem?_eq_getElem hk] at h
    have := key _ (List.getElem_mem hk)
    have e : shpL[k] = (t, N) := h
    rw [e] at this
    exact this
  · rw [List.getD_eq_getElem?_getD, List.getElem?_eq_none (by omega)] at h
    cases h
    omega
theorem vwCl_lt {t : Nat} {q : vw_C} (h : vwCl[t]? = some q) : t < 9 := (List.getElem?_eq_some_iff.mp h).1
/-- a cell of numbers is written -/
theorem Wd.set {G : GG} {n : Nat} {ρ ρ' : Rho} {σ σ' : Si} {U : State} {H H1 : Heap} {k : Nat} (h : Wd G n ρ σ U H) (hk : k < n) (hz : H1.size = H.size) (hoq : ∀ q, q ≠ gB G + k → H1[q]? = H[q]?) (hσ : ∀ a, a ≠ k → σ' a = σ a) (hρ : ∀ a, a ≠ k → ρ' a = ρ a) (hat : at_ G ρ' σ' k H1) : Wd G n ρ' σ' U H1 := by
  obtain ⟨h1, h2, h3, h4⟩ := h
  refine ⟨hz.trans h1, fun a ha => ?_, h3, h4.kept (fun q hq => hoq q (fun e => hq (by unfold gA; omega)))⟩
  by_cases e : a = k
  · subst e; exact hat
  · obtain ⟨c1, c2, c3, c4, c5⟩ := h2 a ha
    have hne : H1[gB G + a]? = H[gB G + a]? := hoq _ (by omega)
    unfold at_
    rw [hσ a e, hρ a e, hne]
    refine ⟨c1, c2, c3, c4, fun t C T N ht hc => ?_⟩
    exact (c5 t C T N ht hc).kept hne
section RowsC
variable {K : Kx} {φ : Ph} {σ : Si} {pc : Nat} {L L' : List Value} {st : List Value}
theorem r_getf {ix t j k : Nat} {d : String} {fin : Bool} {v : Value} (hd : decode K.2.2.1.2.1 pc = .ok (.getfield ix, 3)) (hf : fl K.2.2.1.1.cls ix t j d fin) (hs : (shp k).1 = t) (hk : k < φ.2.2.1) (hv : (if isI d = true then iv (σ k j) else rv K.2.1 (φ.2.2.2 k j)) = v) (kk : RW K φ σ (pc + 3) L (v :: st)) : RW K φ σ pc L (rf K.2.1 k :: st) := by
  intro p e s m args below meth c H locs ls F hW hS hl h0
  obtain ⟨C, T, N, hc, hj, e1, e2, e3, hlk⟩ := hf
  obtain ⟨cell, q1, q2, q3, q4⟩ := (hW.2.1 k hk).2.2.2.2 t C T N hs hc
  obtain ⟨hSl, hfc, kC, hkC, hkind⟩ := hW.2.2.1.1 t _ hc
  obtain ⟨cf, kf, fi, f, hi, hsl⟩ := hSl j hj
  rw [e3, e1] at hi
  have hlay := u_lays F.gd (fun w hw => gd_mem (cls_in hc w hw) (ws_good C T N w hw)) hj
  rw [e3, e1] at hlay
  refine W.getf F.1 F.2.1 F.2.2.2.2.1 (F.2.2.2.2.2.1 _ hlk rfl) hi (u_facts hfc hkC hlay hi).1 q1 (by rw [q3]; exact fun h => by cases h) (v := v) ?_ rfl rfl hd (kk p e s m args below meth c H locs ls F hW hS hl h0)
  rw [hsl, q4 j hj]
  unfold fvv
  rw [e1, hv]
theorem r_geti {ix t j k : Nat} {d : String} {fin : Bool} (hd : decode K.2.2.1.2.1 pc = .ok (.getfield ix, 3)) (hf : fl K.2.2.1.1.cls ix t j d fin) (hI : isI d = true) (hs : (shp k).1 = t) (hk : k < φ.2.2.1) (kk : RW K φ σ (pc + 3) L (iv (σ k j) :: st)) : RW K φ σ pc L (rf K.2.1 k :: st) :=
  r_getf hd hf hs hk (by rw [if_pos hI]) kk
theorem r_getr {ix t j k r : Nat} {d : String} {fin : Bool} (hd : decode K.2.2.1.2.1 pc = .ok (.getfield ix, 3)) (hf : fl K.2.2.1.1.cls ix t j d fin) (hI : isI d = false) (hs : (shp k).1 = t) (hk : k < φ.2.2.1) (hr : φ.2.2.2 k j = some r) (kk : RW K φ σ (pc + 3) L (rf K.2.1 r :: st)) : RW K φ σ pc L (rf K.2.1 k :: st) :=
  r_getf hd hf hs hk (by rw [if_neg (by rw [hI]; decide), hr]; rfl) kk
theorem r_getn {ix t j k : Nat} {d : String} {fin : Bool} (hd : decode K.2.2.1.2.1 pc = .ok (.getfield ix, 3)) (hf : fl K.2.2.1.1.cls ix t j d fin) (hI : isI d = false) (hs : (shp k).1 = t) (hk : k < φ.2.2.1) (hr : φ.2.2.2 k j = none) (kk : RW K φ σ (pc + 3) L (.null :: st)) : RW K φ σ pc L (rf K.2.1 k :: st) :=
  r_getf hd hf hs hk (by rw [if_neg (by rw [hI]; decide), hr]; rfl) kk
theorem put_at {G : GG} {ρ ρ' : Rho} {σ σ' : Si} {k t j N : Nat} {C : String} {T : u_T} {v : Value} {H1 : Heap} {cell : Cell} {i : Nat} (hs : (shp k).1 = t) (hc : vwCl[t]? = some (C, T, N)) (hj : j < N) (e1 : H1[gB G + k]? = some (cell.setSlot i v)) (q2 : cell.cls = (gD G).1 t) (q3 : cell.vm = .none) (q4 : ∀ a, a < N → cell.slots[(gD G).2 t a]? = some (fvv G T (ρ k) (σ k) a)) (hi : i = (gD G).2 t j) (hap : ∀ x y, x < N → y < N → x ≠ y → (gD G).2 t x ≠ (gD G).2 t y) (hv : fvv G T (ρ' k) (σ' k) j = v) (ho : ∀ a, a ≠ j → fvv G T (ρ' k) (σ' k) a = fvv G T (ρ k) (σ k) a) : at_ G ρ' σ' k H1 := by
  have hlt := vwCl_lt hc
  refine ⟨fun N' h => ?_, fun N' h => ?_, fun N' h => ?_, fun N' h => ?_, fun t' C' T' N' ht' hc' => ?_⟩
  · rw [h] at hs; simp only at hs; omega
  · rw [h] at hs; simp only at hs; omega
  · rw [h] at hs; simp only at hs; omega
  · rw [h] at hs; simp only at hs; omega
  · have e : t' = t := by rw [← ht', ← hs]
    subst e
    rw [hc] at hc'
    cases hc'
    subst hi
    refine t_OB.to (V := updV (fvv G T (ρ k) (σ k)) j v) ⟨_, e1, q2, q3, t_set q4 hap hj v⟩ (fun a _ => ?_)
    unfold updV
    by_cases ha : a = j
    · rw [if_pos ha, ha, hv]
    · rw [if_neg ha, ho a ha]
theorem r_putg {ix t j k : Nat} {d : String} {v : Value} {ρ' : Rho} {σ' : Si} {ty : FieldType} (hd : decode K.2.2.1.2.1 pc = .ok (.putfield ix, 3)) (hf : fl K.2.2.1.1.cls ix t j d false) (hs : (shp k).1 = t) (hk : k < φ.2.2.1) (hty : parseFieldDescriptor d = some ty) (hn : narrow ty v = v) (hfit : fits ty v = true)
    (hσ : ∀ a, a ≠ k → σ' a = σ a) (hρ : ∀ a, a ≠ k → ρ' a = φ.2.2.2 a) (hv : ∀ T : u_T, (T j).2.2.1 = d → fvv K.2.1 T (ρ' k) (σ' k) j = v) (ho : ∀ (T : u_T) a, a ≠ j → fvv K.2.1 T (ρ' k) (σ' k) a = fvv K.2.1 T (φ.2.2.2 k) (σ k) a)
    (kk : RW K (φ.1, φ.2.1, φ.2.2.1, ρ') σ' (pc + 3) L st) : RW K φ σ pc L (v :: rf K.2.1 k :: st) := by
  intro p e s m args below meth c H locs ls F hW hS hl h0
  obtain ⟨C, T, N, hc, hj, e1, e2, e3, hlk⟩ := hf
  obtain ⟨cell, q1, q2, q3, q4⟩ := (hW.2.1 k hk).2.2.2.2 t C T N hs hc
  obtain ⟨hSl, hfc, kC, hkC, hkind⟩ := hW.2.2.1.1 t _ hc
  obtain ⟨cf, kf, fi, f, hi, hsl⟩ := hSl j hj
  have hin : ∀ w ∈ u_ws C T N, w ∈ lw_gd := fun w hw => gd_mem (cls_in hc w hw) (ws_good C T N w hw)
  have hlay := F.gd _ (hin _ (u_in_lay hj))
  unfold u_lay at hlay
  rw [if_neg (by rw [e2]; decide)] at hlay
  have hst := (u_facts hfc hkC (u_lays F.gd hin hj) hi).1
  obtain ⟨tys, htys, hnm⟩ := cls_ty hc
  have hap := va_apart (own := C) F.gd hin tys htys hnm hW.2.2.1 hc
  have h6 := u_store hfc hkC hkind hlay hi (by rw [e1]; exact hty) hn hfit
  rw [e3, e1] at hi
  refine W.putK F.1 F.2.1 (f := f) ⟨F.2.2.2.2.1, F.2.2.2.2.2.1 _ hlk rfl, ⟨_, _, _, hi⟩, hst⟩ (by rw [q2]; exact h6) q1 q3 (by rw [hsl]; exact k2_hasslot (q4 j hj)) rfl rfl hd fun H' g1 g2 g3 => ?_
  exact kk p e s m args below meth c H' _ ls F (hW.set hk g2 g3 hσ hρ (put_at hs hc hj g1 q2 q3 q4 hsl hap (hv T e1) (fun a ha => ho T a ha))) (hS.put g2 g3 (by unfold gA; omega)) hl h0
theorem r_putgF {ix t j k : Nat} {d : String} {v : Value} {ρ' : Rho} {σ' : Si} {ty : FieldType} (hd : decode K.2.2.1.2.1 pc = .ok (.putfield ix, 3)) (hf : fl K.2.2.1.1.cls ix t j d true) (hin0 : K.2.2.1.1.name = "<init>") (hown : ∀ C T N, vwCl[t]? = some (C, T, N) → C = K.2.2.1.1.cls) (hs : (shp k).1 = t) (hk : k < φ.2.2.1) (hty : parseFieldDescriptor d = some ty) (hn : narrow ty v = v) (hfit : fits ty v = true)
    (hσ : ∀ a, a ≠ k → σ' a = σ a) (hρ : ∀ a, a ≠ k → ρ' a = φ.2.2.2 a) (hv : ∀ T : u_T, (T j).2.2.1 = d → fvv K.2.1 T (ρ' k) (σ' k) j = v) (ho : ∀ (T : u_T) a, a ≠ j → fvv K.2.1 T (ρ' k) (σ' k) a = fvv K.2.1 T (φ.2.2.2 k) (σ k) a)
    (kk : RW K (φ.1, φ.2.1, φ.2.2.1, ρ') σ' (pc + 3) L st) : RW K φ σ pc L (v :: rf K.2.1 k :: st) := by
  intro p e s m args below meth c H locs ls F hW hS hl h0
  obtain ⟨C, T, N, hc, hj, e1, e2, e3, hlk⟩ := hf
  have hC := hown C T N hc
  obtain ⟨cell, q1, q2, q3, q4⟩ := (hW.2.1 k hk).2.2.2.2 t C T N hs hc
  obtain ⟨hSl, hfc, kC, hkC, hkind⟩ := hW.2.2.1.1 t _ hc
  obtain ⟨cf, kf, fi, f, hi, hsl⟩ := hSl j hj
  have hin : ∀ w ∈ u_ws C T N, w ∈ lw_gd := fun w hw => gd_mem (cls_in hc w hw) (ws_good C T N w hw)
  have hlay := F.gd _ (hin _ (u_in_lay hj))
  unfold u_lay at hlay
  rw [if_pos e2] at hlay
  have hst := (u_facts hfc hkC (u_lays F.gd hin hj) hi).1
  obtain ⟨tys, htys, hnm⟩ := cls_ty hc
  have hap := va_apart (own := C) F.gd hin tys htys hnm hW.2.2.1 hc
  have h6 := u_fits hfc hkC hkind (Or.inr hlay) hi (by rw [e1]; exact hty) hn hfit
  have hcf : m.cls = cf := by
    obtain ⟨_, _, c', _, _, _, -, -, hf', -, -, -, hown2, -⟩ := Cond.laysFinal_spec hlay
    have e4 : c' = cf := by have := hi.symm.trans hf'; simp at this; exact this.1.symm
    rw [e3, hC] at hown2
    rw [← e4]; exact Option.some.inj (F.2.2.2.2.1.symm.trans hown2)
  rw [e3, e1] at hi
  refine W.putFinK F.1 F.2.1 F.2.2.2.2.1 (F.2.2.2.2.2.1 _ hlk rfl) hi hst hcf (F.2.2.2.2.2.2.2.1.trans hin0) (by rw [q2]; exact h6) q1 q3 (by rw [hsl]; exact k2_hasslot (q4 j hj)) rfl rfl hd fun H' g1 g2 g3 => ?_
  exact kk p e s m args below meth c H' _ ls F (hW.set hk g2 g3 hσ hρ (put_at hs hc hj g1 q2 q3 q4 hsl hap (hv T e1) (fun a ha => ho T a ha))) (hS.put g2 g3 (by unfold gA; omega)) hl h0
theorem fvv_i {G : GG} {T : u_T} {ρ : Nat → Option Nat} {σ : Si} {k j : Nat} {z : Int} {d : String} (hI : isI d = true) (h : (T j).2.2.1 = d) : fvv G T ρ (up σ k j z k) j = iv z := by
  unfold fvv
  rw [h, if_pos hI, up_same]
theorem fvv_o {G : GG} {T : u_T} {ρ : Nat → Option Nat} {σ : Si} {k j a : Nat} {z : Int} (h : a ≠ j) : fvv G T ρ (up σ k j z k) a = fvv G T ρ (σ k) a := by
  unfold fvv
  rw [up_ne h]
/-- a number's field is written -/
theorem r_puti {ix t j k : Nat} {z : Int} (hd : decode K.2.2.1.2.1 pc = .ok (.putfield ix, 3)) (hf : fl K.2.2.1.1.cls ix t j "I" false) (hs : (shp k).1 = t) (hk : k < φ.2.2.1) (kk : RW K φ (up σ k j z) (pc + 3) L st) : RW K φ σ pc L (iv z :: rf K.2.1 k :: st) :=
  r_putg (ty := .int) (ρ' := φ.2.2.2) (σ' := up σ k j z) hd hf hs hk (by decide +kernel) rfl rfl (fun a ha => up_row ha) (fun a _ => rfl) (fun T h => fvv_i (d := "I") (by decide +kernel) h) (fun T a ha => fvv_o ha) kk
theorem nar_z {z : Int} (h : z = 0 ∨ z = 1) : narrow .boolean (iv z) = iv z := by rcases h with rfl | rfl <;> decide +kernel
theorem r_putz {ix t j k : Nat} {z : Int} (hd : decode K.2.2.1.2.1 pc = .ok (.putfield ix, 3)) (hf : fl K.2.2.1.1.cls ix t j "Z" false) (hz : z = 0 ∨ z = 1) (hs : (shp k).1 = t) (hk : k < φ.2.2.1) (kk : RW K φ (up σ k j z) (pc + 3) L st) : RW K φ σ pc L (iv z :: rf K.2.1 k :: st) :=
  r_putg (ty := .boolean) (ρ' := φ.2.2.2) (σ' := up σ k j z) hd hf hs hk (by decide +kernel) (nar_z hz) (by rcases hz with rfl | rfl <;> decide +kernel) (fun a ha => up_row ha) (fun a _ => rfl) (fun T h => fvv_i (d := "Z") (by decide +kernel) h) (fun T a ha => fvv_o ha) kk
theorem fvv_r {G : GG} {T : u_T} {ρ : Rho} {σ : Nat → Int} {k j : Nat} {r : Option Nat} {d : String} (hI : isI d = false) (h : (T j).2.2.1 = d) : fvv G T (upR ρ k j r k) σ j = rv G r := by
  unfold fvv
  rw [h, if_neg (by rw [hI]; decide), upR_at, if_pos rfl]
theorem fvv_ro {G : GG} {T : u_T} {ρ : Rho} {σ : Nat → Int} {k j a : Nat} {r : Option Nat} (h : a ≠ j) : fvv G T (upR ρ k j r k) σ a = fvv G T (ρ k) σ a := by
  unfold fvv
  rw [upR_at, if_neg h]
/-- a reference's final field, in its constructor -/
theorem r_putrF {ix t j k r : Nat} {d : String} {ty : FieldType} (hd : decode K.2.2.1.2.1 pc = .ok (.putfield ix, 3)) (hf : fl K.2.2.1.1.cls ix t j d true) (hI : isI d = false) (hin0 : K.2.2.1.1.name = "<init>") (hown : ∀ C T N, vwCl[t]? = some (C, T, N) → C = K.2.2.1.1.cls) (hs : (shp k).1 = t) (hk : k < φ.2.2.1) (hty : parseFieldDescriptor d = some ty) (hn : ∀ a, narrow ty (.ref a) = .ref a) (hfit : ∀ a, fits ty (.ref a) = true)
    (kk : RW K (φ.1, φ.2.1, φ.2.2.1, upR φ.2.2.2 k j (some r)) σ (pc + 3) L st) : RW K φ σ pc L (rf K.2.1 r :: rf K.2.1 k :: st) :=
  r_putgF (ρ' := upR φ.2.2.2 k j (some r)) (σ' := σ) hd hf hin0 hown hs hk hty (hn _) (hfit _) (fun a _ => rfl) (fun a ha => upR_row ha) (fun T h => fvv_r hI h) (fun T a ha => fvv_ro ha) kk
theorem r_putr {ix t j k r : Nat} {d : String} {ty : FieldType} (hd : decode K.2.2.1.2.1 pc = .ok (.putfield ix, 3)) (hf : fl K.2.2.1.1.cls ix t j d false) (hI : isI d = false) (hs : (shp k).1 = t) (hk : k < φ.2.2.1) (hty : parseFieldDescriptor d = some ty) (hn : ∀ a, narrow ty (.ref a) = .ref a) (hfit : ∀ a, fits ty (.ref a) = true)
    (kk : RW K (φ.1, φ.2.1, φ.2.2.1, upR φ.2.2.2 k j (some r)) σ (pc + 3) L st) : RW K φ σ pc L (rf K.2.1 r :: rf K.2.1 k :: st) :=
  r_putg (ρ' := upR φ.2.2.2 k j (some r)) (σ' := σ) hd hf hs hk hty (hn _) (hfit _) (fun a _ => rfl) (fun a ha => upR_row ha) (fun T h => fvv_r hI h) (fun T a ha => fvv_ro ha) kk
theorem r_putn {ix t j k : Nat} {d : String} {ty : FieldType} (hd : decode K.2.2.1.2.1 pc = .ok (.putfield ix, 3)) (hf : fl K.2.2.1.1.cls ix t j d false) (hI : isI d = false) (hs : (shp k).1 = t) (hk : k < φ.2.2.1) (hty : parseFieldDescriptor d = some ty) (hn : narrow ty .null = .null) (hfit : fits ty .null = true)
    (kk : RW K (φ.1, φ.2.1, φ.2.2.1, upR φ.2.2.2 k j none) σ (pc + 3) L st) : RW K φ σ pc L (.null :: rf K.2.1 k :: st) :=
  r_putg (ρ' := upR φ.2.2.2 k j none) (σ' := σ) hd hf hs hk hty hn hfit (fun a _ => rfl) (fun a ha => upR_row ha) (fun T h => fvv_r hI h) (fun T a ha => fvv_ro ha) kk
end RowsC
