/-! CONTRACTS: a method from a world (n, ρ, σ) ends with (n', ρ', σ') and an answer; calls by contract; ends -/
def wsM (M : Mi) : List Cond := Cond.code M.1 M.2.1 M.2.2.1 M.2.2.2 :: lw_gd
def rmOf (d mc ms : Nat) : Room := { frames := d, cells := mc, slots := ms, locals := 100 * d }
def QcM (G : GG) (n' : Nat) (ρ' : Rho) (Q : Si → Option Value → Prop) : Array Value → State → Outcome → State → Prop := fun _ s o t =>
  ∃ (σ' : Si) (v : Option Value), o = .returned v ∧ Q σ' v ∧ Wd G n' ρ' σ' t t.heap ∧ va_F (gA G) s t
def QtM (G : GG) (n' : Nat) (ρ' : Rho) (Q : Si → Option Value → Prop) (mc ms : Nat) : List Frame → Array Value → State → State → Prop := fun below args s => MQ below (QcM G n' ρ' Q) args s mc ms (gA G)
def PcM (G : GG) (n : Nat) (ρ : Rho) (σ : Si) (av : List Value) : Array Value → State → Prop := va_Pc av (fun U => gB G ≤ U.heap.size ∧ Wd G n ρ σ U U.heap ∧ NW U)
def Ct (l : Launch) (G : GG) (d : Nat) (M : Mi) (mc ms n : Nat) (ρ : Rho) (σ : Si) (av : List Value) (n' : Nat) (ρ' : Rho) (Q : Si → Option Value → Prop) : Prop :=
  Met l M.1 (wsM M) (rmOf d mc ms) (PcM G n ρ σ av) (QcM G n' ρ' Q) mc ms (gA G)
abbrev CtI (l : Launch) (G : GG) (d : Nat) (M : Mi) (n : Nat) (ρ : Rho) (σ : Si) (av : List Value) (Q : Si → Int → Prop) : Prop := Ct l G d M 0 0 n ρ σ av n ρ (fun σ' v => ∃ z, v = some (iv z) ∧ Q σ' z)
abbrev CtJ (l : Launch) (G : GG) (d : Nat) (M : Mi) (n : Nat) (ρ : Rho) (σ : Si) (av : List Value) (Q : Si → Int → Prop) : Prop := Ct l G d M 0 0 n ρ σ av n ρ (fun σ' v => ∃ z, v = some (jl z) ∧ Q σ' z)
abbrev CtV (l : Launch) (G : GG) (d : Nat) (M : Mi) (n : Nat) (ρ : Rho) (σ : Si) (av : List Value) (Q : Si → Prop) : Prop := Ct l G d M 0 0 n ρ σ av n ρ (fun σ' v => v = none ∧ Q σ')
/-- the walk's context of a method by contract -/
abbrev KM (l : Launch) (G : GG) (d : Nat) (M : Mi) (mc ms n' : Nat) (ρ' : Rho) (Q : Si → Option Value → Prop) : Kx := (l, G, M, rmOf d mc ms, QtM G n' ρ' Q mc ms)
abbrev KI (l : Launch) (G : GG) (d : Nat) (M : Mi) (n : Nat) (ρ : Rho) (Q : Si → Int → Prop) : Kx := KM l G d M 0 0 n ρ (fun σ' v => ∃ z, v = some (iv z) ∧ Q σ' z)
abbrev KJ (l : Launch) (G : GG) (d : Nat) (M : Mi) (n : Nat) (ρ : Rho) (Q : Si → Int → Prop) : Kx := KM l G d M 0 0 n ρ (fun σ' v => ∃ z, v = some (jl z) ∧ Q σ' z)
abbrev KV (l : Launch) (G : GG) (d : Nat) (M : Mi) (n : Nat) (ρ : Rho) (Q : Si → Prop) : Kx := KM l G d M 0 0 n ρ (fun σ' v => v = none ∧ Q σ')
/-- the locals at a method's start -/
def entL (av : List Value) (nL : Nat) : List Value := let a := av.flatMap (fun v => if isJ v = true then [v, xx] else [v]); a ++ List.replicate (nL - a.length) xx
theorem isJ_cat (v : Value) (h : v ≠ xx) : (if v.category = 2 then 1 else 0) = if isJ v = true then 1 else 0 := by
  cases v <;> first | rfl | simp [Value.category, isJ]
theorem entL_mem : ∀ (av : List Value) (i0 i : Nat) (v : Value), (av.flatMap (fun v => if isJ v = true then [v, xx] else [v]))[i]? = some v → v ≠ xx → (i0 + i, v) ∈ lv_args i0 av
  | [], i0, i, v, h, hv => by cases h
  | a :: as, i0, i, v, h, hv => by
    rw [List.flatMap_cons] at h
    by_cases hj : isJ a = true
    · have hc : a.category = 2 := by cases a <;> first | rfl | cases hj
      rw [if_pos hj] at h
      show _ ∈ (i0, a) :: lv_args (if a.category = 2 then i0 + 2 else i0 + 1) as
      rw [if_pos hc]
      match i, h with
      | 0, h => cases h; exact List.mem_cons_self
      | 1, h => cases h; exact absurd rfl hv
      | i + 2, h =>
        have := entL_mem as (i0 + 2) i v (by simpa using h) hv
        rw [show i0 + (i + 2) = i0 + 2 + i by omega]
        exact List.mem_cons_of_mem _ this
    · have hc : ¬ a.category = 2 := by cases a <;> first | (exact absurd rfl hj) | (intro h; cases h)
      rw [if_neg hj] at h
      show _ ∈ (i0, a) :: lv_args (if a.category = 2 then i0 + 2 else i0 + 1) as
      rw [if_neg hc]
      match i, h with
      | 0, h => cases h; exact List.mem_cons_self
      | i + 1, h =>
        have := entL_mem as (i0 + 1) i v (by simpa using h) hv
        rw [show i0 + (i + 1) = i0 + 1 + i by omega]
        exact List.mem_cons_of_mem _ this
theorem Ct.of {l : Launch} {G : GG} {d : Nat} {M : Mi} {mc ms n : Nat} {ρ : Rho} {σ : Si} {av : List Value} {n' : Nat} {ρ' : Rho} {Q : Si → Option Value → Prop} {L0 : List Value} (hy : plainName M.1.cls = true) (hlen : (lg_sl av).length ≤ M.2.2.1) (hL : entL av M.2.2.1 = L0)
    (h : RW (KM l G d M mc ms n' ρ' Q) (0, 0, n, ρ) σ 0 L0 []) : Ct l G d M mc ms n ρ σ av n' ρ' Q := by
  refine Met.ofW (cc := M.2.1) (maxL := M.2.2.1) (ret := M.2.2.2) hy rfl ?_
  intro p e s m args below meth c s₁ B hml hv
  obtain ⟨rfl, hB, hWd, hNW⟩ := hv
  have hts := atoms_spec (ws := wsM M) B.pre
  rw [lg_entry_eq]
  have hl := lv_entry av (n := M.2.2.1) hlen
  refine h p e s m _ below meth c s.heap [] _ ⟨B.exec, B.bytes, B.returns, hml, findClass_of_methodNamed B.named, fun w hw hg => hts w (List.mem_cons_of_mem _ (gd_mem hw hg)), B.notSynchronized, (name_of_methodNamed B.named B.method).1, hNW⟩ hWd va_S.rf ⟨_, hl, fun i v hi hv => ?_⟩ hB
  have := entL_mem av 0 i v
  rw [Nat.zero_add] at this
  refine this ?_ hv
  rw [← hL] at hi
  unfold entL at hi
  by_cases hlt : i < (av.flatMap (fun v => if isJ v = true then [v, xx] else [v])).length
  · rwa [List.getElem?_append_left hlt] at hi
  · rw [List.getElem?_append_right (by omega)] at hi
    obtain ⟨h1, h2⟩ := List.getElem?_eq_some_iff.mp hi
    rw [List.getElem_replicate] at h2
    exact absurd h2.symm hv
section Ends
variable {l : Launch} {G : GG} {M : Mi} {R : Room} {n' : Nat} {ρ' : Rho} {mc ms : Nat} {σ : Si} {pc : Nat} {L : List Value}
theorem r_ireti {Q : Si → Option Value → Prop} {z : Int} (hd : decode M.2.1 pc = .ok (.ireturn, 1)) (hr : M.2.2.2 = some .int) (hQ : Q σ (some (iv z))) : RW (l, G, M, R, QtM G n' ρ' Q mc ms) (mc, ms, n', ρ') σ pc L [iv z] := by
  intro p e s m args below meth c H locs ls F hW hS hl h0
  have hlocks := F.2.2.2.2.2.2.1
  exact W.iret (v := Int32.ofInt z) F.1 F.2.1 (F.2.2.1.trans hr) (fun t ht hw => ⟨σ, some (iv z), rfl, hQ, by rw [ht]; exact hW.moved hw.alike, hS.F ht⟩) hS.2.2 hd hlocks
theorem r_iretz {Q : Si → Option Value → Prop} {z : Int} (hd : decode M.2.1 pc = .ok (.ireturn, 1)) (hr : M.2.2.2 = some .boolean) (hz : z = 0 ∨ z = 1) (hQ : Q σ (some (iv z))) : RW (l, G, M, R, QtM G n' ρ' Q mc ms) (mc, ms, n', ρ') σ pc L [iv z] := by
  intro p e s m args below meth c H locs ls F hW hS hl h0
  have hlocks := F.2.2.2.2.2.2.1
  exact W.zret (v := Int32.ofInt z) (ty := .boolean) F.1 F.2.1 (F.2.2.1.trans hr) (nar_z hz) (fun t ht hw => ⟨σ, some (iv z), rfl, hQ, by rw [ht]; exact hW.moved hw.alike, hS.F ht⟩) hS.2.2 hd hlocks
theorem r_lret {Q : Si → Option Value → Prop} {z : Int} (hd : decode M.2.1 pc = .ok (.lreturn, 1)) (hr : M.2.2.2 = some .long) (hQ : Q σ (some (jl z))) : RW (l, G, M, R, QtM G n' ρ' Q mc ms) (mc, ms, n', ρ') σ pc L [jl z] := by
  intro p e s m args below meth c H locs ls F hW hS hl h0
  have hlocks := F.2.2.2.2.2.2.1
  exact W.lret (v := Int64.ofInt z) F.1 F.2.1 (F.2.2.1.trans hr) (fun t ht hw => ⟨σ, some (jl z), rfl, hQ, by rw [ht]; exact hW.moved hw.alike, hS.F ht⟩) hS.2.2 hd hlocks
theorem r_vret {Q : Si → Option Value → Prop} (hd : decode M.2.1 pc = .ok (.return_, 1)) (hr : M.2.2.2 = none) (hQ : Q σ none) : RW (l, G, M, R, QtM G n' ρ' Q mc ms) (mc, ms, n', ρ') σ pc L [] := by
  intro p e s m args below meth c H locs ls F hW hS hl h0
  have hlocks := F.2.2.2.2.2.2.1
  exact W.vret F.1 F.2.1 (F.2.2.1.trans hr) (fun t ht hw => ⟨σ, none, rfl, hQ, by rw [ht]; exact hW.moved hw.alike, hS.F ht⟩) hS.2.2 hd hlocks
end Ends
section CallsX
variable {p : Program} {l : Launch} {e : Env} {R : Room} {s : State} {m : MethodId} {args : Array Value} {below : List Frame} {meth : Method} {c : Code} {H : Heap} {locs : List Loc} {cells slots : Nat} {Qw : State → Prop}
theorem call_go {G : GG} {n' : Nat} {ρ' : Rho} {Q : Si → Option Value → Prop} {mc ms pc : Nat} {ls : Array Slot} {st0 rest : List Value} {a : Array Value} (hr : va_Run p l e R s m args below meth c H locs cells slots mc ms (F0 m pc ls st0) rest (QcM G n' ρ' Q a) (gA G)) (hS : va_S (gA G) s.heap H locs)
    (kk : ∀ (σ' : Si) (v : Option Value) (H1 : Heap) (locs1 : List Loc), Q σ' v → Wd G n' ρ' σ' s H1 → va_S (gA G) s.heap H1 locs1 → W p l e R s m args below meth c H1 locs1 (cells + mc) (slots + ms) Qw (F0 m (pc + 3) ls (v.toList ++ rest))) : W p l e R s m args below meth c H locs cells slots Qw (F0 m pc ls st0) := by
  intro T hT X
  obtain ⟨v, st₀, t, T', L, h0, X', hL, e1, e2, ⟨σ', v', hv, hq, hw, hz, hk⟩, st⟩ := hr T hT X
  cases hv
  rw [h0] at hz hk
  have hal : s.vm.Alike t.vm := by rw [← e2]; exact X'.warmed.alike
  obtain ⟨t2, a1, b1⟩ := kk σ' v T'.heap (locs ++ L) hq (by rw [e1]; exact hw.moved hal.symm)
    ⟨Nat.le_trans hS.1 (by rw [e1]; exact hz), fun q h1 h2 => by rw [e1, hk q (Nat.lt_of_lt_of_le h1 hS.1) h2]; exact hS.2.1 q h1 h2, fun q hq => by
      rcases List.mem_append.mp hq with h | h
      · exact hS.2.2 q h
      · exact hL q h⟩ T' rfl X'
  exact ⟨t2, st t2 a1, b1⟩
theorem PcM.blind (G : GG) (n : Nat) (ρ : Rho) (σ : Si) (av : List Value) : FrameBlind (PcM G n ρ σ av) := by
  intro a U g mk h
  obtain ⟨h1, h2, h3, h4, h5⟩ := h
  exact ⟨h1, h2, Wd.moved (u := U) (U := U.calling g mk a) (Vm.Alike.refl U.vm) h3, mn_alike (U := U) (V := U.calling g mk a) (Vm.Alike.refl U.vm) h4, va_Nw.same (u := U) (U := U.calling g mk a) rfl rfl h5⟩
/-- what the tables say of a method that is called -/
def okM (M : Mi) (n : Nat) : Prop := Cond.code M.1 M.2.1 M.2.2.1 M.2.2.2 ∈ lw_tbl ∧ Cond.initialized M.1.cls ∈ lw_tbl ∧ (M.1.cls ≠ "java/lang/invoke/MethodHandle" ∧ M.1.cls ≠ "java/lang/invoke/VarHandle" ∧ (parseMethodDescriptor M.1.desc).map (fun d => d.parameters.length) = some n) ∧ M.2.2.1 ≤ 60
def okV (M : Mi) (n : Nat) : Prop := okM M n ∧ Cond.instanceMethod M.1 ∈ lw_tbl ∧ Cond.selects M.1.cls M.1 M.1 ∈ lw_tbl
def okS (M : Mi) (n : Nat) : Prop := okM M n ∧ Cond.static M.1 ∈ lw_tbl
def okI (M : Mi) (n : Nat) : Prop := okM M n ∧ Cond.instanceMethod M.1 ∈ lw_tbl ∧ M.1.name = "<init>"
theorem wsM_good {M : Mi} {n : Nat} (h : okM M n) : GoodIn lw_gd (wsM M) := by
  intro w hw
  rcases List.mem_cons.mp hw with rfl | hw
  · exact ⟨gd_mem h.1 rfl, good_of_word (w := Cond.code M.1 M.2.1 M.2.2.1 M.2.2.2) rfl⟩
  · exact ⟨hw, good_of_word (List.mem_filter.mp hw).2⟩
end CallsX
/-- room for a call of depth d -/
def roomOK (R : Room) (d : Nat) : Prop := d + 1 ≤ R.frames ∧ 100 * (d + 1) ≤ R.locals
theorem roomOK.of {d d' mc ms : Nat} (h : d' + 1 ≤ d) : roomOK (rmOf d mc ms) d' := ⟨h, by show 100 * (d' + 1) ≤ 100 * d; omega⟩
def catSum (st : List Value) : Nat := (st.map fun v => v.category).sum
section RowsF
variable {K : Kx} {φ : Ph} {σ : Si} {pc : Nat} {L L' : List Value} {rest st : List Value}
theorem r_callV {M' : Mi} {d mc ms k n' t ix na : Nat} {ρ' : Rho} {Q' : Si → Option Value → Prop} {As : List Value} (hd : decode K.2.2.1.2.1 pc = .ok (.invokevirtual ix, 3)) (hC : Ct K.1 K.2.1 d M' mc ms φ.2.2.1 φ.2.2.2 σ (rf K.2.1 k :: As) n' ρ' Q') (hlk : Cond.methodLink K.2.2.1.1.cls ix M'.1 ∈ lw_tbl) (hok : okV M' na) (hna : As.length = na) (hs : (shp k).1 = t) (hk : k < φ.2.2.1) (hcl : (vwCl[t]?).map (fun q => q.1) = some M'.1.cls) (hst : st = As.reverse ++ rf K.2.1 k :: rest) (hcs : catSum rest ≤ 8) (hR : roomOK K.2.2.2.1 d) (hce : φ.1 + mc ≤ K.2.2.2.1.cells ∧ φ.2.1 + ms ≤ K.2.2.2.1.slots)
    (kk : ∀ σ' v, Q' σ' v → RW K (φ.1 + mc, φ.2.1 + ms, n', ρ') σ' (pc + 3) L (v.toList ++ rest)) : RW K φ σ pc L st := by
  subst hst
  intro p e s m args below meth c H locs ls F hW hS hl h0
  obtain ⟨⟨g1, g2, g3, g4⟩, g5, g6⟩ := hok
  have hml : c.maxLocals = ls.size := by rw [F.2.2.2.1]; exact hl.choose_spec.1.1.symm
  cases hq : vwCl[t]? with
  | none => rw [hq] at hcl; cases hcl
  | some q =>
    obtain ⟨C, T, N⟩ := q
    rw [hq] at hcl
    have hC' : C = M'.1.cls := Option.some.inj hcl
    obtain ⟨cell, q1, q2, q3, q4⟩ := (hW.2.1 k hk).2.2.2.2 t C T N hs hq
    have hfc := (hW.2.2.1.1 t _ hq).2.1
    refine call_go (va_runV (As := As) (rest := rest) (C := M'.1.cls) (n := na) ⟨F.1, F.2.1, hml, F.2.2.2.2.1, F.gd⟩ hC ⟨callB_of na F.gd (wsM_good ⟨g1, g2, g3, g4⟩) rfl rfl rfl (F.2.2.2.2.2.1 _ g2 rfl) (F.2.2.2.2.2.1 _ hlk rfl) g3 ⟨hR.1, by show 8 + (M'.2.2.1 + 11) + 100 * d ≤ _; have := hR.2; omega⟩, F.2.2.2.2.2.1 _ g5 rfl, F.2.2.2.2.2.1 _ g6 rfl⟩ ⟨PcM.blind _ _ _ _ _, ⟨cell, q1, by rw [q3]; rfl, by rw [q2, ← hC']; exact hfc⟩, fun U hU hw => ⟨rfl, by rw [hU]; have := hW.1; omega, by rw [hU]; exact hW.moved hw.alike, F.2.2.2.2.2.2.2.2.warm hw⟩⟩ rfl hna rfl rfl (by show 2 * 0 + catSum rest ≤ 8; omega) hd hce) hS (fun σ' v H1 locs1 hQ hW1 hS1 => ?_)
    exact kk σ' v hQ p e s m args below meth c H1 locs1 ls F hW1 hS1 hl h0
theorem r_callS {M' : Mi} {d mc ms n' ix na : Nat} {ρ' : Rho} {Q' : Si → Option Value → Prop} {As : List Value} (hd : decode K.2.2.1.2.1 pc = .ok (.invokestatic ix, 3)) (hC : Ct K.1 K.2.1 d M' mc ms φ.2.2.1 φ.2.2.2 σ As n' ρ' Q') (hlk : Cond.methodLink K.2.2.1.1.cls ix M'.1 ∈ lw_tbl) (hok : okS M' na) (hna : As.length = na) (hst : st = As.reverse ++ rest) (hcs : catSum rest ≤ 8) (hR : roomOK K.2.2.2.1 d) (hce : φ.1 + mc ≤ K.2.2.2.1.cells ∧ φ.2.1 + ms ≤ K.2.2.2.1.slots)
    (kk : ∀ σ' v, Q' σ' v → RW K (φ.1 + mc, φ.2.1 + ms, n', ρ') σ' (pc + 3) L (v.toList ++ rest)) : RW K φ σ pc L st := by
  subst hst
  intro p e s m args below meth c H locs ls F hW hS hl h0
  obtain ⟨⟨g1, g2, g3, g4⟩, g5⟩ := hok
  have hml : c.maxLocals = ls.size := by rw [F.2.2.2.1]; exact hl.choose_spec.1.1.symm
  refine call_go (va_runS (As := As) (rest := rest) (n := na) ⟨F.1, F.2.1, hml, F.2.2.2.2.1, F.gd⟩ hC ⟨callB_of na F.gd (wsM_good ⟨g1, g2, g3, g4⟩) rfl rfl rfl (F.2.2.2.2.2.1 _ g2 rfl) (F.2.2.2.2.2.1 _ hlk rfl) g3 ⟨hR.1, by show 8 + (M'.2.2.1 + 11) + 100 * d ≤ _; have := hR.2; omega⟩, F.2.2.2.2.2.1 _ g5 rfl⟩ ⟨PcM.blind _ _ _ _ _, fun U hU hw => ⟨rfl, by rw [hU]; have := hW.1; omega, by rw [hU]; exact hW.moved hw.alike, F.2.2.2.2.2.2.2.2.warm hw⟩⟩ rfl hna rfl rfl (by show 2 * 0 + catSum rest ≤ 8; omega) hd hce) hS (fun σ' v H1 locs1 hQ hW1 hS1 => ?_)
  exact kk σ' v hQ p e s m args below meth c H1 locs1 ls F hW1 hS1 hl h0
theorem r_callI {M' : Mi} {d mc ms k n' ix na : Nat} {ρ' : Rho} {Q' : Si → Option Value → Prop} {As : List Value} (hd : decode K.2.2.1.2.1 pc = .ok (.invokespecial ix, 3)) (hC : Ct K.1 K.2.1 d M' mc ms φ.2.2.1 φ.2.2.2 σ (rf K.2.1 k :: As) n' ρ' Q') (hret : M'.2.2.2 = none) (hlk : Cond.methodLink K.2.2.1.1.cls ix M'.1 ∈ lw_tbl) (hok : okI M' na) (hna : As.length = na) (hst : st = As.reverse ++ rf K.2.1 k :: rest) (hcs : catSum rest ≤ 8) (hR : roomOK K.2.2.2.1 d) (hce : φ.1 + mc ≤ K.2.2.2.1.cells ∧ φ.2.1 + ms ≤ K.2.2.2.1.slots)
    (kk : ∀ σ' v, Q' σ' v → RW K (φ.1 + mc, φ.2.1 + ms, n', ρ') σ' (pc + 3) L (v.toList ++ rest)) : RW K φ σ pc L st := by
  subst hst
  intro p e s m args below meth c H locs ls F hW hS hl h0
  obtain ⟨⟨g1, g2, g3, g4⟩, g5, g6⟩ := hok
  have hml : c.maxLocals = ls.size := by rw [F.2.2.2.1]; exact hl.choose_spec.1.1.symm
  have hcw := callB_of (R := K.2.2.2.1) (rm := rmOf d mc ms) na F.gd (wsM_good ⟨g1, g2, g3, g4⟩) rfl rfl rfl (F.2.2.2.2.2.1 _ g2 rfl) (F.2.2.2.2.2.1 _ hlk rfl) g3 ⟨hR.1, by show 8 + (M'.2.2.1 + 11) + 100 * d ≤ _; have := hR.2; omega⟩
  rw [hret] at hcw
  refine call_go (va_runI (As := As) (rest := rest) (n := na) ⟨F.1, F.2.1, hml, F.2.2.2.2.1, F.gd⟩ hC ⟨hcw, g6, F.2.2.2.2.2.1 _ g5 rfl⟩ ⟨PcM.blind _ _ _ _ _, fun U hU hw => ⟨rfl, by rw [hU]; have := hW.1; omega, by rw [hU]; exact hW.moved hw.alike, F.2.2.2.2.2.2.2.2.warm hw⟩⟩ rfl hna rfl rfl (by show 2 * 0 + catSum rest ≤ 8; omega) hd hce) hS (fun σ' v H1 locs1 hQ hW1 hS1 => ?_)
  exact kk σ' v hQ p e s m args below meth c H1 locs1 ls F hW1 hS1 hl h0
theorem r_callIN {M' : Mi} {d mc ms k n' na : Nat} {ρ' : Rho} {Q' : Si → Option Value → Prop} {As : List Value} (hd : decode K.2.2.1.2.1 pc = .ok (.invokespecial 31, 3)) (hC : Ct K.1 K.2.1 d M' mc ms φ.2.2.1 φ.2.2.2 σ (rf K.2.1 k :: As) n' ρ' Q') (hret : M'.2.2.2 = none) (hcls : K.2.2.1.1.cls = "AwardDesk") (hM : M'.1 = yX7_init) (hok : okI M' na) (hna : As.length = na) (hst : st = As.reverse ++ rf K.2.1 k :: rest) (hcs : catSum rest ≤ 8) (hR : roomOK K.2.2.2.1 d) (hce : φ.1 + mc ≤ K.2.2.2.1.cells ∧ φ.2.1 + ms ≤ K.2.2.2.1.slots)
    (kk : ∀ σ' v, Q' σ' v → RW K (φ.1 + mc, φ.2.1 + ms, n', ρ') σ' (pc + 3) L (v.toList ++ rest)) : RW K φ σ pc L st := by
  subst hst
  intro p e s m args below meth c H locs ls F hW hS hl h0
  obtain ⟨⟨g1, g2, g3, g4⟩, g5, g6⟩ := hok
  have hml : c.maxLocals = ls.size := by rw [F.2.2.2.1]; exact hl.choose_spec.1.1.symm
  have hcw := va_cnB (R := K.2.2.2.1) (own := K.2.2.1.1.cls) (host := "AwardDesk") (index := 31) (rm := rmOf d mc ms) na F.gd (wsM_good ⟨g1, g2, g3, g4⟩) rfl rfl rfl (by rw [hcls, hM]; exact F.2.2.2.2.2.2.2.2.2) (F.2.2.2.2.2.1 _ g2 rfl) g3 ⟨hR.1, by show 8 + (M'.2.2.1 + 11) + 100 * d ≤ _; have := hR.2; omega⟩
  rw [hret] at hcw
  refine call_go (va_runIN (As := As) (rest := rest) (n := na) ⟨F.1, F.2.1, hml, F.2.2.2.2.1, F.gd⟩ hC ⟨hcw, g6, F.2.2.2.2.2.1 _ g5 rfl⟩ ⟨PcM.blind _ _ _ _ _, fun U hU hw => ⟨rfl, by rw [hU]; have := hW.1; omega, by rw [hU]; exact hW.moved hw.alike, F.2.2.2.2.2.2.2.2.warm hw⟩⟩ rfl hna rfl rfl (by show 2 * 0 + catSum rest ≤ 8; omega) hd hce) hS (fun σ' v H1 locs1 hQ hW1 hS1 => ?_)
  exact kk σ' v hQ p e s m args below meth c H1 locs1 ls F hW1 hS1 hl h0
theorem r_objInit {ix k : Nat} (hd : decode K.2.2.1.2.1 pc = .ok (.invokespecial ix, 3)) (hlk : Cond.methodLink K.2.2.1.1.cls ix objectInit ∈ lw_tbl) (hin : Cond.instanceMethod objectInit ∈ lw_tbl) (hco : Cond.code objectInit ⟨#[0xb1]⟩ 1 none ∈ lw_tbl) (hfr : 1 ≤ K.2.2.2.1.frames) (hlo : catSum st + 12 ≤ K.2.2.2.1.locals) (kk : RW K φ σ (pc + 3) L st) : RW K φ σ pc L (rf K.2.1 k :: st) := by
  intro p e s m args below meth c H locs ls F hW hS hl h0
  exact W.objInit F.1 F.2.1 F.2.2.2.2.1 (F.2.2.2.2.2.1 _ hlk rfl) (F.2.2.2.2.2.1 _ hin rfl) (F.2.2.2.2.2.1 _ hco rfl) rfl (by rw [F.2.2.2.1]; exact hl.choose_spec.1.1) rfl hd hfr (by show 2 * 0 + catSum st + 12 ≤ _; omega) (kk p e s m args below meth c H locs ls F hW hS hl h0)
end RowsF
