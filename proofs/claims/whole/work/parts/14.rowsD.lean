/-! ROWS: arrays, new cells, what is only read -/
theorem arr_no {k t N t' : Nat} (h : shp k = (t, N)) (ht : 99 < t) (h' : (shp k).1 = t') {q : vw_C} (hc : vwCl[t']? = some q) : False := by
  have := vwCl_lt hc
  rw [h] at h'
  simp only at h'
  omega
section RowsD
variable {K : Kx} {φ : Ph} {σ : Si} {pc : Nat} {L L' : List Value} {st : List Value}
theorem r_iald {k N c : Nat} {i : Int} (hd : decode K.2.2.1.2.1 pc = .ok (.iaload, 1)) (hs : shp k = (100, N)) (hk : k < φ.2.2.1) (hi : i = (c : Int)) (hc : c < N) (kk : RW K φ σ (pc + 1) L (iv (σ k c) :: st)) : RW K φ σ pc L (iv i :: rf K.2.1 k :: st) := by
  subst hi
  intro p e s m args below meth cc H locs ls F hW hS hl h0
  have hN := shp_small hs
  refine W.iald (v := iv (σ k c)) F.1 F.2.1 ((hW.2.1 k hk).1 N hs) ((hW.2.2.1.2 0 _ rfl).1 N (fun j => iv (σ k j))) (fun q => by cases q) (by show vp_in _ (arrV _ _ _).slots.size; rw [arrV_size]; exact vp_in_nat hc (by omega)) (by rw [i32_clamp (by omega), arrV_read _ _ hc]) rfl rfl hd (kk p e s m args below meth cc H locs ls F hW hS hl h0)
theorem r_zald {k N c : Nat} {i : Int} (hd : decode K.2.2.1.2.1 pc = .ok (.baload, 1)) (hs : shp k = (101, N)) (hk : k < φ.2.2.1) (hi : i = (c : Int)) (hc : c < N) (kk : RW K φ σ (pc + 1) L (iv (σ k c) :: st)) : RW K φ σ pc L (iv i :: rf K.2.1 k :: st) := by
  subst hi
  intro p e s m args below meth cc H locs ls F hW hS hl h0
  have hN := shp_small hs
  refine W.zald (v := iv (σ k c)) F.1 F.2.1 ((hW.2.1 k hk).2.1 N hs) ((hW.2.2.1.2 1 _ rfl).1 N (fun j => iv (σ k j))) (fun q => by cases q) (by show vp_in _ (arrV _ _ _).slots.size; rw [arrV_size]; exact vp_in_nat hc (by omega)) (by rw [i32_clamp (by omega), arrV_read _ _ hc]) rfl rfl hd (kk p e s m args below meth cc H locs ls F hW hS hl h0)
theorem r_lald {k N c : Nat} {i : Int} (hd : decode K.2.2.1.2.1 pc = .ok (.laload, 1)) (hs : shp k = (102, N)) (hk : k < φ.2.2.1) (hi : i = (c : Int)) (hc : c < N) (kk : RW K φ σ (pc + 1) L (jl (σ k c) :: st)) : RW K φ σ pc L (iv i :: rf K.2.1 k :: st) := by
  subst hi
  intro p e s m args below meth cc H locs ls F hW hS hl h0
  have hN := shp_small hs
  refine W.lald (v := jl (σ k c)) F.1 F.2.1 ((hW.2.1 k hk).2.2.1 N hs) ((hW.2.2.1.2 2 _ rfl).1 N (fun j => jl (σ k j))) (fun q => by cases q) (by show vp_in _ (arrV _ _ _).slots.size; rw [arrV_size]; exact vp_in_nat hc (by omega)) (by rw [i32_clamp (by omega), arrV_read _ _ hc]) rfl rfl hd (kk p e s m args below meth cc H locs ls F hW hS hl h0)
theorem r_aald {k N c r : Nat} {i : Int} (hd : decode K.2.2.1.2.1 pc = .ok (.aaload, 1)) (hs : shp k = (103, N)) (hk : k < φ.2.2.1) (hi : i = (c : Int)) (hc : c < N) (hr : φ.2.2.2 k c = some r) (kk : RW K φ σ (pc + 1) L (rf K.2.1 r :: st)) : RW K φ σ pc L (iv i :: rf K.2.1 k :: st) := by
  subst hi
  intro p e s m args below meth cc H locs ls F hW hS hl h0
  have hN := shp_small hs
  refine W.aald (ty := .array .int) (v := rf K.2.1 r) F.1 F.2.1 ((hW.2.1 k hk).2.2.2.1 N hs) ((hW.2.2.1.2 3 _ rfl).1 N (fun j => rv K.2.1 (φ.2.2.2 k j))) rfl (fun q => by cases q) (by show vp_in _ (arrV _ _ _).slots.size; rw [arrV_size]; exact vp_in_nat hc (by omega)) (by rw [i32_clamp (by omega), arrV_read _ _ hc, hr]; rfl) rfl rfl hd (kk p e s m args below meth cc H locs ls F hW hS hl h0)
theorem r_alen {k N : Nat} (hd : decode K.2.2.1.2.1 pc = .ok (.arraylength, 1)) (hs : shp k = (100, N)) (hk : k < φ.2.2.1) (kk : RW K φ σ (pc + 1) L (iv (N : Int) :: st)) : RW K φ σ pc L (rf K.2.1 k :: st) := by
  intro p e s m args below meth c H locs ls F hW hS hl h0
  refine W.alen (n := Int32.ofInt (N : Int)) F.1 F.2.1 ((hW.2.1 k hk).1 N hs) ((hW.2.2.1.2 0 _ rfl).1 N (fun j => iv (σ k j))) ?_ rfl rfl hd (kk p e s m args below meth c H locs ls F hW hS hl h0)
  rw [arrV_size]
  rfl
theorem r_iast {k N c : Nat} {i z : Int} (hd : decode K.2.2.1.2.1 pc = .ok (.iastore, 1)) (hs : shp k = (100, N)) (hk : k < φ.2.2.1) (hi : i = (c : Int)) (hc : c < N) (kk : RW K φ (up σ k c z) (pc + 1) L st) : RW K φ σ pc L (iv z :: iv i :: rf K.2.1 k :: st) := by
  subst hi
  intro p e s m args below meth cc H locs ls F hW hS hl h0
  have hN := shp_small hs
  refine W.iast F.1 F.2.1 ((hW.2.1 k hk).1 N hs) ((hW.2.2.1.2 0 _ rfl).1 N (fun j => iv (σ k j))) (fun q => by cases q) (by show vp_in _ (arrV _ _ _).slots.size; rw [arrV_size]; exact vp_in_nat hc (by omega)) rfl rfl hd fun H' g1 g2 g3 => ?_
  have hcell : H'[gB K.2.1 + k]? = some (arrV (gI K.2.1) N (fun j => iv (up σ k c z k j))) := by
    rw [i32_clamp (by omega)] at g1
    rw [g1, arrV_store]
    refine congrArg some (congrArg (arrV _ N) (funext fun j => ?_))
    unfold updV
    by_cases hj : j = c
    · rw [if_pos hj, hj, up_same]; rfl
    · rw [if_neg hj, up_ne hj]
  exact kk p e s m args below meth cc H' _ ls F (hW.set hk g2 g3 (fun a ha => up_row ha) (fun a _ => rfl) ⟨(fun N' h => by rw [hs] at h; cases h; exact hcell), (fun N' h => by rw [hs] at h; cases h), (fun N' h => by rw [hs] at h; cases h), (fun N' h => by rw [hs] at h; cases h), fun t' C' T' N' ht' hc' => (arr_no hs (by omega) ht' hc').elim⟩) (hS.put g2 g3 (by unfold gA; omega)) hl h0
theorem r_zast {k N c : Nat} {i z : Int} (hd : decode K.2.2.1.2.1 pc = .ok (.bastore, 1)) (hs : shp k = (101, N)) (hk : k < φ.2.2.1) (hi : i = (c : Int)) (hc : c < N) (hz : z = 0 ∨ z = 1) (kk : RW K φ (up σ k c z) (pc + 1) L st) : RW K φ σ pc L (iv z :: iv i :: rf K.2.1 k :: st) := by
  subst hi
  intro p e s m args below meth cc H locs ls F hW hS hl h0
  have hN := shp_small hs
  refine W.zast F.1 F.2.1 ((hW.2.1 k hk).2.1 N hs) ((hW.2.2.1.2 1 _ rfl).1 N (fun j => iv (σ k j))) (fun q => by cases q) (by show vp_in _ (arrV _ _ _).slots.size; rw [arrV_size]; exact vp_in_nat hc (by omega)) rfl rfl hd fun H' g1 g2 g3 => ?_
  have hcell : H'[gB K.2.1 + k]? = some (arrV (gZ K.2.1) N (fun j => iv (up σ k c z k j))) := by
    rw [i32_clamp (by omega)] at g1
    rw [show narrow .boolean (.int (Int32.ofInt z)) = iv z from nar_z hz] at g1
    rw [g1, arrV_store]
    refine congrArg some (congrArg (arrV _ N) (funext fun j => ?_))
    unfold updV
    by_cases hj : j = c
    · rw [if_pos hj, hj, up_same]
    · rw [if_neg hj, up_ne hj]
  exact kk p e s m args below meth cc H' _ ls F (hW.set hk g2 g3 (fun a ha => up_row ha) (fun a _ => rfl) ⟨(fun N' h => by rw [hs] at h; cases h), (fun N' h => by rw [hs] at h; cases h; exact hcell), (fun N' h => by rw [hs] at h; cases h), (fun N' h => by rw [hs] at h; cases h), fun t' C' T' N' ht' hc' => (arr_no hs (by omega) ht' hc').elim⟩) (hS.put g2 g3 (by unfold gA; omega)) hl h0
theorem r_last {k N c : Nat} {i z : Int} (hd : decode K.2.2.1.2.1 pc = .ok (.lastore, 1)) (hs : shp k = (102, N)) (hk : k < φ.2.2.1) (hi : i = (c : Int)) (hc : c < N) (kk : RW K φ (up σ k c z) (pc + 1) L st) : RW K φ σ pc L (jl z :: iv i :: rf K.2.1 k :: st) := by
  subst hi
  intro p e s m args below meth cc H locs ls F hW hS hl h0
  have hN := shp_small hs
  refine W.last F.1 F.2.1 ((hW.2.1 k hk).2.2.1 N hs) ((hW.2.2.1.2 2 _ rfl).1 N (fun j => jl (σ k j))) (fun q => by cases q) (by show vp_in _ (arrV _ _ _).slots.size; rw [arrV_size]; exact vp_in_nat hc (by omega)) rfl rfl hd fun H' g1 g2 g3 => ?_
  have hcell : H'[gB K.2.1 + k]? = some (arrV (gJ K.2.1) N (fun j => jl (up σ k c z k j))) := by
    rw [i32_clamp (by omega)] at g1
    rw [g1, arrV_store]
    refine congrArg some (congrArg (arrV _ N) (funext fun j => ?_))
    unfold updV
    by_cases hj : j = c
    · rw [if_pos hj, hj, up_same]; rfl
    · rw [if_neg hj, up_ne hj]
  exact kk p e s m args below meth cc H' _ ls F (hW.set hk g2 g3 (fun a ha => up_row ha) (fun a _ => rfl) ⟨(fun N' h => by rw [hs] at h; cases h), (fun N' h => by rw [hs] at h; cases h), (fun N' h => by rw [hs] at h; cases h; exact hcell), (fun N' h => by rw [hs] at h; cases h), fun t' C' T' N' ht' hc' => (arr_no hs (by omega) ht' hc').elim⟩) (hS.put g2 g3 (by unfold gA; omega)) hl h0
theorem Wd.push {G : GG} {n : Nat} {ρ : Rho} {σ : Si} {U : State} {H H1 : Heap} (h : Wd G n ρ σ U H) (hz : H1.size = H.size + 1) (hoq : ∀ q, q < H.size → H1[q]? = H[q]?) (hlow : gB G ≤ H.size) (hat : at_ G ρ σ n H1) : Wd G (n + 1) ρ σ U H1 := by
  obtain ⟨h1, h2, h3, h4⟩ := h
  have hX := h4.1
  refine ⟨by omega, fun a ha => ?_, h3, h4.kept (fun q hq => hoq q (by unfold gA at hq; omega))⟩
  by_cases e : a = n
  · subst e; exact hat
  · obtain ⟨c1, c2, c3, c4, c5⟩ := h2 a (by omega)
    have hne : H1[gB G + a]? = H[gB G + a]? := hoq _ (by omega)
    unfold at_
    rw [hne]
    exact ⟨c1, c2, c3, c4, fun t C T N ht hc => (c5 t C T N ht hc).kept hne⟩
theorem va_S.grow {A : Nat → Prop} {H0 H H1 : Heap} {locs : List Loc} (hS : va_S A H0 H locs) (hz : H.size ≤ H1.size) (hoq : ∀ q, q < H.size → H1[q]? = H[q]?) : va_S A H0 H1 locs :=
  ⟨Nat.le_trans hS.1 hz, fun q h1 h2 => (hoq q (Nat.lt_of_lt_of_le h1 hS.1)).trans (hS.2.1 q h1 h2), hS.2.2⟩
theorem r_new {ix t N : Nat} {C : String} {T : u_T} (hd : decode K.2.2.1.2.1 pc = .ok (.new ix, 3)) (hc : vwCl[t]? = some (C, T, N)) (hcl : Cond.classLink K.2.2.1.1.cls ix C ∈ lw_tbl) (hinst : Cond.instantiable C N ∈ lw_tbl) (hini : Cond.initialized C ∈ lw_tbl) (hs : (shp φ.2.2.1).1 = t) (hσ : ∀ j, σ φ.2.2.1 j = 0) (hρ : ∀ j, φ.2.2.2 φ.2.2.1 j = none)
    (hdf : ∀ j, j < N → ∀ ty, parseFieldDescriptor (T j).2.2.1 = some ty → defaultValue ty = if isI (T j).2.2.1 = true then iv 0 else .null) (hce : φ.1 + 1 ≤ K.2.2.2.1.cells) (hsl : φ.2.1 + N ≤ K.2.2.2.1.slots)
    (kk : RW K (φ.1 + 1, φ.2.1 + N, φ.2.2.1 + 1, φ.2.2.2) σ (pc + 3) L (rf K.2.1 φ.2.2.1 :: st)) : RW K φ σ pc L st := by
  intro p e s m args below meth c H locs ls F hW hS hl h0
  obtain ⟨tys, htys, hnm⟩ := cls_ty hc
  have hin : ∀ w ∈ u_ws C T N, w ∈ lw_gd := fun w hw => gd_mem (cls_in hc w hw) (ws_good C T N w hw)
  have hKn := hW.2.2.1.1 t _ hc
  have hB : gB K.2.1 ≤ H.size := by have := hW.1; omega
  refine W.newcK F.1 F.2.1 F.2.2.2.2.1 (F.2.2.2.2.2.1 _ hcl rfl) (F.2.2.2.2.2.1 _ hinst rfl) (F.2.2.2.2.2.1 _ hini rfl) rfl hd hce hsl hKn.2.1 hW.1 fun H1 kC hkC e1 z1 o1 => ?_
  refine kk p e s m args below meth c H1 locs ls F (hW.push (by rw [z1, hW.1]) (fun q hq => o1 q (by rw [← hW.1]; exact hq)) hB ?_) (hS.grow (by rw [z1, hW.1]; omega) (fun q hq => o1 q (by rw [← hW.1]; exact hq))) hl h0
  have hlt := vwCl_lt hc
  refine ⟨fun N' h => ?_, fun N' h => ?_, fun N' h => ?_, fun N' h => ?_, fun t' C' T' N' ht' hc' => ?_⟩
  · rw [h] at hs; simp only at hs; omega
  · rw [h] at hs; simp only at hs; omega
  · rw [h] at hs; simp only at hs; omega
  · rw [h] at hs; simp only at hs; omega
  · have e : t' = t := by rw [← ht', ← hs]
    subst e
    rw [hc] at hc'
    cases hc'
    refine (u_born tys F.gd hin hKn hkC e1 htys).to (fun j hj => ?_)
    rw [hdf j hj _ (htys j hj)]
    unfold fvv
    rw [hσ j, hρ j]
    rfl
theorem r_newi {N : Nat} (hd : decode K.2.2.1.2.1 pc = .ok (.newarray .int, 2)) (harr : Cond.arrayClass .int ∈ lw_tbl) (hs : shp φ.2.2.1 = (100, N)) (hσ : ∀ j, σ φ.2.2.1 j = 0) (hce : φ.1 + 1 ≤ K.2.2.2.1.cells) (hsl : φ.2.1 + N ≤ K.2.2.2.1.slots)
    (kk : RW K (φ.1 + 1, φ.2.1 + N, φ.2.2.1 + 1, φ.2.2.2) σ (pc + 2) L (rf K.2.1 φ.2.2.1 :: st)) : RW K φ σ pc L (iv (N : Int) :: st) := by
  intro p e s m args below meth c H locs ls F hW hS hl h0
  have hN := shp_small hs
  have hB : gB K.2.1 ≤ H.size := by have := hW.1; omega
  have hn : ¬ Int32.ofInt (N : Int) < 0 := fun h => by
    have h2 : Int32.ofInt (N : Int) < Int32.ofInt 0 := h
    rw [i32_lt ⟨by omega, by omega⟩ ⟨by omega, by omega⟩] at h2
    omega
  refine va_newaK (atype := .int) F.1 F.2.1 (F.2.2.2.2.2.1 _ harr rfl) rfl hd rfl hn (i32_clamp (by omega)) (by show N * _ ≤ _; simp only [newarray.typeOf, componentBytes]; omega) hce hsl hW.1 fun H1 cA e1 z1 o1 hAr hNm => ?_
  have hcA : gI K.2.1 = cA := by
    have h1 := (hW.2.2.1.2 0 _ rfl).2
    have h2 : s.vm.findClass ("[" ++ (FieldType.int).toString) = some (gI K.2.1) := h1
    exact Option.some.inj (h2.symm.trans hNm)
  have hcell : H1[gB K.2.1 + φ.2.2.1]? = some (arrV (gI K.2.1) N (fun j => iv (σ φ.2.2.1 j))) := by
    rw [e1, hcA]
    refine congrArg some (congrArg (arrV cA N) (funext fun j => ?_))
    rw [hσ j]
    rfl
  exact kk p e s m args below meth c H1 locs ls F (hW.push (by rw [z1, hW.1]) (fun q hq => o1 q (by rw [← hW.1]; exact hq)) hB ⟨(fun N' h => by rw [hs] at h; cases h; exact hcell), (fun N' h => by rw [hs] at h; cases h), (fun N' h => by rw [hs] at h; cases h), (fun N' h => by rw [hs] at h; cases h), fun t' C' T' N' ht' hc' => (arr_no hs (by omega) ht' hc').elim⟩) (hS.grow (by rw [z1, hW.1]; omega) (fun q hq => o1 q (by rw [← hW.1]; exact hq))) hl h0
theorem r_newz {N : Nat} (hd : decode K.2.2.1.2.1 pc = .ok (.newarray .boolean, 2)) (harr : Cond.arrayClass .boolean ∈ lw_tbl) (hs : shp φ.2.2.1 = (101, N)) (hσ : ∀ j, σ φ.2.2.1 j = 0) (hce : φ.1 + 1 ≤ K.2.2.2.1.cells) (hsl : φ.2.1 + N ≤ K.2.2.2.1.slots)
    (kk : RW K (φ.1 + 1, φ.2.1 + N, φ.2.2.1 + 1, φ.2.2.2) σ (pc + 2) L (rf K.2.1 φ.2.2.1 :: st)) : RW K φ σ pc L (iv (N : Int) :: st) := by
  intro p e s m args below meth c H locs ls F hW hS hl h0
  have hN := shp_small hs
  have hB : gB K.2.1 ≤ H.size := by have := hW.1; omega
  have hn : ¬ Int32.ofInt (N : Int) < 0 := fun h => by
    have h2 : Int32.ofInt (N : Int) < Int32.ofInt 0 := h
    rw [i32_lt ⟨by omega, by omega⟩ ⟨by omega, by omega⟩] at h2
    omega
  refine va_newaK (atype := .boolean) F.1 F.2.1 (F.2.2.2.2.2.1 _ harr rfl) rfl hd rfl hn (i32_clamp (by omega)) (by show N * _ ≤ _; simp only [newarray.typeOf, componentBytes]; omega) hce hsl hW.1 fun H1 cA e1 z1 o1 hAr hNm => ?_
  have hcA : gZ K.2.1 = cA := by
    have h1 := (hW.2.2.1.2 1 _ rfl).2
    have h2 : s.vm.findClass ("[" ++ (FieldType.boolean).toString) = some (gZ K.2.1) := h1
    exact Option.some.inj (h2.symm.trans hNm)
  have hcell : H1[gB K.2.1 + φ.2.2.1]? = some (arrV (gZ K.2.1) N (fun j => iv (σ φ.2.2.1 j))) := by
    rw [e1, hcA]
    refine congrArg some (congrArg (arrV cA N) (funext fun j => ?_))
    rw [hσ j]
    rfl
  exact kk p e s m args below meth c H1 locs ls F (hW.push (by rw [z1, hW.1]) (fun q hq => o1 q (by rw [← hW.1]; exact hq)) hB ⟨(fun N' h => by rw [hs] at h; cases h), (fun N' h => by rw [hs] at h; cases h; exact hcell), (fun N' h => by rw [hs] at h; cases h), (fun N' h => by rw [hs] at h; cases h), fun t' C' T' N' ht' hc' => (arr_no hs (by omega) ht' hc').elim⟩) (hS.grow (by rw [z1, hW.1]; omega) (fun q hq => o1 q (by rw [← hW.1]; exact hq))) hl h0
theorem r_newj {N : Nat} (hd : decode K.2.2.1.2.1 pc = .ok (.newarray .long, 2)) (harr : Cond.arrayClass .long ∈ lw_tbl) (hs : shp φ.2.2.1 = (102, N)) (hσ : ∀ j, σ φ.2.2.1 j = 0) (hce : φ.1 + 1 ≤ K.2.2.2.1.cells) (hsl : φ.2.1 + N ≤ K.2.2.2.1.slots)
    (kk : RW K (φ.1 + 1, φ.2.1 + N, φ.2.2.1 + 1, φ.2.2.2) σ (pc + 2) L (rf K.2.1 φ.2.2.1 :: st)) : RW K φ σ pc L (iv (N : Int) :: st) := by
  intro p e s m args below meth c H locs ls F hW hS hl h0
  have hN := shp_small hs
  have hB : gB K.2.1 ≤ H.size := by have := hW.1; omega
  have hn : ¬ Int32.ofInt (N : Int) < 0 := fun h => by
    have h2 : Int32.ofInt (N : Int) < Int32.ofInt 0 := h
    rw [i32_lt ⟨by omega, by omega⟩ ⟨by omega, by omega⟩] at h2
    omega
  refine va_newaK (atype := .long) F.1 F.2.1 (F.2.2.2.2.2.1 _ harr rfl) rfl hd rfl hn (i32_clamp (by omega)) (by show N * _ ≤ _; simp only [newarray.typeOf, componentBytes]; omega) hce hsl hW.1 fun H1 cA e1 z1 o1 hAr hNm => ?_
  have hcA : gJ K.2.1 = cA := by
    have h1 := (hW.2.2.1.2 2 _ rfl).2
    have h2 : s.vm.findClass ("[" ++ (FieldType.long).toString) = some (gJ K.2.1) := h1
    exact Option.some.inj (h2.symm.trans hNm)
  have hcell : H1[gB K.2.1 + φ.2.2.1]? = some (arrV (gJ K.2.1) N (fun j => jl (σ φ.2.2.1 j))) := by
    rw [e1, hcA]
    refine congrArg some (congrArg (arrV cA N) (funext fun j => ?_))
    rw [hσ j]
    rfl
  exact kk p e s m args below meth c H1 locs ls F (hW.push (by rw [z1, hW.1]) (fun q hq => o1 q (by rw [← hW.1]; exact hq)) hB ⟨(fun N' h => by rw [hs] at h; cases h), (fun N' h => by rw [hs] at h; cases h), (fun N' h => by rw [hs] at h; cases h; exact hcell), (fun N' h => by rw [hs] at h; cases h), fun t' C' T' N' ht' hc' => (arr_no hs (by omega) ht' hc').elim⟩) (hS.grow (by rw [z1, hW.1]; omega) (fun q hq => o1 q (by rw [← hW.1]; exact hq))) hl h0
theorem r_slen (hd : decode K.2.2.1.2.1 pc = .ok (.arraylength, 1)) (kk : RW K φ σ (pc + 1) L (iv (gL K.2.1 : Int) :: st)) : RW K φ σ pc L (.ref (gb K.2.1) :: st) := by
  intro p e s m args below meth c H locs ls F hW hS hl h0
  obtain ⟨scr, h1, h2, h3, h4, h5⟩ := hW.2.2.2.1
  refine W.alen (n := Int32.ofInt (gL K.2.1 : Int)) F.1 F.2.1 h1 h2 ?_ rfl rfl hd (kk p e s m args below meth c H locs ls F hW hS hl h0)
  rw [h4]
  rfl
theorem r_sld {c : Nat} {i : Int} (hd : decode K.2.2.1.2.1 pc = .ok (.iaload, 1)) (hi : i = (c : Int)) (hc : c < gL K.2.1) (kk : RW K φ σ (pc + 1) L (iv (gx K.2.1 c).toInt :: st)) : RW K φ σ pc L (iv i :: .ref (gb K.2.1) :: st) := by
  subst hi
  intro p e s m args below meth cc H locs ls F hW hS hl h0
  obtain ⟨scr, h1, h2, h3, h4, h5⟩ := hW.2.2.2.1
  have hL := hW.2.2.2.2.2.1
  refine W.iald (v := iv (gx K.2.1 c).toInt) F.1 F.2.1 h1 h2 h3 (by show vp_in _ scr.slots.size; rw [h4]; exact vp_in_nat hc (by omega)) ?_ rfl rfl hd (kk p e s m args below meth cc H locs ls F hW hS hl h0)
  rw [i32_clamp (by omega), h5 c hc]
  unfold iv
  rw [Int32.ofInt_toInt]
theorem r_getM {ix : Nat} (hd : decode K.2.2.1.2.1 pc = .ok (.getstatic ix, 3)) (hlk : Cond.fieldLink K.2.2.1.1.cls ix "AwardDesk" "MOST_OF_MARK" "[I" ∈ lw_tbl) (kk : RW K φ σ (pc + 3) L (.ref (gM K.2.1) :: st)) : RW K φ σ pc L st := by
  intro p e s m args below meth c H locs ls F hW hS hl h0
  obtain ⟨cf, kf, fi, f, a, cell, h1, h2, h3, h4, h5, h6, h7, h8⟩ := hW.2.2.2.2.2.2.1
  exact W.gets F.1 F.2.1 F.2.2.2.2.1 (F.2.2.2.2.2.1 _ hlk rfl) h1 h2 h3 h4 h5 (fun e => by rw [e] at h6; cases h6) h7 rfl hd (kk p e s m args below meth c H locs ls F hW hS hl h0)
theorem r_getR {ix : Nat} (hd : decode K.2.2.1.2.1 pc = .ok (.getstatic ix, 3)) (hlk : Cond.fieldLink K.2.2.1.1.cls ix "AwardDesk" "MOST_OF_RULE" "[I" ∈ lw_tbl) (kk : RW K φ σ (pc + 3) L (.ref (gR K.2.1) :: st)) : RW K φ σ pc L st := by
  intro p e s m args below meth c H locs ls F hW hS hl h0
  obtain ⟨cf, kf, fi, f, a, cell, h1, h2, h3, h4, h5, h6, h7, h8⟩ := hW.2.2.2.2.2.2.2.2.1
  exact W.gets F.1 F.2.1 F.2.2.2.2.1 (F.2.2.2.2.2.1 _ hlk rfl) h1 h2 h3 h4 h5 (fun e => by rw [e] at h6; cases h6) h7 rfl hd (kk p e s m args below meth c H locs ls F hW hS hl h0)
theorem r_ldM {c : Nat} {i : Int} (hd : decode K.2.2.1.2.1 pc = .ok (.iaload, 1)) (hi : i = (c : Int)) (hc : c < 3) (kk : RW K φ σ (pc + 1) L (iv (mostMark c) :: st)) : RW K φ σ pc L (iv i :: .ref (gM K.2.1) :: st) := by
  subst hi
  intro p e s m args below meth cc H locs ls F hW hS hl h0
  obtain ⟨cell, h1, h2, h3, h4, h5, h6, h7⟩ := hW.2.2.2.2.2.2.2.1
  have hin' : ¬ (Int32.ofInt (c : Int) < 0 ∨ cell.slots.size ≤ (Int32.ofInt (c : Int)).toNatClampNeg) := by
    rintro (q | q)
    · exact vp_in_nat hc (by omega) (Or.inl q)
    · rw [i32_clamp (by omega)] at q; omega
  exact W.iald (v := iv (mostMark c)) F.1 F.2.1 h1 h2 h3 hin' (by rw [i32_clamp (by omega), h6 c hc]) rfl rfl hd (kk p e s m args below meth cc H locs ls F hW hS hl h0)
theorem r_ldR {c : Nat} {i : Int} (hd : decode K.2.2.1.2.1 pc = .ok (.iaload, 1)) (hi : i = (c : Int)) (hc : c < 5) (kk : RW K φ σ (pc + 1) L (iv (mostRule c) :: st)) : RW K φ σ pc L (iv i :: .ref (gR K.2.1) :: st) := by
  subst hi
  intro p e s m args below meth cc H locs ls F hW hS hl h0
  obtain ⟨cell, h1, h2, h3, h4, h5, h6, h7⟩ := hW.2.2.2.2.2.2.2.2.2
  have hin' : ¬ (Int32.ofInt (c : Int) < 0 ∨ cell.slots.size ≤ (Int32.ofInt (c : Int)).toNatClampNeg) := by
    rintro (q | q)
    · exact vp_in_nat hc (by omega) (Or.inl q)
    · rw [i32_clamp (by omega)] at q; omega
  exact W.iald (v := iv (mostRule c)) F.1 F.2.1 h1 h2 h3 hin' (by rw [i32_clamp (by omega), h6 c hc]) rfl rfl hd (kk p e s m args below meth cc H locs ls F hW hS hl h0)
end RowsD
