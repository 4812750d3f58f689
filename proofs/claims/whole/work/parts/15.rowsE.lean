/-! ROWS: int[n][m], System.arraycopy, calls, ends; CONTRACTS -/
section RowsE
variable {K : Kx} {φ : Ph} {σ : Si} {pc : Nat} {L L' : List Value} {st : List Value}
theorem r_mna {ix N M : Nat} (hd : decode K.2.2.1.2.1 pc = .ok (.multianewarray ix 2, 4)) (hcl : Cond.classLink K.2.2.1.1.cls ix "[[I" ∈ lw_tbl) (harr : Cond.arrayClass .int ∈ lw_tbl) (hs : shp φ.2.2.1 = (103, N)) (hs2 : ∀ j, j < N → shp (φ.2.2.1 + 1 + j) = (100, M)) (hM : M < 3000) (hρ : ∀ j, j < N → φ.2.2.2 φ.2.2.1 j = some (φ.2.2.1 + 1 + j)) (hσ : ∀ i j, i < N → σ (φ.2.2.1 + 1 + i) j = 0)
    (hce : φ.1 + (1 + N) ≤ K.2.2.2.1.cells) (hsl : φ.2.1 + (N + N * M) ≤ K.2.2.2.1.slots)
    (kk : RW K (φ.1 + 1 + N, φ.2.1 + N + N * M, φ.2.2.1 + 1 + N, φ.2.2.2) σ (pc + 4) L (rf K.2.1 φ.2.2.1 :: st)) : RW K φ σ pc L (iv (M : Int) :: iv (N : Int) :: st) := by
  intro p e s m args below meth c H locs ls F hW hS hl h0
  have hN := shp_small hs
  have n0 : ∀ x : Nat, x < 3000 → ¬ Int32.ofInt (x : Int) < 0 := fun x hx h => by
    have h2 : Int32.ofInt (x : Int) < Int32.ofInt 0 := h
    rw [i32_lt ⟨by omega, by omega⟩ ⟨by omega, by omega⟩] at h2
    omega
  have cN : (Int32.ofInt (N : Int)).toNatClampNeg = N := i32_clamp (by omega)
  have cM : (Int32.ofInt (M : Int)).toNatClampNeg = M := i32_clamp (by omega)
  intro T hT X
  obtain ⟨cA, comp, E, LL, fA, fC, hLL, f1, f2, fo, fi, X', step⟩ := mn_step X F.1 F.2.2.2.2.1 (F.2.2.2.2.2.1 _ hcl rfl) F.2.2.2.2.2.2.2.2.1 (F.2.2.2.2.2.1 _ harr rfl) (g := F0 m pc ls (iv (M : Int) :: iv (N : Int) :: st)) rfl (by rw [F.2.1]; exact hd) rfl (n0 N hN) (n0 M hM) cN cM (by omega) (by omega) (by omega) (by omega)
  have hcI : gI K.2.1 = comp := by
    have h2 : s.vm.findClass "[I" = some (gI K.2.1) := (hW.2.2.1.2 0 _ rfl).2
    exact Option.some.inj (h2.symm.trans fC)
  have hcII : gII K.2.1 = cA := by
    have h2 : s.vm.findClass "[[I" = some (gII K.2.1) := (hW.2.2.1.2 3 _ rfl).2
    exact Option.some.inj (h2.symm.trans fA)
  rw [hT] at f1 f2 fo fi hLL
  have hz := hW.1
  rw [hT] at step
  have hB : gB K.2.1 ≤ H.size := by omega
  have hWE : Wd K.2.1 (φ.2.2.1 + 1 + N) φ.2.2.2 σ s E.heap := by
    obtain ⟨w1, w2, w3, w4⟩ := hW
    refine ⟨by omega, fun a ha => ?_, w3, w4.kept (fun q hq => fo q (by unfold gA at hq; omega))⟩
    by_cases e1 : a < φ.2.2.1
    · obtain ⟨c1, c2, c3, c4, c5⟩ := w2 a e1
      have hne : E.heap[gB K.2.1 + a]? = H[gB K.2.1 + a]? := fo _ (by omega)
      unfold at_
      rw [hne]
      exact ⟨c1, c2, c3, c4, fun t C T N ht hc => (c5 t C T N ht hc).kept hne⟩
    · by_cases e2 : a = φ.2.2.1
      · subst e2
        refine ⟨fun N' h => ?_, fun N' h => ?_, fun N' h => ?_, fun N' h => ?_, fun t' C' T' N' ht' hc' => (arr_no hs (by omega) ht' hc').elim⟩
        · rw [hs] at h; cases h
        · rw [hs] at h; cases h
        · rw [hs] at h; cases h
        · rw [hs] at h; cases h
          rw [← hz, f2, hcII]
          refine congrArg some ?_
          unfold mnO arrV
          congr 1
          refine congrArg Array.ofFn (funext fun j => ?_)
          show va_rf (if j.1 < N then _ else _) = rv K.2.1 (φ.2.2.2 φ.2.2.1 j.1)
          rw [if_pos j.2, hρ j.1 j.2]
          show _ = va_rf (some (gB K.2.1 + (φ.2.2.1 + 1 + j.1)))
          rw [hz]
          congr 2
          omega
      · obtain ⟨j, hj, rfl⟩ : ∃ j, j < N ∧ a = φ.2.2.1 + 1 + j := ⟨a - (φ.2.2.1 + 1), by omega, by omega⟩
        have hsj := hs2 j hj
        have hcell : E.heap[gB K.2.1 + (φ.2.2.1 + 1 + j)]? = some (arrV (gI K.2.1) M (fun i => iv (σ (φ.2.2.1 + 1 + j) i))) := by
          rw [show gB K.2.1 + (φ.2.2.1 + 1 + j) = H.size + 1 + j by omega, fi j hj, hcI]
          refine congrArg some ?_
          unfold mnI
          refine congrArg (arrV comp M) (funext fun i => ?_)
          rw [hσ j i hj]
          rfl
        refine ⟨fun N' h => ?_, fun N' h => ?_, fun N' h => ?_, fun N' h => ?_, fun t' C' T' N' ht' hc' => (arr_no hsj (by omega) ht' hc').elim⟩
        · rw [hsj] at h; cases h; exact hcell
        · rw [hsj] at h; cases h
        · rw [hsj] at h; cases h
        · rw [hsj] at h; cases h
  have hSE := hS.grow (H1 := E.heap) (by omega) fo
  obtain ⟨t, a1, b1⟩ := kk p e s m args below meth c E.heap (locs ++ LL) ls F hWE ⟨hSE.1, hSE.2.1, fun q hq => by
    rcases List.mem_append.mp hq with h | h
    · exact hSE.2.2 q h
    · show gB K.2.1 ≤ q.base
      rw [hLL q h]
      exact hB⟩ hl h0 E rfl X'
  refine ⟨t, step t ?_, b1⟩
  rw [hz]
  exact a1
/-- n places of row k0 from sp come to row k1 from dp -/
def cpy (σ : Si) (k0 k1 sp dp n : Nat) : Si := fun a b => if a = k1 ∧ dp ≤ b ∧ b < dp + n then σ k0 (sp + (b - dp)) else σ a b
theorem cpy_row {σ : Si} {k0 k1 sp dp n a : Nat} (h : a ≠ k1) : cpy σ k0 k1 sp dp n a = σ a := funext fun b => if_neg (fun q => h q.1)
theorem r_copy {ix k0 k1 n0 n1 sp dp n : Nat} (hd : decode K.2.2.1.2.1 pc = .ok (.invokestatic ix, 3)) (hlk : Cond.methodLink K.2.2.1.1.cls ix arraycopyName ∈ lw_tbl) (hnat : Cond.native arraycopyName ∈ lw_tbl) (hstat : Cond.static arraycopyName ∈ lw_tbl) (hini : Cond.initialized "java/lang/System" ∈ lw_tbl) (hs0 : shp k0 = (100, n0)) (hs1 : shp k1 = (100, n1)) (hk0 : k0 < φ.2.2.1) (hk1 : k1 < φ.2.2.1) (h4 : sp + n ≤ n0) (h5 : dp + n ≤ n1)
    (hfr : 1 ≤ K.2.2.2.1.frames) (hlo : (st.map fun v => v.category).sum + (nativeFrameWords "java/lang/System" "arraycopy" 5 + 11) ≤ K.2.2.2.1.locals)
    (kk : RW K φ (cpy σ k0 k1 sp dp n) (pc + 3) L st) : RW K φ σ pc L (iv (n : Int) :: iv (dp : Int) :: rf K.2.1 k1 :: iv (sp : Int) :: rf K.2.1 k0 :: st) := by
  intro p e s m args below meth c H locs ls F hW hS hl h0
  have hN0 := shp_small hs0
  have hN1 := shp_small hs1
  have n0' : ∀ x : Nat, x < 6000 → ¬ Int32.ofInt (x : Int) < 0 := fun x hx h => by
    have h2 : Int32.ofInt (x : Int) < Int32.ofInt 0 := h
    rw [i32_lt ⟨by omega, by omega⟩ ⟨by omega, by omega⟩] at h2
    omega
  have tI : ∀ x : Nat, x < 6000 → (Int32.ofInt (x : Int)).toInt = x := fun x hx => i32_toInt ⟨by omega, by omega⟩
  have cl : ∀ x : Nat, x < 6000 → (Int32.ofInt (x : Int)).toNatClampNeg = x := fun x hx => i32_clamp (by omega)
  intro T hT X
  have hc0 := (hW.2.1 k0 hk0).1 n0 hs0
  have hc1 := (hW.2.1 k1 hk1).1 n1 hs1
  obtain ⟨-, j0, hj0, cm0, hjk0⟩ := (hW.2.2.1.2 0 _ rfl).1 n0 (fun j => iv (σ k0 j))
  obtain ⟨-, j1, hj1, cm1, hjk1⟩ := (hW.2.2.1.2 0 _ rfl).1 n1 (fun j => iv (σ k1 j))
  obtain ⟨vm', X', step⟩ := X.arraycopy F.1 F.2.2.2.2.1 (F.2.2.2.2.2.1 _ hlk rfl) (F.2.2.2.2.2.1 _ hnat rfl) (F.2.2.2.2.2.1 _ hstat rfl) (F.2.2.2.2.2.1 _ hini rfl) (src := gB K.2.1 + k0) (dst := gB K.2.1 + k1) (cs := arrV (gI K.2.1) n0 (fun j => iv (σ k0 j))) (cd := arrV (gI K.2.1) n1 (fun j => iv (σ k1 j))) (srcPos := Int32.ofInt (sp : Int)) (destPos := Int32.ofInt (dp : Int)) (n := Int32.ofInt (n : Int)) (by rw [hT]; exact hc0) (by rw [hT]; exact hc1)
    (fun _ h => by cases h) (fun _ h => by cases h) (fun h => by cases h) (fun h => by cases h) hj0 hj1 hjk0 hjk1 (by rfl) (n0' _ (by omega)) (n0' _ (by omega)) (n0' _ (by omega))
    (by rw [tI sp (by omega), tI n (by omega), arrV_size]; omega)
    (by rw [tI dp (by omega), tI n (by omega), arrV_size]; omega)
    (fun vm₁ _ i hi => by
      rw [cl n (by omega)] at hi
      rw [cl sp (by omega)]
      have e : (arrV (gI K.2.1) n0 (fun j => iv (σ k0 j))).slots.getD (sp + i) .null = iv (σ k0 (sp + i)) := by
        rw [Array.getD_eq_getD_getElem?, arrV_read _ _ (by omega)]
        rfl
      refine ⟨?_, ?_⟩
      · rw [e]; rfl
      · rw [e]; exact trivial)
    (g := F0 m pc ls (iv (n : Int) :: iv (dp : Int) :: rf K.2.1 k1 :: iv (sp : Int) :: rf K.2.1 k0 :: st)) rfl (by rw [F.2.2.2.1]; exact (hl.choose_spec.1.1)) (rest := st) rfl (by rw [F.2.1]; exact hd) hfr (by show 2 * 0 + _ + _ ≤ _; omega)
  have e1 : copied (arrV (gI K.2.1) n0 (fun j => iv (σ k0 j))) (arrV (gI K.2.1) n1 (fun j => iv (σ k1 j))) (Int32.ofInt (sp : Int)) (Int32.ofInt (dp : Int)) (Int32.ofInt (n : Int)) = arrV (gI K.2.1) n1 (fun j => iv (cpy σ k0 k1 sp dp n k1 j)) := by
    have h := va_copied (fun z : Int => iv z) (gI K.2.1) (gI K.2.1) (n0 := n0) (n1 := n1) (sp := sp) (dp := dp) (n := n) (fun j => σ k0 j) (fun j => σ k1 j) h4
    have e2 : (fun j => iv (cpy σ k0 k1 sp dp n k1 j)) = (fun j => iv (va_cpy (fun j => σ k0 j) (fun j => σ k1 j) sp dp n j)) := by
      funext j
      unfold cpy va_cpy
      by_cases hj : dp ≤ j ∧ j < dp + n
      · rw [if_pos ⟨rfl, hj⟩, if_pos hj]
      · rw [if_neg (fun q => hj q.2), if_neg hj]
    rw [e2, ← h]
    unfold copied
    rw [cl sp (by omega), cl dp (by omega), cl n (by omega)]
  rw [e1] at X' step
  have hlt : gB K.2.1 + k1 < H.size := (Array.getElem?_eq_some_iff.mp hc1).1
  have hheap : ((T.setVm vm').setCell (gB K.2.1 + k1) (arrV (gI K.2.1) n1 (fun j => iv (cpy σ k0 k1 sp dp n k1 j)))).heap = H.setIfInBounds (gB K.2.1 + k1) (arrV (gI K.2.1) n1 (fun j => iv (cpy σ k0 k1 sp dp n k1 j))) := by rw [← hT]; rfl
  have oq : ∀ q : Nat, q ≠ gB K.2.1 + k1 → (H.setIfInBounds (gB K.2.1 + k1) (arrV (gI K.2.1) n1 (fun j => iv (cpy σ k0 k1 sp dp n k1 j))))[q]? = H[q]? := fun q hq => by simp [Array.getElem?_setIfInBounds, Ne.symm hq]
  have hcell : (H.setIfInBounds (gB K.2.1 + k1) (arrV (gI K.2.1) n1 (fun j => iv (cpy σ k0 k1 sp dp n k1 j))))[gB K.2.1 + k1]? = some (arrV (gI K.2.1) n1 (fun j => iv (cpy σ k0 k1 sp dp n k1 j))) := by simp [Array.getElem?_setIfInBounds, hlt]
  obtain ⟨t, a1, b1⟩ := kk p e s m args below meth c _ _ ls F (hW.set hk1 (by simp) oq (fun a ha => cpy_row ha) (fun a _ => rfl) ⟨(fun N' h => by rw [hs1] at h; cases h; exact hcell), (fun N' h => by rw [hs1] at h; cases h), (fun N' h => by rw [hs1] at h; cases h), (fun N' h => by rw [hs1] at h; cases h), fun t' C' T' N' ht' hc' => (arr_no hs1 (by omega) ht' hc').elim⟩) ⟨by simp; exact hS.1, fun q g1 g2 => by
      rw [oq q (fun e => g2 (by rw [e]; unfold gA; omega))]
      exact hS.2.1 q g1 g2, fun q hq => by
      rcases List.mem_append.mp hq with h | h
      · exact hS.2.2 q h
      · obtain ⟨z, -, hz⟩ := List.mem_map.mp h
        rw [← hz]
        show gB K.2.1 ≤ _
        simp⟩ hl h0 _ hheap X'
  exact ⟨t, step t a1, b1⟩
end RowsE
