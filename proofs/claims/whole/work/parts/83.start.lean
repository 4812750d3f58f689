/-! THE LAW'S ENTRY -/
theorem arr_known {args : Array Value} {s : State} {ty : FieldType} (hno : ∀ C, ty ≠ .object C) (h : (Cond.arrayClass ty).before args s = true) : ∃ cA : ClassId, ArrOfT s cA ty ∧ va_RA s cA ty := by
  obtain ⟨cA, kA, comp, h1, h2, h3⟩ := Cond.arrayClass_spec h
  refine ⟨cA, fun n z => ⟨fun k h => (by cases h), kA, h2, comp, h3⟩, ?_⟩
  cases ty with
  | object C => exact absurd rfl (hno C)
  | _ => exact h1
theorem arr2_known {args : Array Value} {s : State} (h : (Cond.arrayOver (.array .int)).before args s = true) : ∃ cA : ClassId, ArrOfT s cA (.array .int) ∧ va_RA s cA (.array .int) := by
  obtain ⟨comp, cA, kA, -, -, h1, h2, h3⟩ := mn_over h
  exact ⟨cA, fun n z => ⟨fun k h => (by cases h), kA, h2, comp, h3⟩, h1⟩
theorem over_in : Cond.arrayOver (.array .int) ∈ lw_tbl := by decide +kernel
theorem nest_in : Cond.methodLinkNest "AwardDesk" 31 yX7_init "AwardDesk" ∈ lw_tbl := by decide +kernel
theorem lsM_in : Cond.laysStatic "AwardDesk" "MOST_OF_MARK" "[I" ∈ lw_tbl := by decide +kernel
theorem lsR_in : Cond.laysStatic "AwardDesk" "MOST_OF_RULE" "[I" ∈ lw_tbl := by decide +kernel
set_option maxHeartbeats 4000000 in
/-- from the entry, for every script of at most 3072 ints, the law comes to its end with true -/
theorem whole_start {p : Program} {e : Env} {s : State} {m : MethodId} {below : List Frame} {meth : Method} {c : Code} (l : Launch) {b L : Nat} {xs : Nat → Int32} (hL : L ≤ 3072) (C0 : lw_At p s m meth c b L xs) : W p l e room_1 s m #[Value.ref b] below meth c s.heap [] 0 0 (lw_Z below #[Value.ref b] s) (entryFrame m ([Value.ref b] : List Value).toArray 4) := by
  obtain ⟨hx, hb, hr, hml, hown, hts, hX, hbl, hlocks, hgv⟩ := id C0
  have hA : ∀ a : Nat, a < s.heap.size → ¬ (fun q : Nat => s.heap.size ≤ q) a := fun a h => Nat.not_le.mpr h
  obtain ⟨d0, i0, k0⟩ := u_known (C := RX0) (T := TX0) (N := 19) (n := 19) hts inX0 (hts _ in_X0)
  obtain ⟨d1, i1, k1⟩ := u_known (C := RX1) (T := TX1) (N := 7) (n := 7) hts inX1 (hts _ in_X1)
  obtain ⟨d2, i2, k2⟩ := u_known (C := RX2) (T := TX2) (N := 4) (n := 4) hts inX2 (hts _ in_X2)
  obtain ⟨d3, i3, k3⟩ := u_known (C := RX3) (T := TX3) (N := 3) (n := 3) hts inX3 (hts _ in_X3)
  obtain ⟨d4, i4, k4⟩ := u_known (C := RX4) (T := TX4) (N := 13) (n := 13) hts inX4 (hts _ in_X4)
  obtain ⟨d5, i5, k5⟩ := u_known (C := RX6) (T := TX6) (N := 8) (n := 8) hts inX6 (hts _ in_X6)
  obtain ⟨d6, i6, k6⟩ := u_known (C := RX7) (T := TX7) (N := 3) (n := 3) hts inX7 (hts _ in_X7)
  obtain ⟨d7, i7, k7⟩ := u_known (C := RX8) (T := TX8) (N := 8) (n := 8) hts inX8 (hts _ in_X8)
  obtain ⟨d8, i8, k8⟩ := u_known (C := RX9) (T := TX9) (N := 57) (n := 57) hts inX9 (hts _ in_X9)
  obtain ⟨dC, dI, hKc⟩ : ∃ (dC : Nat → ClassId) (dI : Nat → Nat → Nat), ∀ (k : Nat) (q : vw_C), vwCl[k]? = some q → u_Kn s q.1 q.2.1 q.2.2 (dC k) (dI k) := by
    refine ⟨fun k => match k with | 0 => d0 | 1 => d1 | 2 => d2 | 3 => d3 | 4 => d4 | 5 => d5 | 6 => d6 | 7 => d7 | _ => d8, fun k => match k with | 0 => i0 | 1 => i1 | 2 => i2 | 3 => i3 | 4 => i4 | 5 => i5 | 6 => i6 | 7 => i7 | _ => i8, ?_⟩
    intro k q hq
    rcases cls_cases hq with ⟨rfl, rfl⟩ | ⟨rfl, rfl⟩ | ⟨rfl, rfl⟩ | ⟨rfl, rfl⟩ | ⟨rfl, rfl⟩ | ⟨rfl, rfl⟩ | ⟨rfl, rfl⟩ | ⟨rfl, rfl⟩ | ⟨rfl, rfl⟩
    · exact k0
    · exact k1
    · exact k2
    · exact k3
    · exact k4
    · exact k5
    · exact k6
    · exact k7
    · exact k8
  obtain ⟨cI, aI⟩ := arr_known (ty := .int) (fun C h => by cases h) (hts _ ac_int)
  obtain ⟨cZ, aZ⟩ := arr_known (ty := .boolean) (fun C h => by cases h) (hts _ ac_boolean)
  obtain ⟨cJ, aJ⟩ := arr_known (ty := .long) (fun C h => by cases h) (hts _ ac_long)
  obtain ⟨cII, aII⟩ := arr2_known (hts _ over_in)
  have hfl := flat_of_before _ hgv
  obtain ⟨tM, hM, vM⟩ := va_Tof (tm := .static "AwardDesk" "MOST_OF_MARK" "[I") (ty := .int) (N := 3) (f := fun j => iv (mostMark j)) (args := #[Value.ref b]) (s := s) (A := fun q : Nat => s.heap.size ≤ q) (by decide) (hfl _ (by decide +kernel)) (va_eqt (z := Int32.ofNat 3) (hfl _ (by decide +kernel))) (fun j hj => by
    rcases (show j = 0 ∨ j = 1 ∨ j = 2 by omega) with rfl | rfl | rfl
    · exact va_eqt (z := Int32.ofInt 9) (hfl _ (by decide +kernel))
    · exact va_eqt (z := Int32.ofInt 2) (hfl _ (by decide +kernel))
    · exact va_eqt (z := Int32.ofInt 1) (hfl _ (by decide +kernel))) hA
  obtain ⟨tR, hRr, vR⟩ := va_Tof (tm := .static "AwardDesk" "MOST_OF_RULE" "[I") (ty := .int) (N := 5) (f := fun j => iv (mostRule j)) (args := #[Value.ref b]) (s := s) (A := fun q : Nat => s.heap.size ≤ q) (by decide) (hfl _ (by decide +kernel)) (va_eqt (z := Int32.ofNat 5) (hfl _ (by decide +kernel))) (fun j hj => by
    rcases (show j = 0 ∨ j = 1 ∨ j = 2 ∨ j = 3 ∨ j = 4 by omega) with rfl | rfl | rfl | rfl | rfl
    · exact va_eqt (z := Int32.ofInt 999) (hfl _ (by decide +kernel))
    · exact va_eqt (z := Int32.ofInt 999) (hfl _ (by decide +kernel))
    · exact va_eqt (z := Int32.ofInt 50) (hfl _ (by decide +kernel))
    · exact va_eqt (z := Int32.ofInt 1000) (hfl _ (by decide +kernel))
    · exact va_eqt (z := Int32.ofInt 50) (hfl _ (by decide +kernel))) hA
  have zM := va_Zof (hts _ lsM_in) (hts _ ini_X8) hM hA
  have zR := va_Zof (hts _ lsR_in) (hts _ ini_X8) hRr hA
  have hNW : NW s := ⟨mn_alike (Vm.Alike.refl _) (hts _ over_in), va_tabs (by decide +kernel) rfl (hts _ nest_in)⟩
  have hl := lv_entry ([Value.ref b]) (n := 4) (Nat.le_of_ble_eq_true rfl)
  rw [lg_entry_eq]
  have k := law_begin (nm := meth.name) (l := l) (G := ((dC, dI), (cI, cZ, cJ, cII), (s.heap.size, b, L, xs), tM, tR)) hL p e s m #[Value.ref b] below meth c s.heap [] _ ⟨hx, hb, hr, hml, hown, fun w hw _ => hts w hw, hlocks, rfl, hNW⟩ ⟨rfl, fun k hk => absurd hk (Nat.not_lt_zero k), ⟨hKc, fun k q hq => by
    match k, hq with
    | 0, hq => cases hq; exact aI
    | 1, hq => cases hq; exact aZ
    | 2, hq => cases hq; exact aJ
    | 3, hq => cases hq; exact aII
    | k + 4, hq => simp [tysG] at hq⟩, ⟨hX, hbl, hL, zM, vM, zR, vR⟩⟩ va_S.rf ⟨_, hl, fun i v hi hv => by
      match i, hi with
      | 0, hi => cases hi; exact List.mem_cons_self
      | 1, hi => cases hi; exact absurd rfl hv
      | 2, hi => cases hi; exact absurd rfl hv
      | 3, hi => cases hi; exact absurd rfl hv
      | i + 4, hi => cases hi⟩ (Nat.le_refl _)
  intro T hT X
  obtain ⟨t, h1, h2⟩ := k T hT X
  exact ⟨t, h1, h2 (Nat.le_refl _) rfl⟩
