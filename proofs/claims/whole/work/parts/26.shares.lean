/-! CLASS: Shares, the small ones; a row of the store as a function -/
def sr (σ : Si) (k : Nat) (w : Nat → Int) : Si := fun a => if a = k then w else σ a
def ud (w : Nat → Int) (j : Nat) (z : Int) : Nat → Int := fun b => if b = j then z else w b
theorem sr_same {σ : Si} {k : Nat} {w : Nat → Int} : sr σ k w k = w := if_pos rfl
theorem sr_ne {σ : Si} {k a : Nat} {w : Nat → Int} (h : a ≠ k) : sr σ k w a = σ a := if_neg h
theorem sr_self {σ : Si} {k : Nat} : sr σ k (σ k) = σ := by
  funext a
  unfold sr
  split
  · rename_i h; rw [h]
  · rfl
theorem sr_sr {σ : Si} {k : Nat} {w v : Nat → Int} : sr (sr σ k w) k v = sr σ k v := by
  funext a
  unfold sr
  split <;> rfl
theorem sr_comm {σ : Si} {k k' : Nat} {w v : Nat → Int} (h : k ≠ k') : sr (sr σ k w) k' v = sr (sr σ k' v) k w := by
  funext a
  unfold sr
  by_cases h1 : a = k'
  · rw [if_pos h1, if_neg (by omega), if_pos h1]
  · rw [if_neg h1]
    by_cases h2 : a = k
    · rw [if_pos h2, if_pos h2]
    · rw [if_neg h2, if_neg h2, if_neg h1]
theorem up_sr {σ : Si} {k j : Nat} {w : Nat → Int} {z : Int} : up (sr σ k w) k j z = sr σ k (ud w j z) := by
  funext a b
  unfold up sr ud
  by_cases h1 : a = k
  · rw [if_pos h1, if_pos h1]
    show (if a = k ∧ b = j then z else w b) = (if b = j then z else w b)
    by_cases h2 : b = j
    · rw [if_pos ⟨h1, h2⟩, if_pos h2]
    · rw [if_neg (fun q => h2 q.2), if_neg h2]
  · rw [if_neg h1, if_neg h1, if_neg (fun q => h1 q.1)]
theorem up_eq_sr {σ : Si} {k j : Nat} {z : Int} : up σ k j z = sr σ k (ud (σ k) j z) := by
  have := up_sr (σ := σ) (k := k) (w := σ k) (j := j) (z := z)
  rwa [sr_self] at this
theorem filR_sr {σ : Si} {k N : Nat} {z : Int} : filR σ k N z = sr σ k (fun b => if b < N then z else σ k b) := by
  funext a b
  unfold filR sr
  by_cases h1 : a = k
  · rw [if_pos h1]
    by_cases h2 : b < N
    · rw [if_pos ⟨h1, h2⟩, if_pos h2]
    · rw [if_neg (fun q => h2 q.2), if_neg h2, h1]
  · rw [if_neg h1, if_neg (fun q => h1 q.1)]
theorem Rg.sr {σ : Si} {k : Nat} {w : Nat → Int} (h : Rg σ) (hw : ∀ j, R32 (w j)) : Rg (sr σ k w) := by
  intro a ha j
  unfold _root_.Jvm.Pilot.CAwardDeskLaw_law_r9118_a3d290.sr
  split
  · exact hw j
  · exact h a ha j
theorem ud_at {w : Nat → Int} {j : Nat} {z : Int} : ud w j z j = z := if_pos rfl
theorem ud_ne {w : Nat → Int} {j b : Nat} {z : Int} (h : b ≠ j) : ud w j z b = w b := if_neg h
def plainP (us rd : Nat → Int) (c : Nat) : Prop := ¬ us c = 2 ∧ rd c = 0
/-- VALUE -/
def valS (so us rd : Nat → Int) (N : Nat) : Int := sumN (fun c => if ¬ us c = 2 ∧ rd c = 0 then so c else 0) N
theorem valS_r {so us rd : Nat → Int} {N : Nat} (h : ∀ c, 0 ≤ so c ∧ so c ≤ 9) : 0 ≤ valS so us rd N ∧ valS so us rd N ≤ 9 * N := by
  have := sumN_r (f := fun c => if ¬ us c = 2 ∧ rd c = 0 then so c else 0) (a := 0) (b := 9) N (fun i _ => by have := h i; show 0 ≤ (if ¬ us i = 2 ∧ rd i = 0 then so i else 0) ∧ (if ¬ us i = 2 ∧ rd i = 0 then so i else 0) ≤ 9; split <;> omega)
  unfold valS
  omega
/-- THE TITHE's share -/
def titS (kd : Nat → Int) (P : Nat) (v sold tithe : Int) : Int := if fstN (kindF kd 4) P = -1 then 0 else (v - min v sold) * tithe / 100
def giveW (kd w : Nat → Int) (p : Nat) (amt lord : Int) : Nat → Int :=
  if kd p = 2 ∧ ¬ lord = -1 ∧ 0 < amt / 3 then ud (ud w p (w p + (amt - amt / 3))) lord.toNat (ud w p (w p + (amt - amt / 3)) lord.toNat + amt / 3) else ud w p (w p + amt)
section Shares
variable {l : Launch} {G : GG} {n : Nat} {ρ : Rho} {σ : Si}
theorem c_value (hs : Std n ρ) (hR : Rg σ) {W H : Nat} (g0 : σ 2 2 = (W * H : Nat)) (hle : W * H ≤ 80) : RdI l G 1 mX6_value n ρ σ [rf G 29] (valS (σ 4) (σ 5) (σ 6) (W * H)) := by
  have loop : ∀ (m i : Nat) (z0 : Int), i + m = W * H → z0 = valS (σ 4) (σ 5) (σ 6) i → RW (KI l G 1 mX6_value n ρ (fun σ' z => σ' = σ ∧ z = valS (σ 4) (σ 5) (σ 6) (W * H))) (0, 0, n, ρ) σ 4 [rf G 29, iv z0, iv i] [] := by
    intro m
    induction m with
    | zero =>
      intro i z0 hi hz
      have e : i = W * H := by omega
      refine r_iload_n dX6_value_4 rfl ?_
      refine r_aloadk_n dX6_value_5 rfl ?_
      refine r_getr dX6_value_6 fl_X6_28 rfl rfl (hs.lt rfl) (hs.rf rfl) ?_
      refine r_geti dX6_value_9 fl_X6_39 rfl rfl (hs.lt rfl) ?_
      refine r_icmpge (tgt := 46) dX6_value_12 rfl (by first | exact hR _ (Nat.le_of_ble_eq_true rfl) _ | omega) (by first | exact hR _ (Nat.le_of_ble_eq_true rfl) _ | omega) (fun h12 => ?_) (fun h12 => ?_)
      · refine r_iload_n dX6_value_46 rfl ?_
        exact r_ireti dX6_value_47 rfl ⟨_, rfl, rfl, by rw [← e, hz]⟩
      · omega
    | succ m ih =>
      intro i z0 hi hz
      refine r_iload_n dX6_value_4 rfl ?_
      refine r_aloadk_n dX6_value_5 rfl ?_
      refine r_getr dX6_value_6 fl_X6_28 rfl rfl (hs.lt rfl) (hs.rf rfl) ?_
      refine r_geti dX6_value_9 fl_X6_39 rfl rfl (hs.lt rfl) ?_
      refine r_icmpge (tgt := 46) dX6_value_12 rfl (by first | exact hR _ (Nat.le_of_ble_eq_true rfl) _ | omega) (by first | exact hR _ (Nat.le_of_ble_eq_true rfl) _ | omega) (fun h12 => ?_) (fun h12 => ?_)
      · omega
      · refine r_aloadk_n dX6_value_15 rfl ?_
        refine r_getr dX6_value_16 fl_X6_28 rfl rfl (hs.lt rfl) (hs.rf rfl) ?_
        refine r_iload_n dX6_value_19 rfl ?_
        refine q_callVr dX6_value_20 (c_isPlain hs hR i (by omega)) ml_X6_45 okX1_isPlain rfl rfl (hs.lt rfl) rfl rfl (Nat.le_of_ble_eq_true rfl) (roomOK.of (by decide)) ⟨(Nat.le_of_ble_eq_true rfl), (Nat.le_of_ble_eq_true rfl)⟩ ?_
        refine r_ifeqb (tgt := 40) dX6_value_23 rfl (fun h23 => ?_) (fun h23 => ?_)
        · refine r_iinc dX6_value_40 (Nat.le_of_ble_eq_true rfl) rfl rfl s2 ?_
          refine r_goto (tgt := 4) dX6_value_43 rfl ?_
          refine ih (i + 1) _ (by omega) ?_
          show _ = valS (σ 4) (σ 5) (σ 6) i + (if ¬ σ 5 i = 2 ∧ σ 6 i = 0 then σ 4 i else 0)
          rw [← hz]
          first | rw [if_pos h23] | (rw [if_neg h23]; omega)
        · refine r_iload_n dX6_value_26 rfl ?_
          refine r_aloadk_n dX6_value_27 rfl ?_
          refine r_getr dX6_value_28 fl_X6_28 rfl rfl (hs.lt rfl) (hs.rf rfl) ?_
          refine r_getr dX6_value_31 fl_X6_49 rfl rfl (hs.lt rfl) (hs.rf rfl) ?_
          refine r_iconst dX6_value_34 ?_
          refine r_aald dX6_value_35 rfl (hs.lt rfl) (c := 0) rfl (Nat.le_of_ble_eq_true rfl) (hs.rf rfl) ?_
          refine r_iload_n dX6_value_36 rfl ?_
          refine r_iald dX6_value_37 rfl (hs.lt rfl) rfl (by omega) ?_
          refine r_iadd dX6_value_38 ?_
          refine r_istore_n dX6_value_39 (Nat.le_of_ble_eq_true rfl) rfl s1 ?_
          refine r_iinc dX6_value_40 (Nat.le_of_ble_eq_true rfl) rfl rfl s2 ?_
          refine r_goto (tgt := 4) dX6_value_43 rfl ?_
          refine ih (i + 1) _ (by omega) ?_
          show _ = valS (σ 4) (σ 5) (σ 6) i + (if ¬ σ 5 i = 2 ∧ σ 6 i = 0 then σ 4 i else 0)
          rw [← hz]
          first | rw [if_pos h23] | (rw [if_neg h23]; omega)
  refine Ct.of (L0 := [rf G 29, xx, xx]) (by decide +kernel) (Nat.le_of_ble_eq_true rfl) rfl ?_
  refine r_iconst dX6_value_0 ?_
  refine r_istore_n dX6_value_1 (Nat.le_of_ble_eq_true rfl) rfl s1 ?_
  refine r_iconst dX6_value_2 ?_
  refine r_istore_n dX6_value_3 (Nat.le_of_ble_eq_true rfl) rfl s2 ?_
  exact loop (W * H) 0 _ (by omega) rfl
theorem c_soldOf (hs : Std n ρ) (hR : Rg σ) (v : Int) (hv : R32 v) : RdI l G 1 mX6_soldOf n ρ σ [rf G 29, iv v] (min v (σ 1 3)) := by
  refine Ct.of (L0 := [rf G 29, iv v]) (by decide +kernel) (Nat.le_of_ble_eq_true rfl) rfl ?_
  refine r_iload_n dX6_soldOf_0 rfl ?_
  refine r_aloadk_n dX6_soldOf_1 rfl ?_
  refine r_getr dX6_soldOf_2 fl_X6_36 rfl rfl (hs.lt rfl) (hs.rf rfl) ?_
  refine r_iconst dX6_soldOf_5 ?_
  refine r_iald dX6_soldOf_6 rfl (hs.lt rfl) (c := 3) rfl (Nat.le_of_ble_eq_true rfl) ?_
  refine r_mmin dX6_soldOf_7 ml_X6_53 (by first | exact hR _ (Nat.le_of_ble_eq_true rfl) _ | omega) (by first | exact hR _ (Nat.le_of_ble_eq_true rfl) _ | omega) (Nat.le_of_ble_eq_true rfl) (Nat.le_of_ble_eq_true rfl) ⟨(Nat.le_of_ble_eq_true rfl), (Nat.le_of_ble_eq_true rfl)⟩ ?_
  exact r_ireti dX6_soldOf_10 rfl ⟨_, rfl, rfl, rfl⟩
theorem c_titheOf (hs : Std n ρ) (hR : Rg σ) (P : Nat) (hP : σ 19 1 = P) (hP8 : P ≤ 8) (v : Int) (hv : 0 ≤ v ∧ v ≤ 1000) (hso : 0 ≤ σ 1 3) (hti : 0 ≤ σ 1 2 ∧ σ 1 2 ≤ 50) : RdI l G 2 mX6_titheOf n ρ σ [rf G 29, iv v] (titS (σ 20) P v (σ 1 3) (σ 1 2)) := by
  have hr := fstN_r (kindF (σ 20) 4) P
  have hm : 0 ≤ (v - min v (σ 1 3)) * σ 1 2 ∧ (v - min v (σ 1 3)) * σ 1 2 ≤ 1000 * 50 := ⟨Int.mul_nonneg (by omega) (by omega), Int.mul_le_mul (by omega) (by omega) (by omega) (by omega)⟩
  refine Ct.of (L0 := [rf G 29, iv v]) (by decide +kernel) (Nat.le_of_ble_eq_true rfl) rfl ?_
  refine r_aloadk_n dX6_titheOf_0 rfl ?_
  refine r_getr dX6_titheOf_1 fl_X6_32 rfl rfl (hs.lt rfl) (hs.rf rfl) ?_
  refine r_iconst dX6_titheOf_4 ?_
  refine q_callVr dX6_titheOf_5 (c_firstOfKind hs hR P hP hP8 4 (by omega)) ml_X6_59 okX4_firstOfKind rfl rfl (hs.lt rfl) rfl rfl (Nat.le_of_ble_eq_true rfl) (roomOK.of (by decide)) ⟨(Nat.le_of_ble_eq_true rfl), (Nat.le_of_ble_eq_true rfl)⟩ ?_
  refine r_iconst dX6_titheOf_8 ?_
  refine r_icmpne (tgt := 14) dX6_titheOf_9 rfl (by first | exact hR _ (Nat.le_of_ble_eq_true rfl) _ | omega) (by first | exact hR _ (Nat.le_of_ble_eq_true rfl) _ | omega) (fun h9 => ?_) (fun h9 => ?_)
  · refine r_iload_n dX6_titheOf_14 rfl ?_
    refine r_aloadk_n dX6_titheOf_15 rfl ?_
    refine r_iload_n dX6_titheOf_16 rfl ?_
    refine q_callVr dX6_titheOf_17 (c_soldOf hs hR v (by omega)) ml_X6_65 okX6_soldOf rfl rfl (hs.lt rfl) rfl rfl (Nat.le_of_ble_eq_true rfl) (roomOK.of (by decide)) ⟨(Nat.le_of_ble_eq_true rfl), (Nat.le_of_ble_eq_true rfl)⟩ ?_
    refine r_isub dX6_titheOf_20 ?_
    refine r_aloadk_n dX6_titheOf_21 rfl ?_
    refine r_getr dX6_titheOf_22 fl_X6_36 rfl rfl (hs.lt rfl) (hs.rf rfl) ?_
    refine r_iconst dX6_titheOf_25 ?_
    refine r_iald dX6_titheOf_26 rfl (hs.lt rfl) (c := 2) rfl (Nat.le_of_ble_eq_true rfl) ?_
    refine r_imul dX6_titheOf_27 ?_
    refine r_bipush dX6_titheOf_28 ?_
    refine r_idiv dX6_titheOf_30 (by omega) (by omega) ?_
    exact r_ireti dX6_titheOf_31 rfl ⟨_, rfl, rfl, by unfold titS; rw [if_neg h9]⟩
  · refine r_iconst dX6_titheOf_12 ?_
    exact r_ireti dX6_titheOf_13 rfl ⟨_, rfl, rfl, by unfold titS; rw [if_pos h9]⟩
theorem c_restOf (hs : Std n ρ) (hR : Rg σ) (P : Nat) (hP : σ 19 1 = P) (hP8 : P ≤ 8) (v : Int) (hv : 0 ≤ v ∧ v ≤ 1000) (hso : 0 ≤ σ 1 3) (hti : 0 ≤ σ 1 2 ∧ σ 1 2 ≤ 50) : RdI l G 3 mX6_restOf n ρ σ [rf G 29, iv v] (v - min v (σ 1 3) - titS (σ 20) P v (σ 1 3) (σ 1 2)) := by
  refine Ct.of (L0 := [rf G 29, iv v]) (by decide +kernel) (Nat.le_of_ble_eq_true rfl) rfl ?_
  refine r_iload_n dX6_restOf_0 rfl ?_
  refine r_aloadk_n dX6_restOf_1 rfl ?_
  refine r_iload_n dX6_restOf_2 rfl ?_
  refine q_callVr dX6_restOf_3 (c_soldOf hs hR v (by omega)) ml_X6_65 okX6_soldOf rfl rfl (hs.lt rfl) rfl rfl (Nat.le_of_ble_eq_true rfl) (roomOK.of (by decide)) ⟨(Nat.le_of_ble_eq_true rfl), (Nat.le_of_ble_eq_true rfl)⟩ ?_
  refine r_isub dX6_restOf_6 ?_
  refine r_aloadk_n dX6_restOf_7 rfl ?_
  refine r_iload_n dX6_restOf_8 rfl ?_
  refine q_callVr dX6_restOf_9 (c_titheOf hs hR P hP hP8 v hv hso hti) ml_X6_68 okX6_titheOf rfl rfl (hs.lt rfl) rfl rfl (Nat.le_of_ble_eq_true rfl) (roomOK.of (by decide)) ⟨(Nat.le_of_ble_eq_true rfl), (Nat.le_of_ble_eq_true rfl)⟩ ?_
  refine r_isub dX6_restOf_12 ?_
  exact r_ireti dX6_restOf_13 rfl ⟨_, rfl, rfl, rfl⟩
theorem c_total (k N : Nat) (hk : k < n) (hsk : shp k = (100, N)) (M : Nat) (hM : M ≤ N) : RdI l G 0 mX6_total n ρ σ [rf G k, iv M] (sumN (σ k) M) := by
  have hN := shp_small hsk
  have loop : ∀ (m i : Nat), i + m = M → RW (KI l G 0 mX6_total n ρ (fun σ' z => σ' = σ ∧ z = sumN (σ k) M)) (0, 0, n, ρ) σ 4 [rf G k, iv M, iv (sumN (σ k) i), iv i] [] := by
    intro m
    induction m with
    | zero =>
      intro i hi
      have e : i = M := by omega
      refine r_iload_n dX6_total_4 rfl ?_
      refine r_iload_n dX6_total_5 rfl ?_
      refine r_icmpge (tgt := 27) dX6_total_6 rfl (by omega) (by omega) (fun h6 => ?_) (fun h6 => ?_)
      · refine r_iload_n dX6_total_27 rfl ?_
        exact r_ireti dX6_total_28 rfl ⟨_, rfl, rfl, by rw [← e]⟩
      · omega
    | succ m ih =>
      intro i hi
      refine r_iload_n dX6_total_4 rfl ?_
      refine r_iload_n dX6_total_5 rfl ?_
      refine r_icmpge (tgt := 27) dX6_total_6 rfl (by omega) (by omega) (fun h6 => ?_) (fun h6 => ?_)
      · omega
      · refine r_iload_n dX6_total_9 rfl ?_
        refine r_aloadk_n dX6_total_10 rfl ?_
        refine r_alen dX6_total_11 hsk (hk) ?_
        refine r_icmpge (tgt := 27) dX6_total_12 rfl (by omega) (by omega) (fun h12 => ?_) (fun h12 => ?_)
        · omega
        · refine r_iload_n dX6_total_15 rfl ?_
          refine r_aloadk_n dX6_total_16 rfl ?_
          refine r_iload_n dX6_total_17 rfl ?_
          refine r_iald dX6_total_18 hsk (hk) rfl (by omega) ?_
          refine r_iadd dX6_total_19 ?_
          refine r_istore_n dX6_total_20 (Nat.le_of_ble_eq_true rfl) rfl s2 ?_
          refine r_iinc dX6_total_21 (Nat.le_of_ble_eq_true rfl) rfl rfl s3 ?_
          refine r_goto (tgt := 4) dX6_total_24 rfl ?_
          exact ih (i + 1) (by omega)
  refine Ct.of (L0 := [rf G k, iv M, xx, xx]) (by decide +kernel) (Nat.le_of_ble_eq_true rfl) rfl ?_
  refine r_iconst dX6_total_0 ?_
  refine r_istore_n dX6_total_1 (Nat.le_of_ble_eq_true rfl) rfl s2 ?_
  refine r_iconst dX6_total_2 ?_
  refine r_istore_n dX6_total_3 (Nat.le_of_ble_eq_true rfl) rfl s3 ?_
  exact loop M 0 (by omega)
/-- the place of the greatest, the first of like ones -/
def argmax (r : Nat → Int) : Nat → Nat
  | 0 => 0
  | i + 1 => if r (argmax r i) < r i then i else argmax r i
theorem argmax_lt (r : Nat → Int) : ∀ N : Nat, 0 < N → argmax r N < N
  | 1, _ => by unfold argmax; split <;> simp_all [argmax]
  | N + 2, _ => by
    have := argmax_lt r (N + 1) (by omega)
    unfold argmax
    split <;> omega
theorem c_greatestRest (hs : Std n ρ) (hR : Rg σ) (P : Nat) (hP : σ 19 1 = P) (hP0 : 0 < P) (hP8 : P ≤ 8) : RdI l G 0 mX6_greatestRest n ρ σ [rf G 29] (argmax (σ 34) P : Nat) := by
  have e1 : argmax (σ 34) 1 = 0 := by
    show (if σ 34 0 < σ 34 0 then 0 else 0) = 0
    split <;> rfl
  have loop : ∀ (m i : Nat), 0 < i → i + m = P → RW (KI l G 0 mX6_greatestRest n ρ (fun σ' z => σ' = σ ∧ z = (argmax (σ 34) P : Nat))) (0, 0, n, ρ) σ 4 [rf G 29, iv (argmax (σ 34) i : Nat), iv i] [] := by
    intro m
    induction m with
    | zero =>
      intro i h0 hi
      have e : i = P := by omega
      refine r_iload_n dX6_greatestRest_4 rfl ?_
      refine r_aloadk_n dX6_greatestRest_5 rfl ?_
      refine r_getr dX6_greatestRest_6 fl_X6_32 rfl rfl (hs.lt rfl) (hs.rf rfl) ?_
      refine r_geti dX6_greatestRest_9 fl_X6_97 rfl rfl (hs.lt rfl) ?_
      refine r_icmpge (tgt := 39) dX6_greatestRest_12 rfl (by first | exact hR _ (Nat.le_of_ble_eq_true rfl) _ | omega) (by first | exact hR _ (Nat.le_of_ble_eq_true rfl) _ | omega) (fun h12 => ?_) (fun h12 => ?_)
      · refine r_iload_n dX6_greatestRest_39 rfl ?_
        exact r_ireti dX6_greatestRest_40 rfl ⟨_, rfl, rfl, by rw [← e]⟩
      · omega
    | succ m ih =>
      intro i h0 hi
      have ha := argmax_lt (σ 34) i h0
      have r1 := hR 34 (by decide) i
      have r2 := hR 34 (by decide) (argmax (σ 34) i)
      have ih' := ih (i + 1) (by omega) (by omega)
      have es : argmax (σ 34) (i + 1) = if σ 34 (argmax (σ 34) i) < σ 34 i then i else argmax (σ 34) i := rfl
      rw [es] at ih'
      refine r_iload_n dX6_greatestRest_4 rfl ?_
      refine r_aloadk_n dX6_greatestRest_5 rfl ?_
      refine r_getr dX6_greatestRest_6 fl_X6_32 rfl rfl (hs.lt rfl) (hs.rf rfl) ?_
      refine r_geti dX6_greatestRest_9 fl_X6_97 rfl rfl (hs.lt rfl) ?_
      refine r_icmpge (tgt := 39) dX6_greatestRest_12 rfl (by first | exact hR _ (Nat.le_of_ble_eq_true rfl) _ | omega) (by first | exact hR _ (Nat.le_of_ble_eq_true rfl) _ | omega) (fun h12 => ?_) (fun h12 => ?_)
      · omega
      · refine r_aloadk_n dX6_greatestRest_15 rfl ?_
        refine r_getr dX6_greatestRest_16 fl_X6_24 rfl rfl (hs.lt rfl) (hs.rf rfl) ?_
        refine r_iload_n dX6_greatestRest_19 rfl ?_
        refine r_lald dX6_greatestRest_20 rfl (hs.lt rfl) rfl (by omega) ?_
        refine r_aloadk_n dX6_greatestRest_21 rfl ?_
        refine r_getr dX6_greatestRest_22 fl_X6_24 rfl rfl (hs.lt rfl) (hs.rf rfl) ?_
        refine r_iload_n dX6_greatestRest_25 rfl ?_
        refine r_lald dX6_greatestRest_26 rfl (hs.lt rfl) rfl (by omega) ?_
        refine r_lcmp dX6_greatestRest_27 (by omega) (by omega) ?_
        refine r_ifle (tgt := 33) dX6_greatestRest_28 rfl (by split <;> (try split) <;> omega) (fun h28 => ?_) (fun h28 => ?_)
        · refine r_iinc dX6_greatestRest_33 (Nat.le_of_ble_eq_true rfl) rfl rfl s2 ?_
          refine r_goto (tgt := 4) dX6_greatestRest_36 rfl ?_
          first
          | (rw [if_neg (by split at h28 <;> omega)] at ih'; exact ih')
          | (rw [if_pos (by split at h28 <;> (try split at h28) <;> omega)] at ih'; exact ih')
        · refine r_iload_n dX6_greatestRest_31 rfl ?_
          refine r_istore_n dX6_greatestRest_32 (Nat.le_of_ble_eq_true rfl) rfl s1 ?_
          refine r_iinc dX6_greatestRest_33 (Nat.le_of_ble_eq_true rfl) rfl rfl s2 ?_
          refine r_goto (tgt := 4) dX6_greatestRest_36 rfl ?_
          first
          | (rw [if_neg (by split at h28 <;> omega)] at ih'; exact ih')
          | (rw [if_pos (by split at h28 <;> (try split at h28) <;> omega)] at ih'; exact ih')
  refine Ct.of (L0 := [rf G 29, xx, xx]) (by decide +kernel) (Nat.le_of_ble_eq_true rfl) rfl ?_
  refine r_iconst dX6_greatestRest_0 ?_
  refine r_istore_n dX6_greatestRest_1 (Nat.le_of_ble_eq_true rfl) rfl s1 ?_
  refine r_iconst dX6_greatestRest_2 ?_
  refine r_istore_n dX6_greatestRest_3 (Nat.le_of_ble_eq_true rfl) rfl s2 ?_
  have h := loop (P - 1) 1 (by omega) (by omega)
  rw [e1] at h
  exact h
theorem c_giveStrip (hs : Std n ρ) (hR : Rg σ) (w : Nat → Int) (p : Nat) (hp : p < 8) (amt lord : Int) (ha : 0 ≤ amt ∧ amt ≤ 1000) (hl : -1 ≤ lord ∧ lord < 8) : CtV l G 0 mX6_giveStrip n ρ (sr σ 30 w) [rf G 29, iv p, iv amt, iv lord] (fun σ' => σ' = sr σ 30 (giveW (σ 20) w p amt lord)) := by
  have hk := hR 20 (by decide) p
  have e20 : sr σ 30 w 20 = σ 20 := rfl
  have e30 : sr σ 30 w 30 = w := rfl
  refine Ct.of (L0 := [rf G 29, iv p, iv amt, iv lord, xx]) (by decide +kernel) (Nat.le_of_ble_eq_true rfl) rfl ?_
  refine r_aloadk_n dX6_giveStrip_0 rfl ?_
  refine r_getr dX6_giveStrip_1 fl_X6_32 rfl rfl (hs.lt rfl) (hs.rf rfl) ?_
  refine r_getr dX6_giveStrip_4 fl_X6_94 rfl rfl (hs.lt rfl) (hs.rf rfl) ?_
  refine r_iload_n dX6_giveStrip_7 rfl ?_
  refine r_iald dX6_giveStrip_8 rfl (hs.lt rfl) rfl (by omega) ?_
  rw [e20]
  refine r_iconst dX6_giveStrip_9 ?_
  refine r_icmpne (tgt := 24) dX6_giveStrip_10 rfl (by omega) (by omega) (fun h10 => ?_) (fun h10 => ?_)
  · refine r_iconst dX6_giveStrip_24 ?_
    refine r_istore dX6_giveStrip_25 (Nat.le_of_ble_eq_true rfl) rfl s4 ?_
    refine r_aloadk_n dX6_giveStrip_27 rfl ?_
    refine r_getr dX6_giveStrip_28 fl_X6_9 rfl rfl (hs.lt rfl) (hs.rf rfl) ?_
    refine r_iload_n dX6_giveStrip_31 rfl ?_
    refine r_dup2 dX6_giveStrip_32 rfl rfl ?_
    refine r_iald dX6_giveStrip_33 rfl (hs.lt rfl) rfl (by omega) ?_
    rw [e30]
    refine r_iload_n dX6_giveStrip_34 rfl ?_
    refine r_iload dX6_giveStrip_35 rfl ?_
    refine r_isub dX6_giveStrip_37 ?_
    refine r_iadd dX6_giveStrip_38 ?_
    refine r_iast dX6_giveStrip_39 rfl (hs.lt rfl) rfl (by omega) ?_
    rw [up_sr]
    refine r_iload dX6_giveStrip_40 rfl ?_
    refine r_ifle (tgt := 56) dX6_giveStrip_42 rfl (by omega) (fun h42 => ?_) (fun h42 => absurd h42 (by decide))
    exact r_vret dX6_giveStrip_56 rfl ⟨rfl, by
  try rw [up_sr]
  unfold giveW
  first
  | (rw [if_pos ⟨by omega, by omega, by omega⟩])
  | (rw [if_neg (by omega)]; congr 2; omega)⟩
  · refine r_iload_n dX6_giveStrip_13 rfl ?_
    refine r_iconst dX6_giveStrip_14 ?_
    refine r_icmpeq (tgt := 24) dX6_giveStrip_15 rfl (by omega) (by omega) (fun h15 => ?_) (fun h15 => ?_)
    · refine r_iconst dX6_giveStrip_24 ?_
      refine r_istore dX6_giveStrip_25 (Nat.le_of_ble_eq_true rfl) rfl s4 ?_
      refine r_aloadk_n dX6_giveStrip_27 rfl ?_
      refine r_getr dX6_giveStrip_28 fl_X6_9 rfl rfl (hs.lt rfl) (hs.rf rfl) ?_
      refine r_iload_n dX6_giveStrip_31 rfl ?_
      refine r_dup2 dX6_giveStrip_32 rfl rfl ?_
      refine r_iald dX6_giveStrip_33 rfl (hs.lt rfl) rfl (by omega) ?_
      rw [e30]
      refine r_iload_n dX6_giveStrip_34 rfl ?_
      refine r_iload dX6_giveStrip_35 rfl ?_
      refine r_isub dX6_giveStrip_37 ?_
      refine r_iadd dX6_giveStrip_38 ?_
      refine r_iast dX6_giveStrip_39 rfl (hs.lt rfl) rfl (by omega) ?_
      rw [up_sr]
      refine r_iload dX6_giveStrip_40 rfl ?_
      refine r_ifle (tgt := 56) dX6_giveStrip_42 rfl (by omega) (fun h42 => ?_) (fun h42 => absurd h42 (by decide))
      exact r_vret dX6_giveStrip_56 rfl ⟨rfl, by
  try rw [up_sr]
  unfold giveW
  first
  | (rw [if_pos ⟨by omega, by omega, by omega⟩])
  | (rw [if_neg (by omega)]; congr 2; omega)⟩
    · refine r_iload_n dX6_giveStrip_18 rfl ?_
      refine r_iconst dX6_giveStrip_19 ?_
      refine r_idiv dX6_giveStrip_20 (by omega) (by omega) ?_
      refine r_goto (tgt := 25) dX6_giveStrip_21 rfl ?_
      refine r_istore dX6_giveStrip_25 (Nat.le_of_ble_eq_true rfl) rfl s4 ?_
      refine r_aloadk_n dX6_giveStrip_27 rfl ?_
      refine r_getr dX6_giveStrip_28 fl_X6_9 rfl rfl (hs.lt rfl) (hs.rf rfl) ?_
      refine r_iload_n dX6_giveStrip_31 rfl ?_
      refine r_dup2 dX6_giveStrip_32 rfl rfl ?_
      refine r_iald dX6_giveStrip_33 rfl (hs.lt rfl) rfl (by omega) ?_
      rw [e30]
      refine r_iload_n dX6_giveStrip_34 rfl ?_
      refine r_iload dX6_giveStrip_35 rfl ?_
      refine r_isub dX6_giveStrip_37 ?_
      refine r_iadd dX6_giveStrip_38 ?_
      refine r_iast dX6_giveStrip_39 rfl (hs.lt rfl) rfl (by omega) ?_
      rw [up_sr]
      refine r_iload dX6_giveStrip_40 rfl ?_
      refine r_ifle (tgt := 56) dX6_giveStrip_42 rfl (by omega) (fun h42 => ?_) (fun h42 => ?_)
      · exact r_vret dX6_giveStrip_56 rfl ⟨rfl, by
  try rw [up_sr]
  unfold giveW
  first
  | (rw [if_pos ⟨by omega, by omega, by omega⟩])
  | (rw [if_neg (by omega)]; congr 2; omega)⟩
      · refine r_aloadk_n dX6_giveStrip_45 rfl ?_
        refine r_getr dX6_giveStrip_46 fl_X6_9 rfl rfl (hs.lt rfl) (hs.rf rfl) ?_
        refine r_iload_n dX6_giveStrip_49 rfl ?_
        refine r_dup2 dX6_giveStrip_50 rfl rfl ?_
        refine r_iald dX6_giveStrip_51 rfl (hs.lt rfl) (c := lord.toNat) (by omega) (by omega) ?_
        rw [sr_same]
        refine r_iload dX6_giveStrip_52 rfl ?_
        refine r_iadd dX6_giveStrip_54 ?_
        refine r_iast dX6_giveStrip_55 rfl (hs.lt rfl) (c := lord.toNat) (by omega) (by omega) ?_
        exact r_vret dX6_giveStrip_56 rfl ⟨rfl, by
  try rw [up_sr]
  unfold giveW
  first
  | (rw [if_pos ⟨by omega, by omega, by omega⟩])
  | (rw [if_neg (by omega)]; congr 2; omega)⟩
end Shares
