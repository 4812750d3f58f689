/-! CLASS: Ground, the rest that only reads -/
section Ground2
variable {l : Launch} {G : GG} {n : Nat} {ρ : Rho} {σ : Si}
def besF (rd : Nat → Int) (W H c : Nat) (s : Nat) : Bool := decide (¬ nb W H c s = -1 ∧ rd (nb W H c s).toNat = 1)
theorem besF_t {rd : Nat → Int} {W H c s : Nat} : besF rd W H c s = true ↔ (¬ nb W H c s = -1 ∧ rd (nb W H c s).toNat = 1) := by unfold besF; exact decide_eq_true_iff
theorem c_isBesideRoad (hs : Std n ρ) (hR : Rg σ) {W H : Nat} (g : Geo σ W H) (c : Nat) (hc : c < W * H) : RdI l G 1 mX1_isBesideRoad n ρ σ [rf G 2, iv c] (bi (anyN (besF (σ 6) W H c) 4 = true)) := by
  have hle := g.le
  have loop : ∀ (m i : Nat) (x3 : Value), i + m = 4 → isJ x3 = false → anyN (besF (σ 6) W H c) i = false → RW (KI l G 1 mX1_isBesideRoad n ρ (fun σ' z => σ' = σ ∧ z = bi (anyN (besF (σ 6) W H c) 4 = true))) (0, 0, n, ρ) σ 2 [rf G 2, iv c, iv i, x3] [] := by
    intro m
    induction m with
    | zero =>
      intro i x3 hi hx ha
      have e : i = 4 := by omega
      subst e
      refine r_iload_n dX1_isBesideRoad_2 rfl ?_
      refine r_iconst dX1_isBesideRoad_3 ?_
      refine r_icmpge (tgt := 35) dX1_isBesideRoad_4 rfl (by first | exact hR _ (Nat.le_of_ble_eq_true rfl) _ | omega) (by first | exact hR _ (Nat.le_of_ble_eq_true rfl) _ | omega) (fun h4 => ?_) (fun h4 => ?_)
      · refine r_iconst dX1_isBesideRoad_35 ?_
        exact r_iretz dX1_isBesideRoad_36 rfl (by omega) ⟨_, rfl, rfl, by rw [bi_f (by rw [ha]; decide)]⟩
      · omega
    | succ m ih =>
      intro i x3 hi hx ha
      have hr := nb_r hc (by have := g.2.2.2.1; omega : 0 < W) i
      refine r_iload_n dX1_isBesideRoad_2 rfl ?_
      refine r_iconst dX1_isBesideRoad_3 ?_
      refine r_icmpge (tgt := 35) dX1_isBesideRoad_4 rfl (by first | exact hR _ (Nat.le_of_ble_eq_true rfl) _ | omega) (by first | exact hR _ (Nat.le_of_ble_eq_true rfl) _ | omega) (fun h4 => ?_) (fun h4 => ?_)
      · omega
      · refine r_aloadk_n dX1_isBesideRoad_7 rfl ?_
        refine r_iload_n dX1_isBesideRoad_8 rfl ?_
        refine r_iload_n dX1_isBesideRoad_9 rfl ?_
        refine q_callVr dX1_isBesideRoad_10 (c_beside hs hR g c i hc (by omega)) ml_X1_46 okX1_beside rfl rfl (hs.lt rfl) rfl rfl (Nat.le_of_ble_eq_true rfl) (roomOK.of (by decide)) ⟨(Nat.le_of_ble_eq_true rfl), (Nat.le_of_ble_eq_true rfl)⟩ ?_
        refine r_istore_n dX1_isBesideRoad_13 (Nat.le_of_ble_eq_true rfl) rfl s3 ?_
        refine r_iload_n dX1_isBesideRoad_14 rfl ?_
        refine r_iconst dX1_isBesideRoad_15 ?_
        refine r_icmpeq (tgt := 29) dX1_isBesideRoad_16 rfl (by first | exact hR _ (Nat.le_of_ble_eq_true rfl) _ | omega) (by first | exact hR _ (Nat.le_of_ble_eq_true rfl) _ | omega) (fun h16 => ?_) (fun h16 => ?_)
        · refine r_iinc dX1_isBesideRoad_29 (Nat.le_of_ble_eq_true rfl) rfl rfl s2 ?_
          refine r_goto (tgt := 2) dX1_isBesideRoad_32 rfl ?_
          refine ih (i + 1) _ (by omega) (by first | exact hx | rfl) ?_
          show (anyN _ i || besF _ W H c i) = false
          rw [ha, Bool.false_or]
          refine Bool.eq_false_iff.mpr (fun q => ?_)
          have q := besF_t.mp q
          first | exact q.1 h16 | (rw [hb] at q; exact h24 q.2)
        · obtain ⟨b, hb⟩ : ∃ b : Nat, nb W H c i = b := ⟨(nb W H c i).toNat, by omega⟩
          rw [hb] at h16 hr ⊢
          refine r_aloadk_n dX1_isBesideRoad_19 rfl ?_
          refine r_iload_n dX1_isBesideRoad_20 rfl ?_
          refine q_callVr dX1_isBesideRoad_21 (c_isRoad hs hR b (by omega)) ml_X1_50 okX1_isRoad rfl rfl (hs.lt rfl) rfl rfl (Nat.le_of_ble_eq_true rfl) (roomOK.of (by decide)) ⟨(Nat.le_of_ble_eq_true rfl), (Nat.le_of_ble_eq_true rfl)⟩ ?_
          refine r_ifeqb (tgt := 29) dX1_isBesideRoad_24 rfl (fun h24 => ?_) (fun h24 => ?_)
          · refine r_iinc dX1_isBesideRoad_29 (Nat.le_of_ble_eq_true rfl) rfl rfl s2 ?_
            refine r_goto (tgt := 2) dX1_isBesideRoad_32 rfl ?_
            refine ih (i + 1) _ (by omega) (by first | exact hx | rfl) ?_
            show (anyN _ i || besF _ W H c i) = false
            rw [ha, Bool.false_or]
            refine Bool.eq_false_iff.mpr (fun q => ?_)
            have q := besF_t.mp q
            first | exact q.1 h16 | (rw [hb] at q; exact h24 q.2)
          · refine r_iconst dX1_isBesideRoad_27 ?_
            exact r_iretz dX1_isBesideRoad_28 rfl (by omega) ⟨_, rfl, rfl, by rw [bi_t ((anyN_iff 4).mpr ⟨i, by omega, besF_t.mpr ⟨by omega, by rw [hb]; exact h24⟩⟩)]⟩
  refine Ct.of (L0 := [rf G 2, iv c, xx, xx]) (by decide +kernel) (Nat.le_of_ble_eq_true rfl) rfl ?_
  refine r_iconst dX1_isBesideRoad_0 ?_
  refine r_istore_n dX1_isBesideRoad_1 (Nat.le_of_ble_eq_true rfl) rfl s2 ?_
  exact loop 4 0 _ (by omega) rfl rfl
theorem c_roadCells (hs : Std n ρ) (hR : Rg σ) {W H : Nat} (g : Geo σ W H) (hr : ∀ c, 0 ≤ σ 6 c ∧ σ 6 c ≤ 1) : RdI l G 0 mX1_roadCells n ρ σ [rf G 2] (sumN (σ 6) (W * H)) := by
  have hle := g.le
  obtain ⟨g0, g1, g2, g3, g4, g5⟩ := id g
  have loop : ∀ (m i : Nat), i + m = W * H → RW (KI l G 0 mX1_roadCells n ρ (fun σ' z => σ' = σ ∧ z = sumN (σ 6) (W * H))) (0, 0, n, ρ) σ 4 [rf G 2, iv (sumN (σ 6) i), iv i] [] := by
    intro m
    induction m with
    | zero =>
      intro i hi
      have e : i = W * H := by omega
      refine r_iload_n dX1_roadCells_4 rfl ?_
      refine r_aloadk_n dX1_roadCells_5 rfl ?_
      refine r_geti dX1_roadCells_6 fl_X1_34 rfl rfl (hs.lt rfl) ?_
      refine r_icmpge (tgt := 29) dX1_roadCells_9 rfl (by first | exact hR _ (Nat.le_of_ble_eq_true rfl) _ | omega) (by first | exact hR _ (Nat.le_of_ble_eq_true rfl) _ | omega) (fun h9 => ?_) (fun h9 => ?_)
      · refine r_iload_n dX1_roadCells_29 rfl ?_
        exact r_ireti dX1_roadCells_30 rfl ⟨_, rfl, rfl, by rw [e]⟩
      · omega
    | succ m ih =>
      intro i hi
      refine r_iload_n dX1_roadCells_4 rfl ?_
      refine r_aloadk_n dX1_roadCells_5 rfl ?_
      refine r_geti dX1_roadCells_6 fl_X1_34 rfl rfl (hs.lt rfl) ?_
      refine r_icmpge (tgt := 29) dX1_roadCells_9 rfl (by first | exact hR _ (Nat.le_of_ble_eq_true rfl) _ | omega) (by first | exact hR _ (Nat.le_of_ble_eq_true rfl) _ | omega) (fun h9 => ?_) (fun h9 => ?_)
      · omega
      · refine r_iload_n dX1_roadCells_12 rfl ?_
        refine r_aloadk_n dX1_roadCells_13 rfl ?_
        refine r_getr dX1_roadCells_14 fl_X1_11 rfl rfl (hs.lt rfl) (hs.rf rfl) ?_
        refine r_iconst dX1_roadCells_17 ?_
        refine r_aald dX1_roadCells_18 rfl (hs.lt rfl) (c := 2) rfl (Nat.le_of_ble_eq_true rfl) (hs.rf rfl) ?_
        refine r_iload_n dX1_roadCells_19 rfl ?_
        refine r_iald dX1_roadCells_20 rfl (hs.lt rfl) rfl (by omega) ?_
        refine r_iadd dX1_roadCells_21 ?_
        refine r_istore_n dX1_roadCells_22 (Nat.le_of_ble_eq_true rfl) rfl s1 ?_
        refine r_iinc dX1_roadCells_23 (Nat.le_of_ble_eq_true rfl) rfl rfl s2 ?_
        refine r_goto (tgt := 4) dX1_roadCells_26 rfl ?_
        exact ih (i + 1) (by omega)
  refine Ct.of (L0 := [rf G 2, xx, xx]) (by decide +kernel) (Nat.le_of_ble_eq_true rfl) rfl ?_
  refine r_iconst dX1_roadCells_0 ?_
  refine r_istore_n dX1_roadCells_1 (Nat.le_of_ble_eq_true rfl) rfl s1 ?_
  refine r_iconst dX1_roadCells_2 ?_
  refine r_istore_n dX1_roadCells_3 (Nat.le_of_ble_eq_true rfl) rfl s2 ?_
  exact loop (W * H) 0 (by omega)
/-- how far a place is from a stretch -/
def gapS (a f m : Int) : Int := if a < f then f - a else max 0 (a - (f + m - 1))
theorem c_gap (a f m : Int) (ha : 0 ≤ a ∧ a < 100) (hf : 0 ≤ f ∧ f < 100) (hm : 0 ≤ m ∧ m < 100) : RdI l G 1 mX1_gap n ρ σ [iv a, iv f, iv m] (gapS a f m) := by
  refine Ct.of (L0 := [iv a, iv f, iv m]) (by decide +kernel) (Nat.le_of_ble_eq_true rfl) rfl ?_
  refine r_iload_n dX1_gap_0 rfl ?_
  refine r_iload_n dX1_gap_1 rfl ?_
  refine r_icmpge (tgt := 9) dX1_gap_2 rfl (by omega) (by omega) (fun h2 => ?_) (fun h2 => ?_)
  · refine r_iconst dX1_gap_9 ?_
    refine r_iload_n dX1_gap_10 rfl ?_
    refine r_iload_n dX1_gap_11 rfl ?_
    refine r_iload_n dX1_gap_12 rfl ?_
    refine r_iadd dX1_gap_13 ?_
    refine r_iconst dX1_gap_14 ?_
    refine r_isub dX1_gap_15 ?_
    refine r_isub dX1_gap_16 ?_
    refine r_mmax dX1_gap_17 ml_X1_70 (by omega) (by omega) (Nat.le_of_ble_eq_true rfl) (Nat.le_of_ble_eq_true rfl) ⟨(Nat.le_of_ble_eq_true rfl), (Nat.le_of_ble_eq_true rfl)⟩ ?_
    exact r_ireti dX1_gap_20 rfl ⟨_, rfl, rfl, by unfold gapS; rw [if_neg (by omega)]⟩
  · refine r_iload_n dX1_gap_5 rfl ?_
    refine r_iload_n dX1_gap_6 rfl ?_
    refine r_isub dX1_gap_7 ?_
    exact r_ireti dX1_gap_8 rfl ⟨_, rfl, rfl, by unfold gapS; rw [if_pos (by omega)]⟩
/-- shape s as a number, cell c in it -/
abbrev inS (W s c : Nat) : Prop := s / 256 % W ≤ c % W ∧ c % W < s / 256 % W + s / 16 % 16 ∧ s / 256 / W ≤ c / W ∧ c / W < s / 256 / W + s % 16
abbrev insideS (W H s : Nat) : Prop := s / 256 % W + s / 16 % 16 ≤ W ∧ s / 256 / W + s % 16 ≤ H
def stepsS (W home s : Nat) : Int := gapS (home % W : Nat) (s / 256 % W : Nat) (s / 16 % 16 : Nat) + gapS (home / W : Nat) (s / 256 / W : Nat) (s % 16 : Nat)
theorem c_isInside (hs : Std n ρ) (hR : Rg σ) {W H : Nat} (g : Geo σ W H) (s : Nat) (h1 : s < 65536) (h2 : s / 256 < W * H) : RdI l G 1 mX1_isInside n ρ σ [rf G 2, iv s] (bi (insideS W H s)) := by
  have hle := g.le
  obtain ⟨g0, g1, g2, g3, g4, g5⟩ := id g
  obtain ⟨e7, e8⟩ := g5 _ h2
  have m1 := Nat.mod_lt (s / 256) (show 0 < W by omega)
  have m2 : s / 256 / W < H := Nat.div_lt_of_lt_mul h2
  have p2 := Int.natCast_nonneg (s / 256 / W)
  refine Ct.of (L0 := [rf G 2, iv s, xx]) (by decide +kernel) (Nat.le_of_ble_eq_true rfl) rfl ?_
  refine r_iload_n dX1_isInside_0 rfl ?_
  refine q_callSr dX1_isInside_1 (c_shFirst s h1) ml_X1_54 okX5_firstOf rfl rfl (Nat.le_of_ble_eq_true rfl) (roomOK.of (by decide)) ⟨(Nat.le_of_ble_eq_true rfl), (Nat.le_of_ble_eq_true rfl)⟩ ?_
  refine r_istore_n dX1_isInside_4 (Nat.le_of_ble_eq_true rfl) rfl s2 ?_
  refine r_aloadk_n dX1_isInside_5 rfl ?_
  refine r_getr dX1_isInside_6 fl_X1_16 rfl rfl (hs.lt rfl) (hs.rf rfl) ?_
  refine r_iload_n dX1_isInside_9 rfl ?_
  refine r_iald dX1_isInside_10 rfl (hs.lt rfl) rfl (by omega) ?_
  refine r_iload_n dX1_isInside_11 rfl ?_
  refine q_callSr dX1_isInside_12 (c_shWide s h1) ml_X1_60 okX5_wideOf rfl rfl (Nat.le_of_ble_eq_true rfl) (roomOK.of (by decide)) ⟨(Nat.le_of_ble_eq_true rfl), (Nat.le_of_ble_eq_true rfl)⟩ ?_
  refine r_iadd dX1_isInside_15 ?_
  refine r_aloadk_n dX1_isInside_16 rfl ?_
  refine r_geti dX1_isInside_17 fl_X1_27 rfl rfl (hs.lt rfl) ?_
  refine r_icmpgt (tgt := 45) dX1_isInside_20 rfl (by omega) (by omega) (fun h20 => ?_) (fun h20 => ?_)
  · refine r_iconst dX1_isInside_45 ?_
    exact r_iretz dX1_isInside_46 rfl (by omega) ⟨_, rfl, rfl, by unfold bi; split <;> omega⟩
  · refine r_aloadk_n dX1_isInside_23 rfl ?_
    refine r_getr dX1_isInside_24 fl_X1_20 rfl rfl (hs.lt rfl) (hs.rf rfl) ?_
    refine r_iload_n dX1_isInside_27 rfl ?_
    refine r_iald dX1_isInside_28 rfl (hs.lt rfl) rfl (by omega) ?_
    refine r_iload_n dX1_isInside_29 rfl ?_
    refine q_callSr dX1_isInside_30 (c_shHigh s h1) ml_X1_63 okX5_highOf rfl rfl (Nat.le_of_ble_eq_true rfl) (roomOK.of (by decide)) ⟨(Nat.le_of_ble_eq_true rfl), (Nat.le_of_ble_eq_true rfl)⟩ ?_
    refine r_iadd dX1_isInside_33 ?_
    refine r_aloadk_n dX1_isInside_34 rfl ?_
    refine r_geti dX1_isInside_35 fl_X1_31 rfl rfl (hs.lt rfl) ?_
    refine r_icmpgt (tgt := 45) dX1_isInside_38 rfl (by omega) (by omega) (fun h38 => ?_) (fun h38 => ?_)
    · refine r_iconst dX1_isInside_45 ?_
      exact r_iretz dX1_isInside_46 rfl (by omega) ⟨_, rfl, rfl, by unfold bi; split <;> omega⟩
    · refine r_iconst dX1_isInside_41 ?_
      refine r_goto (tgt := 46) dX1_isInside_42 rfl ?_
      exact r_iretz dX1_isInside_46 rfl (by omega) ⟨_, rfl, rfl, by unfold bi; split <;> omega⟩
theorem c_isIn (hs : Std n ρ) (hR : Rg σ) {W H : Nat} (g : Geo σ W H) (c s : Nat) (hc : c < W * H) (h1 : s < 65536) (h2 : s / 256 < W * H) : RdI l G 1 mX1_isIn n ρ σ [rf G 2, iv c, iv s] (bi (inS W s c)) := by
  have hle := g.le
  obtain ⟨g0, g1, g2, g3, g4, g5⟩ := id g
  obtain ⟨e7, e8⟩ := g5 _ h2
  obtain ⟨f7, f8⟩ := g5 _ hc
  have m1 := Nat.mod_lt (s / 256) (show 0 < W by omega)
  have m2 : s / 256 / W < H := Nat.div_lt_of_lt_mul h2
  have p2 := Int.natCast_nonneg (s / 256 / W)
  have m3 := Nat.mod_lt c (show 0 < W by omega)
  have m4 : c / W < H := Nat.div_lt_of_lt_mul hc
  have p4 := Int.natCast_nonneg (c / W)
  refine Ct.of (L0 := [rf G 2, iv c, iv s, xx, xx, xx]) (by decide +kernel) (Nat.le_of_ble_eq_true rfl) rfl ?_
  refine r_iload_n dX1_isIn_0 rfl ?_
  refine q_callSr dX1_isIn_1 (c_shFirst s h1) ml_X1_54 okX5_firstOf rfl rfl (Nat.le_of_ble_eq_true rfl) (roomOK.of (by decide)) ⟨(Nat.le_of_ble_eq_true rfl), (Nat.le_of_ble_eq_true rfl)⟩ ?_
  refine r_istore_n dX1_isIn_4 (Nat.le_of_ble_eq_true rfl) rfl s3 ?_
  refine r_aloadk_n dX1_isIn_5 rfl ?_
  refine r_getr dX1_isIn_6 fl_X1_16 rfl rfl (hs.lt rfl) (hs.rf rfl) ?_
  refine r_iload_n dX1_isIn_9 rfl ?_
  refine r_iald dX1_isIn_10 rfl (hs.lt rfl) rfl (by omega) ?_
  refine r_aloadk_n dX1_isIn_11 rfl ?_
  refine r_getr dX1_isIn_12 fl_X1_16 rfl rfl (hs.lt rfl) (hs.rf rfl) ?_
  refine r_iload_n dX1_isIn_15 rfl ?_
  refine r_iald dX1_isIn_16 rfl (hs.lt rfl) rfl (by omega) ?_
  refine r_isub dX1_isIn_17 ?_
  refine r_istore dX1_isIn_18 (Nat.le_of_ble_eq_true rfl) rfl s4 ?_
  refine r_aloadk_n dX1_isIn_20 rfl ?_
  refine r_getr dX1_isIn_21 fl_X1_20 rfl rfl (hs.lt rfl) (hs.rf rfl) ?_
  refine r_iload_n dX1_isIn_24 rfl ?_
  refine r_iald dX1_isIn_25 rfl (hs.lt rfl) rfl (by omega) ?_
  refine r_aloadk_n dX1_isIn_26 rfl ?_
  refine r_getr dX1_isIn_27 fl_X1_20 rfl rfl (hs.lt rfl) (hs.rf rfl) ?_
  refine r_iload_n dX1_isIn_30 rfl ?_
  refine r_iald dX1_isIn_31 rfl (hs.lt rfl) rfl (by omega) ?_
  refine r_isub dX1_isIn_32 ?_
  refine r_istore dX1_isIn_33 (Nat.le_of_ble_eq_true rfl) rfl s5 ?_
  refine r_iload dX1_isIn_35 rfl ?_
  refine r_iflt (tgt := 67) dX1_isIn_37 rfl (by omega) (fun h37 => ?_) (fun h37 => ?_)
  · refine r_iconst dX1_isIn_67 ?_
    exact r_iretz dX1_isIn_68 rfl (by omega) ⟨_, rfl, rfl, by unfold bi; split <;> omega⟩
  · refine r_iload dX1_isIn_40 rfl ?_
    refine r_iload_n dX1_isIn_42 rfl ?_
    refine q_callSr dX1_isIn_43 (c_shWide s h1) ml_X1_60 okX5_wideOf rfl rfl (Nat.le_of_ble_eq_true rfl) (roomOK.of (by decide)) ⟨(Nat.le_of_ble_eq_true rfl), (Nat.le_of_ble_eq_true rfl)⟩ ?_
    refine r_icmpge (tgt := 67) dX1_isIn_46 rfl (by omega) (by omega) (fun h46 => ?_) (fun h46 => ?_)
    · refine r_iconst dX1_isIn_67 ?_
      exact r_iretz dX1_isIn_68 rfl (by omega) ⟨_, rfl, rfl, by unfold bi; split <;> omega⟩
    · refine r_iload dX1_isIn_49 rfl ?_
      refine r_iflt (tgt := 67) dX1_isIn_51 rfl (by omega) (fun h51 => ?_) (fun h51 => ?_)
      · refine r_iconst dX1_isIn_67 ?_
        exact r_iretz dX1_isIn_68 rfl (by omega) ⟨_, rfl, rfl, by unfold bi; split <;> omega⟩
      · refine r_iload dX1_isIn_54 rfl ?_
        refine r_iload_n dX1_isIn_56 rfl ?_
        refine q_callSr dX1_isIn_57 (c_shHigh s h1) ml_X1_63 okX5_highOf rfl rfl (Nat.le_of_ble_eq_true rfl) (roomOK.of (by decide)) ⟨(Nat.le_of_ble_eq_true rfl), (Nat.le_of_ble_eq_true rfl)⟩ ?_
        refine r_icmpge (tgt := 67) dX1_isIn_60 rfl (by omega) (by omega) (fun h60 => ?_) (fun h60 => ?_)
        · refine r_iconst dX1_isIn_67 ?_
          exact r_iretz dX1_isIn_68 rfl (by omega) ⟨_, rfl, rfl, by unfold bi; split <;> omega⟩
        · refine r_iconst dX1_isIn_63 ?_
          refine r_goto (tgt := 68) dX1_isIn_64 rfl ?_
          exact r_iretz dX1_isIn_68 rfl (by omega) ⟨_, rfl, rfl, by unfold bi; split <;> omega⟩
theorem c_stepsTo (hs : Std n ρ) (hR : Rg σ) {W H : Nat} (g : Geo σ W H) (c s : Nat) (hc : c < W * H) (h1 : s < 65536) (h2 : s / 256 < W * H) : RdI l G 2 mX1_stepsTo n ρ σ [rf G 2, iv c, iv s] (stepsS W c s) := by
  have hle := g.le
  obtain ⟨g0, g1, g2, g3, g4, g5⟩ := id g
  obtain ⟨e7, e8⟩ := g5 _ h2
  obtain ⟨f7, f8⟩ := g5 _ hc
  have m1 := Nat.mod_lt (s / 256) (show 0 < W by omega)
  have m2 : s / 256 / W < H := Nat.div_lt_of_lt_mul h2
  have p2 := Int.natCast_nonneg (s / 256 / W)
  have m3 := Nat.mod_lt c (show 0 < W by omega)
  have m4 : c / W < H := Nat.div_lt_of_lt_mul hc
  have p4 := Int.natCast_nonneg (c / W)
  refine Ct.of (L0 := [rf G 2, iv c, iv s, xx]) (by decide +kernel) (Nat.le_of_ble_eq_true rfl) rfl ?_
  refine r_iload_n dX1_stepsTo_0 rfl ?_
  refine q_callSr dX1_stepsTo_1 (c_shFirst s h1) ml_X1_54 okX5_firstOf rfl rfl (Nat.le_of_ble_eq_true rfl) (roomOK.of (by decide)) ⟨(Nat.le_of_ble_eq_true rfl), (Nat.le_of_ble_eq_true rfl)⟩ ?_
  refine r_istore_n dX1_stepsTo_4 (Nat.le_of_ble_eq_true rfl) rfl s3 ?_
  refine r_aloadk_n dX1_stepsTo_5 rfl ?_
  refine r_getr dX1_stepsTo_6 fl_X1_16 rfl rfl (hs.lt rfl) (hs.rf rfl) ?_
  refine r_iload_n dX1_stepsTo_9 rfl ?_
  refine r_iald dX1_stepsTo_10 rfl (hs.lt rfl) rfl (by omega) ?_
  refine r_aloadk_n dX1_stepsTo_11 rfl ?_
  refine r_getr dX1_stepsTo_12 fl_X1_16 rfl rfl (hs.lt rfl) (hs.rf rfl) ?_
  refine r_iload_n dX1_stepsTo_15 rfl ?_
  refine r_iald dX1_stepsTo_16 rfl (hs.lt rfl) rfl (by omega) ?_
  refine r_iload_n dX1_stepsTo_17 rfl ?_
  refine q_callSr dX1_stepsTo_18 (c_shWide s h1) ml_X1_60 okX5_wideOf rfl rfl (Nat.le_of_ble_eq_true rfl) (roomOK.of (by decide)) ⟨(Nat.le_of_ble_eq_true rfl), (Nat.le_of_ble_eq_true rfl)⟩ ?_
  refine q_callSr dX1_stepsTo_21 (c_gap (σ 7 c) (σ 7 (s / 256)) (s / 16 % 16 : Nat) (by omega) (by omega) (by omega)) ml_X1_66 okX1_gap rfl rfl (Nat.le_of_ble_eq_true rfl) (roomOK.of (by decide)) ⟨(Nat.le_of_ble_eq_true rfl), (Nat.le_of_ble_eq_true rfl)⟩ ?_
  refine r_aloadk_n dX1_stepsTo_24 rfl ?_
  refine r_getr dX1_stepsTo_25 fl_X1_20 rfl rfl (hs.lt rfl) (hs.rf rfl) ?_
  refine r_iload_n dX1_stepsTo_28 rfl ?_
  refine r_iald dX1_stepsTo_29 rfl (hs.lt rfl) rfl (by omega) ?_
  refine r_aloadk_n dX1_stepsTo_30 rfl ?_
  refine r_getr dX1_stepsTo_31 fl_X1_20 rfl rfl (hs.lt rfl) (hs.rf rfl) ?_
  refine r_iload_n dX1_stepsTo_34 rfl ?_
  refine r_iald dX1_stepsTo_35 rfl (hs.lt rfl) rfl (by omega) ?_
  refine r_iload_n dX1_stepsTo_36 rfl ?_
  refine q_callSr dX1_stepsTo_37 (c_shHigh s h1) ml_X1_63 okX5_highOf rfl rfl (Nat.le_of_ble_eq_true rfl) (roomOK.of (by decide)) ⟨(Nat.le_of_ble_eq_true rfl), (Nat.le_of_ble_eq_true rfl)⟩ ?_
  refine q_callSr dX1_stepsTo_40 (c_gap (σ 8 c) (σ 8 (s / 256)) (s % 16 : Nat) (by omega) (by omega) (by omega)) ml_X1_66 okX1_gap rfl rfl (Nat.le_of_ble_eq_true rfl) (roomOK.of (by decide)) ⟨(Nat.le_of_ble_eq_true rfl), (Nat.le_of_ble_eq_true rfl)⟩ ?_
  refine r_iadd dX1_stepsTo_43 ?_
  exact r_ireti dX1_stepsTo_44 rfl ⟨_, rfl, rfl, by unfold stepsS; rw [e7, e8, f7, f8]⟩
end Ground2
