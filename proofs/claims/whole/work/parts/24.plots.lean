/-! CLASS: PlotBook, what it reads -/
/-- a row of shapes: none (-1), or a rectangle that begins on the land -/
def ShpOK (W H : Nat) (sh : Nat → Int) : Prop := ∀ p, p < 8 → sh p = -1 ∨ (0 ≤ sh p ∧ sh p < 65536 ∧ (sh p).toNat / 256 < W * H)
def aheadF (W : Nat) (sh : Nat → Int) (c : Nat) (p : Nat) : Bool := decide (¬ sh p = -1 ∧ inS W (sh p).toNat c)
theorem aheadF_t {W : Nat} {sh : Nat → Int} {c p : Nat} : aheadF W sh c p = true ↔ (¬ sh p = -1 ∧ inS W (sh p).toNat c) := by unfold aheadF; exact decide_eq_true_iff
section Plots
variable {l : Launch} {G : GG} {n : Nat} {ρ : Rho} {σ : Si}
theorem c_isDrawn (hs : Std n ρ) (hR : Rg σ) (p : Nat) (hp : p < 8) : RdI l G 0 mX2_isDrawn n ρ σ [rf G 35, iv p] (bi (¬ σ 36 p = -1)) := by
  refine Ct.of (L0 := [rf G 35, iv p]) (by decide +kernel) (Nat.le_of_ble_eq_true rfl) rfl ?_
  refine r_aloadk_n dX2_isDrawn_0 rfl ?_
  refine r_getr dX2_isDrawn_1 fl_X2_9 rfl rfl (hs.lt rfl) (hs.rf rfl) ?_
  refine r_iload_n dX2_isDrawn_4 rfl ?_
  refine r_iald dX2_isDrawn_5 rfl (hs.lt rfl) rfl (by omega) ?_
  refine r_iconst dX2_isDrawn_6 ?_
  refine r_icmpeq (tgt := 14) dX2_isDrawn_7 rfl (by first | exact hR _ (Nat.le_of_ble_eq_true rfl) _ | omega) (by first | exact hR _ (Nat.le_of_ble_eq_true rfl) _ | omega) (fun h7 => ?_) (fun h7 => ?_)
  · refine r_iconst dX2_isDrawn_14 ?_
    exact r_iretz dX2_isDrawn_15 rfl (by omega) ⟨_, rfl, rfl, by unfold bi; split <;> omega⟩
  · refine r_iconst dX2_isDrawn_10 ?_
    refine r_goto (tgt := 15) dX2_isDrawn_11 rfl ?_
    exact r_iretz dX2_isDrawn_15 rfl (by omega) ⟨_, rfl, rfl, by unfold bi; split <;> omega⟩
theorem c_drawnPlots (hs : Std n ρ) (hR : Rg σ) (P : Nat) (hP : σ 19 1 = P) (hP8 : P ≤ 8) : RdI l G 1 mX2_drawnPlots n ρ σ [rf G 35] (sumN (fun p => bi (¬ σ 36 p = -1)) P) := by
  have loop : ∀ (m i : Nat) (s : Int), i + m = P → s = sumN (fun p => bi (¬ σ 36 p = -1)) i → RW (KI l G 1 mX2_drawnPlots n ρ (fun σ' z => σ' = σ ∧ z = sumN (fun p => bi (¬ σ 36 p = -1)) P)) (0, 0, n, ρ) σ 4 [rf G 35, iv s, iv i] [] := by
    intro m
    induction m with
    | zero =>
      intro i s hi hf
      have e : i = P := by omega
      refine r_iload_n dX2_drawnPlots_4 rfl ?_
      refine r_aloadk_n dX2_drawnPlots_5 rfl ?_
      refine r_getr dX2_drawnPlots_6 fl_X2_22 rfl rfl (hs.lt rfl) (hs.rf rfl) ?_
      refine r_geti dX2_drawnPlots_9 fl_X2_35 rfl rfl (hs.lt rfl) ?_
      refine r_icmpge (tgt := 32) dX2_drawnPlots_12 rfl (by first | exact hR _ (Nat.le_of_ble_eq_true rfl) _ | omega) (by first | exact hR _ (Nat.le_of_ble_eq_true rfl) _ | omega) (fun h12 => ?_) (fun h12 => ?_)
      · refine r_iload_n dX2_drawnPlots_32 rfl ?_
        exact r_ireti dX2_drawnPlots_33 rfl ⟨_, rfl, rfl, by rw [← e, hf]⟩
      · omega
    | succ m ih =>
      intro i s hi hf
      refine r_iload_n dX2_drawnPlots_4 rfl ?_
      refine r_aloadk_n dX2_drawnPlots_5 rfl ?_
      refine r_getr dX2_drawnPlots_6 fl_X2_22 rfl rfl (hs.lt rfl) (hs.rf rfl) ?_
      refine r_geti dX2_drawnPlots_9 fl_X2_35 rfl rfl (hs.lt rfl) ?_
      refine r_icmpge (tgt := 32) dX2_drawnPlots_12 rfl (by first | exact hR _ (Nat.le_of_ble_eq_true rfl) _ | omega) (by first | exact hR _ (Nat.le_of_ble_eq_true rfl) _ | omega) (fun h12 => ?_) (fun h12 => ?_)
      · omega
      · refine r_aloadk_n dX2_drawnPlots_15 rfl ?_
        refine r_iload_n dX2_drawnPlots_16 rfl ?_
        refine q_callVr dX2_drawnPlots_17 (c_isDrawn hs hR i (by omega)) ml_X2_41 okX2_isDrawn rfl rfl (hs.lt rfl) rfl rfl (Nat.le_of_ble_eq_true rfl) (roomOK.of (by decide)) ⟨(Nat.le_of_ble_eq_true rfl), (Nat.le_of_ble_eq_true rfl)⟩ ?_
        refine r_ifeqb (tgt := 26) dX2_drawnPlots_20 rfl (fun h20 => ?_) (fun h20 => ?_)
        · refine r_iinc dX2_drawnPlots_26 (Nat.le_of_ble_eq_true rfl) rfl rfl s2 ?_
          refine r_goto (tgt := 4) dX2_drawnPlots_29 rfl ?_
          refine ih (i + 1) _ (by omega) ?_
          show _ = sumN _ i + bi (¬ σ 36 i = -1)
          rw [← hf]; unfold bi; split <;> omega
        · refine r_iinc dX2_drawnPlots_23 (Nat.le_of_ble_eq_true rfl) rfl rfl s1 ?_
          refine r_iinc dX2_drawnPlots_26 (Nat.le_of_ble_eq_true rfl) rfl rfl s2 ?_
          refine r_goto (tgt := 4) dX2_drawnPlots_29 rfl ?_
          refine ih (i + 1) _ (by omega) ?_
          show _ = sumN _ i + bi (¬ σ 36 i = -1)
          rw [← hf]; unfold bi; split <;> omega
  refine Ct.of (L0 := [rf G 35, xx, xx]) (by decide +kernel) (Nat.le_of_ble_eq_true rfl) rfl ?_
  refine r_iconst dX2_drawnPlots_0 ?_
  refine r_istore_n dX2_drawnPlots_1 (Nat.le_of_ble_eq_true rfl) rfl s1 ?_
  refine r_iconst dX2_drawnPlots_2 ?_
  refine r_istore_n dX2_drawnPlots_3 (Nat.le_of_ble_eq_true rfl) rfl s2 ?_
  exact loop P 0 _ (by omega) rfl
theorem c_isInPlotAhead (hs : Std n ρ) (hR : Rg σ) {W H : Nat} (g : Geo σ W H) (hsh : ShpOK W H (σ 36)) (c p : Nat) (hc : c < W * H) (hp : p ≤ 8) : RdI l G 2 mX2_isInPlotAhead n ρ σ [rf G 35, iv c, iv p] (bi (anyN (aheadF W (σ 36) c) p = true)) := by
  have hle := g.le
  have loop : ∀ (m i : Nat), i + m = p → anyN (aheadF W (σ 36) c) i = false → RW (KI l G 2 mX2_isInPlotAhead n ρ (fun σ' z => σ' = σ ∧ z = bi (anyN (aheadF W (σ 36) c) p = true))) (0, 0, n, ρ) σ 2 [rf G 35, iv c, iv p, iv i] [] := by
    intro m
    induction m with
    | zero =>
      intro i hi ha
      have e : i = p := by omega
      subst e
      refine r_iload_n dX2_isInPlotAhead_2 rfl ?_
      refine r_iload_n dX2_isInPlotAhead_3 rfl ?_
      refine r_icmpge (tgt := 40) dX2_isInPlotAhead_4 rfl (by first | exact hR _ (Nat.le_of_ble_eq_true rfl) _ | omega) (by first | exact hR _ (Nat.le_of_ble_eq_true rfl) _ | omega) (fun h4 => ?_) (fun h4 => ?_)
      · refine r_iconst dX2_isInPlotAhead_40 ?_
        exact r_iretz dX2_isInPlotAhead_41 rfl (by omega) ⟨_, rfl, rfl, by rw [bi_f (by rw [ha]; decide)]⟩
      · omega
    | succ m ih =>
      intro i hi ha
      have hshi := hsh i (by omega)
      refine r_iload_n dX2_isInPlotAhead_2 rfl ?_
      refine r_iload_n dX2_isInPlotAhead_3 rfl ?_
      refine r_icmpge (tgt := 40) dX2_isInPlotAhead_4 rfl (by first | exact hR _ (Nat.le_of_ble_eq_true rfl) _ | omega) (by first | exact hR _ (Nat.le_of_ble_eq_true rfl) _ | omega) (fun h4 => ?_) (fun h4 => ?_)
      · omega
      · refine r_aloadk_n dX2_isInPlotAhead_7 rfl ?_
        refine r_iload_n dX2_isInPlotAhead_8 rfl ?_
        refine q_callVr dX2_isInPlotAhead_9 (c_isDrawn hs hR i (by omega)) ml_X2_41 okX2_isDrawn rfl rfl (hs.lt rfl) rfl rfl (Nat.le_of_ble_eq_true rfl) (roomOK.of (by decide)) ⟨(Nat.le_of_ble_eq_true rfl), (Nat.le_of_ble_eq_true rfl)⟩ ?_
        refine r_ifeqb (tgt := 34) dX2_isInPlotAhead_12 rfl (fun h12 => ?_) (fun h12 => ?_)
        · refine r_iinc dX2_isInPlotAhead_34 (Nat.le_of_ble_eq_true rfl) rfl rfl s3 ?_
          refine r_goto (tgt := 2) dX2_isInPlotAhead_37 rfl ?_
          refine ih (i + 1) (by omega) ?_
          show (anyN _ i || aheadF _ _ _ i) = false
          rw [ha, Bool.false_or]
          refine Bool.eq_false_iff.mpr (fun q => ?_)
          have q := aheadF_t.mp q
          first | exact h12 q.1 | (rw [hb, Int.toNat_natCast] at q; exact h29 q.2)
        · obtain ⟨b, hb⟩ : ∃ b : Nat, σ 36 i = b := ⟨(σ 36 i).toNat, by omega⟩
          rw [hb, Int.toNat_natCast] at hshi
          refine r_aloadk_n dX2_isInPlotAhead_15 rfl ?_
          refine r_getr dX2_isInPlotAhead_16 fl_X2_18 rfl rfl (hs.lt rfl) (hs.rf rfl) ?_
          refine r_iload_n dX2_isInPlotAhead_19 rfl ?_
          refine r_aloadk_n dX2_isInPlotAhead_20 rfl ?_
          refine r_getr dX2_isInPlotAhead_21 fl_X2_9 rfl rfl (hs.lt rfl) (hs.rf rfl) ?_
          refine r_iload_n dX2_isInPlotAhead_24 rfl ?_
          refine r_iald dX2_isInPlotAhead_25 rfl (hs.lt rfl) rfl (by omega) ?_
          rw [hb]
          refine q_callVr dX2_isInPlotAhead_26 (c_isIn hs hR g c b hc (by omega) (by omega)) ml_X2_45 okX1_isIn rfl rfl (hs.lt rfl) rfl rfl (Nat.le_of_ble_eq_true rfl) (roomOK.of (by decide)) ⟨(Nat.le_of_ble_eq_true rfl), (Nat.le_of_ble_eq_true rfl)⟩ ?_
          refine r_ifeqb (tgt := 34) dX2_isInPlotAhead_29 rfl (fun h29 => ?_) (fun h29 => ?_)
          · refine r_iinc dX2_isInPlotAhead_34 (Nat.le_of_ble_eq_true rfl) rfl rfl s3 ?_
            refine r_goto (tgt := 2) dX2_isInPlotAhead_37 rfl ?_
            refine ih (i + 1) (by omega) ?_
            show (anyN _ i || aheadF _ _ _ i) = false
            rw [ha, Bool.false_or]
            refine Bool.eq_false_iff.mpr (fun q => ?_)
            have q := aheadF_t.mp q
            first | exact h12 q.1 | (rw [hb, Int.toNat_natCast] at q; exact h29 q.2)
          · refine r_iconst dX2_isInPlotAhead_32 ?_
            exact r_iretz dX2_isInPlotAhead_33 rfl (by omega) ⟨_, rfl, rfl, by rw [bi_t ((anyN_iff p).mpr ⟨i, by omega, aheadF_t.mpr ⟨by omega, by rw [hb, Int.toNat_natCast]; exact h29⟩⟩)]⟩
  refine Ct.of (L0 := [rf G 35, iv c, iv p, xx]) (by decide +kernel) (Nat.le_of_ble_eq_true rfl) rfl ?_
  refine r_iconst dX2_isInPlotAhead_0 ?_
  refine r_istore_n dX2_isInPlotAhead_1 (Nat.le_of_ble_eq_true rfl) rfl s3 ?_
  exact loop p 0 (by omega) rfl
/-- what a plot is worth -/
def worS (W : Nat) (so : Nat → Int) (s N : Nat) : Int := sumN (fun c => if inS W s c then so c else 0) N
theorem worS_r {W : Nat} {so : Nat → Int} {s N : Nat} (h : ∀ c, 0 ≤ so c ∧ so c ≤ 9) : 0 ≤ worS W so s N ∧ worS W so s N ≤ 9 * N := by
  have := sumN_r (f := fun c => if inS W s c then so c else 0) (a := 0) (b := 9) N (fun i _ => by have := h i; show 0 ≤ (if inS W s i then so i else 0) ∧ (if inS W s i then so i else 0) ≤ 9; split <;> omega)
  unfold worS
  omega
theorem c_worthOf (hs : Std n ρ) (hR : Rg σ) {W H : Nat} (g : Geo σ W H) (hso : ∀ c, 0 ≤ σ 4 c ∧ σ 4 c ≤ 9) (p s : Nat) (hp : p < 8) (hps : σ 36 p = s) (hs1 : s < 65536) (hs2 : s / 256 < W * H) : RdI l G 2 mX2_worthOf n ρ σ [rf G 35, iv p] (worS W (σ 4) s (W * H)) := by
  have hle := g.le
  obtain ⟨g0, g1, g2, g3, g4, g5⟩ := id g
  have loop : ∀ (m i : Nat) (z0 : Int), i + m = W * H → z0 = worS W (σ 4) s i → RW (KI l G 2 mX2_worthOf n ρ (fun σ' z => σ' = σ ∧ z = worS W (σ 4) s (W * H))) (0, 0, n, ρ) σ 4 [rf G 35, iv p, iv z0, iv i] [] := by
    intro m
    induction m with
    | zero =>
      intro i z0 hi hz
      have e : i = W * H := by omega
      refine r_iload_n dX2_worthOf_4 rfl ?_
      refine r_aloadk_n dX2_worthOf_5 rfl ?_
      refine r_getr dX2_worthOf_6 fl_X2_18 rfl rfl (hs.lt rfl) (hs.rf rfl) ?_
      refine r_geti dX2_worthOf_9 fl_X2_54 rfl rfl (hs.lt rfl) ?_
      refine r_icmpge (tgt := 52) dX2_worthOf_12 rfl (by first | exact hR _ (Nat.le_of_ble_eq_true rfl) _ | omega) (by first | exact hR _ (Nat.le_of_ble_eq_true rfl) _ | omega) (fun h12 => ?_) (fun h12 => ?_)
      · refine r_iload_n dX2_worthOf_52 rfl ?_
        exact r_ireti dX2_worthOf_53 rfl ⟨_, rfl, rfl, by rw [← e, hz]⟩
      · omega
    | succ m ih =>
      intro i z0 hi hz
      refine r_iload_n dX2_worthOf_4 rfl ?_
      refine r_aloadk_n dX2_worthOf_5 rfl ?_
      refine r_getr dX2_worthOf_6 fl_X2_18 rfl rfl (hs.lt rfl) (hs.rf rfl) ?_
      refine r_geti dX2_worthOf_9 fl_X2_54 rfl rfl (hs.lt rfl) ?_
      refine r_icmpge (tgt := 52) dX2_worthOf_12 rfl (by first | exact hR _ (Nat.le_of_ble_eq_true rfl) _ | omega) (by first | exact hR _ (Nat.le_of_ble_eq_true rfl) _ | omega) (fun h12 => ?_) (fun h12 => ?_)
      · omega
      · refine r_aloadk_n dX2_worthOf_15 rfl ?_
        refine r_getr dX2_worthOf_16 fl_X2_18 rfl rfl (hs.lt rfl) (hs.rf rfl) ?_
        refine r_iload_n dX2_worthOf_19 rfl ?_
        refine r_aloadk_n dX2_worthOf_20 rfl ?_
        refine r_getr dX2_worthOf_21 fl_X2_9 rfl rfl (hs.lt rfl) (hs.rf rfl) ?_
        refine r_iload_n dX2_worthOf_24 rfl ?_
        refine r_iald dX2_worthOf_25 rfl (hs.lt rfl) rfl (by omega) ?_
        rw [hps]
        refine q_callVr dX2_worthOf_26 (c_isIn hs hR g i s (by omega) hs1 hs2) ml_X2_45 okX1_isIn rfl rfl (hs.lt rfl) rfl rfl (Nat.le_of_ble_eq_true rfl) (roomOK.of (by decide)) ⟨(Nat.le_of_ble_eq_true rfl), (Nat.le_of_ble_eq_true rfl)⟩ ?_
        refine r_ifeqb (tgt := 46) dX2_worthOf_29 rfl (fun h29 => ?_) (fun h29 => ?_)
        · refine r_iinc dX2_worthOf_46 (Nat.le_of_ble_eq_true rfl) rfl rfl s3 ?_
          refine r_goto (tgt := 4) dX2_worthOf_49 rfl ?_
          refine ih (i + 1) _ (by omega) ?_
          show _ = worS W (σ 4) s i + (if inS W s i then σ 4 i else 0)
          rw [← hz]
          first | rw [if_pos h29] | (rw [if_neg h29]; omega)
        · refine r_iload_n dX2_worthOf_32 rfl ?_
          refine r_aloadk_n dX2_worthOf_33 rfl ?_
          refine r_getr dX2_worthOf_34 fl_X2_18 rfl rfl (hs.lt rfl) (hs.rf rfl) ?_
          refine r_getr dX2_worthOf_37 fl_X2_75 rfl rfl (hs.lt rfl) (hs.rf rfl) ?_
          refine r_iconst dX2_worthOf_40 ?_
          refine r_aald dX2_worthOf_41 rfl (hs.lt rfl) (c := 0) rfl (Nat.le_of_ble_eq_true rfl) (hs.rf rfl) ?_
          refine r_iload_n dX2_worthOf_42 rfl ?_
          refine r_iald dX2_worthOf_43 rfl (hs.lt rfl) rfl (by omega) ?_
          refine r_iadd dX2_worthOf_44 ?_
          refine r_istore_n dX2_worthOf_45 (Nat.le_of_ble_eq_true rfl) rfl s2 ?_
          refine r_iinc dX2_worthOf_46 (Nat.le_of_ble_eq_true rfl) rfl rfl s3 ?_
          refine r_goto (tgt := 4) dX2_worthOf_49 rfl ?_
          refine ih (i + 1) _ (by omega) ?_
          show _ = worS W (σ 4) s i + (if inS W s i then σ 4 i else 0)
          rw [← hz]
          first | rw [if_pos h29] | (rw [if_neg h29]; omega)
  refine Ct.of (L0 := [rf G 35, iv p, xx, xx]) (by decide +kernel) (Nat.le_of_ble_eq_true rfl) rfl ?_
  refine r_iconst dX2_worthOf_0 ?_
  refine r_istore_n dX2_worthOf_1 (Nat.le_of_ble_eq_true rfl) rfl s2 ?_
  refine r_iconst dX2_worthOf_2 ?_
  refine r_istore_n dX2_worthOf_3 (Nat.le_of_ble_eq_true rfl) rfl s3 ?_
  exact loop (W * H) 0 _ (by omega) rfl
end Plots
