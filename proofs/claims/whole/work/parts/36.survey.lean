/-! CLASS: cells, surveys -/
theorem sref3 : ∀ w, w < 3 → sref 3 w = some (4 + w) := by decide
theorem shp3 : ∀ w, w < 3 → shp (4 + w) = (100, 80) := by decide
theorem sref13 : ∀ w, w < 3 → sref 13 w = some (14 + w) := by decide
theorem shp13 : ∀ w, w < 3 → shp (14 + w) = (100, 80) := by decide
/-- a number cut to a width -/
def cutS (w v : Int) : Int := if w = 0 then v.bmod 256 else if w = 1 then v.bmod 65536 else v
theorem cutS_r (w v : Int) (h : R32 v) : R32 (cutS w v) := by
  have h1 : -128 ≤ v.bmod 256 ∧ v.bmod 256 < 128 := ⟨Int.le_bmod (by omega), Int.bmod_lt (by omega)⟩
  have h2 : -32768 ≤ v.bmod 65536 ∧ v.bmod 65536 < 32768 := ⟨Int.le_bmod (by omega), Int.bmod_lt (by omega)⟩
  unfold cutS
  split
  · omega
  · split <;> omega
/-- a row of which some places come from another -/
def cpW (f g : Nat → Int) (sp dp m : Nat) : Nat → Int := fun b => if dp ≤ b ∧ b < dp + m then f (sp + (b - dp)) else g b
theorem cpy_sr {σ : Si} {k0 k1 sp dp m : Nat} : cpy σ k0 k1 sp dp m = sr σ k1 (cpW (σ k0) (σ k1) sp dp m) := by
  funext a b
  unfold cpy sr cpW
  by_cases h : a = k1
  · rw [if_pos h]
    by_cases h2 : dp ≤ b ∧ b < dp + m
    · rw [if_pos ⟨h, h2⟩, if_pos h2]
    · rw [if_neg (fun q => h2 q.2), if_neg h2, h]
  · rw [if_neg h, if_neg (fun q => h q.1)]
section Survey
variable {l : Launch} {G : GG} {n : Nat} {ρ : Rho} {σ : Si}
theorem c_cell (hs : Std n ρ) (hR : Rg σ) (hsz : σ 2 2 ≤ 80) (x1 x2 x3 : Int) (h1 : R32 x1) (h2 : R32 x2) (h3 : R32 x3) : CtI l G 2 mX8_cell n ρ σ [rf G 0, iv x1, iv x2, iv x3] (fun σ' z => (¬ ((0 ≤ x1 ∧ x1 < σ 2 2) ∧ (0 ≤ x2 ∧ x2 ≤ 2) ∧ (0 ≤ x3 ∧ x3 ≤ mostMark x2.toNat)) ∧ z = -3 ∧ σ' = σ) ∨ ((0 ≤ x1 ∧ x1 < σ 2 2) ∧ (0 ≤ x2 ∧ x2 ≤ 2) ∧ (0 ≤ x3 ∧ x3 ≤ mostMark x2.toNat)) ∧ z = σ (4 + x2.toNat) x1.toNat ∧ σ' = up σ (4 + x2.toNat) x1.toNat x3) := by
  have hm : ∀ w, R32 (mostMark w) := fun w => by unfold mostMark; split <;> omega
  refine Ct.of (L0 := [rf G 0, iv x1, iv x2, iv x3, xx]) (by decide +kernel) (Nat.le_of_ble_eq_true rfl) rfl ?_
  refine r_aloadk_n dX8_cell_0 rfl ?_
  refine r_getr dX8_cell_1 fl_X8_16 rfl rfl (hs.lt rfl) (hs.rf rfl) ?_
  refine r_iload_n dX8_cell_4 rfl ?_
  refine q_callVr dX8_cell_5 (c_isCell hs hR x1 h1) ml_X8_81 okX1_isCell rfl rfl (hs.lt rfl) rfl rfl (Nat.le_of_ble_eq_true rfl) (roomOK.of (by decide)) ⟨(Nat.le_of_ble_eq_true rfl), (Nat.le_of_ble_eq_true rfl)⟩ ?_
  refine r_ifeqb (tgt := 31) dX8_cell_8 rfl (fun h8 => ?_) (fun h8 => ?_)
  · refine r_bipush dX8_cell_31 ?_
    exact r_ireti dX8_cell_33 rfl ⟨_, rfl, Or.inl ⟨by first | exact fun q => h8 q.1 | exact fun q => h15 q.2.1 | exact fun q => h28 q.2.2, rfl, rfl⟩⟩
  · refine r_iload_n dX8_cell_11 rfl ?_
    refine q_callSr dX8_cell_12 (c_isMark x2 h2) ml_X8_85 okX8_isMark rfl rfl (Nat.le_of_ble_eq_true rfl) (roomOK.of (by decide)) ⟨(Nat.le_of_ble_eq_true rfl), (Nat.le_of_ble_eq_true rfl)⟩ ?_
    refine r_ifeqb (tgt := 31) dX8_cell_15 rfl (fun h15 => ?_) (fun h15 => ?_)
    · refine r_bipush dX8_cell_31 ?_
      exact r_ireti dX8_cell_33 rfl ⟨_, rfl, Or.inl ⟨by first | exact fun q => h8 q.1 | exact fun q => h15 q.2.1 | exact fun q => h28 q.2.2, rfl, rfl⟩⟩
    · refine r_iload_n dX8_cell_18 rfl ?_
      refine r_iconst dX8_cell_19 ?_
      refine r_getM dX8_cell_20 st_X8_88 ?_
      refine r_iload_n dX8_cell_23 rfl ?_
      refine r_ldM (c := x2.toNat) dX8_cell_24 (by omega) (by omega) ?_
      refine q_callSr dX8_cell_25 (c_isWithin x3 0 (mostMark x2.toNat) h3 (by omega) (hm _)) ml_X8_65 okX8_isWithin rfl rfl (Nat.le_of_ble_eq_true rfl) (roomOK.of (by decide)) ⟨(Nat.le_of_ble_eq_true rfl), (Nat.le_of_ble_eq_true rfl)⟩ ?_
      refine r_ifneb (tgt := 34) dX8_cell_28 rfl (fun h28 => ?_) (fun h28 => ?_)
      · obtain ⟨c, rfl⟩ : ∃ c : Nat, x1 = c := ⟨x1.toNat, by omega⟩
        obtain ⟨w, rfl⟩ : ∃ w : Nat, x2 = w := ⟨x2.toNat, by omega⟩
        have hw : w < 3 := by omega
        have hc80 : c < 80 := by omega
        refine r_aloadk_n dX8_cell_34 rfl ?_
        refine r_getr dX8_cell_35 fl_X8_16 rfl rfl (hs.lt rfl) (hs.rf rfl) ?_
        refine r_getr dX8_cell_38 fl_X8_91 rfl rfl (hs.lt rfl) (hs.rf rfl) ?_
        refine r_iload_n dX8_cell_41 rfl ?_
        refine r_aald dX8_cell_42 rfl (hs.lt rfl) (c := w) rfl hw (hs.rf (sref3 w hw)) ?_
        refine r_iload_n dX8_cell_43 rfl ?_
        refine r_iald dX8_cell_44 (shp3 w hw) ((Nat.lt_of_lt_of_le (by omega : 4 + w < 73) hs.1)) rfl hc80 ?_
        refine r_istore dX8_cell_45 (Nat.le_of_ble_eq_true rfl) rfl s4 ?_
        refine r_aloadk_n dX8_cell_47 rfl ?_
        refine r_getr dX8_cell_48 fl_X8_16 rfl rfl (hs.lt rfl) (hs.rf rfl) ?_
        refine r_getr dX8_cell_51 fl_X8_91 rfl rfl (hs.lt rfl) (hs.rf rfl) ?_
        refine r_iload_n dX8_cell_54 rfl ?_
        refine r_aald dX8_cell_55 rfl (hs.lt rfl) (c := w) rfl hw (hs.rf (sref3 w hw)) ?_
        refine r_iload_n dX8_cell_56 rfl ?_
        refine r_iload_n dX8_cell_57 rfl ?_
        refine r_iast dX8_cell_58 (shp3 w hw) ((Nat.lt_of_lt_of_le (by omega : 4 + w < 73) hs.1)) rfl hc80 ?_
        refine r_iload dX8_cell_59 rfl ?_
        exact r_ireti dX8_cell_61 rfl ⟨_, rfl, Or.inr ⟨⟨h8, h15, h28⟩, rfl, rfl⟩⟩
      · refine r_bipush dX8_cell_31 ?_
        exact r_ireti dX8_cell_33 rfl ⟨_, rfl, Or.inl ⟨by first | exact fun q => h8 q.1 | exact fun q => h15 q.2.1 | exact fun q => h28 q.2.2, rfl, rfl⟩⟩
theorem c_told (hs : Std n ρ) (hR : Rg σ) (hsz : σ 2 2 ≤ 80) (x1 x2 : Int) (h1 : R32 x1) (h2 : R32 x2) : RdI l G 2 mX8_told n ρ σ [rf G 0, iv x1, iv x2] (if (0 ≤ x1 ∧ x1 < σ 2 2) ∧ (0 ≤ x2 ∧ x2 ≤ 2) then σ (4 + x2.toNat) x1.toNat else -3) := by
  refine Ct.of (L0 := [rf G 0, iv x1, iv x2]) (by decide +kernel) (Nat.le_of_ble_eq_true rfl) rfl ?_
  refine r_aloadk_n dX8_told_0 rfl ?_
  refine r_getr dX8_told_1 fl_X8_16 rfl rfl (hs.lt rfl) (hs.rf rfl) ?_
  refine r_iload_n dX8_told_4 rfl ?_
  refine q_callVr dX8_told_5 (c_isCell hs hR x1 h1) ml_X8_81 okX1_isCell rfl rfl (hs.lt rfl) rfl rfl (Nat.le_of_ble_eq_true rfl) (roomOK.of (by decide)) ⟨(Nat.le_of_ble_eq_true rfl), (Nat.le_of_ble_eq_true rfl)⟩ ?_
  refine r_ifeqb (tgt := 18) dX8_told_8 rfl (fun h8 => ?_) (fun h8 => ?_)
  · refine r_bipush dX8_told_18 ?_
    exact r_ireti dX8_told_20 rfl ⟨_, rfl, rfl, by rw [if_neg (by omega)]⟩
  · refine r_iload_n dX8_told_11 rfl ?_
    refine q_callSr dX8_told_12 (c_isMark x2 h2) ml_X8_85 okX8_isMark rfl rfl (Nat.le_of_ble_eq_true rfl) (roomOK.of (by decide)) ⟨(Nat.le_of_ble_eq_true rfl), (Nat.le_of_ble_eq_true rfl)⟩ ?_
    refine r_ifneb (tgt := 21) dX8_told_15 rfl (fun h15 => ?_) (fun h15 => ?_)
    · obtain ⟨c, rfl⟩ : ∃ c : Nat, x1 = c := ⟨x1.toNat, by omega⟩
      obtain ⟨w, rfl⟩ : ∃ w : Nat, x2 = w := ⟨x2.toNat, by omega⟩
      have hw : w < 3 := by omega
      have hc80 : c < 80 := by omega
      refine r_aloadk_n dX8_told_21 rfl ?_
      refine r_getr dX8_told_22 fl_X8_16 rfl rfl (hs.lt rfl) (hs.rf rfl) ?_
      refine r_getr dX8_told_25 fl_X8_91 rfl rfl (hs.lt rfl) (hs.rf rfl) ?_
      refine r_iload_n dX8_told_28 rfl ?_
      refine r_aald dX8_told_29 rfl (hs.lt rfl) (c := w) rfl hw (hs.rf (sref3 w hw)) ?_
      refine r_iload_n dX8_told_30 rfl ?_
      refine r_iald dX8_told_31 (shp3 w hw) ((Nat.lt_of_lt_of_le (by omega : 4 + w < 73) hs.1)) rfl hc80 ?_
      exact r_ireti dX8_told_32 rfl ⟨_, rfl, rfl, by rw [if_pos ⟨h8, h15⟩]; rfl⟩
    · refine r_bipush dX8_told_18 ?_
      exact r_ireti dX8_told_20 rfl ⟨_, rfl, rfl, by rw [if_neg (by omega)]⟩
theorem c_isMissing (hs : Std n ρ) (hR : Rg σ) (s : Nat) (h : s < 3) : RdI l G 0 mX7_isMissing n ρ σ [rf G 12, iv s] (bi (σ 18 s = -1)) := by
  refine Ct.of (L0 := [rf G 12, iv s]) (by decide +kernel) (Nat.le_of_ble_eq_true rfl) rfl ?_
  refine r_aloadk_n dX7_isMissing_0 rfl ?_
  refine r_getr dX7_isMissing_1 fl_X7_20 rfl rfl (hs.lt rfl) (hs.rf rfl) ?_
  refine r_iload_n dX7_isMissing_4 rfl ?_
  refine r_iald dX7_isMissing_5 rfl (hs.lt rfl) rfl (by omega) ?_
  refine r_iconst dX7_isMissing_6 ?_
  refine r_icmpne (tgt := 14) dX7_isMissing_7 rfl (by first | exact hR _ (Nat.le_of_ble_eq_true rfl) _ | omega) (by first | exact hR _ (Nat.le_of_ble_eq_true rfl) _ | omega) (fun h7 => ?_) (fun h7 => ?_)
  · refine r_iconst dX7_isMissing_14 ?_
    exact r_iretz dX7_isMissing_15 rfl (by omega) ⟨_, rfl, rfl, by unfold bi; split <;> omega⟩
  · refine r_iconst dX7_isMissing_10 ?_
    refine r_goto (tgt := 15) dX7_isMissing_11 rfl ?_
    exact r_iretz dX7_isMissing_15 rfl (by omega) ⟨_, rfl, rfl, by unfold bi; split <;> omega⟩
abbrev reaP (len p m : Int) : Prop := 0 ≤ p ∧ 0 ≤ m ∧ m ≤ len ∧ p ≤ len - m
theorem c_reaches (hs : Std n ρ) (hR : Rg σ) (s : Nat) (h : s < 3) (hl : -1 ≤ σ 18 s ∧ σ 18 s ≤ 80) (p m : Int) (hp : R32 p) (hm : R32 m) : RdI l G 0 mX7_reaches n ρ σ [rf G 12, iv s, iv p, iv m] (bi (reaP (σ 18 s) p m)) := by
  refine Ct.of (L0 := [rf G 12, iv s, iv p, iv m]) (by decide +kernel) (Nat.le_of_ble_eq_true rfl) rfl ?_
  refine r_iload_n dX7_reaches_0 rfl ?_
  refine r_iflt (tgt := 34) dX7_reaches_1 rfl (by omega) (fun h1 => ?_) (fun h1 => ?_)
  · refine r_iconst dX7_reaches_34 ?_
    exact r_iretz dX7_reaches_35 rfl (by omega) ⟨_, rfl, rfl, by unfold bi; split <;> omega⟩
  · refine r_iload_n dX7_reaches_4 rfl ?_
    refine r_iflt (tgt := 34) dX7_reaches_5 rfl (by omega) (fun h5 => ?_) (fun h5 => ?_)
    · refine r_iconst dX7_reaches_34 ?_
      exact r_iretz dX7_reaches_35 rfl (by omega) ⟨_, rfl, rfl, by unfold bi; split <;> omega⟩
    · refine r_iload_n dX7_reaches_8 rfl ?_
      refine r_aloadk_n dX7_reaches_9 rfl ?_
      refine r_getr dX7_reaches_10 fl_X7_20 rfl rfl (hs.lt rfl) (hs.rf rfl) ?_
      refine r_iload_n dX7_reaches_13 rfl ?_
      refine r_iald dX7_reaches_14 rfl (hs.lt rfl) rfl (by omega) ?_
      refine r_icmpgt (tgt := 34) dX7_reaches_15 rfl (by omega) (by omega) (fun h15 => ?_) (fun h15 => ?_)
      · refine r_iconst dX7_reaches_34 ?_
        exact r_iretz dX7_reaches_35 rfl (by omega) ⟨_, rfl, rfl, by unfold bi; split <;> omega⟩
      · refine r_iload_n dX7_reaches_18 rfl ?_
        refine r_aloadk_n dX7_reaches_19 rfl ?_
        refine r_getr dX7_reaches_20 fl_X7_20 rfl rfl (hs.lt rfl) (hs.rf rfl) ?_
        refine r_iload_n dX7_reaches_23 rfl ?_
        refine r_iald dX7_reaches_24 rfl (hs.lt rfl) rfl (by omega) ?_
        refine r_iload_n dX7_reaches_25 rfl ?_
        refine r_isub dX7_reaches_26 ?_
        refine r_icmpgt (tgt := 34) dX7_reaches_27 rfl (by omega) (by omega) (fun h27 => ?_) (fun h27 => ?_)
        · refine r_iconst dX7_reaches_34 ?_
          exact r_iretz dX7_reaches_35 rfl (by omega) ⟨_, rfl, rfl, by unfold bi; split <;> omega⟩
        · refine r_iconst dX7_reaches_30 ?_
          refine r_goto (tgt := 35) dX7_reaches_31 rfl ?_
          exact r_iretz dX7_reaches_35 rfl (by omega) ⟨_, rfl, rfl, by unfold bi; split <;> omega⟩
theorem c_cut (hs : Std n ρ) (hR : Rg σ) (s : Nat) (h : s < 3) (v : Int) (hv : R32 v) : RdI l G 0 mX7_cut n ρ σ [rf G 12, iv s, iv v] (cutS (σ 17 s) v) := by
  refine Ct.of (L0 := [rf G 12, iv s, iv v]) (by decide +kernel) (Nat.le_of_ble_eq_true rfl) rfl ?_
  refine r_aloadk_n dX7_cut_0 rfl ?_
  refine r_getr dX7_cut_1 fl_X7_16 rfl rfl (hs.lt rfl) (hs.rf rfl) ?_
  refine r_iload_n dX7_cut_4 rfl ?_
  refine r_iald dX7_cut_5 rfl (hs.lt rfl) rfl (by omega) ?_
  refine r_ifne (tgt := 12) dX7_cut_6 rfl (by first | exact hR _ (Nat.le_of_ble_eq_true rfl) _ | omega) (fun h6 => ?_) (fun h6 => ?_)
  · refine r_aloadk_n dX7_cut_12 rfl ?_
    refine r_getr dX7_cut_13 fl_X7_16 rfl rfl (hs.lt rfl) (hs.rf rfl) ?_
    refine r_iload_n dX7_cut_16 rfl ?_
    refine r_iald dX7_cut_17 rfl (hs.lt rfl) rfl (by omega) ?_
    refine r_iconst dX7_cut_18 ?_
    refine r_icmpne (tgt := 25) dX7_cut_19 rfl (by first | exact hR _ (Nat.le_of_ble_eq_true rfl) _ | omega) (by first | exact hR _ (Nat.le_of_ble_eq_true rfl) _ | omega) (fun h19 => ?_) (fun h19 => ?_)
    · refine r_iload_n dX7_cut_25 rfl ?_
      exact r_ireti dX7_cut_26 rfl ⟨_, rfl, rfl, by unfold cutS; split <;> (try split) <;> first | rfl | omega⟩
    · refine r_iload_n dX7_cut_22 rfl ?_
      refine r_i2s dX7_cut_23 (by first | exact hR _ (Nat.le_of_ble_eq_true rfl) _ | omega) ?_
      exact r_ireti dX7_cut_24 rfl ⟨_, rfl, rfl, by unfold cutS; split <;> (try split) <;> first | rfl | omega⟩
  · refine r_iload_n dX7_cut_9 rfl ?_
    refine r_i2b dX7_cut_10 (by first | exact hR _ (Nat.le_of_ble_eq_true rfl) _ | omega) ?_
    exact r_ireti dX7_cut_11 rfl ⟨_, rfl, rfl, by unfold cutS; split <;> (try split) <;> first | rfl | omega⟩
theorem c_present (hs : Std n ρ) (hR : Rg σ) : RdI l G 1 mX7_present n ρ σ [rf G 12] (sumN (fun s => bi (¬ σ 18 s = -1)) 3) := by
  have loop : ∀ (m i : Nat) (s : Int), i + m = 3 → s = sumN (fun s => bi (¬ σ 18 s = -1)) i → RW (KI l G 1 mX7_present n ρ (fun σ' z => σ' = σ ∧ z = sumN (fun s => bi (¬ σ 18 s = -1)) 3)) (0, 0, n, ρ) σ 4 [rf G 12, iv s, iv i] [] := by
    intro m
    induction m with
    | zero =>
      intro i s hi hf
      have e : i = 3 := by omega
      refine r_iload_n dX7_present_4 rfl ?_
      refine r_iconst dX7_present_5 ?_
      refine r_icmpge (tgt := 26) dX7_present_6 rfl (by first | exact hR _ (Nat.le_of_ble_eq_true rfl) _ | omega) (by first | exact hR _ (Nat.le_of_ble_eq_true rfl) _ | omega) (fun h6 => ?_) (fun h6 => ?_)
      · refine r_iload_n dX7_present_26 rfl ?_
        exact r_ireti dX7_present_27 rfl ⟨_, rfl, rfl, by rw [hf, e]⟩
      · omega
    | succ m ih =>
      intro i s hi hf
      refine r_iload_n dX7_present_4 rfl ?_
      refine r_iconst dX7_present_5 ?_
      refine r_icmpge (tgt := 26) dX7_present_6 rfl (by first | exact hR _ (Nat.le_of_ble_eq_true rfl) _ | omega) (by first | exact hR _ (Nat.le_of_ble_eq_true rfl) _ | omega) (fun h6 => ?_) (fun h6 => ?_)
      · omega
      · refine r_aloadk_n dX7_present_9 rfl ?_
        refine r_iload_n dX7_present_10 rfl ?_
        refine q_callVr dX7_present_11 (c_isMissing hs hR i (by omega)) ml_X7_29 okX7_isMissing rfl rfl (hs.lt rfl) rfl rfl (Nat.le_of_ble_eq_true rfl) (roomOK.of (by decide)) ⟨(Nat.le_of_ble_eq_true rfl), (Nat.le_of_ble_eq_true rfl)⟩ ?_
        refine r_ifneb (tgt := 20) dX7_present_14 rfl (fun h14 => ?_) (fun h14 => ?_)
        · refine r_iinc dX7_present_20 (Nat.le_of_ble_eq_true rfl) rfl rfl s2 ?_
          refine r_goto (tgt := 4) dX7_present_23 rfl ?_
          refine ih (i + 1) _ (by omega) ?_
          show _ = sumN _ i + bi (¬ σ 18 i = -1)
          rw [← hf]; unfold bi; split <;> omega
        · refine r_iinc dX7_present_17 (Nat.le_of_ble_eq_true rfl) rfl rfl s1 ?_
          refine r_iinc dX7_present_20 (Nat.le_of_ble_eq_true rfl) rfl rfl s2 ?_
          refine r_goto (tgt := 4) dX7_present_23 rfl ?_
          refine ih (i + 1) _ (by omega) ?_
          show _ = sumN _ i + bi (¬ σ 18 i = -1)
          rw [← hf]; unfold bi; split <;> omega
  refine Ct.of (L0 := [rf G 12, xx, xx]) (by decide +kernel) (Nat.le_of_ble_eq_true rfl) rfl ?_
  refine r_iconst dX7_present_0 ?_
  refine r_istore_n dX7_present_1 (Nat.le_of_ble_eq_true rfl) rfl s1 ?_
  refine r_iconst dX7_present_2 ?_
  refine r_istore_n dX7_present_3 (Nat.le_of_ble_eq_true rfl) rfl s2 ?_
  exact loop 3 0 _ (by omega) rfl
theorem c_begin (hs : Std n ρ) (s : Nat) (h : s < 3) (w len : Int) : CtV l G 1 mX7_begin n ρ σ [rf G 12, iv s, iv w, iv len] (fun σ' => σ' = sr (sr (sr σ 17 (ud (σ 17) s w)) 18 (ud (σ 18) s len)) (14 + s) (filW (σ (14 + s)) 80 0)) := by
  have e14 : sr (sr σ 17 (ud (σ 17) s w)) 18 (ud (σ 18) s len) (14 + s) = σ (14 + s) := by rw [sr_ne (by omega), sr_ne (by omega)]
  refine Ct.of (L0 := [rf G 12, iv s, iv w, iv len]) (by decide +kernel) (Nat.le_of_ble_eq_true rfl) rfl ?_
  refine r_aloadk_n dX7_begin_0 rfl ?_
  refine r_getr dX7_begin_1 fl_X7_16 rfl rfl (hs.lt rfl) (hs.rf rfl) ?_
  refine r_iload_n dX7_begin_4 rfl ?_
  refine r_iload_n dX7_begin_5 rfl ?_
  refine r_iast dX7_begin_6 rfl (hs.lt rfl) rfl (by omega) ?_
  rw [up_eq_sr]
  refine r_aloadk_n dX7_begin_7 rfl ?_
  refine r_getr dX7_begin_8 fl_X7_20 rfl rfl (hs.lt rfl) (hs.rf rfl) ?_
  refine r_iload_n dX7_begin_11 rfl ?_
  refine r_iload_n dX7_begin_12 rfl ?_
  refine r_iast dX7_begin_13 rfl (hs.lt rfl) rfl (by omega) ?_
  rw [up_eq_sr]
  refine r_aloadk_n dX7_begin_14 rfl ?_
  refine r_getr dX7_begin_15 fl_X7_11 rfl rfl (hs.lt rfl) (hs.rf rfl) ?_
  refine r_iload_n dX7_begin_18 rfl ?_
  refine r_aald dX7_begin_19 rfl (hs.lt rfl) (c := s) rfl h (hs.rf (sref13 s h)) ?_
  refine r_iconst dX7_begin_20 ?_
  refine q_callSv dX7_begin_21 (c_fill (14 + s) 80 (Nat.lt_of_lt_of_le (by omega : 14 + s < 73) hs.1) (shp13 s h) 0) ml_X7_23 okJ7_fill_53178 rfl rfl (Nat.le_of_ble_eq_true rfl) (roomOK.of (by decide)) ⟨(Nat.le_of_ble_eq_true rfl), (Nat.le_of_ble_eq_true rfl)⟩ (fun σ1 hq1 => ?_)
  subst hq1
  rw [filR_fil]
  exact r_vret dX7_begin_24 rfl ⟨rfl, by
  show sr (sr (sr σ 17 (ud (σ 17) s w)) 18 (ud (σ 18) s len)) (14 + s) (filW (sr (sr σ 17 (ud (σ 17) s w)) 18 (ud (σ 18) s len) (14 + s)) 80 0) = _
  rw [e14]⟩
theorem c_survey (hs : Std n ρ) (hR : Rg σ) (x1 x2 x3 : Int) (h1 : R32 x1) (h2 : R32 x2) (h3 : R32 x3) : CtI l G 2 mX8_survey n ρ σ [rf G 0, iv x1, iv x2, iv x3] (fun σ' z => (¬ ((0 ≤ x1 ∧ x1 ≤ 2) ∧ (0 ≤ x2 ∧ x2 ≤ 2) ∧ x3 ≤ 80) ∧ z = -3 ∧ σ' = σ) ∨ (((0 ≤ x1 ∧ x1 ≤ 2) ∧ (0 ≤ x2 ∧ x2 ≤ 2) ∧ x3 ≤ 80) ∧ x3 < 0 ∧ z = -14 ∧ σ' = σ) ∨ (((0 ≤ x1 ∧ x1 ≤ 2) ∧ (0 ≤ x2 ∧ x2 ≤ 2) ∧ x3 ≤ 80) ∧ 0 ≤ x3 ∧ z = x3 ∧ σ' = sr (sr (sr σ 17 (ud (σ 17) x1.toNat x2)) 18 (ud (σ 18) x1.toNat x3)) (14 + x1.toNat) (filW (σ (14 + x1.toNat)) 80 0))) := by
  refine Ct.of (L0 := [rf G 0, iv x1, iv x2, iv x3]) (by decide +kernel) (Nat.le_of_ble_eq_true rfl) rfl ?_
  refine r_iload_n dX8_survey_0 rfl ?_
  refine q_callSr dX8_survey_1 (c_isSurvey x1 h1) ml_X8_95 okX8_isSurvey rfl rfl (Nat.le_of_ble_eq_true rfl) (roomOK.of (by decide)) ⟨(Nat.le_of_ble_eq_true rfl), (Nat.le_of_ble_eq_true rfl)⟩ ?_
  refine r_ifeqb (tgt := 22) dX8_survey_4 rfl (fun h4 => ?_) (fun h4 => ?_)
  · refine r_bipush dX8_survey_22 ?_
    exact r_ireti dX8_survey_24 rfl ⟨_, rfl, Or.inl ⟨by omega, rfl, rfl⟩⟩
  · refine r_iload_n dX8_survey_7 rfl ?_
    refine r_iconst dX8_survey_8 ?_
    refine r_iconst dX8_survey_9 ?_
    refine q_callSr dX8_survey_10 (c_isWithin x2 0 2 h2 (by omega) (by omega)) ml_X8_65 okX8_isWithin rfl rfl (Nat.le_of_ble_eq_true rfl) (roomOK.of (by decide)) ⟨(Nat.le_of_ble_eq_true rfl), (Nat.le_of_ble_eq_true rfl)⟩ ?_
    refine r_ifeqb (tgt := 22) dX8_survey_13 rfl (fun h13 => ?_) (fun h13 => ?_)
    · refine r_bipush dX8_survey_22 ?_
      exact r_ireti dX8_survey_24 rfl ⟨_, rfl, Or.inl ⟨by omega, rfl, rfl⟩⟩
    · refine r_iload_n dX8_survey_16 rfl ?_
      refine r_bipush dX8_survey_17 ?_
      refine r_icmple (tgt := 25) dX8_survey_19 rfl (by omega) (by omega) (fun h19 => ?_) (fun h19 => ?_)
      · refine r_iload_n dX8_survey_25 rfl ?_
        refine r_ifge (tgt := 32) dX8_survey_26 rfl (by omega) (fun h26 => ?_) (fun h26 => ?_)
        · obtain ⟨s, rfl⟩ : ∃ s : Nat, x1 = s := ⟨x1.toNat, by omega⟩
          refine r_aloadk_n dX8_survey_32 rfl ?_
          refine r_getr dX8_survey_33 fl_X8_32 rfl rfl (hs.lt rfl) (hs.rf rfl) ?_
          refine r_iload_n dX8_survey_36 rfl ?_
          refine r_iload_n dX8_survey_37 rfl ?_
          refine r_iload_n dX8_survey_38 rfl ?_
          refine q_callVv dX8_survey_39 (c_begin hs s (by omega) x2 x3) ml_X8_98 okX7_begin rfl rfl (hs.lt rfl) rfl rfl (Nat.le_of_ble_eq_true rfl) (roomOK.of (by decide)) ⟨(Nat.le_of_ble_eq_true rfl), (Nat.le_of_ble_eq_true rfl)⟩ (fun σ1 hq1 => ?_)
          subst hq1
          refine r_iload_n dX8_survey_42 rfl ?_
          exact r_ireti dX8_survey_43 rfl ⟨_, rfl, Or.inr (Or.inr ⟨⟨h4, h13, h19⟩, h26, rfl, rfl⟩)⟩
        · refine r_bipush dX8_survey_29 ?_
          exact r_ireti dX8_survey_31 rfl ⟨_, rfl, Or.inr (Or.inl ⟨⟨h4, h13, h19⟩, h26, rfl, rfl⟩)⟩
      · refine r_bipush dX8_survey_22 ?_
        exact r_ireti dX8_survey_24 rfl ⟨_, rfl, Or.inl ⟨by omega, rfl, rfl⟩⟩
theorem c_lose (hs : Std n ρ) (hR : Rg σ) (x1 : Int) (h1 : R32 x1) : CtI l G 2 mX8_lose n ρ σ [rf G 0, iv x1] (fun σ' z => (¬ (0 ≤ x1 ∧ x1 ≤ 2) ∧ z = -3 ∧ σ' = σ) ∨ ((0 ≤ x1 ∧ x1 ≤ 2) ∧ σ 18 x1.toNat = -1 ∧ z = -11 ∧ σ' = σ) ∨ ((0 ≤ x1 ∧ x1 ≤ 2) ∧ ¬ σ 18 x1.toNat = -1 ∧ z = σ 18 x1.toNat ∧ σ' = up σ 18 x1.toNat (-1))) := by
  refine Ct.of (L0 := [rf G 0, iv x1, xx]) (by decide +kernel) (Nat.le_of_ble_eq_true rfl) rfl ?_
  refine r_iload_n dX8_lose_0 rfl ?_
  refine q_callSr dX8_lose_1 (c_isSurvey x1 h1) ml_X8_95 okX8_isSurvey rfl rfl (Nat.le_of_ble_eq_true rfl) (roomOK.of (by decide)) ⟨(Nat.le_of_ble_eq_true rfl), (Nat.le_of_ble_eq_true rfl)⟩ ?_
  refine r_ifneb (tgt := 10) dX8_lose_4 rfl (fun h4 => ?_) (fun h4 => ?_)
  · obtain ⟨s, rfl⟩ : ∃ s : Nat, x1 = s := ⟨x1.toNat, by omega⟩
    refine r_aloadk_n dX8_lose_10 rfl ?_
    refine r_getr dX8_lose_11 fl_X8_32 rfl rfl (hs.lt rfl) (hs.rf rfl) ?_
    refine r_iload_n dX8_lose_14 rfl ?_
    refine q_callVr dX8_lose_15 (c_isMissing hs hR s (by omega)) ml_X8_102 okX7_isMissing rfl rfl (hs.lt rfl) rfl rfl (Nat.le_of_ble_eq_true rfl) (roomOK.of (by decide)) ⟨(Nat.le_of_ble_eq_true rfl), (Nat.le_of_ble_eq_true rfl)⟩ ?_
    refine r_ifeqb (tgt := 24) dX8_lose_18 rfl (fun h18 => ?_) (fun h18 => ?_)
    · refine r_aloadk_n dX8_lose_24 rfl ?_
      refine r_getr dX8_lose_25 fl_X8_32 rfl rfl (hs.lt rfl) (hs.rf rfl) ?_
      refine r_getr dX8_lose_28 fl_X8_105 rfl rfl (hs.lt rfl) (hs.rf rfl) ?_
      refine r_iload_n dX8_lose_31 rfl ?_
      refine r_iald dX8_lose_32 rfl (hs.lt rfl) rfl (by omega) ?_
      refine r_istore_n dX8_lose_33 (Nat.le_of_ble_eq_true rfl) rfl s2 ?_
      refine r_aloadk_n dX8_lose_34 rfl ?_
      refine r_getr dX8_lose_35 fl_X8_32 rfl rfl (hs.lt rfl) (hs.rf rfl) ?_
      refine r_getr dX8_lose_38 fl_X8_105 rfl rfl (hs.lt rfl) (hs.rf rfl) ?_
      refine r_iload_n dX8_lose_41 rfl ?_
      refine r_iconst dX8_lose_42 ?_
      refine r_iast dX8_lose_43 rfl (hs.lt rfl) rfl (by omega) ?_
      refine r_iload_n dX8_lose_44 rfl ?_
      exact r_ireti dX8_lose_45 rfl ⟨_, rfl, Or.inr (Or.inr ⟨h4, h18, rfl, rfl⟩)⟩
    · refine r_bipush dX8_lose_21 ?_
      exact r_ireti dX8_lose_23 rfl ⟨_, rfl, Or.inr (Or.inl ⟨h4, h18, rfl, rfl⟩)⟩
  · refine r_bipush dX8_lose_7 ?_
    exact r_ireti dX8_lose_9 rfl ⟨_, rfl, Or.inl ⟨h4, rfl, rfl⟩⟩
theorem c_mark (hs : Std n ρ) (hR : Rg σ) (hl : ∀ s, s < 3 → -1 ≤ σ 18 s ∧ σ 18 s ≤ 80) (x1 x2 x3 : Int) (h1 : R32 x1) (h2 : R32 x2) (h3 : R32 x3) : CtI l G 2 mX8_mark n ρ σ [rf G 0, iv x1, iv x2, iv x3] (fun σ' z => (¬ (0 ≤ x1 ∧ x1 ≤ 2) ∧ z = -3 ∧ σ' = σ) ∨ ((0 ≤ x1 ∧ x1 ≤ 2) ∧ σ 18 x1.toNat = -1 ∧ z = -11 ∧ σ' = σ) ∨ ((0 ≤ x1 ∧ x1 ≤ 2) ∧ ¬ σ 18 x1.toNat = -1 ∧ ¬ (0 ≤ x2 ∧ x2 < σ 18 x1.toNat) ∧ z = -13 ∧ σ' = σ) ∨ ((0 ≤ x1 ∧ x1 ≤ 2) ∧ ¬ σ 18 x1.toNat = -1 ∧ (0 ≤ x2 ∧ x2 < σ 18 x1.toNat) ∧ z = σ (14 + x1.toNat) x2.toNat ∧ σ' = up σ (14 + x1.toNat) x2.toNat (cutS (σ 17 x1.toNat) x3))) := by
  refine Ct.of (L0 := [rf G 0, iv x1, iv x2, iv x3, xx]) (by decide +kernel) (Nat.le_of_ble_eq_true rfl) rfl ?_
  refine r_iload_n dX8_mark_0 rfl ?_
  refine q_callSr dX8_mark_1 (c_isSurvey x1 h1) ml_X8_95 okX8_isSurvey rfl rfl (Nat.le_of_ble_eq_true rfl) (roomOK.of (by decide)) ⟨(Nat.le_of_ble_eq_true rfl), (Nat.le_of_ble_eq_true rfl)⟩ ?_
  refine r_ifneb (tgt := 10) dX8_mark_4 rfl (fun h4 => ?_) (fun h4 => ?_)
  · obtain ⟨s, rfl⟩ : ∃ s : Nat, x1 = s := ⟨x1.toNat, by omega⟩
    have hs3 : s < 3 := by omega
    have hls := hl s hs3
    refine r_aloadk_n dX8_mark_10 rfl ?_
    refine r_getr dX8_mark_11 fl_X8_32 rfl rfl (hs.lt rfl) (hs.rf rfl) ?_
    refine r_iload_n dX8_mark_14 rfl ?_
    refine q_callVr dX8_mark_15 (c_isMissing hs hR s hs3) ml_X8_102 okX7_isMissing rfl rfl (hs.lt rfl) rfl rfl (Nat.le_of_ble_eq_true rfl) (roomOK.of (by decide)) ⟨(Nat.le_of_ble_eq_true rfl), (Nat.le_of_ble_eq_true rfl)⟩ ?_
    refine r_ifeqb (tgt := 24) dX8_mark_18 rfl (fun h18 => ?_) (fun h18 => ?_)
    · refine r_aloadk_n dX8_mark_24 rfl ?_
      refine r_getr dX8_mark_25 fl_X8_32 rfl rfl (hs.lt rfl) (hs.rf rfl) ?_
      refine r_iload_n dX8_mark_28 rfl ?_
      refine r_iload_n dX8_mark_29 rfl ?_
      refine r_iconst dX8_mark_30 ?_
      refine q_callVr dX8_mark_31 (c_reaches hs hR s hs3 hls x2 1 h2 (by omega)) ml_X8_108 okX7_reaches rfl rfl (hs.lt rfl) rfl rfl (Nat.le_of_ble_eq_true rfl) (roomOK.of (by decide)) ⟨(Nat.le_of_ble_eq_true rfl), (Nat.le_of_ble_eq_true rfl)⟩ ?_
      refine r_ifneb (tgt := 40) dX8_mark_34 rfl (fun h34 => ?_) (fun h34 => ?_)
      · obtain ⟨p, rfl⟩ : ∃ p : Nat, x2 = p := ⟨x2.toNat, by omega⟩
        have hp80 : p < 80 := by omega
        refine r_aloadk_n dX8_mark_40 rfl ?_
        refine r_getr dX8_mark_41 fl_X8_32 rfl rfl (hs.lt rfl) (hs.rf rfl) ?_
        refine r_getr dX8_mark_44 fl_X8_111 rfl rfl (hs.lt rfl) (hs.rf rfl) ?_
        refine r_iload_n dX8_mark_47 rfl ?_
        refine r_aald dX8_mark_48 rfl (hs.lt rfl) (c := s) rfl hs3 (hs.rf (sref13 s hs3)) ?_
        refine r_iload_n dX8_mark_49 rfl ?_
        refine r_iald dX8_mark_50 (shp13 s hs3) ((Nat.lt_of_lt_of_le (by omega : 14 + s < 73) hs.1)) rfl hp80 ?_
        refine r_istore dX8_mark_51 (Nat.le_of_ble_eq_true rfl) rfl s4 ?_
        refine r_aloadk_n dX8_mark_53 rfl ?_
        refine r_getr dX8_mark_54 fl_X8_32 rfl rfl (hs.lt rfl) (hs.rf rfl) ?_
        refine r_getr dX8_mark_57 fl_X8_111 rfl rfl (hs.lt rfl) (hs.rf rfl) ?_
        refine r_iload_n dX8_mark_60 rfl ?_
        refine r_aald dX8_mark_61 rfl (hs.lt rfl) (c := s) rfl hs3 (hs.rf (sref13 s hs3)) ?_
        refine r_iload_n dX8_mark_62 rfl ?_
        refine r_aloadk_n dX8_mark_63 rfl ?_
        refine r_getr dX8_mark_64 fl_X8_32 rfl rfl (hs.lt rfl) (hs.rf rfl) ?_
        refine r_iload_n dX8_mark_67 rfl ?_
        refine r_iload_n dX8_mark_68 rfl ?_
        refine q_callVr dX8_mark_69 (c_cut hs hR s hs3 x3 h3) ml_X8_114 okX7_cut rfl rfl (hs.lt rfl) rfl rfl (Nat.le_of_ble_eq_true rfl) (roomOK.of (by decide)) ⟨(Nat.le_of_ble_eq_true rfl), (Nat.le_of_ble_eq_true rfl)⟩ ?_
        refine r_iast dX8_mark_72 (shp13 s hs3) ((Nat.lt_of_lt_of_le (by omega : 14 + s < 73) hs.1)) rfl hp80 ?_
        refine r_iload dX8_mark_73 rfl ?_
        exact r_ireti dX8_mark_75 rfl ⟨_, rfl, Or.inr (Or.inr (Or.inr ⟨h4, h18, by show 0 ≤ (p : Int) ∧ (p : Int) < σ 18 s; omega, rfl, rfl⟩))⟩
      · refine r_bipush dX8_mark_37 ?_
        exact r_ireti dX8_mark_39 rfl ⟨_, rfl, Or.inr (Or.inr (Or.inl ⟨h4, h18, by show ¬ (0 ≤ x2 ∧ x2 < σ 18 s); omega, rfl, rfl⟩))⟩
    · refine r_bipush dX8_mark_21 ?_
      exact r_ireti dX8_mark_23 rfl ⟨_, rfl, Or.inr (Or.inl ⟨h4, h18, rfl, rfl⟩)⟩
  · refine r_bipush dX8_mark_7 ?_
    exact r_ireti dX8_mark_9 rfl ⟨_, rfl, Or.inl ⟨h4, rfl, rfl⟩⟩
end Survey
