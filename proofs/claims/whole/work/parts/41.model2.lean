/-! MODEL: land, surveys -/
section Model2
variable {l : Launch} {G : GG} {n : Nat} {ρ : Rho} {σ : Si} {W H P C O : Nat}
def clrS (σ : Si) : Si := sr (sr (sr (sr σ 39 (filW (σ 39) 80 1)) 40 (filW (σ 40) 80 0)) 41 (filW (σ 41) 80 0)) 38 (ud (ud (ud (ud (σ 38) 6 0) 10 0) 13 0) 18 0)
theorem m_clearLand (hr : ∀ j r, sref 38 j = some r → r < 42 → ρ 38 j = some r) (hn : 42 ≤ n) : CtV l G 0 mX9_clearLand n ρ σ [rf G 38] (fun σ' => σ' = clrS σ) := by
  have loop : ∀ (m i : Nat), i + m = 80 → RW (KV l G 0 mX9_clearLand n ρ (fun σ' => σ' = clrS σ)) (0, 0, n, ρ) (sr (sr (sr σ 39 (filW (σ 39) i 1)) 40 (filW (σ 40) i 0)) 41 (filW (σ 41) i 0)) 2 [rf G 38, iv i] [] := by
    intro m
    induction m with
    | zero =>
      intro i hi
      have e : i = 80 := by omega
      subst e
      refine r_iload_n dX9_clearLand_2 rfl ?_
      refine r_bipush dX9_clearLand_3 ?_
      refine r_icmpge (tgt := 35) dX9_clearLand_5 rfl (by omega) (by omega) (fun h5 => ?_) (fun h5 => ?_)
      · refine r_aloadk_n dX9_clearLand_35 rfl ?_
        refine r_iconst dX9_clearLand_36 ?_
        refine r_puti dX9_clearLand_37 fl_X9_136 rfl (Nat.lt_of_lt_of_le (Nat.le_of_ble_eq_true rfl) hn) ?_
        rw [up_eq_sr]
        refine r_aloadk_n dX9_clearLand_40 rfl ?_
        refine r_iconst dX9_clearLand_41 ?_
        refine r_puti dX9_clearLand_42 fl_X9_139 rfl (Nat.lt_of_lt_of_le (Nat.le_of_ble_eq_true rfl) hn) ?_
        rw [up_sr]
        refine r_aloadk_n dX9_clearLand_45 rfl ?_
        refine r_iconst dX9_clearLand_46 ?_
        refine r_puti dX9_clearLand_47 fl_X9_142 rfl (Nat.lt_of_lt_of_le (Nat.le_of_ble_eq_true rfl) hn) ?_
        rw [up_sr]
        refine r_aloadk_n dX9_clearLand_50 rfl ?_
        refine r_iconst dX9_clearLand_51 ?_
        refine r_puti dX9_clearLand_52 fl_X9_145 rfl (Nat.lt_of_lt_of_le (Nat.le_of_ble_eq_true rfl) hn) ?_
        rw [up_sr]
        exact r_vret dX9_clearLand_55 rfl ⟨rfl, rfl⟩
      · omega
    | succ m ih =>
      intro i hi
      refine r_iload_n dX9_clearLand_2 rfl ?_
      refine r_bipush dX9_clearLand_3 ?_
      refine r_icmpge (tgt := 35) dX9_clearLand_5 rfl (by omega) (by omega) (fun h5 => ?_) (fun h5 => ?_)
      · omega
      · refine r_aloadk_n dX9_clearLand_8 rfl ?_
        refine r_getr dX9_clearLand_9 fl_X9_16 rfl rfl (Nat.lt_of_lt_of_le (Nat.le_of_ble_eq_true rfl) hn) (hr _ _ rfl (by decide)) ?_
        refine r_iload_n dX9_clearLand_12 rfl ?_
        refine r_iconst dX9_clearLand_13 ?_
        refine r_iast dX9_clearLand_14 rfl (Nat.lt_of_lt_of_le (Nat.le_of_ble_eq_true rfl) hn) rfl (by omega) ?_
        refine r_aloadk_n dX9_clearLand_15 rfl ?_
        refine r_getr dX9_clearLand_16 fl_X9_20 rfl rfl (Nat.lt_of_lt_of_le (Nat.le_of_ble_eq_true rfl) hn) (hr _ _ rfl (by decide)) ?_
        refine r_iload_n dX9_clearLand_19 rfl ?_
        refine r_iconst dX9_clearLand_20 ?_
        refine r_iast dX9_clearLand_21 rfl (Nat.lt_of_lt_of_le (Nat.le_of_ble_eq_true rfl) hn) rfl (by omega) ?_
        refine r_aloadk_n dX9_clearLand_22 rfl ?_
        refine r_getr dX9_clearLand_23 fl_X9_23 rfl rfl (Nat.lt_of_lt_of_le (Nat.le_of_ble_eq_true rfl) hn) (hr _ _ rfl (by decide)) ?_
        refine r_iload_n dX9_clearLand_26 rfl ?_
        refine r_iconst dX9_clearLand_27 ?_
        refine r_zast dX9_clearLand_28 rfl (Nat.lt_of_lt_of_le (Nat.le_of_ble_eq_true rfl) hn) rfl (by omega) (Or.inl rfl) ?_
        refine r_iinc dX9_clearLand_29 (Nat.le_of_ble_eq_true rfl) rfl rfl s1 ?_
        refine r_goto (tgt := 2) dX9_clearLand_32 rfl ?_
        rw [sr_comm (k := 40) (k' := 41) (by omega), sr_comm (k := 39) (k' := 41) (by omega), sr_comm (k := 39) (k' := 40) (by omega), up_sr, ud_fil, sr_comm (k := 40) (k' := 39) (by omega), up_sr, ud_fil, sr_comm (k := 41) (k' := 39) (by omega), sr_comm (k := 41) (k' := 40) (by omega), up_sr, ud_fil]
        exact ih (i + 1) (by omega)
  refine Ct.of (L0 := [rf G 38, xx]) (by decide +kernel) (Nat.le_of_ble_eq_true rfl) rfl ?_
  refine r_iconst dX9_clearLand_0 ?_
  refine r_istore_n dX9_clearLand_1 (Nat.le_of_ble_eq_true rfl) rfl s1 ?_
  have h := loop 80 0 (by omega)
  rw [fil_0, fil_0, fil_0, sr_self] at h
  have e1 : sr σ 40 (σ 40) = σ := sr_self
  rw [e1] at h
  have e2 : sr σ 41 (σ 41) = σ := sr_self
  rw [e2] at h
  exact h
theorem m_land (hs : Std n ρ) (hJ : JM σ W H P C O) (x1 x2 : Int) (h1 : R32 x1) (h2 : R32 x2) : CtI l G 1 mX9_land n ρ σ [rf G 38, iv x1, iv x2] (fun σ' z => (¬ ((2 ≤ x1 ∧ x1 ≤ 10) ∧ (2 ≤ x2 ∧ x2 ≤ 8)) ∧ z = -3 ∧ σ' = σ) ∨ ((2 ≤ x1 ∧ x1 ≤ 10) ∧ (2 ≤ x2 ∧ x2 ≤ 8)) ∧ z = (x1.toNat * x2.toNat : Nat) ∧ σ' = clrS (sr σ 38 (ud (ud (σ 38) 1 x1) 2 x2))) := by
  obtain ⟨hR, t0, g, j3, j4, j5, j6, j7, j8, j9, j10, j11, j12⟩ := id hJ
  refine Ct.of (L0 := [rf G 38, iv x1, iv x2]) (by decide +kernel) (Nat.le_of_ble_eq_true rfl) rfl ?_
  refine r_aloadk_n dX9_land_0 rfl ?_
  refine r_iconst dX9_land_1 ?_
  refine r_puti dX9_land_2 fl_X9_133 rfl (hs.lt rfl) ?_
  rw [up_id t0]
  refine r_iload_n dX9_land_5 rfl ?_
  refine r_iconst dX9_land_6 ?_
  refine r_bipush dX9_land_7 ?_
  refine q_callSr dX9_land_9 (c_in x1 2 10 h1 (by omega) (by omega)) ml_X9_152 okX9_in rfl rfl (Nat.le_of_ble_eq_true rfl) (roomOK.of (by decide)) ⟨(Nat.le_of_ble_eq_true rfl), (Nat.le_of_ble_eq_true rfl)⟩ ?_
  refine r_ifeqb (tgt := 25) dX9_land_12 rfl (fun h12 => ?_) (fun h12 => ?_)
  · refine r_bipush dX9_land_25 ?_
    exact r_ireti dX9_land_27 rfl ⟨_, rfl, Or.inl ⟨by omega, rfl, rfl⟩⟩
  · refine r_iload_n dX9_land_15 rfl ?_
    refine r_iconst dX9_land_16 ?_
    refine r_bipush dX9_land_17 ?_
    refine q_callSr dX9_land_19 (c_in x2 2 8 h2 (by omega) (by omega)) ml_X9_152 okX9_in rfl rfl (Nat.le_of_ble_eq_true rfl) (roomOK.of (by decide)) ⟨(Nat.le_of_ble_eq_true rfl), (Nat.le_of_ble_eq_true rfl)⟩ ?_
    refine r_ifneb (tgt := 28) dX9_land_22 rfl (fun h22 => ?_) (fun h22 => ?_)
    · obtain ⟨W', rfl⟩ : ∃ W : Nat, x1 = W := ⟨x1.toNat, by omega⟩
      obtain ⟨H', rfl⟩ : ∃ H : Nat, x2 = H := ⟨x2.toNat, by omega⟩
      refine r_aloadk_n dX9_land_28 rfl ?_
      refine r_iload_n dX9_land_29 rfl ?_
      refine r_puti dX9_land_30 fl_X9_7 rfl (hs.lt rfl) ?_
      rw [up_eq_sr]
      refine r_aloadk_n dX9_land_33 rfl ?_
      refine r_iload_n dX9_land_34 rfl ?_
      refine r_puti dX9_land_35 fl_X9_13 rfl (hs.lt rfl) ?_
      rw [up_sr]
      refine r_aloadk_n dX9_land_38 rfl ?_
      refine q_callVv dX9_land_39 (m_clearLand (fun j r h _ => hs.2 38 j r h) (Nat.le_trans (by decide) hs.1)) ml_X9_130 okX9_clearLand rfl rfl (hs.lt rfl) rfl rfl (Nat.le_of_ble_eq_true rfl) (roomOK.of (by decide)) ⟨(Nat.le_of_ble_eq_true rfl), (Nat.le_of_ble_eq_true rfl)⟩ (fun σ1 hq1 => ?_)
      subst hq1
      refine r_aloadk_n dX9_land_42 rfl ?_
      refine q_callVr dX9_land_43 (m_cells (W := W') (H := H') hs ⟨rfl, rfl, by omega, by omega⟩) ml_X9_148 okX9_cells rfl rfl (hs.lt rfl) rfl rfl (Nat.le_of_ble_eq_true rfl) (roomOK.of (by decide)) ⟨(Nat.le_of_ble_eq_true rfl), (Nat.le_of_ble_eq_true rfl)⟩ ?_
      exact r_ireti dX9_land_46 rfl ⟨_, rfl, Or.inr ⟨⟨h12, h22⟩, rfl, rfl⟩⟩
    · refine r_bipush dX9_land_25 ?_
      exact r_ireti dX9_land_27 rfl ⟨_, rfl, Or.inl ⟨by omega, rfl, rfl⟩⟩
theorem m_survey (hs : Std n ρ) (hJ : JM σ W H P C O) (x1 x2 x3 : Int) (h1 : R32 x1) (h2 : R32 x2) (h3 : R32 x3) : CtI l G 2 mX9_survey n ρ σ [rf G 38, iv x1, iv x2, iv x3] (fun σ' z => (¬ ((0 ≤ x1 ∧ x1 ≤ 2) ∧ (0 ≤ x2 ∧ x2 ≤ 2) ∧ x3 ≤ 80) ∧ z = -3 ∧ σ' = σ) ∨ (((0 ≤ x1 ∧ x1 ≤ 2) ∧ (0 ≤ x2 ∧ x2 ≤ 2) ∧ x3 ≤ 80) ∧ x3 < 0 ∧ z = -14 ∧ σ' = σ) ∨ (((0 ≤ x1 ∧ x1 ≤ 2) ∧ (0 ≤ x2 ∧ x2 ≤ 2) ∧ x3 ≤ 80) ∧ 0 ≤ x3 ∧ z = x3 ∧ σ' = sr (sr (sr σ 42 (ud (σ 42) x1.toNat x2)) 43 (ud (σ 43) x1.toNat x3)) 44 (fun b => if 80 * x1.toNat ≤ b ∧ b < 80 * x1.toNat + 80 then 0 else σ 44 b))) := by
  obtain ⟨hR, t0, g, j3, j4, j5, j6, j7, j8, j9, j10, j11, j12⟩ := id hJ
  have loop : ∀ (s m i : Nat), x1 = s → s < 3 → ((0 ≤ x1 ∧ x1 ≤ 2) ∧ (0 ≤ x2 ∧ x2 ≤ 2) ∧ x3 ≤ 80) → 0 ≤ x3 → i + m = 80 → RW (KI l G 2 mX9_survey n ρ (fun σ' z => (¬ ((0 ≤ x1 ∧ x1 ≤ 2) ∧ (0 ≤ x2 ∧ x2 ≤ 2) ∧ x3 ≤ 80) ∧ z = -3 ∧ σ' = σ) ∨ (((0 ≤ x1 ∧ x1 ≤ 2) ∧ (0 ≤ x2 ∧ x2 ≤ 2) ∧ x3 ≤ 80) ∧ x3 < 0 ∧ z = -14 ∧ σ' = σ) ∨ (((0 ≤ x1 ∧ x1 ≤ 2) ∧ (0 ≤ x2 ∧ x2 ≤ 2) ∧ x3 ≤ 80) ∧ 0 ≤ x3 ∧ z = x3 ∧ σ' = sr (sr (sr σ 42 (ud (σ 42) x1.toNat x2)) 43 (ud (σ 43) x1.toNat x3)) 44 (fun b => if 80 * x1.toNat ≤ b ∧ b < 80 * x1.toNat + 80 then 0 else σ 44 b)))) (0, 0, n, ρ) (sr (sr (sr σ 42 (ud (σ 42) s x2)) 43 (ud (σ 43) s x3)) 44 (fun b => if 80 * s ≤ b ∧ b < 80 * s + i then 0 else σ 44 b)) 54 [rf G 38, iv x1, iv x2, iv x3, iv i] [] := by
    intro s m
    induction m with
    | zero =>
      intro i e1 hs3 hb h0 hi
      have e : i = 80 := by omega
      subst e
      subst e1
      refine r_iload dX9_survey_54 rfl ?_
      refine r_bipush dX9_survey_56 ?_
      refine r_icmpge (tgt := 80) dX9_survey_58 rfl (by omega) (by omega) (fun h58 => ?_) (fun h58 => ?_)
      · refine r_iload_n dX9_survey_80 rfl ?_
        exact r_ireti dX9_survey_81 rfl ⟨_, rfl, Or.inr (Or.inr ⟨hb, h0, rfl, rfl⟩)⟩
      · omega
    | succ m ih =>
      intro i e1 hs3 hb h0 hi
      have ih' := ih (i + 1) e1 hs3 hb h0 (by omega)
      subst e1
      refine r_iload dX9_survey_54 rfl ?_
      refine r_bipush dX9_survey_56 ?_
      refine r_icmpge (tgt := 80) dX9_survey_58 rfl (by omega) (by omega) (fun h58 => ?_) (fun h58 => ?_)
      · omega
      · refine r_aloadk_n dX9_survey_61 rfl ?_
        refine r_getr dX9_survey_62 fl_X9_33 rfl rfl (hs.lt rfl) (hs.rf rfl) ?_
        refine r_bipush dX9_survey_65 ?_
        refine r_iload_n dX9_survey_67 rfl ?_
        refine r_imul dX9_survey_68 ?_
        refine r_iload dX9_survey_69 rfl ?_
        refine r_iadd dX9_survey_71 ?_
        refine r_iconst dX9_survey_72 ?_
        refine r_iast dX9_survey_73 rfl (hs.lt rfl) (c := 80 * s + i) (by omega) (by omega) ?_
        refine r_iinc dX9_survey_74 (Nat.le_of_ble_eq_true rfl) rfl rfl s4 ?_
        refine r_goto (tgt := 54) dX9_survey_77 rfl ?_
        rw [up_sr]
        have e : ud (fun b => if 80 * s ≤ b ∧ b < 80 * s + i then 0 else σ 44 b) (80 * s + i) 0 = (fun b => if 80 * s ≤ b ∧ b < 80 * s + (i + 1) then 0 else σ 44 b) := by
          funext b
          unfold ud
          by_cases q : b = 80 * s + i
          · rw [if_pos q, if_pos (by omega)]
          · rw [if_neg q]
            show (if 80 * s ≤ b ∧ b < 80 * s + i then 0 else σ 44 b) = _
            by_cases q2 : 80 * s ≤ b ∧ b < 80 * s + i
            · rw [if_pos q2, if_pos (by omega)]
            · rw [if_neg q2, if_neg (by omega)]
        rw [e]
        exact ih'
  refine Ct.of (L0 := [rf G 38, iv x1, iv x2, iv x3, xx]) (by decide +kernel) (Nat.le_of_ble_eq_true rfl) rfl ?_
  refine r_aloadk_n dX9_survey_0 rfl ?_
  refine r_iconst dX9_survey_1 ?_
  refine r_puti dX9_survey_2 fl_X9_133 rfl (hs.lt rfl) ?_
  rw [up_id t0]
  refine r_iload_n dX9_survey_5 rfl ?_
  refine q_callSr dX9_survey_6 (m_isSurvey x1 h1) ml_X9_164 okX9_isSurvey rfl rfl (Nat.le_of_ble_eq_true rfl) (roomOK.of (by decide)) ⟨(Nat.le_of_ble_eq_true rfl), (Nat.le_of_ble_eq_true rfl)⟩ ?_
  refine r_ifeqb (tgt := 27) dX9_survey_9 rfl (fun h9 => ?_) (fun h9 => ?_)
  · refine r_bipush dX9_survey_27 ?_
    exact r_ireti dX9_survey_29 rfl ⟨_, rfl, Or.inl ⟨by omega, rfl, rfl⟩⟩
  · refine r_iload_n dX9_survey_12 rfl ?_
    refine r_iconst dX9_survey_13 ?_
    refine r_iconst dX9_survey_14 ?_
    refine q_callSr dX9_survey_15 (c_in x2 0 2 h2 (by omega) (by omega)) ml_X9_152 okX9_in rfl rfl (Nat.le_of_ble_eq_true rfl) (roomOK.of (by decide)) ⟨(Nat.le_of_ble_eq_true rfl), (Nat.le_of_ble_eq_true rfl)⟩ ?_
    refine r_ifeqb (tgt := 27) dX9_survey_18 rfl (fun h18 => ?_) (fun h18 => ?_)
    · refine r_bipush dX9_survey_27 ?_
      exact r_ireti dX9_survey_29 rfl ⟨_, rfl, Or.inl ⟨by omega, rfl, rfl⟩⟩
    · refine r_iload_n dX9_survey_21 rfl ?_
      refine r_bipush dX9_survey_22 ?_
      refine r_icmple (tgt := 30) dX9_survey_24 rfl (by omega) (by omega) (fun h24 => ?_) (fun h24 => ?_)
      · refine r_iload_n dX9_survey_30 rfl ?_
        refine r_ifge (tgt := 37) dX9_survey_31 rfl (by omega) (fun h31 => ?_) (fun h31 => ?_)
        · refine r_aloadk_n dX9_survey_37 rfl ?_
          refine r_getr dX9_survey_38 fl_X9_27 rfl rfl (hs.lt rfl) (hs.rf rfl) ?_
          refine r_iload_n dX9_survey_41 rfl ?_
          refine r_iload_n dX9_survey_42 rfl ?_
          refine r_iast dX9_survey_43 rfl (hs.lt rfl) (c := x1.toNat) (by omega) (by omega) ?_
          rw [up_eq_sr]
          refine r_aloadk_n dX9_survey_44 rfl ?_
          refine r_getr dX9_survey_45 fl_X9_30 rfl rfl (hs.lt rfl) (hs.rf rfl) ?_
          refine r_iload_n dX9_survey_48 rfl ?_
          refine r_iload_n dX9_survey_49 rfl ?_
          refine r_iast dX9_survey_50 rfl (hs.lt rfl) (c := x1.toNat) (by omega) (by omega) ?_
          rw [up_eq_sr]
          refine r_iconst dX9_survey_51 ?_
          refine r_istore dX9_survey_52 (Nat.le_of_ble_eq_true rfl) rfl s4 ?_
          have h := loop x1.toNat 80 0 (by omega) (by omega) ⟨h9, h18, h24⟩ h31 (by omega)
          have e : (fun b => if 80 * x1.toNat ≤ b ∧ b < 80 * x1.toNat + 0 then 0 else σ 44 b) = sr (sr σ 42 (ud (σ 42) x1.toNat x2)) 43 (ud (σ 43) x1.toNat x3) 44 := by
            funext b
            rw [if_neg (by omega)]
            rfl
          rw [e, sr_self] at h
          exact h
        · refine r_bipush dX9_survey_34 ?_
          exact r_ireti dX9_survey_36 rfl ⟨_, rfl, Or.inr (Or.inl ⟨⟨h9, h18, h24⟩, h31, rfl, rfl⟩)⟩
      · refine r_bipush dX9_survey_27 ?_
        exact r_ireti dX9_survey_29 rfl ⟨_, rfl, Or.inl ⟨by omega, rfl, rfl⟩⟩
theorem m_lose (hs : Std n ρ) (hJ : JM σ W H P C O) (x1 : Int) (h1 : R32 x1) : CtI l G 2 mX9_lose n ρ σ [rf G 38, iv x1] (fun σ' z => (¬ (0 ≤ x1 ∧ x1 ≤ 2) ∧ z = -3 ∧ σ' = σ) ∨ ((0 ≤ x1 ∧ x1 ≤ 2) ∧ σ 42 x1.toNat < 0 ∧ z = -11 ∧ σ' = σ) ∨ ((0 ≤ x1 ∧ x1 ≤ 2) ∧ 0 ≤ σ 42 x1.toNat ∧ z = σ 43 x1.toNat ∧ σ' = up σ 42 x1.toNat (-1))) := by
  obtain ⟨hR, t0, g, j3, j4, j5, j6, j7, j8, j9, j10, j11, j12⟩ := id hJ
  refine Ct.of (L0 := [rf G 38, iv x1]) (by decide +kernel) (Nat.le_of_ble_eq_true rfl) rfl ?_
  refine r_aloadk_n dX9_lose_0 rfl ?_
  refine r_iconst dX9_lose_1 ?_
  refine r_puti dX9_lose_2 fl_X9_133 rfl (hs.lt rfl) ?_
  rw [up_id t0]
  refine r_iload_n dX9_lose_5 rfl ?_
  refine q_callSr dX9_lose_6 (m_isSurvey x1 h1) ml_X9_164 okX9_isSurvey rfl rfl (Nat.le_of_ble_eq_true rfl) (roomOK.of (by decide)) ⟨(Nat.le_of_ble_eq_true rfl), (Nat.le_of_ble_eq_true rfl)⟩ ?_
  refine r_ifneb (tgt := 15) dX9_lose_9 rfl (fun h9 => ?_) (fun h9 => ?_)
  · obtain ⟨s, rfl⟩ : ∃ s : Nat, x1 = s := ⟨x1.toNat, by omega⟩
    refine r_aloadk_n dX9_lose_15 rfl ?_
    refine r_getr dX9_lose_16 fl_X9_27 rfl rfl (hs.lt rfl) (hs.rf rfl) ?_
    refine r_iload_n dX9_lose_19 rfl ?_
    refine r_iald dX9_lose_20 rfl (hs.lt rfl) rfl (by omega) ?_
    refine r_ifge (tgt := 27) dX9_lose_21 rfl (by first | exact hR _ (Nat.le_of_ble_eq_true rfl) _ | omega) (fun h21 => ?_) (fun h21 => ?_)
    · refine r_aloadk_n dX9_lose_27 rfl ?_
      refine r_getr dX9_lose_28 fl_X9_27 rfl rfl (hs.lt rfl) (hs.rf rfl) ?_
      refine r_iload_n dX9_lose_31 rfl ?_
      refine r_iconst dX9_lose_32 ?_
      refine r_iast dX9_lose_33 rfl (hs.lt rfl) rfl (by omega) ?_
      refine r_aloadk_n dX9_lose_34 rfl ?_
      refine r_getr dX9_lose_35 fl_X9_30 rfl rfl (hs.lt rfl) (hs.rf rfl) ?_
      refine r_iload_n dX9_lose_38 rfl ?_
      refine r_iald dX9_lose_39 rfl (hs.lt rfl) rfl (by omega) ?_
      exact r_ireti dX9_lose_40 rfl ⟨_, rfl, Or.inr (Or.inr ⟨h9, h21, by rw [up_row (show (43 : Nat) ≠ 42 by omega)]; rfl, rfl⟩)⟩
    · refine r_bipush dX9_lose_24 ?_
      exact r_ireti dX9_lose_26 rfl ⟨_, rfl, Or.inr (Or.inl ⟨h9, h21, rfl, rfl⟩)⟩
  · refine r_bipush dX9_lose_12 ?_
    exact r_ireti dX9_lose_14 rfl ⟨_, rfl, Or.inl ⟨h9, rfl, rfl⟩⟩
theorem m_mark (hs : Std n ρ) (hJ : JM σ W H P C O) (x1 x2 x3 : Int) (h1 : R32 x1) (h2 : R32 x2) (h3 : R32 x3) : CtI l G 2 mX9_mark n ρ σ [rf G 38, iv x1, iv x2, iv x3] (fun σ' z => (¬ (0 ≤ x1 ∧ x1 ≤ 2) ∧ z = -3 ∧ σ' = σ) ∨ ((0 ≤ x1 ∧ x1 ≤ 2) ∧ σ 42 x1.toNat < 0 ∧ z = -11 ∧ σ' = σ) ∨ ((0 ≤ x1 ∧ x1 ≤ 2) ∧ 0 ≤ σ 42 x1.toNat ∧ ¬ (0 ≤ x2 ∧ x2 < σ 43 x1.toNat) ∧ z = -13 ∧ σ' = σ) ∨ ((0 ≤ x1 ∧ x1 ≤ 2) ∧ 0 ≤ σ 42 x1.toNat ∧ (0 ≤ x2 ∧ x2 < σ 43 x1.toNat) ∧ z = σ 44 (80 * x1.toNat + x2.toNat) ∧ σ' = up σ 44 (80 * x1.toNat + x2.toNat) (cutS (σ 42 x1.toNat) x3))) := by
  obtain ⟨hR, t0, g, j3, j4, j5, j6, j7, j8, j9, j10, j11, j12⟩ := id hJ
  refine Ct.of (L0 := [rf G 38, iv x1, iv x2, iv x3, xx]) (by decide +kernel) (Nat.le_of_ble_eq_true rfl) rfl ?_
  refine r_aloadk_n dX9_mark_0 rfl ?_
  refine r_iconst dX9_mark_1 ?_
  refine r_puti dX9_mark_2 fl_X9_133 rfl (hs.lt rfl) ?_
  rw [up_id t0]
  refine r_iload_n dX9_mark_5 rfl ?_
  refine q_callSr dX9_mark_6 (m_isSurvey x1 h1) ml_X9_164 okX9_isSurvey rfl rfl (Nat.le_of_ble_eq_true rfl) (roomOK.of (by decide)) ⟨(Nat.le_of_ble_eq_true rfl), (Nat.le_of_ble_eq_true rfl)⟩ ?_
  refine r_ifneb (tgt := 15) dX9_mark_9 rfl (fun h9 => ?_) (fun h9 => ?_)
  · obtain ⟨s, rfl⟩ : ∃ s : Nat, x1 = s := ⟨x1.toNat, by omega⟩
    have hs3 : s < 3 := by omega
    have hls := j12 s hs3
    refine r_aloadk_n dX9_mark_15 rfl ?_
    refine r_getr dX9_mark_16 fl_X9_27 rfl rfl (hs.lt rfl) (hs.rf rfl) ?_
    refine r_iload_n dX9_mark_19 rfl ?_
    refine r_iald dX9_mark_20 rfl (hs.lt rfl) rfl (by omega) ?_
    refine r_ifge (tgt := 27) dX9_mark_21 rfl (by first | exact hR _ (Nat.le_of_ble_eq_true rfl) _ | omega) (fun h21 => ?_) (fun h21 => ?_)
    · refine r_iload_n dX9_mark_27 rfl ?_
      refine r_iconst dX9_mark_28 ?_
      refine r_aloadk_n dX9_mark_29 rfl ?_
      refine r_getr dX9_mark_30 fl_X9_30 rfl rfl (hs.lt rfl) (hs.rf rfl) ?_
      refine r_iload_n dX9_mark_33 rfl ?_
      refine r_iald dX9_mark_34 rfl (hs.lt rfl) rfl (by omega) ?_
      refine r_iconst dX9_mark_35 ?_
      refine r_isub dX9_mark_36 ?_
      refine q_callSr dX9_mark_37 (c_in x2 0 (σ 43 s - 1) h2 (by omega) (by omega)) ml_X9_152 okX9_in rfl rfl (Nat.le_of_ble_eq_true rfl) (roomOK.of (by decide)) ⟨(Nat.le_of_ble_eq_true rfl), (Nat.le_of_ble_eq_true rfl)⟩ ?_
      refine r_ifneb (tgt := 46) dX9_mark_40 rfl (fun h40 => ?_) (fun h40 => ?_)
      · obtain ⟨p, rfl⟩ : ∃ p : Nat, x2 = p := ⟨x2.toNat, by omega⟩
        refine r_aloadk_n dX9_mark_46 rfl ?_
        refine r_getr dX9_mark_47 fl_X9_33 rfl rfl (hs.lt rfl) (hs.rf rfl) ?_
        refine r_bipush dX9_mark_50 ?_
        refine r_iload_n dX9_mark_52 rfl ?_
        refine r_imul dX9_mark_53 ?_
        refine r_iload_n dX9_mark_54 rfl ?_
        refine r_iadd dX9_mark_55 ?_
        refine r_iald dX9_mark_56 rfl (hs.lt rfl) (c := 80 * s + p) (by omega) (by omega) ?_
        refine r_istore dX9_mark_57 (Nat.le_of_ble_eq_true rfl) rfl s4 ?_
        refine r_aloadk_n dX9_mark_59 rfl ?_
        refine r_getr dX9_mark_60 fl_X9_33 rfl rfl (hs.lt rfl) (hs.rf rfl) ?_
        refine r_bipush dX9_mark_63 ?_
        refine r_iload_n dX9_mark_65 rfl ?_
        refine r_imul dX9_mark_66 ?_
        refine r_iload_n dX9_mark_67 rfl ?_
        refine r_iadd dX9_mark_68 ?_
        refine r_aloadk_n dX9_mark_69 rfl ?_
        refine r_getr dX9_mark_70 fl_X9_27 rfl rfl (hs.lt rfl) (hs.rf rfl) ?_
        refine r_iload_n dX9_mark_73 rfl ?_
        refine r_iald dX9_mark_74 rfl (hs.lt rfl) rfl (by omega) ?_
        refine r_ifne (tgt := 83) dX9_mark_75 rfl (by first | exact hR _ (Nat.le_of_ble_eq_true rfl) _ | omega) (fun h75 => ?_) (fun h75 => ?_)
        · refine r_aloadk_n dX9_mark_83 rfl ?_
          refine r_getr dX9_mark_84 fl_X9_27 rfl rfl (hs.lt rfl) (hs.rf rfl) ?_
          refine r_iload_n dX9_mark_87 rfl ?_
          refine r_iald dX9_mark_88 rfl (hs.lt rfl) rfl (by omega) ?_
          refine r_iconst dX9_mark_89 ?_
          refine r_icmpne (tgt := 98) dX9_mark_90 rfl (by first | exact hR _ (Nat.le_of_ble_eq_true rfl) _ | omega) (by first | exact hR _ (Nat.le_of_ble_eq_true rfl) _ | omega) (fun h90 => ?_) (fun h90 => ?_)
          · refine r_iload_n dX9_mark_98 rfl ?_
            refine r_iast dX9_mark_99 rfl (hs.lt rfl) (c := 80 * s + p) (by omega) (by omega) ?_
            refine r_iload dX9_mark_100 rfl ?_
            exact r_ireti dX9_mark_102 rfl ⟨_, rfl, Or.inr (Or.inr (Or.inr ⟨h9, h21, by show 0 ≤ (p : Int) ∧ (p : Int) < σ 43 s; omega, rfl, by
  simp only [Int.toNat_natCast]
  unfold cutS
  first
  | rw [if_pos h75]
  | rw [if_neg h75, if_pos h90]
  | rw [if_neg h75, if_neg h90]⟩))⟩
          · refine r_iload_n dX9_mark_93 rfl ?_
            refine r_i2s dX9_mark_94 (by first | exact hR _ (Nat.le_of_ble_eq_true rfl) _ | omega) ?_
            refine r_goto (tgt := 99) dX9_mark_95 rfl ?_
            refine r_iast dX9_mark_99 rfl (hs.lt rfl) (c := 80 * s + p) (by omega) (by omega) ?_
            refine r_iload dX9_mark_100 rfl ?_
            exact r_ireti dX9_mark_102 rfl ⟨_, rfl, Or.inr (Or.inr (Or.inr ⟨h9, h21, by show 0 ≤ (p : Int) ∧ (p : Int) < σ 43 s; omega, rfl, by
  simp only [Int.toNat_natCast]
  unfold cutS
  first
  | rw [if_pos h75]
  | rw [if_neg h75, if_pos h90]
  | rw [if_neg h75, if_neg h90]⟩))⟩
        · refine r_iload_n dX9_mark_78 rfl ?_
          refine r_i2b dX9_mark_79 (by first | exact hR _ (Nat.le_of_ble_eq_true rfl) _ | omega) ?_
          refine r_goto (tgt := 99) dX9_mark_80 rfl ?_
          refine r_iast dX9_mark_99 rfl (hs.lt rfl) (c := 80 * s + p) (by omega) (by omega) ?_
          refine r_iload dX9_mark_100 rfl ?_
          exact r_ireti dX9_mark_102 rfl ⟨_, rfl, Or.inr (Or.inr (Or.inr ⟨h9, h21, by show 0 ≤ (p : Int) ∧ (p : Int) < σ 43 s; omega, rfl, by
  simp only [Int.toNat_natCast]
  unfold cutS
  first
  | rw [if_pos h75]
  | rw [if_neg h75, if_pos h90]
  | rw [if_neg h75, if_neg h90]⟩))⟩
      · refine r_bipush dX9_mark_43 ?_
        exact r_ireti dX9_mark_45 rfl ⟨_, rfl, Or.inr (Or.inr (Or.inl ⟨h9, h21, by show ¬ (0 ≤ x2 ∧ x2 < σ 43 s); omega, rfl, rfl⟩))⟩
    · refine r_bipush dX9_mark_24 ?_
      exact r_ireti dX9_mark_26 rfl ⟨_, rfl, Or.inr (Or.inl ⟨h9, h21, rfl, rfl⟩)⟩
  · refine r_bipush dX9_mark_12 ?_
    exact r_ireti dX9_mark_14 rfl ⟨_, rfl, Or.inl ⟨h9, rfl, rfl⟩⟩
def badM (r : Nat → Int) (s i : Nat) : Bool := badF (fun j => r (80 * s + j)) i
theorem m_read (hs : Std n ρ) (hJ : JM σ W H P C O) (s : Nat) (hs3 : s < 3) : CtI l G 2 mX9_read n ρ σ [rf G 38, iv s] (fun σ' z => (σ 42 s < 0 ∧ z = -11 ∧ σ' = σ) ∨ (0 ≤ σ 42 s ∧ ((anyN (badF (fun j => σ 44 (80 * s + j))) (min (σ 43 s) (W * H : Nat)).toNat = true ∧ z = -4 ∧ σ' = σ) ∨ (anyN (badF (fun j => σ 44 (80 * s + j))) (min (σ 43 s) (W * H : Nat)).toNat = false ∧ z = min (σ 43 s) (W * H : Nat) ∧ σ' = sr σ 39 (cpW (fun j => σ 44 (80 * s + j)) (σ 39) 0 0 (min (σ 43 s) (W * H : Nat)).toNat))))) := by
  obtain ⟨hR, t0, g, j3, j4, j5, j6, j7, j8, j9, j10, j11, j12⟩ := id hJ
  have hle := WH_le g.2.2.1.2 g.2.2.2.2
  have hls := j12 s hs3
  obtain ⟨M, hM⟩ : ∃ M : Nat, min (σ 43 s) ((W * H : Nat) : Int) = M := ⟨(min (σ 43 s) ((W * H : Nat) : Int)).toNat, by omega⟩
  rw [hM, Int.toNat_natCast]
  generalize hQ : (fun (σ' : Si) (z : Int) => (σ 42 s < 0 ∧ z = -11 ∧ σ' = σ) ∨ (0 ≤ σ 42 s ∧ ((anyN (badF (fun j => σ 44 (80 * s + j))) M = true ∧ z = -4 ∧ σ' = σ) ∨ (anyN (badF (fun j => σ 44 (80 * s + j))) M = false ∧ z = M ∧ σ' = sr σ 39 (cpW (fun j => σ 44 (80 * s + j)) (σ 39) 0 0 M))))) = Q
  have loop2 : ∀ (m i : Nat), i + m = M → 0 ≤ σ 42 s → anyN (badF (fun j => σ 44 (80 * s + j))) M = false → RW (KI l G 2 mX9_read n ρ Q) (0, 0, n, ρ) (sr σ 39 (cpW (fun j => σ 44 (80 * s + j)) (σ 39) 0 0 i)) 92 [rf G 38, iv s, iv M, iv i] [] := by
    intro m
    induction m with
    | zero =>
      intro i hi h0 ha
      have e : i = M := by omega
      refine r_iload_n dX9_read_92 rfl ?_
      refine r_iload_n dX9_read_93 rfl ?_
      refine r_icmpge (tgt := 120) dX9_read_94 rfl (by omega) (by omega) (fun h94 => ?_) (fun h94 => ?_)
      · refine r_iload_n dX9_read_120 rfl ?_
        exact r_ireti dX9_read_121 rfl ⟨_, rfl, by rw [← hQ]; exact Or.inr ⟨h0, Or.inr ⟨ha, rfl, by rw [e]⟩⟩⟩
      · omega
    | succ m ih =>
      intro i hi h0 ha
      refine r_iload_n dX9_read_92 rfl ?_
      refine r_iload_n dX9_read_93 rfl ?_
      refine r_icmpge (tgt := 120) dX9_read_94 rfl (by omega) (by omega) (fun h94 => ?_) (fun h94 => ?_)
      · omega
      · refine r_aloadk_n dX9_read_97 rfl ?_
        refine r_getr dX9_read_98 fl_X9_16 rfl rfl (hs.lt rfl) (hs.rf rfl) ?_
        refine r_iload_n dX9_read_101 rfl ?_
        refine r_aloadk_n dX9_read_102 rfl ?_
        refine r_getr dX9_read_103 fl_X9_33 rfl rfl (hs.lt rfl) (hs.rf rfl) ?_
        refine r_bipush dX9_read_106 ?_
        refine r_iload_n dX9_read_108 rfl ?_
        refine r_imul dX9_read_109 ?_
        refine r_iload_n dX9_read_110 rfl ?_
        refine r_iadd dX9_read_111 ?_
        refine r_iald dX9_read_112 rfl (hs.lt rfl) (c := 80 * s + i) (by omega) (by omega) ?_
        refine r_iast dX9_read_113 rfl (hs.lt rfl) rfl (by omega) ?_
        refine r_iinc dX9_read_114 (Nat.le_of_ble_eq_true rfl) rfl rfl s3 ?_
        refine r_goto (tgt := 92) dX9_read_117 rfl ?_
        rw [up_sr]
        have e : ud (cpW (fun j => σ 44 (80 * s + j)) (σ 39) 0 0 i) i (sr σ 39 (cpW (fun j => σ 44 (80 * s + j)) (σ 39) 0 0 i) 44 (80 * s + i)) = cpW (fun j => σ 44 (80 * s + j)) (σ 39) 0 0 (i + 1) := by
          funext b
          unfold ud cpW
          by_cases q : b = i
          · rw [if_pos q, if_pos (by omega), show 0 + (b - 0) = i by omega]; rfl
          · rw [if_neg q]
            by_cases q2 : 0 ≤ b ∧ b < 0 + i
            · rw [if_pos q2, if_pos (by omega)]
            · rw [if_neg q2, if_neg (by omega)]
        rw [e]
        exact ih (i + 1) (by omega) h0 ha
  have loop : ∀ (m i : Nat), i + m = M → 0 ≤ σ 42 s → anyN (badF (fun j => σ 44 (80 * s + j))) i = false → RW (KI l G 2 mX9_read n ρ Q) (0, 0, n, ρ) σ 56 [rf G 38, iv s, iv M, iv i] [] := by
    intro m
    induction m with
    | zero =>
      intro i hi h0 ha
      have e : i = M := by omega
      subst e
      refine r_iload_n dX9_read_56 rfl ?_
      refine r_iload_n dX9_read_57 rfl ?_
      refine r_icmpge (tgt := 90) dX9_read_58 rfl (by omega) (by omega) (fun h58 => ?_) (fun h58 => ?_)
      · refine r_iconst dX9_read_90 ?_
        refine r_istore_n dX9_read_91 (Nat.le_of_ble_eq_true rfl) rfl s3 ?_
        have h := loop2 i 0 (by omega) h0 ha
        have e : cpW (fun j => σ 44 (80 * s + j)) (σ 39) 0 0 0 = σ 39 := by funext b; unfold cpW; rw [if_neg (by omega)]
        rw [e, sr_self] at h
        exact h
      · omega
    | succ m ih =>
      intro i hi h0 ha
      have hri : R32 (σ 44 (80 * s + i)) := hR 44 (by decide) _
      refine r_iload_n dX9_read_56 rfl ?_
      refine r_iload_n dX9_read_57 rfl ?_
      refine r_icmpge (tgt := 90) dX9_read_58 rfl (by omega) (by omega) (fun h58 => ?_) (fun h58 => ?_)
      · omega
      · refine r_aloadk_n dX9_read_61 rfl ?_
        refine r_getr dX9_read_62 fl_X9_33 rfl rfl (hs.lt rfl) (hs.rf rfl) ?_
        refine r_bipush dX9_read_65 ?_
        refine r_iload_n dX9_read_67 rfl ?_
        refine r_imul dX9_read_68 ?_
        refine r_iload_n dX9_read_69 rfl ?_
        refine r_iadd dX9_read_70 ?_
        refine r_iald dX9_read_71 rfl (hs.lt rfl) (c := 80 * s + i) (by omega) (by omega) ?_
        refine r_iconst dX9_read_72 ?_
        refine r_bipush dX9_read_73 ?_
        refine q_callSr dX9_read_75 (c_in (σ 44 (80 * s + i)) 0 9 hri (by omega) (by omega)) ml_X9_152 okX9_in rfl rfl (Nat.le_of_ble_eq_true rfl) (roomOK.of (by decide)) ⟨(Nat.le_of_ble_eq_true rfl), (Nat.le_of_ble_eq_true rfl)⟩ ?_
        refine r_ifneb (tgt := 84) dX9_read_78 rfl (fun h78 => ?_) (fun h78 => ?_)
        · refine r_iinc dX9_read_84 (Nat.le_of_ble_eq_true rfl) rfl rfl s3 ?_
          refine r_goto (tgt := 56) dX9_read_87 rfl ?_
          refine ih (i + 1) (by omega) h0 ?_
          show (anyN _ i || badF _ i) = false
          rw [ha, Bool.false_or]
          exact Bool.eq_false_iff.mpr (fun q => badF_t.mp q h78)
        · refine r_bipush dX9_read_81 ?_
          exact r_ireti dX9_read_83 rfl ⟨_, rfl, by rw [← hQ]; exact Or.inr ⟨h0, Or.inl ⟨(anyN_iff M).mpr ⟨i, by omega, badF_t.mpr h78⟩, rfl, rfl⟩⟩⟩
  refine Ct.of (L0 := [rf G 38, iv s, xx, xx]) (by decide +kernel) (Nat.le_of_ble_eq_true rfl) rfl ?_
  refine r_aloadk_n dX9_read_0 rfl ?_
  refine r_iconst dX9_read_1 ?_
  refine r_puti dX9_read_2 fl_X9_133 rfl (hs.lt rfl) ?_
  rw [up_id t0]
  refine r_iload_n dX9_read_5 rfl ?_
  refine q_callSr dX9_read_6 (m_isSurvey s (by omega)) ml_X9_164 okX9_isSurvey rfl rfl (Nat.le_of_ble_eq_true rfl) (roomOK.of (by decide)) ⟨(Nat.le_of_ble_eq_true rfl), (Nat.le_of_ble_eq_true rfl)⟩ ?_
  refine r_ifneb (tgt := 15) dX9_read_9 rfl (fun h9 => ?_) (fun h9 => ?_)
  · refine r_aloadk_n dX9_read_15 rfl ?_
    refine r_getr dX9_read_16 fl_X9_27 rfl rfl (hs.lt rfl) (hs.rf rfl) ?_
    refine r_iload_n dX9_read_19 rfl ?_
    refine r_iald dX9_read_20 rfl (hs.lt rfl) rfl (by omega) ?_
    refine r_ifge (tgt := 27) dX9_read_21 rfl (by first | exact hR _ (Nat.le_of_ble_eq_true rfl) _ | omega) (fun h21 => ?_) (fun h21 => ?_)
    · refine r_aloadk_n dX9_read_27 rfl ?_
      refine r_getr dX9_read_28 fl_X9_30 rfl rfl (hs.lt rfl) (hs.rf rfl) ?_
      refine r_iload_n dX9_read_31 rfl ?_
      refine r_iald dX9_read_32 rfl (hs.lt rfl) rfl (by omega) ?_
      refine r_aloadk_n dX9_read_33 rfl ?_
      refine q_callVr dX9_read_34 (m_cells hs g) ml_X9_148 okX9_cells rfl rfl (hs.lt rfl) rfl rfl (Nat.le_of_ble_eq_true rfl) (roomOK.of (by decide)) ⟨(Nat.le_of_ble_eq_true rfl), (Nat.le_of_ble_eq_true rfl)⟩ ?_
      refine r_icmpge (tgt := 49) dX9_read_37 rfl (by omega) (by omega) (fun h37 => ?_) (fun h37 => ?_)
      · refine r_aloadk_n dX9_read_49 rfl ?_
        refine q_callVr dX9_read_50 (m_cells hs g) ml_X9_148 okX9_cells rfl rfl (hs.lt rfl) rfl rfl (Nat.le_of_ble_eq_true rfl) (roomOK.of (by decide)) ⟨(Nat.le_of_ble_eq_true rfl), (Nat.le_of_ble_eq_true rfl)⟩ ?_
        first
        | (rw [show iv (σ 43 s) = iv (M : Int) by rw [← hM, show min (σ 43 s) ((W * H : Nat) : Int) = σ 43 s by omega]])
        | (rw [show iv ((W * H : Nat) : Int) = iv (M : Int) by rw [← hM, show min (σ 43 s) ((W * H : Nat) : Int) = ((W * H : Nat) : Int) by omega]])
        refine r_istore_n dX9_read_53 (Nat.le_of_ble_eq_true rfl) rfl s2 ?_
        refine r_iconst dX9_read_54 ?_
        refine r_istore_n dX9_read_55 (Nat.le_of_ble_eq_true rfl) rfl s3 ?_
        exact loop M 0 (by omega) h21 rfl
      · refine r_aloadk_n dX9_read_40 rfl ?_
        refine r_getr dX9_read_41 fl_X9_30 rfl rfl (hs.lt rfl) (hs.rf rfl) ?_
        refine r_iload_n dX9_read_44 rfl ?_
        refine r_iald dX9_read_45 rfl (hs.lt rfl) rfl (by omega) ?_
        refine r_goto (tgt := 53) dX9_read_46 rfl ?_
        first
        | (rw [show iv (σ 43 s) = iv (M : Int) by rw [← hM, show min (σ 43 s) ((W * H : Nat) : Int) = σ 43 s by omega]])
        | (rw [show iv ((W * H : Nat) : Int) = iv (M : Int) by rw [← hM, show min (σ 43 s) ((W * H : Nat) : Int) = ((W * H : Nat) : Int) by omega]])
        refine r_istore_n dX9_read_53 (Nat.le_of_ble_eq_true rfl) rfl s2 ?_
        refine r_iconst dX9_read_54 ?_
        refine r_istore_n dX9_read_55 (Nat.le_of_ble_eq_true rfl) rfl s3 ?_
        exact loop M 0 (by omega) h21 rfl
    · refine r_bipush dX9_read_24 ?_
      exact r_ireti dX9_read_26 rfl ⟨_, rfl, by rw [← hQ]; exact Or.inl ⟨h21, rfl, rfl⟩⟩
  · omega
theorem m_readB (hs : Std n ρ) (hJ : JM σ W H P C O) (x1 : Int) (h1 : R32 x1) (hb : ¬ (0 ≤ x1 ∧ x1 ≤ 2)) : RdI l G 2 mX9_read n ρ σ [rf G 38, iv x1] (-3) := by
  obtain ⟨hR, t0, g, j3, j4, j5, j6, j7, j8, j9, j10, j11, j12⟩ := id hJ
  refine Ct.of (L0 := [rf G 38, iv x1, xx, xx]) (by decide +kernel) (Nat.le_of_ble_eq_true rfl) rfl ?_
  refine r_aloadk_n dX9_read_0 rfl ?_
  refine r_iconst dX9_read_1 ?_
  refine r_puti dX9_read_2 fl_X9_133 rfl (hs.lt rfl) ?_
  rw [up_id t0]
  refine r_iload_n dX9_read_5 rfl ?_
  refine q_callSr dX9_read_6 (m_isSurvey x1 h1) ml_X9_164 okX9_isSurvey rfl rfl (Nat.le_of_ble_eq_true rfl) (roomOK.of (by decide)) ⟨(Nat.le_of_ble_eq_true rfl), (Nat.le_of_ble_eq_true rfl)⟩ ?_
  refine r_ifneb (tgt := 15) dX9_read_9 rfl (fun h9 => ?_) (fun h9 => ?_)
  · exact absurd h9 hb
  · refine r_bipush dX9_read_12 ?_
    exact r_ireti dX9_read_14 rfl ⟨_, rfl, rfl, rfl⟩
end Model2
