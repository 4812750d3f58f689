/-! MODEL: upheld, holder, sum, has, allot, take, hedge -/
theorem ClP.zero {σ : Si} {C : Nat} : ClP σ C 0 (σ 38 22) := fun i hi => ⟨fun h => h.elim (fun q => absurd rfl q) id, Or.inr⟩
theorem JM.clp {σ : Si} {W H P C O : Nat} (h : JM σ W H P C O) : ClP σ C 1 999 := fun i hi => ⟨fun _ => (h.2.2.2.2.2.2.1.2.2.2.2.2.2.1 i hi).2.2.1.2, fun _ => Or.inl (by decide)⟩
section Model12
variable {l : Launch} {G : GG} {n : Nat} {ρ : Rho} {σ : Si} {W H P C O : Nat}
theorem MF.opn (hR : Rg σ) : MF σ (sr σ 38 (ud (σ 38) 33 0)) := ⟨fun k hk => sr_ne (by omega), hR.sr (ud_R (hR 38 (by decide)) (by omega)), fun j hj => ud_ne (by omega)⟩
theorem m_upheld (hs : Std n ρ) (hJ : JM σ W H P C O) (x1 : Int) (h1 : R32 x1) : CtI l G 3 mX9_upheld n ρ σ [rf G 38, iv x1] (fun σ' z => (¬ (0 ≤ x1 ∧ x1 < (O : Int)) ∧ z = -3 ∧ σ' = σ) ∨ ((0 ≤ x1 ∧ x1 < (O : Int)) ∧ z = bi (uphB (σ 40) (σ 41) (σ 47) (σ 48) (σ 49) (σ 50) (σ 51) (σ 52) (σ 53) C (σ 38 22) x1.toNat = true) ∧ MF σ σ')) := by
  obtain ⟨hR, t0, g, j3, j4, j5, j6, j7, j8, j9, j10, j11, j12⟩ := id hJ
  obtain ⟨c1, c2, c3, c4, c5, c6, c7, c8⟩ := id j6
  have kw : RdI l G 0 mX9_in n ρ σ [iv x1, iv 0, iv (σ 38 18 - 1)] (bi (0 ≤ x1 ∧ x1 < (O : Int))) := by
    have h := c_in (l := l) (G := G) (n := n) (ρ := ρ) (σ := σ) x1 0 (σ 38 18 - 1) h1 (by omega) (by omega)
    rw [bi_iff (show (0 ≤ x1 ∧ x1 ≤ σ 38 18 - 1) ↔ (0 ≤ x1 ∧ x1 < (O : Int)) by omega)] at h
    exact h
  have ku : ∀ o : Nat, o < O → RdI l G 2 mX9_isUpheld n ρ (sr σ 38 (ud (σ 38) 33 0)) [rf G 38, iv o] (bi (uphB (σ 40) (σ 41) (σ 47) (σ 48) (σ 49) (σ 50) (σ 51) (σ 52) (σ 53) C (σ 38 22) o = true)) := fun o ho => m_isUpheld (σ := sr σ 38 (ud (σ 38) 33 0)) hs (MF.opn hR).2.1 j5 c3 c4 (σ 38 22) (fun i hi => ⟨fun h => h.elim (fun q => absurd rfl q) id, Or.inr⟩) o (by omega) (c8 o ho).2
  refine Ct.of (L0 := [rf G 38, iv x1]) (by decide +kernel) (Nat.le_of_ble_eq_true rfl) rfl ?_
  refine r_aloadk_n dX9_upheld_0 rfl ?_
  refine r_iconst dX9_upheld_1 ?_
  refine r_puti dX9_upheld_2 fl_X9_133 rfl (hs.lt rfl) ?_
  rw [up_id t0]
  refine r_iload_n dX9_upheld_5 rfl ?_
  refine r_iconst dX9_upheld_6 ?_
  refine r_aloadk_n dX9_upheld_7 rfl ?_
  refine r_geti dX9_upheld_8 fl_X9_145 rfl rfl (hs.lt rfl) ?_
  refine r_iconst dX9_upheld_11 ?_
  refine r_isub dX9_upheld_12 ?_
  refine q_callSr dX9_upheld_13 (kw) ml_X9_152 okX9_in rfl rfl (Nat.le_of_ble_eq_true rfl) (roomOK.of (by decide)) ⟨(Nat.le_of_ble_eq_true rfl), (Nat.le_of_ble_eq_true rfl)⟩ ?_
  refine r_ifneb (tgt := 22) dX9_upheld_16 rfl (fun h16 => ?_) (fun h16 => ?_)
  · obtain ⟨o, rfl⟩ : ∃ a : Nat, x1 = a := ⟨x1.toNat, by omega⟩
    refine r_aloadk_n dX9_upheld_22 rfl ?_
    refine r_iconst dX9_upheld_23 ?_
    refine r_putz dX9_upheld_24 fl_X9_194 (by omega) rfl (hs.lt rfl) ?_
    rw [up_eq_sr]
    refine r_aloadk_n dX9_upheld_27 rfl ?_
    refine r_iload_n dX9_upheld_28 rfl ?_
    refine q_callVr dX9_upheld_29 (ku o (by omega)) ml_X9_205 okX9_isUpheld rfl rfl (hs.lt rfl) rfl rfl (Nat.le_of_ble_eq_true rfl) (roomOK.of (by decide)) ⟨(Nat.le_of_ble_eq_true rfl), (Nat.le_of_ble_eq_true rfl)⟩ ?_
    refine r_ifeqb (tgt := 39) dX9_upheld_32 rfl (fun h32 => ?_) (fun h32 => ?_)
    · refine r_iconst dX9_upheld_39 ?_
      exact r_ireti dX9_upheld_40 rfl ⟨_, rfl, Or.inr ⟨h16, by rw [Int.toNat_natCast]; first | rw [bi_t h32] | rw [bi_f h32], MF.opn hR⟩⟩
    · refine r_iconst dX9_upheld_35 ?_
      refine r_goto (tgt := 40) dX9_upheld_36 rfl ?_
      exact r_ireti dX9_upheld_40 rfl ⟨_, rfl, Or.inr ⟨h16, by rw [Int.toNat_natCast]; first | rw [bi_t h32] | rw [bi_f h32], MF.opn hR⟩⟩
  · refine r_bipush dX9_upheld_19 ?_
    exact r_ireti dX9_upheld_21 rfl ⟨_, rfl, Or.inl ⟨h16, rfl, rfl⟩⟩
theorem m_holder (hs : Std n ρ) (hJ : JM σ W H P C O) (x1 x2 : Int) (h1 : R32 x1) (h2 : R32 x2) : CtI l G 2 mX9_holder n ρ σ [rf G 38, iv x1, iv x2] (fun σ' z => (¬ ((0 ≤ x1 ∧ x1 < (W * H : Nat)) ∧ (0 ≤ x2 ∧ x2 ≤ 999)) ∧ z = -3 ∧ σ' = σ) ∨ (((0 ≤ x1 ∧ x1 < (W * H : Nat)) ∧ (0 ≤ x2 ∧ x2 ≤ 999)) ∧ z = hold (σ 40) (σ 41) (σ 48) (σ 49) (σ 50) C x1.toNat x2 (σ 38 22) ∧ MF σ σ')) := by
  obtain ⟨hR, t0, g, j3, j4, j5, j6, j7, j8, j9, j10, j11, j12⟩ := id hJ
  obtain ⟨c1, c2, c3, c4, c5, c6, c7, c8⟩ := id j6
  have hle := WH_le g.2.2.1.2 g.2.2.2.2
  have ku : ∀ c : Nat, c < 80 → RdI l G 1 mX9_holderOf n ρ (sr σ 38 (ud (σ 38) 33 0)) [rf G 38, iv c, iv x2] (hold (σ 40) (σ 41) (σ 48) (σ 49) (σ 50) C c x2 (σ 38 22)) := fun c hc => m_holderOf (σ := sr σ 38 (ud (σ 38) 33 0)) hs (MF.opn hR).2.1 j5 c3 c4 (σ 38 22) (fun i hi => ⟨fun h => h.elim (fun q => absurd rfl q) id, Or.inr⟩) c hc x2 h2
  refine Ct.of (L0 := [rf G 38, iv x1, iv x2]) (by decide +kernel) (Nat.le_of_ble_eq_true rfl) rfl ?_
  refine r_aloadk_n dX9_holder_0 rfl ?_
  refine r_iconst dX9_holder_1 ?_
  refine r_puti dX9_holder_2 fl_X9_133 rfl (hs.lt rfl) ?_
  rw [up_id t0]
  refine r_aloadk_n dX9_holder_5 rfl ?_
  refine r_iload_n dX9_holder_6 rfl ?_
  refine q_callVr dX9_holder_7 (m_isCell hs g x1 h1) ml_X9_156 okX9_isCell rfl rfl (hs.lt rfl) rfl rfl (Nat.le_of_ble_eq_true rfl) (roomOK.of (by decide)) ⟨(Nat.le_of_ble_eq_true rfl), (Nat.le_of_ble_eq_true rfl)⟩ ?_
  refine r_ifeqb (tgt := 20) dX9_holder_10 rfl (fun h10 => ?_) (fun h10 => ?_)
  · refine r_bipush dX9_holder_20 ?_
    exact r_ireti dX9_holder_22 rfl ⟨_, rfl, Or.inl ⟨by omega, rfl, rfl⟩⟩
  · refine r_iload_n dX9_holder_13 rfl ?_
    refine q_callSr dX9_holder_14 (m_isDay x2 h2) ml_X9_185 okX9_isDay rfl rfl (Nat.le_of_ble_eq_true rfl) (roomOK.of (by decide)) ⟨(Nat.le_of_ble_eq_true rfl), (Nat.le_of_ble_eq_true rfl)⟩ ?_
    refine r_ifneb (tgt := 23) dX9_holder_17 rfl (fun h17 => ?_) (fun h17 => ?_)
    · obtain ⟨o, rfl⟩ : ∃ a : Nat, x1 = a := ⟨x1.toNat, by omega⟩
      refine r_aloadk_n dX9_holder_23 rfl ?_
      refine r_iconst dX9_holder_24 ?_
      refine r_putz dX9_holder_25 fl_X9_194 (by omega) rfl (hs.lt rfl) ?_
      rw [up_eq_sr]
      refine r_aloadk_n dX9_holder_28 rfl ?_
      refine r_iload_n dX9_holder_29 rfl ?_
      refine r_iload_n dX9_holder_30 rfl ?_
      refine q_callVr dX9_holder_31 (ku o (by omega)) ml_X9_202 okX9_holderOf rfl rfl (hs.lt rfl) rfl rfl (Nat.le_of_ble_eq_true rfl) (roomOK.of (by decide)) ⟨(Nat.le_of_ble_eq_true rfl), (Nat.le_of_ble_eq_true rfl)⟩ ?_
      exact r_ireti dX9_holder_34 rfl ⟨_, rfl, Or.inr ⟨⟨h10, h17⟩, by rw [Int.toNat_natCast], MF.opn hR⟩⟩
    · refine r_bipush dX9_holder_20 ?_
      exact r_ireti dX9_holder_22 rfl ⟨_, rfl, Or.inl ⟨by omega, rfl, rfl⟩⟩
theorem m_sum (hs : Std n ρ) (hJ : JM σ W H P C O) (x1 x2 : Int) (h1 : R32 x1) (h2 : R32 x2) : CtI l G 6 mX9_sum n ρ σ [rf G 38, iv x1, iv x2] (fun σ' z => (¬ ((0 ≤ x1 ∧ x1 ≤ 5) ∧ (0 ≤ x2 ∧ x2 ≤ 999)) ∧ z = -3 ∧ σ' = σ) ∨ (((0 ≤ x1 ∧ x1 ≤ 5) ∧ (0 ≤ x2 ∧ x2 ≤ 999)) ∧ MF σ σ' ∧ z = sumS (σ 39) (σ 40) (σ 41) (σ 45) (σ 47) (σ 48) (σ 49) (σ 50) (σ 51) (σ 52) (σ 53) (W * H) P C O x1 x2 (σ 38 22) (σ 38 25) (σ 38 24) (σ 38 6))) := by
  obtain ⟨hR, t0, g, j3, j4, j5, j6, j7, j8, j9, j10, j11, j12⟩ := id hJ
  refine Ct.of (L0 := [rf G 38, iv x1, iv x2]) (by decide +kernel) (Nat.le_of_ble_eq_true rfl) rfl ?_
  refine r_aloadk_n dX9_sum_0 rfl ?_
  refine r_iconst dX9_sum_1 ?_
  refine r_puti dX9_sum_2 fl_X9_133 rfl (hs.lt rfl) ?_
  rw [up_id t0]
  refine r_iload_n dX9_sum_5 rfl ?_
  refine r_iconst dX9_sum_6 ?_
  refine r_iconst dX9_sum_7 ?_
  refine q_callSr dX9_sum_8 (c_in x1 0 5 h1 (by omega) (by omega)) ml_X9_152 okX9_in rfl rfl (Nat.le_of_ble_eq_true rfl) (roomOK.of (by decide)) ⟨(Nat.le_of_ble_eq_true rfl), (Nat.le_of_ble_eq_true rfl)⟩ ?_
  refine r_ifeqb (tgt := 21) dX9_sum_11 rfl (fun h11 => ?_) (fun h11 => ?_)
  · refine r_bipush dX9_sum_21 ?_
    exact r_ireti dX9_sum_23 rfl ⟨_, rfl, Or.inl ⟨by omega, rfl, rfl⟩⟩
  · refine r_iload_n dX9_sum_14 rfl ?_
    refine q_callSr dX9_sum_15 (m_isDay x2 h2) ml_X9_185 okX9_isDay rfl rfl (Nat.le_of_ble_eq_true rfl) (roomOK.of (by decide)) ⟨(Nat.le_of_ble_eq_true rfl), (Nat.le_of_ble_eq_true rfl)⟩ ?_
    refine r_ifneb (tgt := 24) dX9_sum_18 rfl (fun h18 => ?_) (fun h18 => ?_)
    · refine r_aloadk_n dX9_sum_24 rfl ?_
      refine r_iload_n dX9_sum_25 rfl ?_
      refine r_iconst dX9_sum_26 ?_
      refine r_aloadk_n dX9_sum_27 rfl ?_
      refine r_getr dX9_sum_28 fl_X9_93 rfl rfl (hs.lt rfl) (hs.rf rfl) ?_
      refine q_callVv dX9_sum_31 (m_findDuesa hs hJ 0 (σ 38 22) (Or.inl rfl) ClP.zero x2 h2) ml_X9_246 okX9_findDues rfl rfl (hs.lt rfl) rfl rfl (Nat.le_of_ble_eq_true rfl) (roomOK.of (by decide)) ⟨(Nat.le_of_ble_eq_true rfl), (Nat.le_of_ble_eq_true rfl)⟩ (fun σ1 hq1 => ?_)
      obtain ⟨f1, q1, q2, q3, q4, q5, q6, q7, q8, q9⟩ := hq1
      refine r_iload_n dX9_sum_34 rfl ?_
      by_cases h35_0 : x1 = 0
      · refine r_tabAt (c := 0) (tgt := 68) dX9_sum_35 (by first | exact hR _ (Nat.le_of_ble_eq_true rfl) _ | omega) h35_0 (by decide) (by decide) rfl rfl ?_
        refine r_aloadk_n dX9_sum_68 rfl ?_
        refine r_geti dX9_sum_69 fl_X9_211 rfl rfl (hs.lt rfl) ?_
        exact r_ireti dX9_sum_72 rfl ⟨_, rfl, Or.inr ⟨⟨h11, h18⟩, f1, by unfold sumS; rw [if_pos h35_0, q5]; rfl⟩⟩
      by_cases h35_1 : x1 = 1
      · refine r_tabAt (c := 1) (tgt := 73) dX9_sum_35 (by first | exact hR _ (Nat.le_of_ble_eq_true rfl) _ | omega) h35_1 (by decide) (by decide) rfl rfl ?_
        refine r_aloadk_n dX9_sum_73 rfl ?_
        refine r_geti dX9_sum_74 fl_X9_233 rfl rfl (hs.lt rfl) ?_
        exact r_ireti dX9_sum_77 rfl ⟨_, rfl, Or.inr ⟨⟨h11, h18⟩, f1, by unfold sumS; rw [if_neg h35_0, if_pos h35_1, q6]; rfl⟩⟩
      by_cases h35_2 : x1 = 2
      · refine r_tabAt (c := 2) (tgt := 78) dX9_sum_35 (by first | exact hR _ (Nat.le_of_ble_eq_true rfl) _ | omega) h35_2 (by decide) (by decide) rfl rfl ?_
        refine r_aloadk_n dX9_sum_78 rfl ?_
        refine r_geti dX9_sum_79 fl_X9_236 rfl rfl (hs.lt rfl) ?_
        exact r_ireti dX9_sum_82 rfl ⟨_, rfl, Or.inr ⟨⟨h11, h18⟩, f1, by unfold sumS; rw [if_neg h35_0, if_neg h35_1, if_pos h35_2, q7]; rfl⟩⟩
      by_cases h35_3 : x1 = 3
      · refine r_tabAt (c := 3) (tgt := 83) dX9_sum_35 (by first | exact hR _ (Nat.le_of_ble_eq_true rfl) _ | omega) h35_3 (by decide) (by decide) rfl rfl ?_
        refine r_aloadk_n dX9_sum_83 rfl ?_
        refine r_geti dX9_sum_84 fl_X9_239 rfl rfl (hs.lt rfl) ?_
        exact r_ireti dX9_sum_87 rfl ⟨_, rfl, Or.inr ⟨⟨h11, h18⟩, f1, by unfold sumS; rw [if_neg h35_0, if_neg h35_1, if_neg h35_2, if_pos h35_3, q8]; rfl⟩⟩
      by_cases h35_4 : x1 = 4
      · refine r_tabAt (c := 4) (tgt := 88) dX9_sum_35 (by first | exact hR _ (Nat.le_of_ble_eq_true rfl) _ | omega) h35_4 (by decide) (by decide) rfl rfl ?_
        refine r_aloadk_n dX9_sum_88 rfl ?_
        refine r_geti dX9_sum_89 fl_X9_227 rfl rfl (hs.lt rfl) ?_
        exact r_ireti dX9_sum_92 rfl ⟨_, rfl, Or.inr ⟨⟨h11, h18⟩, f1, by unfold sumS; rw [if_neg h35_0, if_neg h35_1, if_neg h35_2, if_neg h35_3, if_pos h35_4, q9]; rfl⟩⟩
      refine r_tabOut (tgt := 93) dX9_sum_35 (by first | exact hR _ (Nat.le_of_ble_eq_true rfl) _ | omega) (by omega) rfl ?_
      refine r_aloadk_n dX9_sum_93 rfl ?_
      refine r_geti dX9_sum_94 fl_X9_136 rfl rfl (hs.lt rfl) ?_
      exact r_ireti dX9_sum_97 rfl ⟨_, rfl, Or.inr ⟨⟨h11, h18⟩, f1, by unfold sumS; rw [if_neg h35_0, if_neg h35_1, if_neg h35_2, if_neg h35_3, if_neg h35_4, f1.2.2 6 (by omega)]⟩⟩
    · refine r_bipush dX9_sum_21 ?_
      exact r_ireti dX9_sum_23 rfl ⟨_, rfl, Or.inl ⟨by omega, rfl, rfl⟩⟩
theorem m_has (hs : Std n ρ) (hJ : JM σ W H P C O) (x1 x2 x3 : Int) (h1 : R32 x1) (h2 : R32 x2) (h3 : R32 x3) : CtI l G 6 mX9_has n ρ σ [rf G 38, iv x1, iv x2, iv x3] (fun σ' z => (¬ ((0 ≤ x1 ∧ x1 < (P : Int)) ∧ (0 ≤ x2 ∧ x2 ≤ 4) ∧ (0 ≤ x3 ∧ x3 ≤ 999)) ∧ z = -3 ∧ σ' = σ) ∨ (((0 ≤ x1 ∧ x1 < (P : Int)) ∧ (0 ≤ x2 ∧ x2 ≤ 4) ∧ (0 ≤ x3 ∧ x3 ≤ 999)) ∧ MF σ σ' ∧ z = hasS (σ 39) (σ 40) (σ 41) (σ 45) (σ 47) (σ 48) (σ 49) (σ 50) (σ 51) (σ 52) (σ 53) (W * H) P C O x1.toNat x2 x3 (σ 38 22) (σ 38 25) (σ 38 24) (σ 38 6))) := by
  obtain ⟨hR, t0, g, j3, j4, j5, j6, j7, j8, j9, j10, j11, j12⟩ := id hJ
  obtain ⟨c1, c2, c3, c4, c5, c6, c7, c8⟩ := id j6
  have hd1 := dueM_r hJ x3 999
  have hd2 := dueM_r hJ x3 (σ 38 22)
  refine Ct.of (L0 := [rf G 38, iv x1, iv x2, iv x3]) (by decide +kernel) (Nat.le_of_ble_eq_true rfl) rfl ?_
  refine r_aloadk_n dX9_has_0 rfl ?_
  refine r_iconst dX9_has_1 ?_
  refine r_puti dX9_has_2 fl_X9_133 rfl (hs.lt rfl) ?_
  rw [up_id t0]
  refine r_aloadk_n dX9_has_5 rfl ?_
  refine r_iload_n dX9_has_6 rfl ?_
  refine q_callVr dX9_has_7 (m_isPerson hs c1 c2 x1 h1) ml_X9_182 okX9_isPerson rfl rfl (hs.lt rfl) rfl rfl (Nat.le_of_ble_eq_true rfl) (roomOK.of (by decide)) ⟨(Nat.le_of_ble_eq_true rfl), (Nat.le_of_ble_eq_true rfl)⟩ ?_
  refine r_ifeqb (tgt := 29) dX9_has_10 rfl (fun h10 => ?_) (fun h10 => ?_)
  · refine r_bipush dX9_has_29 ?_
    exact r_ireti dX9_has_31 rfl ⟨_, rfl, Or.inl ⟨by omega, rfl, rfl⟩⟩
  · refine r_iload_n dX9_has_13 rfl ?_
    refine r_iconst dX9_has_14 ?_
    refine r_iconst dX9_has_15 ?_
    refine q_callSr dX9_has_16 (c_in x2 0 4 h2 (by omega) (by omega)) ml_X9_152 okX9_in rfl rfl (Nat.le_of_ble_eq_true rfl) (roomOK.of (by decide)) ⟨(Nat.le_of_ble_eq_true rfl), (Nat.le_of_ble_eq_true rfl)⟩ ?_
    refine r_ifeqb (tgt := 29) dX9_has_19 rfl (fun h19 => ?_) (fun h19 => ?_)
    · refine r_bipush dX9_has_29 ?_
      exact r_ireti dX9_has_31 rfl ⟨_, rfl, Or.inl ⟨by omega, rfl, rfl⟩⟩
    · refine r_iload_n dX9_has_22 rfl ?_
      refine q_callSr dX9_has_23 (m_isDay x3 h3) ml_X9_185 okX9_isDay rfl rfl (Nat.le_of_ble_eq_true rfl) (roomOK.of (by decide)) ⟨(Nat.le_of_ble_eq_true rfl), (Nat.le_of_ble_eq_true rfl)⟩ ?_
      refine r_ifneb (tgt := 32) dX9_has_26 rfl (fun h26 => ?_) (fun h26 => ?_)
      · obtain ⟨p, rfl⟩ : ∃ a : Nat, x1 = a := ⟨x1.toNat, by omega⟩
        have hp : p < P := by omega
        refine r_aloadk_n dX9_has_32 rfl ?_
        refine r_iload_n dX9_has_33 rfl ?_
        refine r_iconst dX9_has_34 ?_
        refine r_aloadk_n dX9_has_35 rfl ?_
        refine r_getr dX9_has_36 fl_X9_96 rfl rfl (hs.lt rfl) (hs.rf rfl) ?_
        refine q_callVv dX9_has_39 (m_findDuesb hs hJ 1 999 (Or.inr rfl) hJ.clp x3 h3) ml_X9_246 okX9_findDues rfl rfl (hs.lt rfl) rfl rfl (Nat.le_of_ble_eq_true rfl) (roomOK.of (by decide)) ⟨(Nat.le_of_ble_eq_true rfl), (Nat.le_of_ble_eq_true rfl)⟩ (fun σ1 hq1 => ?_)
        obtain ⟨f1, q1, q2, q3, q4, q5, q6, q7, q8, q9⟩ := hq1
        have hJ1 := hJ.mf f1
        refine r_aloadk_n dX9_has_42 rfl ?_
        refine r_iload_n dX9_has_43 rfl ?_
        refine r_iconst dX9_has_44 ?_
        refine r_aloadk_n dX9_has_45 rfl ?_
        refine r_getr dX9_has_46 fl_X9_93 rfl rfl (hs.lt rfl) (hs.rf rfl) ?_
        refine q_callVv dX9_has_49 (m_findDuesa hs hJ1 0 (σ1 38 22) (Or.inl rfl) ClP.zero x3 h3) ml_X9_246 okX9_findDues rfl rfl (hs.lt rfl) rfl rfl (Nat.le_of_ble_eq_true rfl) (roomOK.of (by decide)) ⟨(Nat.le_of_ble_eq_true rfl), (Nat.le_of_ble_eq_true rfl)⟩ (fun σ2 hq2 => ?_)
        obtain ⟨f2, r1, r2, r3, r4, r5, r6, r7, r8, r9⟩ := hq2
        have hJ2 := hJ1.mf f2
        have f12 := f1.trans f2
        rw [weiM_mf f1, f1.2.2 22 (by omega)] at r2
        rw [dueM_mf f1, f1.2.2 22 (by omega)] at r3
        have e62 : ∀ p, p < P → σ2 62 p = dueM σ (W * H) P C O x3 999 p := fun p hp => by rw [r4]; exact q3 p hp
        have k61 := r3 p hp
        have k62 := e62 p hp
        have hdp1 := hd1 p
        have hdp2 := hd2 p
        refine r_iload_n dX9_has_52 rfl ?_
        by_cases h53_0 : x2 = 0
        · refine r_tabAt (c := 0) (tgt := 84) dX9_has_53 (by first | exact hR _ (Nat.le_of_ble_eq_true rfl) _ | omega) h53_0 (by decide) (by decide) rfl rfl ?_
          refine r_aloadk_n dX9_has_84 rfl ?_
          refine r_getr dX9_has_85 fl_X9_90 rfl rfl (hs.lt rfl) (hs.rf rfl) ?_
          refine r_iload_n dX9_has_88 rfl ?_
          refine r_iald dX9_has_89 rfl (hs.lt rfl) rfl (by omega) ?_
          exact r_ireti dX9_has_90 rfl ⟨_, rfl, Or.inr ⟨⟨h10, h19, h26⟩, f12, by unfold hasS; rw [if_pos h53_0, Int.toNat_natCast, r2 p hp]; rfl⟩⟩
        by_cases h53_1 : x2 = 1
        · refine r_tabAt (c := 1) (tgt := 91) dX9_has_53 (by first | exact hR _ (Nat.le_of_ble_eq_true rfl) _ | omega) h53_1 (by decide) (by decide) rfl rfl ?_
          refine r_aloadk_n dX9_has_91 rfl ?_
          refine r_getr dX9_has_92 fl_X9_93 rfl rfl (hs.lt rfl) (hs.rf rfl) ?_
          refine r_iload_n dX9_has_95 rfl ?_
          refine r_iald dX9_has_96 rfl (hs.lt rfl) rfl (by omega) ?_
          exact r_ireti dX9_has_97 rfl ⟨_, rfl, Or.inr ⟨⟨h10, h19, h26⟩, f12, by unfold hasS; rw [if_neg h53_0, if_pos h53_1, Int.toNat_natCast, r3 p hp]; rfl⟩⟩
        by_cases h53_2 : x2 = 2
        · refine r_tabAt (c := 2) (tgt := 98) dX9_has_53 (by first | exact hR _ (Nat.le_of_ble_eq_true rfl) _ | omega) h53_2 (by decide) (by decide) rfl rfl ?_
          refine r_aloadk_n dX9_has_98 rfl ?_
          refine r_aloadk_n dX9_has_99 rfl ?_
          refine r_geti dX9_has_100 fl_X9_136 rfl rfl (hs.lt rfl) ?_
          rw [f12.2.2 6 (by omega)]
          refine r_aloadk_n dX9_has_103 rfl ?_
          refine r_getr dX9_has_104 fl_X9_93 rfl rfl (hs.lt rfl) (hs.rf rfl) ?_
          refine r_aloadk_n dX9_has_107 rfl ?_
          refine r_getr dX9_has_108 fl_X9_99 rfl rfl (hs.lt rfl) (hs.rf rfl) ?_
          refine q_callVv dX9_has_111 (m_partc (σ := σ2) hs hJ2.1 hJ2.2.2.2.2.2.2.1.1 c2 (σ 38 6) (by omega) (fun q hq => by rw [r3 q hq]; have := hd2 q; omega)) ml_X9_242 okX9_part rfl rfl (hs.lt rfl) rfl rfl (Nat.le_of_ble_eq_true rfl) (roomOK.of (by decide)) ⟨(Nat.le_of_ble_eq_true rfl), (Nat.le_of_ble_eq_true rfl)⟩ (fun σ3 hq3 => ?_)
          obtain ⟨q, had, hq, hh, hqd, rfl⟩ := hq3
          have f3 : MF σ2 (sr (sr σ2 63 q) 64 had) := ⟨fun k hk => by rw [sr_ne (by omega), sr_ne (by omega)], (hJ2.1.sr hq).sr hh, fun j hj => rfl⟩
          rw [partS_by r3] at hqd
          refine r_aloadk_n dX9_has_114 rfl ?_
          refine r_getr dX9_has_115 fl_X9_99 rfl rfl (hs.lt rfl) (hs.rf rfl) ?_
          refine r_iload_n dX9_has_118 rfl ?_
          refine r_iald dX9_has_119 rfl (hs.lt rfl) rfl (by omega) ?_
          exact r_ireti dX9_has_120 rfl ⟨_, rfl, Or.inr ⟨⟨h10, h19, h26⟩, f12.trans f3, by unfold hasS; rw [if_neg h53_0, if_neg h53_1, if_pos h53_2, Int.toNat_natCast]; exact hqd p hp⟩⟩
        by_cases h53_3 : x2 = 3
        · refine r_tabAt (c := 3) (tgt := 121) dX9_has_53 (by first | exact hR _ (Nat.le_of_ble_eq_true rfl) _ | omega) h53_3 (by decide) (by decide) rfl rfl ?_
          refine r_aloadk_n dX9_has_121 rfl ?_
          refine r_getr dX9_has_122 fl_X9_96 rfl rfl (hs.lt rfl) (hs.rf rfl) ?_
          refine r_iload_n dX9_has_125 rfl ?_
          refine r_iald dX9_has_126 rfl (hs.lt rfl) rfl (by omega) ?_
          refine r_aloadk_n dX9_has_127 rfl ?_
          refine r_getr dX9_has_128 fl_X9_93 rfl rfl (hs.lt rfl) (hs.rf rfl) ?_
          refine r_iload_n dX9_has_131 rfl ?_
          refine r_iald dX9_has_132 rfl (hs.lt rfl) rfl (by omega) ?_
          refine r_icmple (tgt := 154) dX9_has_133 rfl (by omega) (by omega) (fun h133 => ?_) (fun h133 => ?_)
          · refine r_iconst dX9_has_154 ?_
            exact r_ireti dX9_has_155 rfl ⟨_, rfl, Or.inr ⟨⟨h10, h19, h26⟩, f12, by unfold hasS; rw [if_neg h53_0, if_neg h53_1, if_neg h53_2, if_pos h53_3, Int.toNat_natCast]; show _ = 3 * max 0 (dueM σ (W * H) P C O x3 999 p - dueM σ (W * H) P C O x3 (σ 38 22) p); omega⟩⟩
          · refine r_iconst dX9_has_136 ?_
            refine r_aloadk_n dX9_has_137 rfl ?_
            refine r_getr dX9_has_138 fl_X9_96 rfl rfl (hs.lt rfl) (hs.rf rfl) ?_
            refine r_iload_n dX9_has_141 rfl ?_
            refine r_iald dX9_has_142 rfl (hs.lt rfl) rfl (by omega) ?_
            refine r_aloadk_n dX9_has_143 rfl ?_
            refine r_getr dX9_has_144 fl_X9_93 rfl rfl (hs.lt rfl) (hs.rf rfl) ?_
            refine r_iload_n dX9_has_147 rfl ?_
            refine r_iald dX9_has_148 rfl (hs.lt rfl) rfl (by omega) ?_
            refine r_isub dX9_has_149 ?_
            refine r_imul dX9_has_150 ?_
            refine r_goto (tgt := 155) dX9_has_151 rfl ?_
            exact r_ireti dX9_has_155 rfl ⟨_, rfl, Or.inr ⟨⟨h10, h19, h26⟩, f12, by unfold hasS; rw [if_neg h53_0, if_neg h53_1, if_neg h53_2, if_pos h53_3, Int.toNat_natCast]; show _ = 3 * max 0 (dueM σ (W * H) P C O x3 999 p - dueM σ (W * H) P C O x3 (σ 38 22) p); omega⟩⟩
        refine r_tabOut (tgt := 156) dX9_has_53 (by first | exact hR _ (Nat.le_of_ble_eq_true rfl) _ | omega) (by omega) rfl ?_
        refine r_aloadk_n dX9_has_156 rfl ?_
        refine r_iload_n dX9_has_157 rfl ?_
        refine r_iload_n dX9_has_158 rfl ?_
        refine q_callVr dX9_has_159 (m_gatesOf (σ := σ2) (C := C) hs hJ2.1 hJ2.2.2.2.2.2.2.1.2.2.1 c4 (σ2 38 22) (fun i hi => by rw [r1]; exact ⟨fun h => h.elim (fun q => absurd rfl q) id, Or.inr⟩) (fun i hi => ⟨(hJ2.2.2.2.2.2.2.1.2.2.2.2.2.2.1 i hi).2.1, (hJ2.2.2.2.2.2.2.1.2.2.2.2.2.2.1 i hi).2.2.2⟩) p x3 (by omega) h3) ml_X9_224 okX9_gatesOf rfl rfl (hs.lt rfl) rfl rfl (Nat.le_of_ble_eq_true rfl) (roomOK.of (by decide)) ⟨(Nat.le_of_ble_eq_true rfl), (Nat.le_of_ble_eq_true rfl)⟩ ?_
        exact r_ireti dX9_has_162 rfl ⟨_, rfl, Or.inr ⟨⟨h10, h19, h26⟩, f12, by unfold hasS; rw [if_neg h53_0, if_neg h53_1, if_neg h53_2, if_neg h53_3, Int.toNat_natCast, f12.1 47 (by omega), f12.1 48 (by omega), f12.1 49 (by omega), f12.1 50 (by omega), f12.2.2 22 (by omega)]⟩⟩
      · refine r_bipush dX9_has_29 ?_
        exact r_ireti dX9_has_31 rfl ⟨_, rfl, Or.inl ⟨by omega, rfl, rfl⟩⟩
theorem m_allot (hs : Std n ρ) (hJ : JM σ W H P C O) (x1 x2 x3 : Int) (h1 : R32 x1) (h2 : R32 x2) (h3 : R32 x3) : CtI l G 2 mX9_allot n ρ σ [rf G 38, iv x1, iv x2, iv x3] (fun σ' z => (¬ ((0 ≤ x1 ∧ x1 < (P : Int)) ∧ (0 ≤ x2 ∧ x2 < (W * H : Nat)) ∧ 0 ≤ x3 ∧ (1 ≤ x3 / 11 ∧ x3 / 11 ≤ 10) ∧ (1 ≤ x3 % 11 ∧ x3 % 11 ≤ 10)) ∧ z = -3 ∧ σ' = σ) ∨ (((0 ≤ x1 ∧ x1 < (P : Int)) ∧ (0 ≤ x2 ∧ x2 < (W * H : Nat)) ∧ 0 ≤ x3 ∧ (1 ≤ x3 / 11 ∧ x3 / 11 ≤ 10) ∧ (1 ≤ x3 % 11 ∧ x3 % 11 ≤ 10)) ∧ z = 0 ∧ σ' = sr (sr (sr σ 54 (ud (σ 54) x1.toNat x2)) 55 (ud (σ 55) x1.toNat (x3 / 11))) 56 (ud (σ 56) x1.toNat (x3 % 11)))) := by
  obtain ⟨hR, t0, g, j3, j4, j5, j6, j7, j8, j9, j10, j11, j12⟩ := id hJ
  obtain ⟨c1, c2, c3, c4, c5, c6, c7, c8⟩ := id j6
  have hle := WH_le g.2.2.1.2 g.2.2.2.2
  refine Ct.of (L0 := [rf G 38, iv x1, iv x2, iv x3]) (by decide +kernel) (Nat.le_of_ble_eq_true rfl) rfl ?_
  refine r_aloadk_n dX9_allot_0 rfl ?_
  refine r_iconst dX9_allot_1 ?_
  refine r_puti dX9_allot_2 fl_X9_133 rfl (hs.lt rfl) ?_
  rw [up_id t0]
  refine r_aloadk_n dX9_allot_5 rfl ?_
  refine r_iload_n dX9_allot_6 rfl ?_
  refine q_callVr dX9_allot_7 (m_isPerson hs c1 c2 x1 h1) ml_X9_182 okX9_isPerson rfl rfl (hs.lt rfl) rfl rfl (Nat.le_of_ble_eq_true rfl) (roomOK.of (by decide)) ⟨(Nat.le_of_ble_eq_true rfl), (Nat.le_of_ble_eq_true rfl)⟩ ?_
  refine r_ifeqb (tgt := 51) dX9_allot_10 rfl (fun h10 => ?_) (fun h10 => ?_)
  · refine r_bipush dX9_allot_51 ?_
    exact r_ireti dX9_allot_53 rfl ⟨_, rfl, Or.inl ⟨by omega, rfl, rfl⟩⟩
  · refine r_aloadk_n dX9_allot_13 rfl ?_
    refine r_iload_n dX9_allot_14 rfl ?_
    refine q_callVr dX9_allot_15 (m_isCell hs g x2 h2) ml_X9_156 okX9_isCell rfl rfl (hs.lt rfl) rfl rfl (Nat.le_of_ble_eq_true rfl) (roomOK.of (by decide)) ⟨(Nat.le_of_ble_eq_true rfl), (Nat.le_of_ble_eq_true rfl)⟩ ?_
    refine r_ifeqb (tgt := 51) dX9_allot_18 rfl (fun h18 => ?_) (fun h18 => ?_)
    · refine r_bipush dX9_allot_51 ?_
      exact r_ireti dX9_allot_53 rfl ⟨_, rfl, Or.inl ⟨by omega, rfl, rfl⟩⟩
    · refine r_iload_n dX9_allot_21 rfl ?_
      refine r_iflt (tgt := 51) dX9_allot_22 rfl (by first | exact hR _ (Nat.le_of_ble_eq_true rfl) _ | omega) (fun h22 => ?_) (fun h22 => ?_)
      · refine r_bipush dX9_allot_51 ?_
        exact r_ireti dX9_allot_53 rfl ⟨_, rfl, Or.inl ⟨by omega, rfl, rfl⟩⟩
      · refine r_iload_n dX9_allot_25 rfl ?_
        refine r_bipush dX9_allot_26 ?_
        refine r_idiv dX9_allot_28 (by omega) (by omega) ?_
        refine r_iconst dX9_allot_29 ?_
        refine r_bipush dX9_allot_30 ?_
        refine q_callSr dX9_allot_32 (c_in (x3 / 11) 1 10 (by omega) (by omega) (by omega)) ml_X9_152 okX9_in rfl rfl (Nat.le_of_ble_eq_true rfl) (roomOK.of (by decide)) ⟨(Nat.le_of_ble_eq_true rfl), (Nat.le_of_ble_eq_true rfl)⟩ ?_
        refine r_ifeqb (tgt := 51) dX9_allot_35 rfl (fun h35 => ?_) (fun h35 => ?_)
        · refine r_bipush dX9_allot_51 ?_
          exact r_ireti dX9_allot_53 rfl ⟨_, rfl, Or.inl ⟨by omega, rfl, rfl⟩⟩
        · refine r_iload_n dX9_allot_38 rfl ?_
          refine r_bipush dX9_allot_39 ?_
          refine r_irem dX9_allot_41 (by omega) (by omega) ?_
          refine r_iconst dX9_allot_42 ?_
          refine r_bipush dX9_allot_43 ?_
          refine q_callSr dX9_allot_45 (c_in (x3 % 11) 1 10 (by omega) (by omega) (by omega)) ml_X9_152 okX9_in rfl rfl (Nat.le_of_ble_eq_true rfl) (roomOK.of (by decide)) ⟨(Nat.le_of_ble_eq_true rfl), (Nat.le_of_ble_eq_true rfl)⟩ ?_
          refine r_ifneb (tgt := 54) dX9_allot_48 rfl (fun h48 => ?_) (fun h48 => ?_)
          · obtain ⟨p, rfl⟩ : ∃ a : Nat, x1 = a := ⟨x1.toNat, by omega⟩
            refine r_aloadk_n dX9_allot_54 rfl ?_
            refine r_getr dX9_allot_55 fl_X9_72 rfl rfl (hs.lt rfl) (hs.rf rfl) ?_
            refine r_iload_n dX9_allot_58 rfl ?_
            refine r_iload_n dX9_allot_59 rfl ?_
            refine r_iast dX9_allot_60 rfl (hs.lt rfl) rfl (by omega) ?_
            rw [up_eq_sr]
            refine r_aloadk_n dX9_allot_61 rfl ?_
            refine r_getr dX9_allot_62 fl_X9_75 rfl rfl (hs.lt rfl) (hs.rf rfl) ?_
            refine r_iload_n dX9_allot_65 rfl ?_
            refine r_iload_n dX9_allot_66 rfl ?_
            refine r_bipush dX9_allot_67 ?_
            refine r_idiv dX9_allot_69 (by omega) (by omega) ?_
            refine r_iast dX9_allot_70 rfl (hs.lt rfl) rfl (by omega) ?_
            rw [up_eq_sr]
            refine r_aloadk_n dX9_allot_71 rfl ?_
            refine r_getr dX9_allot_72 fl_X9_78 rfl rfl (hs.lt rfl) (hs.rf rfl) ?_
            refine r_iload_n dX9_allot_75 rfl ?_
            refine r_iload_n dX9_allot_76 rfl ?_
            refine r_bipush dX9_allot_77 ?_
            refine r_irem dX9_allot_79 (by omega) (by omega) ?_
            refine r_iast dX9_allot_80 rfl (hs.lt rfl) rfl (by omega) ?_
            rw [up_eq_sr]
            refine r_iconst dX9_allot_81 ?_
            exact r_ireti dX9_allot_82 rfl ⟨_, rfl, Or.inr ⟨⟨h10, h18, by omega, h35, h48⟩, rfl, rfl⟩⟩
          · refine r_bipush dX9_allot_51 ?_
            exact r_ireti dX9_allot_53 rfl ⟨_, rfl, Or.inl ⟨by omega, rfl, rfl⟩⟩
theorem m_take (hs : Std n ρ) (hJ : JM σ W H P C O) (x1 : Int) (h1 : R32 x1) : CtI l G 2 mX9_take n ρ σ [rf G 38, iv x1] (fun σ' z => (¬ (0 ≤ x1 ∧ x1 < (P : Int)) ∧ z = -3 ∧ σ' = σ) ∨ ((0 ≤ x1 ∧ x1 < (P : Int)) ∧ z = bi (0 < σ 55 x1.toNat) ∧ σ' = up σ 55 x1.toNat 0)) := by
  obtain ⟨hR, t0, g, j3, j4, j5, j6, j7, j8, j9, j10, j11, j12⟩ := id hJ
  obtain ⟨c1, c2, c3, c4, c5, c6, c7, c8⟩ := id j6
  refine Ct.of (L0 := [rf G 38, iv x1, xx]) (by decide +kernel) (Nat.le_of_ble_eq_true rfl) rfl ?_
  refine r_aloadk_n dX9_take_0 rfl ?_
  refine r_iconst dX9_take_1 ?_
  refine r_puti dX9_take_2 fl_X9_133 rfl (hs.lt rfl) ?_
  rw [up_id t0]
  refine r_aloadk_n dX9_take_5 rfl ?_
  refine r_iload_n dX9_take_6 rfl ?_
  refine q_callVr dX9_take_7 (m_isPerson hs c1 c2 x1 h1) ml_X9_182 okX9_isPerson rfl rfl (hs.lt rfl) rfl rfl (Nat.le_of_ble_eq_true rfl) (roomOK.of (by decide)) ⟨(Nat.le_of_ble_eq_true rfl), (Nat.le_of_ble_eq_true rfl)⟩ ?_
  refine r_ifneb (tgt := 16) dX9_take_10 rfl (fun h10 => ?_) (fun h10 => ?_)
  · obtain ⟨p, rfl⟩ : ∃ a : Nat, x1 = a := ⟨x1.toNat, by omega⟩
    refine r_aloadk_n dX9_take_16 rfl ?_
    refine r_getr dX9_take_17 fl_X9_75 rfl rfl (hs.lt rfl) (hs.rf rfl) ?_
    refine r_iload_n dX9_take_20 rfl ?_
    refine r_iald dX9_take_21 rfl (hs.lt rfl) rfl (by omega) ?_
    refine r_ifle (tgt := 29) dX9_take_22 rfl (by first | exact hR _ (Nat.le_of_ble_eq_true rfl) _ | omega) (fun h22 => ?_) (fun h22 => ?_)
    · refine r_iconst dX9_take_29 ?_
      refine r_istore_n dX9_take_30 (Nat.le_of_ble_eq_true rfl) rfl s2 ?_
      refine r_aloadk_n dX9_take_31 rfl ?_
      refine r_getr dX9_take_32 fl_X9_75 rfl rfl (hs.lt rfl) (hs.rf rfl) ?_
      refine r_iload_n dX9_take_35 rfl ?_
      refine r_iconst dX9_take_36 ?_
      refine r_iast dX9_take_37 rfl (hs.lt rfl) rfl (by omega) ?_
      refine r_iload_n dX9_take_38 rfl ?_
      exact r_ireti dX9_take_39 rfl ⟨_, rfl, Or.inr ⟨h10, by rw [Int.toNat_natCast]; unfold bi; split <;> omega, rfl⟩⟩
    · refine r_iconst dX9_take_25 ?_
      refine r_goto (tgt := 30) dX9_take_26 rfl ?_
      refine r_istore_n dX9_take_30 (Nat.le_of_ble_eq_true rfl) rfl s2 ?_
      refine r_aloadk_n dX9_take_31 rfl ?_
      refine r_getr dX9_take_32 fl_X9_75 rfl rfl (hs.lt rfl) (hs.rf rfl) ?_
      refine r_iload_n dX9_take_35 rfl ?_
      refine r_iconst dX9_take_36 ?_
      refine r_iast dX9_take_37 rfl (hs.lt rfl) rfl (by omega) ?_
      refine r_iload_n dX9_take_38 rfl ?_
      exact r_ireti dX9_take_39 rfl ⟨_, rfl, Or.inr ⟨h10, by rw [Int.toNat_natCast]; unfold bi; split <;> omega, rfl⟩⟩
  · refine r_bipush dX9_take_13 ?_
    exact r_ireti dX9_take_15 rfl ⟨_, rfl, Or.inl ⟨h10, rfl, rfl⟩⟩
theorem m_hedge (hs : Std n ρ) (hJ : JM σ W H P C O) (x1 x2 : Int) (h1 : R32 x1) (h2 : R32 x2) : CtI l G 2 mX9_hedge n ρ σ [rf G 38, iv x1, iv x2] (fun σ' z => (¬ ((0 ≤ x1 ∧ x1 < (P : Int)) ∧ (-1 ≤ x2 ∧ x2 ≤ 999)) ∧ z = -3 ∧ σ' = σ) ∨ (((0 ≤ x1 ∧ x1 < (P : Int)) ∧ (-1 ≤ x2 ∧ x2 ≤ 999)) ∧ z = σ 57 x1.toNat ∧ σ' = up σ 57 x1.toNat x2)) := by
  obtain ⟨hR, t0, g, j3, j4, j5, j6, j7, j8, j9, j10, j11, j12⟩ := id hJ
  obtain ⟨c1, c2, c3, c4, c5, c6, c7, c8⟩ := id j6
  refine Ct.of (L0 := [rf G 38, iv x1, iv x2, xx]) (by decide +kernel) (Nat.le_of_ble_eq_true rfl) rfl ?_
  refine r_aloadk_n dX9_hedge_0 rfl ?_
  refine r_iconst dX9_hedge_1 ?_
  refine r_puti dX9_hedge_2 fl_X9_133 rfl (hs.lt rfl) ?_
  rw [up_id t0]
  refine r_aloadk_n dX9_hedge_5 rfl ?_
  refine r_iload_n dX9_hedge_6 rfl ?_
  refine q_callVr dX9_hedge_7 (m_isPerson hs c1 c2 x1 h1) ml_X9_182 okX9_isPerson rfl rfl (hs.lt rfl) rfl rfl (Nat.le_of_ble_eq_true rfl) (roomOK.of (by decide)) ⟨(Nat.le_of_ble_eq_true rfl), (Nat.le_of_ble_eq_true rfl)⟩ ?_
  refine r_ifeqb (tgt := 24) dX9_hedge_10 rfl (fun h10 => ?_) (fun h10 => ?_)
  · refine r_bipush dX9_hedge_24 ?_
    exact r_ireti dX9_hedge_26 rfl ⟨_, rfl, Or.inl ⟨by omega, rfl, rfl⟩⟩
  · refine r_iload_n dX9_hedge_13 rfl ?_
    refine r_iconst dX9_hedge_14 ?_
    refine r_sipush dX9_hedge_15 ?_
    refine q_callSr dX9_hedge_18 (c_in x2 (-1) 999 h2 (by omega) (by omega)) ml_X9_152 okX9_in rfl rfl (Nat.le_of_ble_eq_true rfl) (roomOK.of (by decide)) ⟨(Nat.le_of_ble_eq_true rfl), (Nat.le_of_ble_eq_true rfl)⟩ ?_
    refine r_ifneb (tgt := 27) dX9_hedge_21 rfl (fun h21 => ?_) (fun h21 => ?_)
    · obtain ⟨p, rfl⟩ : ∃ a : Nat, x1 = a := ⟨x1.toNat, by omega⟩
      refine r_aloadk_n dX9_hedge_27 rfl ?_
      refine r_getr dX9_hedge_28 fl_X9_81 rfl rfl (hs.lt rfl) (hs.rf rfl) ?_
      refine r_iload_n dX9_hedge_31 rfl ?_
      refine r_iald dX9_hedge_32 rfl (hs.lt rfl) rfl (by omega) ?_
      refine r_istore_n dX9_hedge_33 (Nat.le_of_ble_eq_true rfl) rfl s3 ?_
      refine r_aloadk_n dX9_hedge_34 rfl ?_
      refine r_getr dX9_hedge_35 fl_X9_81 rfl rfl (hs.lt rfl) (hs.rf rfl) ?_
      refine r_iload_n dX9_hedge_38 rfl ?_
      refine r_iload_n dX9_hedge_39 rfl ?_
      refine r_iast dX9_hedge_40 rfl (hs.lt rfl) rfl (by omega) ?_
      refine r_iload_n dX9_hedge_41 rfl ?_
      exact r_ireti dX9_hedge_42 rfl ⟨_, rfl, Or.inr ⟨⟨h10, h21⟩, rfl, rfl⟩⟩
    · refine r_bipush dX9_hedge_24 ?_
      exact r_ireti dX9_hedge_26 rfl ⟨_, rfl, Or.inl ⟨by omega, rfl, rfl⟩⟩
end Model12
