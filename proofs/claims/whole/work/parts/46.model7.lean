/-! MODEL: claimant, isOf, firstOf, claim, withdraw, rule, object -/
section Model7
variable {l : Launch} {G : GG} {n : Nat} {ρ : Rho} {σ : Si} {W H P C O : Nat}
theorem m_claimant (hs : Std n ρ) (hJ : JM σ W H P C O) (x1 x2 : Int) (h1 : R32 x1) (h2 : R32 x2) : CtI l G 2 mX9_claimant n ρ σ [rf G 38, iv x1, iv x2] (fun σ' z => (¬ ((0 ≤ x1 ∧ x1 ≤ 4) ∧ (0 ≤ x2 ∧ x2 < (W * H : Nat))) ∧ z = -3 ∧ σ' = σ) ∨ (((0 ≤ x1 ∧ x1 ≤ 4) ∧ (0 ≤ x2 ∧ x2 < (W * H : Nat))) ∧ ¬ P < 8 ∧ z = -5 ∧ σ' = σ) ∨ (((0 ≤ x1 ∧ x1 ≤ 4) ∧ (0 ≤ x2 ∧ x2 < (W * H : Nat))) ∧ P < 8 ∧ z = P ∧ σ' = sr (sr (sr (sr (sr σ 45 (ud (σ 45) P x1)) 46 (ud (σ 46) P x2)) 55 (ud (σ 55) P 0)) 57 (ud (σ 57) P (-1))) 38 (ud (σ 38) 10 (P + 1)))) := by
  obtain ⟨hR, t0, g, j3, j4, j5, j6, j7, j8, j9, j10, j11, j12⟩ := id hJ
  have hle := WH_le g.2.2.1.2 g.2.2.2.2
  have e := j6.1
  have e8 := j6.2.1
  refine Ct.of (L0 := [rf G 38, iv x1, iv x2]) (by decide +kernel) (Nat.le_of_ble_eq_true rfl) rfl ?_
  refine r_aloadk_n dX9_claimant_0 rfl ?_
  refine r_iconst dX9_claimant_1 ?_
  refine r_puti dX9_claimant_2 fl_X9_133 rfl (hs.lt rfl) ?_
  rw [up_id t0]
  refine r_iload_n dX9_claimant_5 rfl ?_
  refine r_iconst dX9_claimant_6 ?_
  refine r_iconst dX9_claimant_7 ?_
  refine q_callSr dX9_claimant_8 (c_in x1 0 4 h1 (by omega) (by omega)) ml_X9_152 okX9_in rfl rfl (Nat.le_of_ble_eq_true rfl) (roomOK.of (by decide)) ⟨(Nat.le_of_ble_eq_true rfl), (Nat.le_of_ble_eq_true rfl)⟩ ?_
  refine r_ifeqb (tgt := 22) dX9_claimant_11 rfl (fun h11 => ?_) (fun h11 => ?_)
  · refine r_bipush dX9_claimant_22 ?_
    exact r_ireti dX9_claimant_24 rfl ⟨_, rfl, Or.inl ⟨by omega, rfl, rfl⟩⟩
  · refine r_aloadk_n dX9_claimant_14 rfl ?_
    refine r_iload_n dX9_claimant_15 rfl ?_
    refine q_callVr dX9_claimant_16 (m_isCell hs g x2 h2) ml_X9_156 okX9_isCell rfl rfl (hs.lt rfl) rfl rfl (Nat.le_of_ble_eq_true rfl) (roomOK.of (by decide)) ⟨(Nat.le_of_ble_eq_true rfl), (Nat.le_of_ble_eq_true rfl)⟩ ?_
    refine r_ifneb (tgt := 25) dX9_claimant_19 rfl (fun h19 => ?_) (fun h19 => ?_)
    · refine r_aloadk_n dX9_claimant_25 rfl ?_
      refine r_geti dX9_claimant_26 fl_X9_139 rfl rfl (hs.lt rfl) ?_
      refine r_bipush dX9_claimant_29 ?_
      refine r_icmpne (tgt := 37) dX9_claimant_31 rfl (by first | exact hR _ (Nat.le_of_ble_eq_true rfl) _ | omega) (by first | exact hR _ (Nat.le_of_ble_eq_true rfl) _ | omega) (fun h31 => ?_) (fun h31 => ?_)
      · refine r_aloadk_n dX9_claimant_37 rfl ?_
        refine r_getr dX9_claimant_38 fl_X9_36 rfl rfl (hs.lt rfl) (hs.rf rfl) ?_
        refine r_aloadk_n dX9_claimant_41 rfl ?_
        refine r_geti dX9_claimant_42 fl_X9_139 rfl rfl (hs.lt rfl) ?_
        refine show RW _ _ _ _ _ (iv (σ 38 10) :: _) from ?_
        rw [e]
        refine r_iload_n dX9_claimant_45 rfl ?_
        refine r_iast dX9_claimant_46 rfl (hs.lt rfl) rfl (by omega) ?_
        rw [up_eq_sr]
        refine r_aloadk_n dX9_claimant_47 rfl ?_
        refine r_getr dX9_claimant_48 fl_X9_39 rfl rfl (hs.lt rfl) (hs.rf rfl) ?_
        refine r_aloadk_n dX9_claimant_51 rfl ?_
        refine r_geti dX9_claimant_52 fl_X9_139 rfl rfl (hs.lt rfl) ?_
        refine show RW _ _ _ _ _ (iv (σ 38 10) :: _) from ?_
        rw [e]
        refine r_iload_n dX9_claimant_55 rfl ?_
        refine r_iast dX9_claimant_56 rfl (hs.lt rfl) rfl (by omega) ?_
        rw [up_eq_sr]
        refine r_aloadk_n dX9_claimant_57 rfl ?_
        refine r_getr dX9_claimant_58 fl_X9_75 rfl rfl (hs.lt rfl) (hs.rf rfl) ?_
        refine r_aloadk_n dX9_claimant_61 rfl ?_
        refine r_geti dX9_claimant_62 fl_X9_139 rfl rfl (hs.lt rfl) ?_
        refine show RW _ _ _ _ _ (iv (σ 38 10) :: _) from ?_
        rw [e]
        refine r_iconst dX9_claimant_65 ?_
        refine r_iast dX9_claimant_66 rfl (hs.lt rfl) rfl (by omega) ?_
        rw [up_eq_sr]
        refine r_aloadk_n dX9_claimant_67 rfl ?_
        refine r_getr dX9_claimant_68 fl_X9_81 rfl rfl (hs.lt rfl) (hs.rf rfl) ?_
        refine r_aloadk_n dX9_claimant_71 rfl ?_
        refine r_geti dX9_claimant_72 fl_X9_139 rfl rfl (hs.lt rfl) ?_
        refine show RW _ _ _ _ _ (iv (σ 38 10) :: _) from ?_
        rw [e]
        refine r_iconst dX9_claimant_75 ?_
        refine r_iast dX9_claimant_76 rfl (hs.lt rfl) rfl (by omega) ?_
        rw [up_eq_sr]
        refine r_aloadk_n dX9_claimant_77 rfl ?_
        refine r_dup dX9_claimant_78 rfl ?_
        refine r_geti dX9_claimant_79 fl_X9_139 rfl rfl (hs.lt rfl) ?_
        refine show RW _ _ _ _ _ (iv (σ 38 10) :: _) from ?_
        rw [e]
        refine r_iconst dX9_claimant_82 ?_
        refine r_iadd dX9_claimant_83 ?_
        refine r_puti dX9_claimant_84 fl_X9_139 rfl (hs.lt rfl) ?_
        rw [up_eq_sr]
        refine r_aloadk_n dX9_claimant_87 rfl ?_
        refine r_geti dX9_claimant_88 fl_X9_139 rfl rfl (hs.lt rfl) ?_
        refine show RW _ _ _ _ _ (iv ((P : Int) + 1) :: _) from ?_
        refine r_iconst dX9_claimant_91 ?_
        refine r_isub dX9_claimant_92 ?_
        exact r_ireti dX9_claimant_93 rfl ⟨_, rfl, Or.inr (Or.inr ⟨⟨h11, h19⟩, by omega, by omega, rfl⟩)⟩
      · refine r_bipush dX9_claimant_34 ?_
        exact r_ireti dX9_claimant_36 rfl ⟨_, rfl, Or.inr (Or.inl ⟨⟨h11, h19⟩, by omega, rfl, rfl⟩)⟩
    · refine r_bipush dX9_claimant_22 ?_
      exact r_ireti dX9_claimant_24 rfl ⟨_, rfl, Or.inl ⟨by omega, rfl, rfl⟩⟩
theorem m_isOf (hs : Std n ρ) (hJ : JM σ W H P C O) (x1 x2 : Int) (h1 : R32 x1) (h2 : R32 x2) : RdI l G 2 mX9_isOf n ρ σ [rf G 38, iv x1, iv x2] (if (0 ≤ x1 ∧ x1 < (P : Int)) ∧ (0 ≤ x2 ∧ x2 ≤ 4) then bi (x2 = 0 ∨ σ 45 x1.toNat = x2 ∨ (x2 = 1 ∧ σ 45 x1.toNat = 3)) else -3) := by
  obtain ⟨hR, t0, g, j3, j4, j5, j6, j7, j8, j9, j10, j11, j12⟩ := id hJ
  have e := j6.1
  have e8 := j6.2.1
  refine Ct.of (L0 := [rf G 38, iv x1, iv x2]) (by decide +kernel) (Nat.le_of_ble_eq_true rfl) rfl ?_
  refine r_aloadk_n dX9_isOf_0 rfl ?_
  refine r_iconst dX9_isOf_1 ?_
  refine r_puti dX9_isOf_2 fl_X9_133 rfl (hs.lt rfl) ?_
  rw [up_id t0]
  refine r_aloadk_n dX9_isOf_5 rfl ?_
  refine r_iload_n dX9_isOf_6 rfl ?_
  refine q_callVr dX9_isOf_7 (m_isPerson hs e e8 x1 h1) ml_X9_182 okX9_isPerson rfl rfl (hs.lt rfl) rfl rfl (Nat.le_of_ble_eq_true rfl) (roomOK.of (by decide)) ⟨(Nat.le_of_ble_eq_true rfl), (Nat.le_of_ble_eq_true rfl)⟩ ?_
  refine r_ifeqb (tgt := 22) dX9_isOf_10 rfl (fun h10 => ?_) (fun h10 => ?_)
  · refine r_bipush dX9_isOf_22 ?_
    exact r_ireti dX9_isOf_24 rfl ⟨_, rfl, rfl, by rw [if_neg (by omega)]⟩
  · refine r_iload_n dX9_isOf_13 rfl ?_
    refine r_iconst dX9_isOf_14 ?_
    refine r_iconst dX9_isOf_15 ?_
    refine q_callSr dX9_isOf_16 (c_in x2 0 4 h2 (by omega) (by omega)) ml_X9_152 okX9_in rfl rfl (Nat.le_of_ble_eq_true rfl) (roomOK.of (by decide)) ⟨(Nat.le_of_ble_eq_true rfl), (Nat.le_of_ble_eq_true rfl)⟩ ?_
    refine r_ifneb (tgt := 25) dX9_isOf_19 rfl (fun h19 => ?_) (fun h19 => ?_)
    · obtain ⟨p, rfl⟩ : ∃ a : Nat, x1 = a := ⟨x1.toNat, by omega⟩
      refine r_iload_n dX9_isOf_25 rfl ?_
      refine r_ifeq (tgt := 54) dX9_isOf_26 rfl (by first | exact hR _ (Nat.le_of_ble_eq_true rfl) _ | omega) (fun h26 => ?_) (fun h26 => ?_)
      · refine r_iconst dX9_isOf_54 ?_
        refine r_goto (tgt := 59) dX9_isOf_55 rfl ?_
        exact r_ireti dX9_isOf_59 rfl ⟨_, rfl, rfl, by rw [if_pos ⟨h10, h19⟩, Int.toNat_natCast]; unfold bi; split <;> omega⟩
      · refine r_aloadk_n dX9_isOf_29 rfl ?_
        refine r_getr dX9_isOf_30 fl_X9_36 rfl rfl (hs.lt rfl) (hs.rf rfl) ?_
        refine r_iload_n dX9_isOf_33 rfl ?_
        refine r_iald dX9_isOf_34 rfl (hs.lt rfl) rfl (by omega) ?_
        refine r_iload_n dX9_isOf_35 rfl ?_
        refine r_icmpeq (tgt := 54) dX9_isOf_36 rfl (by first | exact hR _ (Nat.le_of_ble_eq_true rfl) _ | omega) (by first | exact hR _ (Nat.le_of_ble_eq_true rfl) _ | omega) (fun h36 => ?_) (fun h36 => ?_)
        · refine r_iconst dX9_isOf_54 ?_
          refine r_goto (tgt := 59) dX9_isOf_55 rfl ?_
          exact r_ireti dX9_isOf_59 rfl ⟨_, rfl, rfl, by rw [if_pos ⟨h10, h19⟩, Int.toNat_natCast]; unfold bi; split <;> omega⟩
        · refine r_iload_n dX9_isOf_39 rfl ?_
          refine r_iconst dX9_isOf_40 ?_
          refine r_icmpne (tgt := 58) dX9_isOf_41 rfl (by first | exact hR _ (Nat.le_of_ble_eq_true rfl) _ | omega) (by first | exact hR _ (Nat.le_of_ble_eq_true rfl) _ | omega) (fun h41 => ?_) (fun h41 => ?_)
          · refine r_iconst dX9_isOf_58 ?_
            exact r_ireti dX9_isOf_59 rfl ⟨_, rfl, rfl, by rw [if_pos ⟨h10, h19⟩, Int.toNat_natCast]; unfold bi; split <;> omega⟩
          · refine r_aloadk_n dX9_isOf_44 rfl ?_
            refine r_getr dX9_isOf_45 fl_X9_36 rfl rfl (hs.lt rfl) (hs.rf rfl) ?_
            refine r_iload_n dX9_isOf_48 rfl ?_
            refine r_iald dX9_isOf_49 rfl (hs.lt rfl) rfl (by omega) ?_
            refine r_iconst dX9_isOf_50 ?_
            refine r_icmpne (tgt := 58) dX9_isOf_51 rfl (by first | exact hR _ (Nat.le_of_ble_eq_true rfl) _ | omega) (by first | exact hR _ (Nat.le_of_ble_eq_true rfl) _ | omega) (fun h51 => ?_) (fun h51 => ?_)
            · refine r_iconst dX9_isOf_58 ?_
              exact r_ireti dX9_isOf_59 rfl ⟨_, rfl, rfl, by rw [if_pos ⟨h10, h19⟩, Int.toNat_natCast]; unfold bi; split <;> omega⟩
            · refine r_iconst dX9_isOf_54 ?_
              refine r_goto (tgt := 59) dX9_isOf_55 rfl ?_
              exact r_ireti dX9_isOf_59 rfl ⟨_, rfl, rfl, by rw [if_pos ⟨h10, h19⟩, Int.toNat_natCast]; unfold bi; split <;> omega⟩
    · refine r_bipush dX9_isOf_22 ?_
      exact r_ireti dX9_isOf_24 rfl ⟨_, rfl, rfl, by rw [if_neg (by omega)]⟩
theorem m_firstOf (hs : Std n ρ) (hR : Rg σ) (P : Nat) (hP : σ 38 10 = P) (hP8 : P ≤ 8) (k : Int) (hk : R32 k) : RdI l G 0 mX9_firstOf n ρ σ [rf G 38, iv k] (fstN (kindF (σ 45) k) P) := by
  have loop : ∀ (m i : Nat), i + m = P → fstN (kindF (σ 45) k) i = -1 → RW (KI l G 0 mX9_firstOf n ρ (fun σ' z => σ' = σ ∧ z = fstN (kindF (σ 45) k) P)) (0, 0, n, ρ) σ 2 [rf G 38, iv k, iv i] [] := by
    intro m
    induction m with
    | zero =>
      intro i hi hf
      have e : i = P := by omega
      refine r_iload_n dX9_firstOf_2 rfl ?_
      refine r_aloadk_n dX9_firstOf_3 rfl ?_
      refine r_geti dX9_firstOf_4 fl_X9_139 rfl rfl (hs.lt rfl) ?_
      refine r_icmpge (tgt := 28) dX9_firstOf_7 rfl (by first | exact hR _ (Nat.le_of_ble_eq_true rfl) _ | omega) (by first | exact hR _ (Nat.le_of_ble_eq_true rfl) _ | omega) (fun h7 => ?_) (fun h7 => ?_)
      · refine r_iconst dX9_firstOf_28 ?_
        exact r_ireti dX9_firstOf_29 rfl ⟨_, rfl, rfl, by rw [← e, hf]⟩
      · omega
    | succ m ih =>
      intro i hi hf
      refine r_iload_n dX9_firstOf_2 rfl ?_
      refine r_aloadk_n dX9_firstOf_3 rfl ?_
      refine r_geti dX9_firstOf_4 fl_X9_139 rfl rfl (hs.lt rfl) ?_
      refine r_icmpge (tgt := 28) dX9_firstOf_7 rfl (by first | exact hR _ (Nat.le_of_ble_eq_true rfl) _ | omega) (by first | exact hR _ (Nat.le_of_ble_eq_true rfl) _ | omega) (fun h7 => ?_) (fun h7 => ?_)
      · omega
      · refine r_aloadk_n dX9_firstOf_10 rfl ?_
        refine r_getr dX9_firstOf_11 fl_X9_36 rfl rfl (hs.lt rfl) (hs.rf rfl) ?_
        refine r_iload_n dX9_firstOf_14 rfl ?_
        refine r_iald dX9_firstOf_15 rfl (hs.lt rfl) rfl (by omega) ?_
        refine r_iload_n dX9_firstOf_16 rfl ?_
        refine r_icmpne (tgt := 22) dX9_firstOf_17 rfl (by first | exact hR _ (Nat.le_of_ble_eq_true rfl) _ | omega) (by first | exact hR _ (Nat.le_of_ble_eq_true rfl) _ | omega) (fun h17 => ?_) (fun h17 => ?_)
        · refine r_iinc dX9_firstOf_22 (Nat.le_of_ble_eq_true rfl) rfl rfl s2 ?_
          refine r_goto (tgt := 2) dX9_firstOf_25 rfl ?_
          exact ih (i + 1) (by omega) (fstN_miss hf (Bool.eq_false_iff.mpr (fun q => h17 (kindF_t.mp q))))
        · refine r_iload_n dX9_firstOf_20 rfl ?_
          exact r_ireti dX9_firstOf_21 rfl ⟨_, rfl, rfl, (fstN_hit' hf (kindF_t.mpr h17) (by omega)).symm⟩
  refine Ct.of (L0 := [rf G 38, iv k, xx]) (by decide +kernel) (Nat.le_of_ble_eq_true rfl) rfl ?_
  refine r_iconst dX9_firstOf_0 ?_
  refine r_istore_n dX9_firstOf_1 (Nat.le_of_ble_eq_true rfl) rfl s2 ?_
  exact loop P 0 (by omega) rfl
theorem m_claim (hs : Std n ρ) (hJ : JM σ W H P C O) (x1 x2 x3 x4 : Int) (h1 : R32 x1) (h2 : R32 x2) (h3 : R32 x3) (h4 : R32 x4) : CtI l G 2 mX9_claim n ρ σ [rf G 38, iv x1, iv x2, iv x3, iv x4] (fun σ' z => (¬ ((0 ≤ x1 ∧ x1 < (P : Int)) ∧ ((101 ≤ x2 ∧ x2 ≤ 150) ∨ (0 ≤ x2 ∧ x2 < (W * H : Nat))) ∧ (0 ≤ x3 ∧ x3 ≤ 3) ∧ (0 ≤ x4 ∧ x4 ≤ 999)) ∧ z = -3 ∧ σ' = σ) ∨ (((0 ≤ x1 ∧ x1 < (P : Int)) ∧ ((101 ≤ x2 ∧ x2 ≤ 150) ∨ (0 ≤ x2 ∧ x2 < (W * H : Nat))) ∧ (0 ≤ x3 ∧ x3 ≤ 3) ∧ (0 ≤ x4 ∧ x4 ≤ 999)) ∧ ¬ C < 40 ∧ z = -5 ∧ σ' = σ) ∨ (((0 ≤ x1 ∧ x1 < (P : Int)) ∧ ((101 ≤ x2 ∧ x2 ≤ 150) ∨ (0 ≤ x2 ∧ x2 < (W * H : Nat))) ∧ (0 ≤ x3 ∧ x3 ≤ 3) ∧ (0 ≤ x4 ∧ x4 ≤ 999)) ∧ C < 40 ∧ z = C ∧ σ' = sr (sr (sr (sr (sr σ 47 (ud (σ 47) C x1)) 48 (ud (σ 48) C x2)) 49 (ud (σ 49) C x3)) 50 (ud (σ 50) C x4)) 38 (ud (σ 38) 13 (C + 1)))) := by
  obtain ⟨hR, t0, g, j3, j4, j5, j6, j7, j8, j9, j10, j11, j12⟩ := id hJ
  have hle := WH_le g.2.2.1.2 g.2.2.2.2
  have eP := j6.1
  have eP8 := j6.2.1
  have e := j6.2.2.1
  have e4 := j6.2.2.2.1
  refine Ct.of (L0 := [rf G 38, iv x1, iv x2, iv x3, iv x4]) (by decide +kernel) (Nat.le_of_ble_eq_true rfl) rfl ?_
  refine r_aloadk_n dX9_claim_0 rfl ?_
  refine r_iconst dX9_claim_1 ?_
  refine r_puti dX9_claim_2 fl_X9_133 rfl (hs.lt rfl) ?_
  rw [up_id t0]
  refine r_aloadk_n dX9_claim_5 rfl ?_
  refine r_iload_n dX9_claim_6 rfl ?_
  refine q_callVr dX9_claim_7 (m_isPerson hs eP eP8 x1 h1) ml_X9_182 okX9_isPerson rfl rfl (hs.lt rfl) rfl rfl (Nat.le_of_ble_eq_true rfl) (roomOK.of (by decide)) ⟨(Nat.le_of_ble_eq_true rfl), (Nat.le_of_ble_eq_true rfl)⟩ ?_
  refine r_ifeqb (tgt := 50) dX9_claim_10 rfl (fun h10 => ?_) (fun h10 => ?_)
  · refine r_bipush dX9_claim_50 ?_
    exact r_ireti dX9_claim_52 rfl ⟨_, rfl, Or.inl ⟨by omega, rfl, rfl⟩⟩
  · refine r_aloadk_n dX9_claim_13 rfl ?_
    refine r_iload_n dX9_claim_14 rfl ?_
    refine q_callVr dX9_claim_15 (m_isCell hs g x2 h2) ml_X9_156 okX9_isCell rfl rfl (hs.lt rfl) rfl rfl (Nat.le_of_ble_eq_true rfl) (roomOK.of (by decide)) ⟨(Nat.le_of_ble_eq_true rfl), (Nat.le_of_ble_eq_true rfl)⟩ ?_
    refine r_ifneb (tgt := 33) dX9_claim_18 rfl (fun h18 => ?_) (fun h18 => ?_)
    · refine r_iload_n dX9_claim_33 rfl ?_
      refine r_iconst dX9_claim_34 ?_
      refine r_iconst dX9_claim_35 ?_
      refine q_callSr dX9_claim_36 (c_in x3 0 3 h3 (by omega) (by omega)) ml_X9_152 okX9_in rfl rfl (Nat.le_of_ble_eq_true rfl) (roomOK.of (by decide)) ⟨(Nat.le_of_ble_eq_true rfl), (Nat.le_of_ble_eq_true rfl)⟩ ?_
      refine r_ifeqb (tgt := 50) dX9_claim_39 rfl (fun h39 => ?_) (fun h39 => ?_)
      · refine r_bipush dX9_claim_50 ?_
        exact r_ireti dX9_claim_52 rfl ⟨_, rfl, Or.inl ⟨by omega, rfl, rfl⟩⟩
      · refine r_iload dX9_claim_42 rfl ?_
        refine q_callSr dX9_claim_44 (m_isDay x4 h4) ml_X9_185 okX9_isDay rfl rfl (Nat.le_of_ble_eq_true rfl) (roomOK.of (by decide)) ⟨(Nat.le_of_ble_eq_true rfl), (Nat.le_of_ble_eq_true rfl)⟩ ?_
        refine r_ifneb (tgt := 53) dX9_claim_47 rfl (fun h47 => ?_) (fun h47 => ?_)
        · refine r_aloadk_n dX9_claim_53 rfl ?_
          refine r_geti dX9_claim_54 fl_X9_142 rfl rfl (hs.lt rfl) ?_
          refine r_bipush dX9_claim_57 ?_
          refine r_icmpne (tgt := 65) dX9_claim_59 rfl (by first | exact hR _ (Nat.le_of_ble_eq_true rfl) _ | omega) (by first | exact hR _ (Nat.le_of_ble_eq_true rfl) _ | omega) (fun h59 => ?_) (fun h59 => ?_)
          · refine r_aloadk_n dX9_claim_65 rfl ?_
            refine r_getr dX9_claim_66 fl_X9_42 rfl rfl (hs.lt rfl) (hs.rf rfl) ?_
            refine r_aloadk_n dX9_claim_69 rfl ?_
            refine r_geti dX9_claim_70 fl_X9_142 rfl rfl (hs.lt rfl) ?_
            refine show RW _ _ _ _ _ (iv (σ 38 13) :: _) from ?_
            rw [e]
            refine r_iload_n dX9_claim_73 rfl ?_
            refine r_iast dX9_claim_74 rfl (hs.lt rfl) rfl (by omega) ?_
            rw [up_eq_sr]
            refine r_aloadk_n dX9_claim_75 rfl ?_
            refine r_getr dX9_claim_76 fl_X9_45 rfl rfl (hs.lt rfl) (hs.rf rfl) ?_
            refine r_aloadk_n dX9_claim_79 rfl ?_
            refine r_geti dX9_claim_80 fl_X9_142 rfl rfl (hs.lt rfl) ?_
            refine show RW _ _ _ _ _ (iv (σ 38 13) :: _) from ?_
            rw [e]
            refine r_iload_n dX9_claim_83 rfl ?_
            refine r_iast dX9_claim_84 rfl (hs.lt rfl) rfl (by omega) ?_
            rw [up_eq_sr]
            refine r_aloadk_n dX9_claim_85 rfl ?_
            refine r_getr dX9_claim_86 fl_X9_48 rfl rfl (hs.lt rfl) (hs.rf rfl) ?_
            refine r_aloadk_n dX9_claim_89 rfl ?_
            refine r_geti dX9_claim_90 fl_X9_142 rfl rfl (hs.lt rfl) ?_
            refine show RW _ _ _ _ _ (iv (σ 38 13) :: _) from ?_
            rw [e]
            refine r_iload_n dX9_claim_93 rfl ?_
            refine r_iast dX9_claim_94 rfl (hs.lt rfl) rfl (by omega) ?_
            rw [up_eq_sr]
            refine r_aloadk_n dX9_claim_95 rfl ?_
            refine r_getr dX9_claim_96 fl_X9_51 rfl rfl (hs.lt rfl) (hs.rf rfl) ?_
            refine r_aloadk_n dX9_claim_99 rfl ?_
            refine r_geti dX9_claim_100 fl_X9_142 rfl rfl (hs.lt rfl) ?_
            refine show RW _ _ _ _ _ (iv (σ 38 13) :: _) from ?_
            rw [e]
            refine r_iload dX9_claim_103 rfl ?_
            refine r_iast dX9_claim_105 rfl (hs.lt rfl) rfl (by omega) ?_
            rw [up_eq_sr]
            refine r_aloadk_n dX9_claim_106 rfl ?_
            refine r_dup dX9_claim_107 rfl ?_
            refine r_geti dX9_claim_108 fl_X9_142 rfl rfl (hs.lt rfl) ?_
            refine show RW _ _ _ _ _ (iv (σ 38 13) :: _) from ?_
            rw [e]
            refine r_iconst dX9_claim_111 ?_
            refine r_iadd dX9_claim_112 ?_
            refine r_puti dX9_claim_113 fl_X9_142 rfl (hs.lt rfl) ?_
            rw [up_eq_sr]
            refine r_aloadk_n dX9_claim_116 rfl ?_
            refine r_geti dX9_claim_117 fl_X9_142 rfl rfl (hs.lt rfl) ?_
            refine show RW _ _ _ _ _ (iv ((C : Int) + 1) :: _) from ?_
            refine r_iconst dX9_claim_120 ?_
            refine r_isub dX9_claim_121 ?_
            exact r_ireti dX9_claim_122 rfl ⟨_, rfl, Or.inr (Or.inr ⟨⟨h10, by first | exact Or.inl h30 | exact Or.inr h18, h39, h47⟩, by omega, by omega, rfl⟩)⟩
          · refine r_bipush dX9_claim_62 ?_
            exact r_ireti dX9_claim_64 rfl ⟨_, rfl, Or.inr (Or.inl ⟨⟨h10, by first | exact Or.inl h30 | exact Or.inr h18, h39, h47⟩, by omega, rfl, rfl⟩)⟩
        · refine r_bipush dX9_claim_50 ?_
          exact r_ireti dX9_claim_52 rfl ⟨_, rfl, Or.inl ⟨by omega, rfl, rfl⟩⟩
    · refine r_iload_n dX9_claim_21 rfl ?_
      refine r_bipush dX9_claim_22 ?_
      refine r_sipush dX9_claim_24 ?_
      refine q_callSr dX9_claim_27 (c_in x2 101 150 h2 (by omega) (by omega)) ml_X9_152 okX9_in rfl rfl (Nat.le_of_ble_eq_true rfl) (roomOK.of (by decide)) ⟨(Nat.le_of_ble_eq_true rfl), (Nat.le_of_ble_eq_true rfl)⟩ ?_
      refine r_ifeqb (tgt := 50) dX9_claim_30 rfl (fun h30 => ?_) (fun h30 => ?_)
      · refine r_bipush dX9_claim_50 ?_
        exact r_ireti dX9_claim_52 rfl ⟨_, rfl, Or.inl ⟨by omega, rfl, rfl⟩⟩
      · refine r_iload_n dX9_claim_33 rfl ?_
        refine r_iconst dX9_claim_34 ?_
        refine r_iconst dX9_claim_35 ?_
        refine q_callSr dX9_claim_36 (c_in x3 0 3 h3 (by omega) (by omega)) ml_X9_152 okX9_in rfl rfl (Nat.le_of_ble_eq_true rfl) (roomOK.of (by decide)) ⟨(Nat.le_of_ble_eq_true rfl), (Nat.le_of_ble_eq_true rfl)⟩ ?_
        refine r_ifeqb (tgt := 50) dX9_claim_39 rfl (fun h39 => ?_) (fun h39 => ?_)
        · refine r_bipush dX9_claim_50 ?_
          exact r_ireti dX9_claim_52 rfl ⟨_, rfl, Or.inl ⟨by omega, rfl, rfl⟩⟩
        · refine r_iload dX9_claim_42 rfl ?_
          refine q_callSr dX9_claim_44 (m_isDay x4 h4) ml_X9_185 okX9_isDay rfl rfl (Nat.le_of_ble_eq_true rfl) (roomOK.of (by decide)) ⟨(Nat.le_of_ble_eq_true rfl), (Nat.le_of_ble_eq_true rfl)⟩ ?_
          refine r_ifneb (tgt := 53) dX9_claim_47 rfl (fun h47 => ?_) (fun h47 => ?_)
          · refine r_aloadk_n dX9_claim_53 rfl ?_
            refine r_geti dX9_claim_54 fl_X9_142 rfl rfl (hs.lt rfl) ?_
            refine r_bipush dX9_claim_57 ?_
            refine r_icmpne (tgt := 65) dX9_claim_59 rfl (by first | exact hR _ (Nat.le_of_ble_eq_true rfl) _ | omega) (by first | exact hR _ (Nat.le_of_ble_eq_true rfl) _ | omega) (fun h59 => ?_) (fun h59 => ?_)
            · refine r_aloadk_n dX9_claim_65 rfl ?_
              refine r_getr dX9_claim_66 fl_X9_42 rfl rfl (hs.lt rfl) (hs.rf rfl) ?_
              refine r_aloadk_n dX9_claim_69 rfl ?_
              refine r_geti dX9_claim_70 fl_X9_142 rfl rfl (hs.lt rfl) ?_
              refine show RW _ _ _ _ _ (iv (σ 38 13) :: _) from ?_
              rw [e]
              refine r_iload_n dX9_claim_73 rfl ?_
              refine r_iast dX9_claim_74 rfl (hs.lt rfl) rfl (by omega) ?_
              rw [up_eq_sr]
              refine r_aloadk_n dX9_claim_75 rfl ?_
              refine r_getr dX9_claim_76 fl_X9_45 rfl rfl (hs.lt rfl) (hs.rf rfl) ?_
              refine r_aloadk_n dX9_claim_79 rfl ?_
              refine r_geti dX9_claim_80 fl_X9_142 rfl rfl (hs.lt rfl) ?_
              refine show RW _ _ _ _ _ (iv (σ 38 13) :: _) from ?_
              rw [e]
              refine r_iload_n dX9_claim_83 rfl ?_
              refine r_iast dX9_claim_84 rfl (hs.lt rfl) rfl (by omega) ?_
              rw [up_eq_sr]
              refine r_aloadk_n dX9_claim_85 rfl ?_
              refine r_getr dX9_claim_86 fl_X9_48 rfl rfl (hs.lt rfl) (hs.rf rfl) ?_
              refine r_aloadk_n dX9_claim_89 rfl ?_
              refine r_geti dX9_claim_90 fl_X9_142 rfl rfl (hs.lt rfl) ?_
              refine show RW _ _ _ _ _ (iv (σ 38 13) :: _) from ?_
              rw [e]
              refine r_iload_n dX9_claim_93 rfl ?_
              refine r_iast dX9_claim_94 rfl (hs.lt rfl) rfl (by omega) ?_
              rw [up_eq_sr]
              refine r_aloadk_n dX9_claim_95 rfl ?_
              refine r_getr dX9_claim_96 fl_X9_51 rfl rfl (hs.lt rfl) (hs.rf rfl) ?_
              refine r_aloadk_n dX9_claim_99 rfl ?_
              refine r_geti dX9_claim_100 fl_X9_142 rfl rfl (hs.lt rfl) ?_
              refine show RW _ _ _ _ _ (iv (σ 38 13) :: _) from ?_
              rw [e]
              refine r_iload dX9_claim_103 rfl ?_
              refine r_iast dX9_claim_105 rfl (hs.lt rfl) rfl (by omega) ?_
              rw [up_eq_sr]
              refine r_aloadk_n dX9_claim_106 rfl ?_
              refine r_dup dX9_claim_107 rfl ?_
              refine r_geti dX9_claim_108 fl_X9_142 rfl rfl (hs.lt rfl) ?_
              refine show RW _ _ _ _ _ (iv (σ 38 13) :: _) from ?_
              rw [e]
              refine r_iconst dX9_claim_111 ?_
              refine r_iadd dX9_claim_112 ?_
              refine r_puti dX9_claim_113 fl_X9_142 rfl (hs.lt rfl) ?_
              rw [up_eq_sr]
              refine r_aloadk_n dX9_claim_116 rfl ?_
              refine r_geti dX9_claim_117 fl_X9_142 rfl rfl (hs.lt rfl) ?_
              refine show RW _ _ _ _ _ (iv ((C : Int) + 1) :: _) from ?_
              refine r_iconst dX9_claim_120 ?_
              refine r_isub dX9_claim_121 ?_
              exact r_ireti dX9_claim_122 rfl ⟨_, rfl, Or.inr (Or.inr ⟨⟨h10, by first | exact Or.inl h30 | exact Or.inr h18, h39, h47⟩, by omega, by omega, rfl⟩)⟩
            · refine r_bipush dX9_claim_62 ?_
              exact r_ireti dX9_claim_64 rfl ⟨_, rfl, Or.inr (Or.inl ⟨⟨h10, by first | exact Or.inl h30 | exact Or.inr h18, h39, h47⟩, by omega, rfl, rfl⟩)⟩
          · refine r_bipush dX9_claim_50 ?_
            exact r_ireti dX9_claim_52 rfl ⟨_, rfl, Or.inl ⟨by omega, rfl, rfl⟩⟩
theorem m_withdraw (hs : Std n ρ) (hJ : JM σ W H P C O) : CtI l G 0 mX9_withdraw n ρ σ [rf G 38] (fun σ' z => (C = 0 ∧ z = -4 ∧ σ' = σ) ∨ (¬ C = 0 ∧ z = C - 1 ∧ σ' = up σ 38 13 (C - 1))) := by
  obtain ⟨hR, t0, g, j3, j4, j5, j6, j7, j8, j9, j10, j11, j12⟩ := id hJ
  have eC := j6.2.2.1
  have e2 : up σ 38 13 (σ 38 13 - 1) 38 13 = (C : Int) - 1 := by rw [up_same, eC]
  refine Ct.of (L0 := [rf G 38]) (by decide +kernel) (Nat.le_of_ble_eq_true rfl) rfl ?_
  refine r_aloadk_n dX9_withdraw_0 rfl ?_
  refine r_iconst dX9_withdraw_1 ?_
  refine r_puti dX9_withdraw_2 fl_X9_133 rfl (hs.lt rfl) ?_
  rw [up_id t0]
  refine r_aloadk_n dX9_withdraw_5 rfl ?_
  refine r_geti dX9_withdraw_6 fl_X9_142 rfl rfl (hs.lt rfl) ?_
  refine r_ifne (tgt := 15) dX9_withdraw_9 rfl (by first | exact hR _ (Nat.le_of_ble_eq_true rfl) _ | omega) (fun h9 => ?_) (fun h9 => ?_)
  · refine r_aloadk_n dX9_withdraw_15 rfl ?_
    refine r_dup dX9_withdraw_16 rfl ?_
    refine r_geti dX9_withdraw_17 fl_X9_142 rfl rfl (hs.lt rfl) ?_
    refine r_iconst dX9_withdraw_20 ?_
    refine r_isub dX9_withdraw_21 ?_
    refine r_puti dX9_withdraw_22 fl_X9_142 rfl (hs.lt rfl) ?_
    refine r_aloadk_n dX9_withdraw_25 rfl ?_
    refine r_geti dX9_withdraw_26 fl_X9_142 rfl rfl (hs.lt rfl) ?_
    exact r_ireti dX9_withdraw_29 rfl ⟨_, rfl, Or.inr ⟨by omega, e2, by rw [eC]⟩⟩
  · refine r_bipush dX9_withdraw_12 ?_
    exact r_ireti dX9_withdraw_14 rfl ⟨_, rfl, Or.inl ⟨by omega, rfl, rfl⟩⟩
theorem m_object (hs : Std n ρ) (hJ : JM σ W H P C O) (x1 x2 x3 : Int) (h1 : R32 x1) (h2 : R32 x2) (h3 : R32 x3) : CtI l G 2 mX9_object n ρ σ [rf G 38, iv x1, iv x2, iv x3] (fun σ' z => (¬ ((0 ≤ x1 ∧ x1 < (P : Int)) ∧ (0 ≤ x2 ∧ x2 < (W * H : Nat)) ∧ (0 ≤ x3 ∧ x3 ≤ 999)) ∧ z = -3 ∧ σ' = σ) ∨ (((0 ≤ x1 ∧ x1 < (P : Int)) ∧ (0 ≤ x2 ∧ x2 < (W * H : Nat)) ∧ (0 ≤ x3 ∧ x3 ≤ 999)) ∧ ¬ O < 20 ∧ z = -5 ∧ σ' = σ) ∨ (((0 ≤ x1 ∧ x1 < (P : Int)) ∧ (0 ≤ x2 ∧ x2 < (W * H : Nat)) ∧ (0 ≤ x3 ∧ x3 ≤ 999)) ∧ O < 20 ∧ z = O ∧ σ' = sr (sr (sr (sr σ 51 (ud (σ 51) O x1)) 52 (ud (σ 52) O x2)) 53 (ud (σ 53) O x3)) 38 (ud (σ 38) 18 (O + 1)))) := by
  obtain ⟨hR, t0, g, j3, j4, j5, j6, j7, j8, j9, j10, j11, j12⟩ := id hJ
  have hle := WH_le g.2.2.1.2 g.2.2.2.2
  have eP := j6.1
  have eP8 := j6.2.1
  have e := j6.2.2.2.2.1
  have e4 := j6.2.2.2.2.2.1
  refine Ct.of (L0 := [rf G 38, iv x1, iv x2, iv x3]) (by decide +kernel) (Nat.le_of_ble_eq_true rfl) rfl ?_
  refine r_aloadk_n dX9_object_0 rfl ?_
  refine r_iconst dX9_object_1 ?_
  refine r_puti dX9_object_2 fl_X9_133 rfl (hs.lt rfl) ?_
  rw [up_id t0]
  refine r_aloadk_n dX9_object_5 rfl ?_
  refine r_iload_n dX9_object_6 rfl ?_
  refine q_callVr dX9_object_7 (m_isPerson hs eP eP8 x1 h1) ml_X9_182 okX9_isPerson rfl rfl (hs.lt rfl) rfl rfl (Nat.le_of_ble_eq_true rfl) (roomOK.of (by decide)) ⟨(Nat.le_of_ble_eq_true rfl), (Nat.le_of_ble_eq_true rfl)⟩ ?_
  refine r_ifeqb (tgt := 28) dX9_object_10 rfl (fun h10 => ?_) (fun h10 => ?_)
  · refine r_bipush dX9_object_28 ?_
    exact r_ireti dX9_object_30 rfl ⟨_, rfl, Or.inl ⟨by omega, rfl, rfl⟩⟩
  · refine r_aloadk_n dX9_object_13 rfl ?_
    refine r_iload_n dX9_object_14 rfl ?_
    refine q_callVr dX9_object_15 (m_isCell hs g x2 h2) ml_X9_156 okX9_isCell rfl rfl (hs.lt rfl) rfl rfl (Nat.le_of_ble_eq_true rfl) (roomOK.of (by decide)) ⟨(Nat.le_of_ble_eq_true rfl), (Nat.le_of_ble_eq_true rfl)⟩ ?_
    refine r_ifeqb (tgt := 28) dX9_object_18 rfl (fun h18 => ?_) (fun h18 => ?_)
    · refine r_bipush dX9_object_28 ?_
      exact r_ireti dX9_object_30 rfl ⟨_, rfl, Or.inl ⟨by omega, rfl, rfl⟩⟩
    · refine r_iload_n dX9_object_21 rfl ?_
      refine q_callSr dX9_object_22 (m_isDay x3 h3) ml_X9_185 okX9_isDay rfl rfl (Nat.le_of_ble_eq_true rfl) (roomOK.of (by decide)) ⟨(Nat.le_of_ble_eq_true rfl), (Nat.le_of_ble_eq_true rfl)⟩ ?_
      refine r_ifneb (tgt := 31) dX9_object_25 rfl (fun h25 => ?_) (fun h25 => ?_)
      · refine r_aloadk_n dX9_object_31 rfl ?_
        refine r_geti dX9_object_32 fl_X9_145 rfl rfl (hs.lt rfl) ?_
        refine r_bipush dX9_object_35 ?_
        refine r_icmpne (tgt := 43) dX9_object_37 rfl (by first | exact hR _ (Nat.le_of_ble_eq_true rfl) _ | omega) (by first | exact hR _ (Nat.le_of_ble_eq_true rfl) _ | omega) (fun h37 => ?_) (fun h37 => ?_)
        · refine r_aloadk_n dX9_object_43 rfl ?_
          refine r_getr dX9_object_44 fl_X9_54 rfl rfl (hs.lt rfl) (hs.rf rfl) ?_
          refine r_aloadk_n dX9_object_47 rfl ?_
          refine r_geti dX9_object_48 fl_X9_145 rfl rfl (hs.lt rfl) ?_
          refine show RW _ _ _ _ _ (iv (σ 38 18) :: _) from ?_
          rw [e]
          refine r_iload_n dX9_object_51 rfl ?_
          refine r_iast dX9_object_52 rfl (hs.lt rfl) rfl (by omega) ?_
          rw [up_eq_sr]
          refine r_aloadk_n dX9_object_53 rfl ?_
          refine r_getr dX9_object_54 fl_X9_57 rfl rfl (hs.lt rfl) (hs.rf rfl) ?_
          refine r_aloadk_n dX9_object_57 rfl ?_
          refine r_geti dX9_object_58 fl_X9_145 rfl rfl (hs.lt rfl) ?_
          refine show RW _ _ _ _ _ (iv (σ 38 18) :: _) from ?_
          rw [e]
          refine r_iload_n dX9_object_61 rfl ?_
          refine r_iast dX9_object_62 rfl (hs.lt rfl) rfl (by omega) ?_
          rw [up_eq_sr]
          refine r_aloadk_n dX9_object_63 rfl ?_
          refine r_getr dX9_object_64 fl_X9_60 rfl rfl (hs.lt rfl) (hs.rf rfl) ?_
          refine r_aloadk_n dX9_object_67 rfl ?_
          refine r_geti dX9_object_68 fl_X9_145 rfl rfl (hs.lt rfl) ?_
          refine show RW _ _ _ _ _ (iv (σ 38 18) :: _) from ?_
          rw [e]
          refine r_iload_n dX9_object_71 rfl ?_
          refine r_iast dX9_object_72 rfl (hs.lt rfl) rfl (by omega) ?_
          rw [up_eq_sr]
          refine r_aloadk_n dX9_object_73 rfl ?_
          refine r_dup dX9_object_74 rfl ?_
          refine r_geti dX9_object_75 fl_X9_145 rfl rfl (hs.lt rfl) ?_
          refine show RW _ _ _ _ _ (iv (σ 38 18) :: _) from ?_
          rw [e]
          refine r_iconst dX9_object_78 ?_
          refine r_iadd dX9_object_79 ?_
          refine r_puti dX9_object_80 fl_X9_145 rfl (hs.lt rfl) ?_
          rw [up_eq_sr]
          refine r_aloadk_n dX9_object_83 rfl ?_
          refine r_geti dX9_object_84 fl_X9_145 rfl rfl (hs.lt rfl) ?_
          refine show RW _ _ _ _ _ (iv ((O : Int) + 1) :: _) from ?_
          refine r_iconst dX9_object_87 ?_
          refine r_isub dX9_object_88 ?_
          exact r_ireti dX9_object_89 rfl ⟨_, rfl, Or.inr (Or.inr ⟨⟨h10, h18, h25⟩, by omega, by omega, rfl⟩)⟩
        · refine r_bipush dX9_object_40 ?_
          exact r_ireti dX9_object_42 rfl ⟨_, rfl, Or.inr (Or.inl ⟨⟨h10, h18, h25⟩, by omega, rfl, rfl⟩)⟩
      · refine r_bipush dX9_object_28 ?_
        exact r_ireti dX9_object_30 rfl ⟨_, rfl, Or.inl ⟨by omega, rfl, rfl⟩⟩
set_option maxHeartbeats 4000000 in
theorem m_rule (hs : Std n ρ) (hJ : JM σ W H P C O) (x1 x2 : Int) (h1 : R32 x1) (h2 : R32 x2) : CtI l G 1 mX9_rule n ρ σ [rf G 38, iv x1, iv x2] (fun σ' z => (¬ ((0 ≤ x1 ∧ x1 ≤ 4) ∧ (0 ≤ x2 ∧ x2 ≤ mostRule x1.toNat)) ∧ z = -3 ∧ σ' = σ) ∨ (((0 ≤ x1 ∧ x1 ≤ 4) ∧ (0 ≤ x2 ∧ x2 ≤ mostRule x1.toNat)) ∧ z = σ 38 (22 + x1.toNat) ∧ σ' = up σ 38 (22 + x1.toNat) x2)) := by
  obtain ⟨hR, t0, g, j3, j4, j5, j6, j7, j8, j9, j10, j11, j12⟩ := id hJ
  have hm : ∀ w, R32 (mostRule w) := fun w => by unfold mostRule; split <;> omega
  generalize hQ : (fun (σ' : Si) (z : Int) => (¬ ((0 ≤ x1 ∧ x1 ≤ 4) ∧ (0 ≤ x2 ∧ x2 ≤ mostRule x1.toNat)) ∧ z = -3 ∧ σ' = σ) ∨ (((0 ≤ x1 ∧ x1 ≤ 4) ∧ (0 ≤ x2 ∧ x2 ≤ mostRule x1.toNat)) ∧ z = σ 38 (22 + x1.toNat) ∧ σ' = up σ 38 (22 + x1.toNat) x2)) = Q
  have R0 : ∀ mx : Int, x1 = 0 → 0 ≤ x2 ∧ x2 ≤ mostRule 0 → RW (KI l G 1 mX9_rule n ρ Q) (0, 0, n, ρ) σ 61 [rf G 38, iv x1, iv x2, iv mx, xx] [] := by
    intro mx e hv
    refine r_iload_n dX9_rule_61 rfl ?_
    refine r_ifne (tgt := 72) dX9_rule_62 rfl (by first | exact hR _ (Nat.le_of_ble_eq_true rfl) _ | omega) (fun h62 => ?_) (fun h62 => ?_)
    · omega
    · refine r_aloadk_n dX9_rule_65 rfl ?_
      refine r_geti dX9_rule_66 fl_X9_63 rfl rfl (hs.lt rfl) ?_
      refine r_goto (tgt := 112) dX9_rule_69 rfl ?_
      refine r_istore dX9_rule_112 (Nat.le_of_ble_eq_true rfl) rfl s4 ?_
      refine r_aloadk_n dX9_rule_114 rfl ?_
      refine r_iload_n dX9_rule_115 rfl ?_
      refine r_ifne (tgt := 123) dX9_rule_116 rfl (by first | exact hR _ (Nat.le_of_ble_eq_true rfl) _ | omega) (fun h116 => ?_) (fun h116 => ?_)
      · omega
      · refine r_iload_n dX9_rule_119 rfl ?_
        refine r_goto (tgt := 127) dX9_rule_120 rfl ?_
        refine r_puti dX9_rule_127 fl_X9_63 rfl (hs.lt rfl) ?_
        try rw [up_id (k := 38) (j := 22) rfl]
        refine r_aloadk_n dX9_rule_130 rfl ?_
        refine r_iload_n dX9_rule_131 rfl ?_
        refine r_iconst dX9_rule_132 ?_
        refine r_icmpne (tgt := 140) dX9_rule_133 rfl (by first | exact hR _ (Nat.le_of_ble_eq_true rfl) _ | omega) (by first | exact hR _ (Nat.le_of_ble_eq_true rfl) _ | omega) (fun h133 => ?_) (fun h133 => ?_)
        · refine r_aloadk_n dX9_rule_140 rfl ?_
          refine r_geti dX9_rule_141 fl_X9_66 rfl rfl (hs.lt rfl) ?_
          refine r_puti dX9_rule_144 fl_X9_66 rfl (hs.lt rfl) ?_
          try rw [up_id (k := 38) (j := 23) rfl]
          refine r_aloadk_n dX9_rule_147 rfl ?_
          refine r_iload_n dX9_rule_148 rfl ?_
          refine r_iconst dX9_rule_149 ?_
          refine r_icmpne (tgt := 157) dX9_rule_150 rfl (by first | exact hR _ (Nat.le_of_ble_eq_true rfl) _ | omega) (by first | exact hR _ (Nat.le_of_ble_eq_true rfl) _ | omega) (fun h150 => ?_) (fun h150 => ?_)
          · refine r_aloadk_n dX9_rule_157 rfl ?_
            refine r_geti dX9_rule_158 fl_X9_188 rfl rfl (hs.lt rfl) ?_
            refine r_puti dX9_rule_161 fl_X9_188 rfl (hs.lt rfl) ?_
            try rw [up_id (k := 38) (j := 24) rfl]
            refine r_aloadk_n dX9_rule_164 rfl ?_
            refine r_iload_n dX9_rule_165 rfl ?_
            refine r_iconst dX9_rule_166 ?_
            refine r_icmpne (tgt := 174) dX9_rule_167 rfl (by first | exact hR _ (Nat.le_of_ble_eq_true rfl) _ | omega) (by first | exact hR _ (Nat.le_of_ble_eq_true rfl) _ | omega) (fun h167 => ?_) (fun h167 => ?_)
            · refine r_aloadk_n dX9_rule_174 rfl ?_
              refine r_geti dX9_rule_175 fl_X9_191 rfl rfl (hs.lt rfl) ?_
              refine r_puti dX9_rule_178 fl_X9_191 rfl (hs.lt rfl) ?_
              try rw [up_id (k := 38) (j := 25) rfl]
              refine r_aloadk_n dX9_rule_181 rfl ?_
              refine r_iload_n dX9_rule_182 rfl ?_
              refine r_iconst dX9_rule_183 ?_
              refine r_icmpne (tgt := 191) dX9_rule_184 rfl (by first | exact hR _ (Nat.le_of_ble_eq_true rfl) _ | omega) (by first | exact hR _ (Nat.le_of_ble_eq_true rfl) _ | omega) (fun h184 => ?_) (fun h184 => ?_)
              · refine r_aloadk_n dX9_rule_191 rfl ?_
                refine r_geti dX9_rule_192 fl_X9_69 rfl rfl (hs.lt rfl) ?_
                refine r_puti dX9_rule_195 fl_X9_69 rfl (hs.lt rfl) ?_
                try rw [up_id (k := 38) (j := 26) rfl]
                refine r_iload dX9_rule_198 rfl ?_
                exact r_ireti dX9_rule_200 rfl ⟨_, rfl, by rw [← hQ]; exact Or.inr ⟨⟨by omega, by rw [e]; exact hv⟩, by rw [e]; rfl, by rw [e]; rfl⟩⟩
              · omega
            · omega
          · omega
        · omega
  have R1 : ∀ mx : Int, x1 = 1 → 0 ≤ x2 ∧ x2 ≤ mostRule 1 → RW (KI l G 1 mX9_rule n ρ Q) (0, 0, n, ρ) σ 61 [rf G 38, iv x1, iv x2, iv mx, xx] [] := by
    intro mx e hv
    refine r_iload_n dX9_rule_61 rfl ?_
    refine r_ifne (tgt := 72) dX9_rule_62 rfl (by first | exact hR _ (Nat.le_of_ble_eq_true rfl) _ | omega) (fun h62 => ?_) (fun h62 => ?_)
    · refine r_iload_n dX9_rule_72 rfl ?_
      refine r_iconst dX9_rule_73 ?_
      refine r_icmpne (tgt := 84) dX9_rule_74 rfl (by first | exact hR _ (Nat.le_of_ble_eq_true rfl) _ | omega) (by first | exact hR _ (Nat.le_of_ble_eq_true rfl) _ | omega) (fun h74 => ?_) (fun h74 => ?_)
      · omega
      · refine r_aloadk_n dX9_rule_77 rfl ?_
        refine r_geti dX9_rule_78 fl_X9_66 rfl rfl (hs.lt rfl) ?_
        refine r_goto (tgt := 112) dX9_rule_81 rfl ?_
        refine r_istore dX9_rule_112 (Nat.le_of_ble_eq_true rfl) rfl s4 ?_
        refine r_aloadk_n dX9_rule_114 rfl ?_
        refine r_iload_n dX9_rule_115 rfl ?_
        refine r_ifne (tgt := 123) dX9_rule_116 rfl (by first | exact hR _ (Nat.le_of_ble_eq_true rfl) _ | omega) (fun h116 => ?_) (fun h116 => ?_)
        · refine r_aloadk_n dX9_rule_123 rfl ?_
          refine r_geti dX9_rule_124 fl_X9_63 rfl rfl (hs.lt rfl) ?_
          refine r_puti dX9_rule_127 fl_X9_63 rfl (hs.lt rfl) ?_
          try rw [up_id (k := 38) (j := 22) rfl]
          refine r_aloadk_n dX9_rule_130 rfl ?_
          refine r_iload_n dX9_rule_131 rfl ?_
          refine r_iconst dX9_rule_132 ?_
          refine r_icmpne (tgt := 140) dX9_rule_133 rfl (by first | exact hR _ (Nat.le_of_ble_eq_true rfl) _ | omega) (by first | exact hR _ (Nat.le_of_ble_eq_true rfl) _ | omega) (fun h133 => ?_) (fun h133 => ?_)
          · omega
          · refine r_iload_n dX9_rule_136 rfl ?_
            refine r_goto (tgt := 144) dX9_rule_137 rfl ?_
            refine r_puti dX9_rule_144 fl_X9_66 rfl (hs.lt rfl) ?_
            try rw [up_id (k := 38) (j := 23) rfl]
            refine r_aloadk_n dX9_rule_147 rfl ?_
            refine r_iload_n dX9_rule_148 rfl ?_
            refine r_iconst dX9_rule_149 ?_
            refine r_icmpne (tgt := 157) dX9_rule_150 rfl (by first | exact hR _ (Nat.le_of_ble_eq_true rfl) _ | omega) (by first | exact hR _ (Nat.le_of_ble_eq_true rfl) _ | omega) (fun h150 => ?_) (fun h150 => ?_)
            · refine r_aloadk_n dX9_rule_157 rfl ?_
              refine r_geti dX9_rule_158 fl_X9_188 rfl rfl (hs.lt rfl) ?_
              refine r_puti dX9_rule_161 fl_X9_188 rfl (hs.lt rfl) ?_
              try rw [up_id (k := 38) (j := 24) rfl]
              refine r_aloadk_n dX9_rule_164 rfl ?_
              refine r_iload_n dX9_rule_165 rfl ?_
              refine r_iconst dX9_rule_166 ?_
              refine r_icmpne (tgt := 174) dX9_rule_167 rfl (by first | exact hR _ (Nat.le_of_ble_eq_true rfl) _ | omega) (by first | exact hR _ (Nat.le_of_ble_eq_true rfl) _ | omega) (fun h167 => ?_) (fun h167 => ?_)
              · refine r_aloadk_n dX9_rule_174 rfl ?_
                refine r_geti dX9_rule_175 fl_X9_191 rfl rfl (hs.lt rfl) ?_
                refine r_puti dX9_rule_178 fl_X9_191 rfl (hs.lt rfl) ?_
                try rw [up_id (k := 38) (j := 25) rfl]
                refine r_aloadk_n dX9_rule_181 rfl ?_
                refine r_iload_n dX9_rule_182 rfl ?_
                refine r_iconst dX9_rule_183 ?_
                refine r_icmpne (tgt := 191) dX9_rule_184 rfl (by first | exact hR _ (Nat.le_of_ble_eq_true rfl) _ | omega) (by first | exact hR _ (Nat.le_of_ble_eq_true rfl) _ | omega) (fun h184 => ?_) (fun h184 => ?_)
                · refine r_aloadk_n dX9_rule_191 rfl ?_
                  refine r_geti dX9_rule_192 fl_X9_69 rfl rfl (hs.lt rfl) ?_
                  refine r_puti dX9_rule_195 fl_X9_69 rfl (hs.lt rfl) ?_
                  try rw [up_id (k := 38) (j := 26) rfl]
                  refine r_iload dX9_rule_198 rfl ?_
                  exact r_ireti dX9_rule_200 rfl ⟨_, rfl, by rw [← hQ]; exact Or.inr ⟨⟨by omega, by rw [e]; exact hv⟩, by rw [e]; rfl, by rw [e]; rfl⟩⟩
                · omega
              · omega
            · omega
        · omega
    · omega
  have R2 : ∀ mx : Int, x1 = 2 → 0 ≤ x2 ∧ x2 ≤ mostRule 2 → RW (KI l G 1 mX9_rule n ρ Q) (0, 0, n, ρ) σ 61 [rf G 38, iv x1, iv x2, iv mx, xx] [] := by
    intro mx e hv
    refine r_iload_n dX9_rule_61 rfl ?_
    refine r_ifne (tgt := 72) dX9_rule_62 rfl (by first | exact hR _ (Nat.le_of_ble_eq_true rfl) _ | omega) (fun h62 => ?_) (fun h62 => ?_)
    · refine r_iload_n dX9_rule_72 rfl ?_
      refine r_iconst dX9_rule_73 ?_
      refine r_icmpne (tgt := 84) dX9_rule_74 rfl (by first | exact hR _ (Nat.le_of_ble_eq_true rfl) _ | omega) (by first | exact hR _ (Nat.le_of_ble_eq_true rfl) _ | omega) (fun h74 => ?_) (fun h74 => ?_)
      · refine r_iload_n dX9_rule_84 rfl ?_
        refine r_iconst dX9_rule_85 ?_
        refine r_icmpne (tgt := 96) dX9_rule_86 rfl (by first | exact hR _ (Nat.le_of_ble_eq_true rfl) _ | omega) (by first | exact hR _ (Nat.le_of_ble_eq_true rfl) _ | omega) (fun h86 => ?_) (fun h86 => ?_)
        · omega
        · refine r_aloadk_n dX9_rule_89 rfl ?_
          refine r_geti dX9_rule_90 fl_X9_188 rfl rfl (hs.lt rfl) ?_
          refine r_goto (tgt := 112) dX9_rule_93 rfl ?_
          refine r_istore dX9_rule_112 (Nat.le_of_ble_eq_true rfl) rfl s4 ?_
          refine r_aloadk_n dX9_rule_114 rfl ?_
          refine r_iload_n dX9_rule_115 rfl ?_
          refine r_ifne (tgt := 123) dX9_rule_116 rfl (by first | exact hR _ (Nat.le_of_ble_eq_true rfl) _ | omega) (fun h116 => ?_) (fun h116 => ?_)
          · refine r_aloadk_n dX9_rule_123 rfl ?_
            refine r_geti dX9_rule_124 fl_X9_63 rfl rfl (hs.lt rfl) ?_
            refine r_puti dX9_rule_127 fl_X9_63 rfl (hs.lt rfl) ?_
            try rw [up_id (k := 38) (j := 22) rfl]
            refine r_aloadk_n dX9_rule_130 rfl ?_
            refine r_iload_n dX9_rule_131 rfl ?_
            refine r_iconst dX9_rule_132 ?_
            refine r_icmpne (tgt := 140) dX9_rule_133 rfl (by first | exact hR _ (Nat.le_of_ble_eq_true rfl) _ | omega) (by first | exact hR _ (Nat.le_of_ble_eq_true rfl) _ | omega) (fun h133 => ?_) (fun h133 => ?_)
            · refine r_aloadk_n dX9_rule_140 rfl ?_
              refine r_geti dX9_rule_141 fl_X9_66 rfl rfl (hs.lt rfl) ?_
              refine r_puti dX9_rule_144 fl_X9_66 rfl (hs.lt rfl) ?_
              try rw [up_id (k := 38) (j := 23) rfl]
              refine r_aloadk_n dX9_rule_147 rfl ?_
              refine r_iload_n dX9_rule_148 rfl ?_
              refine r_iconst dX9_rule_149 ?_
              refine r_icmpne (tgt := 157) dX9_rule_150 rfl (by first | exact hR _ (Nat.le_of_ble_eq_true rfl) _ | omega) (by first | exact hR _ (Nat.le_of_ble_eq_true rfl) _ | omega) (fun h150 => ?_) (fun h150 => ?_)
              · omega
              · refine r_iload_n dX9_rule_153 rfl ?_
                refine r_goto (tgt := 161) dX9_rule_154 rfl ?_
                refine r_puti dX9_rule_161 fl_X9_188 rfl (hs.lt rfl) ?_
                try rw [up_id (k := 38) (j := 24) rfl]
                refine r_aloadk_n dX9_rule_164 rfl ?_
                refine r_iload_n dX9_rule_165 rfl ?_
                refine r_iconst dX9_rule_166 ?_
                refine r_icmpne (tgt := 174) dX9_rule_167 rfl (by first | exact hR _ (Nat.le_of_ble_eq_true rfl) _ | omega) (by first | exact hR _ (Nat.le_of_ble_eq_true rfl) _ | omega) (fun h167 => ?_) (fun h167 => ?_)
                · refine r_aloadk_n dX9_rule_174 rfl ?_
                  refine r_geti dX9_rule_175 fl_X9_191 rfl rfl (hs.lt rfl) ?_
                  refine r_puti dX9_rule_178 fl_X9_191 rfl (hs.lt rfl) ?_
                  try rw [up_id (k := 38) (j := 25) rfl]
                  refine r_aloadk_n dX9_rule_181 rfl ?_
                  refine r_iload_n dX9_rule_182 rfl ?_
                  refine r_iconst dX9_rule_183 ?_
                  refine r_icmpne (tgt := 191) dX9_rule_184 rfl (by first | exact hR _ (Nat.le_of_ble_eq_true rfl) _ | omega) (by first | exact hR _ (Nat.le_of_ble_eq_true rfl) _ | omega) (fun h184 => ?_) (fun h184 => ?_)
                  · refine r_aloadk_n dX9_rule_191 rfl ?_
                    refine r_geti dX9_rule_192 fl_X9_69 rfl rfl (hs.lt rfl) ?_
                    refine r_puti dX9_rule_195 fl_X9_69 rfl (hs.lt rfl) ?_
                    try rw [up_id (k := 38) (j := 26) rfl]
                    refine r_iload dX9_rule_198 rfl ?_
                    exact r_ireti dX9_rule_200 rfl ⟨_, rfl, by rw [← hQ]; exact Or.inr ⟨⟨by omega, by rw [e]; exact hv⟩, by rw [e]; rfl, by rw [e]; rfl⟩⟩
                  · omega
                · omega
            · omega
          · omega
      · omega
    · omega
  have R3 : ∀ mx : Int, x1 = 3 → 0 ≤ x2 ∧ x2 ≤ mostRule 3 → RW (KI l G 1 mX9_rule n ρ Q) (0, 0, n, ρ) σ 61 [rf G 38, iv x1, iv x2, iv mx, xx] [] := by
    intro mx e hv
    refine r_iload_n dX9_rule_61 rfl ?_
    refine r_ifne (tgt := 72) dX9_rule_62 rfl (by first | exact hR _ (Nat.le_of_ble_eq_true rfl) _ | omega) (fun h62 => ?_) (fun h62 => ?_)
    · refine r_iload_n dX9_rule_72 rfl ?_
      refine r_iconst dX9_rule_73 ?_
      refine r_icmpne (tgt := 84) dX9_rule_74 rfl (by first | exact hR _ (Nat.le_of_ble_eq_true rfl) _ | omega) (by first | exact hR _ (Nat.le_of_ble_eq_true rfl) _ | omega) (fun h74 => ?_) (fun h74 => ?_)
      · refine r_iload_n dX9_rule_84 rfl ?_
        refine r_iconst dX9_rule_85 ?_
        refine r_icmpne (tgt := 96) dX9_rule_86 rfl (by first | exact hR _ (Nat.le_of_ble_eq_true rfl) _ | omega) (by first | exact hR _ (Nat.le_of_ble_eq_true rfl) _ | omega) (fun h86 => ?_) (fun h86 => ?_)
        · refine r_iload_n dX9_rule_96 rfl ?_
          refine r_iconst dX9_rule_97 ?_
          refine r_icmpne (tgt := 108) dX9_rule_98 rfl (by first | exact hR _ (Nat.le_of_ble_eq_true rfl) _ | omega) (by first | exact hR _ (Nat.le_of_ble_eq_true rfl) _ | omega) (fun h98 => ?_) (fun h98 => ?_)
          · omega
          · refine r_aloadk_n dX9_rule_101 rfl ?_
            refine r_geti dX9_rule_102 fl_X9_191 rfl rfl (hs.lt rfl) ?_
            refine r_goto (tgt := 112) dX9_rule_105 rfl ?_
            refine r_istore dX9_rule_112 (Nat.le_of_ble_eq_true rfl) rfl s4 ?_
            refine r_aloadk_n dX9_rule_114 rfl ?_
            refine r_iload_n dX9_rule_115 rfl ?_
            refine r_ifne (tgt := 123) dX9_rule_116 rfl (by first | exact hR _ (Nat.le_of_ble_eq_true rfl) _ | omega) (fun h116 => ?_) (fun h116 => ?_)
            · refine r_aloadk_n dX9_rule_123 rfl ?_
              refine r_geti dX9_rule_124 fl_X9_63 rfl rfl (hs.lt rfl) ?_
              refine r_puti dX9_rule_127 fl_X9_63 rfl (hs.lt rfl) ?_
              try rw [up_id (k := 38) (j := 22) rfl]
              refine r_aloadk_n dX9_rule_130 rfl ?_
              refine r_iload_n dX9_rule_131 rfl ?_
              refine r_iconst dX9_rule_132 ?_
              refine r_icmpne (tgt := 140) dX9_rule_133 rfl (by first | exact hR _ (Nat.le_of_ble_eq_true rfl) _ | omega) (by first | exact hR _ (Nat.le_of_ble_eq_true rfl) _ | omega) (fun h133 => ?_) (fun h133 => ?_)
              · refine r_aloadk_n dX9_rule_140 rfl ?_
                refine r_geti dX9_rule_141 fl_X9_66 rfl rfl (hs.lt rfl) ?_
                refine r_puti dX9_rule_144 fl_X9_66 rfl (hs.lt rfl) ?_
                try rw [up_id (k := 38) (j := 23) rfl]
                refine r_aloadk_n dX9_rule_147 rfl ?_
                refine r_iload_n dX9_rule_148 rfl ?_
                refine r_iconst dX9_rule_149 ?_
                refine r_icmpne (tgt := 157) dX9_rule_150 rfl (by first | exact hR _ (Nat.le_of_ble_eq_true rfl) _ | omega) (by first | exact hR _ (Nat.le_of_ble_eq_true rfl) _ | omega) (fun h150 => ?_) (fun h150 => ?_)
                · refine r_aloadk_n dX9_rule_157 rfl ?_
                  refine r_geti dX9_rule_158 fl_X9_188 rfl rfl (hs.lt rfl) ?_
                  refine r_puti dX9_rule_161 fl_X9_188 rfl (hs.lt rfl) ?_
                  try rw [up_id (k := 38) (j := 24) rfl]
                  refine r_aloadk_n dX9_rule_164 rfl ?_
                  refine r_iload_n dX9_rule_165 rfl ?_
                  refine r_iconst dX9_rule_166 ?_
                  refine r_icmpne (tgt := 174) dX9_rule_167 rfl (by first | exact hR _ (Nat.le_of_ble_eq_true rfl) _ | omega) (by first | exact hR _ (Nat.le_of_ble_eq_true rfl) _ | omega) (fun h167 => ?_) (fun h167 => ?_)
                  · omega
                  · refine r_iload_n dX9_rule_170 rfl ?_
                    refine r_goto (tgt := 178) dX9_rule_171 rfl ?_
                    refine r_puti dX9_rule_178 fl_X9_191 rfl (hs.lt rfl) ?_
                    try rw [up_id (k := 38) (j := 25) rfl]
                    refine r_aloadk_n dX9_rule_181 rfl ?_
                    refine r_iload_n dX9_rule_182 rfl ?_
                    refine r_iconst dX9_rule_183 ?_
                    refine r_icmpne (tgt := 191) dX9_rule_184 rfl (by first | exact hR _ (Nat.le_of_ble_eq_true rfl) _ | omega) (by first | exact hR _ (Nat.le_of_ble_eq_true rfl) _ | omega) (fun h184 => ?_) (fun h184 => ?_)
                    · refine r_aloadk_n dX9_rule_191 rfl ?_
                      refine r_geti dX9_rule_192 fl_X9_69 rfl rfl (hs.lt rfl) ?_
                      refine r_puti dX9_rule_195 fl_X9_69 rfl (hs.lt rfl) ?_
                      try rw [up_id (k := 38) (j := 26) rfl]
                      refine r_iload dX9_rule_198 rfl ?_
                      exact r_ireti dX9_rule_200 rfl ⟨_, rfl, by rw [← hQ]; exact Or.inr ⟨⟨by omega, by rw [e]; exact hv⟩, by rw [e]; rfl, by rw [e]; rfl⟩⟩
                    · omega
                · omega
              · omega
            · omega
        · omega
      · omega
    · omega
  have R4 : ∀ mx : Int, x1 = 4 → 0 ≤ x2 ∧ x2 ≤ mostRule 4 → RW (KI l G 1 mX9_rule n ρ Q) (0, 0, n, ρ) σ 61 [rf G 38, iv x1, iv x2, iv mx, xx] [] := by
    intro mx e hv
    refine r_iload_n dX9_rule_61 rfl ?_
    refine r_ifne (tgt := 72) dX9_rule_62 rfl (by first | exact hR _ (Nat.le_of_ble_eq_true rfl) _ | omega) (fun h62 => ?_) (fun h62 => ?_)
    · refine r_iload_n dX9_rule_72 rfl ?_
      refine r_iconst dX9_rule_73 ?_
      refine r_icmpne (tgt := 84) dX9_rule_74 rfl (by first | exact hR _ (Nat.le_of_ble_eq_true rfl) _ | omega) (by first | exact hR _ (Nat.le_of_ble_eq_true rfl) _ | omega) (fun h74 => ?_) (fun h74 => ?_)
      · refine r_iload_n dX9_rule_84 rfl ?_
        refine r_iconst dX9_rule_85 ?_
        refine r_icmpne (tgt := 96) dX9_rule_86 rfl (by first | exact hR _ (Nat.le_of_ble_eq_true rfl) _ | omega) (by first | exact hR _ (Nat.le_of_ble_eq_true rfl) _ | omega) (fun h86 => ?_) (fun h86 => ?_)
        · refine r_iload_n dX9_rule_96 rfl ?_
          refine r_iconst dX9_rule_97 ?_
          refine r_icmpne (tgt := 108) dX9_rule_98 rfl (by first | exact hR _ (Nat.le_of_ble_eq_true rfl) _ | omega) (by first | exact hR _ (Nat.le_of_ble_eq_true rfl) _ | omega) (fun h98 => ?_) (fun h98 => ?_)
          · refine r_aloadk_n dX9_rule_108 rfl ?_
            refine r_geti dX9_rule_109 fl_X9_69 rfl rfl (hs.lt rfl) ?_
            refine r_istore dX9_rule_112 (Nat.le_of_ble_eq_true rfl) rfl s4 ?_
            refine r_aloadk_n dX9_rule_114 rfl ?_
            refine r_iload_n dX9_rule_115 rfl ?_
            refine r_ifne (tgt := 123) dX9_rule_116 rfl (by first | exact hR _ (Nat.le_of_ble_eq_true rfl) _ | omega) (fun h116 => ?_) (fun h116 => ?_)
            · refine r_aloadk_n dX9_rule_123 rfl ?_
              refine r_geti dX9_rule_124 fl_X9_63 rfl rfl (hs.lt rfl) ?_
              refine r_puti dX9_rule_127 fl_X9_63 rfl (hs.lt rfl) ?_
              try rw [up_id (k := 38) (j := 22) rfl]
              refine r_aloadk_n dX9_rule_130 rfl ?_
              refine r_iload_n dX9_rule_131 rfl ?_
              refine r_iconst dX9_rule_132 ?_
              refine r_icmpne (tgt := 140) dX9_rule_133 rfl (by first | exact hR _ (Nat.le_of_ble_eq_true rfl) _ | omega) (by first | exact hR _ (Nat.le_of_ble_eq_true rfl) _ | omega) (fun h133 => ?_) (fun h133 => ?_)
              · refine r_aloadk_n dX9_rule_140 rfl ?_
                refine r_geti dX9_rule_141 fl_X9_66 rfl rfl (hs.lt rfl) ?_
                refine r_puti dX9_rule_144 fl_X9_66 rfl (hs.lt rfl) ?_
                try rw [up_id (k := 38) (j := 23) rfl]
                refine r_aloadk_n dX9_rule_147 rfl ?_
                refine r_iload_n dX9_rule_148 rfl ?_
                refine r_iconst dX9_rule_149 ?_
                refine r_icmpne (tgt := 157) dX9_rule_150 rfl (by first | exact hR _ (Nat.le_of_ble_eq_true rfl) _ | omega) (by first | exact hR _ (Nat.le_of_ble_eq_true rfl) _ | omega) (fun h150 => ?_) (fun h150 => ?_)
                · refine r_aloadk_n dX9_rule_157 rfl ?_
                  refine r_geti dX9_rule_158 fl_X9_188 rfl rfl (hs.lt rfl) ?_
                  refine r_puti dX9_rule_161 fl_X9_188 rfl (hs.lt rfl) ?_
                  try rw [up_id (k := 38) (j := 24) rfl]
                  refine r_aloadk_n dX9_rule_164 rfl ?_
                  refine r_iload_n dX9_rule_165 rfl ?_
                  refine r_iconst dX9_rule_166 ?_
                  refine r_icmpne (tgt := 174) dX9_rule_167 rfl (by first | exact hR _ (Nat.le_of_ble_eq_true rfl) _ | omega) (by first | exact hR _ (Nat.le_of_ble_eq_true rfl) _ | omega) (fun h167 => ?_) (fun h167 => ?_)
                  · refine r_aloadk_n dX9_rule_174 rfl ?_
                    refine r_geti dX9_rule_175 fl_X9_191 rfl rfl (hs.lt rfl) ?_
                    refine r_puti dX9_rule_178 fl_X9_191 rfl (hs.lt rfl) ?_
                    try rw [up_id (k := 38) (j := 25) rfl]
                    refine r_aloadk_n dX9_rule_181 rfl ?_
                    refine r_iload_n dX9_rule_182 rfl ?_
                    refine r_iconst dX9_rule_183 ?_
                    refine r_icmpne (tgt := 191) dX9_rule_184 rfl (by first | exact hR _ (Nat.le_of_ble_eq_true rfl) _ | omega) (by first | exact hR _ (Nat.le_of_ble_eq_true rfl) _ | omega) (fun h184 => ?_) (fun h184 => ?_)
                    · omega
                    · refine r_iload_n dX9_rule_187 rfl ?_
                      refine r_goto (tgt := 195) dX9_rule_188 rfl ?_
                      refine r_puti dX9_rule_195 fl_X9_69 rfl (hs.lt rfl) ?_
                      try rw [up_id (k := 38) (j := 26) rfl]
                      refine r_iload dX9_rule_198 rfl ?_
                      exact r_ireti dX9_rule_200 rfl ⟨_, rfl, by rw [← hQ]; exact Or.inr ⟨⟨by omega, by rw [e]; exact hv⟩, by rw [e]; rfl, by rw [e]; rfl⟩⟩
                  · omega
                · omega
              · omega
            · omega
          · omega
        · omega
      · omega
    · omega
  have L39 : ∀ mx : Int, R32 mx → (0 ≤ x1 ∧ x1 ≤ 4 → mx = mostRule x1.toNat) → RW (KI l G 1 mX9_rule n ρ Q) (0, 0, n, ρ) σ 39 [rf G 38, iv x1, iv x2, xx, xx] [iv mx] := by
    intro mx hr hmx
    refine r_istore_n dX9_rule_39 (Nat.le_of_ble_eq_true rfl) rfl s3 ?_
    refine r_iload_n dX9_rule_40 rfl ?_
    refine r_iconst dX9_rule_41 ?_
    refine r_iconst dX9_rule_42 ?_
    refine q_callSr dX9_rule_43 (c_in x1 0 4 h1 (by omega) (by omega)) ml_X9_152 okX9_in rfl rfl (Nat.le_of_ble_eq_true rfl) (roomOK.of (by decide)) ⟨(Nat.le_of_ble_eq_true rfl), (Nat.le_of_ble_eq_true rfl)⟩ ?_
    refine r_ifeqb (tgt := 58) dX9_rule_46 rfl (fun h46 => ?_) (fun h46 => ?_)
    · refine r_bipush dX9_rule_58 ?_
      exact r_ireti dX9_rule_60 rfl ⟨_, rfl, by rw [← hQ]; exact Or.inl ⟨by first | exact fun q => h46 q.1 | (rw [hmx h46] at h55; exact fun q => h55 q.2), rfl, rfl⟩⟩
    · refine r_iload_n dX9_rule_49 rfl ?_
      refine r_iconst dX9_rule_50 ?_
      refine r_iload_n dX9_rule_51 rfl ?_
      refine q_callSr dX9_rule_52 (c_in x2 0 mx h2 (by omega) hr) ml_X9_152 okX9_in rfl rfl (Nat.le_of_ble_eq_true rfl) (roomOK.of (by decide)) ⟨(Nat.le_of_ble_eq_true rfl), (Nat.le_of_ble_eq_true rfl)⟩ ?_
      refine r_ifneb (tgt := 61) dX9_rule_55 rfl (fun h55 => ?_) (fun h55 => ?_)
      · rw [hmx h46] at h55
        rcases (show x1 = 0 ∨ x1 = 1 ∨ x1 = 2 ∨ x1 = 3 ∨ x1 = 4 by omega) with e | e | e | e | e
        · exact R0 mx e (by rw [e] at h55; exact h55)
        · exact R1 mx e (by rw [e] at h55; exact h55)
        · exact R2 mx e (by rw [e] at h55; exact h55)
        · exact R3 mx e (by rw [e] at h55; exact h55)
        · exact R4 mx e (by rw [e] at h55; exact h55)
      · refine r_bipush dX9_rule_58 ?_
        exact r_ireti dX9_rule_60 rfl ⟨_, rfl, by rw [← hQ]; exact Or.inl ⟨by first | exact fun q => h46 q.1 | (rw [hmx h46] at h55; exact fun q => h55 q.2), rfl, rfl⟩⟩
  refine Ct.of (L0 := [rf G 38, iv x1, iv x2, xx, xx]) (by decide +kernel) (Nat.le_of_ble_eq_true rfl) rfl ?_
  refine r_aloadk_n dX9_rule_0 rfl ?_
  refine r_iconst dX9_rule_1 ?_
  refine r_puti dX9_rule_2 fl_X9_133 rfl (hs.lt rfl) ?_
  rw [up_id t0]
  refine r_iload_n dX9_rule_5 rfl ?_
  refine r_iconst dX9_rule_6 ?_
  refine r_icmpge (tgt := 16) dX9_rule_7 rfl (by first | exact hR _ (Nat.le_of_ble_eq_true rfl) _ | omega) (by first | exact hR _ (Nat.le_of_ble_eq_true rfl) _ | omega) (fun h7 => ?_) (fun h7 => ?_)
  · refine r_iload_n dX9_rule_16 rfl ?_
    refine r_iconst dX9_rule_17 ?_
    refine r_icmpne (tgt := 26) dX9_rule_18 rfl (by first | exact hR _ (Nat.le_of_ble_eq_true rfl) _ | omega) (by first | exact hR _ (Nat.le_of_ble_eq_true rfl) _ | omega) (fun h18 => ?_) (fun h18 => ?_)
    · refine r_iload_n dX9_rule_26 rfl ?_
      refine r_iconst dX9_rule_27 ?_
      refine r_icmpne (tgt := 37) dX9_rule_28 rfl (by first | exact hR _ (Nat.le_of_ble_eq_true rfl) _ | omega) (by first | exact hR _ (Nat.le_of_ble_eq_true rfl) _ | omega) (fun h28 => ?_) (fun h28 => ?_)
      · refine r_bipush dX9_rule_37 ?_
        refine L39 _ (by omega) (fun q => ?_)
        rcases (show x1 = 0 ∨ x1 = 1 ∨ x1 = 2 ∨ x1 = 3 ∨ x1 = 4 by omega) with e | e | e | e | e <;> first | omega | (rw [e]; rfl)
      · refine r_sipush dX9_rule_31 ?_
        refine r_goto (tgt := 39) dX9_rule_34 rfl ?_
        refine L39 _ (by omega) (fun q => ?_)
        rcases (show x1 = 0 ∨ x1 = 1 ∨ x1 = 2 ∨ x1 = 3 ∨ x1 = 4 by omega) with e | e | e | e | e <;> first | omega | (rw [e]; rfl)
    · refine r_bipush dX9_rule_21 ?_
      refine r_goto (tgt := 39) dX9_rule_23 rfl ?_
      refine L39 _ (by omega) (fun q => ?_)
      rcases (show x1 = 0 ∨ x1 = 1 ∨ x1 = 2 ∨ x1 = 3 ∨ x1 = 4 by omega) with e | e | e | e | e <;> first | omega | (rw [e]; rfl)
  · refine r_sipush dX9_rule_10 ?_
    refine r_goto (tgt := 39) dX9_rule_13 rfl ?_
    refine L39 _ (by omega) (fun q => ?_)
    rcases (show x1 = 0 ∨ x1 = 1 ∨ x1 = 2 ∨ x1 = 3 ∨ x1 = 4 by omega) with e | e | e | e | e <;> first | omega | (rw [e]; rfl)
end Model7
