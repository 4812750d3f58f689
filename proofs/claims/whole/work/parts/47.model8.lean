/-! MODEL: counts, holderOf, isUpheld, upheld, holder, gatesOf, objectionOn -/
/-- what counts as the closing -/
def ClO (σ : Si) (C : Nat) (cl : Int) : Prop := ∀ i, i < C → ((¬ σ 38 33 = 0 ∨ σ 50 i ≤ σ 38 22) ↔ σ 50 i ≤ cl)
section Model8
variable {l : Launch} {G : GG} {n : Nat} {ρ : Rho} {σ : Si} {W H P C O : Nat}
theorem m_counts (hs : Std n ρ) (hR : Rg σ) (hC4 : C ≤ 40) (cl : Int) (hcl : ClO σ C cl) (i : Nat) (hi : i < C) (day : Int) (hd : R32 day) : RdI l G 0 mX9_counts n ρ σ [rf G 38, iv i, iv day] (bi (σ 50 i ≤ day ∧ σ 50 i ≤ cl)) := by
  have h := hcl i hi
  refine Ct.of (L0 := [rf G 38, iv i, iv day]) (by decide +kernel) (Nat.le_of_ble_eq_true rfl) rfl ?_
  refine r_aloadk_n dX9_counts_0 rfl ?_
  refine r_getr dX9_counts_1 fl_X9_51 rfl rfl (hs.lt rfl) (hs.rf rfl) ?_
  refine r_iload_n dX9_counts_4 rfl ?_
  refine r_iald dX9_counts_5 rfl (hs.lt rfl) rfl (by omega) ?_
  refine r_iload_n dX9_counts_6 rfl ?_
  refine r_icmpgt (tgt := 34) dX9_counts_7 rfl (by first | exact hR _ (Nat.le_of_ble_eq_true rfl) _ | omega) (by first | exact hR _ (Nat.le_of_ble_eq_true rfl) _ | omega) (fun h7 => ?_) (fun h7 => ?_)
  · refine r_iconst dX9_counts_34 ?_
    exact r_iretz dX9_counts_35 rfl (by omega) ⟨_, rfl, rfl, by unfold bi; split <;> omega⟩
  · refine r_aloadk_n dX9_counts_10 rfl ?_
    refine r_geti dX9_counts_11 fl_X9_194 rfl rfl (hs.lt rfl) ?_
    refine r_ifne (tgt := 30) dX9_counts_14 rfl (by first | exact hR _ (Nat.le_of_ble_eq_true rfl) _ | omega) (fun h14 => ?_) (fun h14 => ?_)
    · refine r_iconst dX9_counts_30 ?_
      refine r_goto (tgt := 35) dX9_counts_31 rfl ?_
      exact r_iretz dX9_counts_35 rfl (by omega) ⟨_, rfl, rfl, by unfold bi; split <;> omega⟩
    · refine r_aloadk_n dX9_counts_17 rfl ?_
      refine r_getr dX9_counts_18 fl_X9_51 rfl rfl (hs.lt rfl) (hs.rf rfl) ?_
      refine r_iload_n dX9_counts_21 rfl ?_
      refine r_iald dX9_counts_22 rfl (hs.lt rfl) rfl (by omega) ?_
      refine r_aloadk_n dX9_counts_23 rfl ?_
      refine r_geti dX9_counts_24 fl_X9_63 rfl rfl (hs.lt rfl) ?_
      refine r_icmpgt (tgt := 34) dX9_counts_27 rfl (by first | exact hR _ (Nat.le_of_ble_eq_true rfl) _ | omega) (by first | exact hR _ (Nat.le_of_ble_eq_true rfl) _ | omega) (fun h27 => ?_) (fun h27 => ?_)
      · refine r_iconst dX9_counts_34 ?_
        exact r_iretz dX9_counts_35 rfl (by omega) ⟨_, rfl, rfl, by unfold bi; split <;> omega⟩
      · refine r_iconst dX9_counts_30 ?_
        refine r_goto (tgt := 35) dX9_counts_31 rfl ?_
        exact r_iretz dX9_counts_35 rfl (by omega) ⟨_, rfl, rfl, by unfold bi; split <;> omega⟩
set_option maxHeartbeats 4000000 in
theorem m_holderOf (hs : Std n ρ) (hR : Rg σ) (hrd : ∀ c, 0 ≤ σ 41 c ∧ σ 41 c ≤ 1) (hC : σ 38 13 = C) (hC4 : C ≤ 40) (cl : Int) (hcl : ClO σ C cl) (cell : Nat) (hc : cell < 80) (day : Int) (hd : R32 day) : RdI l G 1 mX9_holderOf n ρ σ [rf G 38, iv cell, iv day] (hold (σ 40) (σ 41) (σ 48) (σ 49) (σ 50) C cell day cl) := by
  have hrc := hrd cell
  have loop : ∀ (m i : Nat) (b : Int) (x5 : Value) (Q : Si → Int → Prop), i + m = C → b = hfold (σ 48) (σ 49) (σ 50) cell day cl i → isJ x5 = false → Q σ (hfold (σ 48) (σ 49) (σ 50) cell day cl C) → RW (KI l G 1 mX9_holderOf n ρ Q) (0, 0, n, ρ) σ 26 [rf G 38, iv cell, iv day, iv b, iv i, x5] [] := by
    intro m
    induction m with
    | zero =>
      intro i b x6 Q hi hb hx hQ
      have hi' : i = C := by omega
      subst hi'
      refine r_iload dX9_holderOf_26 rfl ?_
      refine r_aloadk_n dX9_holderOf_28 rfl ?_
      refine r_geti dX9_holderOf_29 fl_X9_142 rfl rfl (hs.lt rfl) ?_
      refine r_icmpge (tgt := 134) dX9_holderOf_32 rfl (by first | exact hR _ (Nat.le_of_ble_eq_true rfl) _ | omega) (by first | exact hR _ (Nat.le_of_ble_eq_true rfl) _ | omega) (fun h32 => ?_) (fun h32 => ?_)
      · refine r_iload_n dX9_holderOf_134 rfl ?_
        exact r_ireti dX9_holderOf_135 rfl ⟨_, rfl, by rw [hb]; exact hQ⟩
      · omega
    | succ m ih =>
      intro i b x6 Q hi hb hx hQ
      have hr := hfold_r (σ 48) (σ 49) (σ 50) cell day cl i
      have hlt : i < 40 := by omega
      refine r_iload dX9_holderOf_26 rfl ?_
      refine r_aloadk_n dX9_holderOf_28 rfl ?_
      refine r_geti dX9_holderOf_29 fl_X9_142 rfl rfl (hs.lt rfl) ?_
      refine r_icmpge (tgt := 134) dX9_holderOf_32 rfl (by first | exact hR _ (Nat.le_of_ble_eq_true rfl) _ | omega) (by first | exact hR _ (Nat.le_of_ble_eq_true rfl) _ | omega) (fun h32 => ?_) (fun h32 => ?_)
      · omega
      · refine r_aloadk_n dX9_holderOf_35 rfl ?_
        refine r_getr dX9_holderOf_36 fl_X9_45 rfl rfl (hs.lt rfl) (hs.rf rfl) ?_
        refine r_iload dX9_holderOf_39 rfl ?_
        refine r_iald dX9_holderOf_41 rfl (hs.lt rfl) rfl (by omega) ?_
        refine r_iload_n dX9_holderOf_42 rfl ?_
        refine r_icmpne (tgt := 128) dX9_holderOf_43 rfl (by first | exact hR _ (Nat.le_of_ble_eq_true rfl) _ | omega) (by first | exact hR _ (Nat.le_of_ble_eq_true rfl) _ | omega) (fun h43 => ?_) (fun h43 => ?_)
        · refine r_iinc dX9_holderOf_128 (Nat.le_of_ble_eq_true rfl) rfl rfl s4 ?_
          refine r_goto (tgt := 26) dX9_holderOf_131 rfl ?_
          exact ih (i + 1) _ _ Q (by omega) (by subst hb; first | exact (if_neg (by omega)).symm | exact (if_pos (by omega)).symm) (by first | exact hx | rfl) hQ
        · refine r_aloadk_n dX9_holderOf_46 rfl ?_
          refine r_iload dX9_holderOf_47 rfl ?_
          refine r_iload_n dX9_holderOf_49 rfl ?_
          refine q_callVr dX9_holderOf_50 (m_counts hs hR hC4 cl hcl i (by omega) day hd) ml_X9_198 okX9_counts rfl rfl (hs.lt rfl) rfl rfl (Nat.le_of_ble_eq_true rfl) (roomOK.of (by decide)) ⟨(Nat.le_of_ble_eq_true rfl), (Nat.le_of_ble_eq_true rfl)⟩ ?_
          refine r_ifeqb (tgt := 128) dX9_holderOf_53 rfl (fun h53 => ?_) (fun h53 => ?_)
          · refine r_iinc dX9_holderOf_128 (Nat.le_of_ble_eq_true rfl) rfl rfl s4 ?_
            refine r_goto (tgt := 26) dX9_holderOf_131 rfl ?_
            exact ih (i + 1) _ _ Q (by omega) (by subst hb; first | exact (if_neg (by omega)).symm | exact (if_pos (by omega)).symm) (by first | exact hx | rfl) hQ
          · refine r_iload_n dX9_holderOf_56 rfl ?_
            refine r_iconst dX9_holderOf_57 ?_
            refine r_icmpeq (tgt := 109) dX9_holderOf_58 rfl (by first | exact hR _ (Nat.le_of_ble_eq_true rfl) _ | omega) (by first | exact hR _ (Nat.le_of_ble_eq_true rfl) _ | omega) (fun h58 => ?_) (fun h58 => ?_)
            · refine r_iconst dX9_holderOf_109 ?_
              refine r_goto (tgt := 114) dX9_holderOf_110 rfl ?_
              refine r_istore dX9_holderOf_114 (Nat.le_of_ble_eq_true rfl) rfl s5 ?_
              refine r_iload dX9_holderOf_116 rfl ?_
              refine r_ifeq (tgt := 126) dX9_holderOf_118 rfl (by first | exact hR _ (Nat.le_of_ble_eq_true rfl) _ | omega) (fun h118 => absurd h118 (by decide)) (fun h118 => ?_)
              refine r_iload dX9_holderOf_121 rfl ?_
              refine r_goto (tgt := 127) dX9_holderOf_123 rfl ?_
              refine r_istore_n dX9_holderOf_127 (Nat.le_of_ble_eq_true rfl) rfl s3 ?_
              refine r_iinc dX9_holderOf_128 (Nat.le_of_ble_eq_true rfl) rfl rfl s4 ?_
              refine r_goto (tgt := 26) dX9_holderOf_131 rfl ?_
              exact ih (i + 1) _ _ Q (by omega) (by subst hb; first | exact (if_neg (by omega)).symm | exact (if_pos (by omega)).symm) (by first | exact hx | rfl) hQ
            · refine r_aloadk_n dX9_holderOf_61 rfl ?_
              refine r_getr dX9_holderOf_62 fl_X9_48 rfl rfl (hs.lt rfl) (hs.rf rfl) ?_
              refine r_iload dX9_holderOf_65 rfl ?_
              refine r_iald dX9_holderOf_67 rfl (hs.lt rfl) rfl (by omega) ?_
              refine r_aloadk_n dX9_holderOf_68 rfl ?_
              refine r_getr dX9_holderOf_69 fl_X9_48 rfl rfl (hs.lt rfl) (hs.rf rfl) ?_
              refine r_iload_n dX9_holderOf_72 rfl ?_
              refine r_iald dX9_holderOf_73 rfl (hs.lt rfl) (c := b.toNat) (by omega) (by omega) ?_
              refine r_icmpgt (tgt := 109) dX9_holderOf_74 rfl (by first | exact hR _ (Nat.le_of_ble_eq_true rfl) _ | omega) (by first | exact hR _ (Nat.le_of_ble_eq_true rfl) _ | omega) (fun h74 => ?_) (fun h74 => ?_)
              · refine r_iconst dX9_holderOf_109 ?_
                refine r_goto (tgt := 114) dX9_holderOf_110 rfl ?_
                refine r_istore dX9_holderOf_114 (Nat.le_of_ble_eq_true rfl) rfl s5 ?_
                refine r_iload dX9_holderOf_116 rfl ?_
                refine r_ifeq (tgt := 126) dX9_holderOf_118 rfl (by first | exact hR _ (Nat.le_of_ble_eq_true rfl) _ | omega) (fun h118 => absurd h118 (by decide)) (fun h118 => ?_)
                refine r_iload dX9_holderOf_121 rfl ?_
                refine r_goto (tgt := 127) dX9_holderOf_123 rfl ?_
                refine r_istore_n dX9_holderOf_127 (Nat.le_of_ble_eq_true rfl) rfl s3 ?_
                refine r_iinc dX9_holderOf_128 (Nat.le_of_ble_eq_true rfl) rfl rfl s4 ?_
                refine r_goto (tgt := 26) dX9_holderOf_131 rfl ?_
                exact ih (i + 1) _ _ Q (by omega) (by subst hb; first | exact (if_neg (by omega)).symm | exact (if_pos (by omega)).symm) (by first | exact hx | rfl) hQ
              · refine r_aloadk_n dX9_holderOf_77 rfl ?_
                refine r_getr dX9_holderOf_78 fl_X9_48 rfl rfl (hs.lt rfl) (hs.rf rfl) ?_
                refine r_iload dX9_holderOf_81 rfl ?_
                refine r_iald dX9_holderOf_83 rfl (hs.lt rfl) rfl (by omega) ?_
                refine r_aloadk_n dX9_holderOf_84 rfl ?_
                refine r_getr dX9_holderOf_85 fl_X9_48 rfl rfl (hs.lt rfl) (hs.rf rfl) ?_
                refine r_iload_n dX9_holderOf_88 rfl ?_
                refine r_iald dX9_holderOf_89 rfl (hs.lt rfl) (c := b.toNat) (by omega) (by omega) ?_
                refine r_icmpne (tgt := 113) dX9_holderOf_90 rfl (by first | exact hR _ (Nat.le_of_ble_eq_true rfl) _ | omega) (by first | exact hR _ (Nat.le_of_ble_eq_true rfl) _ | omega) (fun h90 => ?_) (fun h90 => ?_)
                · refine r_iconst dX9_holderOf_113 ?_
                  refine r_istore dX9_holderOf_114 (Nat.le_of_ble_eq_true rfl) rfl s5 ?_
                  refine r_iload dX9_holderOf_116 rfl ?_
                  refine r_ifeq (tgt := 126) dX9_holderOf_118 rfl (by first | exact hR _ (Nat.le_of_ble_eq_true rfl) _ | omega) (fun h118 => ?_) (fun h118 => absurd h118 (by decide))
                  refine r_iload_n dX9_holderOf_126 rfl ?_
                  refine r_istore_n dX9_holderOf_127 (Nat.le_of_ble_eq_true rfl) rfl s3 ?_
                  refine r_iinc dX9_holderOf_128 (Nat.le_of_ble_eq_true rfl) rfl rfl s4 ?_
                  refine r_goto (tgt := 26) dX9_holderOf_131 rfl ?_
                  exact ih (i + 1) _ _ Q (by omega) (by subst hb; first | exact (if_neg (by omega)).symm | exact (if_pos (by omega)).symm) (by first | exact hx | rfl) hQ
                · refine r_aloadk_n dX9_holderOf_93 rfl ?_
                  refine r_getr dX9_holderOf_94 fl_X9_51 rfl rfl (hs.lt rfl) (hs.rf rfl) ?_
                  refine r_iload dX9_holderOf_97 rfl ?_
                  refine r_iald dX9_holderOf_99 rfl (hs.lt rfl) rfl (by omega) ?_
                  refine r_aloadk_n dX9_holderOf_100 rfl ?_
                  refine r_getr dX9_holderOf_101 fl_X9_51 rfl rfl (hs.lt rfl) (hs.rf rfl) ?_
                  refine r_iload_n dX9_holderOf_104 rfl ?_
                  refine r_iald dX9_holderOf_105 rfl (hs.lt rfl) (c := b.toNat) (by omega) (by omega) ?_
                  refine r_icmpge (tgt := 113) dX9_holderOf_106 rfl (by first | exact hR _ (Nat.le_of_ble_eq_true rfl) _ | omega) (by first | exact hR _ (Nat.le_of_ble_eq_true rfl) _ | omega) (fun h106 => ?_) (fun h106 => ?_)
                  · refine r_iconst dX9_holderOf_113 ?_
                    refine r_istore dX9_holderOf_114 (Nat.le_of_ble_eq_true rfl) rfl s5 ?_
                    refine r_iload dX9_holderOf_116 rfl ?_
                    refine r_ifeq (tgt := 126) dX9_holderOf_118 rfl (by first | exact hR _ (Nat.le_of_ble_eq_true rfl) _ | omega) (fun h118 => ?_) (fun h118 => absurd h118 (by decide))
                    refine r_iload_n dX9_holderOf_126 rfl ?_
                    refine r_istore_n dX9_holderOf_127 (Nat.le_of_ble_eq_true rfl) rfl s3 ?_
                    refine r_iinc dX9_holderOf_128 (Nat.le_of_ble_eq_true rfl) rfl rfl s4 ?_
                    refine r_goto (tgt := 26) dX9_holderOf_131 rfl ?_
                    exact ih (i + 1) _ _ Q (by omega) (by subst hb; first | exact (if_neg (by omega)).symm | exact (if_pos (by omega)).symm) (by first | exact hx | rfl) hQ
                  · refine r_iconst dX9_holderOf_109 ?_
                    refine r_goto (tgt := 114) dX9_holderOf_110 rfl ?_
                    refine r_istore dX9_holderOf_114 (Nat.le_of_ble_eq_true rfl) rfl s5 ?_
                    refine r_iload dX9_holderOf_116 rfl ?_
                    refine r_ifeq (tgt := 126) dX9_holderOf_118 rfl (by first | exact hR _ (Nat.le_of_ble_eq_true rfl) _ | omega) (fun h118 => absurd h118 (by decide)) (fun h118 => ?_)
                    refine r_iload dX9_holderOf_121 rfl ?_
                    refine r_goto (tgt := 127) dX9_holderOf_123 rfl ?_
                    refine r_istore_n dX9_holderOf_127 (Nat.le_of_ble_eq_true rfl) rfl s3 ?_
                    refine r_iinc dX9_holderOf_128 (Nat.le_of_ble_eq_true rfl) rfl rfl s4 ?_
                    refine r_goto (tgt := 26) dX9_holderOf_131 rfl ?_
                    exact ih (i + 1) _ _ Q (by omega) (by subst hb; first | exact (if_neg (by omega)).symm | exact (if_pos (by omega)).symm) (by first | exact hx | rfl) hQ
  refine Ct.of (L0 := [rf G 38, iv cell, iv day, xx, xx, xx]) (by decide +kernel) (Nat.le_of_ble_eq_true rfl) rfl ?_
  refine r_iconst dX9_holderOf_0 ?_
  refine r_istore_n dX9_holderOf_1 (Nat.le_of_ble_eq_true rfl) rfl s3 ?_
  refine r_aloadk_n dX9_holderOf_2 rfl ?_
  refine r_getr dX9_holderOf_3 fl_X9_20 rfl rfl (hs.lt rfl) (hs.rf rfl) ?_
  refine r_iload_n dX9_holderOf_6 rfl ?_
  refine r_iald dX9_holderOf_7 rfl (hs.lt rfl) rfl (by omega) ?_
  refine r_iconst dX9_holderOf_8 ?_
  refine r_icmpne (tgt := 21) dX9_holderOf_9 rfl (by first | exact hR _ (Nat.le_of_ble_eq_true rfl) _ | omega) (by first | exact hR _ (Nat.le_of_ble_eq_true rfl) _ | omega) (fun h9 => ?_) (fun h9 => ?_)
  · refine r_iconst dX9_holderOf_21 ?_
    exact r_ireti dX9_holderOf_22 rfl ⟨_, rfl, rfl, (if_neg (by omega)).symm⟩
  · refine r_aloadk_n dX9_holderOf_12 rfl ?_
    refine r_getr dX9_holderOf_13 fl_X9_23 rfl rfl (hs.lt rfl) (hs.rf rfl) ?_
    refine r_iload_n dX9_holderOf_16 rfl ?_
    refine r_zald dX9_holderOf_17 rfl (hs.lt rfl) rfl (by omega) ?_
    refine r_ifeq (tgt := 23) dX9_holderOf_18 rfl (by first | exact hR _ (Nat.le_of_ble_eq_true rfl) _ | omega) (fun h18 => ?_) (fun h18 => ?_)
    · refine r_iconst dX9_holderOf_23 ?_
      refine r_istore dX9_holderOf_24 (Nat.le_of_ble_eq_true rfl) rfl s4 ?_
      exact loop C 0 _ _ _ (by omega) rfl rfl ⟨rfl, (if_pos (by omega)).symm⟩
    · refine r_iconst dX9_holderOf_21 ?_
      exact r_ireti dX9_holderOf_22 rfl ⟨_, rfl, rfl, (if_neg (by omega)).symm⟩
theorem m_gatesOf (hs : Std n ρ) (hR : Rg σ) (hC : σ 38 13 = C) (hC4 : C ≤ 40) (cl : Int) (hcl : ClO σ C cl) (hw : ∀ i, i < C → (0 ≤ σ 48 i ∧ σ 48 i ≤ 150) ∧ 0 ≤ σ 49 i) (p day : Int) (hp : R32 p) (hd : R32 day) : RdI l G 1 mX9_gatesOf n ρ σ [rf G 38, iv p, iv day] (gfold (σ 47) (σ 48) (σ 49) (σ 50) p day cl C) := by
  have loop : ∀ (m i : Nat) (s : Int), i + m = C → s = gfold (σ 47) (σ 48) (σ 49) (σ 50) p day cl i → RW (KI l G 1 mX9_gatesOf n ρ (fun σ' z => σ' = σ ∧ z = gfold (σ 47) (σ 48) (σ 49) (σ 50) p day cl C)) (0, 0, n, ρ) σ 5 [rf G 38, iv p, iv day, iv s, iv i] [] := by
    intro m
    induction m with
    | zero =>
      intro i s hi hf
      have e : i = C := by omega
      refine r_iload dX9_gatesOf_5 rfl ?_
      refine r_aloadk_n dX9_gatesOf_7 rfl ?_
      refine r_geti dX9_gatesOf_8 fl_X9_142 rfl rfl (hs.lt rfl) ?_
      refine r_icmpge (tgt := 88) dX9_gatesOf_11 rfl (by first | exact hR _ (Nat.le_of_ble_eq_true rfl) _ | omega) (by first | exact hR _ (Nat.le_of_ble_eq_true rfl) _ | omega) (fun h11 => ?_) (fun h11 => ?_)
      · refine r_iload_n dX9_gatesOf_88 rfl ?_
        exact r_ireti dX9_gatesOf_89 rfl ⟨_, rfl, rfl, by rw [← e, hf]⟩
      · omega
    | succ m ih =>
      intro i s hi hf
      have hr := gfold_r (by_ := σ 47) (wh := σ 48) (pf := σ 49) (dy := σ 50) (p := p) (day := day) (closing := cl) i (fun j hj => (hw j (by omega)).1.2)
      have hwi := hw i (by omega)
      rw [← hf] at hr
      refine r_iload dX9_gatesOf_5 rfl ?_
      refine r_aloadk_n dX9_gatesOf_7 rfl ?_
      refine r_geti dX9_gatesOf_8 fl_X9_142 rfl rfl (hs.lt rfl) ?_
      refine r_icmpge (tgt := 88) dX9_gatesOf_11 rfl (by first | exact hR _ (Nat.le_of_ble_eq_true rfl) _ | omega) (by first | exact hR _ (Nat.le_of_ble_eq_true rfl) _ | omega) (fun h11 => ?_) (fun h11 => ?_)
      · omega
      · refine r_aloadk_n dX9_gatesOf_14 rfl ?_
        refine r_getr dX9_gatesOf_15 fl_X9_42 rfl rfl (hs.lt rfl) (hs.rf rfl) ?_
        refine r_iload dX9_gatesOf_18 rfl ?_
        refine r_iald dX9_gatesOf_20 rfl (hs.lt rfl) rfl (by omega) ?_
        refine r_iload_n dX9_gatesOf_21 rfl ?_
        refine r_icmpne (tgt := 82) dX9_gatesOf_22 rfl (by first | exact hR _ (Nat.le_of_ble_eq_true rfl) _ | omega) (by first | exact hR _ (Nat.le_of_ble_eq_true rfl) _ | omega) (fun h22 => ?_) (fun h22 => ?_)
        · refine r_iinc dX9_gatesOf_82 (Nat.le_of_ble_eq_true rfl) rfl rfl s4 ?_
          refine r_goto (tgt := 5) dX9_gatesOf_85 rfl ?_
          refine ih (i + 1) _ (by omega) ?_
          show _ = if σ 47 i = p ∧ ¬ σ 49 i = 0 ∧ σ 50 i ≤ day ∧ σ 50 i ≤ cl then max (gfold _ _ _ _ _ _ _ i) (σ 48 i - 100) else gfold _ _ _ _ _ _ _ i
          rw [← hf]
          split <;> omega
        · refine r_aloadk_n dX9_gatesOf_25 rfl ?_
          refine r_getr dX9_gatesOf_26 fl_X9_45 rfl rfl (hs.lt rfl) (hs.rf rfl) ?_
          refine r_iload dX9_gatesOf_29 rfl ?_
          refine r_iald dX9_gatesOf_31 rfl (hs.lt rfl) rfl (by omega) ?_
          refine r_bipush dX9_gatesOf_32 ?_
          refine r_icmple (tgt := 82) dX9_gatesOf_34 rfl (by first | exact hR _ (Nat.le_of_ble_eq_true rfl) _ | omega) (by first | exact hR _ (Nat.le_of_ble_eq_true rfl) _ | omega) (fun h34 => ?_) (fun h34 => ?_)
          · refine r_iinc dX9_gatesOf_82 (Nat.le_of_ble_eq_true rfl) rfl rfl s4 ?_
            refine r_goto (tgt := 5) dX9_gatesOf_85 rfl ?_
            refine ih (i + 1) _ (by omega) ?_
            show _ = if σ 47 i = p ∧ ¬ σ 49 i = 0 ∧ σ 50 i ≤ day ∧ σ 50 i ≤ cl then max (gfold _ _ _ _ _ _ _ i) (σ 48 i - 100) else gfold _ _ _ _ _ _ _ i
            rw [← hf]
            split <;> omega
          · refine r_aloadk_n dX9_gatesOf_37 rfl ?_
            refine r_iload dX9_gatesOf_38 rfl ?_
            refine r_iload_n dX9_gatesOf_40 rfl ?_
            refine q_callVr dX9_gatesOf_41 (m_counts hs hR hC4 cl hcl i (by omega) day hd) ml_X9_198 okX9_counts rfl rfl (hs.lt rfl) rfl rfl (Nat.le_of_ble_eq_true rfl) (roomOK.of (by decide)) ⟨(Nat.le_of_ble_eq_true rfl), (Nat.le_of_ble_eq_true rfl)⟩ ?_
            refine r_ifeqb (tgt := 82) dX9_gatesOf_44 rfl (fun h44 => ?_) (fun h44 => ?_)
            · refine r_iinc dX9_gatesOf_82 (Nat.le_of_ble_eq_true rfl) rfl rfl s4 ?_
              refine r_goto (tgt := 5) dX9_gatesOf_85 rfl ?_
              refine ih (i + 1) _ (by omega) ?_
              show _ = if σ 47 i = p ∧ ¬ σ 49 i = 0 ∧ σ 50 i ≤ day ∧ σ 50 i ≤ cl then max (gfold _ _ _ _ _ _ _ i) (σ 48 i - 100) else gfold _ _ _ _ _ _ _ i
              rw [← hf]
              split <;> omega
            · refine r_aloadk_n dX9_gatesOf_47 rfl ?_
              refine r_getr dX9_gatesOf_48 fl_X9_48 rfl rfl (hs.lt rfl) (hs.rf rfl) ?_
              refine r_iload dX9_gatesOf_51 rfl ?_
              refine r_iald dX9_gatesOf_53 rfl (hs.lt rfl) rfl (by omega) ?_
              refine r_ifle (tgt := 82) dX9_gatesOf_54 rfl (by first | exact hR _ (Nat.le_of_ble_eq_true rfl) _ | omega) (fun h54 => ?_) (fun h54 => ?_)
              · refine r_iinc dX9_gatesOf_82 (Nat.le_of_ble_eq_true rfl) rfl rfl s4 ?_
                refine r_goto (tgt := 5) dX9_gatesOf_85 rfl ?_
                refine ih (i + 1) _ (by omega) ?_
                show _ = if σ 47 i = p ∧ ¬ σ 49 i = 0 ∧ σ 50 i ≤ day ∧ σ 50 i ≤ cl then max (gfold _ _ _ _ _ _ _ i) (σ 48 i - 100) else gfold _ _ _ _ _ _ _ i
                rw [← hf]
                split <;> omega
              · refine r_aloadk_n dX9_gatesOf_57 rfl ?_
                refine r_getr dX9_gatesOf_58 fl_X9_45 rfl rfl (hs.lt rfl) (hs.rf rfl) ?_
                refine r_iload dX9_gatesOf_61 rfl ?_
                refine r_iald dX9_gatesOf_63 rfl (hs.lt rfl) rfl (by omega) ?_
                refine r_bipush dX9_gatesOf_64 ?_
                refine r_isub dX9_gatesOf_66 ?_
                refine r_iload_n dX9_gatesOf_67 rfl ?_
                refine r_icmple (tgt := 82) dX9_gatesOf_68 rfl (by first | exact hR _ (Nat.le_of_ble_eq_true rfl) _ | omega) (by first | exact hR _ (Nat.le_of_ble_eq_true rfl) _ | omega) (fun h68 => ?_) (fun h68 => ?_)
                · refine r_iinc dX9_gatesOf_82 (Nat.le_of_ble_eq_true rfl) rfl rfl s4 ?_
                  refine r_goto (tgt := 5) dX9_gatesOf_85 rfl ?_
                  refine ih (i + 1) _ (by omega) ?_
                  show _ = if σ 47 i = p ∧ ¬ σ 49 i = 0 ∧ σ 50 i ≤ day ∧ σ 50 i ≤ cl then max (gfold _ _ _ _ _ _ _ i) (σ 48 i - 100) else gfold _ _ _ _ _ _ _ i
                  rw [← hf]
                  split <;> omega
                · refine r_aloadk_n dX9_gatesOf_71 rfl ?_
                  refine r_getr dX9_gatesOf_72 fl_X9_45 rfl rfl (hs.lt rfl) (hs.rf rfl) ?_
                  refine r_iload dX9_gatesOf_75 rfl ?_
                  refine r_iald dX9_gatesOf_77 rfl (hs.lt rfl) rfl (by omega) ?_
                  refine r_bipush dX9_gatesOf_78 ?_
                  refine r_isub dX9_gatesOf_80 ?_
                  refine r_istore_n dX9_gatesOf_81 (Nat.le_of_ble_eq_true rfl) rfl s3 ?_
                  refine r_iinc dX9_gatesOf_82 (Nat.le_of_ble_eq_true rfl) rfl rfl s4 ?_
                  refine r_goto (tgt := 5) dX9_gatesOf_85 rfl ?_
                  refine ih (i + 1) _ (by omega) ?_
                  show _ = if σ 47 i = p ∧ ¬ σ 49 i = 0 ∧ σ 50 i ≤ day ∧ σ 50 i ≤ cl then max (gfold _ _ _ _ _ _ _ i) (σ 48 i - 100) else gfold _ _ _ _ _ _ _ i
                  rw [← hf]
                  split <;> omega
  refine Ct.of (L0 := [rf G 38, iv p, iv day, xx, xx]) (by decide +kernel) (Nat.le_of_ble_eq_true rfl) rfl ?_
  refine r_iconst dX9_gatesOf_0 ?_
  refine r_istore_n dX9_gatesOf_1 (Nat.le_of_ble_eq_true rfl) rfl s3 ?_
  refine r_iconst dX9_gatesOf_2 ?_
  refine r_istore dX9_gatesOf_3 (Nat.le_of_ble_eq_true rfl) rfl s4 ?_
  exact loop C 0 _ (by omega) rfl
set_option maxHeartbeats 4000000 in
theorem m_isUpheld (hs : Std n ρ) (hR : Rg σ) (hrd : ∀ c, 0 ≤ σ 41 c ∧ σ 41 c ≤ 1) (hC : σ 38 13 = C) (hC4 : C ≤ 40) (cl : Int) (hcl : ClO σ C cl) (o : Nat) (ho : o < 20) (hoc : 0 ≤ σ 52 o ∧ σ 52 o < 80) : RdI l G 2 mX9_isUpheld n ρ σ [rf G 38, iv o] (bi (uphB (σ 40) (σ 41) (σ 47) (σ 48) (σ 49) (σ 50) (σ 51) (σ 52) (σ 53) C cl o = true)) := by
  obtain ⟨cell, hcell⟩ : ∃ cell : Nat, σ 52 o = cell := ⟨(σ 52 o).toNat, by omega⟩
  have hro := hR 53 (by decide) o
  have hrb := hR 51 (by decide) o
  unfold uphB
  rw [hcell, Int.toNat_natCast]
  have hr := hold_r (σ 40) (σ 41) (σ 48) (σ 49) (σ 50) C cell (σ 53 o) cl
  generalize hH : hold (σ 40) (σ 41) (σ 48) (σ 49) (σ 50) C cell (σ 53 o) cl = h at hr ⊢
  have hcon := m_holderOf (l := l) (G := G) hs hR hrd hC hC4 cl hcl cell (by omega) (σ 53 o) hro
  rw [hH] at hcon
  have loop : ∀ (m i : Nat) (is : Int), i + m = C → is = bi (anyN (uphF (σ 47) (σ 48) (σ 49) (σ 50) (σ 51 o) cell (σ 53 o) cl h.toNat) i = true) → 0 ≤ h → ¬ σ 47 h.toNat = σ 51 o → RW (KI l G 2 mX9_isUpheld n ρ (fun σ' z => σ' = σ ∧ z = bi ((!decide (h = -1) && (!decide (σ 47 h.toNat = σ 51 o) && anyN (uphF (σ 47) (σ 48) (σ 49) (σ 50) (σ 51 o) cell (σ 53 o) cl h.toNat) C)) = true))) (0, 0, n, ρ) σ 44 [rf G 38, iv o, iv h, iv is, iv i] [] := by
    intro m
    induction m with
    | zero =>
      intro i is hi ha hh hb
      have e : i = C := by omega
      have h01 := bi_01 (anyN (uphF (σ 47) (σ 48) (σ 49) (σ 50) (σ 51 o) cell (σ 53 o) cl h.toNat) i = true)
      refine r_iload dX9_isUpheld_44 rfl ?_
      refine r_aloadk_n dX9_isUpheld_46 rfl ?_
      refine r_geti dX9_isUpheld_47 fl_X9_142 rfl rfl (hs.lt rfl) ?_
      refine r_icmpge (tgt := 132) dX9_isUpheld_50 rfl (by first | exact hR _ (Nat.le_of_ble_eq_true rfl) _ | omega) (by first | exact hR _ (Nat.le_of_ble_eq_true rfl) _ | omega) (fun h50 => ?_) (fun h50 => ?_)
      · refine r_iload_n dX9_isUpheld_132 rfl ?_
        exact r_iretz dX9_isUpheld_133 rfl (by omega) ⟨_, rfl, rfl, by
  rw [ha, e]
  refine bi_iff ?_
  simp only [Bool.and_eq_true, Bool.not_eq_true', decide_eq_false_iff_not]
  exact ⟨fun q => ⟨by omega, hb, q⟩, fun q => q.2.2⟩⟩
      · omega
    | succ m ih =>
      intro i is hi ha hh hb
      have h01 := bi_01 (anyN (uphF (σ 47) (σ 48) (σ 49) (σ 50) (σ 51 o) cell (σ 53 o) cl h.toNat) i = true)
      have nx : ∀ z : Int, z = bi (anyN (uphF (σ 47) (σ 48) (σ 49) (σ 50) (σ 51 o) cell (σ 53 o) cl h.toNat) i = true ∨ (σ 47 i = σ 51 o ∧ σ 48 i = cell ∧ (σ 50 i ≤ σ 53 o ∧ σ 50 i ≤ cl) ∧ σ 49 h.toNat ≤ σ 49 i)) → RW (KI l G 2 mX9_isUpheld n ρ (fun σ' z => σ' = σ ∧ z = bi ((!decide (h = -1) && (!decide (σ 47 h.toNat = σ 51 o) && anyN (uphF (σ 47) (σ 48) (σ 49) (σ 50) (σ 51 o) cell (σ 53 o) cl h.toNat) C)) = true))) (0, 0, n, ρ) σ 44 [rf G 38, iv o, iv h, iv z, iv (i + 1 : Nat)] [] := by
        intro z hz
        refine ih (i + 1) z (by omega) ?_ hh hb
        rw [hz]
        refine bi_iff ?_
        show _ ↔ (anyN _ i || uphF _ _ _ _ _ _ _ _ _ i) = true
        rw [Bool.or_eq_true, uphF_t]
        exact ⟨fun q => q.elim Or.inl (fun q => Or.inr ⟨q.1, q.2.1, q.2.2.1.1, q.2.2.1.2, q.2.2.2⟩), fun q => q.elim Or.inl (fun q => Or.inr ⟨q.1, q.2.1, ⟨q.2.2.1, q.2.2.2.1⟩, q.2.2.2.2⟩)⟩
      refine r_iload dX9_isUpheld_44 rfl ?_
      refine r_aloadk_n dX9_isUpheld_46 rfl ?_
      refine r_geti dX9_isUpheld_47 fl_X9_142 rfl rfl (hs.lt rfl) ?_
      refine r_icmpge (tgt := 132) dX9_isUpheld_50 rfl (by first | exact hR _ (Nat.le_of_ble_eq_true rfl) _ | omega) (by first | exact hR _ (Nat.le_of_ble_eq_true rfl) _ | omega) (fun h50 => ?_) (fun h50 => ?_)
      · omega
      · refine r_iload_n dX9_isUpheld_53 rfl ?_
        refine r_ifne (tgt := 120) dX9_isUpheld_54 rfl (by omega) (fun h54 => ?_) (fun h54 => ?_)
        · have ha1 : anyN (uphF (σ 47) (σ 48) (σ 49) (σ 50) (σ 51 o) cell (σ 53 o) cl h.toNat) i = true := by
            rcases Classical.em (anyN (uphF (σ 47) (σ 48) (σ 49) (σ 50) (σ 51 o) cell (σ 53 o) cl h.toNat) i = true) with q | q
            · exact q
            · rw [bi_f q] at ha; omega
          refine r_iconst dX9_isUpheld_120 ?_
          refine r_goto (tgt := 125) dX9_isUpheld_121 rfl ?_
          refine r_istore_n dX9_isUpheld_125 (Nat.le_of_ble_eq_true rfl) rfl s3 ?_
          refine r_iinc dX9_isUpheld_126 (Nat.le_of_ble_eq_true rfl) rfl rfl s4 ?_
          refine r_goto (tgt := 44) dX9_isUpheld_129 rfl ?_
          first
          | exact nx _ (bi_t (Or.inl ha1)).symm
          | exact nx _ (bi_t (Or.inr ⟨h70, h86, h101, h117⟩)).symm
          | (refine nx _ (bi_f (fun q => q.elim ha0 (fun q => ?_))).symm; obtain ⟨q1, q2, q3, q4⟩ := q; first | exact h70 q1 | exact h86 q2 | exact h101 q3 | omega)
        · have ha0 : ¬ anyN (uphF (σ 47) (σ 48) (σ 49) (σ 50) (σ 51 o) cell (σ 53 o) cl h.toNat) i = true := fun q => by rw [bi_t q] at ha; omega
          refine r_aloadk_n dX9_isUpheld_57 rfl ?_
          refine r_getr dX9_isUpheld_58 fl_X9_42 rfl rfl (hs.lt rfl) (hs.rf rfl) ?_
          refine r_iload dX9_isUpheld_61 rfl ?_
          refine r_iald dX9_isUpheld_63 rfl (hs.lt rfl) rfl (by omega) ?_
          refine r_aloadk_n dX9_isUpheld_64 rfl ?_
          refine r_getr dX9_isUpheld_65 fl_X9_54 rfl rfl (hs.lt rfl) (hs.rf rfl) ?_
          refine r_iload_n dX9_isUpheld_68 rfl ?_
          refine r_iald dX9_isUpheld_69 rfl (hs.lt rfl) rfl (by omega) ?_
          refine r_icmpne (tgt := 124) dX9_isUpheld_70 rfl (by first | exact hR _ (Nat.le_of_ble_eq_true rfl) _ | omega) (by first | exact hR _ (Nat.le_of_ble_eq_true rfl) _ | omega) (fun h70 => ?_) (fun h70 => ?_)
          · refine r_iconst dX9_isUpheld_124 ?_
            refine r_istore_n dX9_isUpheld_125 (Nat.le_of_ble_eq_true rfl) rfl s3 ?_
            refine r_iinc dX9_isUpheld_126 (Nat.le_of_ble_eq_true rfl) rfl rfl s4 ?_
            refine r_goto (tgt := 44) dX9_isUpheld_129 rfl ?_
            first
            | exact nx _ (bi_t (Or.inl ha1)).symm
            | exact nx _ (bi_t (Or.inr ⟨h70, h86, h101, h117⟩)).symm
            | (refine nx _ (bi_f (fun q => q.elim ha0 (fun q => ?_))).symm; obtain ⟨q1, q2, q3, q4⟩ := q; first | exact h70 q1 | exact h86 q2 | exact h101 q3 | omega)
          · refine r_aloadk_n dX9_isUpheld_73 rfl ?_
            refine r_getr dX9_isUpheld_74 fl_X9_45 rfl rfl (hs.lt rfl) (hs.rf rfl) ?_
            refine r_iload dX9_isUpheld_77 rfl ?_
            refine r_iald dX9_isUpheld_79 rfl (hs.lt rfl) rfl (by omega) ?_
            refine r_aloadk_n dX9_isUpheld_80 rfl ?_
            refine r_getr dX9_isUpheld_81 fl_X9_57 rfl rfl (hs.lt rfl) (hs.rf rfl) ?_
            refine r_iload_n dX9_isUpheld_84 rfl ?_
            refine r_iald dX9_isUpheld_85 rfl (hs.lt rfl) rfl (by omega) ?_
            rw [hcell]
            refine r_icmpne (tgt := 124) dX9_isUpheld_86 rfl (hR 48 (by decide) _) (by omega) (fun h86 => ?_) (fun h86 => ?_)
            · refine r_iconst dX9_isUpheld_124 ?_
              refine r_istore_n dX9_isUpheld_125 (Nat.le_of_ble_eq_true rfl) rfl s3 ?_
              refine r_iinc dX9_isUpheld_126 (Nat.le_of_ble_eq_true rfl) rfl rfl s4 ?_
              refine r_goto (tgt := 44) dX9_isUpheld_129 rfl ?_
              first
              | exact nx _ (bi_t (Or.inl ha1)).symm
              | exact nx _ (bi_t (Or.inr ⟨h70, h86, h101, h117⟩)).symm
              | (refine nx _ (bi_f (fun q => q.elim ha0 (fun q => ?_))).symm; obtain ⟨q1, q2, q3, q4⟩ := q; first | exact h70 q1 | exact h86 q2 | exact h101 q3 | omega)
            · refine r_aloadk_n dX9_isUpheld_89 rfl ?_
              refine r_iload dX9_isUpheld_90 rfl ?_
              refine r_aloadk_n dX9_isUpheld_92 rfl ?_
              refine r_getr dX9_isUpheld_93 fl_X9_60 rfl rfl (hs.lt rfl) (hs.rf rfl) ?_
              refine r_iload_n dX9_isUpheld_96 rfl ?_
              refine r_iald dX9_isUpheld_97 rfl (hs.lt rfl) rfl (by omega) ?_
              refine q_callVr dX9_isUpheld_98 (m_counts hs hR hC4 cl hcl i (by omega) (σ 53 o) hro) ml_X9_198 okX9_counts rfl rfl (hs.lt rfl) rfl rfl (Nat.le_of_ble_eq_true rfl) (roomOK.of (by decide)) ⟨(Nat.le_of_ble_eq_true rfl), (Nat.le_of_ble_eq_true rfl)⟩ ?_
              refine r_ifeqb (tgt := 124) dX9_isUpheld_101 rfl (fun h101 => ?_) (fun h101 => ?_)
              · refine r_iconst dX9_isUpheld_124 ?_
                refine r_istore_n dX9_isUpheld_125 (Nat.le_of_ble_eq_true rfl) rfl s3 ?_
                refine r_iinc dX9_isUpheld_126 (Nat.le_of_ble_eq_true rfl) rfl rfl s4 ?_
                refine r_goto (tgt := 44) dX9_isUpheld_129 rfl ?_
                first
                | exact nx _ (bi_t (Or.inl ha1)).symm
                | exact nx _ (bi_t (Or.inr ⟨h70, h86, h101, h117⟩)).symm
                | (refine nx _ (bi_f (fun q => q.elim ha0 (fun q => ?_))).symm; obtain ⟨q1, q2, q3, q4⟩ := q; first | exact h70 q1 | exact h86 q2 | exact h101 q3 | omega)
              · refine r_aloadk_n dX9_isUpheld_104 rfl ?_
                refine r_getr dX9_isUpheld_105 fl_X9_48 rfl rfl (hs.lt rfl) (hs.rf rfl) ?_
                refine r_iload dX9_isUpheld_108 rfl ?_
                refine r_iald dX9_isUpheld_110 rfl (hs.lt rfl) rfl (by omega) ?_
                refine r_aloadk_n dX9_isUpheld_111 rfl ?_
                refine r_getr dX9_isUpheld_112 fl_X9_48 rfl rfl (hs.lt rfl) (hs.rf rfl) ?_
                refine r_iload_n dX9_isUpheld_115 rfl ?_
                refine r_iald dX9_isUpheld_116 rfl (hs.lt rfl) (c := h.toNat) (by omega) (by omega) ?_
                refine r_icmplt (tgt := 124) dX9_isUpheld_117 rfl (by first | exact hR _ (Nat.le_of_ble_eq_true rfl) _ | omega) (by first | exact hR _ (Nat.le_of_ble_eq_true rfl) _ | omega) (fun h117 => ?_) (fun h117 => ?_)
                · refine r_iconst dX9_isUpheld_124 ?_
                  refine r_istore_n dX9_isUpheld_125 (Nat.le_of_ble_eq_true rfl) rfl s3 ?_
                  refine r_iinc dX9_isUpheld_126 (Nat.le_of_ble_eq_true rfl) rfl rfl s4 ?_
                  refine r_goto (tgt := 44) dX9_isUpheld_129 rfl ?_
                  first
                  | exact nx _ (bi_t (Or.inl ha1)).symm
                  | exact nx _ (bi_t (Or.inr ⟨h70, h86, h101, h117⟩)).symm
                  | (refine nx _ (bi_f (fun q => q.elim ha0 (fun q => ?_))).symm; obtain ⟨q1, q2, q3, q4⟩ := q; first | exact h70 q1 | exact h86 q2 | exact h101 q3 | omega)
                · refine r_iconst dX9_isUpheld_120 ?_
                  refine r_goto (tgt := 125) dX9_isUpheld_121 rfl ?_
                  refine r_istore_n dX9_isUpheld_125 (Nat.le_of_ble_eq_true rfl) rfl s3 ?_
                  refine r_iinc dX9_isUpheld_126 (Nat.le_of_ble_eq_true rfl) rfl rfl s4 ?_
                  refine r_goto (tgt := 44) dX9_isUpheld_129 rfl ?_
                  first
                  | exact nx _ (bi_t (Or.inl ha1)).symm
                  | exact nx _ (bi_t (Or.inr ⟨h70, h86, h101, h117⟩)).symm
                  | (refine nx _ (bi_f (fun q => q.elim ha0 (fun q => ?_))).symm; obtain ⟨q1, q2, q3, q4⟩ := q; first | exact h70 q1 | exact h86 q2 | exact h101 q3 | omega)
  refine Ct.of (L0 := [rf G 38, iv o, xx, xx, xx]) (by decide +kernel) (Nat.le_of_ble_eq_true rfl) rfl ?_
  refine r_aloadk_n dX9_isUpheld_0 rfl ?_
  refine r_aloadk_n dX9_isUpheld_1 rfl ?_
  refine r_getr dX9_isUpheld_2 fl_X9_57 rfl rfl (hs.lt rfl) (hs.rf rfl) ?_
  refine r_iload_n dX9_isUpheld_5 rfl ?_
  refine r_iald dX9_isUpheld_6 rfl (hs.lt rfl) rfl (by omega) ?_
  rw [hcell]
  refine r_aloadk_n dX9_isUpheld_7 rfl ?_
  refine r_getr dX9_isUpheld_8 fl_X9_60 rfl rfl (hs.lt rfl) (hs.rf rfl) ?_
  refine r_iload_n dX9_isUpheld_11 rfl ?_
  refine r_iald dX9_isUpheld_12 rfl (hs.lt rfl) rfl (by omega) ?_
  refine q_callVr dX9_isUpheld_13 (hcon) ml_X9_202 okX9_holderOf rfl rfl (hs.lt rfl) rfl rfl (Nat.le_of_ble_eq_true rfl) (roomOK.of (by decide)) ⟨(Nat.le_of_ble_eq_true rfl), (Nat.le_of_ble_eq_true rfl)⟩ ?_
  refine r_istore_n dX9_isUpheld_16 (Nat.le_of_ble_eq_true rfl) rfl s2 ?_
  refine r_iload_n dX9_isUpheld_17 rfl ?_
  refine r_iconst dX9_isUpheld_18 ?_
  refine r_icmpeq (tgt := 37) dX9_isUpheld_19 rfl (by first | exact hR _ (Nat.le_of_ble_eq_true rfl) _ | omega) (by first | exact hR _ (Nat.le_of_ble_eq_true rfl) _ | omega) (fun h19 => ?_) (fun h19 => ?_)
  · refine r_iconst dX9_isUpheld_37 ?_
    exact r_iretz dX9_isUpheld_38 rfl (by omega) ⟨_, rfl, rfl, by
  refine (bi_f (fun q => ?_)).symm
  simp only [Bool.and_eq_true, Bool.not_eq_true', decide_eq_false_iff_not] at q
  first | exact q.1 h19 | exact q.2.1 h34⟩
  · refine r_aloadk_n dX9_isUpheld_22 rfl ?_
    refine r_getr dX9_isUpheld_23 fl_X9_42 rfl rfl (hs.lt rfl) (hs.rf rfl) ?_
    refine r_iload_n dX9_isUpheld_26 rfl ?_
    refine r_iald dX9_isUpheld_27 rfl (hs.lt rfl) (c := h.toNat) (by omega) (by omega) ?_
    refine r_aloadk_n dX9_isUpheld_28 rfl ?_
    refine r_getr dX9_isUpheld_29 fl_X9_54 rfl rfl (hs.lt rfl) (hs.rf rfl) ?_
    refine r_iload_n dX9_isUpheld_32 rfl ?_
    refine r_iald dX9_isUpheld_33 rfl (hs.lt rfl) rfl (by omega) ?_
    refine r_icmpne (tgt := 39) dX9_isUpheld_34 rfl (by first | exact hR _ (Nat.le_of_ble_eq_true rfl) _ | omega) (by first | exact hR _ (Nat.le_of_ble_eq_true rfl) _ | omega) (fun h34 => ?_) (fun h34 => ?_)
    · refine r_iconst dX9_isUpheld_39 ?_
      refine r_istore_n dX9_isUpheld_40 (Nat.le_of_ble_eq_true rfl) rfl s3 ?_
      refine r_iconst dX9_isUpheld_41 ?_
      refine r_istore dX9_isUpheld_42 (Nat.le_of_ble_eq_true rfl) rfl s4 ?_
      exact loop C 0 _ (by omega) (bi_f (fun q => by cases q)).symm (by omega) h34
    · refine r_iconst dX9_isUpheld_37 ?_
      exact r_iretz dX9_isUpheld_38 rfl (by omega) ⟨_, rfl, rfl, by
  refine (bi_f (fun q => ?_)).symm
  simp only [Bool.and_eq_true, Bool.not_eq_true', decide_eq_false_iff_not] at q
  first | exact q.1 h19 | exact q.2.1 h34⟩
theorem m_objectionOn (hs : Std n ρ) (hR : Rg σ) (hrd : ∀ c, 0 ≤ σ 41 c ∧ σ 41 c ≤ 1) (hC : σ 38 13 = C) (hC4 : C ≤ 40) (hO : σ 38 18 = O) (hO2 : O ≤ 20) (cl : Int) (hcl : ClO σ C cl) (hoc : ∀ o, o < O → 0 ≤ σ 52 o ∧ σ 52 o < 80) (cell day : Int) (hce : R32 cell) (hd : R32 day) : RdI l G 3 mX9_objectionOn n ρ σ [rf G 38, iv cell, iv day] (fstN (objF (σ 40) (σ 41) (σ 47) (σ 48) (σ 49) (σ 50) (σ 51) (σ 52) (σ 53) C cell day cl) O) := by
  generalize hF : objF (σ 40) (σ 41) (σ 47) (σ 48) (σ 49) (σ 50) (σ 51) (σ 52) (σ 53) C cell day cl = F
  have hFt : ∀ o, F o = true ↔ (σ 52 o = cell ∧ σ 53 o ≤ day) ∧ uphB (σ 40) (σ 41) (σ 47) (σ 48) (σ 49) (σ 50) (σ 51) (σ 52) (σ 53) C cl o = true := by
    intro o
    rw [← hF]
    unfold objF
    rw [Bool.and_eq_true, decide_eq_true_iff]
  have loop : ∀ (m i : Nat), i + m = O → fstN F i = -1 → RW (KI l G 3 mX9_objectionOn n ρ (fun σ' z => σ' = σ ∧ z = fstN F O)) (0, 0, n, ρ) σ 2 [rf G 38, iv cell, iv day, iv i] [] := by
    intro m
    induction m with
    | zero =>
      intro i hi hf
      have e : i = O := by omega
      refine r_iload_n dX9_objectionOn_2 rfl ?_
      refine r_aloadk_n dX9_objectionOn_3 rfl ?_
      refine r_geti dX9_objectionOn_4 fl_X9_145 rfl rfl (hs.lt rfl) ?_
      refine r_icmpge (tgt := 46) dX9_objectionOn_7 rfl (by first | exact hR _ (Nat.le_of_ble_eq_true rfl) _ | omega) (by first | exact hR _ (Nat.le_of_ble_eq_true rfl) _ | omega) (fun h7 => ?_) (fun h7 => ?_)
      · refine r_iconst dX9_objectionOn_46 ?_
        exact r_ireti dX9_objectionOn_47 rfl ⟨_, rfl, rfl, by rw [← e, hf]⟩
      · omega
    | succ m ih =>
      intro i hi hf
      refine r_iload_n dX9_objectionOn_2 rfl ?_
      refine r_aloadk_n dX9_objectionOn_3 rfl ?_
      refine r_geti dX9_objectionOn_4 fl_X9_145 rfl rfl (hs.lt rfl) ?_
      refine r_icmpge (tgt := 46) dX9_objectionOn_7 rfl (by first | exact hR _ (Nat.le_of_ble_eq_true rfl) _ | omega) (by first | exact hR _ (Nat.le_of_ble_eq_true rfl) _ | omega) (fun h7 => ?_) (fun h7 => ?_)
      · omega
      · refine r_aloadk_n dX9_objectionOn_10 rfl ?_
        refine r_getr dX9_objectionOn_11 fl_X9_57 rfl rfl (hs.lt rfl) (hs.rf rfl) ?_
        refine r_iload_n dX9_objectionOn_14 rfl ?_
        refine r_iald dX9_objectionOn_15 rfl (hs.lt rfl) rfl (by omega) ?_
        refine r_iload_n dX9_objectionOn_16 rfl ?_
        refine r_icmpne (tgt := 40) dX9_objectionOn_17 rfl (by first | exact hR _ (Nat.le_of_ble_eq_true rfl) _ | omega) (by first | exact hR _ (Nat.le_of_ble_eq_true rfl) _ | omega) (fun h17 => ?_) (fun h17 => ?_)
        · refine r_iinc dX9_objectionOn_40 (Nat.le_of_ble_eq_true rfl) rfl rfl s3 ?_
          refine r_goto (tgt := 2) dX9_objectionOn_43 rfl ?_
          refine ih (i + 1) (by omega) (fstN_miss hf (Bool.eq_false_iff.mpr (fun q => ?_)))
          have q := (hFt i).mp q
          first | exact h17 q.1.1 | (have := q.1.2; omega) | exact h35 q.2
        · refine r_aloadk_n dX9_objectionOn_20 rfl ?_
          refine r_getr dX9_objectionOn_21 fl_X9_60 rfl rfl (hs.lt rfl) (hs.rf rfl) ?_
          refine r_iload_n dX9_objectionOn_24 rfl ?_
          refine r_iald dX9_objectionOn_25 rfl (hs.lt rfl) rfl (by omega) ?_
          refine r_iload_n dX9_objectionOn_26 rfl ?_
          refine r_icmpgt (tgt := 40) dX9_objectionOn_27 rfl (by first | exact hR _ (Nat.le_of_ble_eq_true rfl) _ | omega) (by first | exact hR _ (Nat.le_of_ble_eq_true rfl) _ | omega) (fun h27 => ?_) (fun h27 => ?_)
          · refine r_iinc dX9_objectionOn_40 (Nat.le_of_ble_eq_true rfl) rfl rfl s3 ?_
            refine r_goto (tgt := 2) dX9_objectionOn_43 rfl ?_
            refine ih (i + 1) (by omega) (fstN_miss hf (Bool.eq_false_iff.mpr (fun q => ?_)))
            have q := (hFt i).mp q
            first | exact h17 q.1.1 | (have := q.1.2; omega) | exact h35 q.2
          · refine r_aloadk_n dX9_objectionOn_30 rfl ?_
            refine r_iload_n dX9_objectionOn_31 rfl ?_
            refine q_callVr dX9_objectionOn_32 (m_isUpheld hs hR hrd hC hC4 cl hcl i (by omega) (hoc i (by omega))) ml_X9_205 okX9_isUpheld rfl rfl (hs.lt rfl) rfl rfl (Nat.le_of_ble_eq_true rfl) (roomOK.of (by decide)) ⟨(Nat.le_of_ble_eq_true rfl), (Nat.le_of_ble_eq_true rfl)⟩ ?_
            refine r_ifeqb (tgt := 40) dX9_objectionOn_35 rfl (fun h35 => ?_) (fun h35 => ?_)
            · refine r_iinc dX9_objectionOn_40 (Nat.le_of_ble_eq_true rfl) rfl rfl s3 ?_
              refine r_goto (tgt := 2) dX9_objectionOn_43 rfl ?_
              refine ih (i + 1) (by omega) (fstN_miss hf (Bool.eq_false_iff.mpr (fun q => ?_)))
              have q := (hFt i).mp q
              first | exact h17 q.1.1 | (have := q.1.2; omega) | exact h35 q.2
            · refine r_iload_n dX9_objectionOn_38 rfl ?_
              exact r_ireti dX9_objectionOn_39 rfl ⟨_, rfl, rfl, (fstN_hit' hf ((hFt i).mpr ⟨⟨h17, h27⟩, h35⟩) (by omega)).symm⟩
  refine Ct.of (L0 := [rf G 38, iv cell, iv day, xx]) (by decide +kernel) (Nat.le_of_ble_eq_true rfl) rfl ?_
  refine r_iconst dX9_objectionOn_0 ?_
  refine r_istore_n dX9_objectionOn_1 (Nat.le_of_ble_eq_true rfl) rfl s3 ?_
  exact loop O 0 (by omega) rfl
end Model8
