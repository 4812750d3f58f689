/-! MODEL: land, cells, surveys -/
theorem up_id {σ : Si} {k j : Nat} {z : Int} (h : σ k j = z) : up σ k j z = σ := by
  funext a b
  unfold up
  split
  · rename_i q; rw [q.1, q.2, h]
  · rfl
theorem ud_fil {w : Nat → Int} {i : Nat} {z : Int} : ud (filW w i z) i z = filW w (i + 1) z := by
  funext b
  unfold ud filW
  by_cases h : b = i
  · rw [if_pos h, if_pos (by omega)]
  · rw [if_neg h]
    by_cases h2 : b < i
    · rw [if_pos h2, if_pos (by omega)]
    · rw [if_neg h2, if_neg (by omega)]
theorem fil_0 {w : Nat → Int} {z : Int} : filW w 0 z = w := by funext b; unfold filW; rw [if_neg (by omega)]
/-- the model's roll -/
def ClmM (σ : Si) (P C O : Nat) : Prop := σ 38 10 = P ∧ P ≤ 8 ∧ σ 38 13 = C ∧ C ≤ 40 ∧ σ 38 18 = O ∧ O ≤ 20 ∧ (∀ i, i < C → (0 ≤ σ 47 i ∧ σ 47 i < P) ∧ (0 ≤ σ 48 i ∧ σ 48 i ≤ 150) ∧ (0 ≤ σ 50 i ∧ σ 50 i ≤ 999) ∧ 0 ≤ σ 49 i) ∧ (∀ o, o < O → (0 ≤ σ 51 o ∧ σ 51 o < P) ∧ (0 ≤ σ 52 o ∧ σ 52 o < 80))
/-- what holds of the model between calls -/
def JM (σ : Si) (W H P C O : Nat) : Prop := Rg σ ∧ σ 38 0 = 0 ∧ (σ 38 1 = W ∧ σ 38 2 = H ∧ (2 ≤ W ∧ W ≤ 10) ∧ (2 ≤ H ∧ H ≤ 8)) ∧ (∀ c, 0 ≤ σ 39 c ∧ σ 39 c ≤ 9) ∧ (∀ c, 0 ≤ σ 40 c ∧ σ 40 c ≤ 2) ∧ (∀ c, 0 ≤ σ 41 c ∧ σ 41 c ≤ 1) ∧ ClmM σ P C O ∧ ((0 ≤ σ 38 22 ∧ σ 38 22 ≤ 999) ∧ (0 ≤ σ 38 23 ∧ σ 38 23 ≤ 999) ∧ (0 ≤ σ 38 24 ∧ σ 38 24 ≤ 50) ∧ (0 ≤ σ 38 25 ∧ σ 38 25 ≤ 1000) ∧ (0 ≤ σ 38 26 ∧ σ 38 26 ≤ 50)) ∧ (0 ≤ σ 38 6 ∧ σ 38 6 ≤ 900000) ∧ (∀ p, p < P → 0 ≤ σ 46 p ∧ σ 46 p < (W * H : Nat)) ∧ (∀ p, p < P → σ 55 p = 0 ∨ ((1 ≤ σ 55 p ∧ σ 55 p ≤ 10) ∧ (1 ≤ σ 56 p ∧ σ 56 p ≤ 10) ∧ (0 ≤ σ 54 p ∧ σ 54 p < (W * H : Nat)))) ∧ (∀ p, p < P → -1 ≤ σ 57 p ∧ σ 57 p ≤ 999) ∧ (∀ s, s < 3 → (-1 ≤ σ 42 s ∧ σ 42 s ≤ 2) ∧ (0 ≤ σ 43 s ∧ σ 43 s ≤ 80))
abbrev GeoM (σ : Si) (W H : Nat) : Prop := σ 38 1 = W ∧ σ 38 2 = H ∧ (2 ≤ W ∧ W ≤ 10) ∧ (2 ≤ H ∧ H ≤ 8)
section Model
variable {l : Launch} {G : GG} {n : Nat} {ρ : Rho} {σ : Si} {W H P C O : Nat}
theorem m_cells (hs : Std n ρ) (g : GeoM σ W H) : RdI l G 0 mX9_cells n ρ σ [rf G 38] (W * H : Nat) := by
  refine Ct.of (L0 := [rf G 38]) (by decide +kernel) (Nat.le_of_ble_eq_true rfl) rfl ?_
  refine r_aloadk_n dX9_cells_0 rfl ?_
  refine r_geti dX9_cells_1 fl_X9_7 rfl rfl (hs.lt rfl) ?_
  refine r_aloadk_n dX9_cells_4 rfl ?_
  refine r_geti dX9_cells_5 fl_X9_13 rfl rfl (hs.lt rfl) ?_
  refine r_imul dX9_cells_8 ?_
  exact r_ireti dX9_cells_9 rfl ⟨_, rfl, rfl, by rw [g.1, g.2.1]; simp⟩
theorem m_isCell (hs : Std n ρ) (g : GeoM σ W H) (c : Int) (hc : R32 c) : RdI l G 1 mX9_isCell n ρ σ [rf G 38, iv c] (bi (0 ≤ c ∧ c < (W * H : Nat))) := by
  have hle := WH_le g.2.2.1.2 g.2.2.2.2
  have kw : RdI l G 0 mX9_in n ρ σ [iv c, iv 0, iv ((W * H : Nat) - 1)] (bi (0 ≤ c ∧ c < (W * H : Nat))) := by
    have h := c_in (l := l) (G := G) (n := n) (ρ := ρ) (σ := σ) c 0 ((W * H : Nat) - 1) hc (by omega) (by omega)
    rw [bi_iff (show (0 ≤ c ∧ c ≤ ((W * H : Nat) : Int) - 1) ↔ (0 ≤ c ∧ c < ((W * H : Nat) : Int)) by omega)] at h
    exact h
  refine Ct.of (L0 := [rf G 38, iv c]) (by decide +kernel) (Nat.le_of_ble_eq_true rfl) rfl ?_
  refine r_iload_n dX9_isCell_0 rfl ?_
  refine r_iconst dX9_isCell_1 ?_
  refine r_aloadk_n dX9_isCell_2 rfl ?_
  refine q_callVr dX9_isCell_3 (m_cells hs g) ml_X9_148 okX9_cells rfl rfl (hs.lt rfl) rfl rfl (Nat.le_of_ble_eq_true rfl) (roomOK.of (by decide)) ⟨(Nat.le_of_ble_eq_true rfl), (Nat.le_of_ble_eq_true rfl)⟩ ?_
  refine r_iconst dX9_isCell_6 ?_
  refine r_isub dX9_isCell_7 ?_
  refine q_callSr dX9_isCell_8 (kw) ml_X9_152 okX9_in rfl rfl (Nat.le_of_ble_eq_true rfl) (roomOK.of (by decide)) ⟨(Nat.le_of_ble_eq_true rfl), (Nat.le_of_ble_eq_true rfl)⟩ ?_
  exact r_iretz dX9_isCell_11 rfl (bi_01 _) ⟨_, rfl, rfl, rfl⟩
theorem m_isPerson (hs : Std n ρ) (hP : σ 38 10 = P) (hP8 : P ≤ 8) (c : Int) (hc : R32 c) : RdI l G 1 mX9_isPerson n ρ σ [rf G 38, iv c] (bi (0 ≤ c ∧ c < (P : Int))) := by
  have kw : RdI l G 0 mX9_in n ρ σ [iv c, iv 0, iv (σ 38 10 - 1)] (bi (0 ≤ c ∧ c < (P : Int))) := by
    have h := c_in (l := l) (G := G) (n := n) (ρ := ρ) (σ := σ) c 0 (σ 38 10 - 1) hc (by omega) (by omega)
    rw [bi_iff (show (0 ≤ c ∧ c ≤ σ 38 10 - 1) ↔ (0 ≤ c ∧ c < (P : Int)) by omega)] at h
    exact h
  refine Ct.of (L0 := [rf G 38, iv c]) (by decide +kernel) (Nat.le_of_ble_eq_true rfl) rfl ?_
  refine r_iload_n dX9_isPerson_0 rfl ?_
  refine r_iconst dX9_isPerson_1 ?_
  refine r_aloadk_n dX9_isPerson_2 rfl ?_
  refine r_geti dX9_isPerson_3 fl_X9_139 rfl rfl (hs.lt rfl) ?_
  refine r_iconst dX9_isPerson_6 ?_
  refine r_isub dX9_isPerson_7 ?_
  refine q_callSr dX9_isPerson_8 (kw) ml_X9_152 okX9_in rfl rfl (Nat.le_of_ble_eq_true rfl) (roomOK.of (by decide)) ⟨(Nat.le_of_ble_eq_true rfl), (Nat.le_of_ble_eq_true rfl)⟩ ?_
  exact r_iretz dX9_isPerson_11 rfl (bi_01 _) ⟨_, rfl, rfl, rfl⟩
theorem m_isDay (d : Int) (hd : R32 d) : RdI l G 1 mX9_isDay n ρ σ [iv d] (bi (0 ≤ d ∧ d ≤ 999)) := by
  refine Ct.of (L0 := [iv d]) (by decide +kernel) (Nat.le_of_ble_eq_true rfl) rfl ?_
  refine r_iload_n dX9_isDay_0 rfl ?_
  refine r_iconst dX9_isDay_1 ?_
  refine r_sipush dX9_isDay_2 ?_
  refine q_callSr dX9_isDay_5 (c_in d 0 999 hd (by omega) (by omega)) ml_X9_152 okX9_in rfl rfl (Nat.le_of_ble_eq_true rfl) (roomOK.of (by decide)) ⟨(Nat.le_of_ble_eq_true rfl), (Nat.le_of_ble_eq_true rfl)⟩ ?_
  exact r_iretz dX9_isDay_8 rfl (bi_01 _) ⟨_, rfl, rfl, rfl⟩
theorem m_isSurvey (d : Int) (hd : R32 d) : RdI l G 1 mX9_isSurvey n ρ σ [iv d] (bi (0 ≤ d ∧ d ≤ 2)) := by
  refine Ct.of (L0 := [iv d]) (by decide +kernel) (Nat.le_of_ble_eq_true rfl) rfl ?_
  refine r_iload_n dX9_isSurvey_0 rfl ?_
  refine r_iconst dX9_isSurvey_1 ?_
  refine r_iconst dX9_isSurvey_2 ?_
  refine q_callSr dX9_isSurvey_3 (c_in d 0 2 hd (by omega) (by omega)) ml_X9_152 okX9_in rfl rfl (Nat.le_of_ble_eq_true rfl) (roomOK.of (by decide)) ⟨(Nat.le_of_ble_eq_true rfl), (Nat.le_of_ble_eq_true rfl)⟩ ?_
  exact r_iretz dX9_isSurvey_6 rfl (bi_01 _) ⟨_, rfl, rfl, rfl⟩
theorem m_isPlain (hs : Std n ρ) (hR : Rg σ) (c : Nat) (hc : c < 80) : RdI l G 0 mX9_isPlain n ρ σ [rf G 38, iv c] (bi (¬ σ 40 c = 2 ∧ σ 41 c = 0)) := by
  refine Ct.of (L0 := [rf G 38, iv c]) (by decide +kernel) (Nat.le_of_ble_eq_true rfl) rfl ?_
  refine r_aloadk_n dX9_isPlain_0 rfl ?_
  refine r_getr dX9_isPlain_1 fl_X9_20 rfl rfl (hs.lt rfl) (hs.rf rfl) ?_
  refine r_iload_n dX9_isPlain_4 rfl ?_
  refine r_iald dX9_isPlain_5 rfl (hs.lt rfl) rfl (by omega) ?_
  refine r_iconst dX9_isPlain_6 ?_
  refine r_icmpeq (tgt := 23) dX9_isPlain_7 rfl (by first | exact hR _ (Nat.le_of_ble_eq_true rfl) _ | omega) (by first | exact hR _ (Nat.le_of_ble_eq_true rfl) _ | omega) (fun h7 => ?_) (fun h7 => ?_)
  · refine r_iconst dX9_isPlain_23 ?_
    exact r_iretz dX9_isPlain_24 rfl (by omega) ⟨_, rfl, rfl, by unfold bi; split <;> omega⟩
  · refine r_aloadk_n dX9_isPlain_10 rfl ?_
    refine r_getr dX9_isPlain_11 fl_X9_23 rfl rfl (hs.lt rfl) (hs.rf rfl) ?_
    refine r_iload_n dX9_isPlain_14 rfl ?_
    refine r_zald dX9_isPlain_15 rfl (hs.lt rfl) rfl (by omega) ?_
    refine r_ifne (tgt := 23) dX9_isPlain_16 rfl (by first | exact hR _ (Nat.le_of_ble_eq_true rfl) _ | omega) (fun h16 => ?_) (fun h16 => ?_)
    · refine r_iconst dX9_isPlain_23 ?_
      exact r_iretz dX9_isPlain_24 rfl (by omega) ⟨_, rfl, rfl, by unfold bi; split <;> omega⟩
    · refine r_iconst dX9_isPlain_19 ?_
      refine r_goto (tgt := 24) dX9_isPlain_20 rfl ?_
      exact r_iretz dX9_isPlain_24 rfl (by omega) ⟨_, rfl, rfl, by unfold bi; split <;> omega⟩
/-- the model's order of sides: left, right, above, below -/
def sdM : Nat → Nat
  | 0 => 1
  | 1 => 2
  | 2 => 0
  | _ => 3
theorem m_beside (hs : Std n ρ) (g : GeoM σ W H) (c side : Nat) (hc : c < W * H) (hsd : side < 4) : RdI l G 0 mX9_beside n ρ σ [rf G 38, iv c, iv side] (nb W H c (sdM side)) := by
  have hle := WH_le g.2.2.1.2 g.2.2.2.2
  obtain ⟨g1, g2, g3, g4⟩ := id g
  have p1 := Int.natCast_nonneg (c / W)
  have p2 := Int.natCast_nonneg (c % W)
  have p3 := Nat.mod_lt c (show 0 < W by omega)
  have p4 : c / W < H := Nat.div_lt_of_lt_mul hc
  generalize hx : c % W = x at p2 p3
  generalize hy : c / W = y at p1 p4
  refine Ct.of (L0 := [rf G 38, iv c, iv side, xx, xx]) (by decide +kernel) (Nat.le_of_ble_eq_true rfl) rfl ?_
  refine r_iload_n dX9_beside_0 rfl ?_
  refine r_aloadk_n dX9_beside_1 rfl ?_
  refine r_geti dX9_beside_2 fl_X9_7 rfl rfl (hs.lt rfl) ?_
  refine r_irem dX9_beside_5 (by omega) (by omega) ?_
  rw [show iv ((c : Int) % σ 38 1) = iv (x : Int) by rw [g1, ← hx]; rfl]
  refine r_istore_n dX9_beside_6 (Nat.le_of_ble_eq_true rfl) rfl s3 ?_
  refine r_iload_n dX9_beside_7 rfl ?_
  refine r_aloadk_n dX9_beside_8 rfl ?_
  refine r_geti dX9_beside_9 fl_X9_7 rfl rfl (hs.lt rfl) ?_
  refine r_idiv dX9_beside_12 (by omega) (by omega) ?_
  rw [show iv ((c : Int) / σ 38 1) = iv (y : Int) by rw [g1, ← hy]; rfl]
  refine r_istore dX9_beside_13 (Nat.le_of_ble_eq_true rfl) rfl s4 ?_
  refine r_iload_n dX9_beside_15 rfl ?_
  refine r_ifne (tgt := 31) dX9_beside_16 rfl (by omega) (fun h16 => ?_) (fun h16 => ?_)
  · refine r_iload_n dX9_beside_31 rfl ?_
    refine r_iconst dX9_beside_32 ?_
    refine r_icmpne (tgt := 54) dX9_beside_33 rfl (by omega) (by omega) (fun h33 => ?_) (fun h33 => ?_)
    · refine r_iload_n dX9_beside_54 rfl ?_
      refine r_iconst dX9_beside_55 ?_
      refine r_icmpne (tgt := 77) dX9_beside_56 rfl (by omega) (by omega) (fun h56 => ?_) (fun h56 => ?_)
      · refine r_iload dX9_beside_77 rfl ?_
        refine r_iconst dX9_beside_79 ?_
        refine r_iadd dX9_beside_80 ?_
        refine r_aloadk_n dX9_beside_81 rfl ?_
        refine r_geti dX9_beside_82 fl_X9_13 rfl rfl (hs.lt rfl) ?_
        refine r_icmpge (tgt := 97) dX9_beside_85 rfl (by omega) (by omega) (fun h85 => ?_) (fun h85 => ?_)
        · refine r_iconst dX9_beside_97 ?_
          exact r_ireti dX9_beside_98 rfl ⟨_, rfl, rfl, by
  first
  | (rw [show side = 2 by omega]; show _ = nb W H c 0; rw [nb0, hy]; split <;> omega)
  | (rw [show side = 3 by omega]; show _ = nb W H c 3; rw [nb3, hy]; split <;> omega)⟩
        · refine r_iload_n dX9_beside_88 rfl ?_
          refine r_aloadk_n dX9_beside_89 rfl ?_
          refine r_geti dX9_beside_90 fl_X9_7 rfl rfl (hs.lt rfl) ?_
          refine r_iadd dX9_beside_93 ?_
          refine r_goto (tgt := 98) dX9_beside_94 rfl ?_
          exact r_ireti dX9_beside_98 rfl ⟨_, rfl, rfl, by
  first
  | (rw [show side = 2 by omega]; show _ = nb W H c 0; rw [nb0, hy]; split <;> omega)
  | (rw [show side = 3 by omega]; show _ = nb W H c 3; rw [nb3, hy]; split <;> omega)⟩
      · refine r_iload dX9_beside_59 rfl ?_
        refine r_ifle (tgt := 73) dX9_beside_61 rfl (by omega) (fun h61 => ?_) (fun h61 => ?_)
        · refine r_iconst dX9_beside_73 ?_
          refine r_goto (tgt := 98) dX9_beside_74 rfl ?_
          exact r_ireti dX9_beside_98 rfl ⟨_, rfl, rfl, by
  first
  | (rw [show side = 2 by omega]; show _ = nb W H c 0; rw [nb0, hy]; split <;> omega)
  | (rw [show side = 3 by omega]; show _ = nb W H c 3; rw [nb3, hy]; split <;> omega)⟩
        · refine r_iload_n dX9_beside_64 rfl ?_
          refine r_aloadk_n dX9_beside_65 rfl ?_
          refine r_geti dX9_beside_66 fl_X9_7 rfl rfl (hs.lt rfl) ?_
          refine r_isub dX9_beside_69 ?_
          refine r_goto (tgt := 98) dX9_beside_70 rfl ?_
          exact r_ireti dX9_beside_98 rfl ⟨_, rfl, rfl, by
  first
  | (rw [show side = 2 by omega]; show _ = nb W H c 0; rw [nb0, hy]; split <;> omega)
  | (rw [show side = 3 by omega]; show _ = nb W H c 3; rw [nb3, hy]; split <;> omega)⟩
    · refine r_iload_n dX9_beside_36 rfl ?_
      refine r_iconst dX9_beside_37 ?_
      refine r_iadd dX9_beside_38 ?_
      refine r_aloadk_n dX9_beside_39 rfl ?_
      refine r_geti dX9_beside_40 fl_X9_7 rfl rfl (hs.lt rfl) ?_
      refine r_icmpge (tgt := 52) dX9_beside_43 rfl (by omega) (by omega) (fun h43 => ?_) (fun h43 => ?_)
      · refine r_iconst dX9_beside_52 ?_
        exact r_ireti dX9_beside_53 rfl ⟨_, rfl, rfl, by rw [show side = 1 by omega]; show _ = nb W H c 2; rw [nb2, hx]; split <;> omega⟩
      · refine r_iload_n dX9_beside_46 rfl ?_
        refine r_iconst dX9_beside_47 ?_
        refine r_iadd dX9_beside_48 ?_
        refine r_goto (tgt := 53) dX9_beside_49 rfl ?_
        exact r_ireti dX9_beside_53 rfl ⟨_, rfl, rfl, by rw [show side = 1 by omega]; show _ = nb W H c 2; rw [nb2, hx]; split <;> omega⟩
  · refine r_iload_n dX9_beside_19 rfl ?_
    refine r_ifle (tgt := 29) dX9_beside_20 rfl (by omega) (fun h20 => ?_) (fun h20 => ?_)
    · refine r_iconst dX9_beside_29 ?_
      exact r_ireti dX9_beside_30 rfl ⟨_, rfl, rfl, by rw [show side = 0 by omega]; show _ = nb W H c 1; rw [nb1, hx]; split <;> omega⟩
    · refine r_iload_n dX9_beside_23 rfl ?_
      refine r_iconst dX9_beside_24 ?_
      refine r_isub dX9_beside_25 ?_
      refine r_goto (tgt := 30) dX9_beside_26 rfl ?_
      exact r_ireti dX9_beside_30 rfl ⟨_, rfl, rfl, by rw [show side = 0 by omega]; show _ = nb W H c 1; rw [nb1, hx]; split <;> omega⟩
theorem m_toldOf (hs : Std n ρ) (hR : Rg σ) (hr : ∀ c, 0 ≤ σ 41 c ∧ σ 41 c ≤ 1) (c w : Nat) (hc : c < 80) (hw : w < 3) : RdI l G 0 mX9_toldOf n ρ σ [rf G 38, iv c, iv w] (σ (39 + w) c) := by
  have := hr c
  refine Ct.of (L0 := [rf G 38, iv c, iv w]) (by decide +kernel) (Nat.le_of_ble_eq_true rfl) rfl ?_
  refine r_iload_n dX9_toldOf_0 rfl ?_
  refine r_ifne (tgt := 13) dX9_toldOf_1 rfl (by first | exact hR _ (Nat.le_of_ble_eq_true rfl) _ | omega) (fun h1 => ?_) (fun h1 => ?_)
  · refine r_iload_n dX9_toldOf_13 rfl ?_
    refine r_iconst dX9_toldOf_14 ?_
    refine r_icmpne (tgt := 27) dX9_toldOf_15 rfl (by first | exact hR _ (Nat.le_of_ble_eq_true rfl) _ | omega) (by first | exact hR _ (Nat.le_of_ble_eq_true rfl) _ | omega) (fun h15 => ?_) (fun h15 => ?_)
    · refine r_aloadk_n dX9_toldOf_27 rfl ?_
      refine r_getr dX9_toldOf_28 fl_X9_23 rfl rfl (hs.lt rfl) (hs.rf rfl) ?_
      refine r_iload_n dX9_toldOf_31 rfl ?_
      refine r_zald dX9_toldOf_32 rfl (hs.lt rfl) rfl (by omega) ?_
      refine r_ifeq (tgt := 40) dX9_toldOf_33 rfl (by first | exact hR _ (Nat.le_of_ble_eq_true rfl) _ | omega) (fun h33 => ?_) (fun h33 => ?_)
      · refine r_iconst dX9_toldOf_40 ?_
        exact r_ireti dX9_toldOf_41 rfl ⟨_, rfl, rfl, by
  rcases (show w = 0 ∨ w = 1 ∨ w = 2 by omega) with rfl | rfl | rfl <;> first | rfl | (show _ = σ 41 c; omega) | omega⟩
      · refine r_iconst dX9_toldOf_36 ?_
        refine r_goto (tgt := 41) dX9_toldOf_37 rfl ?_
        exact r_ireti dX9_toldOf_41 rfl ⟨_, rfl, rfl, by
  rcases (show w = 0 ∨ w = 1 ∨ w = 2 by omega) with rfl | rfl | rfl <;> first | rfl | (show _ = σ 41 c; omega) | omega⟩
    · refine r_aloadk_n dX9_toldOf_18 rfl ?_
      refine r_getr dX9_toldOf_19 fl_X9_20 rfl rfl (hs.lt rfl) (hs.rf rfl) ?_
      refine r_iload_n dX9_toldOf_22 rfl ?_
      refine r_iald dX9_toldOf_23 rfl (hs.lt rfl) rfl (by omega) ?_
      refine r_goto (tgt := 41) dX9_toldOf_24 rfl ?_
      exact r_ireti dX9_toldOf_41 rfl ⟨_, rfl, rfl, by
  rcases (show w = 0 ∨ w = 1 ∨ w = 2 by omega) with rfl | rfl | rfl <;> first | rfl | (show _ = σ 41 c; omega) | omega⟩
  · refine r_aloadk_n dX9_toldOf_4 rfl ?_
    refine r_getr dX9_toldOf_5 fl_X9_16 rfl rfl (hs.lt rfl) (hs.rf rfl) ?_
    refine r_iload_n dX9_toldOf_8 rfl ?_
    refine r_iald dX9_toldOf_9 rfl (hs.lt rfl) rfl (by omega) ?_
    refine r_goto (tgt := 41) dX9_toldOf_10 rfl ?_
    exact r_ireti dX9_toldOf_41 rfl ⟨_, rfl, rfl, by
  rcases (show w = 0 ∨ w = 1 ∨ w = 2 by omega) with rfl | rfl | rfl <;> first | rfl | (show _ = σ 41 c; omega) | omega⟩
theorem m_told (hs : Std n ρ) (hJ : JM σ W H P C O) (x1 x2 : Int) (h1 : R32 x1) (h2 : R32 x2) : RdI l G 2 mX9_told n ρ σ [rf G 38, iv x1, iv x2] (if (0 ≤ x1 ∧ x1 < (W * H : Nat)) ∧ (0 ≤ x2 ∧ x2 ≤ 2) then σ (39 + x2.toNat) x1.toNat else -3) := by
  obtain ⟨hR, t0, g, j3, j4, j5, j6, j7, j8, j9, j10, j11, j12⟩ := id hJ
  have hle := WH_le g.2.2.1.2 g.2.2.2.2
  refine Ct.of (L0 := [rf G 38, iv x1, iv x2]) (by decide +kernel) (Nat.le_of_ble_eq_true rfl) rfl ?_
  refine r_aloadk_n dX9_told_0 rfl ?_
  refine r_iconst dX9_told_1 ?_
  refine r_puti dX9_told_2 fl_X9_133 rfl (hs.lt rfl) ?_
  rw [up_id t0]
  refine r_aloadk_n dX9_told_5 rfl ?_
  refine r_iload_n dX9_told_6 rfl ?_
  refine q_callVr dX9_told_7 (m_isCell hs g x1 h1) ml_X9_156 okX9_isCell rfl rfl (hs.lt rfl) rfl rfl (Nat.le_of_ble_eq_true rfl) (roomOK.of (by decide)) ⟨(Nat.le_of_ble_eq_true rfl), (Nat.le_of_ble_eq_true rfl)⟩ ?_
  refine r_ifeqb (tgt := 31) dX9_told_10 rfl (fun h10 => ?_) (fun h10 => ?_)
  · refine r_bipush dX9_told_31 ?_
    exact r_ireti dX9_told_33 rfl ⟨_, rfl, rfl, by first | rw [if_neg (by omega)] | rw [if_pos ⟨h10, h19⟩]; rfl⟩
  · refine r_iload_n dX9_told_13 rfl ?_
    refine r_iconst dX9_told_14 ?_
    refine r_iconst dX9_told_15 ?_
    refine q_callSr dX9_told_16 (c_in x2 0 2 h2 (by omega) (by omega)) ml_X9_152 okX9_in rfl rfl (Nat.le_of_ble_eq_true rfl) (roomOK.of (by decide)) ⟨(Nat.le_of_ble_eq_true rfl), (Nat.le_of_ble_eq_true rfl)⟩ ?_
    refine r_ifeqb (tgt := 31) dX9_told_19 rfl (fun h19 => ?_) (fun h19 => ?_)
    · refine r_bipush dX9_told_31 ?_
      exact r_ireti dX9_told_33 rfl ⟨_, rfl, rfl, by first | rw [if_neg (by omega)] | rw [if_pos ⟨h10, h19⟩]; rfl⟩
    · obtain ⟨c, rfl⟩ : ∃ c : Nat, x1 = c := ⟨x1.toNat, by omega⟩
      obtain ⟨w, rfl⟩ : ∃ w : Nat, x2 = w := ⟨x2.toNat, by omega⟩
      refine r_aloadk_n dX9_told_22 rfl ?_
      refine r_iload_n dX9_told_23 rfl ?_
      refine r_iload_n dX9_told_24 rfl ?_
      refine q_callVr dX9_told_25 (m_toldOf hs hR j5 c w (by omega) (by omega)) ml_X9_160 okX9_toldOf rfl rfl (hs.lt rfl) rfl rfl (Nat.le_of_ble_eq_true rfl) (roomOK.of (by decide)) ⟨(Nat.le_of_ble_eq_true rfl), (Nat.le_of_ble_eq_true rfl)⟩ ?_
      refine r_goto (tgt := 33) dX9_told_28 rfl ?_
      exact r_ireti dX9_told_33 rfl ⟨_, rfl, rfl, by first | rw [if_neg (by omega)] | rw [if_pos ⟨h10, h19⟩]; rfl⟩
theorem m_cell (hs : Std n ρ) (hJ : JM σ W H P C O) (x1 x2 x3 : Int) (h1 : R32 x1) (h2 : R32 x2) (h3 : R32 x3) : CtI l G 2 mX9_cell n ρ σ [rf G 38, iv x1, iv x2, iv x3] (fun σ' z => (¬ ((0 ≤ x1 ∧ x1 < (W * H : Nat)) ∧ (0 ≤ x2 ∧ x2 ≤ 2) ∧ (0 ≤ x3 ∧ x3 ≤ mostMark x2.toNat)) ∧ z = -3 ∧ σ' = σ) ∨ ((0 ≤ x1 ∧ x1 < (W * H : Nat)) ∧ (0 ≤ x2 ∧ x2 ≤ 2) ∧ (0 ≤ x3 ∧ x3 ≤ mostMark x2.toNat)) ∧ z = σ (39 + x2.toNat) x1.toNat ∧ σ' = up σ (39 + x2.toNat) x1.toNat x3) := by
  obtain ⟨hR, t0, g, j3, j4, j5, j6, j7, j8, j9, j10, j11, j12⟩ := id hJ
  have hle := WH_le g.2.2.1.2 g.2.2.2.2
  have L43 : ∀ (c w : Nat) (mx : Int), x1 = c → x2 = w → c < W * H → w < 3 → mx = mostMark w → RW (KI l G 2 mX9_cell n ρ (fun σ' z => (¬ ((0 ≤ x1 ∧ x1 < (W * H : Nat)) ∧ (0 ≤ x2 ∧ x2 ≤ 2) ∧ (0 ≤ x3 ∧ x3 ≤ mostMark x2.toNat)) ∧ z = -3 ∧ σ' = σ) ∨ ((0 ≤ x1 ∧ x1 < (W * H : Nat)) ∧ (0 ≤ x2 ∧ x2 ≤ 2) ∧ (0 ≤ x3 ∧ x3 ≤ mostMark x2.toNat)) ∧ z = σ (39 + x2.toNat) x1.toNat ∧ σ' = up σ (39 + x2.toNat) x1.toNat x3)) (0, 0, n, ρ) σ 43 [rf G 38, iv x1, iv x2, iv x3, xx] [iv mx, iv 0, iv x3] := by
    intro c w mx e1 e2 hc hw hmx
    subst e1; subst e2
    have hmr : R32 mx := by rw [hmx]; unfold mostMark; split <;> omega
    have hrc := j5 c
    have hz41 : ∀ v1 v2, up (up σ 39 c v1) 40 c v2 41 c = 0 ∨ up (up σ 39 c v1) 40 c v2 41 c = 1 := fun v1 v2 => by rw [up_row (show (41 : Nat) ≠ 40 by omega), up_row (show (41 : Nat) ≠ 39 by omega)]; omega
    refine q_callSr dX9_cell_43 (c_in x3 0 mx h3 (by omega) hmr) ml_X9_152 okX9_in rfl rfl (Nat.le_of_ble_eq_true rfl) (roomOK.of (by decide)) ⟨(Nat.le_of_ble_eq_true rfl), (Nat.le_of_ble_eq_true rfl)⟩ ?_
    refine r_ifneb (tgt := 52) dX9_cell_46 rfl (fun h46 => ?_) (fun h46 => ?_)
    · refine r_aloadk_n dX9_cell_52 rfl ?_
      refine r_iload_n dX9_cell_53 rfl ?_
      refine r_iload_n dX9_cell_54 rfl ?_
      refine q_callVr dX9_cell_55 (m_toldOf hs hR j5 c w (by omega) hw) ml_X9_160 okX9_toldOf rfl rfl (hs.lt rfl) rfl rfl (Nat.le_of_ble_eq_true rfl) (roomOK.of (by decide)) ⟨(Nat.le_of_ble_eq_true rfl), (Nat.le_of_ble_eq_true rfl)⟩ ?_
      refine r_istore dX9_cell_58 (Nat.le_of_ble_eq_true rfl) rfl s4 ?_
      refine r_aloadk_n dX9_cell_60 rfl ?_
      refine r_getr dX9_cell_61 fl_X9_16 rfl rfl (hs.lt rfl) (hs.rf rfl) ?_
      refine r_iload_n dX9_cell_64 rfl ?_
      refine r_iload_n dX9_cell_65 rfl ?_
      refine r_ifne (tgt := 73) dX9_cell_66 rfl (by omega) (fun h66 => ?_) (fun h66 => ?_)
      · refine r_aloadk_n dX9_cell_73 rfl ?_
        refine r_getr dX9_cell_74 fl_X9_16 rfl rfl (hs.lt rfl) (hs.rf rfl) ?_
        refine r_iload_n dX9_cell_77 rfl ?_
        refine r_iald dX9_cell_78 rfl (hs.lt rfl) rfl (by omega) ?_
        refine r_iast dX9_cell_79 rfl (hs.lt rfl) rfl (by omega) ?_
        refine r_aloadk_n dX9_cell_80 rfl ?_
        refine r_getr dX9_cell_81 fl_X9_20 rfl rfl (hs.lt rfl) (hs.rf rfl) ?_
        refine r_iload_n dX9_cell_84 rfl ?_
        refine r_iload_n dX9_cell_85 rfl ?_
        refine r_iconst dX9_cell_86 ?_
        refine r_icmpne (tgt := 94) dX9_cell_87 rfl (by first | exact hR _ (Nat.le_of_ble_eq_true rfl) _ | omega) (by first | exact hR _ (Nat.le_of_ble_eq_true rfl) _ | omega) (fun h87 => ?_) (fun h87 => ?_)
        · refine r_aloadk_n dX9_cell_94 rfl ?_
          refine r_getr dX9_cell_95 fl_X9_20 rfl rfl (hs.lt rfl) (hs.rf rfl) ?_
          refine r_iload_n dX9_cell_98 rfl ?_
          refine r_iald dX9_cell_99 rfl (hs.lt rfl) rfl (by omega) ?_
          refine r_iast dX9_cell_100 rfl (hs.lt rfl) rfl (by omega) ?_
          refine r_aloadk_n dX9_cell_101 rfl ?_
          refine r_getr dX9_cell_102 fl_X9_23 rfl rfl (hs.lt rfl) (hs.rf rfl) ?_
          refine r_iload_n dX9_cell_105 rfl ?_
          refine r_iload_n dX9_cell_106 rfl ?_
          refine r_iconst dX9_cell_107 ?_
          refine r_icmpne (tgt := 124) dX9_cell_108 rfl (by first | exact hR _ (Nat.le_of_ble_eq_true rfl) _ | omega) (by first | exact hR _ (Nat.le_of_ble_eq_true rfl) _ | omega) (fun h108 => ?_) (fun h108 => ?_)
          · refine r_aloadk_n dX9_cell_124 rfl ?_
            refine r_getr dX9_cell_125 fl_X9_23 rfl rfl (hs.lt rfl) (hs.rf rfl) ?_
            refine r_iload_n dX9_cell_128 rfl ?_
            refine r_zald dX9_cell_129 rfl (hs.lt rfl) rfl (by omega) ?_
            refine r_zast dX9_cell_130 rfl (hs.lt rfl) rfl (by omega) (by first | exact Or.inl rfl | exact Or.inr rfl | exact hz41 _ _) ?_
            refine r_iload dX9_cell_131 rfl ?_
            exact r_ireti dX9_cell_133 rfl ⟨_, rfl, Or.inr ⟨⟨by omega, by omega, by rw [Int.toNat_natCast, ← hmx]; exact h46⟩, rfl, by
  simp only [Int.toNat_natCast]
  rcases (show w = 0 ∨ w = 1 ∨ w = 2 by omega) with rfl | rfl | rfl
  · first | omega | (rw [up_id (k := 41) rfl, up_id (k := 40) rfl])
  · first | omega | (rw [up_id (k := 41) rfl, up_id (k := 39) (σ := σ) rfl])
  · first | omega | (rw [up_id (k := 39) (σ := σ) rfl, up_id (k := 40) (σ := σ) rfl]; first | (rw [show x3 = 1 by omega]) | (rw [show x3 = 0 by (have : mostMark 2 = 1 := rfl); omega]))⟩⟩
          · refine r_iload_n dX9_cell_111 rfl ?_
            refine r_iconst dX9_cell_112 ?_
            refine r_icmpne (tgt := 120) dX9_cell_113 rfl (by first | exact hR _ (Nat.le_of_ble_eq_true rfl) _ | omega) (by first | exact hR _ (Nat.le_of_ble_eq_true rfl) _ | omega) (fun h113 => ?_) (fun h113 => ?_)
            · refine r_iconst dX9_cell_120 ?_
              refine r_goto (tgt := 130) dX9_cell_121 rfl ?_
              refine r_zast dX9_cell_130 rfl (hs.lt rfl) rfl (by omega) (by first | exact Or.inl rfl | exact Or.inr rfl | exact hz41 _ _) ?_
              refine r_iload dX9_cell_131 rfl ?_
              exact r_ireti dX9_cell_133 rfl ⟨_, rfl, Or.inr ⟨⟨by omega, by omega, by rw [Int.toNat_natCast, ← hmx]; exact h46⟩, rfl, by
  simp only [Int.toNat_natCast]
  rcases (show w = 0 ∨ w = 1 ∨ w = 2 by omega) with rfl | rfl | rfl
  · first | omega | (rw [up_id (k := 41) rfl, up_id (k := 40) rfl])
  · first | omega | (rw [up_id (k := 41) rfl, up_id (k := 39) (σ := σ) rfl])
  · first | omega | (rw [up_id (k := 39) (σ := σ) rfl, up_id (k := 40) (σ := σ) rfl]; first | (rw [show x3 = 1 by omega]) | (rw [show x3 = 0 by (have : mostMark 2 = 1 := rfl); omega]))⟩⟩
            · refine r_iconst dX9_cell_116 ?_
              refine r_goto (tgt := 130) dX9_cell_117 rfl ?_
              refine r_zast dX9_cell_130 rfl (hs.lt rfl) rfl (by omega) (by first | exact Or.inl rfl | exact Or.inr rfl | exact hz41 _ _) ?_
              refine r_iload dX9_cell_131 rfl ?_
              exact r_ireti dX9_cell_133 rfl ⟨_, rfl, Or.inr ⟨⟨by omega, by omega, by rw [Int.toNat_natCast, ← hmx]; exact h46⟩, rfl, by
  simp only [Int.toNat_natCast]
  rcases (show w = 0 ∨ w = 1 ∨ w = 2 by omega) with rfl | rfl | rfl
  · first | omega | (rw [up_id (k := 41) rfl, up_id (k := 40) rfl])
  · first | omega | (rw [up_id (k := 41) rfl, up_id (k := 39) (σ := σ) rfl])
  · first | omega | (rw [up_id (k := 39) (σ := σ) rfl, up_id (k := 40) (σ := σ) rfl]; first | (rw [show x3 = 1 by omega]) | (rw [show x3 = 0 by (have : mostMark 2 = 1 := rfl); omega]))⟩⟩
        · refine r_iload_n dX9_cell_90 rfl ?_
          refine r_goto (tgt := 100) dX9_cell_91 rfl ?_
          refine r_iast dX9_cell_100 rfl (hs.lt rfl) rfl (by omega) ?_
          refine r_aloadk_n dX9_cell_101 rfl ?_
          refine r_getr dX9_cell_102 fl_X9_23 rfl rfl (hs.lt rfl) (hs.rf rfl) ?_
          refine r_iload_n dX9_cell_105 rfl ?_
          refine r_iload_n dX9_cell_106 rfl ?_
          refine r_iconst dX9_cell_107 ?_
          refine r_icmpne (tgt := 124) dX9_cell_108 rfl (by first | exact hR _ (Nat.le_of_ble_eq_true rfl) _ | omega) (by first | exact hR _ (Nat.le_of_ble_eq_true rfl) _ | omega) (fun h108 => ?_) (fun h108 => ?_)
          · refine r_aloadk_n dX9_cell_124 rfl ?_
            refine r_getr dX9_cell_125 fl_X9_23 rfl rfl (hs.lt rfl) (hs.rf rfl) ?_
            refine r_iload_n dX9_cell_128 rfl ?_
            refine r_zald dX9_cell_129 rfl (hs.lt rfl) rfl (by omega) ?_
            refine r_zast dX9_cell_130 rfl (hs.lt rfl) rfl (by omega) (by first | exact Or.inl rfl | exact Or.inr rfl | exact hz41 _ _) ?_
            refine r_iload dX9_cell_131 rfl ?_
            exact r_ireti dX9_cell_133 rfl ⟨_, rfl, Or.inr ⟨⟨by omega, by omega, by rw [Int.toNat_natCast, ← hmx]; exact h46⟩, rfl, by
  simp only [Int.toNat_natCast]
  rcases (show w = 0 ∨ w = 1 ∨ w = 2 by omega) with rfl | rfl | rfl
  · first | omega | (rw [up_id (k := 41) rfl, up_id (k := 40) rfl])
  · first | omega | (rw [up_id (k := 41) rfl, up_id (k := 39) (σ := σ) rfl])
  · first | omega | (rw [up_id (k := 39) (σ := σ) rfl, up_id (k := 40) (σ := σ) rfl]; first | (rw [show x3 = 1 by omega]) | (rw [show x3 = 0 by (have : mostMark 2 = 1 := rfl); omega]))⟩⟩
          · refine r_iload_n dX9_cell_111 rfl ?_
            refine r_iconst dX9_cell_112 ?_
            refine r_icmpne (tgt := 120) dX9_cell_113 rfl (by first | exact hR _ (Nat.le_of_ble_eq_true rfl) _ | omega) (by first | exact hR _ (Nat.le_of_ble_eq_true rfl) _ | omega) (fun h113 => ?_) (fun h113 => ?_)
            · refine r_iconst dX9_cell_120 ?_
              refine r_goto (tgt := 130) dX9_cell_121 rfl ?_
              refine r_zast dX9_cell_130 rfl (hs.lt rfl) rfl (by omega) (by first | exact Or.inl rfl | exact Or.inr rfl | exact hz41 _ _) ?_
              refine r_iload dX9_cell_131 rfl ?_
              exact r_ireti dX9_cell_133 rfl ⟨_, rfl, Or.inr ⟨⟨by omega, by omega, by rw [Int.toNat_natCast, ← hmx]; exact h46⟩, rfl, by
  simp only [Int.toNat_natCast]
  rcases (show w = 0 ∨ w = 1 ∨ w = 2 by omega) with rfl | rfl | rfl
  · first | omega | (rw [up_id (k := 41) rfl, up_id (k := 40) rfl])
  · first | omega | (rw [up_id (k := 41) rfl, up_id (k := 39) (σ := σ) rfl])
  · first | omega | (rw [up_id (k := 39) (σ := σ) rfl, up_id (k := 40) (σ := σ) rfl]; first | (rw [show x3 = 1 by omega]) | (rw [show x3 = 0 by (have : mostMark 2 = 1 := rfl); omega]))⟩⟩
            · refine r_iconst dX9_cell_116 ?_
              refine r_goto (tgt := 130) dX9_cell_117 rfl ?_
              refine r_zast dX9_cell_130 rfl (hs.lt rfl) rfl (by omega) (by first | exact Or.inl rfl | exact Or.inr rfl | exact hz41 _ _) ?_
              refine r_iload dX9_cell_131 rfl ?_
              exact r_ireti dX9_cell_133 rfl ⟨_, rfl, Or.inr ⟨⟨by omega, by omega, by rw [Int.toNat_natCast, ← hmx]; exact h46⟩, rfl, by
  simp only [Int.toNat_natCast]
  rcases (show w = 0 ∨ w = 1 ∨ w = 2 by omega) with rfl | rfl | rfl
  · first | omega | (rw [up_id (k := 41) rfl, up_id (k := 40) rfl])
  · first | omega | (rw [up_id (k := 41) rfl, up_id (k := 39) (σ := σ) rfl])
  · first | omega | (rw [up_id (k := 39) (σ := σ) rfl, up_id (k := 40) (σ := σ) rfl]; first | (rw [show x3 = 1 by omega]) | (rw [show x3 = 0 by (have : mostMark 2 = 1 := rfl); omega]))⟩⟩
      · refine r_iload_n dX9_cell_69 rfl ?_
        refine r_goto (tgt := 79) dX9_cell_70 rfl ?_
        refine r_iast dX9_cell_79 rfl (hs.lt rfl) rfl (by omega) ?_
        refine r_aloadk_n dX9_cell_80 rfl ?_
        refine r_getr dX9_cell_81 fl_X9_20 rfl rfl (hs.lt rfl) (hs.rf rfl) ?_
        refine r_iload_n dX9_cell_84 rfl ?_
        refine r_iload_n dX9_cell_85 rfl ?_
        refine r_iconst dX9_cell_86 ?_
        refine r_icmpne (tgt := 94) dX9_cell_87 rfl (by first | exact hR _ (Nat.le_of_ble_eq_true rfl) _ | omega) (by first | exact hR _ (Nat.le_of_ble_eq_true rfl) _ | omega) (fun h87 => ?_) (fun h87 => ?_)
        · refine r_aloadk_n dX9_cell_94 rfl ?_
          refine r_getr dX9_cell_95 fl_X9_20 rfl rfl (hs.lt rfl) (hs.rf rfl) ?_
          refine r_iload_n dX9_cell_98 rfl ?_
          refine r_iald dX9_cell_99 rfl (hs.lt rfl) rfl (by omega) ?_
          refine r_iast dX9_cell_100 rfl (hs.lt rfl) rfl (by omega) ?_
          refine r_aloadk_n dX9_cell_101 rfl ?_
          refine r_getr dX9_cell_102 fl_X9_23 rfl rfl (hs.lt rfl) (hs.rf rfl) ?_
          refine r_iload_n dX9_cell_105 rfl ?_
          refine r_iload_n dX9_cell_106 rfl ?_
          refine r_iconst dX9_cell_107 ?_
          refine r_icmpne (tgt := 124) dX9_cell_108 rfl (by first | exact hR _ (Nat.le_of_ble_eq_true rfl) _ | omega) (by first | exact hR _ (Nat.le_of_ble_eq_true rfl) _ | omega) (fun h108 => ?_) (fun h108 => ?_)
          · refine r_aloadk_n dX9_cell_124 rfl ?_
            refine r_getr dX9_cell_125 fl_X9_23 rfl rfl (hs.lt rfl) (hs.rf rfl) ?_
            refine r_iload_n dX9_cell_128 rfl ?_
            refine r_zald dX9_cell_129 rfl (hs.lt rfl) rfl (by omega) ?_
            refine r_zast dX9_cell_130 rfl (hs.lt rfl) rfl (by omega) (by first | exact Or.inl rfl | exact Or.inr rfl | exact hz41 _ _) ?_
            refine r_iload dX9_cell_131 rfl ?_
            exact r_ireti dX9_cell_133 rfl ⟨_, rfl, Or.inr ⟨⟨by omega, by omega, by rw [Int.toNat_natCast, ← hmx]; exact h46⟩, rfl, by
  simp only [Int.toNat_natCast]
  rcases (show w = 0 ∨ w = 1 ∨ w = 2 by omega) with rfl | rfl | rfl
  · first | omega | (rw [up_id (k := 41) rfl, up_id (k := 40) rfl])
  · first | omega | (rw [up_id (k := 41) rfl, up_id (k := 39) (σ := σ) rfl])
  · first | omega | (rw [up_id (k := 39) (σ := σ) rfl, up_id (k := 40) (σ := σ) rfl]; first | (rw [show x3 = 1 by omega]) | (rw [show x3 = 0 by (have : mostMark 2 = 1 := rfl); omega]))⟩⟩
          · refine r_iload_n dX9_cell_111 rfl ?_
            refine r_iconst dX9_cell_112 ?_
            refine r_icmpne (tgt := 120) dX9_cell_113 rfl (by first | exact hR _ (Nat.le_of_ble_eq_true rfl) _ | omega) (by first | exact hR _ (Nat.le_of_ble_eq_true rfl) _ | omega) (fun h113 => ?_) (fun h113 => ?_)
            · refine r_iconst dX9_cell_120 ?_
              refine r_goto (tgt := 130) dX9_cell_121 rfl ?_
              refine r_zast dX9_cell_130 rfl (hs.lt rfl) rfl (by omega) (by first | exact Or.inl rfl | exact Or.inr rfl | exact hz41 _ _) ?_
              refine r_iload dX9_cell_131 rfl ?_
              exact r_ireti dX9_cell_133 rfl ⟨_, rfl, Or.inr ⟨⟨by omega, by omega, by rw [Int.toNat_natCast, ← hmx]; exact h46⟩, rfl, by
  simp only [Int.toNat_natCast]
  rcases (show w = 0 ∨ w = 1 ∨ w = 2 by omega) with rfl | rfl | rfl
  · first | omega | (rw [up_id (k := 41) rfl, up_id (k := 40) rfl])
  · first | omega | (rw [up_id (k := 41) rfl, up_id (k := 39) (σ := σ) rfl])
  · first | omega | (rw [up_id (k := 39) (σ := σ) rfl, up_id (k := 40) (σ := σ) rfl]; first | (rw [show x3 = 1 by omega]) | (rw [show x3 = 0 by (have : mostMark 2 = 1 := rfl); omega]))⟩⟩
            · refine r_iconst dX9_cell_116 ?_
              refine r_goto (tgt := 130) dX9_cell_117 rfl ?_
              refine r_zast dX9_cell_130 rfl (hs.lt rfl) rfl (by omega) (by first | exact Or.inl rfl | exact Or.inr rfl | exact hz41 _ _) ?_
              refine r_iload dX9_cell_131 rfl ?_
              exact r_ireti dX9_cell_133 rfl ⟨_, rfl, Or.inr ⟨⟨by omega, by omega, by rw [Int.toNat_natCast, ← hmx]; exact h46⟩, rfl, by
  simp only [Int.toNat_natCast]
  rcases (show w = 0 ∨ w = 1 ∨ w = 2 by omega) with rfl | rfl | rfl
  · first | omega | (rw [up_id (k := 41) rfl, up_id (k := 40) rfl])
  · first | omega | (rw [up_id (k := 41) rfl, up_id (k := 39) (σ := σ) rfl])
  · first | omega | (rw [up_id (k := 39) (σ := σ) rfl, up_id (k := 40) (σ := σ) rfl]; first | (rw [show x3 = 1 by omega]) | (rw [show x3 = 0 by (have : mostMark 2 = 1 := rfl); omega]))⟩⟩
        · refine r_iload_n dX9_cell_90 rfl ?_
          refine r_goto (tgt := 100) dX9_cell_91 rfl ?_
          refine r_iast dX9_cell_100 rfl (hs.lt rfl) rfl (by omega) ?_
          refine r_aloadk_n dX9_cell_101 rfl ?_
          refine r_getr dX9_cell_102 fl_X9_23 rfl rfl (hs.lt rfl) (hs.rf rfl) ?_
          refine r_iload_n dX9_cell_105 rfl ?_
          refine r_iload_n dX9_cell_106 rfl ?_
          refine r_iconst dX9_cell_107 ?_
          refine r_icmpne (tgt := 124) dX9_cell_108 rfl (by first | exact hR _ (Nat.le_of_ble_eq_true rfl) _ | omega) (by first | exact hR _ (Nat.le_of_ble_eq_true rfl) _ | omega) (fun h108 => ?_) (fun h108 => ?_)
          · refine r_aloadk_n dX9_cell_124 rfl ?_
            refine r_getr dX9_cell_125 fl_X9_23 rfl rfl (hs.lt rfl) (hs.rf rfl) ?_
            refine r_iload_n dX9_cell_128 rfl ?_
            refine r_zald dX9_cell_129 rfl (hs.lt rfl) rfl (by omega) ?_
            refine r_zast dX9_cell_130 rfl (hs.lt rfl) rfl (by omega) (by first | exact Or.inl rfl | exact Or.inr rfl | exact hz41 _ _) ?_
            refine r_iload dX9_cell_131 rfl ?_
            exact r_ireti dX9_cell_133 rfl ⟨_, rfl, Or.inr ⟨⟨by omega, by omega, by rw [Int.toNat_natCast, ← hmx]; exact h46⟩, rfl, by
  simp only [Int.toNat_natCast]
  rcases (show w = 0 ∨ w = 1 ∨ w = 2 by omega) with rfl | rfl | rfl
  · first | omega | (rw [up_id (k := 41) rfl, up_id (k := 40) rfl])
  · first | omega | (rw [up_id (k := 41) rfl, up_id (k := 39) (σ := σ) rfl])
  · first | omega | (rw [up_id (k := 39) (σ := σ) rfl, up_id (k := 40) (σ := σ) rfl]; first | (rw [show x3 = 1 by omega]) | (rw [show x3 = 0 by (have : mostMark 2 = 1 := rfl); omega]))⟩⟩
          · refine r_iload_n dX9_cell_111 rfl ?_
            refine r_iconst dX9_cell_112 ?_
            refine r_icmpne (tgt := 120) dX9_cell_113 rfl (by first | exact hR _ (Nat.le_of_ble_eq_true rfl) _ | omega) (by first | exact hR _ (Nat.le_of_ble_eq_true rfl) _ | omega) (fun h113 => ?_) (fun h113 => ?_)
            · refine r_iconst dX9_cell_120 ?_
              refine r_goto (tgt := 130) dX9_cell_121 rfl ?_
              refine r_zast dX9_cell_130 rfl (hs.lt rfl) rfl (by omega) (by first | exact Or.inl rfl | exact Or.inr rfl | exact hz41 _ _) ?_
              refine r_iload dX9_cell_131 rfl ?_
              exact r_ireti dX9_cell_133 rfl ⟨_, rfl, Or.inr ⟨⟨by omega, by omega, by rw [Int.toNat_natCast, ← hmx]; exact h46⟩, rfl, by
  simp only [Int.toNat_natCast]
  rcases (show w = 0 ∨ w = 1 ∨ w = 2 by omega) with rfl | rfl | rfl
  · first | omega | (rw [up_id (k := 41) rfl, up_id (k := 40) rfl])
  · first | omega | (rw [up_id (k := 41) rfl, up_id (k := 39) (σ := σ) rfl])
  · first | omega | (rw [up_id (k := 39) (σ := σ) rfl, up_id (k := 40) (σ := σ) rfl]; first | (rw [show x3 = 1 by omega]) | (rw [show x3 = 0 by (have : mostMark 2 = 1 := rfl); omega]))⟩⟩
            · refine r_iconst dX9_cell_116 ?_
              refine r_goto (tgt := 130) dX9_cell_117 rfl ?_
              refine r_zast dX9_cell_130 rfl (hs.lt rfl) rfl (by omega) (by first | exact Or.inl rfl | exact Or.inr rfl | exact hz41 _ _) ?_
              refine r_iload dX9_cell_131 rfl ?_
              exact r_ireti dX9_cell_133 rfl ⟨_, rfl, Or.inr ⟨⟨by omega, by omega, by rw [Int.toNat_natCast, ← hmx]; exact h46⟩, rfl, by
  simp only [Int.toNat_natCast]
  rcases (show w = 0 ∨ w = 1 ∨ w = 2 by omega) with rfl | rfl | rfl
  · first | omega | (rw [up_id (k := 41) rfl, up_id (k := 40) rfl])
  · first | omega | (rw [up_id (k := 41) rfl, up_id (k := 39) (σ := σ) rfl])
  · first | omega | (rw [up_id (k := 39) (σ := σ) rfl, up_id (k := 40) (σ := σ) rfl]; first | (rw [show x3 = 1 by omega]) | (rw [show x3 = 0 by (have : mostMark 2 = 1 := rfl); omega]))⟩⟩
    · refine r_bipush dX9_cell_49 ?_
      exact r_ireti dX9_cell_51 rfl ⟨_, rfl, Or.inl ⟨fun q => h46 (by rw [hmx]; have := q.2.2; rwa [Int.toNat_natCast] at this), rfl, rfl⟩⟩
  refine Ct.of (L0 := [rf G 38, iv x1, iv x2, iv x3, xx]) (by decide +kernel) (Nat.le_of_ble_eq_true rfl) rfl ?_
  refine r_aloadk_n dX9_cell_0 rfl ?_
  refine r_iconst dX9_cell_1 ?_
  refine r_puti dX9_cell_2 fl_X9_133 rfl (hs.lt rfl) ?_
  rw [up_id t0]
  refine r_aloadk_n dX9_cell_5 rfl ?_
  refine r_iload_n dX9_cell_6 rfl ?_
  refine q_callVr dX9_cell_7 (m_isCell hs g x1 h1) ml_X9_156 okX9_isCell rfl rfl (hs.lt rfl) rfl rfl (Nat.le_of_ble_eq_true rfl) (roomOK.of (by decide)) ⟨(Nat.le_of_ble_eq_true rfl), (Nat.le_of_ble_eq_true rfl)⟩ ?_
  refine r_ifeqb (tgt := 49) dX9_cell_10 rfl (fun h10 => ?_) (fun h10 => ?_)
  · refine r_bipush dX9_cell_49 ?_
    exact r_ireti dX9_cell_51 rfl ⟨_, rfl, Or.inl ⟨by first | exact fun q => h10 q.1 | exact fun q => h19 q.2.1, rfl, rfl⟩⟩
  · refine r_iload_n dX9_cell_13 rfl ?_
    refine r_iconst dX9_cell_14 ?_
    refine r_iconst dX9_cell_15 ?_
    refine q_callSr dX9_cell_16 (c_in x2 0 2 h2 (by omega) (by omega)) ml_X9_152 okX9_in rfl rfl (Nat.le_of_ble_eq_true rfl) (roomOK.of (by decide)) ⟨(Nat.le_of_ble_eq_true rfl), (Nat.le_of_ble_eq_true rfl)⟩ ?_
    refine r_ifeqb (tgt := 49) dX9_cell_19 rfl (fun h19 => ?_) (fun h19 => ?_)
    · refine r_bipush dX9_cell_49 ?_
      exact r_ireti dX9_cell_51 rfl ⟨_, rfl, Or.inl ⟨by first | exact fun q => h10 q.1 | exact fun q => h19 q.2.1, rfl, rfl⟩⟩
    · refine r_iload_n dX9_cell_22 rfl ?_
      refine r_iconst dX9_cell_23 ?_
      refine r_iload_n dX9_cell_24 rfl ?_
      refine r_ifne (tgt := 33) dX9_cell_25 rfl (by first | exact hR _ (Nat.le_of_ble_eq_true rfl) _ | omega) (fun h25 => ?_) (fun h25 => ?_)
      · refine r_iload_n dX9_cell_33 rfl ?_
        refine r_iconst dX9_cell_34 ?_
        refine r_icmpne (tgt := 42) dX9_cell_35 rfl (by first | exact hR _ (Nat.le_of_ble_eq_true rfl) _ | omega) (by first | exact hR _ (Nat.le_of_ble_eq_true rfl) _ | omega) (fun h35 => ?_) (fun h35 => ?_)
        · refine r_iconst dX9_cell_42 ?_
          first
          | exact L43 x1.toNat x2.toNat _ (by omega) (by omega) (by omega) (by omega) (by rw [show x2.toNat = 0 by omega]; rfl)
          | exact L43 x1.toNat x2.toNat _ (by omega) (by omega) (by omega) (by omega) (by rw [show x2.toNat = 1 by omega]; rfl)
          | exact L43 x1.toNat x2.toNat _ (by omega) (by omega) (by omega) (by omega) (by rw [show x2.toNat = 2 by omega]; rfl)
        · refine r_iconst dX9_cell_38 ?_
          refine r_goto (tgt := 43) dX9_cell_39 rfl ?_
          first
          | exact L43 x1.toNat x2.toNat _ (by omega) (by omega) (by omega) (by omega) (by rw [show x2.toNat = 0 by omega]; rfl)
          | exact L43 x1.toNat x2.toNat _ (by omega) (by omega) (by omega) (by omega) (by rw [show x2.toNat = 1 by omega]; rfl)
          | exact L43 x1.toNat x2.toNat _ (by omega) (by omega) (by omega) (by omega) (by rw [show x2.toNat = 2 by omega]; rfl)
      · refine r_bipush dX9_cell_28 ?_
        refine r_goto (tgt := 43) dX9_cell_30 rfl ?_
        first
        | exact L43 x1.toNat x2.toNat _ (by omega) (by omega) (by omega) (by omega) (by rw [show x2.toNat = 0 by omega]; rfl)
        | exact L43 x1.toNat x2.toNat _ (by omega) (by omega) (by omega) (by omega) (by rw [show x2.toNat = 1 by omega]; rfl)
        | exact L43 x1.toNat x2.toNat _ (by omega) (by omega) (by omega) (by omega) (by rw [show x2.toNat = 2 by omega]; rfl)
end Model
