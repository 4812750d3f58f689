/-! MODEL: count -/
def lnM (σ : Si) : Nat → Int := fun s => if σ 42 s < 0 then -1 else σ 43 s
section Model16
variable {l : Launch} {G : GG} {n : Nat} {ρ : Rho} {σ : Si} {W H P C O : Nat}
set_option maxHeartbeats 4000000 in
theorem m_count (hs : Std n ρ) (hJ : JM σ W H P C O) (x1 : Int) (h1 : R32 x1) : RdI l G 2 mX9_count n ρ σ [rf G 38, iv x1] (countS (σ 41) (shM σ) (lnM σ) (σ 50) (W * H) P C O x1 (σ 38 22)) := by
  obtain ⟨hR, t0, g, j3, j4, j5, j6, j7, j8, j9, j10, j11, j12⟩ := id hJ
  obtain ⟨c1, c2, c3, c4, c5, c6, c7, c8⟩ := id j6
  have hle := WH_le g.2.2.1.2 g.2.2.2.2
  have e2 : x1 = 2 → countS (σ 41) (shM σ) (lnM σ) (σ 50) (W * H) P C O x1 (σ 38 22) = sumN (fun i => bi (σ 38 22 < σ 50 i)) C := fun h => by unfold countS; rw [if_neg (by omega), if_neg (by omega), if_pos h]
  have e4 : x1 = 4 → countS (σ 41) (shM σ) (lnM σ) (σ 50) (W * H) P C O x1 (σ 38 22) = sumN (fun p => bi (¬ shM σ p = -1)) P := fun h => by unfold countS; rw [if_neg (by omega), if_neg (by omega), if_neg (by omega), if_neg (by omega), if_pos h]
  have e5 : x1 = 5 → countS (σ 41) (shM σ) (lnM σ) (σ 50) (W * H) P C O x1 (σ 38 22) = sumN (σ 41) (W * H) := fun h => by unfold countS; rw [if_neg (by omega), if_neg (by omega), if_neg (by omega), if_neg (by omega), if_neg (by omega), if_pos h]
  have e6 : x1 = 6 → countS (σ 41) (shM σ) (lnM σ) (σ 50) (W * H) P C O x1 (σ 38 22) = sumN (fun s => bi (¬ lnM σ s = -1)) 3 := fun h => by unfold countS; rw [if_neg (by omega), if_neg (by omega), if_neg (by omega), if_neg (by omega), if_neg (by omega), if_neg (by omega), if_pos h]
  generalize hA : countS (σ 41) (shM σ) (lnM σ) (σ 50) (W * H) P C O x1 (σ 38 22) = A at e2 e4 e5 e6
  have l2 : ∀ (m i : Nat), i + m = C → A = sumN (fun i => bi (σ 38 22 < σ 50 i)) C → RW (KI l G 2 mX9_count n ρ (fun σ' z => σ' = σ ∧ z = A)) (0, 0, n, ρ) σ 64 [rf G 38, iv x1, iv (sumN (fun i => bi (σ 38 22 < σ 50 i)) i), iv i] [] := by
    intro m
    induction m with
    | zero =>
      intro i hi hA
      have e : i = C := by omega
      refine r_iload_n dX9_count_64 rfl ?_
      refine r_aloadk_n dX9_count_65 rfl ?_
      refine r_geti dX9_count_66 fl_X9_142 rfl rfl (hs.lt rfl) ?_
      refine r_icmpge (tgt := 99) dX9_count_69 rfl (by first | exact hR _ (Nat.le_of_ble_eq_true rfl) _ | omega) (by first | exact hR _ (Nat.le_of_ble_eq_true rfl) _ | omega) (fun h69 => ?_) (fun h69 => ?_)
      · refine r_iload_n dX9_count_99 rfl ?_
        exact r_ireti dX9_count_100 rfl ⟨_, rfl, rfl, by rw [hA, e]⟩
      · omega
    | succ m ih =>
      intro i hi hA
      have nx : ∀ z : Int, z = sumN (fun i => bi (σ 38 22 < σ 50 i)) i + bi (σ 38 22 < σ 50 i) → RW (KI l G 2 mX9_count n ρ (fun σ' z => σ' = σ ∧ z = A)) (0, 0, n, ρ) σ 64 [rf G 38, iv x1, iv z, iv (i + 1 : Nat)] [] := fun z hz => by rw [hz]; exact ih (i + 1) (by omega) hA
      refine r_iload_n dX9_count_64 rfl ?_
      refine r_aloadk_n dX9_count_65 rfl ?_
      refine r_geti dX9_count_66 fl_X9_142 rfl rfl (hs.lt rfl) ?_
      refine r_icmpge (tgt := 99) dX9_count_69 rfl (by first | exact hR _ (Nat.le_of_ble_eq_true rfl) _ | omega) (by first | exact hR _ (Nat.le_of_ble_eq_true rfl) _ | omega) (fun h69 => ?_) (fun h69 => ?_)
      · omega
      · refine r_iload_n dX9_count_72 rfl ?_
        refine r_aloadk_n dX9_count_73 rfl ?_
        refine r_getr dX9_count_74 fl_X9_51 rfl rfl (hs.lt rfl) (hs.rf rfl) ?_
        refine r_iload_n dX9_count_77 rfl ?_
        refine r_iald dX9_count_78 rfl (hs.lt rfl) rfl (by omega) ?_
        refine r_aloadk_n dX9_count_79 rfl ?_
        refine r_geti dX9_count_80 fl_X9_63 rfl rfl (hs.lt rfl) ?_
        refine r_icmple (tgt := 90) dX9_count_83 rfl (by first | exact hR _ (Nat.le_of_ble_eq_true rfl) _ | omega) (by first | exact hR _ (Nat.le_of_ble_eq_true rfl) _ | omega) (fun h83 => ?_) (fun h83 => ?_)
        · refine r_iconst dX9_count_90 ?_
          refine r_iadd dX9_count_91 ?_
          refine r_istore_n dX9_count_92 (Nat.le_of_ble_eq_true rfl) rfl s2 ?_
          refine r_iinc dX9_count_93 (Nat.le_of_ble_eq_true rfl) rfl rfl s3 ?_
          refine r_goto (tgt := 64) dX9_count_96 rfl ?_
          refine nx _ ?_
          unfold bi
          split <;> omega
        · refine r_iconst dX9_count_86 ?_
          refine r_goto (tgt := 91) dX9_count_87 rfl ?_
          refine r_iadd dX9_count_91 ?_
          refine r_istore_n dX9_count_92 (Nat.le_of_ble_eq_true rfl) rfl s2 ?_
          refine r_iinc dX9_count_93 (Nat.le_of_ble_eq_true rfl) rfl rfl s3 ?_
          refine r_goto (tgt := 64) dX9_count_96 rfl ?_
          refine nx _ ?_
          unfold bi
          split <;> omega
  have l4 : ∀ (m i : Nat), i + m = P → A = sumN (fun p => bi (¬ shM σ p = -1)) P → RW (KI l G 2 mX9_count n ρ (fun σ' z => σ' = σ ∧ z = A)) (0, 0, n, ρ) σ 108 [rf G 38, iv x1, iv (sumN (fun p => bi (¬ shM σ p = -1)) i), iv i] [] := by
    intro m
    induction m with
    | zero =>
      intro i hi hA
      have e : i = P := by omega
      refine r_iload_n dX9_count_108 rfl ?_
      refine r_aloadk_n dX9_count_109 rfl ?_
      refine r_geti dX9_count_110 fl_X9_139 rfl rfl (hs.lt rfl) ?_
      refine r_icmpge (tgt := 139) dX9_count_113 rfl (by first | exact hR _ (Nat.le_of_ble_eq_true rfl) _ | omega) (by first | exact hR _ (Nat.le_of_ble_eq_true rfl) _ | omega) (fun h113 => ?_) (fun h113 => ?_)
      · refine r_iload_n dX9_count_139 rfl ?_
        exact r_ireti dX9_count_140 rfl ⟨_, rfl, rfl, by rw [hA, e]⟩
      · omega
    | succ m ih =>
      intro i hi hA
      have hsi := shM_0 (H := H) j10 (show i < P by omega) hle
      have hji := j10 i (by omega)
      have nx : ∀ z : Int, z = sumN (fun p => bi (¬ shM σ p = -1)) i + bi (¬ shM σ i = -1) → RW (KI l G 2 mX9_count n ρ (fun σ' z => σ' = σ ∧ z = A)) (0, 0, n, ρ) σ 108 [rf G 38, iv x1, iv z, iv (i + 1 : Nat)] [] := fun z hz => by rw [hz]; exact ih (i + 1) (by omega) hA
      refine r_iload_n dX9_count_108 rfl ?_
      refine r_aloadk_n dX9_count_109 rfl ?_
      refine r_geti dX9_count_110 fl_X9_139 rfl rfl (hs.lt rfl) ?_
      refine r_icmpge (tgt := 139) dX9_count_113 rfl (by first | exact hR _ (Nat.le_of_ble_eq_true rfl) _ | omega) (by first | exact hR _ (Nat.le_of_ble_eq_true rfl) _ | omega) (fun h113 => ?_) (fun h113 => ?_)
      · omega
      · refine r_iload_n dX9_count_116 rfl ?_
        refine r_aloadk_n dX9_count_117 rfl ?_
        refine r_getr dX9_count_118 fl_X9_75 rfl rfl (hs.lt rfl) (hs.rf rfl) ?_
        refine r_iload_n dX9_count_121 rfl ?_
        refine r_iald dX9_count_122 rfl (hs.lt rfl) rfl (by omega) ?_
        refine r_ifle (tgt := 130) dX9_count_123 rfl (by first | exact hR _ (Nat.le_of_ble_eq_true rfl) _ | omega) (fun h123 => ?_) (fun h123 => ?_)
        · refine r_iconst dX9_count_130 ?_
          refine r_iadd dX9_count_131 ?_
          refine r_istore_n dX9_count_132 (Nat.le_of_ble_eq_true rfl) rfl s2 ?_
          refine r_iinc dX9_count_133 (Nat.le_of_ble_eq_true rfl) rfl rfl s3 ?_
          refine r_goto (tgt := 108) dX9_count_136 rfl ?_
          refine nx _ ?_
          unfold bi
          split <;> omega
        · refine r_iconst dX9_count_126 ?_
          refine r_goto (tgt := 131) dX9_count_127 rfl ?_
          refine r_iadd dX9_count_131 ?_
          refine r_istore_n dX9_count_132 (Nat.le_of_ble_eq_true rfl) rfl s2 ?_
          refine r_iinc dX9_count_133 (Nat.le_of_ble_eq_true rfl) rfl rfl s3 ?_
          refine r_goto (tgt := 108) dX9_count_136 rfl ?_
          refine nx _ ?_
          unfold bi
          split <;> omega
  have l5 : ∀ (m i : Nat), i + m = W * H → A = sumN (σ 41) (W * H) → RW (KI l G 2 mX9_count n ρ (fun σ' z => σ' = σ ∧ z = A)) (0, 0, n, ρ) σ 143 [rf G 38, iv x1, iv (sumN (σ 41) i), iv i] [] := by
    intro m
    induction m with
    | zero =>
      intro i hi hA
      have e : i = W * H := by omega
      refine r_iload_n dX9_count_143 rfl ?_
      refine r_aloadk_n dX9_count_144 rfl ?_
      refine q_callVr dX9_count_145 (m_cells hs g) ml_X9_148 okX9_cells rfl rfl (hs.lt rfl) rfl rfl (Nat.le_of_ble_eq_true rfl) (roomOK.of (by decide)) ⟨(Nat.le_of_ble_eq_true rfl), (Nat.le_of_ble_eq_true rfl)⟩ ?_
      refine r_icmpge (tgt := 174) dX9_count_148 rfl (by omega) (by omega) (fun h148 => ?_) (fun h148 => ?_)
      · refine r_iload_n dX9_count_174 rfl ?_
        exact r_ireti dX9_count_175 rfl ⟨_, rfl, rfl, by rw [hA, e]⟩
      · omega
    | succ m ih =>
      intro i hi hA
      have hri := j5 i
      have nx : ∀ z : Int, z = sumN (σ 41) i + σ 41 i → RW (KI l G 2 mX9_count n ρ (fun σ' z => σ' = σ ∧ z = A)) (0, 0, n, ρ) σ 143 [rf G 38, iv x1, iv z, iv (i + 1 : Nat)] [] := fun z hz => by rw [hz]; exact ih (i + 1) (by omega) hA
      refine r_iload_n dX9_count_143 rfl ?_
      refine r_aloadk_n dX9_count_144 rfl ?_
      refine q_callVr dX9_count_145 (m_cells hs g) ml_X9_148 okX9_cells rfl rfl (hs.lt rfl) rfl rfl (Nat.le_of_ble_eq_true rfl) (roomOK.of (by decide)) ⟨(Nat.le_of_ble_eq_true rfl), (Nat.le_of_ble_eq_true rfl)⟩ ?_
      refine r_icmpge (tgt := 174) dX9_count_148 rfl (by omega) (by omega) (fun h148 => ?_) (fun h148 => ?_)
      · omega
      · refine r_iload_n dX9_count_151 rfl ?_
        refine r_aloadk_n dX9_count_152 rfl ?_
        refine r_getr dX9_count_153 fl_X9_23 rfl rfl (hs.lt rfl) (hs.rf rfl) ?_
        refine r_iload_n dX9_count_156 rfl ?_
        refine r_zald dX9_count_157 rfl (hs.lt rfl) rfl (by omega) ?_
        refine r_ifeq (tgt := 165) dX9_count_158 rfl (by first | exact hR _ (Nat.le_of_ble_eq_true rfl) _ | omega) (fun h158 => ?_) (fun h158 => ?_)
        · refine r_iconst dX9_count_165 ?_
          refine r_iadd dX9_count_166 ?_
          refine r_istore_n dX9_count_167 (Nat.le_of_ble_eq_true rfl) rfl s2 ?_
          refine r_iinc dX9_count_168 (Nat.le_of_ble_eq_true rfl) rfl rfl s3 ?_
          refine r_goto (tgt := 143) dX9_count_171 rfl ?_
          exact nx _ (by omega)
        · refine r_iconst dX9_count_161 ?_
          refine r_goto (tgt := 166) dX9_count_162 rfl ?_
          refine r_iadd dX9_count_166 ?_
          refine r_istore_n dX9_count_167 (Nat.le_of_ble_eq_true rfl) rfl s2 ?_
          refine r_iinc dX9_count_168 (Nat.le_of_ble_eq_true rfl) rfl rfl s3 ?_
          refine r_goto (tgt := 143) dX9_count_171 rfl ?_
          exact nx _ (by omega)
  have l6 : ∀ (m i : Nat), i + m = 3 → A = sumN (fun s => bi (¬ lnM σ s = -1)) 3 → RW (KI l G 2 mX9_count n ρ (fun σ' z => σ' = σ ∧ z = A)) (0, 0, n, ρ) σ 178 [rf G 38, iv x1, iv (sumN (fun s => bi (¬ lnM σ s = -1)) i), iv i] [] := by
    intro m
    induction m with
    | zero =>
      intro i hi hA
      have e : i = 3 := by omega
      refine r_iload_n dX9_count_178 rfl ?_
      refine r_iconst dX9_count_179 ?_
      refine r_icmpge (tgt := 206) dX9_count_180 rfl (by first | exact hR _ (Nat.le_of_ble_eq_true rfl) _ | omega) (by first | exact hR _ (Nat.le_of_ble_eq_true rfl) _ | omega) (fun h180 => ?_) (fun h180 => ?_)
      · refine r_iload_n dX9_count_206 rfl ?_
        exact r_ireti dX9_count_207 rfl ⟨_, rfl, rfl, by rw [hA, e]⟩
      · omega
    | succ m ih =>
      intro i hi hA
      have hji := j12 i (by omega)
      have hln : lnM σ i = if σ 42 i < 0 then -1 else σ 43 i := rfl
      have nx : ∀ z : Int, z = sumN (fun s => bi (¬ lnM σ s = -1)) i + bi (¬ lnM σ i = -1) → RW (KI l G 2 mX9_count n ρ (fun σ' z => σ' = σ ∧ z = A)) (0, 0, n, ρ) σ 178 [rf G 38, iv x1, iv z, iv (i + 1 : Nat)] [] := fun z hz => by rw [hz]; exact ih (i + 1) (by omega) hA
      refine r_iload_n dX9_count_178 rfl ?_
      refine r_iconst dX9_count_179 ?_
      refine r_icmpge (tgt := 206) dX9_count_180 rfl (by first | exact hR _ (Nat.le_of_ble_eq_true rfl) _ | omega) (by first | exact hR _ (Nat.le_of_ble_eq_true rfl) _ | omega) (fun h180 => ?_) (fun h180 => ?_)
      · omega
      · refine r_iload_n dX9_count_183 rfl ?_
        refine r_aloadk_n dX9_count_184 rfl ?_
        refine r_getr dX9_count_185 fl_X9_27 rfl rfl (hs.lt rfl) (hs.rf rfl) ?_
        refine r_iload_n dX9_count_188 rfl ?_
        refine r_iald dX9_count_189 rfl (hs.lt rfl) rfl (by omega) ?_
        refine r_iflt (tgt := 197) dX9_count_190 rfl (by first | exact hR _ (Nat.le_of_ble_eq_true rfl) _ | omega) (fun h190 => ?_) (fun h190 => ?_)
        · refine r_iconst dX9_count_197 ?_
          refine r_iadd dX9_count_198 ?_
          refine r_istore_n dX9_count_199 (Nat.le_of_ble_eq_true rfl) rfl s2 ?_
          refine r_iinc dX9_count_200 (Nat.le_of_ble_eq_true rfl) rfl rfl s3 ?_
          refine r_goto (tgt := 178) dX9_count_203 rfl ?_
          refine nx _ ?_
          unfold bi
          (repeat' split) <;> (split at hln <;> omega)
        · refine r_iconst dX9_count_193 ?_
          refine r_goto (tgt := 198) dX9_count_194 rfl ?_
          refine r_iadd dX9_count_198 ?_
          refine r_istore_n dX9_count_199 (Nat.le_of_ble_eq_true rfl) rfl s2 ?_
          refine r_iinc dX9_count_200 (Nat.le_of_ble_eq_true rfl) rfl rfl s3 ?_
          refine r_goto (tgt := 178) dX9_count_203 rfl ?_
          refine nx _ ?_
          unfold bi
          (repeat' split) <;> (split at hln <;> omega)
  refine Ct.of (L0 := [rf G 38, iv x1, xx, xx]) (by decide +kernel) (Nat.le_of_ble_eq_true rfl) rfl ?_
  refine r_aloadk_n dX9_count_0 rfl ?_
  refine r_iconst dX9_count_1 ?_
  refine r_puti dX9_count_2 fl_X9_133 rfl (hs.lt rfl) ?_
  rw [up_id t0]
  refine r_iconst dX9_count_5 ?_
  refine r_istore_n dX9_count_6 (Nat.le_of_ble_eq_true rfl) rfl s2 ?_
  refine r_iload_n dX9_count_7 rfl ?_
  by_cases h8_0 : x1 = 0
  · refine r_tabAt (c := 0) (tgt := 52) dX9_count_8 (by first | exact hR _ (Nat.le_of_ble_eq_true rfl) _ | omega) h8_0 (by decide) (by decide) rfl rfl ?_
    refine r_aloadk_n dX9_count_52 rfl ?_
    refine r_geti dX9_count_53 fl_X9_139 rfl rfl (hs.lt rfl) ?_
    exact r_ireti dX9_count_56 rfl ⟨_, rfl, rfl, by rw [← hA, c1]; unfold countS; rw [if_pos h8_0]⟩
  by_cases h8_1 : x1 = 1
  · refine r_tabAt (c := 1) (tgt := 57) dX9_count_8 (by first | exact hR _ (Nat.le_of_ble_eq_true rfl) _ | omega) h8_1 (by decide) (by decide) rfl rfl ?_
    refine r_aloadk_n dX9_count_57 rfl ?_
    refine r_geti dX9_count_58 fl_X9_142 rfl rfl (hs.lt rfl) ?_
    exact r_ireti dX9_count_61 rfl ⟨_, rfl, rfl, by rw [← hA, c3]; unfold countS; rw [if_neg h8_0, if_pos h8_1]⟩
  by_cases h8_2 : x1 = 2
  · refine r_tabAt (c := 2) (tgt := 62) dX9_count_8 (by first | exact hR _ (Nat.le_of_ble_eq_true rfl) _ | omega) h8_2 (by decide) (by decide) rfl rfl ?_
    refine r_iconst dX9_count_62 ?_
    refine r_istore_n dX9_count_63 (Nat.le_of_ble_eq_true rfl) rfl s3 ?_
    exact l2 C 0 (by omega) (e2 h8_2)
  by_cases h8_3 : x1 = 3
  · refine r_tabAt (c := 3) (tgt := 101) dX9_count_8 (by first | exact hR _ (Nat.le_of_ble_eq_true rfl) _ | omega) h8_3 (by decide) (by decide) rfl rfl ?_
    refine r_aloadk_n dX9_count_101 rfl ?_
    refine r_geti dX9_count_102 fl_X9_145 rfl rfl (hs.lt rfl) ?_
    exact r_ireti dX9_count_105 rfl ⟨_, rfl, rfl, by rw [← hA, c5]; unfold countS; rw [if_neg h8_0, if_neg h8_1, if_neg h8_2, if_pos h8_3]⟩
  by_cases h8_4 : x1 = 4
  · refine r_tabAt (c := 4) (tgt := 106) dX9_count_8 (by first | exact hR _ (Nat.le_of_ble_eq_true rfl) _ | omega) h8_4 (by decide) (by decide) rfl rfl ?_
    refine r_iconst dX9_count_106 ?_
    refine r_istore_n dX9_count_107 (Nat.le_of_ble_eq_true rfl) rfl s3 ?_
    exact l4 P 0 (by omega) (e4 h8_4)
  by_cases h8_5 : x1 = 5
  · refine r_tabAt (c := 5) (tgt := 141) dX9_count_8 (by first | exact hR _ (Nat.le_of_ble_eq_true rfl) _ | omega) h8_5 (by decide) (by decide) rfl rfl ?_
    refine r_iconst dX9_count_141 ?_
    refine r_istore_n dX9_count_142 (Nat.le_of_ble_eq_true rfl) rfl s3 ?_
    exact l5 (W * H) 0 (by omega) (e5 h8_5)
  by_cases h8_6 : x1 = 6
  · refine r_tabAt (c := 6) (tgt := 176) dX9_count_8 (by first | exact hR _ (Nat.le_of_ble_eq_true rfl) _ | omega) h8_6 (by decide) (by decide) rfl rfl ?_
    refine r_iconst dX9_count_176 ?_
    refine r_istore_n dX9_count_177 (Nat.le_of_ble_eq_true rfl) rfl s3 ?_
    exact l6 3 0 (by omega) (e6 h8_6)
  refine r_tabOut (tgt := 208) dX9_count_8 (by first | exact hR _ (Nat.le_of_ble_eq_true rfl) _ | omega) (by omega) rfl ?_
  refine r_bipush dX9_count_208 ?_
  exact r_ireti dX9_count_210 rfl ⟨_, rfl, rfl, by rw [← hA]; unfold countS; rw [if_neg h8_0, if_neg h8_1, if_neg h8_2, if_neg h8_3, if_neg h8_4, if_neg h8_5, if_neg h8_6]⟩
end Model16
