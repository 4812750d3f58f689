/-! MODEL: copy -/
def cpR (f : Nat → Int) (sp dp lo hi : Nat) : Nat → Int := fun b => if lo ≤ b ∧ b < hi then f (sp + (b - dp)) else f b
theorem cpR_W {f : Nat → Int} {sp dp m : Nat} : cpR f sp dp dp (dp + m) = cpW f f sp dp m := rfl
theorem cpR_0 {f : Nat → Int} {sp dp lo : Nat} : cpR f sp dp lo lo = f := by funext b; unfold cpR; rw [if_neg (by omega)]
theorem cpR_up {f : Nat → Int} {sp dp lo hi : Nat} {z : Int} (h : lo ≤ hi) (hz : z = f (sp + (hi - dp))) : ud (cpR f sp dp lo hi) hi z = cpR f sp dp lo (hi + 1) := by
  funext b
  unfold ud cpR
  by_cases q : b = hi
  · rw [if_pos q, if_pos (by omega), hz, q]
  · rw [if_neg q]
    by_cases q2 : lo ≤ b ∧ b < hi
    · rw [if_pos q2, if_pos (by omega)]
    · rw [if_neg q2, if_neg (by omega)]
theorem cpR_dn {f : Nat → Int} {sp dp lo hi : Nat} {z : Int} (h : lo < hi) (hz : z = f (sp + (lo - dp))) : ud (cpR f sp dp (lo + 1) hi) lo z = cpR f sp dp lo hi := by
  funext b
  unfold ud cpR
  by_cases q : b = lo
  · rw [if_pos q, if_pos (by omega), hz, q]
  · rw [if_neg q]
    by_cases q2 : lo + 1 ≤ b ∧ b < hi
    · rw [if_pos q2, if_pos (by omega)]
    · rw [if_neg q2, if_neg (by omega)]
section Model3
variable {l : Launch} {G : GG} {n : Nat} {ρ : Rho} {σ : Si} {W H P C O : Nat}
set_option maxHeartbeats 4000000 in
theorem m_copy (hs : Std n ρ) (hJ : JM σ W H P C O) (x1 x2 x3 x4 x5 : Int) (h1 : R32 x1) (h2 : R32 x2) (h3 : R32 x3) (h4 : R32 x4) (h5 : R32 x5) : CtI l G 2 mX9_copy n ρ σ [rf G 38, iv x1, iv x2, iv x3, iv x4, iv x5] (fun σ' z => (¬ ((0 ≤ x1 ∧ x1 ≤ 2) ∧ (0 ≤ x3 ∧ x3 ≤ 2)) ∧ z = -3 ∧ σ' = σ) ∨ (((0 ≤ x1 ∧ x1 ≤ 2) ∧ (0 ≤ x3 ∧ x3 ≤ 2)) ∧ (σ 42 x1.toNat < 0 ∨ σ 42 x3.toNat < 0) ∧ z = -11 ∧ σ' = σ) ∨ (((0 ≤ x1 ∧ x1 ≤ 2) ∧ (0 ≤ x3 ∧ x3 ≤ 2)) ∧ ¬ (σ 42 x1.toNat < 0 ∨ σ 42 x3.toNat < 0) ∧ ((¬ σ 42 x1.toNat = σ 42 x3.toNat ∧ z = -4 ∧ σ' = σ) ∨ (σ 42 x1.toNat = σ 42 x3.toNat ∧ ((¬ (reaP (σ 43 x1.toNat) x2 x5 ∧ reaP (σ 43 x3.toNat) x4 x5) ∧ z = -13 ∧ σ' = σ) ∨ ((reaP (σ 43 x1.toNat) x2 x5 ∧ reaP (σ 43 x3.toNat) x4 x5) ∧ z = x5 ∧ σ' = sr σ 44 (cpW (σ 44) (σ 44) (80 * x1.toNat + x2.toNat) (80 * x3.toNat + x4.toNat) x5.toNat))))))) := by
  obtain ⟨hR, t0, g, j3, j4, j5, j6, j7, j8, j9, j10, j11, j12⟩ := id hJ
  generalize hQ : (fun (σ' : Si) (z : Int) => (¬ ((0 ≤ x1 ∧ x1 ≤ 2) ∧ (0 ≤ x3 ∧ x3 ≤ 2)) ∧ z = -3 ∧ σ' = σ) ∨ (((0 ≤ x1 ∧ x1 ≤ 2) ∧ (0 ≤ x3 ∧ x3 ≤ 2)) ∧ (σ 42 x1.toNat < 0 ∨ σ 42 x3.toNat < 0) ∧ z = -11 ∧ σ' = σ) ∨ (((0 ≤ x1 ∧ x1 ≤ 2) ∧ (0 ≤ x3 ∧ x3 ≤ 2)) ∧ ¬ (σ 42 x1.toNat < 0 ∨ σ 42 x3.toNat < 0) ∧ ((¬ σ 42 x1.toNat = σ 42 x3.toNat ∧ z = -4 ∧ σ' = σ) ∨ (σ 42 x1.toNat = σ 42 x3.toNat ∧ ((¬ (reaP (σ 43 x1.toNat) x2 x5 ∧ reaP (σ 43 x3.toNat) x4 x5) ∧ z = -13 ∧ σ' = σ) ∨ ((reaP (σ 43 x1.toNat) x2 x5 ∧ reaP (σ 43 x3.toNat) x4 x5) ∧ z = x5 ∧ σ' = sr σ 44 (cpW (σ 44) (σ 44) (80 * x1.toNat + x2.toNat) (80 * x3.toNat + x4.toNat) x5.toNat))))))) = Q
  have asc : ∀ (f t p a k m i : Nat) (x7 : Value), isJ x7 = false → f < 3 → t < 3 → p + k ≤ 80 → a + k ≤ 80 → a ≤ p → i + m = k → Q (sr σ 44 (cpW (σ 44) (σ 44) (80 * f + p) (80 * t + a) k)) k → RW (KI l G 2 mX9_copy n ρ Q) (0, 0, n, ρ) (sr σ 44 (cpR (σ 44) (80 * f + p) (80 * t + a) (80 * t + a) (80 * t + a + i))) 115 [rf G 38, iv f, iv p, iv t, iv a, iv k, iv i, x7] [] := by
    intro f t p a k m
    induction m with
    | zero =>
      intro i x7 hx7 hf ht hp ha hap hi hq
      have e : i = k := by omega
      subst e
      refine r_iload dX9_copy_115 rfl ?_
      refine r_iload dX9_copy_117 rfl ?_
      refine r_icmpge (tgt := 177) dX9_copy_119 rfl (by omega) (by omega) (fun h119 => ?_) (fun h119 => ?_)
      · refine r_iload dX9_copy_177 rfl ?_
        exact r_ireti dX9_copy_179 rfl ⟨_, rfl, hq⟩
      · omega
    | succ m ih =>
      intro i x7 hx7 hf ht hp ha hap hi hq
      refine r_iload dX9_copy_115 rfl ?_
      refine r_iload dX9_copy_117 rfl ?_
      refine r_icmpge (tgt := 177) dX9_copy_119 rfl (by omega) (by omega) (fun h119 => ?_) (fun h119 => ?_)
      · omega
      · refine r_iload dX9_copy_122 rfl ?_
        refine r_iload_n dX9_copy_124 rfl ?_
        refine r_icmple (tgt := 138) dX9_copy_125 rfl (by omega) (by omega) (fun h125 => ?_) (fun h125 => ?_)
        · refine r_iload dX9_copy_138 rfl ?_
          refine r_istore dX9_copy_140 (Nat.le_of_ble_eq_true rfl) rfl s7 ?_
          refine r_aloadk_n dX9_copy_142 rfl ?_
          refine r_getr dX9_copy_143 fl_X9_33 rfl rfl (hs.lt rfl) (hs.rf rfl) ?_
          refine r_bipush dX9_copy_146 ?_
          refine r_iload_n dX9_copy_148 rfl ?_
          refine r_imul dX9_copy_149 ?_
          refine r_iload dX9_copy_150 rfl ?_
          refine r_iadd dX9_copy_152 ?_
          refine r_iload dX9_copy_153 rfl ?_
          refine r_iadd dX9_copy_155 ?_
          refine r_aloadk_n dX9_copy_156 rfl ?_
          refine r_getr dX9_copy_157 fl_X9_33 rfl rfl (hs.lt rfl) (hs.rf rfl) ?_
          refine r_bipush dX9_copy_160 ?_
          refine r_iload_n dX9_copy_162 rfl ?_
          refine r_imul dX9_copy_163 ?_
          refine r_iload_n dX9_copy_164 rfl ?_
          refine r_iadd dX9_copy_165 ?_
          refine r_iload dX9_copy_166 rfl ?_
          refine r_iadd dX9_copy_168 ?_
          refine r_iald dX9_copy_169 rfl (hs.lt rfl) (c := 80 * f + p + i) (by omega) (by omega) ?_
          refine r_iast dX9_copy_170 rfl (hs.lt rfl) (c := 80 * t + a + i) (by omega) (by omega) ?_
          refine r_iinc dX9_copy_171 (Nat.le_of_ble_eq_true rfl) rfl rfl s6 ?_
          refine r_goto (tgt := 115) dX9_copy_174 rfl ?_
          rw [up_sr, cpR_up (by omega) (by show cpR (σ 44) (80 * f + p) (80 * t + a) (80 * t + a) (80 * t + a + i) (80 * f + p + i) = _; unfold cpR; rw [if_neg (by omega), show 80 * f + p + (80 * t + a + i - (80 * t + a)) = 80 * f + p + i by omega])]
          exact ih (i + 1) _ rfl hf ht hp ha hap (by omega) hq
        · omega
  have dsc : ∀ (f t p a k m i : Nat) (x7 : Value), isJ x7 = false → f < 3 → t < 3 → p + k ≤ 80 → a + k ≤ 80 → p < a → i + m = k → Q (sr σ 44 (cpW (σ 44) (σ 44) (80 * f + p) (80 * t + a) k)) k → RW (KI l G 2 mX9_copy n ρ Q) (0, 0, n, ρ) (sr σ 44 (cpR (σ 44) (80 * f + p) (80 * t + a) (80 * t + a + m) (80 * t + a + k))) 115 [rf G 38, iv f, iv p, iv t, iv a, iv k, iv i, x7] [] := by
    intro f t p a k m
    induction m with
    | zero =>
      intro i x7 hx7 hf ht hp ha hap hi hq
      have e : i = k := by omega
      subst e
      refine r_iload dX9_copy_115 rfl ?_
      refine r_iload dX9_copy_117 rfl ?_
      refine r_icmpge (tgt := 177) dX9_copy_119 rfl (by omega) (by omega) (fun h119 => ?_) (fun h119 => ?_)
      · refine r_iload dX9_copy_177 rfl ?_
        exact r_ireti dX9_copy_179 rfl ⟨_, rfl, hq⟩
      · omega
    | succ m ih =>
      intro i x7 hx7 hf ht hp ha hap hi hq
      refine r_iload dX9_copy_115 rfl ?_
      refine r_iload dX9_copy_117 rfl ?_
      refine r_icmpge (tgt := 177) dX9_copy_119 rfl (by omega) (by omega) (fun h119 => ?_) (fun h119 => ?_)
      · omega
      · refine r_iload dX9_copy_122 rfl ?_
        refine r_iload_n dX9_copy_124 rfl ?_
        refine r_icmple (tgt := 138) dX9_copy_125 rfl (by omega) (by omega) (fun h125 => ?_) (fun h125 => ?_)
        · omega
        · refine r_iload dX9_copy_128 rfl ?_
          refine r_iconst dX9_copy_130 ?_
          refine r_isub dX9_copy_131 ?_
          refine r_iload dX9_copy_132 rfl ?_
          refine r_isub dX9_copy_134 ?_
          refine r_goto (tgt := 140) dX9_copy_135 rfl ?_
          refine r_istore dX9_copy_140 (Nat.le_of_ble_eq_true rfl) rfl s7 ?_
          refine r_aloadk_n dX9_copy_142 rfl ?_
          refine r_getr dX9_copy_143 fl_X9_33 rfl rfl (hs.lt rfl) (hs.rf rfl) ?_
          refine r_bipush dX9_copy_146 ?_
          refine r_iload_n dX9_copy_148 rfl ?_
          refine r_imul dX9_copy_149 ?_
          refine r_iload dX9_copy_150 rfl ?_
          refine r_iadd dX9_copy_152 ?_
          refine r_iload dX9_copy_153 rfl ?_
          refine r_iadd dX9_copy_155 ?_
          refine r_aloadk_n dX9_copy_156 rfl ?_
          refine r_getr dX9_copy_157 fl_X9_33 rfl rfl (hs.lt rfl) (hs.rf rfl) ?_
          refine r_bipush dX9_copy_160 ?_
          refine r_iload_n dX9_copy_162 rfl ?_
          refine r_imul dX9_copy_163 ?_
          refine r_iload_n dX9_copy_164 rfl ?_
          refine r_iadd dX9_copy_165 ?_
          refine r_iload dX9_copy_166 rfl ?_
          refine r_iadd dX9_copy_168 ?_
          refine r_iald dX9_copy_169 rfl (hs.lt rfl) (c := 80 * f + p + m) (by omega) (by omega) ?_
          refine r_iast dX9_copy_170 rfl (hs.lt rfl) (c := 80 * t + a + m) (by omega) (by omega) ?_
          refine r_iinc dX9_copy_171 (Nat.le_of_ble_eq_true rfl) rfl rfl s6 ?_
          refine r_goto (tgt := 115) dX9_copy_174 rfl ?_
          rw [up_sr, show 80 * t + a + (m + 1) = 80 * t + a + m + 1 by omega, cpR_dn (by omega) (by show cpR (σ 44) (80 * f + p) (80 * t + a) (80 * t + a + m + 1) (80 * t + a + k) (80 * f + p + m) = _; unfold cpR; rw [if_neg (by omega), show 80 * f + p + (80 * t + a + m - (80 * t + a)) = 80 * f + p + m by omega])]
          exact ih (i + 1) _ rfl hf ht hp ha hap (by omega) hq
  refine Ct.of (L0 := [rf G 38, iv x1, iv x2, iv x3, iv x4, iv x5, xx, xx]) (by decide +kernel) (Nat.le_of_ble_eq_true rfl) rfl ?_
  refine r_aloadk_n dX9_copy_0 rfl ?_
  refine r_iconst dX9_copy_1 ?_
  refine r_puti dX9_copy_2 fl_X9_133 rfl (hs.lt rfl) ?_
  rw [up_id t0]
  refine r_iload_n dX9_copy_5 rfl ?_
  refine q_callSr dX9_copy_6 (m_isSurvey x1 h1) ml_X9_164 okX9_isSurvey rfl rfl (Nat.le_of_ble_eq_true rfl) (roomOK.of (by decide)) ⟨(Nat.le_of_ble_eq_true rfl), (Nat.le_of_ble_eq_true rfl)⟩ ?_
  refine r_ifeqb (tgt := 19) dX9_copy_9 rfl (fun h9 => ?_) (fun h9 => ?_)
  · refine r_bipush dX9_copy_19 ?_
    exact r_ireti dX9_copy_21 rfl ⟨_, rfl, by rw [← hQ]; exact Or.inl ⟨by omega, rfl, rfl⟩⟩
  · refine r_iload_n dX9_copy_12 rfl ?_
    refine q_callSr dX9_copy_13 (m_isSurvey x3 h3) ml_X9_164 okX9_isSurvey rfl rfl (Nat.le_of_ble_eq_true rfl) (roomOK.of (by decide)) ⟨(Nat.le_of_ble_eq_true rfl), (Nat.le_of_ble_eq_true rfl)⟩ ?_
    refine r_ifneb (tgt := 22) dX9_copy_16 rfl (fun h16 => ?_) (fun h16 => ?_)
    · obtain ⟨f, hf⟩ : ∃ f : Nat, x1 = f := ⟨x1.toNat, by omega⟩
      obtain ⟨t, ht⟩ : ∃ t : Nat, x3 = t := ⟨x3.toNat, by omega⟩
      have hf3 : f < 3 := by omega
      have ht3 : t < 3 := by omega
      have hlf := j12 f hf3
      have hlt := j12 t ht3
      subst hf
      subst ht
      refine r_aloadk_n dX9_copy_22 rfl ?_
      refine r_getr dX9_copy_23 fl_X9_27 rfl rfl (hs.lt rfl) (hs.rf rfl) ?_
      refine r_iload_n dX9_copy_26 rfl ?_
      refine r_iald dX9_copy_27 rfl (hs.lt rfl) rfl (by omega) ?_
      refine r_iflt (tgt := 40) dX9_copy_28 rfl (by first | exact hR _ (Nat.le_of_ble_eq_true rfl) _ | omega) (fun h28 => ?_) (fun h28 => ?_)
      · refine r_bipush dX9_copy_40 ?_
        exact r_ireti dX9_copy_42 rfl ⟨_, rfl, by rw [← hQ]; exact Or.inr (Or.inl ⟨⟨h9, h16⟩, by first | exact Or.inl h28 | exact Or.inr h37, rfl, rfl⟩)⟩
      · refine r_aloadk_n dX9_copy_31 rfl ?_
        refine r_getr dX9_copy_32 fl_X9_27 rfl rfl (hs.lt rfl) (hs.rf rfl) ?_
        refine r_iload_n dX9_copy_35 rfl ?_
        refine r_iald dX9_copy_36 rfl (hs.lt rfl) rfl (by omega) ?_
        refine r_ifge (tgt := 43) dX9_copy_37 rfl (by first | exact hR _ (Nat.le_of_ble_eq_true rfl) _ | omega) (fun h37 => ?_) (fun h37 => ?_)
        · refine r_aloadk_n dX9_copy_43 rfl ?_
          refine r_getr dX9_copy_44 fl_X9_27 rfl rfl (hs.lt rfl) (hs.rf rfl) ?_
          refine r_iload_n dX9_copy_47 rfl ?_
          refine r_iald dX9_copy_48 rfl (hs.lt rfl) rfl (by omega) ?_
          refine r_aloadk_n dX9_copy_49 rfl ?_
          refine r_getr dX9_copy_50 fl_X9_27 rfl rfl (hs.lt rfl) (hs.rf rfl) ?_
          refine r_iload_n dX9_copy_53 rfl ?_
          refine r_iald dX9_copy_54 rfl (hs.lt rfl) rfl (by omega) ?_
          refine r_icmpeq (tgt := 61) dX9_copy_55 rfl (by first | exact hR _ (Nat.le_of_ble_eq_true rfl) _ | omega) (by first | exact hR _ (Nat.le_of_ble_eq_true rfl) _ | omega) (fun h55 => ?_) (fun h55 => ?_)
          · refine r_iload dX9_copy_61 rfl ?_
            refine r_iflt (tgt := 109) dX9_copy_63 rfl (by first | exact hR _ (Nat.le_of_ble_eq_true rfl) _ | omega) (fun h63 => ?_) (fun h63 => ?_)
            · refine r_bipush dX9_copy_109 ?_
              exact r_ireti dX9_copy_111 rfl ⟨_, rfl, by rw [← hQ]; exact Or.inr (Or.inr ⟨⟨h9, h16⟩, by simp only [Int.toNat_natCast]; omega, Or.inr ⟨h55, Or.inl ⟨by simp only [Int.toNat_natCast]; omega, rfl, rfl⟩⟩⟩)⟩
            · refine r_iload_n dX9_copy_66 rfl ?_
              refine r_iflt (tgt := 109) dX9_copy_67 rfl (by first | exact hR _ (Nat.le_of_ble_eq_true rfl) _ | omega) (fun h67 => ?_) (fun h67 => ?_)
              · refine r_bipush dX9_copy_109 ?_
                exact r_ireti dX9_copy_111 rfl ⟨_, rfl, by rw [← hQ]; exact Or.inr (Or.inr ⟨⟨h9, h16⟩, by simp only [Int.toNat_natCast]; omega, Or.inr ⟨h55, Or.inl ⟨by simp only [Int.toNat_natCast]; omega, rfl, rfl⟩⟩⟩)⟩
              · refine r_iload dX9_copy_70 rfl ?_
                refine r_iflt (tgt := 109) dX9_copy_72 rfl (by first | exact hR _ (Nat.le_of_ble_eq_true rfl) _ | omega) (fun h72 => ?_) (fun h72 => ?_)
                · refine r_bipush dX9_copy_109 ?_
                  exact r_ireti dX9_copy_111 rfl ⟨_, rfl, by rw [← hQ]; exact Or.inr (Or.inr ⟨⟨h9, h16⟩, by simp only [Int.toNat_natCast]; omega, Or.inr ⟨h55, Or.inl ⟨by simp only [Int.toNat_natCast]; omega, rfl, rfl⟩⟩⟩)⟩
                · refine r_iload dX9_copy_75 rfl ?_
                  refine r_bipush dX9_copy_77 ?_
                  refine r_icmpgt (tgt := 109) dX9_copy_79 rfl (by first | exact hR _ (Nat.le_of_ble_eq_true rfl) _ | omega) (by first | exact hR _ (Nat.le_of_ble_eq_true rfl) _ | omega) (fun h79 => ?_) (fun h79 => ?_)
                  · refine r_bipush dX9_copy_109 ?_
                    exact r_ireti dX9_copy_111 rfl ⟨_, rfl, by rw [← hQ]; exact Or.inr (Or.inr ⟨⟨h9, h16⟩, by simp only [Int.toNat_natCast]; omega, Or.inr ⟨h55, Or.inl ⟨by simp only [Int.toNat_natCast]; omega, rfl, rfl⟩⟩⟩)⟩
                  · refine r_iload_n dX9_copy_82 rfl ?_
                    refine r_aloadk_n dX9_copy_83 rfl ?_
                    refine r_getr dX9_copy_84 fl_X9_30 rfl rfl (hs.lt rfl) (hs.rf rfl) ?_
                    refine r_iload_n dX9_copy_87 rfl ?_
                    refine r_iald dX9_copy_88 rfl (hs.lt rfl) rfl (by omega) ?_
                    refine r_iload dX9_copy_89 rfl ?_
                    refine r_isub dX9_copy_91 ?_
                    refine r_icmpgt (tgt := 109) dX9_copy_92 rfl (by first | exact hR _ (Nat.le_of_ble_eq_true rfl) _ | omega) (by first | exact hR _ (Nat.le_of_ble_eq_true rfl) _ | omega) (fun h92 => ?_) (fun h92 => ?_)
                    · refine r_bipush dX9_copy_109 ?_
                      exact r_ireti dX9_copy_111 rfl ⟨_, rfl, by rw [← hQ]; exact Or.inr (Or.inr ⟨⟨h9, h16⟩, by simp only [Int.toNat_natCast]; omega, Or.inr ⟨h55, Or.inl ⟨by simp only [Int.toNat_natCast]; omega, rfl, rfl⟩⟩⟩)⟩
                    · refine r_iload dX9_copy_95 rfl ?_
                      refine r_aloadk_n dX9_copy_97 rfl ?_
                      refine r_getr dX9_copy_98 fl_X9_30 rfl rfl (hs.lt rfl) (hs.rf rfl) ?_
                      refine r_iload_n dX9_copy_101 rfl ?_
                      refine r_iald dX9_copy_102 rfl (hs.lt rfl) rfl (by omega) ?_
                      refine r_iload dX9_copy_103 rfl ?_
                      refine r_isub dX9_copy_105 ?_
                      refine r_icmple (tgt := 112) dX9_copy_106 rfl (by first | exact hR _ (Nat.le_of_ble_eq_true rfl) _ | omega) (by first | exact hR _ (Nat.le_of_ble_eq_true rfl) _ | omega) (fun h106 => ?_) (fun h106 => ?_)
                      · obtain ⟨p, hp⟩ : ∃ p : Nat, x2 = p := ⟨x2.toNat, by omega⟩
                        obtain ⟨a, ha⟩ : ∃ a : Nat, x4 = a := ⟨x4.toNat, by omega⟩
                        obtain ⟨k, hk⟩ : ∃ k : Nat, x5 = k := ⟨x5.toNat, by omega⟩
                        subst hp
                        subst ha
                        subst hk
                        have hq : Q (sr σ 44 (cpW (σ 44) (σ 44) (80 * f + p) (80 * t + a) k)) k := by
                          rw [← hQ]
                          exact Or.inr (Or.inr ⟨⟨h9, h16⟩, by simp only [Int.toNat_natCast]; omega, Or.inr ⟨h55, Or.inr ⟨by simp only [Int.toNat_natCast]; omega, rfl, rfl⟩⟩⟩)
                        refine r_iconst dX9_copy_112 ?_
                        refine r_istore dX9_copy_113 (Nat.le_of_ble_eq_true rfl) rfl s6 ?_
                        by_cases hap : a ≤ p
                        · have h := asc f t p a k k 0 xx rfl hf3 ht3 (by omega) (by omega) hap (by omega) hq
                          rw [Nat.add_zero, cpR_0, sr_self] at h
                          exact h
                        · have h := dsc f t p a k k 0 xx rfl hf3 ht3 (by omega) (by omega) (by omega) (by omega) hq
                          rw [cpR_0, sr_self] at h
                          exact h
                      · refine r_bipush dX9_copy_109 ?_
                        exact r_ireti dX9_copy_111 rfl ⟨_, rfl, by rw [← hQ]; exact Or.inr (Or.inr ⟨⟨h9, h16⟩, by simp only [Int.toNat_natCast]; omega, Or.inr ⟨h55, Or.inl ⟨by simp only [Int.toNat_natCast]; omega, rfl, rfl⟩⟩⟩)⟩
          · refine r_bipush dX9_copy_58 ?_
            exact r_ireti dX9_copy_60 rfl ⟨_, rfl, by rw [← hQ]; exact Or.inr (Or.inr ⟨⟨h9, h16⟩, by simp only [Int.toNat_natCast]; omega, Or.inl ⟨h55, rfl, rfl⟩⟩)⟩
        · refine r_bipush dX9_copy_40 ?_
          exact r_ireti dX9_copy_42 rfl ⟨_, rfl, by rw [← hQ]; exact Or.inr (Or.inl ⟨⟨h9, h16⟩, by first | exact Or.inl h28 | exact Or.inr h37, rfl, rfl⟩)⟩
    · refine r_bipush dX9_copy_19 ?_
      exact r_ireti dX9_copy_21 rfl ⟨_, rfl, by rw [← hQ]; exact Or.inl ⟨by omega, rfl, rfl⟩⟩
end Model3
