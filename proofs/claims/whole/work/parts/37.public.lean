/-! CLASS: what holds of the desk between calls; the public methods, first half -/
def JC (σ : Si) (W H P C O : Nat) : Prop := Rg σ ∧ Geo σ W H ∧ (∀ c, 0 ≤ σ 4 c ∧ σ 4 c ≤ 9) ∧ (∀ c, 0 ≤ σ 5 c ∧ σ 5 c ≤ 2) ∧ (∀ c, 0 ≤ σ 6 c ∧ σ 6 c ≤ 1) ∧ ClmC σ P C O ∧ (∀ b, 8 ≤ b → σ 30 b = 0 ∧ σ 31 b = 0 ∧ σ 32 b = 0) ∧ ((0 ≤ σ 1 0 ∧ σ 1 0 ≤ 999) ∧ (0 ≤ σ 1 1 ∧ σ 1 1 ≤ 999) ∧ (0 ≤ σ 1 2 ∧ σ 1 2 ≤ 50) ∧ (0 ≤ σ 1 3 ∧ σ 1 3 ≤ 1000) ∧ (0 ≤ σ 1 4 ∧ σ 1 4 ≤ 50)) ∧ (0 ≤ σ 2 3 ∧ σ 2 3 ≤ 900000) ∧ (∀ p, p < P → 0 ≤ σ 21 p ∧ σ 21 p < (W * H : Nat)) ∧ ShpOK W H (σ 36) ∧ (∀ p, P ≤ p → p < 8 → σ 36 p = -1 ∧ σ 37 p = -1) ∧ (∀ s, s < 3 → -1 ≤ σ 18 s ∧ σ 18 s ≤ 80) ∧ (∀ p, p < 8 → -1 ≤ σ 37 p ∧ σ 37 p ≤ 999)
theorem JC.shr {σ : Si} {W H P C O : Nat} (h : JC σ W H P C O) : ShrP σ W H P C O := by
  obtain ⟨j1, j2, j3, j4, j5, j6, j7, j8, j9, j10, j11, j12, j13, j14⟩ := h
  exact ⟨j1, j2.2.2.1, j2.le, j3, j6, j7, j8.2.2.2.1, j8.2.2.1, by omega⟩
theorem cp_lo : (List.map (fun v : Value => v.category) []).sum + (nativeFrameWords "java/lang/System" "arraycopy" 5 + 11) ≤ 100 := by decide +kernel
section Public
variable {l : Launch} {G : GG} {n : Nat} {ρ : Rho} {σ : Si} {W H P C O : Nat}
theorem c_copy (hs : Std n ρ) (hJ : JC σ W H P C O) (x1 x2 x3 x4 x5 : Int) (h1 : R32 x1) (h2 : R32 x2) (h3 : R32 x3) (h4 : R32 x4) (h5 : R32 x5) : CtI l G 2 mX8_copy n ρ σ [rf G 0, iv x1, iv x2, iv x3, iv x4, iv x5] (fun σ' z => (¬ ((0 ≤ x1 ∧ x1 ≤ 2) ∧ (0 ≤ x3 ∧ x3 ≤ 2)) ∧ z = -3 ∧ σ' = σ) ∨ (((0 ≤ x1 ∧ x1 ≤ 2) ∧ (0 ≤ x3 ∧ x3 ≤ 2)) ∧ (σ 18 x1.toNat = -1 ∨ σ 18 x3.toNat = -1) ∧ z = -11 ∧ σ' = σ) ∨ (((0 ≤ x1 ∧ x1 ≤ 2) ∧ (0 ≤ x3 ∧ x3 ≤ 2)) ∧ ¬ (σ 18 x1.toNat = -1 ∨ σ 18 x3.toNat = -1) ∧ ((¬ σ 17 x1.toNat = σ 17 x3.toNat ∧ z = -4 ∧ σ' = σ) ∨ (σ 17 x1.toNat = σ 17 x3.toNat ∧ ((¬ (reaP (σ 18 x1.toNat) x2 x5 ∧ reaP (σ 18 x3.toNat) x4 x5) ∧ z = -13 ∧ σ' = σ) ∨ ((reaP (σ 18 x1.toNat) x2 x5 ∧ reaP (σ 18 x3.toNat) x4 x5) ∧ z = x5 ∧ σ' = sr σ (14 + x3.toNat) (cpW (σ (14 + x1.toNat)) (σ (14 + x3.toNat)) x2.toNat x4.toNat x5.toNat))))))) := by
  obtain ⟨hR, j2, j3, j4, j5, j6, j7, j8, j9, j10, j11, j12, j13, j14⟩ := id hJ
  refine Ct.of (L0 := [rf G 0, iv x1, iv x2, iv x3, iv x4, iv x5]) (by decide +kernel) (Nat.le_of_ble_eq_true rfl) rfl ?_
  refine r_iload_n dX8_copy_0 rfl ?_
  refine q_callSr dX8_copy_1 (c_isSurvey x1 h1) ml_X8_95 okX8_isSurvey rfl rfl (Nat.le_of_ble_eq_true rfl) (roomOK.of (by decide)) ⟨(Nat.le_of_ble_eq_true rfl), (Nat.le_of_ble_eq_true rfl)⟩ ?_
  refine r_ifeqb (tgt := 14) dX8_copy_4 rfl (fun h4 => ?_) (fun h4 => ?_)
  · refine r_bipush dX8_copy_14 ?_
    exact r_ireti dX8_copy_16 rfl ⟨_, rfl, Or.inl ⟨by omega, rfl, rfl⟩⟩
  · have h4_ := h4
    refine r_iload_n dX8_copy_7 rfl ?_
    refine q_callSr dX8_copy_8 (c_isSurvey x3 h3) ml_X8_95 okX8_isSurvey rfl rfl (Nat.le_of_ble_eq_true rfl) (roomOK.of (by decide)) ⟨(Nat.le_of_ble_eq_true rfl), (Nat.le_of_ble_eq_true rfl)⟩ ?_
    refine r_ifneb (tgt := 17) dX8_copy_11 rfl (fun h11 => ?_) (fun h11 => ?_)
    · obtain ⟨a, rfl⟩ : ∃ a : Nat, x1 = a := ⟨x1.toNat, by omega⟩
      obtain ⟨b, rfl⟩ : ∃ b : Nat, x3 = b := ⟨x3.toNat, by omega⟩
      have ha : a < 3 := by omega
      have hb : b < 3 := by omega
      have hla := j13 a ha
      have hlb := j13 b hb
      refine r_aloadk_n dX8_copy_17 rfl ?_
      refine r_getr dX8_copy_18 fl_X8_32 rfl rfl (hs.lt rfl) (hs.rf rfl) ?_
      refine r_iload_n dX8_copy_21 rfl ?_
      refine q_callVr dX8_copy_22 (c_isMissing hs hR a ha) ml_X8_102 okX7_isMissing rfl rfl (hs.lt rfl) rfl rfl (Nat.le_of_ble_eq_true rfl) (roomOK.of (by decide)) ⟨(Nat.le_of_ble_eq_true rfl), (Nat.le_of_ble_eq_true rfl)⟩ ?_
      refine r_ifneb (tgt := 39) dX8_copy_25 rfl (fun h25 => ?_) (fun h25 => ?_)
      · refine r_bipush dX8_copy_39 ?_
        exact r_ireti dX8_copy_41 rfl ⟨_, rfl, Or.inr (Or.inl ⟨⟨h4_, h11⟩, by first | exact Or.inl h25 | exact Or.inr h36, rfl, rfl⟩)⟩
      · refine r_aloadk_n dX8_copy_28 rfl ?_
        refine r_getr dX8_copy_29 fl_X8_32 rfl rfl (hs.lt rfl) (hs.rf rfl) ?_
        refine r_iload_n dX8_copy_32 rfl ?_
        refine q_callVr dX8_copy_33 (c_isMissing hs hR b hb) ml_X8_102 okX7_isMissing rfl rfl (hs.lt rfl) rfl rfl (Nat.le_of_ble_eq_true rfl) (roomOK.of (by decide)) ⟨(Nat.le_of_ble_eq_true rfl), (Nat.le_of_ble_eq_true rfl)⟩ ?_
        refine r_ifeqb (tgt := 42) dX8_copy_36 rfl (fun h36 => ?_) (fun h36 => ?_)
        · refine r_aloadk_n dX8_copy_42 rfl ?_
          refine r_getr dX8_copy_43 fl_X8_32 rfl rfl (hs.lt rfl) (hs.rf rfl) ?_
          refine r_getr dX8_copy_46 fl_X8_118 rfl rfl (hs.lt rfl) (hs.rf rfl) ?_
          refine r_iload_n dX8_copy_49 rfl ?_
          refine r_iald dX8_copy_50 rfl (hs.lt rfl) rfl (by omega) ?_
          refine r_aloadk_n dX8_copy_51 rfl ?_
          refine r_getr dX8_copy_52 fl_X8_32 rfl rfl (hs.lt rfl) (hs.rf rfl) ?_
          refine r_getr dX8_copy_55 fl_X8_118 rfl rfl (hs.lt rfl) (hs.rf rfl) ?_
          refine r_iload_n dX8_copy_58 rfl ?_
          refine r_iald dX8_copy_59 rfl (hs.lt rfl) rfl (by omega) ?_
          refine r_icmpeq (tgt := 66) dX8_copy_60 rfl (by first | exact hR _ (Nat.le_of_ble_eq_true rfl) _ | omega) (by first | exact hR _ (Nat.le_of_ble_eq_true rfl) _ | omega) (fun h60 => ?_) (fun h60 => ?_)
          · refine r_aloadk_n dX8_copy_66 rfl ?_
            refine r_getr dX8_copy_67 fl_X8_32 rfl rfl (hs.lt rfl) (hs.rf rfl) ?_
            refine r_iload_n dX8_copy_70 rfl ?_
            refine r_iload_n dX8_copy_71 rfl ?_
            refine r_iload dX8_copy_72 rfl ?_
            refine q_callVr dX8_copy_74 (c_reaches hs hR a ha hla x2 x5 h2 h5) ml_X8_108 okX7_reaches rfl rfl (hs.lt rfl) rfl rfl (Nat.le_of_ble_eq_true rfl) (roomOK.of (by decide)) ⟨(Nat.le_of_ble_eq_true rfl), (Nat.le_of_ble_eq_true rfl)⟩ ?_
            refine r_ifeqb (tgt := 95) dX8_copy_77 rfl (fun h77 => ?_) (fun h77 => ?_)
            · refine r_bipush dX8_copy_95 ?_
              exact r_ireti dX8_copy_97 rfl ⟨_, rfl, Or.inr (Or.inr ⟨⟨h4_, h11⟩, fun q => q.elim h25 h36, Or.inr ⟨h60, Or.inl ⟨by first | exact fun q => h77 q.1 | exact fun q => h92 q.2, rfl, rfl⟩⟩⟩)⟩
            · refine r_aloadk_n dX8_copy_80 rfl ?_
              refine r_getr dX8_copy_81 fl_X8_32 rfl rfl (hs.lt rfl) (hs.rf rfl) ?_
              refine r_iload_n dX8_copy_84 rfl ?_
              refine r_iload dX8_copy_85 rfl ?_
              refine r_iload dX8_copy_87 rfl ?_
              refine q_callVr dX8_copy_89 (c_reaches hs hR b hb hlb x4 x5 (by assumption) h5) ml_X8_108 okX7_reaches rfl rfl (hs.lt rfl) rfl rfl (Nat.le_of_ble_eq_true rfl) (roomOK.of (by decide)) ⟨(Nat.le_of_ble_eq_true rfl), (Nat.le_of_ble_eq_true rfl)⟩ ?_
              refine r_ifneb (tgt := 98) dX8_copy_92 rfl (fun h92 => ?_) (fun h92 => ?_)
              · obtain ⟨sp, rfl⟩ : ∃ a : Nat, x2 = a := ⟨x2.toNat, by omega⟩
                obtain ⟨dp, rfl⟩ : ∃ a : Nat, x4 = a := ⟨x4.toNat, by omega⟩
                obtain ⟨mm, rfl⟩ : ∃ a : Nat, x5 = a := ⟨x5.toNat, by omega⟩
                refine r_aloadk_n dX8_copy_98 rfl ?_
                refine r_getr dX8_copy_99 fl_X8_32 rfl rfl (hs.lt rfl) (hs.rf rfl) ?_
                refine r_getr dX8_copy_102 fl_X8_111 rfl rfl (hs.lt rfl) (hs.rf rfl) ?_
                refine r_iload_n dX8_copy_105 rfl ?_
                refine r_aald dX8_copy_106 rfl (hs.lt rfl) (c := a) rfl ha (hs.rf (sref13 a ha)) ?_
                refine r_iload_n dX8_copy_107 rfl ?_
                refine r_aloadk_n dX8_copy_108 rfl ?_
                refine r_getr dX8_copy_109 fl_X8_32 rfl rfl (hs.lt rfl) (hs.rf rfl) ?_
                refine r_getr dX8_copy_112 fl_X8_111 rfl rfl (hs.lt rfl) (hs.rf rfl) ?_
                refine r_iload_n dX8_copy_115 rfl ?_
                refine r_aald dX8_copy_116 rfl (hs.lt rfl) (c := b) rfl hb (hs.rf (sref13 b hb)) ?_
                refine r_iload dX8_copy_117 rfl ?_
                refine r_iload dX8_copy_119 rfl ?_
                refine r_copy dX8_copy_121 ml_X8_121 cp_nat cp_st cp_ini (shp13 a ha) (shp13 b hb) (Nat.lt_of_lt_of_le (by omega : 14 + a < 73) hs.1) (Nat.lt_of_lt_of_le (by omega : 14 + b < 73) hs.1) (by omega) (by omega) (Nat.le_of_ble_eq_true rfl) (Nat.le_trans cp_lo (Nat.le_of_ble_eq_true rfl)) ?_
                refine r_iload dX8_copy_124 rfl ?_
                exact r_ireti dX8_copy_126 rfl ⟨_, rfl, Or.inr (Or.inr ⟨⟨h4_, h11⟩, fun q => q.elim h25 h36, Or.inr ⟨h60, Or.inr ⟨⟨h77, h92⟩, rfl, cpy_sr⟩⟩⟩)⟩
              · refine r_bipush dX8_copy_95 ?_
                exact r_ireti dX8_copy_97 rfl ⟨_, rfl, Or.inr (Or.inr ⟨⟨h4_, h11⟩, fun q => q.elim h25 h36, Or.inr ⟨h60, Or.inl ⟨by first | exact fun q => h77 q.1 | exact fun q => h92 q.2, rfl, rfl⟩⟩⟩)⟩
          · refine r_bipush dX8_copy_63 ?_
            exact r_ireti dX8_copy_65 rfl ⟨_, rfl, Or.inr (Or.inr ⟨⟨h4_, h11⟩, fun q => q.elim h25 h36, Or.inl ⟨h60, rfl, rfl⟩⟩)⟩
        · refine r_bipush dX8_copy_39 ?_
          exact r_ireti dX8_copy_41 rfl ⟨_, rfl, Or.inr (Or.inl ⟨⟨h4_, h11⟩, by first | exact Or.inl h25 | exact Or.inr h36, rfl, rfl⟩)⟩
    · refine r_bipush dX8_copy_14 ?_
      exact r_ireti dX8_copy_16 rfl ⟨_, rfl, Or.inl ⟨by omega, rfl, rfl⟩⟩
def badF (r : Nat → Int) (i : Nat) : Bool := decide (¬ (0 ≤ r i ∧ r i ≤ 9))
theorem badF_t {r : Nat → Int} {i : Nat} : badF r i = true ↔ ¬ (0 ≤ r i ∧ r i ≤ 9) := by unfold badF; exact decide_eq_true_iff
theorem c_read0 (hs : Std n ρ) (hJ : JC σ W H P C O) (s : Nat) (hs3 : s < 3) : CtI l G 2 mX8_read n ρ σ [rf G 0, iv s] (fun σ' z => (¬ (0 ≤ (s : Int) ∧ (s : Int) ≤ 2) ∧ z = -3 ∧ σ' = σ) ∨ ((0 ≤ (s : Int) ∧ (s : Int) ≤ 2) ∧ σ 18 s = -1 ∧ z = -11 ∧ σ' = σ) ∨ ((0 ≤ (s : Int) ∧ (s : Int) ≤ 2) ∧ ¬ σ 18 s = -1 ∧ ((anyN (badF (σ (14 + s))) (min (σ 18 s) (W * H : Nat)).toNat = true ∧ z = -4 ∧ σ' = σ) ∨ (anyN (badF (σ (14 + s))) (min (σ 18 s) (W * H : Nat)).toNat = false ∧ z = min (σ 18 s) (W * H : Nat) ∧ σ' = sr σ 4 (cpW (σ (14 + s)) (σ 4) 0 0 (min (σ 18 s) (W * H : Nat)).toNat))))) := by
  obtain ⟨hR, j2, j3, j4, j5, j6, j7, j8, j9, j10, j11, j12, j13, j14⟩ := id hJ
  have hle := j2.le
  have g2 := j2.2.2.1
  have hls := j13 s hs3
  have loop : ∀ (M m i : Nat), min (σ 18 s) ((W * H : Nat) : Int) = M → ¬ σ 18 s = -1 → i + m = M → anyN (badF (σ (14 + s))) i = false → RW (KI l G 2 mX8_read n ρ (fun σ' z => (¬ (0 ≤ (s : Int) ∧ (s : Int) ≤ 2) ∧ z = -3 ∧ σ' = σ) ∨ ((0 ≤ (s : Int) ∧ (s : Int) ≤ 2) ∧ σ 18 s = -1 ∧ z = -11 ∧ σ' = σ) ∨ ((0 ≤ (s : Int) ∧ (s : Int) ≤ 2) ∧ ¬ σ 18 s = -1 ∧ ((anyN (badF (σ (14 + s))) (min (σ 18 s) (W * H : Nat)).toNat = true ∧ z = -4 ∧ σ' = σ) ∨ (anyN (badF (σ (14 + s))) (min (σ 18 s) (W * H : Nat)).toNat = false ∧ z = min (σ 18 s) (W * H : Nat) ∧ σ' = sr σ 4 (cpW (σ (14 + s)) (σ 4) 0 0 (min (σ 18 s) (W * H : Nat)).toNat)))))) (0, 0, n, ρ) σ 46 [rf G 0, iv s, iv M, iv i] [] := by
    intro M m
    induction m with
    | zero =>
      intro i hM hn1 hi ha
      have e : i = M := by omega
      subst e
      refine r_iload_n dX8_read_46 rfl ?_
      refine r_iload_n dX8_read_47 rfl ?_
      refine r_icmpge (tgt := 83) dX8_read_48 rfl (by omega) (by omega) (fun h48 => ?_) (fun h48 => ?_)
      · refine r_aloadk_n dX8_read_83 rfl ?_
        refine r_getr dX8_read_84 fl_X8_32 rfl rfl (hs.lt rfl) (hs.rf rfl) ?_
        refine r_getr dX8_read_87 fl_X8_111 rfl rfl (hs.lt rfl) (hs.rf rfl) ?_
        refine r_iload_n dX8_read_90 rfl ?_
        refine r_aald dX8_read_91 rfl (hs.lt rfl) (c := s) rfl hs3 (hs.rf (sref13 s hs3)) ?_
        refine r_iconst dX8_read_92 ?_
        refine r_aloadk_n dX8_read_93 rfl ?_
        refine r_getr dX8_read_94 fl_X8_16 rfl rfl (hs.lt rfl) (hs.rf rfl) ?_
        refine r_getr dX8_read_97 fl_X8_91 rfl rfl (hs.lt rfl) (hs.rf rfl) ?_
        refine r_iconst dX8_read_100 ?_
        refine r_aald dX8_read_101 rfl (hs.lt rfl) (c := 0) rfl (Nat.le_of_ble_eq_true rfl) (hs.rf rfl) ?_
        refine r_iconst dX8_read_102 ?_
        refine r_iload_n dX8_read_103 rfl ?_
        refine r_copy (sp := 0) (dp := 0) dX8_read_104 ml_X8_121 cp_nat cp_st cp_ini (shp13 s hs3) rfl (Nat.lt_of_lt_of_le (by omega : 14 + s < 73) hs.1) (hs.lt rfl) (by omega) (by omega) (Nat.le_of_ble_eq_true rfl) (Nat.le_trans cp_lo (Nat.le_of_ble_eq_true rfl)) ?_
        refine r_iload_n dX8_read_107 rfl ?_
        exact r_ireti dX8_read_108 rfl ⟨_, rfl, Or.inr (Or.inr ⟨by omega, hn1, Or.inr ⟨by rw [hM, Int.toNat_natCast]; exact ha, hM.symm, by rw [hM, Int.toNat_natCast]; exact cpy_sr⟩⟩)⟩
      · omega
    | succ m ih =>
      intro i hM hn1 hi ha
      have hri : R32 (σ (14 + s) i) := hR (14 + s) (by omega) i
      refine r_iload_n dX8_read_46 rfl ?_
      refine r_iload_n dX8_read_47 rfl ?_
      refine r_icmpge (tgt := 83) dX8_read_48 rfl (by omega) (by omega) (fun h48 => ?_) (fun h48 => ?_)
      · omega
      · refine r_aloadk_n dX8_read_51 rfl ?_
        refine r_getr dX8_read_52 fl_X8_32 rfl rfl (hs.lt rfl) (hs.rf rfl) ?_
        refine r_getr dX8_read_55 fl_X8_111 rfl rfl (hs.lt rfl) (hs.rf rfl) ?_
        refine r_iload_n dX8_read_58 rfl ?_
        refine r_aald dX8_read_59 rfl (hs.lt rfl) (c := s) rfl hs3 (hs.rf (sref13 s hs3)) ?_
        refine r_iload_n dX8_read_60 rfl ?_
        refine r_iald dX8_read_61 (shp13 s hs3) ((Nat.lt_of_lt_of_le (by omega : 14 + s < 73) hs.1)) rfl (by omega) ?_
        refine r_iconst dX8_read_62 ?_
        refine r_getM dX8_read_63 st_X8_88 ?_
        refine r_iconst dX8_read_66 ?_
        refine r_ldM (c := 0) dX8_read_67 rfl (by decide) ?_
        refine q_callSr dX8_read_68 (c_isWithin (σ (14 + s) i) 0 9 hri (by omega) (by omega)) ml_X8_65 okX8_isWithin rfl rfl (Nat.le_of_ble_eq_true rfl) (roomOK.of (by decide)) ⟨(Nat.le_of_ble_eq_true rfl), (Nat.le_of_ble_eq_true rfl)⟩ ?_
        refine r_ifneb (tgt := 77) dX8_read_71 rfl (fun h71 => ?_) (fun h71 => ?_)
        · refine r_iinc dX8_read_77 (Nat.le_of_ble_eq_true rfl) rfl rfl s3 ?_
          refine r_goto (tgt := 46) dX8_read_80 rfl ?_
          refine ih (i + 1) hM hn1 (by omega) ?_
          show (anyN _ i || badF _ i) = false
          rw [ha, Bool.false_or]
          exact Bool.eq_false_iff.mpr (fun q => badF_t.mp q h71)
        · refine r_bipush dX8_read_74 ?_
          exact r_ireti dX8_read_76 rfl ⟨_, rfl, Or.inr (Or.inr ⟨by omega, hn1, Or.inl ⟨by rw [hM, Int.toNat_natCast]; exact (anyN_iff M).mpr ⟨i, by omega, badF_t.mpr h71⟩, rfl, rfl⟩⟩)⟩
  refine Ct.of (L0 := [rf G 0, iv s, xx, xx]) (by decide +kernel) (Nat.le_of_ble_eq_true rfl) rfl ?_
  refine r_iload_n dX8_read_0 rfl ?_
  refine q_callSr dX8_read_1 (c_isSurvey s (by omega)) ml_X8_95 okX8_isSurvey rfl rfl (Nat.le_of_ble_eq_true rfl) (roomOK.of (by decide)) ⟨(Nat.le_of_ble_eq_true rfl), (Nat.le_of_ble_eq_true rfl)⟩ ?_
  refine r_ifneb (tgt := 10) dX8_read_4 rfl (fun h4 => ?_) (fun h4 => ?_)
  · refine r_aloadk_n dX8_read_10 rfl ?_
    refine r_getr dX8_read_11 fl_X8_32 rfl rfl (hs.lt rfl) (hs.rf rfl) ?_
    refine r_iload_n dX8_read_14 rfl ?_
    refine q_callVr dX8_read_15 (c_isMissing hs hR s hs3) ml_X8_102 okX7_isMissing rfl rfl (hs.lt rfl) rfl rfl (Nat.le_of_ble_eq_true rfl) (roomOK.of (by decide)) ⟨(Nat.le_of_ble_eq_true rfl), (Nat.le_of_ble_eq_true rfl)⟩ ?_
    refine r_ifeqb (tgt := 24) dX8_read_18 rfl (fun h18 => ?_) (fun h18 => ?_)
    · refine r_aloadk_n dX8_read_24 rfl ?_
      refine r_getr dX8_read_25 fl_X8_32 rfl rfl (hs.lt rfl) (hs.rf rfl) ?_
      refine r_getr dX8_read_28 fl_X8_105 rfl rfl (hs.lt rfl) (hs.rf rfl) ?_
      refine r_iload_n dX8_read_31 rfl ?_
      refine r_iald dX8_read_32 rfl (hs.lt rfl) rfl (by omega) ?_
      refine r_aloadk_n dX8_read_33 rfl ?_
      refine r_getr dX8_read_34 fl_X8_16 rfl rfl (hs.lt rfl) (hs.rf rfl) ?_
      refine r_geti dX8_read_37 fl_X8_77 rfl rfl (hs.lt rfl) ?_
      refine r_mmin dX8_read_40 ml_X8_127 (by first | exact hR _ (Nat.le_of_ble_eq_true rfl) _ | omega) (by first | exact hR _ (Nat.le_of_ble_eq_true rfl) _ | omega) (Nat.le_of_ble_eq_true rfl) (Nat.le_of_ble_eq_true rfl) ⟨(Nat.le_of_ble_eq_true rfl), (Nat.le_of_ble_eq_true rfl)⟩ ?_
      rw [g2]
      obtain ⟨M, hM⟩ : ∃ M : Nat, min (σ 18 s) ((W * H : Nat) : Int) = M := ⟨(min (σ 18 s) ((W * H : Nat) : Int)).toNat, by omega⟩
      rw [show iv (min (σ 18 s) ((W * H : Nat) : Int)) = iv (M : Int) by rw [hM]]
      refine r_istore_n dX8_read_43 (Nat.le_of_ble_eq_true rfl) rfl s2 ?_
      refine r_iconst dX8_read_44 ?_
      refine r_istore_n dX8_read_45 (Nat.le_of_ble_eq_true rfl) rfl s3 ?_
      exact loop M M 0 hM h18 (by omega) rfl
    · refine r_bipush dX8_read_21 ?_
      exact r_ireti dX8_read_23 rfl ⟨_, rfl, Or.inr (Or.inl ⟨h4, h18, rfl, rfl⟩)⟩
  · omega
theorem c_readB (hs : Std n ρ) (x1 : Int) (h1 : R32 x1) (hb : ¬ (0 ≤ x1 ∧ x1 ≤ 2)) : RdI l G 2 mX8_read n ρ σ [rf G 0, iv x1] (-3) := by
  refine Ct.of (L0 := [rf G 0, iv x1, xx, xx]) (by decide +kernel) (Nat.le_of_ble_eq_true rfl) rfl ?_
  refine r_iload_n dX8_read_0 rfl ?_
  refine q_callSr dX8_read_1 (c_isSurvey x1 h1) ml_X8_95 okX8_isSurvey rfl rfl (Nat.le_of_ble_eq_true rfl) (roomOK.of (by decide)) ⟨(Nat.le_of_ble_eq_true rfl), (Nat.le_of_ble_eq_true rfl)⟩ ?_
  refine r_ifneb (tgt := 10) dX8_read_4 rfl (fun h4 => ?_) (fun h4 => ?_)
  · exact absurd h4 hb
  · refine r_bipush dX8_read_7 ?_
    exact r_ireti dX8_read_9 rfl ⟨_, rfl, rfl, rfl⟩
theorem c_road (hs : Std n ρ) (hJ : JC σ W H P C O) (x1 x2 : Int) (h1 : R32 x1) (h2 : R32 x2) : CtI l G 4 mX8_road n ρ σ [rf G 0, iv x1, iv x2] (fun σ' z => (¬ ((0 ≤ x1 ∧ x1 < σ 2 2) ∧ (0 ≤ x2 ∧ x2 < σ 2 2) ∧ ¬ x1 = x2) ∧ z = -3 ∧ σ' = σ) ∨ (((0 ≤ x1 ∧ x1 < σ 2 2) ∧ (0 ≤ x2 ∧ x2 < σ 2 2) ∧ ¬ x1 = x2) ∧ (σ 5 x1.toNat = 2 ∨ σ 5 x2.toNat = 2) ∧ z = -4 ∧ σ' = σ) ∨ (((0 ≤ x1 ∧ x1 < σ 2 2) ∧ (0 ≤ x2 ∧ x2 < σ 2 2) ∧ ¬ x1 = x2) ∧ ¬ (σ 5 x1.toNat = 2 ∨ σ 5 x2.toNat = 2) ∧ ∃ D S : Nat → Int, (∀ j, R32 (D j)) ∧ (∀ j, R32 (S j)) ∧ Sol (σ 5) (prS (σ 4) (σ 6)) W H x1.toNat D ∧ ((D x2.toNat = FARV ∧ z = -4 ∧ σ' = sr (sr σ 10 D) 11 S) ∨ (D x2.toNat < FARV ∧ ∃ rd : Nat → Int, (rd, z) = roadGo (fun c => (befS D (prS (σ 4) (σ 6)) W H c).toNat) x1.toNat (W * H) x2.toNat (σ 6) 0 ∧ (∀ c, 0 ≤ rd c ∧ rd c ≤ 1) ∧ 0 ≤ z ∧ z ≤ 80 ∧ σ' = up (sr (sr (sr σ 10 D) 11 S) 6 rd) 2 3 (σ 2 3 + 10 * z))))) := by
  obtain ⟨hR, j2, j3, j4, j5, j6, j7, j8, j9, j10, j11, j12, j13, j14⟩ := id hJ
  have hle := j2.le
  have g2 := j2.2.2.1
  refine Ct.of (L0 := [rf G 0, iv x1, iv x2]) (by decide +kernel) (Nat.le_of_ble_eq_true rfl) rfl ?_
  refine r_aloadk_n dX8_road_0 rfl ?_
  refine r_getr dX8_road_1 fl_X8_16 rfl rfl (hs.lt rfl) (hs.rf rfl) ?_
  refine r_iload_n dX8_road_4 rfl ?_
  refine q_callVr dX8_road_5 (c_isCell hs hR x1 h1) ml_X8_81 okX1_isCell rfl rfl (hs.lt rfl) rfl rfl (Nat.le_of_ble_eq_true rfl) (roomOK.of (by decide)) ⟨(Nat.le_of_ble_eq_true rfl), (Nat.le_of_ble_eq_true rfl)⟩ ?_
  refine r_ifeqb (tgt := 27) dX8_road_8 rfl (fun h8 => ?_) (fun h8 => ?_)
  · refine r_bipush dX8_road_27 ?_
    exact r_ireti dX8_road_29 rfl ⟨_, rfl, Or.inl ⟨by omega, rfl, rfl⟩⟩
  · refine r_aloadk_n dX8_road_11 rfl ?_
    refine r_getr dX8_road_12 fl_X8_16 rfl rfl (hs.lt rfl) (hs.rf rfl) ?_
    refine r_iload_n dX8_road_15 rfl ?_
    refine q_callVr dX8_road_16 (c_isCell hs hR x2 h2) ml_X8_81 okX1_isCell rfl rfl (hs.lt rfl) rfl rfl (Nat.le_of_ble_eq_true rfl) (roomOK.of (by decide)) ⟨(Nat.le_of_ble_eq_true rfl), (Nat.le_of_ble_eq_true rfl)⟩ ?_
    refine r_ifeqb (tgt := 27) dX8_road_19 rfl (fun h19 => ?_) (fun h19 => ?_)
    · refine r_bipush dX8_road_27 ?_
      exact r_ireti dX8_road_29 rfl ⟨_, rfl, Or.inl ⟨by omega, rfl, rfl⟩⟩
    · refine r_iload_n dX8_road_22 rfl ?_
      refine r_iload_n dX8_road_23 rfl ?_
      refine r_icmpne (tgt := 30) dX8_road_24 rfl (by first | exact hR _ (Nat.le_of_ble_eq_true rfl) _ | omega) (by first | exact hR _ (Nat.le_of_ble_eq_true rfl) _ | omega) (fun h24 => ?_) (fun h24 => ?_)
      · obtain ⟨a, rfl⟩ : ∃ a : Nat, x1 = a := ⟨x1.toNat, by omega⟩
        obtain ⟨b, rfl⟩ : ∃ b : Nat, x2 = b := ⟨x2.toNat, by omega⟩
        refine r_aloadk_n dX8_road_30 rfl ?_
        refine r_getr dX8_road_31 fl_X8_16 rfl rfl (hs.lt rfl) (hs.rf rfl) ?_
        refine r_iload_n dX8_road_34 rfl ?_
        refine q_callVr dX8_road_35 (c_isClose hs hR a (by omega)) ml_X8_132 okX1_isClose rfl rfl (hs.lt rfl) rfl rfl (Nat.le_of_ble_eq_true rfl) (roomOK.of (by decide)) ⟨(Nat.le_of_ble_eq_true rfl), (Nat.le_of_ble_eq_true rfl)⟩ ?_
        refine r_ifneb (tgt := 52) dX8_road_38 rfl (fun h38 => ?_) (fun h38 => ?_)
        · refine r_bipush dX8_road_52 ?_
          exact r_ireti dX8_road_54 rfl ⟨_, rfl, Or.inr (Or.inl ⟨⟨h8, h19, h24⟩, by first | exact Or.inl h38 | exact Or.inr h49, rfl, rfl⟩)⟩
        · refine r_aloadk_n dX8_road_41 rfl ?_
          refine r_getr dX8_road_42 fl_X8_16 rfl rfl (hs.lt rfl) (hs.rf rfl) ?_
          refine r_iload_n dX8_road_45 rfl ?_
          refine q_callVr dX8_road_46 (c_isClose hs hR b (by omega)) ml_X8_132 okX1_isClose rfl rfl (hs.lt rfl) rfl rfl (Nat.le_of_ble_eq_true rfl) (roomOK.of (by decide)) ⟨(Nat.le_of_ble_eq_true rfl), (Nat.le_of_ble_eq_true rfl)⟩ ?_
          refine r_ifeqb (tgt := 55) dX8_road_49 rfl (fun h49 => ?_) (fun h49 => ?_)
          · refine r_aloadk_n dX8_road_55 rfl ?_
            refine r_getr dX8_road_56 fl_X8_25 rfl rfl (hs.lt rfl) (hs.rf rfl) ?_
            refine r_iload_n dX8_road_59 rfl ?_
            refine r_iload_n dX8_road_60 rfl ?_
            refine q_callVi dX8_road_61 (c_lay hs hR j2 j3 j5 (by omega) a b (by omega) (by omega) h38) ml_X8_135 okX3_lay rfl rfl (hs.lt rfl) rfl rfl (Nat.le_of_ble_eq_true rfl) (roomOK.of (by decide)) ⟨(Nat.le_of_ble_eq_true rfl), (Nat.le_of_ble_eq_true rfl)⟩ (fun σ1 z1 hq1 => ?_)
            exact r_ireti dX8_road_64 rfl ⟨_, rfl, Or.inr (Or.inr ⟨⟨h8, h19, h24⟩, fun q => q.elim h38 h49, hq1⟩)⟩
          · refine r_bipush dX8_road_52 ?_
            exact r_ireti dX8_road_54 rfl ⟨_, rfl, Or.inr (Or.inl ⟨⟨h8, h19, h24⟩, by first | exact Or.inl h38 | exact Or.inr h49, rfl, rfl⟩)⟩
      · refine r_bipush dX8_road_27 ?_
        exact r_ireti dX8_road_29 rfl ⟨_, rfl, Or.inl ⟨by omega, rfl, rfl⟩⟩
theorem c_addClaimant (hs : Std n ρ) (hJ : JC σ W H P C O) (hP : P < 8) (k h : Int) : CtI l G 0 mX4_addClaimant n ρ σ [rf G 19, iv k, iv h] (fun σ' z => z = P ∧ σ' = sr (sr (sr σ 20 (ud (σ 20) P k)) 21 (ud (σ 21) P h)) 19 (ud (σ 19) 1 (P + 1))) := by
  have e := hJ.2.2.2.2.2.1.1
  refine Ct.of (L0 := [rf G 19, iv k, iv h]) (by decide +kernel) (Nat.le_of_ble_eq_true rfl) rfl ?_
  refine r_aloadk_n dX4_addClaimant_0 rfl ?_
  refine r_getr dX4_addClaimant_1 fl_X4_9 rfl rfl (hs.lt rfl) (hs.rf rfl) ?_
  refine r_aloadk_n dX4_addClaimant_4 rfl ?_
  refine r_geti dX4_addClaimant_5 fl_X4_43 rfl rfl (hs.lt rfl) ?_
  rw [show iv (σ 19 1) = iv (P : Int) by rw [e]]
  refine r_iload_n dX4_addClaimant_8 rfl ?_
  refine r_iast dX4_addClaimant_9 rfl (hs.lt rfl) rfl (by omega) ?_
  rw [up_eq_sr]
  refine r_aloadk_n dX4_addClaimant_10 rfl ?_
  refine r_getr dX4_addClaimant_11 fl_X4_15 rfl rfl (hs.lt rfl) (hs.rf rfl) ?_
  refine r_aloadk_n dX4_addClaimant_14 rfl ?_
  refine r_geti dX4_addClaimant_15 fl_X4_43 rfl rfl (hs.lt rfl) ?_
  rw [show iv (sr σ 20 (ud (σ 20) P k) 19 1) = iv (P : Int) by rw [show sr σ 20 (ud (σ 20) P k) 19 1 = σ 19 1 from rfl, e]]
  refine r_iload_n dX4_addClaimant_18 rfl ?_
  refine r_iast dX4_addClaimant_19 rfl (hs.lt rfl) rfl (by omega) ?_
  rw [up_eq_sr]
  refine r_aloadk_n dX4_addClaimant_20 rfl ?_
  refine r_dup dX4_addClaimant_21 rfl ?_
  refine r_geti dX4_addClaimant_22 fl_X4_43 rfl rfl (hs.lt rfl) ?_
  rw [show iv (sr (sr σ 20 (ud (σ 20) P k)) 21 (ud (sr σ 20 (ud (σ 20) P k) 21) P h) 19 1) = iv (P : Int) by rw [show sr (sr σ 20 (ud (σ 20) P k)) 21 (ud (sr σ 20 (ud (σ 20) P k) 21) P h) 19 1 = σ 19 1 from rfl, e]]
  refine r_dup_x1 dX4_addClaimant_25 rfl rfl ?_
  refine r_iconst dX4_addClaimant_26 ?_
  refine r_iadd dX4_addClaimant_27 ?_
  refine r_puti dX4_addClaimant_28 fl_X4_43 rfl (hs.lt rfl) ?_
  rw [up_eq_sr]
  exact r_ireti dX4_addClaimant_31 rfl ⟨_, rfl, rfl, rfl⟩
theorem c_claimant (hs : Std n ρ) (hJ : JC σ W H P C O) (x1 x2 : Int) (h1 : R32 x1) (h2 : R32 x2) : CtI l G 2 mX8_claimant n ρ σ [rf G 0, iv x1, iv x2] (fun σ' z => (¬ ((0 ≤ x1 ∧ x1 ≤ 4) ∧ (0 ≤ x2 ∧ x2 < σ 2 2)) ∧ z = -3 ∧ σ' = σ) ∨ (((0 ≤ x1 ∧ x1 ≤ 4) ∧ (0 ≤ x2 ∧ x2 < σ 2 2)) ∧ ¬ P < 8 ∧ z = -5 ∧ σ' = σ) ∨ (((0 ≤ x1 ∧ x1 ≤ 4) ∧ (0 ≤ x2 ∧ x2 < σ 2 2)) ∧ P < 8 ∧ z = P ∧ σ' = sr (sr (sr σ 20 (ud (σ 20) P x1)) 21 (ud (σ 21) P x2)) 19 (ud (σ 19) 1 (P + 1)))) := by
  obtain ⟨hR, j2, j3, j4, j5, j6, j7, j8, j9, j10, j11, j12, j13, j14⟩ := id hJ
  have e := j6.1
  refine Ct.of (L0 := [rf G 0, iv x1, iv x2]) (by decide +kernel) (Nat.le_of_ble_eq_true rfl) rfl ?_
  refine r_iload_n dX8_claimant_0 rfl ?_
  refine q_callSr dX8_claimant_1 (c_isKind x1 h1) ml_X8_138 okX8_isKind rfl rfl (Nat.le_of_ble_eq_true rfl) (roomOK.of (by decide)) ⟨(Nat.le_of_ble_eq_true rfl), (Nat.le_of_ble_eq_true rfl)⟩ ?_
  refine r_ifeqb (tgt := 18) dX8_claimant_4 rfl (fun h4 => ?_) (fun h4 => ?_)
  · refine r_bipush dX8_claimant_18 ?_
    exact r_ireti dX8_claimant_20 rfl ⟨_, rfl, Or.inl ⟨by omega, rfl, rfl⟩⟩
  · refine r_aloadk_n dX8_claimant_7 rfl ?_
    refine r_getr dX8_claimant_8 fl_X8_16 rfl rfl (hs.lt rfl) (hs.rf rfl) ?_
    refine r_iload_n dX8_claimant_11 rfl ?_
    refine q_callVr dX8_claimant_12 (c_isCell hs hR x2 h2) ml_X8_81 okX1_isCell rfl rfl (hs.lt rfl) rfl rfl (Nat.le_of_ble_eq_true rfl) (roomOK.of (by decide)) ⟨(Nat.le_of_ble_eq_true rfl), (Nat.le_of_ble_eq_true rfl)⟩ ?_
    refine r_ifneb (tgt := 21) dX8_claimant_15 rfl (fun h15 => ?_) (fun h15 => ?_)
    · refine r_aloadk_n dX8_claimant_21 rfl ?_
      refine r_getr dX8_claimant_22 fl_X8_39 rfl rfl (hs.lt rfl) (hs.rf rfl) ?_
      refine r_geti dX8_claimant_25 fl_X8_141 rfl rfl (hs.lt rfl) ?_
      refine r_bipush dX8_claimant_28 ?_
      refine r_icmplt (tgt := 36) dX8_claimant_30 rfl (by first | exact hR _ (Nat.le_of_ble_eq_true rfl) _ | omega) (by first | exact hR _ (Nat.le_of_ble_eq_true rfl) _ | omega) (fun h30 => ?_) (fun h30 => ?_)
      · refine r_aloadk_n dX8_claimant_36 rfl ?_
        refine r_getr dX8_claimant_37 fl_X8_39 rfl rfl (hs.lt rfl) (hs.rf rfl) ?_
        refine r_iload_n dX8_claimant_40 rfl ?_
        refine r_iload_n dX8_claimant_41 rfl ?_
        refine q_callVi dX8_claimant_42 (c_addClaimant hs hJ (by omega) x1 x2) ml_X8_144 okX4_addClaimant rfl rfl (hs.lt rfl) rfl rfl (Nat.le_of_ble_eq_true rfl) (roomOK.of (by decide)) ⟨(Nat.le_of_ble_eq_true rfl), (Nat.le_of_ble_eq_true rfl)⟩ (fun σ1 z1 hq1 => ?_)
        obtain ⟨rfl, rfl⟩ := hq1
        exact r_ireti dX8_claimant_45 rfl ⟨_, rfl, Or.inr (Or.inr ⟨⟨h4, h15⟩, by omega, rfl, rfl⟩)⟩
      · refine r_bipush dX8_claimant_33 ?_
        exact r_ireti dX8_claimant_35 rfl ⟨_, rfl, Or.inr (Or.inl ⟨⟨h4, h15⟩, by omega, rfl, rfl⟩)⟩
    · refine r_bipush dX8_claimant_18 ?_
      exact r_ireti dX8_claimant_20 rfl ⟨_, rfl, Or.inl ⟨by omega, rfl, rfl⟩⟩
theorem c_isOf (hs : Std n ρ) (hJ : JC σ W H P C O) (x1 x2 : Int) (h1 : R32 x1) (h2 : R32 x2) : RdI l G 2 mX8_isOf n ρ σ [rf G 0, iv x1, iv x2] (if (0 ≤ x1 ∧ x1 < (P : Int)) ∧ (0 ≤ x2 ∧ x2 ≤ 4) then bi (x2 = 0 ∨ σ 20 x1.toNat = x2 ∨ (x2 = 1 ∧ σ 20 x1.toNat = 3)) else -3) := by
  obtain ⟨hR, j2, j3, j4, j5, j6, j7, j8, j9, j10, j11, j12, j13, j14⟩ := id hJ
  have e := j6.1
  have hP8 := j6.2.1
  have kc := c_isClaimant (l := l) (G := G) hs hR x1 h1
  rw [e] at kc
  refine Ct.of (L0 := [rf G 0, iv x1, iv x2, xx, xx]) (by decide +kernel) (Nat.le_of_ble_eq_true rfl) rfl ?_
  refine r_aloadk_n dX8_isOf_0 rfl ?_
  refine r_getr dX8_isOf_1 fl_X8_39 rfl rfl (hs.lt rfl) (hs.rf rfl) ?_
  refine r_iload_n dX8_isOf_4 rfl ?_
  refine q_callVr dX8_isOf_5 (kc) ml_X8_147 okX4_isClaimant rfl rfl (hs.lt rfl) rfl rfl (Nat.le_of_ble_eq_true rfl) (roomOK.of (by decide)) ⟨(Nat.le_of_ble_eq_true rfl), (Nat.le_of_ble_eq_true rfl)⟩ ?_
  refine r_ifeqb (tgt := 18) dX8_isOf_8 rfl (fun h8 => ?_) (fun h8 => ?_)
  · refine r_bipush dX8_isOf_18 ?_
    exact r_ireti dX8_isOf_20 rfl ⟨_, rfl, rfl, by rw [if_neg (by omega)]⟩
  · refine r_iload_n dX8_isOf_11 rfl ?_
    refine q_callSr dX8_isOf_12 (c_isKind x2 h2) ml_X8_138 okX8_isKind rfl rfl (Nat.le_of_ble_eq_true rfl) (roomOK.of (by decide)) ⟨(Nat.le_of_ble_eq_true rfl), (Nat.le_of_ble_eq_true rfl)⟩ ?_
    refine r_ifneb (tgt := 21) dX8_isOf_15 rfl (fun h15 => ?_) (fun h15 => ?_)
    · obtain ⟨p, rfl⟩ : ∃ a : Nat, x1 = a := ⟨x1.toNat, by omega⟩
      refine r_aloadk_n dX8_isOf_21 rfl ?_
      refine r_getr dX8_isOf_22 fl_X8_39 rfl rfl (hs.lt rfl) (hs.rf rfl) ?_
      refine r_getr dX8_isOf_25 fl_X8_150 rfl rfl (hs.lt rfl) (hs.rf rfl) ?_
      refine r_iload_n dX8_isOf_28 rfl ?_
      refine r_iald dX8_isOf_29 rfl (hs.lt rfl) rfl (by omega) ?_
      refine r_istore_n dX8_isOf_30 (Nat.le_of_ble_eq_true rfl) rfl s3 ?_
      refine r_iload_n dX8_isOf_31 rfl ?_
      refine r_ifeq (tgt := 50) dX8_isOf_32 rfl (by first | exact hR _ (Nat.le_of_ble_eq_true rfl) _ | omega) (fun h32 => ?_) (fun h32 => ?_)
      · refine r_iconst dX8_isOf_50 ?_
        refine r_goto (tgt := 55) dX8_isOf_51 rfl ?_
        refine r_istore dX8_isOf_55 (Nat.le_of_ble_eq_true rfl) rfl s4 ?_
        refine r_iload dX8_isOf_57 rfl ?_
        refine r_ifeq (tgt := 66) dX8_isOf_59 rfl (by omega) (fun h59 => absurd h59 (by decide)) (fun h59 => ?_)
        refine r_iconst dX8_isOf_62 ?_
        refine r_goto (tgt := 67) dX8_isOf_63 rfl ?_
        exact r_ireti dX8_isOf_67 rfl ⟨_, rfl, rfl, by rw [if_pos ⟨h8, h15⟩, Int.toNat_natCast]; unfold bi; split <;> omega⟩
      · refine r_iload_n dX8_isOf_35 rfl ?_
        refine r_iload_n dX8_isOf_36 rfl ?_
        refine r_icmpeq (tgt := 50) dX8_isOf_37 rfl (by first | exact hR _ (Nat.le_of_ble_eq_true rfl) _ | omega) (by first | exact hR _ (Nat.le_of_ble_eq_true rfl) _ | omega) (fun h37 => ?_) (fun h37 => ?_)
        · refine r_iconst dX8_isOf_50 ?_
          refine r_goto (tgt := 55) dX8_isOf_51 rfl ?_
          refine r_istore dX8_isOf_55 (Nat.le_of_ble_eq_true rfl) rfl s4 ?_
          refine r_iload dX8_isOf_57 rfl ?_
          refine r_ifeq (tgt := 66) dX8_isOf_59 rfl (by omega) (fun h59 => absurd h59 (by decide)) (fun h59 => ?_)
          refine r_iconst dX8_isOf_62 ?_
          refine r_goto (tgt := 67) dX8_isOf_63 rfl ?_
          exact r_ireti dX8_isOf_67 rfl ⟨_, rfl, rfl, by rw [if_pos ⟨h8, h15⟩, Int.toNat_natCast]; unfold bi; split <;> omega⟩
        · refine r_iload_n dX8_isOf_40 rfl ?_
          refine r_iconst dX8_isOf_41 ?_
          refine r_icmpne (tgt := 54) dX8_isOf_42 rfl (by first | exact hR _ (Nat.le_of_ble_eq_true rfl) _ | omega) (by first | exact hR _ (Nat.le_of_ble_eq_true rfl) _ | omega) (fun h42 => ?_) (fun h42 => ?_)
          · refine r_iconst dX8_isOf_54 ?_
            refine r_istore dX8_isOf_55 (Nat.le_of_ble_eq_true rfl) rfl s4 ?_
            refine r_iload dX8_isOf_57 rfl ?_
            refine r_ifeq (tgt := 66) dX8_isOf_59 rfl (by omega) (fun h59 => ?_) (fun h59 => absurd h59 (by decide))
            refine r_iconst dX8_isOf_66 ?_
            exact r_ireti dX8_isOf_67 rfl ⟨_, rfl, rfl, by rw [if_pos ⟨h8, h15⟩, Int.toNat_natCast]; unfold bi; split <;> omega⟩
          · refine r_iload_n dX8_isOf_45 rfl ?_
            refine r_iconst dX8_isOf_46 ?_
            refine r_icmpne (tgt := 54) dX8_isOf_47 rfl (by first | exact hR _ (Nat.le_of_ble_eq_true rfl) _ | omega) (by first | exact hR _ (Nat.le_of_ble_eq_true rfl) _ | omega) (fun h47 => ?_) (fun h47 => ?_)
            · refine r_iconst dX8_isOf_54 ?_
              refine r_istore dX8_isOf_55 (Nat.le_of_ble_eq_true rfl) rfl s4 ?_
              refine r_iload dX8_isOf_57 rfl ?_
              refine r_ifeq (tgt := 66) dX8_isOf_59 rfl (by omega) (fun h59 => ?_) (fun h59 => absurd h59 (by decide))
              refine r_iconst dX8_isOf_66 ?_
              exact r_ireti dX8_isOf_67 rfl ⟨_, rfl, rfl, by rw [if_pos ⟨h8, h15⟩, Int.toNat_natCast]; unfold bi; split <;> omega⟩
            · refine r_iconst dX8_isOf_50 ?_
              refine r_goto (tgt := 55) dX8_isOf_51 rfl ?_
              refine r_istore dX8_isOf_55 (Nat.le_of_ble_eq_true rfl) rfl s4 ?_
              refine r_iload dX8_isOf_57 rfl ?_
              refine r_ifeq (tgt := 66) dX8_isOf_59 rfl (by omega) (fun h59 => absurd h59 (by decide)) (fun h59 => ?_)
              refine r_iconst dX8_isOf_62 ?_
              refine r_goto (tgt := 67) dX8_isOf_63 rfl ?_
              exact r_ireti dX8_isOf_67 rfl ⟨_, rfl, rfl, by rw [if_pos ⟨h8, h15⟩, Int.toNat_natCast]; unfold bi; split <;> omega⟩
    · refine r_bipush dX8_isOf_18 ?_
      exact r_ireti dX8_isOf_20 rfl ⟨_, rfl, rfl, by rw [if_neg (by omega)]⟩
theorem c_addClaim (hs : Std n ρ) (hJ : JC σ W H P C O) (hC : C < 40) (a b c d : Int) : CtI l G 0 mX4_addClaim n ρ σ [rf G 19, iv a, iv b, iv c, iv d] (fun σ' z => z = C ∧ σ' = sr (sr (sr (sr (sr σ 22 (ud (σ 22) C a)) 23 (ud (σ 23) C b)) 24 (ud (σ 24) C c)) 25 (ud (σ 25) C d)) 19 (ud (σ 19) 2 (C + 1))) := by
  have e := hJ.2.2.2.2.2.1.2.2.1
  refine Ct.of (L0 := [rf G 19, iv a, iv b, iv c, iv d]) (by decide +kernel) (Nat.le_of_ble_eq_true rfl) rfl ?_
  refine r_aloadk_n dX4_addClaim_0 rfl ?_
  refine r_getr dX4_addClaim_1 fl_X4_18 rfl rfl (hs.lt rfl) (hs.rf rfl) ?_
  refine r_aloadk_n dX4_addClaim_4 rfl ?_
  refine r_geti dX4_addClaim_5 fl_X4_47 rfl rfl (hs.lt rfl) ?_
  rw [show iv (σ 19 2) = iv (C : Int) by rw [e]]
  refine r_iload_n dX4_addClaim_8 rfl ?_
  refine r_iast dX4_addClaim_9 rfl (hs.lt rfl) rfl (by omega) ?_
  rw [up_eq_sr]
  refine r_aloadk_n dX4_addClaim_10 rfl ?_
  refine r_getr dX4_addClaim_11 fl_X4_21 rfl rfl (hs.lt rfl) (hs.rf rfl) ?_
  refine r_aloadk_n dX4_addClaim_14 rfl ?_
  refine r_geti dX4_addClaim_15 fl_X4_47 rfl rfl (hs.lt rfl) ?_
  rw [show iv (sr σ 22 (ud (σ 22) C a) 19 2) = iv (C : Int) from congrArg iv e]
  refine r_iload_n dX4_addClaim_18 rfl ?_
  refine r_iast dX4_addClaim_19 rfl (hs.lt rfl) rfl (by omega) ?_
  rw [up_eq_sr]
  refine r_aloadk_n dX4_addClaim_20 rfl ?_
  refine r_getr dX4_addClaim_21 fl_X4_24 rfl rfl (hs.lt rfl) (hs.rf rfl) ?_
  refine r_aloadk_n dX4_addClaim_24 rfl ?_
  refine r_geti dX4_addClaim_25 fl_X4_47 rfl rfl (hs.lt rfl) ?_
  rw [show iv (sr (sr σ 22 (ud (σ 22) C a)) 23 (ud (sr σ 22 (ud (σ 22) C a) 23) C b) 19 2) = iv (C : Int) from congrArg iv e]
  refine r_iload_n dX4_addClaim_28 rfl ?_
  refine r_iast dX4_addClaim_29 rfl (hs.lt rfl) rfl (by omega) ?_
  rw [up_eq_sr]
  refine r_aloadk_n dX4_addClaim_30 rfl ?_
  refine r_getr dX4_addClaim_31 fl_X4_27 rfl rfl (hs.lt rfl) (hs.rf rfl) ?_
  refine r_aloadk_n dX4_addClaim_34 rfl ?_
  refine r_geti dX4_addClaim_35 fl_X4_47 rfl rfl (hs.lt rfl) ?_
  rw [show iv (sr (sr (sr σ 22 (ud (σ 22) C a)) 23 (ud (sr σ 22 (ud (σ 22) C a) 23) C b)) 24 (ud (sr (sr σ 22 (ud (σ 22) C a)) 23 (ud (sr σ 22 (ud (σ 22) C a) 23) C b) 24) C c) 19 2) = iv (C : Int) from congrArg iv e]
  refine r_iload dX4_addClaim_38 rfl ?_
  refine r_iast dX4_addClaim_40 rfl (hs.lt rfl) rfl (by omega) ?_
  rw [up_eq_sr]
  refine r_aloadk_n dX4_addClaim_41 rfl ?_
  refine r_dup dX4_addClaim_42 rfl ?_
  refine r_geti dX4_addClaim_43 fl_X4_47 rfl rfl (hs.lt rfl) ?_
  rw [show iv (sr (sr (sr (sr σ 22 (ud (σ 22) C a)) 23 (ud (sr σ 22 (ud (σ 22) C a) 23) C b)) 24 (ud (sr (sr σ 22 (ud (σ 22) C a)) 23 (ud (sr σ 22 (ud (σ 22) C a) 23) C b) 24) C c)) 25 (ud (sr (sr (sr σ 22 (ud (σ 22) C a)) 23 (ud (sr σ 22 (ud (σ 22) C a) 23) C b)) 24 (ud (sr (sr σ 22 (ud (σ 22) C a)) 23 (ud (sr σ 22 (ud (σ 22) C a) 23) C b) 24) C c) 25) C d) 19 2) = iv (C : Int) from congrArg iv e]
  refine r_dup_x1 dX4_addClaim_46 rfl rfl ?_
  refine r_iconst dX4_addClaim_47 ?_
  refine r_iadd dX4_addClaim_48 ?_
  refine r_puti dX4_addClaim_49 fl_X4_47 rfl (hs.lt rfl) ?_
  rw [up_eq_sr]
  exact r_ireti dX4_addClaim_52 rfl ⟨_, rfl, rfl, rfl⟩
theorem c_claim (hs : Std n ρ) (hJ : JC σ W H P C O) (x1 x2 x3 x4 : Int) (h1 : R32 x1) (h2 : R32 x2) (h3 : R32 x3) (h4 : R32 x4) : CtI l G 2 mX8_claim n ρ σ [rf G 0, iv x1, iv x2, iv x3, iv x4] (fun σ' z => (¬ ((0 ≤ x1 ∧ x1 < (P : Int)) ∧ ((101 ≤ x2 ∧ x2 ≤ 150) ∨ (0 ≤ x2 ∧ x2 < σ 2 2)) ∧ (0 ≤ x3 ∧ x3 ≤ 3) ∧ (0 ≤ x4 ∧ x4 ≤ 999)) ∧ z = -3 ∧ σ' = σ) ∨ (((0 ≤ x1 ∧ x1 < (P : Int)) ∧ ((101 ≤ x2 ∧ x2 ≤ 150) ∨ (0 ≤ x2 ∧ x2 < σ 2 2)) ∧ (0 ≤ x3 ∧ x3 ≤ 3) ∧ (0 ≤ x4 ∧ x4 ≤ 999)) ∧ ¬ C < 40 ∧ z = -5 ∧ σ' = σ) ∨ (((0 ≤ x1 ∧ x1 < (P : Int)) ∧ ((101 ≤ x2 ∧ x2 ≤ 150) ∨ (0 ≤ x2 ∧ x2 < σ 2 2)) ∧ (0 ≤ x3 ∧ x3 ≤ 3) ∧ (0 ≤ x4 ∧ x4 ≤ 999)) ∧ C < 40 ∧ z = C ∧ σ' = sr (sr (sr (sr (sr σ 22 (ud (σ 22) C x1)) 23 (ud (σ 23) C x2)) 24 (ud (σ 24) C x3)) 25 (ud (σ 25) C x4)) 19 (ud (σ 19) 2 (C + 1)))) := by
  obtain ⟨hR, j2, j3, j4, j5, j6, j7, j8, j9, j10, j11, j12, j13, j14⟩ := id hJ
  have eP := j6.1
  have eC := j6.2.2.1
  have kc := c_isClaimant (l := l) (G := G) hs hR x1 h1
  rw [eP] at kc
  refine Ct.of (L0 := [rf G 0, iv x1, iv x2, iv x3, iv x4, xx]) (by decide +kernel) (Nat.le_of_ble_eq_true rfl) rfl ?_
  refine r_iload_n dX8_claim_0 rfl ?_
  refine r_bipush dX8_claim_1 ?_
  refine r_sipush dX8_claim_3 ?_
  refine q_callSr dX8_claim_6 (c_isWithin x2 101 150 h2 (by omega) (by omega)) ml_X8_65 okX8_isWithin rfl rfl (Nat.le_of_ble_eq_true rfl) (roomOK.of (by decide)) ⟨(Nat.le_of_ble_eq_true rfl), (Nat.le_of_ble_eq_true rfl)⟩ ?_
  refine r_istore dX8_claim_9 (Nat.le_of_ble_eq_true rfl) rfl s5 ?_
  refine r_aloadk_n dX8_claim_11 rfl ?_
  refine r_getr dX8_claim_12 fl_X8_39 rfl rfl (hs.lt rfl) (hs.rf rfl) ?_
  refine r_iload_n dX8_claim_15 rfl ?_
  refine q_callVr dX8_claim_16 (kc) ml_X8_147 okX4_isClaimant rfl rfl (hs.lt rfl) rfl rfl (Nat.le_of_ble_eq_true rfl) (roomOK.of (by decide)) ⟨(Nat.le_of_ble_eq_true rfl), (Nat.le_of_ble_eq_true rfl)⟩ ?_
  refine r_ifeqb (tgt := 38) dX8_claim_19 rfl (fun h19 => ?_) (fun h19 => ?_)
  · refine r_bipush dX8_claim_38 ?_
    exact r_ireti dX8_claim_40 rfl ⟨_, rfl, Or.inl ⟨by omega, rfl, rfl⟩⟩
  · refine r_iload dX8_claim_22 rfl ?_
    refine r_ifneb (tgt := 41) dX8_claim_24 rfl (fun h24 => ?_) (fun h24 => ?_)
    · refine r_iload_n dX8_claim_41 rfl ?_
      refine r_iconst dX8_claim_42 ?_
      refine r_iconst dX8_claim_43 ?_
      refine q_callSr dX8_claim_44 (c_isWithin x3 0 3 h3 (by omega) (by omega)) ml_X8_65 okX8_isWithin rfl rfl (Nat.le_of_ble_eq_true rfl) (roomOK.of (by decide)) ⟨(Nat.le_of_ble_eq_true rfl), (Nat.le_of_ble_eq_true rfl)⟩ ?_
      refine r_ifeqb (tgt := 58) dX8_claim_47 rfl (fun h47 => ?_) (fun h47 => ?_)
      · refine r_bipush dX8_claim_58 ?_
        exact r_ireti dX8_claim_60 rfl ⟨_, rfl, Or.inl ⟨by omega, rfl, rfl⟩⟩
      · refine r_iload dX8_claim_50 rfl ?_
        refine q_callSr dX8_claim_52 (c_isDay x4 h4) ml_X8_153 okX8_isDay rfl rfl (Nat.le_of_ble_eq_true rfl) (roomOK.of (by decide)) ⟨(Nat.le_of_ble_eq_true rfl), (Nat.le_of_ble_eq_true rfl)⟩ ?_
        refine r_ifneb (tgt := 61) dX8_claim_55 rfl (fun h55 => ?_) (fun h55 => ?_)
        · refine r_aloadk_n dX8_claim_61 rfl ?_
          refine r_getr dX8_claim_62 fl_X8_39 rfl rfl (hs.lt rfl) (hs.rf rfl) ?_
          refine r_geti dX8_claim_65 fl_X8_156 rfl rfl (hs.lt rfl) ?_
          refine r_bipush dX8_claim_68 ?_
          refine r_icmplt (tgt := 76) dX8_claim_70 rfl (by first | exact hR _ (Nat.le_of_ble_eq_true rfl) _ | omega) (by first | exact hR _ (Nat.le_of_ble_eq_true rfl) _ | omega) (fun h70 => ?_) (fun h70 => ?_)
          · refine r_aloadk_n dX8_claim_76 rfl ?_
            refine r_getr dX8_claim_77 fl_X8_39 rfl rfl (hs.lt rfl) (hs.rf rfl) ?_
            refine r_iload_n dX8_claim_80 rfl ?_
            refine r_iload_n dX8_claim_81 rfl ?_
            refine r_iload_n dX8_claim_82 rfl ?_
            refine r_iload dX8_claim_83 rfl ?_
            refine q_callVi dX8_claim_85 (c_addClaim hs hJ (by omega) x1 x2 x3 x4) ml_X8_159 okX4_addClaim rfl rfl (hs.lt rfl) rfl rfl (Nat.le_of_ble_eq_true rfl) (roomOK.of (by decide)) ⟨(Nat.le_of_ble_eq_true rfl), (Nat.le_of_ble_eq_true rfl)⟩ (fun σ1 z1 hq1 => ?_)
            obtain ⟨rfl, rfl⟩ := hq1
            exact r_ireti dX8_claim_88 rfl ⟨_, rfl, Or.inr (Or.inr ⟨⟨h19, by first | exact Or.inl h24 | exact Or.inr h35, h47, h55⟩, by omega, rfl, rfl⟩)⟩
          · refine r_bipush dX8_claim_73 ?_
            exact r_ireti dX8_claim_75 rfl ⟨_, rfl, Or.inr (Or.inl ⟨⟨h19, by first | exact Or.inl h24 | exact Or.inr h35, h47, h55⟩, by omega, rfl, rfl⟩)⟩
        · refine r_bipush dX8_claim_58 ?_
          exact r_ireti dX8_claim_60 rfl ⟨_, rfl, Or.inl ⟨by omega, rfl, rfl⟩⟩
    · refine r_aloadk_n dX8_claim_27 rfl ?_
      refine r_getr dX8_claim_28 fl_X8_16 rfl rfl (hs.lt rfl) (hs.rf rfl) ?_
      refine r_iload_n dX8_claim_31 rfl ?_
      refine q_callVr dX8_claim_32 (c_isCell hs hR x2 h2) ml_X8_81 okX1_isCell rfl rfl (hs.lt rfl) rfl rfl (Nat.le_of_ble_eq_true rfl) (roomOK.of (by decide)) ⟨(Nat.le_of_ble_eq_true rfl), (Nat.le_of_ble_eq_true rfl)⟩ ?_
      refine r_ifneb (tgt := 41) dX8_claim_35 rfl (fun h35 => ?_) (fun h35 => ?_)
      · refine r_iload_n dX8_claim_41 rfl ?_
        refine r_iconst dX8_claim_42 ?_
        refine r_iconst dX8_claim_43 ?_
        refine q_callSr dX8_claim_44 (c_isWithin x3 0 3 h3 (by omega) (by omega)) ml_X8_65 okX8_isWithin rfl rfl (Nat.le_of_ble_eq_true rfl) (roomOK.of (by decide)) ⟨(Nat.le_of_ble_eq_true rfl), (Nat.le_of_ble_eq_true rfl)⟩ ?_
        refine r_ifeqb (tgt := 58) dX8_claim_47 rfl (fun h47 => ?_) (fun h47 => ?_)
        · refine r_bipush dX8_claim_58 ?_
          exact r_ireti dX8_claim_60 rfl ⟨_, rfl, Or.inl ⟨by omega, rfl, rfl⟩⟩
        · refine r_iload dX8_claim_50 rfl ?_
          refine q_callSr dX8_claim_52 (c_isDay x4 h4) ml_X8_153 okX8_isDay rfl rfl (Nat.le_of_ble_eq_true rfl) (roomOK.of (by decide)) ⟨(Nat.le_of_ble_eq_true rfl), (Nat.le_of_ble_eq_true rfl)⟩ ?_
          refine r_ifneb (tgt := 61) dX8_claim_55 rfl (fun h55 => ?_) (fun h55 => ?_)
          · refine r_aloadk_n dX8_claim_61 rfl ?_
            refine r_getr dX8_claim_62 fl_X8_39 rfl rfl (hs.lt rfl) (hs.rf rfl) ?_
            refine r_geti dX8_claim_65 fl_X8_156 rfl rfl (hs.lt rfl) ?_
            refine r_bipush dX8_claim_68 ?_
            refine r_icmplt (tgt := 76) dX8_claim_70 rfl (by first | exact hR _ (Nat.le_of_ble_eq_true rfl) _ | omega) (by first | exact hR _ (Nat.le_of_ble_eq_true rfl) _ | omega) (fun h70 => ?_) (fun h70 => ?_)
            · refine r_aloadk_n dX8_claim_76 rfl ?_
              refine r_getr dX8_claim_77 fl_X8_39 rfl rfl (hs.lt rfl) (hs.rf rfl) ?_
              refine r_iload_n dX8_claim_80 rfl ?_
              refine r_iload_n dX8_claim_81 rfl ?_
              refine r_iload_n dX8_claim_82 rfl ?_
              refine r_iload dX8_claim_83 rfl ?_
              refine q_callVi dX8_claim_85 (c_addClaim hs hJ (by omega) x1 x2 x3 x4) ml_X8_159 okX4_addClaim rfl rfl (hs.lt rfl) rfl rfl (Nat.le_of_ble_eq_true rfl) (roomOK.of (by decide)) ⟨(Nat.le_of_ble_eq_true rfl), (Nat.le_of_ble_eq_true rfl)⟩ (fun σ1 z1 hq1 => ?_)
              obtain ⟨rfl, rfl⟩ := hq1
              exact r_ireti dX8_claim_88 rfl ⟨_, rfl, Or.inr (Or.inr ⟨⟨h19, by first | exact Or.inl h24 | exact Or.inr h35, h47, h55⟩, by omega, rfl, rfl⟩)⟩
            · refine r_bipush dX8_claim_73 ?_
              exact r_ireti dX8_claim_75 rfl ⟨_, rfl, Or.inr (Or.inl ⟨⟨h19, by first | exact Or.inl h24 | exact Or.inr h35, h47, h55⟩, by omega, rfl, rfl⟩)⟩
          · refine r_bipush dX8_claim_58 ?_
            exact r_ireti dX8_claim_60 rfl ⟨_, rfl, Or.inl ⟨by omega, rfl, rfl⟩⟩
      · refine r_bipush dX8_claim_38 ?_
        exact r_ireti dX8_claim_40 rfl ⟨_, rfl, Or.inl ⟨by omega, rfl, rfl⟩⟩
theorem c_withdraw (hs : Std n ρ) (hJ : JC σ W H P C O) : CtI l G 0 mX8_withdraw n ρ σ [rf G 0] (fun σ' z => (C = 0 ∧ z = -4 ∧ σ' = σ) ∨ (¬ C = 0 ∧ z = C - 1 ∧ σ' = up σ 19 2 (C - 1))) := by
  obtain ⟨hR, j2, j3, j4, j5, j6, j7, j8, j9, j10, j11, j12, j13, j14⟩ := id hJ
  have eC := j6.2.2.1
  have e2 : up σ 19 2 (σ 19 2 - 1) 19 2 = (C : Int) - 1 := by rw [up_same, eC]
  refine Ct.of (L0 := [rf G 0]) (by decide +kernel) (Nat.le_of_ble_eq_true rfl) rfl ?_
  refine r_aloadk_n dX8_withdraw_0 rfl ?_
  refine r_getr dX8_withdraw_1 fl_X8_39 rfl rfl (hs.lt rfl) (hs.rf rfl) ?_
  refine r_geti dX8_withdraw_4 fl_X8_156 rfl rfl (hs.lt rfl) ?_
  refine r_ifne (tgt := 13) dX8_withdraw_7 rfl (by first | exact hR _ (Nat.le_of_ble_eq_true rfl) _ | omega) (fun h7 => ?_) (fun h7 => ?_)
  · refine r_aloadk_n dX8_withdraw_13 rfl ?_
    refine r_getr dX8_withdraw_14 fl_X8_39 rfl rfl (hs.lt rfl) (hs.rf rfl) ?_
    refine r_dup dX8_withdraw_17 rfl ?_
    refine r_geti dX8_withdraw_18 fl_X8_156 rfl rfl (hs.lt rfl) ?_
    refine r_iconst dX8_withdraw_21 ?_
    refine r_isub dX8_withdraw_22 ?_
    refine r_puti dX8_withdraw_23 fl_X8_156 rfl (hs.lt rfl) ?_
    refine r_aloadk_n dX8_withdraw_26 rfl ?_
    refine r_getr dX8_withdraw_27 fl_X8_39 rfl rfl (hs.lt rfl) (hs.rf rfl) ?_
    refine r_geti dX8_withdraw_30 fl_X8_156 rfl rfl (hs.lt rfl) ?_
    exact r_ireti dX8_withdraw_33 rfl ⟨_, rfl, Or.inr ⟨by omega, e2, by rw [eC]⟩⟩
  · refine r_bipush dX8_withdraw_10 ?_
    exact r_ireti dX8_withdraw_12 rfl ⟨_, rfl, Or.inl ⟨by omega, rfl, rfl⟩⟩
theorem c_rule (hs : Std n ρ) (hJ : JC σ W H P C O) (x1 x2 : Int) (h1 : R32 x1) (h2 : R32 x2) : CtI l G 1 mX8_rule n ρ σ [rf G 0, iv x1, iv x2] (fun σ' z => (¬ ((0 ≤ x1 ∧ x1 ≤ 4) ∧ (0 ≤ x2 ∧ x2 ≤ mostRule x1.toNat)) ∧ z = -3 ∧ σ' = σ) ∨ (((0 ≤ x1 ∧ x1 ≤ 4) ∧ (0 ≤ x2 ∧ x2 ≤ mostRule x1.toNat)) ∧ z = σ 1 x1.toNat ∧ σ' = up σ 1 x1.toNat x2)) := by
  have hm : ∀ w, R32 (mostRule w) := fun w => by unfold mostRule; split <;> omega
  refine Ct.of (L0 := [rf G 0, iv x1, iv x2, xx]) (by decide +kernel) (Nat.le_of_ble_eq_true rfl) rfl ?_
  refine r_iload_n dX8_rule_0 rfl ?_
  refine r_iconst dX8_rule_1 ?_
  refine r_iconst dX8_rule_2 ?_
  refine q_callSr dX8_rule_3 (c_isWithin x1 0 4 h1 (by omega) (by omega)) ml_X8_65 okX8_isWithin rfl rfl (Nat.le_of_ble_eq_true rfl) (roomOK.of (by decide)) ⟨(Nat.le_of_ble_eq_true rfl), (Nat.le_of_ble_eq_true rfl)⟩ ?_
  refine r_ifeqb (tgt := 22) dX8_rule_6 rfl (fun h6 => ?_) (fun h6 => ?_)
  · refine r_bipush dX8_rule_22 ?_
    exact r_ireti dX8_rule_24 rfl ⟨_, rfl, Or.inl ⟨by first | exact fun q => h6 q.1 | exact fun q => h19 q.2, rfl, rfl⟩⟩
  · refine r_iload_n dX8_rule_9 rfl ?_
    refine r_iconst dX8_rule_10 ?_
    refine r_getR dX8_rule_11 st_X8_163 ?_
    refine r_iload_n dX8_rule_14 rfl ?_
    refine r_ldR (c := x1.toNat) dX8_rule_15 (by omega) (by omega) ?_
    refine q_callSr dX8_rule_16 (c_isWithin x2 0 (mostRule x1.toNat) h2 (by omega) (hm _)) ml_X8_65 okX8_isWithin rfl rfl (Nat.le_of_ble_eq_true rfl) (roomOK.of (by decide)) ⟨(Nat.le_of_ble_eq_true rfl), (Nat.le_of_ble_eq_true rfl)⟩ ?_
    refine r_ifneb (tgt := 25) dX8_rule_19 rfl (fun h19 => ?_) (fun h19 => ?_)
    · obtain ⟨w, rfl⟩ : ∃ w : Nat, x1 = w := ⟨x1.toNat, by omega⟩
      refine r_aloadk_n dX8_rule_25 rfl ?_
      refine r_getr dX8_rule_26 fl_X8_7 rfl rfl (hs.lt rfl) (hs.rf rfl) ?_
      refine r_iload_n dX8_rule_29 rfl ?_
      refine r_iald dX8_rule_30 rfl (hs.lt rfl) rfl (by omega) ?_
      refine r_istore_n dX8_rule_31 (Nat.le_of_ble_eq_true rfl) rfl s3 ?_
      refine r_aloadk_n dX8_rule_32 rfl ?_
      refine r_getr dX8_rule_33 fl_X8_7 rfl rfl (hs.lt rfl) (hs.rf rfl) ?_
      refine r_iload_n dX8_rule_36 rfl ?_
      refine r_iload_n dX8_rule_37 rfl ?_
      refine r_iast dX8_rule_38 rfl (hs.lt rfl) rfl (by omega) ?_
      refine r_iload_n dX8_rule_39 rfl ?_
      exact r_ireti dX8_rule_40 rfl ⟨_, rfl, Or.inr ⟨⟨h6, h19⟩, rfl, rfl⟩⟩
    · refine r_bipush dX8_rule_22 ?_
      exact r_ireti dX8_rule_24 rfl ⟨_, rfl, Or.inl ⟨by first | exact fun q => h6 q.1 | exact fun q => h19 q.2, rfl, rfl⟩⟩
end Public
