/-! MODEL: away, costOf, drawFrom -/
section MDraw
variable {l : Launch} {G : GG} {n : Nat} {ρ : Rho} {σ : Si} {W H P C O : Nat}
theorem m_away (a f m : Int) (ha : 0 ≤ a ∧ a < 100) (hf : 0 ≤ f ∧ f < 100) (hm : 0 ≤ m ∧ m < 100) : RdI l G 0 mX9_away n ρ σ [iv a, iv f, iv m] (gapS a f m) := by
  unfold gapS
  refine Ct.of (L0 := [iv a, iv f, iv m]) (by decide +kernel) (Nat.le_of_ble_eq_true rfl) rfl ?_
  refine r_iload_n dX9_away_0 rfl ?_
  refine r_iload_n dX9_away_1 rfl ?_
  refine r_icmpge (tgt := 11) dX9_away_2 rfl (by first | exact hR _ (Nat.le_of_ble_eq_true rfl) _ | omega) (by first | exact hR _ (Nat.le_of_ble_eq_true rfl) _ | omega) (fun h2 => ?_) (fun h2 => ?_)
  · refine r_iload_n dX9_away_11 rfl ?_
    refine r_iload_n dX9_away_12 rfl ?_
    refine r_iload_n dX9_away_13 rfl ?_
    refine r_iadd dX9_away_14 ?_
    refine r_icmplt (tgt := 28) dX9_away_15 rfl (by first | exact hR _ (Nat.le_of_ble_eq_true rfl) _ | omega) (by first | exact hR _ (Nat.le_of_ble_eq_true rfl) _ | omega) (fun h15 => ?_) (fun h15 => ?_)
    · refine r_iconst dX9_away_28 ?_
      exact r_ireti dX9_away_29 rfl ⟨_, rfl, rfl, by (repeat' split) <;> omega⟩
    · refine r_iload_n dX9_away_18 rfl ?_
      refine r_iload_n dX9_away_19 rfl ?_
      refine r_isub dX9_away_20 ?_
      refine r_iload_n dX9_away_21 rfl ?_
      refine r_isub dX9_away_22 ?_
      refine r_iconst dX9_away_23 ?_
      refine r_iadd dX9_away_24 ?_
      refine r_goto (tgt := 29) dX9_away_25 rfl ?_
      exact r_ireti dX9_away_29 rfl ⟨_, rfl, rfl, by (repeat' split) <;> omega⟩
  · refine r_iload_n dX9_away_5 rfl ?_
    refine r_iload_n dX9_away_6 rfl ?_
    refine r_isub dX9_away_7 ?_
    refine r_goto (tgt := 29) dX9_away_8 rfl ?_
    exact r_ireti dX9_away_29 rfl ⟨_, rfl, rfl, by (repeat' split) <;> omega⟩
theorem gapS_r {a f m : Int} (ha : 0 ≤ a ∧ a ≤ 10) (hf : 0 ≤ f ∧ f ≤ 10) (hm : 0 ≤ m) : 0 ≤ gapS a f m ∧ gapS a f m ≤ 11 := by
  unfold gapS
  split <;> omega
theorem shpT_div {t : Tri} (h2 : t.2.1 ≤ 10) (h3 : t.2.2 ≤ 10) : shpT t / 256 = t.1 ∧ shpT t / 16 % 16 = t.2.1 ∧ shpT t % 16 = t.2.2 := by
  unfold shpT
  omega
theorem stepsT {W hm : Nat} {t : Tri} (h2 : t.2.1 ≤ 10) (h3 : t.2.2 ≤ 10) : stepsS W hm (shpT t) = gapS (hm % W : Nat) (t.1 % W : Nat) (t.2.1 : Nat) + gapS (hm / W : Nat) (t.1 / W : Nat) (t.2.2 : Nat) := by
  obtain ⟨e1, e2, e3⟩ := shpT_div h2 h3
  unfold stepsS
  rw [e1, e2, e3]
def InL (W H : Nat) (t : Tri) : Prop := t.1 < W * H ∧ (1 ≤ t.2.1 ∧ t.1 % W + t.2.1 ≤ W) ∧ 1 ≤ t.2.2 ∧ t.1 / W + t.2.2 ≤ H
theorem stepsT_r {W H hm : Nat} {t : Tri} (hW : 2 ≤ W ∧ W ≤ 10) (hH : H ≤ 8) (ht : InL W H t) (hh : hm < W * H) : 0 ≤ stepsS W hm (shpT t) ∧ stepsS W hm (shpT t) ≤ 22 := by
  obtain ⟨t1, t2, t3, t4⟩ := ht
  have n0 := Int.natCast_nonneg (t.1 / W)
  rw [stepsT (by omega) (by omega)]
  have a1 := Nat.mod_lt hm (show 0 < W by omega)
  have a2 : hm / W < H := Nat.div_lt_of_lt_mul hh
  have b1 := Nat.mod_lt t.1 (show 0 < W by omega)
  have b2 : t.1 / W < H := Nat.div_lt_of_lt_mul t1
  have g1 := gapS_r (a := (hm % W : Nat)) (f := (t.1 % W : Nat)) (m := (t.2.1 : Nat)) (by omega) (by omega) (by omega)
  have g2 := gapS_r (a := (hm / W : Nat)) (f := (t.1 / W : Nat)) (m := (t.2.2 : Nat)) ⟨Int.natCast_nonneg _, by omega⟩ ⟨Int.natCast_nonneg _, by omega⟩ (by omega)
  omega
set_option maxHeartbeats 4000000 in
theorem m_costOf (hs : Std n ρ) (hR : Rg σ) (g : GeoM σ W H) (hpl : PlM σ W H P) (hP8 : P ≤ 8) (p s hm : Nat) (hp : p < P) (t : Tri) (hs2 : s < 2000) (e1 : σ 65 s = t.1) (e2 : σ 66 s = t.2.1) (e3 : σ 67 s = t.2.2) (ht : InL W H t) (hho : σ 46 p = hm) (hh : hm < W * H) (hst : σ 38 56 = 0 ∨ σ 38 56 = 1) : RdI l G 1 mX9_costOf n ρ σ [rf G 38, iv p, iv s] (stepsS W hm (shpT t) + if σ 38 56 = 1 ∧ ¬ shM σ p = (shpT t : Nat) then 1000 else 0) := by
  obtain ⟨t1, t2, t3, t4⟩ := id ht
  have hW : 0 < W := by have := g.2.2.1; omega
  have hW10 := g.2.2.1.2
  have hH8 := g.2.2.2.2
  have hle := WH_le hW10 hH8
  have g1 := g.1
  have hp8 : p < 8 := by omega
  have n0 := Int.natCast_nonneg (t.1 / W)
  rw [stepsT (by omega) (by omega)]
  have key : shM σ p = (shpT t : Nat) ↔ (σ 55 p = t.2.1 ∧ σ 56 p = t.2.2 ∧ σ 54 p = t.1) := by
    rcases hpl p hp with q | ⟨q1, q2, q3⟩
    · have e : shM σ p = -1 := if_pos q
      constructor
      · intro h; omega
      · intro h; omega
    · have e : shM σ p = 256 * σ 54 p + 16 * σ 55 p + σ 56 p := if_neg (by omega)
      have es : (shpT t : Int) = 256 * t.1 + 16 * t.2.1 + t.2.2 := by unfold shpT; omega
      rw [e, es]
      omega
  have a1 := Nat.mod_lt hm hW
  have a2 : hm / W < H := Nat.div_lt_of_lt_mul hh
  have b1 := Nat.mod_lt t.1 hW
  have b2 : t.1 / W < H := Nat.div_lt_of_lt_mul t1
  have n1 := Int.natCast_nonneg (hm / W)
  have n2 := Int.natCast_nonneg (t.1 / W)
  have ga := gapS_r (a := (hm % W : Nat)) (f := (t.1 % W : Nat)) (m := (t.2.1 : Nat)) (by omega) (by omega) (by omega)
  have gb := gapS_r (a := (hm / W : Nat)) (f := (t.1 / W : Nat)) (m := (t.2.2 : Nat)) ⟨n1, by omega⟩ ⟨n2, by omega⟩ (by omega)
  have m1 : ∀ a : Nat, iv ((a : Int) % σ 38 1) = iv ((a % W : Nat) : Int) := fun a => by rw [g1]; rfl
  have m2 : ∀ a : Nat, iv ((a : Int) / σ 38 1) = iv ((a / W : Nat) : Int) := fun a => by rw [g1]; rfl
  refine Ct.of (L0 := [rf G 38, iv p, iv s, xx, xx, xx]) (by decide +kernel) (Nat.le_of_ble_eq_true rfl) rfl ?_
  refine r_aloadk_n dX9_costOf_0 rfl ?_
  refine r_getr dX9_costOf_1 fl_X9_39 rfl rfl (hs.lt rfl) (hs.rf rfl) ?_
  refine r_iload_n dX9_costOf_4 rfl ?_
  refine r_iald dX9_costOf_5 rfl (hs.lt rfl) rfl (by omega) ?_
  rw [hho]
  refine r_aloadk_n dX9_costOf_6 rfl ?_
  refine r_geti dX9_costOf_7 fl_X9_7 rfl rfl (hs.lt rfl) ?_
  refine r_irem dX9_costOf_10 (by omega) (by omega) ?_
  rw [m1]
  refine r_aloadk_n dX9_costOf_11 rfl ?_
  refine r_getr dX9_costOf_12 fl_X9_105 rfl rfl (hs.lt rfl) (hs.rf rfl) ?_
  refine r_iload_n dX9_costOf_15 rfl ?_
  refine r_iald dX9_costOf_16 rfl (hs.lt rfl) rfl (by omega) ?_
  rw [e1]
  refine r_aloadk_n dX9_costOf_17 rfl ?_
  refine r_geti dX9_costOf_18 fl_X9_7 rfl rfl (hs.lt rfl) ?_
  refine r_irem dX9_costOf_21 (by omega) (by omega) ?_
  rw [m1]
  refine r_aloadk_n dX9_costOf_22 rfl ?_
  refine r_getr dX9_costOf_23 fl_X9_108 rfl rfl (hs.lt rfl) (hs.rf rfl) ?_
  refine r_iload_n dX9_costOf_26 rfl ?_
  refine r_iald dX9_costOf_27 rfl (hs.lt rfl) rfl (by omega) ?_
  rw [e2]
  refine q_callSr dX9_costOf_28 (m_away _ _ _ (by omega) (by omega) (by omega)) ml_X9_278 okX9_away rfl rfl (Nat.le_of_ble_eq_true rfl) (roomOK.of (by decide)) ⟨(Nat.le_of_ble_eq_true rfl), (Nat.le_of_ble_eq_true rfl)⟩ ?_
  refine r_istore_n dX9_costOf_31 (Nat.le_of_ble_eq_true rfl) rfl s3 ?_
  refine r_aloadk_n dX9_costOf_32 rfl ?_
  refine r_getr dX9_costOf_33 fl_X9_39 rfl rfl (hs.lt rfl) (hs.rf rfl) ?_
  refine r_iload_n dX9_costOf_36 rfl ?_
  refine r_iald dX9_costOf_37 rfl (hs.lt rfl) rfl (by omega) ?_
  rw [hho]
  refine r_aloadk_n dX9_costOf_38 rfl ?_
  refine r_geti dX9_costOf_39 fl_X9_7 rfl rfl (hs.lt rfl) ?_
  refine r_idiv dX9_costOf_42 (by omega) (by omega) ?_
  rw [m2]
  refine r_aloadk_n dX9_costOf_43 rfl ?_
  refine r_getr dX9_costOf_44 fl_X9_105 rfl rfl (hs.lt rfl) (hs.rf rfl) ?_
  refine r_iload_n dX9_costOf_47 rfl ?_
  refine r_iald dX9_costOf_48 rfl (hs.lt rfl) rfl (by omega) ?_
  rw [e1]
  refine r_aloadk_n dX9_costOf_49 rfl ?_
  refine r_geti dX9_costOf_50 fl_X9_7 rfl rfl (hs.lt rfl) ?_
  refine r_idiv dX9_costOf_53 (by omega) (by omega) ?_
  rw [m2]
  refine r_aloadk_n dX9_costOf_54 rfl ?_
  refine r_getr dX9_costOf_55 fl_X9_111 rfl rfl (hs.lt rfl) (hs.rf rfl) ?_
  refine r_iload_n dX9_costOf_58 rfl ?_
  refine r_iald dX9_costOf_59 rfl (hs.lt rfl) rfl (by omega) ?_
  rw [e3]
  refine q_callSr dX9_costOf_60 (m_away _ _ _ ⟨n1, by omega⟩ ⟨n2, by omega⟩ (by omega)) ml_X9_278 okX9_away rfl rfl (Nat.le_of_ble_eq_true rfl) (roomOK.of (by decide)) ⟨(Nat.le_of_ble_eq_true rfl), (Nat.le_of_ble_eq_true rfl)⟩ ?_
  refine r_istore dX9_costOf_63 (Nat.le_of_ble_eq_true rfl) rfl s4 ?_
  refine r_aloadk_n dX9_costOf_65 rfl ?_
  refine r_getr dX9_costOf_66 fl_X9_75 rfl rfl (hs.lt rfl) (hs.rf rfl) ?_
  refine r_iload_n dX9_costOf_69 rfl ?_
  refine r_iald dX9_costOf_70 rfl (hs.lt rfl) rfl (by omega) ?_
  refine r_aloadk_n dX9_costOf_71 rfl ?_
  refine r_getr dX9_costOf_72 fl_X9_108 rfl rfl (hs.lt rfl) (hs.rf rfl) ?_
  refine r_iload_n dX9_costOf_75 rfl ?_
  refine r_iald dX9_costOf_76 rfl (hs.lt rfl) rfl (by omega) ?_
  rw [e2]
  refine r_icmpne (tgt := 114) dX9_costOf_77 rfl (hR 55 (by decide) p) (by omega) (fun h77 => ?_) (fun h77 => ?_)
  · refine r_iconst dX9_costOf_114 ?_
    refine r_istore dX9_costOf_115 (Nat.le_of_ble_eq_true rfl) rfl s5 ?_
    refine r_iload_n dX9_costOf_117 rfl ?_
    refine r_iload dX9_costOf_118 rfl ?_
    refine r_iadd dX9_costOf_120 ?_
    refine r_aloadk_n dX9_costOf_121 rfl ?_
    refine r_geti dX9_costOf_122 fl_X9_282 rfl rfl (hs.lt rfl) ?_
    refine r_ifeq (tgt := 139) dX9_costOf_125 rfl (by omega) (fun h125 => ?_) (fun h125 => ?_)
    · refine r_iconst dX9_costOf_139 ?_
      refine r_iadd dX9_costOf_140 ?_
      exact r_ireti dX9_costOf_141 rfl ⟨_, rfl, rfl, by split <;> omega⟩
    · refine r_iload dX9_costOf_128 rfl ?_
      refine r_ifne (tgt := 139) dX9_costOf_130 rfl (by first | exact hR _ (Nat.le_of_ble_eq_true rfl) _ | omega) (fun h130 => absurd h130 (by decide)) (fun h130 => ?_)
      refine r_sipush dX9_costOf_133 ?_
      refine r_goto (tgt := 140) dX9_costOf_136 rfl ?_
      refine r_iadd dX9_costOf_140 ?_
      exact r_ireti dX9_costOf_141 rfl ⟨_, rfl, rfl, by split <;> omega⟩
  · refine r_aloadk_n dX9_costOf_80 rfl ?_
    refine r_getr dX9_costOf_81 fl_X9_78 rfl rfl (hs.lt rfl) (hs.rf rfl) ?_
    refine r_iload_n dX9_costOf_84 rfl ?_
    refine r_iald dX9_costOf_85 rfl (hs.lt rfl) rfl (by omega) ?_
    refine r_aloadk_n dX9_costOf_86 rfl ?_
    refine r_getr dX9_costOf_87 fl_X9_111 rfl rfl (hs.lt rfl) (hs.rf rfl) ?_
    refine r_iload_n dX9_costOf_90 rfl ?_
    refine r_iald dX9_costOf_91 rfl (hs.lt rfl) rfl (by omega) ?_
    rw [e3]
    refine r_icmpne (tgt := 114) dX9_costOf_92 rfl (hR 56 (by decide) p) (by omega) (fun h92 => ?_) (fun h92 => ?_)
    · refine r_iconst dX9_costOf_114 ?_
      refine r_istore dX9_costOf_115 (Nat.le_of_ble_eq_true rfl) rfl s5 ?_
      refine r_iload_n dX9_costOf_117 rfl ?_
      refine r_iload dX9_costOf_118 rfl ?_
      refine r_iadd dX9_costOf_120 ?_
      refine r_aloadk_n dX9_costOf_121 rfl ?_
      refine r_geti dX9_costOf_122 fl_X9_282 rfl rfl (hs.lt rfl) ?_
      refine r_ifeq (tgt := 139) dX9_costOf_125 rfl (by omega) (fun h125 => ?_) (fun h125 => ?_)
      · refine r_iconst dX9_costOf_139 ?_
        refine r_iadd dX9_costOf_140 ?_
        exact r_ireti dX9_costOf_141 rfl ⟨_, rfl, rfl, by split <;> omega⟩
      · refine r_iload dX9_costOf_128 rfl ?_
        refine r_ifne (tgt := 139) dX9_costOf_130 rfl (by first | exact hR _ (Nat.le_of_ble_eq_true rfl) _ | omega) (fun h130 => absurd h130 (by decide)) (fun h130 => ?_)
        refine r_sipush dX9_costOf_133 ?_
        refine r_goto (tgt := 140) dX9_costOf_136 rfl ?_
        refine r_iadd dX9_costOf_140 ?_
        exact r_ireti dX9_costOf_141 rfl ⟨_, rfl, rfl, by split <;> omega⟩
    · refine r_aloadk_n dX9_costOf_95 rfl ?_
      refine r_getr dX9_costOf_96 fl_X9_72 rfl rfl (hs.lt rfl) (hs.rf rfl) ?_
      refine r_iload_n dX9_costOf_99 rfl ?_
      refine r_iald dX9_costOf_100 rfl (hs.lt rfl) rfl (by omega) ?_
      refine r_aloadk_n dX9_costOf_101 rfl ?_
      refine r_getr dX9_costOf_102 fl_X9_105 rfl rfl (hs.lt rfl) (hs.rf rfl) ?_
      refine r_iload_n dX9_costOf_105 rfl ?_
      refine r_iald dX9_costOf_106 rfl (hs.lt rfl) rfl (by omega) ?_
      rw [e1]
      refine r_icmpne (tgt := 114) dX9_costOf_107 rfl (hR 54 (by decide) p) (by omega) (fun h107 => ?_) (fun h107 => ?_)
      · refine r_iconst dX9_costOf_114 ?_
        refine r_istore dX9_costOf_115 (Nat.le_of_ble_eq_true rfl) rfl s5 ?_
        refine r_iload_n dX9_costOf_117 rfl ?_
        refine r_iload dX9_costOf_118 rfl ?_
        refine r_iadd dX9_costOf_120 ?_
        refine r_aloadk_n dX9_costOf_121 rfl ?_
        refine r_geti dX9_costOf_122 fl_X9_282 rfl rfl (hs.lt rfl) ?_
        refine r_ifeq (tgt := 139) dX9_costOf_125 rfl (by omega) (fun h125 => ?_) (fun h125 => ?_)
        · refine r_iconst dX9_costOf_139 ?_
          refine r_iadd dX9_costOf_140 ?_
          exact r_ireti dX9_costOf_141 rfl ⟨_, rfl, rfl, by split <;> omega⟩
        · refine r_iload dX9_costOf_128 rfl ?_
          refine r_ifne (tgt := 139) dX9_costOf_130 rfl (by first | exact hR _ (Nat.le_of_ble_eq_true rfl) _ | omega) (fun h130 => absurd h130 (by decide)) (fun h130 => ?_)
          refine r_sipush dX9_costOf_133 ?_
          refine r_goto (tgt := 140) dX9_costOf_136 rfl ?_
          refine r_iadd dX9_costOf_140 ?_
          exact r_ireti dX9_costOf_141 rfl ⟨_, rfl, rfl, by split <;> omega⟩
      · refine r_iconst dX9_costOf_110 ?_
        refine r_goto (tgt := 115) dX9_costOf_111 rfl ?_
        refine r_istore dX9_costOf_115 (Nat.le_of_ble_eq_true rfl) rfl s5 ?_
        refine r_iload_n dX9_costOf_117 rfl ?_
        refine r_iload dX9_costOf_118 rfl ?_
        refine r_iadd dX9_costOf_120 ?_
        refine r_aloadk_n dX9_costOf_121 rfl ?_
        refine r_geti dX9_costOf_122 fl_X9_282 rfl rfl (hs.lt rfl) ?_
        refine r_ifeq (tgt := 139) dX9_costOf_125 rfl (by omega) (fun h125 => ?_) (fun h125 => ?_)
        · refine r_iconst dX9_costOf_139 ?_
          refine r_iadd dX9_costOf_140 ?_
          exact r_ireti dX9_costOf_141 rfl ⟨_, rfl, rfl, by split <;> omega⟩
        · refine r_iload dX9_costOf_128 rfl ?_
          refine r_ifne (tgt := 139) dX9_costOf_130 rfl (by first | exact hR _ (Nat.le_of_ble_eq_true rfl) _ | omega) (fun h130 => ?_) (fun h130 => absurd h130 (by decide))
          refine r_iconst dX9_costOf_139 ?_
          refine r_iadd dX9_costOf_140 ?_
          exact r_ireti dX9_costOf_141 rfl ⟨_, rfl, rfl, by split <;> omega⟩
def mS (σ : Si) (b lf sp : Int) (f g : Nat → Int) : Si := sr (sr (sr σ 38 (ud (ud (ud (σ 38) 53 b) 54 lf) 55 sp)) 71 f) 72 g
theorem mS_b {b lf sp z : Int} {f g : Nat → Int} : up (mS σ b lf sp f g) 38 53 z = mS σ z lf sp f g := by
  funext a c
  unfold mS sr up ud
  by_cases e : a = 38
  · subst e
    by_cases e1 : c = 53
    · simp [e1]
    · simp [e1]
  · simp [e]
theorem mS_l {b lf sp z : Int} {f g : Nat → Int} : up (mS σ b lf sp f g) 38 54 z = mS σ b z sp f g := by
  funext a c
  unfold mS sr up ud
  by_cases e : a = 38
  · subst e
    by_cases e1 : c = 54
    · simp [e1]
    · simp [e1]
  · simp [e]
theorem mS_s {b lf sp z : Int} {f g : Nat → Int} : up (mS σ b lf sp f g) 38 55 z = mS σ b lf z f g := by
  funext a c
  unfold mS sr up ud
  by_cases e : a = 38
  · subst e
    by_cases e1 : c = 55
    · simp [e1]
    · simp [e1]
  · simp [e]
theorem mS_f {b lf sp z : Int} {f g : Nat → Int} {j : Nat} : up (mS σ b lf sp f g) 71 j z = mS σ b lf sp (ud f j z) g := by
  funext a c
  unfold mS sr up ud
  by_cases e : a = 71
  · subst e; simp
  · simp [e]
theorem mS_g {b lf sp z : Int} {f g : Nat → Int} {j : Nat} : up (mS σ b lf sp f g) 72 j z = mS σ b lf sp f (ud g j z) := by
  funext a c
  unfold mS sr up ud
  by_cases e : a = 72
  · subst e; simp
  · simp [e]
theorem mS_Rg {b lf sp : Int} {f g : Nat → Int} (h : Rg σ) (hb : R32 b) (hl : R32 lf) (hsp : R32 sp) : Rg (mS σ b lf sp f g) := by
  intro k hk j
  unfold mS
  rw [sr_ne (show k ≠ 72 by omega), sr_ne (show k ≠ 71 by omega)]
  exact h.sr (ud_R (ud_R (ud_R (h 38 (by decide)) hb) hl) hsp) k hk j
def tq (due : Nat → Int) (tr : Nat → Nat) (q : Nat) : Int := if due q ≤ 0 then -1 else (tr q : Int)
variable {nS : Nat} {msk : Nat → Nat} {fit : Nat → Nat → Bool} {co : Nat → Nat → Int} {due : Nat → Int}
set_option maxHeartbeats 16000000 in
theorem m_drawFrom (hs : Std n ρ) (hR : Rg σ) (hP : σ 38 10 = P) (hP8 : P ≤ 8) (hn : σ 38 44 = nS) (hn2 : nS < 2000) (hd : ∀ p, p < P → σ 61 p = due p) (hdr : ∀ p, 0 ≤ due p ∧ due p ≤ 2000) (hsl : 0 ≤ σ 38 26 ∧ σ 38 26 ≤ 50) (hmk : ∀ s, s < nS → σ 69 s = (msk s % 2 ^ 40 : Nat) ∧ σ 70 s = (msk s / 2 ^ 40 : Nat) ∧ msk s < 2 ^ 80) (hft : ∀ p s, p < P → s < nS → (fit p s = true ↔ (σ 68 s - due p ≤ σ 38 26 ∧ -(σ 68 s - due p) ≤ σ 38 26))) (hwr : ∀ s, s < nS → 0 ≤ σ 68 s ∧ σ 68 s ≤ 1000) (hcr : ∀ p s, p < P → s < nS → 0 ≤ co p s ∧ co p s ≤ 1100)
    (hcc : ∀ (b lf sp : Int) (f g : Nat → Int), R32 b → R32 lf → R32 sp → ∀ p s, p < P → s < nS → RdI l G 1 mX9_costOf n ρ (mS σ b lf sp f g) [rf G 38, iv p, iv s] (co p s)) :
    ∀ (k p U : Nat) (cost : Int) (tr : Nat → Nat) (st : St) (f g : Nat → Int), p + k = P → U < 2 ^ 80 → 0 ≤ cost → cost + 1100 * k ≤ 10000 → (∀ q, q < p → 0 < due q → tr q < nS) → StOK nS P due st → (0 ≤ st.1 → ∀ q, q < P → g q = tq due st.2.1 q) → (∀ q, q < p → f q = tq due tr q) → CtV l G (2 + k) mX9_drawFrom n ρ (mS σ st.1 st.2.2.1 (bi (st.2.2.2 = true)) f g) [rf G 38, iv p, jl (U % 2 ^ 40 : Nat), jl (U / 2 ^ 40 : Nat), iv cost] (fun σ' => ∃ f' g' : Nat → Int, (0 ≤ (srG nS msk fit co due k p U cost tr st).1 → ∀ q, q < P → g' q = tq due (srG nS msk fit co due k p U cost tr st).2.1 q) ∧ (∀ q, q < p → f' q = f q) ∧ σ' = mS σ (srG nS msk fit co due k p U cost tr st).1 (srG nS msk fit co due k p U cost tr st).2.2.1 (bi ((srG nS msk fit co due k p U cost tr st).2.2.2 = true)) f' g') := by
  intro k
  induction k with
  | zero =>
    intro p U cost tr st f g hp hU hc0 hc1 htr hst hg hf
    have ep : p = P := by omega
    subst ep
    generalize hQ : (fun (σ' : Si) => ∃ f' g' : Nat → Int, (0 ≤ (srG nS msk fit co due 0 p U cost tr st).1 → ∀ q, q < p → g' q = tq due (srG nS msk fit co due 0 p U cost tr st).2.1 q) ∧ (∀ q, q < p → f' q = f q) ∧ σ' = mS σ (srG nS msk fit co due 0 p U cost tr st).1 (srG nS msk fit co due 0 p U cost tr st).2.2.1 (bi ((srG nS msk fit co due 0 p U cost tr st).2.2.2 = true)) f' g') = Q
    generalize hlf : ((st.2.2.1 : Nat) : Int) = lf
    generalize hsp : bi (st.2.2.2 = true) = sp
    have hx : srG nS msk fit co due 0 p U cost tr st = (cost, tr, st.2.2) := rfl
    have lp : ∀ (m i : Nat) (g1 : Nat → Int), i + m = p → (∀ q, q < i → g1 q = f q) → RW (KV l G (2 + 0) mX9_drawFrom n ρ Q) (0, 0, n, ρ) (mS σ cost lf sp f g1) 17 [rf G 38, iv p, jl (U % 2 ^ 40 : Nat), xx, jl (U / 2 ^ 40 : Nat), xx, iv cost, iv i, xx, xx, xx] [] := by
      intro m
      induction m with
      | zero =>
        intro i g1 hi hg1
        have e : i = p := by omega
        subst e
        refine r_iload dX9_drawFrom_17 rfl ?_
        refine r_aloadk_n dX9_drawFrom_19 rfl ?_
        refine r_geti dX9_drawFrom_20 fl_X9_139 rfl rfl (hs.lt rfl) ?_
        refine show RW _ _ _ _ _ (iv (σ 38 10) :: _) from ?_
        refine r_icmpge (tgt := 46) dX9_drawFrom_23 rfl (by omega) (by omega) (fun h23 => ?_) (fun h23 => ?_)
        · exact r_vret dX9_drawFrom_46 rfl ⟨rfl, by rw [← hQ, hx, ← hlf, ← hsp]; exact ⟨f, g1, fun _ q hq => by rw [hg1 q hq]; exact hf q hq, fun _ _ => rfl, rfl⟩⟩
        · omega
      | succ m ih2 =>
        intro i g1 hi hg1
        refine r_iload dX9_drawFrom_17 rfl ?_
        refine r_aloadk_n dX9_drawFrom_19 rfl ?_
        refine r_geti dX9_drawFrom_20 fl_X9_139 rfl rfl (hs.lt rfl) ?_
        refine show RW _ _ _ _ _ (iv (σ 38 10) :: _) from ?_
        refine r_icmpge (tgt := 46) dX9_drawFrom_23 rfl (by omega) (by omega) (fun h23 => ?_) (fun h23 => ?_)
        · omega
        · refine r_aloadk_n dX9_drawFrom_26 rfl ?_
          refine r_getr dX9_drawFrom_27 fl_X9_127 rfl rfl (hs.lt rfl) (hs.rf rfl) ?_
          refine r_iload dX9_drawFrom_30 rfl ?_
          refine r_aloadk_n dX9_drawFrom_32 rfl ?_
          refine r_getr dX9_drawFrom_33 fl_X9_124 rfl rfl (hs.lt rfl) (hs.rf rfl) ?_
          refine r_iload dX9_drawFrom_36 rfl ?_
          refine r_iald dX9_drawFrom_38 rfl (hs.lt rfl) rfl (by omega) ?_
          refine show RW _ _ _ _ _ (iv (f i) :: _) from ?_
          refine r_iast dX9_drawFrom_39 rfl (hs.lt rfl) rfl (by omega) ?_
          refine r_iinc dX9_drawFrom_40 (Nat.le_of_ble_eq_true rfl) rfl rfl s7 ?_
          refine r_goto (tgt := 17) dX9_drawFrom_43 rfl ?_
          rw [mS_g]
          refine ih2 (i + 1) (ud g1 i (f i)) (by omega) (fun q hq => ?_)
          by_cases e : q = i
          · rw [e, ud_at]
          · rw [ud_ne e]; exact hg1 q (by omega)
    refine Ct.of (L0 := [rf G 38, iv p, jl (U % 2 ^ 40 : Nat), xx, jl (U / 2 ^ 40 : Nat), xx, iv cost, xx, xx, xx, xx]) (by decide +kernel) (Nat.le_of_ble_eq_true rfl) rfl ?_
    refine r_iload_n dX9_drawFrom_0 rfl ?_
    refine r_aloadk_n dX9_drawFrom_1 rfl ?_
    refine r_geti dX9_drawFrom_2 fl_X9_139 rfl rfl (hs.lt rfl) ?_
    refine show RW _ _ _ _ _ (iv (σ 38 10) :: _) from ?_
    refine r_icmpne (tgt := 47) dX9_drawFrom_5 rfl (by omega) (by omega) (fun h5 => ?_) (fun h5 => ?_)
    · omega
    · refine r_aloadk_n dX9_drawFrom_8 rfl ?_
      refine r_iload dX9_drawFrom_9 rfl ?_
      refine r_puti dX9_drawFrom_11 fl_X9_285 rfl (hs.lt rfl) ?_
      refine r_iconst dX9_drawFrom_14 ?_
      refine r_istore dX9_drawFrom_15 (Nat.le_of_ble_eq_true rfl) rfl s7 ?_
      rw [mS_b]
      exact lp p 0 g (by omega) (fun q hq => absurd hq (Nat.not_lt_zero q))
  | succ k ih =>
    intro p U cost tr st f g hp hU hc0 hc1 htr hst hg hf
    have hpP : p < P := by omega
    have hdp := hdr p
    have hU40 : U % 2 ^ 40 < 2 ^ 64 := by omega
    have hU41 : U / 2 ^ 40 < 2 ^ 64 := by omega
    by_cases hdu : due p ≤ 0
    · rw [srG_sk hdu]
      have kk := ih (p + 1) U cost tr st (ud f p (-1)) g (by omega) hU hc0 (by omega) (fun q hq hq2 => by
        by_cases e : q = p
        · rw [e] at hq2; omega
        · exact htr q (by omega) hq2) hst hg (fun q hq => by
        by_cases e : q = p
        · rw [e, ud_at]; exact (if_pos hdu).symm
        · rw [ud_ne e]; exact hf q (by omega))
      generalize srG nS msk fit co due k (p + 1) U cost tr st = RS at kk ⊢
      generalize ((st.2.2.1 : Nat) : Int) = lf at kk ⊢
      generalize bi (st.2.2.2 = true) = sp at kk ⊢
      refine Ct.of (L0 := [rf G 38, iv p, jl (U % 2 ^ 40 : Nat), xx, jl (U / 2 ^ 40 : Nat), xx, iv cost, xx, xx, xx, xx]) (by decide +kernel) (Nat.le_of_ble_eq_true rfl) rfl ?_
      refine r_iload_n dX9_drawFrom_0 rfl ?_
      refine r_aloadk_n dX9_drawFrom_1 rfl ?_
      refine r_geti dX9_drawFrom_2 fl_X9_139 rfl rfl (hs.lt rfl) ?_
      refine show RW _ _ _ _ _ (iv (σ 38 10) :: _) from ?_
      refine r_icmpne (tgt := 47) dX9_drawFrom_5 rfl (by omega) (by omega) (fun h5 => ?_) (fun h5 => ?_)
      · refine r_aloadk_n dX9_drawFrom_47 rfl ?_
        refine r_getr dX9_drawFrom_48 fl_X9_124 rfl rfl (hs.lt rfl) (hs.rf rfl) ?_
        refine r_iload_n dX9_drawFrom_51 rfl ?_
        refine r_iconst dX9_drawFrom_52 ?_
        refine r_iast dX9_drawFrom_53 rfl (hs.lt rfl) rfl (by omega) ?_
        rw [mS_f]
        refine r_aloadk_n dX9_drawFrom_54 rfl ?_
        refine r_getr dX9_drawFrom_55 fl_X9_93 rfl rfl (hs.lt rfl) (hs.rf rfl) ?_
        refine r_iload_n dX9_drawFrom_58 rfl ?_
        refine r_iald dX9_drawFrom_59 rfl (hs.lt rfl) rfl (by omega) ?_
        refine show RW _ _ _ _ _ (iv (σ 61 p) :: _) from ?_
        rw [hd p hpP]
        refine r_ifgt (tgt := 76) dX9_drawFrom_60 rfl (by omega) (fun h60 => ?_) (fun h60 => ?_)
        · omega
        · refine r_aloadk_n dX9_drawFrom_63 rfl ?_
          refine r_iload_n dX9_drawFrom_64 rfl ?_
          refine r_iconst dX9_drawFrom_65 ?_
          refine r_iadd dX9_drawFrom_66 ?_
          refine r_lload_n dX9_drawFrom_67 rfl ?_
          refine r_lload dX9_drawFrom_68 rfl ?_
          refine r_iload dX9_drawFrom_70 rfl ?_
          refine q_callVv dX9_drawFrom_72 (kk) ml_X9_288 okX9_drawFrom rfl rfl (hs.lt rfl) rfl rfl (Nat.le_of_ble_eq_true rfl) (roomOK.of (by omega)) ⟨(Nat.le_of_ble_eq_true rfl), (Nat.le_of_ble_eq_true rfl)⟩ (fun σ1 hq1 => ?_)
          exact r_vret dX9_drawFrom_75 rfl ⟨rfl, by
  obtain ⟨f', g', a1, a2, a3⟩ := hq1
  exact ⟨f', g', a1, fun q hq => by rw [a2 q (by omega), ud_ne (by omega)], a3⟩⟩
      · omega
    · have hdu0 : 0 < due p := by omega
      rw [srG_lp hdu0]
      have hok := lpS_ok (msk := msk) (fit := fit) (U := U) hcr hp hc0 hc1 htr hst
      generalize hQ : (fun (σ' : Si) => ∃ f' g' : Nat → Int, (0 ≤ (lpS nS msk fit co due k p U cost tr st nS).1 → ∀ q, q < P → g' q = tq due (lpS nS msk fit co due k p U cost tr st nS).2.1 q) ∧ (∀ q, q < p → f' q = f q) ∧ σ' = mS σ (lpS nS msk fit co due k p U cost tr st nS).1 (lpS nS msk fit co due k p U cost tr st nS).2.2.1 (bi ((lpS nS msk fit co due k p U cost tr st nS).2.2.2 = true)) f' g') = Q
      have lp : ∀ (m j : Nat) (fl gl : Nat → Int) (x8 x9 x10 : Value), j + m = nS → isJ x8 = false → isJ x9 = false → (0 ≤ (lpS nS msk fit co due k p U cost tr st j).1 → ∀ q, q < P → gl q = tq due (lpS nS msk fit co due k p U cost tr st j).2.1 q) → (∀ q, q < p → fl q = f q) → RW (KV l G (2 + (k + 1)) mX9_drawFrom n ρ Q) (0, 0, n, ρ) (mS σ (lpS nS msk fit co due k p U cost tr st j).1 (lpS nS msk fit co due k p U cost tr st j).2.2.1 (bi ((lpS nS msk fit co due k p U cost tr st j).2.2.2 = true)) fl gl) 79 [rf G 38, iv p, jl (U % 2 ^ 40 : Nat), xx, jl (U / 2 ^ 40 : Nat), xx, iv cost, iv j, x8, x9, x10] [] := by
        intro m
        induction m with
        | zero =>
          intro j fl gl x8 x9 x10 hj hx8 hx9 hgl hfl
          have e : j = nS := by omega
          subst e
          refine r_iload dX9_drawFrom_79 rfl ?_
          refine r_aloadk_n dX9_drawFrom_81 rfl ?_
          refine r_geti dX9_drawFrom_82 fl_X9_271 rfl rfl (hs.lt rfl) ?_
          refine show RW _ _ _ _ _ (iv (σ 38 44) :: _) from ?_
          refine r_icmpge (tgt := 275) dX9_drawFrom_85 rfl (by omega) (by omega) (fun h85 => ?_) (fun h85 => ?_)
          · exact r_vret dX9_drawFrom_275 rfl ⟨rfl, by rw [← hQ]; exact ⟨fl, gl, hgl, hfl, rfl⟩⟩
          · omega
        | succ m ihl =>
          intro j fl gl x8 x9 x10 hj hx8 hx9 hgl hfl
          have hjn : j < nS := by omega
          have nx := fun fl gl x8 x9 x10 => ihl (j + 1) fl gl x8 x9 x10 (by omega)
          have hok1 := hok j (by omega)
          have stp := lpS_stop (nS := nS) (msk := msk) (fit := fit) (co := co) (due := due) (k := k) (p := p) (U := U) (cost := cost) (tr := tr) (st := st) (i := j) (by omega)
          rw [lpS_1] at nx
          generalize lpS nS msk fit co due k p U cost tr st j = st1 at hgl nx hok1 stp ⊢
          generalize hlf : ((st1.2.2.1 : Nat) : Int) = lf
          have hlr : 0 ≤ lf ∧ lf ≤ 20000 := by have := hok1.2.1; omega
          have hb1 := hok1.1
          obtain ⟨hm1, hm2, hm3⟩ := hmk j hjn
          have hf1 := hft p j hpP hjn
          have hw1 := hwr j hjn
          have hc1' := hcr p j hpP hjn
          by_cases hsp : st1.2.2.2 = true
          · rw [bi_t hsp]
            have hexit : Q (mS σ st1.1 lf 1 fl gl) := by
              rw [← hQ, stp (Or.inl hsp), ← bi_t hsp, ← hlf]
              exact ⟨fl, gl, hgl, hfl, rfl⟩
            refine r_iload dX9_drawFrom_79 rfl ?_
            refine r_aloadk_n dX9_drawFrom_81 rfl ?_
            refine r_geti dX9_drawFrom_82 fl_X9_271 rfl rfl (hs.lt rfl) ?_
            refine show RW _ _ _ _ _ (iv (σ 38 44) :: _) from ?_
            refine r_icmpge (tgt := 275) dX9_drawFrom_85 rfl (by omega) (by omega) (fun h85 => ?_) (fun h85 => ?_)
            · omega
            · refine r_aloadk_n dX9_drawFrom_88 rfl ?_
              refine r_geti dX9_drawFrom_89 fl_X9_292 rfl rfl (hs.lt rfl) ?_
              refine show RW _ _ _ _ _ (iv 1 :: _) from ?_
              refine r_ifne (tgt := 275) dX9_drawFrom_92 rfl (by omega) (fun h92 => ?_) (fun h92 => ?_)
              · exact r_vret dX9_drawFrom_275 rfl ⟨rfl, hexit⟩
              · omega
          · rw [bi_f hsp]
            have hsp0 : st1.2.2.2 = false := by rw [← Bool.not_eq_true]; exact hsp
            have hz : U &&& msk j = 0 ↔ (msk j % 2 ^ 40 &&& U % 2 ^ 40 = 0 ∧ msk j / 2 ^ 40 &&& U / 2 ^ 40 = 0) := by rw [Nat.and_comm]; exact and_split 40 _ _
            have ha1 : msk j % 2 ^ 40 &&& U % 2 ^ 40 < 18446744073709551616 := by have := Nat.and_lt_two_pow (msk j % 2 ^ 40) hU40; omega
            have ha2 : msk j / 2 ^ 40 &&& U / 2 ^ 40 < 18446744073709551616 := by have := Nat.and_lt_two_pow (msk j / 2 ^ 40) hU41; omega
            have L269 : ∀ (σ1 : Si) (y8 y9 y10 : Value), isJ y8 = false → isJ y9 = false → (∀ y8 y9 y10 : Value, isJ y8 = false → isJ y9 = false → RW (KV l G (2 + (k + 1)) mX9_drawFrom n ρ Q) (0, 0, n, ρ) σ1 79 [rf G 38, iv p, jl (U % 2 ^ 40 : Nat), xx, jl (U / 2 ^ 40 : Nat), xx, iv cost, iv (j + 1 : Nat), y8, y9, y10] []) → RW (KV l G (2 + (k + 1)) mX9_drawFrom n ρ Q) (0, 0, n, ρ) σ1 269 [rf G 38, iv p, jl (U % 2 ^ 40 : Nat), xx, jl (U / 2 ^ 40 : Nat), xx, iv cost, iv j, y8, y9, y10] [] := by
              intro σ1 y8 y9 y10 hy8 hy9 h1
              refine r_iinc dX9_drawFrom_269 (Nat.le_of_ble_eq_true rfl) rfl rfl s7 ?_
              refine r_goto (tgt := 79) dX9_drawFrom_272 rfl ?_
              exact h1 _ _ _ hy8 hy9
            have Lno : ∀ (y8 y9 y10 : Value), isJ y8 = false → isJ y9 = false → ¬ (fit p j = true ∧ U &&& msk j = 0 ∧ (st1.1 < 0 ∨ cost + co p j < st1.1)) → RW (KV l G (2 + (k + 1)) mX9_drawFrom n ρ Q) (0, 0, n, ρ) (mS σ st1.1 lf 0 fl gl) 269 [rf G 38, iv p, jl (U % 2 ^ 40 : Nat), xx, jl (U / 2 ^ 40 : Nat), xx, iv cost, iv j, y8, y9, y10] [] := by
              intro y8 y9 y10 hy8 hy9 hno
              refine L269 _ _ _ _ hy8 hy9 (fun z8 z9 z10 hz8 hz9 => ?_)
              have nx1 := nx fl gl z8 z9 z10 hz8 hz9
              rw [stepS_no hno, hlf, bi_f hsp] at nx1
              exact nx1 hgl hfl
            have L208 : ∀ (y8 : Value), isJ y8 = false → (fit p j = true ∧ U &&& msk j = 0 ∧ (st1.1 < 0 ∨ cost + co p j < st1.1)) → RW (KV l G (2 + (k + 1)) mX9_drawFrom n ρ Q) (0, 0, n, ρ) (mS σ st1.1 lf 0 fl gl) 208 [rf G 38, iv p, jl (U % 2 ^ 40 : Nat), xx, jl (U / 2 ^ 40 : Nat), xx, iv cost, iv j, y8, iv 1, iv (cost + co p j)] [] := by
              intro y8 hy8 hyes
              by_cases hl0 : st1.2.2.1 = 0
              · have hl00 : lf = 0 := by omega
                rw [stepS_z hsp0 hyes hl0] at nx
                refine r_aloadk_n dX9_drawFrom_208 rfl ?_
                refine r_geti dX9_drawFrom_209 fl_X9_298 rfl rfl (hs.lt rfl) ?_
                refine show RW _ _ _ _ _ (iv lf :: _) from ?_
                refine r_ifne (tgt := 223) dX9_drawFrom_212 rfl (by omega) (fun h212 => ?_) (fun h212 => ?_)
                · omega
                · refine r_aloadk_n dX9_drawFrom_215 rfl ?_
                  refine r_iconst dX9_drawFrom_216 ?_
                  refine r_putz dX9_drawFrom_217 fl_X9_292 (by omega) rfl (hs.lt rfl) ?_
                  refine r_goto (tgt := 269) dX9_drawFrom_220 rfl ?_
                  rw [mS_s]
                  refine L269 _ _ _ _ hy8 rfl (fun z8 z9 z10 hz8 hz9 => ?_)
                  rw [hl00]
                  exact nx fl gl z8 z9 z10 hz8 hz9 hgl hfl
              · have hlm : lf - 1 = ((st1.2.2.1 - 1 : Nat) : Int) := by omega
                rw [stepS_go hsp0 hyes hl0] at nx
                have kk := ih (p + 1) (U ||| msk j) (cost + co p j) (udN tr p j) (st1.1, st1.2.1, st1.2.2.1 - 1, st1.2.2.2) (ud fl p j) gl (by omega) (Nat.or_lt_two_pow hU hm3) (by omega) (by omega) (fun q hq hq2 => by
                  by_cases e : q = p
                  · rw [e, udN_at]; exact hjn
                  · rw [udN_ne e]; exact htr q (by omega) hq2) ⟨hok1.1, by have := hok1.2.1; show st1.2.2.1 - 1 ≤ 20000; omega, hok1.2.2⟩ hgl (fun q hq => by
                  by_cases e : q = p
                  · rw [e, ud_at]; unfold tq; rw [if_neg hdu, udN_at]
                  · rw [ud_ne e, hfl q (by omega), hf q (by omega)]; unfold tq; rw [udN_ne e])
                rw [show bi ((st1.1, st1.2.1, st1.2.2.1 - 1, st1.2.2.2).2.2.2 = true) = 0 from bi_f hsp, Nat.or_mod_two_pow, Nat.or_div_two_pow, show (((st1.1, st1.2.1, st1.2.2.1 - 1, st1.2.2.2) : St).2.2.1 : Int) = lf - 1 from hlm.symm] at kk
                generalize srG nS msk fit co due k (p + 1) (U ||| msk j) (cost + co p j) (udN tr p j) (st1.1, st1.2.1, st1.2.2.1 - 1, st1.2.2.2) = RS at kk nx
                refine r_aloadk_n dX9_drawFrom_208 rfl ?_
                refine r_geti dX9_drawFrom_209 fl_X9_298 rfl rfl (hs.lt rfl) ?_
                refine show RW _ _ _ _ _ (iv lf :: _) from ?_
                refine r_ifne (tgt := 223) dX9_drawFrom_212 rfl (by omega) (fun h212 => ?_) (fun h212 => ?_)
                · refine r_aloadk_n dX9_drawFrom_223 rfl ?_
                  refine r_dup dX9_drawFrom_224 rfl ?_
                  refine r_geti dX9_drawFrom_225 fl_X9_298 rfl rfl (hs.lt rfl) ?_
                  refine show RW _ _ _ _ _ (iv lf :: _) from ?_
                  refine r_iconst dX9_drawFrom_228 ?_
                  refine r_isub dX9_drawFrom_229 ?_
                  refine r_puti dX9_drawFrom_230 fl_X9_298 rfl (hs.lt rfl) ?_
                  rw [mS_l]
                  refine r_aloadk_n dX9_drawFrom_233 rfl ?_
                  refine r_getr dX9_drawFrom_234 fl_X9_124 rfl rfl (hs.lt rfl) (hs.rf rfl) ?_
                  refine r_iload_n dX9_drawFrom_237 rfl ?_
                  refine r_iload dX9_drawFrom_238 rfl ?_
                  refine r_iast dX9_drawFrom_240 rfl (hs.lt rfl) rfl (by omega) ?_
                  rw [mS_f]
                  refine r_aloadk_n dX9_drawFrom_241 rfl ?_
                  refine r_iload_n dX9_drawFrom_242 rfl ?_
                  refine r_iconst dX9_drawFrom_243 ?_
                  refine r_iadd dX9_drawFrom_244 ?_
                  refine r_lload_n dX9_drawFrom_245 rfl ?_
                  refine r_aloadk_n dX9_drawFrom_246 rfl ?_
                  refine r_getr dX9_drawFrom_247 fl_X9_117 rfl rfl (hs.lt rfl) (hs.rf rfl) ?_
                  refine r_iload dX9_drawFrom_250 rfl ?_
                  refine r_lald dX9_drawFrom_252 rfl (hs.lt rfl) rfl (by omega) ?_
                  refine show RW _ _ _ _ _ (jl (σ 69 j) :: _) from ?_
                  rw [hm1]
                  refine r_lor (a := U % 2 ^ 40) (b := msk j % 2 ^ 40) dX9_drawFrom_253 ?_
                  refine r_lload dX9_drawFrom_254 rfl ?_
                  refine r_aloadk_n dX9_drawFrom_256 rfl ?_
                  refine r_getr dX9_drawFrom_257 fl_X9_121 rfl rfl (hs.lt rfl) (hs.rf rfl) ?_
                  refine r_iload dX9_drawFrom_260 rfl ?_
                  refine r_lald dX9_drawFrom_262 rfl (hs.lt rfl) rfl (by omega) ?_
                  refine show RW _ _ _ _ _ (jl (σ 70 j) :: _) from ?_
                  rw [hm2]
                  refine r_lor (a := U / 2 ^ 40) (b := msk j / 2 ^ 40) dX9_drawFrom_263 ?_
                  refine r_iload dX9_drawFrom_264 rfl ?_
                  refine q_callVv dX9_drawFrom_266 (kk) ml_X9_288 okX9_drawFrom rfl rfl (hs.lt rfl) rfl rfl (Nat.le_of_ble_eq_true rfl) (roomOK.of (by omega)) ⟨(Nat.le_of_ble_eq_true rfl), (Nat.le_of_ble_eq_true rfl)⟩ (fun σ1 hq1 => ?_)
                  obtain ⟨f', g', q1, q2, rfl⟩ := hq1
                  refine L269 _ _ _ _ hy8 rfl (fun z8 z9 z10 hz8 hz9 => ?_)
                  exact nx f' g' z8 z9 z10 hz8 hz9 q1 (fun q hq => by rw [q2 q (by omega), ud_ne (by omega)]; exact hfl q hq)
                · omega
            refine r_iload dX9_drawFrom_79 rfl ?_
            refine r_aloadk_n dX9_drawFrom_81 rfl ?_
            refine r_geti dX9_drawFrom_82 fl_X9_271 rfl rfl (hs.lt rfl) ?_
            refine show RW _ _ _ _ _ (iv (σ 38 44) :: _) from ?_
            refine r_icmpge (tgt := 275) dX9_drawFrom_85 rfl (by omega) (by omega) (fun h85 => ?_) (fun h85 => ?_)
            · omega
            · refine r_aloadk_n dX9_drawFrom_88 rfl ?_
              refine r_geti dX9_drawFrom_89 fl_X9_292 rfl rfl (hs.lt rfl) ?_
              refine show RW _ _ _ _ _ (iv 0 :: _) from ?_
              refine r_ifne (tgt := 275) dX9_drawFrom_92 rfl (by omega) (fun h92 => ?_) (fun h92 => ?_)
              · omega
              · refine r_aloadk_n dX9_drawFrom_95 rfl ?_
                refine r_getr dX9_drawFrom_96 fl_X9_114 rfl rfl (hs.lt rfl) (hs.rf rfl) ?_
                refine r_iload dX9_drawFrom_99 rfl ?_
                refine r_iald dX9_drawFrom_101 rfl (hs.lt rfl) rfl (by omega) ?_
                refine r_aloadk_n dX9_drawFrom_102 rfl ?_
                refine r_getr dX9_drawFrom_103 fl_X9_93 rfl rfl (hs.lt rfl) (hs.rf rfl) ?_
                refine r_iload_n dX9_drawFrom_106 rfl ?_
                refine r_iald dX9_drawFrom_107 rfl (hs.lt rfl) rfl (by omega) ?_
                refine show RW _ _ _ _ _ (iv (σ 61 p) :: iv (σ 68 j) :: _) from ?_
                rw [hd p hpP]
                refine r_isub dX9_drawFrom_108 ?_
                refine r_istore dX9_drawFrom_109 (Nat.le_of_ble_eq_true rfl) rfl s8 ?_
                refine r_aloadk_n dX9_drawFrom_111 rfl ?_
                refine r_getr dX9_drawFrom_112 fl_X9_117 rfl rfl (hs.lt rfl) (hs.rf rfl) ?_
                refine r_iload dX9_drawFrom_115 rfl ?_
                refine r_lald dX9_drawFrom_117 rfl (hs.lt rfl) rfl (by omega) ?_
                refine show RW _ _ _ _ _ (jl (σ 69 j) :: _) from ?_
                rw [hm1]
                refine r_lload_n dX9_drawFrom_118 rfl ?_
                refine r_land (a := msk j % 2 ^ 40) (b := U % 2 ^ 40) dX9_drawFrom_119 ?_
                refine r_lconst0 dX9_drawFrom_120 ?_
                refine r_lcmp0 (m := msk j % 2 ^ 40 &&& U % 2 ^ 40) dX9_drawFrom_121 ha1 (fun z1 hz1 he1 => ?_)
                refine r_ifne (tgt := 163) dX9_drawFrom_122 rfl hz1 (fun h122 => ?_) (fun h122 => ?_)
                · refine r_iconst dX9_drawFrom_163 ?_
                  refine r_istore dX9_drawFrom_164 (Nat.le_of_ble_eq_true rfl) rfl s9 ?_
                  refine r_iload dX9_drawFrom_166 rfl ?_
                  refine r_ifeq (tgt := 184) dX9_drawFrom_168 rfl (by first | exact hR _ (Nat.le_of_ble_eq_true rfl) _ | omega) (fun h168 => ?_) (fun h168 => absurd h168 (by decide))
                  refine r_iconst dX9_drawFrom_184 ?_
                  refine r_istore dX9_drawFrom_185 (Nat.le_of_ble_eq_true rfl) rfl s10 ?_
                  refine r_iload dX9_drawFrom_187 rfl ?_
                  refine r_ifeq (tgt := 269) dX9_drawFrom_189 rfl (by first | exact hR _ (Nat.le_of_ble_eq_true rfl) _ | omega) (fun h189 => ?_) (fun h189 => absurd h189 (by decide))
                  refine Lno _ _ _ rfl rfl ?_
                  first
                  | exact fun q => h122 (he1.mpr (hz.mp q.2.1).1)
                  | exact fun q => h137 (he2.mpr (hz.mp q.2.1).2)
                  | exact fun q => by have := (hf1.mp q.1).1; omega
                  | exact fun q => by have := (hf1.mp q.1).2; omega
                  | exact fun q => by have := q.2.2; omega
                · refine r_aloadk_n dX9_drawFrom_125 rfl ?_
                  refine r_getr dX9_drawFrom_126 fl_X9_121 rfl rfl (hs.lt rfl) (hs.rf rfl) ?_
                  refine r_iload dX9_drawFrom_129 rfl ?_
                  refine r_lald dX9_drawFrom_131 rfl (hs.lt rfl) rfl (by omega) ?_
                  refine show RW _ _ _ _ _ (jl (σ 70 j) :: _) from ?_
                  rw [hm2]
                  refine r_lload dX9_drawFrom_132 rfl ?_
                  refine r_land (a := msk j / 2 ^ 40) (b := U / 2 ^ 40) dX9_drawFrom_134 ?_
                  refine r_lconst0 dX9_drawFrom_135 ?_
                  refine r_lcmp0 (m := msk j / 2 ^ 40 &&& U / 2 ^ 40) dX9_drawFrom_136 ha2 (fun z2 hz2 he2 => ?_)
                  refine r_ifne (tgt := 163) dX9_drawFrom_137 rfl hz2 (fun h137 => ?_) (fun h137 => ?_)
                  · refine r_iconst dX9_drawFrom_163 ?_
                    refine r_istore dX9_drawFrom_164 (Nat.le_of_ble_eq_true rfl) rfl s9 ?_
                    refine r_iload dX9_drawFrom_166 rfl ?_
                    refine r_ifeq (tgt := 184) dX9_drawFrom_168 rfl (by first | exact hR _ (Nat.le_of_ble_eq_true rfl) _ | omega) (fun h168 => ?_) (fun h168 => absurd h168 (by decide))
                    refine r_iconst dX9_drawFrom_184 ?_
                    refine r_istore dX9_drawFrom_185 (Nat.le_of_ble_eq_true rfl) rfl s10 ?_
                    refine r_iload dX9_drawFrom_187 rfl ?_
                    refine r_ifeq (tgt := 269) dX9_drawFrom_189 rfl (by first | exact hR _ (Nat.le_of_ble_eq_true rfl) _ | omega) (fun h189 => ?_) (fun h189 => absurd h189 (by decide))
                    refine Lno _ _ _ rfl rfl ?_
                    first
                    | exact fun q => h122 (he1.mpr (hz.mp q.2.1).1)
                    | exact fun q => h137 (he2.mpr (hz.mp q.2.1).2)
                    | exact fun q => by have := (hf1.mp q.1).1; omega
                    | exact fun q => by have := (hf1.mp q.1).2; omega
                    | exact fun q => by have := q.2.2; omega
                  · refine r_iload dX9_drawFrom_140 rfl ?_
                    refine r_aloadk_n dX9_drawFrom_142 rfl ?_
                    refine r_geti dX9_drawFrom_143 fl_X9_69 rfl rfl (hs.lt rfl) ?_
                    refine show RW _ _ _ _ _ (iv (σ 38 26) :: _) from ?_
                    refine r_icmpgt (tgt := 163) dX9_drawFrom_146 rfl (by omega) (by omega) (fun h146 => ?_) (fun h146 => ?_)
                    · refine r_iconst dX9_drawFrom_163 ?_
                      refine r_istore dX9_drawFrom_164 (Nat.le_of_ble_eq_true rfl) rfl s9 ?_
                      refine r_iload dX9_drawFrom_166 rfl ?_
                      refine r_ifeq (tgt := 184) dX9_drawFrom_168 rfl (by first | exact hR _ (Nat.le_of_ble_eq_true rfl) _ | omega) (fun h168 => ?_) (fun h168 => absurd h168 (by decide))
                      refine r_iconst dX9_drawFrom_184 ?_
                      refine r_istore dX9_drawFrom_185 (Nat.le_of_ble_eq_true rfl) rfl s10 ?_
                      refine r_iload dX9_drawFrom_187 rfl ?_
                      refine r_ifeq (tgt := 269) dX9_drawFrom_189 rfl (by first | exact hR _ (Nat.le_of_ble_eq_true rfl) _ | omega) (fun h189 => ?_) (fun h189 => absurd h189 (by decide))
                      refine Lno _ _ _ rfl rfl ?_
                      first
                      | exact fun q => h122 (he1.mpr (hz.mp q.2.1).1)
                      | exact fun q => h137 (he2.mpr (hz.mp q.2.1).2)
                      | exact fun q => by have := (hf1.mp q.1).1; omega
                      | exact fun q => by have := (hf1.mp q.1).2; omega
                      | exact fun q => by have := q.2.2; omega
                    · refine r_iload dX9_drawFrom_149 rfl ?_
                      refine r_ineg dX9_drawFrom_151 ?_
                      refine r_aloadk_n dX9_drawFrom_152 rfl ?_
                      refine r_geti dX9_drawFrom_153 fl_X9_69 rfl rfl (hs.lt rfl) ?_
                      refine show RW _ _ _ _ _ (iv (σ 38 26) :: _) from ?_
                      refine r_icmpgt (tgt := 163) dX9_drawFrom_156 rfl (by omega) (by omega) (fun h156 => ?_) (fun h156 => ?_)
                      · refine r_iconst dX9_drawFrom_163 ?_
                        refine r_istore dX9_drawFrom_164 (Nat.le_of_ble_eq_true rfl) rfl s9 ?_
                        refine r_iload dX9_drawFrom_166 rfl ?_
                        refine r_ifeq (tgt := 184) dX9_drawFrom_168 rfl (by first | exact hR _ (Nat.le_of_ble_eq_true rfl) _ | omega) (fun h168 => ?_) (fun h168 => absurd h168 (by decide))
                        refine r_iconst dX9_drawFrom_184 ?_
                        refine r_istore dX9_drawFrom_185 (Nat.le_of_ble_eq_true rfl) rfl s10 ?_
                        refine r_iload dX9_drawFrom_187 rfl ?_
                        refine r_ifeq (tgt := 269) dX9_drawFrom_189 rfl (by first | exact hR _ (Nat.le_of_ble_eq_true rfl) _ | omega) (fun h189 => ?_) (fun h189 => absurd h189 (by decide))
                        refine Lno _ _ _ rfl rfl ?_
                        first
                        | exact fun q => h122 (he1.mpr (hz.mp q.2.1).1)
                        | exact fun q => h137 (he2.mpr (hz.mp q.2.1).2)
                        | exact fun q => by have := (hf1.mp q.1).1; omega
                        | exact fun q => by have := (hf1.mp q.1).2; omega
                        | exact fun q => by have := q.2.2; omega
                      · refine r_iconst dX9_drawFrom_159 ?_
                        refine r_goto (tgt := 164) dX9_drawFrom_160 rfl ?_
                        refine r_istore dX9_drawFrom_164 (Nat.le_of_ble_eq_true rfl) rfl s9 ?_
                        refine r_iload dX9_drawFrom_166 rfl ?_
                        refine r_ifeq (tgt := 184) dX9_drawFrom_168 rfl (by first | exact hR _ (Nat.le_of_ble_eq_true rfl) _ | omega) (fun h168 => absurd h168 (by decide)) (fun h168 => ?_)
                        refine r_iload dX9_drawFrom_171 rfl ?_
                        refine r_aloadk_n dX9_drawFrom_173 rfl ?_
                        refine r_iload_n dX9_drawFrom_174 rfl ?_
                        refine r_iload dX9_drawFrom_175 rfl ?_
                        refine q_callVr dX9_drawFrom_177 (hcc st1.1 lf 0 fl gl (by omega) (by omega) (by omega) p j hpP hjn) ml_X9_295 okX9_costOf rfl rfl (hs.lt rfl) rfl rfl (Nat.le_of_ble_eq_true rfl) (roomOK.of (by omega)) ⟨(Nat.le_of_ble_eq_true rfl), (Nat.le_of_ble_eq_true rfl)⟩ ?_
                        refine r_iadd dX9_drawFrom_180 ?_
                        refine r_goto (tgt := 185) dX9_drawFrom_181 rfl ?_
                        refine r_istore dX9_drawFrom_185 (Nat.le_of_ble_eq_true rfl) rfl s10 ?_
                        refine r_iload dX9_drawFrom_187 rfl ?_
                        refine r_ifeq (tgt := 269) dX9_drawFrom_189 rfl (by first | exact hR _ (Nat.le_of_ble_eq_true rfl) _ | omega) (fun h189 => absurd h189 (by decide)) (fun h189 => ?_)
                        refine r_aloadk_n dX9_drawFrom_192 rfl ?_
                        refine r_geti dX9_drawFrom_193 fl_X9_285 rfl rfl (hs.lt rfl) ?_
                        refine show RW _ _ _ _ _ (iv st1.1 :: _) from ?_
                        refine r_iflt (tgt := 208) dX9_drawFrom_196 rfl (by omega) (fun h196 => ?_) (fun h196 => ?_)
                        · refine L208 _ rfl ⟨hf1.mpr ⟨h146, h156⟩, hz.mpr ⟨he1.mp h122, he2.mp h137⟩, ?_⟩
                          first
                          | exact Or.inl h196
                          | exact Or.inr h205
                        · refine r_iload dX9_drawFrom_199 rfl ?_
                          refine r_aloadk_n dX9_drawFrom_201 rfl ?_
                          refine r_geti dX9_drawFrom_202 fl_X9_285 rfl rfl (hs.lt rfl) ?_
                          refine show RW _ _ _ _ _ (iv st1.1 :: _) from ?_
                          refine r_icmpge (tgt := 269) dX9_drawFrom_205 rfl (by omega) (by omega) (fun h205 => ?_) (fun h205 => ?_)
                          · refine Lno _ _ _ rfl rfl ?_
                            first
                            | exact fun q => h122 (he1.mpr (hz.mp q.2.1).1)
                            | exact fun q => h137 (he2.mpr (hz.mp q.2.1).2)
                            | exact fun q => by have := (hf1.mp q.1).1; omega
                            | exact fun q => by have := (hf1.mp q.1).2; omega
                            | exact fun q => by have := q.2.2; omega
                          · refine L208 _ rfl ⟨hf1.mpr ⟨h146, h156⟩, hz.mpr ⟨he1.mp h122, he2.mp h137⟩, ?_⟩
                            first
                            | exact Or.inl h196
                            | exact Or.inr h205
      refine Ct.of (L0 := [rf G 38, iv p, jl (U % 2 ^ 40 : Nat), xx, jl (U / 2 ^ 40 : Nat), xx, iv cost, xx, xx, xx, xx]) (by decide +kernel) (Nat.le_of_ble_eq_true rfl) rfl ?_
      refine r_iload_n dX9_drawFrom_0 rfl ?_
      refine r_aloadk_n dX9_drawFrom_1 rfl ?_
      refine r_geti dX9_drawFrom_2 fl_X9_139 rfl rfl (hs.lt rfl) ?_
      refine show RW _ _ _ _ _ (iv (σ 38 10) :: _) from ?_
      refine r_icmpne (tgt := 47) dX9_drawFrom_5 rfl (by omega) (by omega) (fun h5 => ?_) (fun h5 => ?_)
      · refine r_aloadk_n dX9_drawFrom_47 rfl ?_
        refine r_getr dX9_drawFrom_48 fl_X9_124 rfl rfl (hs.lt rfl) (hs.rf rfl) ?_
        refine r_iload_n dX9_drawFrom_51 rfl ?_
        refine r_iconst dX9_drawFrom_52 ?_
        refine r_iast dX9_drawFrom_53 rfl (hs.lt rfl) rfl (by omega) ?_
        rw [mS_f]
        refine r_aloadk_n dX9_drawFrom_54 rfl ?_
        refine r_getr dX9_drawFrom_55 fl_X9_93 rfl rfl (hs.lt rfl) (hs.rf rfl) ?_
        refine r_iload_n dX9_drawFrom_58 rfl ?_
        refine r_iald dX9_drawFrom_59 rfl (hs.lt rfl) rfl (by omega) ?_
        refine show RW _ _ _ _ _ (iv (σ 61 p) :: _) from ?_
        rw [hd p hpP]
        refine r_ifgt (tgt := 76) dX9_drawFrom_60 rfl (by omega) (fun h60 => ?_) (fun h60 => ?_)
        · refine r_iconst dX9_drawFrom_76 ?_
          refine r_istore dX9_drawFrom_77 (Nat.le_of_ble_eq_true rfl) rfl s7 ?_
          exact lp nS 0 (ud f p (-1)) g _ _ _ (by omega) rfl rfl hg (fun q hq => ud_ne (by omega))
        · omega
      · omega
end MDraw
