/-! CLASS: the public methods, second half (but draw) -/
def uphC (σ : Si) (C : Nat) (closing : Int) (o : Nat) : Bool := uphB (σ 5) (σ 6) (σ 22) (σ 23) (σ 24) (σ 25) (σ 26) (σ 27) (σ 28) C closing o
section Public2
variable {l : Launch} {G : GG} {n : Nat} {ρ : Rho} {σ : Si} {W H P C O : Nat}
theorem c_addObjection (hs : Std n ρ) (hJ : JC σ W H P C O) (hO : O < 20) (a b c : Int) : CtI l G 0 mX4_addObjection n ρ σ [rf G 19, iv a, iv b, iv c] (fun σ' z => z = O ∧ σ' = sr (sr (sr (sr σ 26 (ud (σ 26) O a)) 27 (ud (σ 27) O b)) 28 (ud (σ 28) O c)) 19 (ud (σ 19) 3 (O + 1))) := by
  have e := hJ.2.2.2.2.2.1.2.2.2.2.1
  refine Ct.of (L0 := [rf G 19, iv a, iv b, iv c]) (by decide +kernel) (Nat.le_of_ble_eq_true rfl) rfl ?_
  refine r_aloadk_n dX4_addObjection_0 rfl ?_
  refine r_getr dX4_addObjection_1 fl_X4_30 rfl rfl (hs.lt rfl) (hs.rf rfl) ?_
  refine r_aloadk_n dX4_addObjection_4 rfl ?_
  refine r_geti dX4_addObjection_5 fl_X4_50 rfl rfl (hs.lt rfl) ?_
  rw [show iv (σ 19 3) = iv (O : Int) by rw [e]]
  refine r_iload_n dX4_addObjection_8 rfl ?_
  refine r_iast dX4_addObjection_9 rfl (hs.lt rfl) rfl (by omega) ?_
  rw [up_eq_sr]
  refine r_aloadk_n dX4_addObjection_10 rfl ?_
  refine r_getr dX4_addObjection_11 fl_X4_33 rfl rfl (hs.lt rfl) (hs.rf rfl) ?_
  refine r_aloadk_n dX4_addObjection_14 rfl ?_
  refine r_geti dX4_addObjection_15 fl_X4_50 rfl rfl (hs.lt rfl) ?_
  rw [show iv (sr σ 26 (ud (σ 26) O a) 19 3) = iv (O : Int) from congrArg iv e]
  refine r_iload_n dX4_addObjection_18 rfl ?_
  refine r_iast dX4_addObjection_19 rfl (hs.lt rfl) rfl (by omega) ?_
  rw [up_eq_sr]
  refine r_aloadk_n dX4_addObjection_20 rfl ?_
  refine r_getr dX4_addObjection_21 fl_X4_36 rfl rfl (hs.lt rfl) (hs.rf rfl) ?_
  refine r_aloadk_n dX4_addObjection_24 rfl ?_
  refine r_geti dX4_addObjection_25 fl_X4_50 rfl rfl (hs.lt rfl) ?_
  rw [show iv (sr (sr σ 26 (ud (σ 26) O a)) 27 (ud (sr σ 26 (ud (σ 26) O a) 27) O b) 19 3) = iv (O : Int) from congrArg iv e]
  refine r_iload_n dX4_addObjection_28 rfl ?_
  refine r_iast dX4_addObjection_29 rfl (hs.lt rfl) rfl (by omega) ?_
  rw [up_eq_sr]
  refine r_aloadk_n dX4_addObjection_30 rfl ?_
  refine r_dup dX4_addObjection_31 rfl ?_
  refine r_geti dX4_addObjection_32 fl_X4_50 rfl rfl (hs.lt rfl) ?_
  rw [show iv (sr (sr (sr σ 26 (ud (σ 26) O a)) 27 (ud (sr σ 26 (ud (σ 26) O a) 27) O b)) 28 (ud (sr (sr σ 26 (ud (σ 26) O a)) 27 (ud (sr σ 26 (ud (σ 26) O a) 27) O b) 28) O c) 19 3) = iv (O : Int) from congrArg iv e]
  refine r_dup_x1 dX4_addObjection_35 rfl rfl ?_
  refine r_iconst dX4_addObjection_36 ?_
  refine r_iadd dX4_addObjection_37 ?_
  refine r_puti dX4_addObjection_38 fl_X4_50 rfl (hs.lt rfl) ?_
  rw [up_eq_sr]
  exact r_ireti dX4_addObjection_41 rfl ⟨_, rfl, rfl, rfl⟩
theorem c_object (hs : Std n ρ) (hJ : JC σ W H P C O) (x1 x2 x3 : Int) (h1 : R32 x1) (h2 : R32 x2) (h3 : R32 x3) : CtI l G 2 mX8_object n ρ σ [rf G 0, iv x1, iv x2, iv x3] (fun σ' z => (¬ ((0 ≤ x1 ∧ x1 < (P : Int)) ∧ (0 ≤ x2 ∧ x2 < σ 2 2) ∧ (0 ≤ x3 ∧ x3 ≤ 999)) ∧ z = -3 ∧ σ' = σ) ∨ (((0 ≤ x1 ∧ x1 < (P : Int)) ∧ (0 ≤ x2 ∧ x2 < σ 2 2) ∧ (0 ≤ x3 ∧ x3 ≤ 999)) ∧ ¬ O < 20 ∧ z = -5 ∧ σ' = σ) ∨ (((0 ≤ x1 ∧ x1 < (P : Int)) ∧ (0 ≤ x2 ∧ x2 < σ 2 2) ∧ (0 ≤ x3 ∧ x3 ≤ 999)) ∧ O < 20 ∧ z = O ∧ σ' = sr (sr (sr (sr σ 26 (ud (σ 26) O x1)) 27 (ud (σ 27) O x2)) 28 (ud (σ 28) O x3)) 19 (ud (σ 19) 3 (O + 1)))) := by
  obtain ⟨hR, j2, j3, j4, j5, j6, j7, j8, j9, j10, j11, j12, j13, j14⟩ := id hJ
  have eO := j6.2.2.2.2.1
  have kc := c_isClaimant (l := l) (G := G) hs hR x1 h1
  rw [j6.1] at kc
  refine Ct.of (L0 := [rf G 0, iv x1, iv x2, iv x3]) (by decide +kernel) (Nat.le_of_ble_eq_true rfl) rfl ?_
  refine r_aloadk_n dX8_object_0 rfl ?_
  refine r_getr dX8_object_1 fl_X8_39 rfl rfl (hs.lt rfl) (hs.rf rfl) ?_
  refine r_iload_n dX8_object_4 rfl ?_
  refine q_callVr dX8_object_5 (kc) ml_X8_147 okX4_isClaimant rfl rfl (hs.lt rfl) rfl rfl (Nat.le_of_ble_eq_true rfl) (roomOK.of (by decide)) ⟨(Nat.le_of_ble_eq_true rfl), (Nat.le_of_ble_eq_true rfl)⟩ ?_
  refine r_ifeqb (tgt := 29) dX8_object_8 rfl (fun h8 => ?_) (fun h8 => ?_)
  · refine r_bipush dX8_object_29 ?_
    exact r_ireti dX8_object_31 rfl ⟨_, rfl, Or.inl ⟨by omega, rfl, rfl⟩⟩
  · refine r_aloadk_n dX8_object_11 rfl ?_
    refine r_getr dX8_object_12 fl_X8_16 rfl rfl (hs.lt rfl) (hs.rf rfl) ?_
    refine r_iload_n dX8_object_15 rfl ?_
    refine q_callVr dX8_object_16 (c_isCell hs hR x2 h2) ml_X8_81 okX1_isCell rfl rfl (hs.lt rfl) rfl rfl (Nat.le_of_ble_eq_true rfl) (roomOK.of (by decide)) ⟨(Nat.le_of_ble_eq_true rfl), (Nat.le_of_ble_eq_true rfl)⟩ ?_
    refine r_ifeqb (tgt := 29) dX8_object_19 rfl (fun h19 => ?_) (fun h19 => ?_)
    · refine r_bipush dX8_object_29 ?_
      exact r_ireti dX8_object_31 rfl ⟨_, rfl, Or.inl ⟨by omega, rfl, rfl⟩⟩
    · refine r_iload_n dX8_object_22 rfl ?_
      refine q_callSr dX8_object_23 (c_isDay x3 h3) ml_X8_153 okX8_isDay rfl rfl (Nat.le_of_ble_eq_true rfl) (roomOK.of (by decide)) ⟨(Nat.le_of_ble_eq_true rfl), (Nat.le_of_ble_eq_true rfl)⟩ ?_
      refine r_ifneb (tgt := 32) dX8_object_26 rfl (fun h26 => ?_) (fun h26 => ?_)
      · refine r_aloadk_n dX8_object_32 rfl ?_
        refine r_getr dX8_object_33 fl_X8_39 rfl rfl (hs.lt rfl) (hs.rf rfl) ?_
        refine r_geti dX8_object_36 fl_X8_166 rfl rfl (hs.lt rfl) ?_
        refine r_bipush dX8_object_39 ?_
        refine r_icmplt (tgt := 47) dX8_object_41 rfl (by first | exact hR _ (Nat.le_of_ble_eq_true rfl) _ | omega) (by first | exact hR _ (Nat.le_of_ble_eq_true rfl) _ | omega) (fun h41 => ?_) (fun h41 => ?_)
        · refine r_aloadk_n dX8_object_47 rfl ?_
          refine r_getr dX8_object_48 fl_X8_39 rfl rfl (hs.lt rfl) (hs.rf rfl) ?_
          refine r_iload_n dX8_object_51 rfl ?_
          refine r_iload_n dX8_object_52 rfl ?_
          refine r_iload_n dX8_object_53 rfl ?_
          refine q_callVi dX8_object_54 (c_addObjection hs hJ (by omega) x1 x2 x3) ml_X8_169 okX4_addObjection rfl rfl (hs.lt rfl) rfl rfl (Nat.le_of_ble_eq_true rfl) (roomOK.of (by decide)) ⟨(Nat.le_of_ble_eq_true rfl), (Nat.le_of_ble_eq_true rfl)⟩ (fun σ1 z1 hq1 => ?_)
          obtain ⟨rfl, rfl⟩ := hq1
          exact r_ireti dX8_object_57 rfl ⟨_, rfl, Or.inr (Or.inr ⟨⟨h8, h19, h26⟩, by omega, rfl, rfl⟩)⟩
        · refine r_bipush dX8_object_44 ?_
          exact r_ireti dX8_object_46 rfl ⟨_, rfl, Or.inr (Or.inl ⟨⟨h8, h19, h26⟩, by omega, rfl, rfl⟩)⟩
      · refine r_bipush dX8_object_29 ?_
        exact r_ireti dX8_object_31 rfl ⟨_, rfl, Or.inl ⟨by omega, rfl, rfl⟩⟩
theorem c_upheld (hs : Std n ρ) (hJ : JC σ W H P C O) (x1 : Int) (h1 : R32 x1) : RdI l G 2 mX8_upheld n ρ σ [rf G 0, iv x1] (if 0 ≤ x1 ∧ x1 < (O : Int) then bi (uphC σ C (σ 1 0) x1.toNat = true) else -3) := by
  obtain ⟨hR, j2, j3, j4, j5, j6, j7, j8, j9, j10, j11, j12, j13, j14⟩ := id hJ
  obtain ⟨c1, c2, c3, c4, c5, c6, c7, c8⟩ := id j6
  have kw : RdI l G 0 mX8_isWithin n ρ σ [iv x1, iv 0, iv (σ 19 3 - 1)] (bi (0 ≤ x1 ∧ x1 < (O : Int))) := by
    have h := c_isWithin (l := l) (G := G) (n := n) (ρ := ρ) (σ := σ) x1 0 (σ 19 3 - 1) h1 (by omega) (by omega)
    rw [bi_iff (show (0 ≤ x1 ∧ x1 ≤ σ 19 3 - 1) ↔ (0 ≤ x1 ∧ x1 < (O : Int)) by omega)] at h
    exact h
  refine Ct.of (L0 := [rf G 0, iv x1]) (by decide +kernel) (Nat.le_of_ble_eq_true rfl) rfl ?_
  refine r_iload_n dX8_upheld_0 rfl ?_
  refine r_iconst dX8_upheld_1 ?_
  refine r_aloadk_n dX8_upheld_2 rfl ?_
  refine r_getr dX8_upheld_3 fl_X8_39 rfl rfl (hs.lt rfl) (hs.rf rfl) ?_
  refine r_geti dX8_upheld_6 fl_X8_166 rfl rfl (hs.lt rfl) ?_
  refine r_iconst dX8_upheld_9 ?_
  refine r_isub dX8_upheld_10 ?_
  refine q_callSr dX8_upheld_11 (kw) ml_X8_65 okX8_isWithin rfl rfl (Nat.le_of_ble_eq_true rfl) (roomOK.of (by decide)) ⟨(Nat.le_of_ble_eq_true rfl), (Nat.le_of_ble_eq_true rfl)⟩ ?_
  refine r_ifneb (tgt := 20) dX8_upheld_14 rfl (fun h14 => ?_) (fun h14 => ?_)
  · obtain ⟨o, rfl⟩ : ∃ a : Nat, x1 = a := ⟨x1.toNat, by omega⟩
    refine r_aloadk_n dX8_upheld_20 rfl ?_
    refine r_getr dX8_upheld_21 fl_X8_39 rfl rfl (hs.lt rfl) (hs.rf rfl) ?_
    refine r_iload_n dX8_upheld_24 rfl ?_
    refine r_aloadk_n dX8_upheld_25 rfl ?_
    refine r_getr dX8_upheld_26 fl_X8_7 rfl rfl (hs.lt rfl) (hs.rf rfl) ?_
    refine r_iconst dX8_upheld_29 ?_
    refine r_iald dX8_upheld_30 rfl (hs.lt rfl) (c := 0) rfl (Nat.le_of_ble_eq_true rfl) ?_
    refine q_callVr dX8_upheld_31 (c_isUpheld hs hR C c3 c4 (σ 1 0) (by omega) o (by omega) (c8 o (by omega)).2) ml_X8_173 okX4_isUpheld rfl rfl (hs.lt rfl) rfl rfl (Nat.le_of_ble_eq_true rfl) (roomOK.of (by decide)) ⟨(Nat.le_of_ble_eq_true rfl), (Nat.le_of_ble_eq_true rfl)⟩ ?_
    refine r_ifeqb (tgt := 41) dX8_upheld_34 rfl (fun h34 => ?_) (fun h34 => ?_)
    · refine r_iconst dX8_upheld_41 ?_
      exact r_ireti dX8_upheld_42 rfl ⟨_, rfl, rfl, by rw [if_pos h14, Int.toNat_natCast]; unfold uphC; first | rw [bi_t h34] | rw [bi_f h34]⟩
    · refine r_iconst dX8_upheld_37 ?_
      refine r_goto (tgt := 42) dX8_upheld_38 rfl ?_
      exact r_ireti dX8_upheld_42 rfl ⟨_, rfl, rfl, by rw [if_pos h14, Int.toNat_natCast]; unfold uphC; first | rw [bi_t h34] | rw [bi_f h34]⟩
  · refine r_bipush dX8_upheld_17 ?_
    exact r_ireti dX8_upheld_19 rfl ⟨_, rfl, rfl, by rw [if_neg h14]⟩
theorem c_holder (hs : Std n ρ) (hJ : JC σ W H P C O) (x1 x2 : Int) (h1 : R32 x1) (h2 : R32 x2) : RdI l G 2 mX8_holder n ρ σ [rf G 0, iv x1, iv x2] (if (0 ≤ x1 ∧ x1 < σ 2 2) ∧ (0 ≤ x2 ∧ x2 ≤ 999) then hold (σ 5) (σ 6) (σ 23) (σ 24) (σ 25) C x1.toNat x2 (σ 1 0) else -3) := by
  obtain ⟨hR, j2, j3, j4, j5, j6, j7, j8, j9, j10, j11, j12, j13, j14⟩ := id hJ
  have hle := j2.le
  have g2 := j2.2.2.1
  refine Ct.of (L0 := [rf G 0, iv x1, iv x2]) (by decide +kernel) (Nat.le_of_ble_eq_true rfl) rfl ?_
  refine r_aloadk_n dX8_holder_0 rfl ?_
  refine r_getr dX8_holder_1 fl_X8_16 rfl rfl (hs.lt rfl) (hs.rf rfl) ?_
  refine r_iload_n dX8_holder_4 rfl ?_
  refine q_callVr dX8_holder_5 (c_isCell hs hR x1 h1) ml_X8_81 okX1_isCell rfl rfl (hs.lt rfl) rfl rfl (Nat.le_of_ble_eq_true rfl) (roomOK.of (by decide)) ⟨(Nat.le_of_ble_eq_true rfl), (Nat.le_of_ble_eq_true rfl)⟩ ?_
  refine r_ifeqb (tgt := 18) dX8_holder_8 rfl (fun h8 => ?_) (fun h8 => ?_)
  · refine r_bipush dX8_holder_18 ?_
    exact r_ireti dX8_holder_20 rfl ⟨_, rfl, rfl, by rw [if_neg (by omega)]⟩
  · refine r_iload_n dX8_holder_11 rfl ?_
    refine q_callSr dX8_holder_12 (c_isDay x2 h2) ml_X8_153 okX8_isDay rfl rfl (Nat.le_of_ble_eq_true rfl) (roomOK.of (by decide)) ⟨(Nat.le_of_ble_eq_true rfl), (Nat.le_of_ble_eq_true rfl)⟩ ?_
    refine r_ifneb (tgt := 21) dX8_holder_15 rfl (fun h15 => ?_) (fun h15 => ?_)
    · obtain ⟨o, rfl⟩ : ∃ a : Nat, x1 = a := ⟨x1.toNat, by omega⟩
      refine r_aloadk_n dX8_holder_21 rfl ?_
      refine r_getr dX8_holder_22 fl_X8_39 rfl rfl (hs.lt rfl) (hs.rf rfl) ?_
      refine r_iload_n dX8_holder_25 rfl ?_
      refine r_iload_n dX8_holder_26 rfl ?_
      refine r_aloadk_n dX8_holder_27 rfl ?_
      refine r_getr dX8_holder_28 fl_X8_7 rfl rfl (hs.lt rfl) (hs.rf rfl) ?_
      refine r_iconst dX8_holder_31 ?_
      refine r_iald dX8_holder_32 rfl (hs.lt rfl) (c := 0) rfl (Nat.le_of_ble_eq_true rfl) ?_
      refine q_callVr dX8_holder_33 (c_holderAt hs hR o x2 (σ 1 0) (by omega) h2 (by omega) C j6.2.2.1 j6.2.2.2.1) ml_X8_177 okX4_holderAt rfl rfl (hs.lt rfl) rfl rfl (Nat.le_of_ble_eq_true rfl) (roomOK.of (by decide)) ⟨(Nat.le_of_ble_eq_true rfl), (Nat.le_of_ble_eq_true rfl)⟩ ?_
      exact r_ireti dX8_holder_36 rfl ⟨_, rfl, rfl, by rw [if_pos ⟨h8, h15⟩, Int.toNat_natCast]⟩
    · refine r_bipush dX8_holder_18 ?_
      exact r_ireti dX8_holder_20 rfl ⟨_, rfl, rfl, by rw [if_neg (by omega)]⟩
def sumS (so us rd kd by_ wh pf dy ob oc od : Nat → Int) (N P C O : Nat) (x1 day closing sold tithe ex : Int) : Int :=
  if x1 = 0 then valS so us rd N else if x1 = 1 then min (valS so us rd N) sold else if x1 = 2 then titS kd P (valS so us rd N) sold tithe else if x1 = 3 then valS so us rd N - min (valS so us rd N) sold - titS kd P (valS so us rd N) sold tithe else if x1 = 4 then sumN (weiS so us rd kd by_ wh pf dy ob oc od zF N P C O day closing) P else ex
theorem c_sum (hs : Std n ρ) (hJ : JC σ W H P C O) (x1 x2 : Int) (h1 : R32 x1) (h2 : R32 x2) : CtI l G 4 mX8_sum n ρ σ [rf G 0, iv x1, iv x2] (fun σ' z => (¬ ((0 ≤ x1 ∧ x1 ≤ 5) ∧ (0 ≤ x2 ∧ x2 ≤ 999)) ∧ z = -3 ∧ σ' = σ) ∨ (((0 ≤ x1 ∧ x1 ≤ 5) ∧ (0 ≤ x2 ∧ x2 ≤ 999)) ∧ ShrF σ σ' ∧ z = sumS (σ 4) (σ 5) (σ 6) (σ 20) (σ 22) (σ 23) (σ 24) (σ 25) (σ 26) (σ 27) (σ 28) (W * H) P C O x1 x2 (σ 1 0) (σ 1 3) (σ 1 2) (σ 2 3))) := by
  obtain ⟨hR, j2, j3, j4, j5, j6, j7, j8, j9, j10, j11, j12, j13, j14⟩ := id hJ
  obtain ⟨c1, c2, c3, c4, c5, c6, c7, c8⟩ := id j6
  have hle := j2.le
  have hv := valS_r (so := σ 4) (us := σ 5) (rd := σ 6) (N := W * H) j3
  have hid : ShrF σ σ := ⟨fun _ _ => rfl, hR, j7⟩
  have kv := c_value (l := l) (G := G) hs hR j2.2.2.1 hle
  have hwr := weiS_r (so := σ 4) (us := σ 5) (rd := σ 6) (kd := σ 20) (by_ := σ 22) (wh := σ 23) (pf := σ 24) (dy := σ 25) (ob := σ 26) (oc := σ 27) (od := σ 28) (w := zF) (N := W * H) (P := P) (C := C) (O := O) (day := x2) (closing := σ 1 0) j3 hle (fun _ _ => rfl) (fun i hi => (c7 i hi).2.2)
  have hwh := weiS_hi (so := σ 4) (us := σ 5) (rd := σ 6) (kd := σ 20) (by_ := σ 22) (wh := σ 23) (pf := σ 24) (dy := σ 25) (ob := σ 26) (oc := σ 27) (od := σ 28) (w := zF) (N := W * H) (P := P) (C := C) (O := O) (day := x2) (closing := σ 1 0) c2 (fun _ _ => rfl) (fun i hi => (c7 i hi).1) (fun o ho => (c8 o ho).1)
  refine Ct.of (L0 := [rf G 0, iv x1, iv x2]) (by decide +kernel) (Nat.le_of_ble_eq_true rfl) rfl ?_
  refine r_iload_n dX8_sum_0 rfl ?_
  refine r_iconst dX8_sum_1 ?_
  refine r_iconst dX8_sum_2 ?_
  refine q_callSr dX8_sum_3 (c_isWithin x1 0 5 h1 (by omega) (by omega)) ml_X8_65 okX8_isWithin rfl rfl (Nat.le_of_ble_eq_true rfl) (roomOK.of (by decide)) ⟨(Nat.le_of_ble_eq_true rfl), (Nat.le_of_ble_eq_true rfl)⟩ ?_
  refine r_ifeqb (tgt := 16) dX8_sum_6 rfl (fun h6 => ?_) (fun h6 => ?_)
  · refine r_bipush dX8_sum_16 ?_
    exact r_ireti dX8_sum_18 rfl ⟨_, rfl, Or.inl ⟨by omega, rfl, rfl⟩⟩
  · refine r_iload_n dX8_sum_9 rfl ?_
    refine q_callSr dX8_sum_10 (c_isDay x2 h2) ml_X8_153 okX8_isDay rfl rfl (Nat.le_of_ble_eq_true rfl) (roomOK.of (by decide)) ⟨(Nat.le_of_ble_eq_true rfl), (Nat.le_of_ble_eq_true rfl)⟩ ?_
    refine r_ifneb (tgt := 19) dX8_sum_13 rfl (fun h13 => ?_) (fun h13 => ?_)
    · refine r_iload_n dX8_sum_19 rfl ?_
      by_cases h20_0 : x1 = 0
      · refine r_tabAt (c := 0) (tgt := 56) dX8_sum_20 (by first | exact hR _ (Nat.le_of_ble_eq_true rfl) _ | omega) h20_0 (by decide) (by decide) rfl rfl ?_
        refine r_aloadk_n dX8_sum_56 rfl ?_
        refine r_getr dX8_sum_57 fl_X8_48 rfl rfl (hs.lt rfl) (hs.rf rfl) ?_
        refine q_callVr dX8_sum_60 (kv) ml_X8_180 okX6_value rfl rfl (hs.lt rfl) rfl rfl (Nat.le_of_ble_eq_true rfl) (roomOK.of (by decide)) ⟨(Nat.le_of_ble_eq_true rfl), (Nat.le_of_ble_eq_true rfl)⟩ ?_
        exact r_ireti dX8_sum_63 rfl ⟨_, rfl, Or.inr ⟨⟨h6, h13⟩, hid, by unfold sumS; rw [if_pos h20_0]⟩⟩
      by_cases h20_1 : x1 = 1
      · refine r_tabAt (c := 1) (tgt := 64) dX8_sum_20 (by first | exact hR _ (Nat.le_of_ble_eq_true rfl) _ | omega) h20_1 (by decide) (by decide) rfl rfl ?_
        refine r_aloadk_n dX8_sum_64 rfl ?_
        refine r_getr dX8_sum_65 fl_X8_48 rfl rfl (hs.lt rfl) (hs.rf rfl) ?_
        refine r_aloadk_n dX8_sum_68 rfl ?_
        refine r_getr dX8_sum_69 fl_X8_48 rfl rfl (hs.lt rfl) (hs.rf rfl) ?_
        refine q_callVr dX8_sum_72 (kv) ml_X8_180 okX6_value rfl rfl (hs.lt rfl) rfl rfl (Nat.le_of_ble_eq_true rfl) (roomOK.of (by decide)) ⟨(Nat.le_of_ble_eq_true rfl), (Nat.le_of_ble_eq_true rfl)⟩ ?_
        refine q_callVr dX8_sum_75 (c_soldOf hs hR _ (by omega)) ml_X8_184 okX6_soldOf rfl rfl (hs.lt rfl) rfl rfl (Nat.le_of_ble_eq_true rfl) (roomOK.of (by decide)) ⟨(Nat.le_of_ble_eq_true rfl), (Nat.le_of_ble_eq_true rfl)⟩ ?_
        exact r_ireti dX8_sum_78 rfl ⟨_, rfl, Or.inr ⟨⟨h6, h13⟩, hid, by unfold sumS; rw [if_neg h20_0, if_pos h20_1]⟩⟩
      by_cases h20_2 : x1 = 2
      · refine r_tabAt (c := 2) (tgt := 79) dX8_sum_20 (by first | exact hR _ (Nat.le_of_ble_eq_true rfl) _ | omega) h20_2 (by decide) (by decide) rfl rfl ?_
        refine r_aloadk_n dX8_sum_79 rfl ?_
        refine r_getr dX8_sum_80 fl_X8_48 rfl rfl (hs.lt rfl) (hs.rf rfl) ?_
        refine r_aloadk_n dX8_sum_83 rfl ?_
        refine r_getr dX8_sum_84 fl_X8_48 rfl rfl (hs.lt rfl) (hs.rf rfl) ?_
        refine q_callVr dX8_sum_87 (kv) ml_X8_180 okX6_value rfl rfl (hs.lt rfl) rfl rfl (Nat.le_of_ble_eq_true rfl) (roomOK.of (by decide)) ⟨(Nat.le_of_ble_eq_true rfl), (Nat.le_of_ble_eq_true rfl)⟩ ?_
        refine q_callVr dX8_sum_90 (c_titheOf hs hR P c1 c2 _ (by omega) j8.2.2.2.1.1 j8.2.2.1) ml_X8_188 okX6_titheOf rfl rfl (hs.lt rfl) rfl rfl (Nat.le_of_ble_eq_true rfl) (roomOK.of (by decide)) ⟨(Nat.le_of_ble_eq_true rfl), (Nat.le_of_ble_eq_true rfl)⟩ ?_
        exact r_ireti dX8_sum_93 rfl ⟨_, rfl, Or.inr ⟨⟨h6, h13⟩, hid, by unfold sumS; rw [if_neg h20_0, if_neg h20_1, if_pos h20_2]⟩⟩
      by_cases h20_3 : x1 = 3
      · refine r_tabAt (c := 3) (tgt := 94) dX8_sum_20 (by first | exact hR _ (Nat.le_of_ble_eq_true rfl) _ | omega) h20_3 (by decide) (by decide) rfl rfl ?_
        refine r_aloadk_n dX8_sum_94 rfl ?_
        refine r_getr dX8_sum_95 fl_X8_48 rfl rfl (hs.lt rfl) (hs.rf rfl) ?_
        refine r_aloadk_n dX8_sum_98 rfl ?_
        refine r_getr dX8_sum_99 fl_X8_48 rfl rfl (hs.lt rfl) (hs.rf rfl) ?_
        refine q_callVr dX8_sum_102 (kv) ml_X8_180 okX6_value rfl rfl (hs.lt rfl) rfl rfl (Nat.le_of_ble_eq_true rfl) (roomOK.of (by decide)) ⟨(Nat.le_of_ble_eq_true rfl), (Nat.le_of_ble_eq_true rfl)⟩ ?_
        refine q_callVr dX8_sum_105 (c_restOf hs hR P c1 c2 _ (by omega) j8.2.2.2.1.1 j8.2.2.1) ml_X8_191 okX6_restOf rfl rfl (hs.lt rfl) rfl rfl (Nat.le_of_ble_eq_true rfl) (roomOK.of (by decide)) ⟨(Nat.le_of_ble_eq_true rfl), (Nat.le_of_ble_eq_true rfl)⟩ ?_
        exact r_ireti dX8_sum_108 rfl ⟨_, rfl, Or.inr ⟨⟨h6, h13⟩, hid, by unfold sumS; rw [if_neg h20_0, if_neg h20_1, if_neg h20_2, if_pos h20_3]⟩⟩
      by_cases h20_4 : x1 = 4
      · refine r_tabAt (c := 4) (tgt := 109) dX8_sum_20 (by first | exact hR _ (Nat.le_of_ble_eq_true rfl) _ | omega) h20_4 (by decide) (by decide) rfl rfl ?_
        refine r_aloadk_n dX8_sum_109 rfl ?_
        refine r_getr dX8_sum_110 fl_X8_48 rfl rfl (hs.lt rfl) (hs.rf rfl) ?_
        refine r_iload_n dX8_sum_113 rfl ?_
        refine r_aloadk_n dX8_sum_114 rfl ?_
        refine r_getr dX8_sum_115 fl_X8_7 rfl rfl (hs.lt rfl) (hs.rf rfl) ?_
        refine r_iconst dX8_sum_118 ?_
        refine r_iald dX8_sum_119 rfl (hs.lt rfl) (c := 0) rfl (Nat.le_of_ble_eq_true rfl) ?_
        refine q_callVv dX8_sum_120 (c_weigh0 hs hJ.shr x2 (σ 1 0) h2 (by omega)) ml_X8_194 okX6_weigh rfl rfl (hs.lt rfl) rfl rfl (Nat.le_of_ble_eq_true rfl) (roomOK.of (by decide)) ⟨(Nat.le_of_ble_eq_true rfl), (Nat.le_of_ble_eq_true rfl)⟩ (fun σ1 hq1 => ?_)
        obtain ⟨g, hg, rfl⟩ := hq1
        refine r_aloadk_n dX8_sum_123 rfl ?_
        refine r_getr dX8_sum_124 fl_X8_48 rfl rfl (hs.lt rfl) (hs.rf rfl) ?_
        refine r_getr dX8_sum_127 fl_X8_197 rfl rfl (hs.lt rfl) (hs.rf rfl) ?_
        refine r_aloadk_n dX8_sum_130 rfl ?_
        refine r_getr dX8_sum_131 fl_X8_39 rfl rfl (hs.lt rfl) (hs.rf rfl) ?_
        refine r_geti dX8_sum_134 fl_X8_141 rfl rfl (hs.lt rfl) ?_
        rw [show iv (sr (sr σ 30 (weiC σ (W * H) P C O x2 (σ 1 0))) 33 g 19 1) = iv (P : Int) from congrArg iv c1]
        refine q_callSr dX8_sum_137 (c_total 30 8 (hs.lt rfl) rfl P c2) ml_X8_200 okX6_total rfl rfl (Nat.le_of_ble_eq_true rfl) (roomOK.of (by decide)) ⟨(Nat.le_of_ble_eq_true rfl), (Nat.le_of_ble_eq_true rfl)⟩ ?_
        exact r_ireti dX8_sum_140 rfl ⟨_, rfl, Or.inr ⟨⟨h6, h13⟩, ⟨fun k hk => by rw [sr_ne (by omega), sr_ne (by omega)], (hR.sr (fun j => by have := hwr j; show R32 (weiS _ _ _ _ _ _ _ _ _ _ _ _ _ _ _ _ _ _ j); omega)).sr hg, fun b hb => ⟨hwh b hb, (j7 b hb).2⟩⟩, by unfold sumS; rw [if_neg (by omega), if_neg (by omega), if_neg (by omega), if_neg (by omega), if_pos h20_4]; rfl⟩⟩
      refine r_tabOut (tgt := 141) dX8_sum_20 (by first | exact hR _ (Nat.le_of_ble_eq_true rfl) _ | omega) (by omega) rfl ?_
      refine r_aloadk_n dX8_sum_141 rfl ?_
      refine r_getr dX8_sum_142 fl_X8_16 rfl rfl (hs.lt rfl) (hs.rf rfl) ?_
      refine r_geti dX8_sum_145 fl_X8_204 rfl rfl (hs.lt rfl) ?_
      exact r_ireti dX8_sum_148 rfl ⟨_, rfl, Or.inr ⟨⟨h6, h13⟩, hid, by unfold sumS; rw [if_neg h20_0, if_neg h20_1, if_neg h20_2, if_neg h20_3, if_neg h20_4]⟩⟩
    · refine r_bipush dX8_sum_16 ?_
      exact r_ireti dX8_sum_18 rfl ⟨_, rfl, Or.inl ⟨by omega, rfl, rfl⟩⟩
def hasS (so us rd kd by_ wh pf dy ob oc od : Nat → Int) (N P C O p : Nat) (x2 day closing sold tithe ex : Int) : Int :=
  if x2 = 0 then weiS so us rd kd by_ wh pf dy ob oc od zF N P C O day closing p
  else if x2 = 1 then dueS so us rd kd by_ wh pf dy ob oc od zF zF zF N P C O day closing sold tithe p
  else if x2 = 2 then partS ex (dueS so us rd kd by_ wh pf dy ob oc od zF zF zF N P C O day closing sold tithe) zF zF P p
  else if x2 = 3 then 3 * max 0 (dueS so us rd kd by_ wh pf dy ob oc od zF zF zF N P C O day 999 sold tithe p - dueS so us rd kd by_ wh pf dy ob oc od zF zF zF N P C O day closing sold tithe p)
  else gfold by_ wh pf dy p day closing C
theorem c_has (hs : Std n ρ) (hJ : JC σ W H P C O) (x1 x2 x3 : Int) (h1 : R32 x1) (h2 : R32 x2) (h3 : R32 x3) : CtI l G 6 mX8_has n ρ σ [rf G 0, iv x1, iv x2, iv x3] (fun σ' z => (¬ ((0 ≤ x1 ∧ x1 < (P : Int)) ∧ (0 ≤ x2 ∧ x2 ≤ 4) ∧ (0 ≤ x3 ∧ x3 ≤ 999)) ∧ z = -3 ∧ σ' = σ) ∨ (((0 ≤ x1 ∧ x1 < (P : Int)) ∧ (0 ≤ x2 ∧ x2 ≤ 4) ∧ (0 ≤ x3 ∧ x3 ≤ 999)) ∧ ShrF σ σ' ∧ z = hasS (σ 4) (σ 5) (σ 6) (σ 20) (σ 22) (σ 23) (σ 24) (σ 25) (σ 26) (σ 27) (σ 28) (W * H) P C O x1.toNat x2 x3 (σ 1 0) (σ 1 3) (σ 1 2) (σ 2 3))) := by
  obtain ⟨hR, j2, j3, j4, j5, j6, j7, j8, j9, j10, j11, j12, j13, j14⟩ := id hJ
  obtain ⟨c1, c2, c3, c4, c5, c6, c7, c8⟩ := id j6
  have hle := j2.le
  have hid : ShrF σ σ := ⟨fun _ _ => rfl, hR, j7⟩
  have hwr := weiS_r (so := σ 4) (us := σ 5) (rd := σ 6) (kd := σ 20) (by_ := σ 22) (wh := σ 23) (pf := σ 24) (dy := σ 25) (ob := σ 26) (oc := σ 27) (od := σ 28) (w := zF) (N := W * H) (P := P) (C := C) (O := O) (day := x3) (closing := σ 1 0) j3 hle (fun _ _ => rfl) (fun i hi => (c7 i hi).2.2)
  have hwh := weiS_hi (so := σ 4) (us := σ 5) (rd := σ 6) (kd := σ 20) (by_ := σ 22) (wh := σ 23) (pf := σ 24) (dy := σ 25) (ob := σ 26) (oc := σ 27) (od := σ 28) (w := zF) (N := W * H) (P := P) (C := C) (O := O) (day := x3) (closing := σ 1 0) c2 (fun _ _ => rfl) (fun i hi => (c7 i hi).1) (fun o ho => (c8 o ho).1)
  have kc := c_isClaimant (l := l) (G := G) hs hR x1 h1
  rw [c1] at kc
  refine Ct.of (L0 := [rf G 0, iv x1, iv x2, iv x3, xx]) (by decide +kernel) (Nat.le_of_ble_eq_true rfl) rfl ?_
  refine r_aloadk_n dX8_has_0 rfl ?_
  refine r_getr dX8_has_1 fl_X8_39 rfl rfl (hs.lt rfl) (hs.rf rfl) ?_
  refine r_iload_n dX8_has_4 rfl ?_
  refine q_callVr dX8_has_5 (kc) ml_X8_147 okX4_isClaimant rfl rfl (hs.lt rfl) rfl rfl (Nat.le_of_ble_eq_true rfl) (roomOK.of (by decide)) ⟨(Nat.le_of_ble_eq_true rfl), (Nat.le_of_ble_eq_true rfl)⟩ ?_
  refine r_ifeqb (tgt := 27) dX8_has_8 rfl (fun h8 => ?_) (fun h8 => ?_)
  · refine r_bipush dX8_has_27 ?_
    exact r_ireti dX8_has_29 rfl ⟨_, rfl, Or.inl ⟨by omega, rfl, rfl⟩⟩
  · refine r_iload_n dX8_has_11 rfl ?_
    refine r_iconst dX8_has_12 ?_
    refine r_iconst dX8_has_13 ?_
    refine q_callSr dX8_has_14 (c_isWithin x2 0 4 h2 (by omega) (by omega)) ml_X8_65 okX8_isWithin rfl rfl (Nat.le_of_ble_eq_true rfl) (roomOK.of (by decide)) ⟨(Nat.le_of_ble_eq_true rfl), (Nat.le_of_ble_eq_true rfl)⟩ ?_
    refine r_ifeqb (tgt := 27) dX8_has_17 rfl (fun h17 => ?_) (fun h17 => ?_)
    · refine r_bipush dX8_has_27 ?_
      exact r_ireti dX8_has_29 rfl ⟨_, rfl, Or.inl ⟨by omega, rfl, rfl⟩⟩
    · refine r_iload_n dX8_has_20 rfl ?_
      refine q_callSr dX8_has_21 (c_isDay x3 h3) ml_X8_153 okX8_isDay rfl rfl (Nat.le_of_ble_eq_true rfl) (roomOK.of (by decide)) ⟨(Nat.le_of_ble_eq_true rfl), (Nat.le_of_ble_eq_true rfl)⟩ ?_
      refine r_ifneb (tgt := 30) dX8_has_24 rfl (fun h24 => ?_) (fun h24 => ?_)
      · obtain ⟨p, rfl⟩ : ∃ a : Nat, x1 = a := ⟨x1.toNat, by omega⟩
        have hp8 : p < 8 := by omega
        refine r_aloadk_n dX8_has_30 rfl ?_
        refine r_getr dX8_has_31 fl_X8_7 rfl rfl (hs.lt rfl) (hs.rf rfl) ?_
        refine r_iconst dX8_has_34 ?_
        refine r_iald dX8_has_35 rfl (hs.lt rfl) (c := 0) rfl (Nat.le_of_ble_eq_true rfl) ?_
        refine r_istore dX8_has_36 (Nat.le_of_ble_eq_true rfl) rfl s4 ?_
        refine r_iload_n dX8_has_38 rfl ?_
        by_cases h39_0 : x2 = 0
        · refine r_tabAt (c := 0) (tgt := 68) dX8_has_39 (by first | exact hR _ (Nat.le_of_ble_eq_true rfl) _ | omega) h39_0 (by decide) (by decide) rfl rfl ?_
          refine r_aloadk_n dX8_has_68 rfl ?_
          refine r_getr dX8_has_69 fl_X8_48 rfl rfl (hs.lt rfl) (hs.rf rfl) ?_
          refine r_iload_n dX8_has_72 rfl ?_
          refine r_iload dX8_has_73 rfl ?_
          refine q_callVv dX8_has_75 (c_weigh0 hs hJ.shr x3 (σ 1 0) h3 (by omega)) ml_X8_194 okX6_weigh rfl rfl (hs.lt rfl) rfl rfl (Nat.le_of_ble_eq_true rfl) (roomOK.of (by decide)) ⟨(Nat.le_of_ble_eq_true rfl), (Nat.le_of_ble_eq_true rfl)⟩ (fun σ1 hq1 => ?_)
          obtain ⟨g, hg, rfl⟩ := hq1
          refine r_aloadk_n dX8_has_78 rfl ?_
          refine r_getr dX8_has_79 fl_X8_48 rfl rfl (hs.lt rfl) (hs.rf rfl) ?_
          refine r_getr dX8_has_82 fl_X8_197 rfl rfl (hs.lt rfl) (hs.rf rfl) ?_
          refine r_iload_n dX8_has_85 rfl ?_
          refine r_iald dX8_has_86 rfl (hs.lt rfl) rfl (by omega) ?_
          exact r_ireti dX8_has_87 rfl ⟨_, rfl, Or.inr ⟨⟨h8, h17, h24⟩, ⟨fun k hk => by rw [sr_ne (by omega), sr_ne (by omega)], (hR.sr (fun j => by have := hwr j; show R32 (weiS _ _ _ _ _ _ _ _ _ _ _ _ _ _ _ _ _ _ j); omega)).sr hg, fun b hb => ⟨hwh b hb, (j7 b hb).2⟩⟩, by unfold hasS; rw [if_pos h39_0, Int.toNat_natCast]; rfl⟩⟩
        by_cases h39_1 : x2 = 1
        · refine r_tabAt (c := 1) (tgt := 88) dX8_has_39 (by first | exact hR _ (Nat.le_of_ble_eq_true rfl) _ | omega) h39_1 (by decide) (by decide) rfl rfl ?_
          refine r_aloadk_n dX8_has_88 rfl ?_
          refine r_getr dX8_has_89 fl_X8_48 rfl rfl (hs.lt rfl) (hs.rf rfl) ?_
          refine r_iload_n dX8_has_92 rfl ?_
          refine r_iload_n dX8_has_93 rfl ?_
          refine r_iload dX8_has_94 rfl ?_
          refine q_callVi dX8_has_96 (c_dueOf hs hJ.shr p hp8 x3 (σ 1 0) h3 (by omega)) ml_X8_207 okX6_dueOf rfl rfl (hs.lt rfl) rfl rfl (Nat.le_of_ble_eq_true rfl) (roomOK.of (by decide)) ⟨(Nat.le_of_ble_eq_true rfl), (Nat.le_of_ble_eq_true rfl)⟩ (fun σ1 z1 hq1 => ?_)
          obtain ⟨f1, rfl⟩ := hq1
          exact r_ireti dX8_has_99 rfl ⟨_, rfl, Or.inr ⟨⟨h8, h17, h24⟩, f1, by unfold hasS; rw [if_neg h39_0, if_pos h39_1, Int.toNat_natCast]; rfl⟩⟩
        by_cases h39_2 : x2 = 2
        · refine r_tabAt (c := 2) (tgt := 100) dX8_has_39 (by first | exact hR _ (Nat.le_of_ble_eq_true rfl) _ | omega) h39_2 (by decide) (by decide) rfl rfl ?_
          refine r_aloadk_n dX8_has_100 rfl ?_
          refine r_getr dX8_has_101 fl_X8_48 rfl rfl (hs.lt rfl) (hs.rf rfl) ?_
          refine r_iload_n dX8_has_104 rfl ?_
          refine r_iload dX8_has_105 rfl ?_
          refine q_callVv dX8_has_107 (c_settleRates hs hJ.shr x3 (σ 1 0) h3 (by omega)) ml_X8_210 okX6_settleRates rfl rfl (hs.lt rfl) rfl rfl (Nat.le_of_ble_eq_true rfl) (roomOK.of (by decide)) ⟨(Nat.le_of_ble_eq_true rfl), (Nat.le_of_ble_eq_true rfl)⟩ (fun σ1 hq1 => ?_)
          obtain ⟨f1, e1⟩ := hq1
          refine r_aloadk_n dX8_has_110 rfl ?_
          refine r_getr dX8_has_111 fl_X8_48 rfl rfl (hs.lt rfl) (hs.rf rfl) ?_
          refine r_getr dX8_has_114 fl_X8_213 rfl rfl (hs.lt rfl) (hs.rf rfl) ?_
          refine r_iload_n dX8_has_117 rfl ?_
          refine r_iald dX8_has_118 rfl (hs.lt rfl) rfl (by omega) ?_
          exact r_ireti dX8_has_119 rfl ⟨_, rfl, Or.inr ⟨⟨h8, h17, h24⟩, f1, by unfold hasS; rw [if_neg h39_0, if_neg h39_1, if_pos h39_2, Int.toNat_natCast, e1]; rfl⟩⟩
        by_cases h39_3 : x2 = 3
        · refine r_tabAt (c := 3) (tgt := 120) dX8_has_39 (by first | exact hR _ (Nat.le_of_ble_eq_true rfl) _ | omega) h39_3 (by decide) (by decide) rfl rfl ?_
          refine r_aloadk_n dX8_has_120 rfl ?_
          refine r_getr dX8_has_121 fl_X8_48 rfl rfl (hs.lt rfl) (hs.rf rfl) ?_
          refine r_iload_n dX8_has_124 rfl ?_
          refine r_iload_n dX8_has_125 rfl ?_
          refine r_iload dX8_has_126 rfl ?_
          refine q_callVi dX8_has_128 (c_coinOf hs hJ.shr p hp8 x3 (σ 1 0) h3 (by omega)) ml_X8_216 okX6_coinOf rfl rfl (hs.lt rfl) rfl rfl (Nat.le_of_ble_eq_true rfl) (roomOK.of (by decide)) ⟨(Nat.le_of_ble_eq_true rfl), (Nat.le_of_ble_eq_true rfl)⟩ (fun σ1 z1 hq1 => ?_)
          obtain ⟨f1, rfl⟩ := hq1
          exact r_ireti dX8_has_131 rfl ⟨_, rfl, Or.inr ⟨⟨h8, h17, h24⟩, f1, by unfold hasS; rw [if_neg h39_0, if_neg h39_1, if_neg h39_2, if_pos h39_3, Int.toNat_natCast]; rfl⟩⟩
        refine r_tabOut (tgt := 132) dX8_has_39 (by first | exact hR _ (Nat.le_of_ble_eq_true rfl) _ | omega) (by omega) rfl ?_
        refine r_aloadk_n dX8_has_132 rfl ?_
        refine r_getr dX8_has_133 fl_X8_39 rfl rfl (hs.lt rfl) (hs.rf rfl) ?_
        refine r_iload_n dX8_has_136 rfl ?_
        refine r_iload_n dX8_has_137 rfl ?_
        refine r_iload dX8_has_138 rfl ?_
        refine q_callVr dX8_has_140 (c_gatesOf hs hR C c3 c4 (fun i hi => (c7 i hi).2) p x3 (σ 1 0) (by omega) h3 (by omega)) ml_X8_219 okX4_gatesOf rfl rfl (hs.lt rfl) rfl rfl (Nat.le_of_ble_eq_true rfl) (roomOK.of (by decide)) ⟨(Nat.le_of_ble_eq_true rfl), (Nat.le_of_ble_eq_true rfl)⟩ ?_
        exact r_ireti dX8_has_143 rfl ⟨_, rfl, Or.inr ⟨⟨h8, h17, h24⟩, hid, by unfold hasS; rw [if_neg h39_0, if_neg h39_1, if_neg h39_2, if_neg h39_3, Int.toNat_natCast]⟩⟩
      · refine r_bipush dX8_has_27 ?_
        exact r_ireti dX8_has_29 rfl ⟨_, rfl, Or.inl ⟨by omega, rfl, rfl⟩⟩
theorem c_allot (hs : Std n ρ) (hJ : JC σ W H P C O) (x1 x2 x3 : Int) (h1 : R32 x1) (h2 : R32 x2) (h3 : R32 x3) : CtI l G 2 mX8_allot n ρ σ [rf G 0, iv x1, iv x2, iv x3] (fun σ' z => (¬ ((0 ≤ x1 ∧ x1 < (P : Int)) ∧ (0 ≤ x2 ∧ x2 < σ 2 2) ∧ 0 ≤ x3 ∧ (1 ≤ x3 / 11 ∧ x3 / 11 ≤ 10) ∧ (1 ≤ x3 % 11 ∧ x3 % 11 ≤ 10)) ∧ z = -3 ∧ σ' = σ) ∨ (((0 ≤ x1 ∧ x1 < (P : Int)) ∧ (0 ≤ x2 ∧ x2 < σ 2 2) ∧ 0 ≤ x3 ∧ (1 ≤ x3 / 11 ∧ x3 / 11 ≤ 10) ∧ (1 ≤ x3 % 11 ∧ x3 % 11 ≤ 10)) ∧ z = 0 ∧ σ' = up σ 36 x1.toNat (256 * x2 + 16 * (x3 / 11) + x3 % 11))) := by
  obtain ⟨hR, j2, j3, j4, j5, j6, j7, j8, j9, j10, j11, j12, j13, j14⟩ := id hJ
  obtain ⟨c1, c2, c3, c4, c5, c6, c7, c8⟩ := id j6
  have hle := j2.le
  have g2 := j2.2.2.1
  have kc := c_isClaimant (l := l) (G := G) hs hR x1 h1
  rw [c1] at kc
  refine Ct.of (L0 := [rf G 0, iv x1, iv x2, iv x3, xx, xx]) (by decide +kernel) (Nat.le_of_ble_eq_true rfl) rfl ?_
  refine r_aloadk_n dX8_allot_0 rfl ?_
  refine r_getr dX8_allot_1 fl_X8_39 rfl rfl (hs.lt rfl) (hs.rf rfl) ?_
  refine r_iload_n dX8_allot_4 rfl ?_
  refine q_callVr dX8_allot_5 (kc) ml_X8_147 okX4_isClaimant rfl rfl (hs.lt rfl) rfl rfl (Nat.le_of_ble_eq_true rfl) (roomOK.of (by decide)) ⟨(Nat.le_of_ble_eq_true rfl), (Nat.le_of_ble_eq_true rfl)⟩ ?_
  refine r_ifeqb (tgt := 26) dX8_allot_8 rfl (fun h8 => ?_) (fun h8 => ?_)
  · refine r_bipush dX8_allot_26 ?_
    exact r_ireti dX8_allot_28 rfl ⟨_, rfl, Or.inl ⟨by omega, rfl, rfl⟩⟩
  · refine r_aloadk_n dX8_allot_11 rfl ?_
    refine r_getr dX8_allot_12 fl_X8_16 rfl rfl (hs.lt rfl) (hs.rf rfl) ?_
    refine r_iload_n dX8_allot_15 rfl ?_
    refine q_callVr dX8_allot_16 (c_isCell hs hR x2 h2) ml_X8_81 okX1_isCell rfl rfl (hs.lt rfl) rfl rfl (Nat.le_of_ble_eq_true rfl) (roomOK.of (by decide)) ⟨(Nat.le_of_ble_eq_true rfl), (Nat.le_of_ble_eq_true rfl)⟩ ?_
    refine r_ifeqb (tgt := 26) dX8_allot_19 rfl (fun h19 => ?_) (fun h19 => ?_)
    · refine r_bipush dX8_allot_26 ?_
      exact r_ireti dX8_allot_28 rfl ⟨_, rfl, Or.inl ⟨by omega, rfl, rfl⟩⟩
    · refine r_iload_n dX8_allot_22 rfl ?_
      refine r_ifge (tgt := 29) dX8_allot_23 rfl (by first | exact hR _ (Nat.le_of_ble_eq_true rfl) _ | omega) (fun h23 => ?_) (fun h23 => ?_)
      · refine r_iload_n dX8_allot_29 rfl ?_
        refine r_bipush dX8_allot_30 ?_
        refine r_idiv dX8_allot_32 (by omega) (by omega) ?_
        refine r_istore dX8_allot_33 (Nat.le_of_ble_eq_true rfl) rfl s4 ?_
        refine r_iload_n dX8_allot_35 rfl ?_
        refine r_bipush dX8_allot_36 ?_
        refine r_irem dX8_allot_38 (by omega) (by omega) ?_
        refine r_istore dX8_allot_39 (Nat.le_of_ble_eq_true rfl) rfl s5 ?_
        refine r_iload dX8_allot_41 rfl ?_
        refine r_iconst dX8_allot_43 ?_
        refine r_bipush dX8_allot_44 ?_
        refine q_callSr dX8_allot_46 (c_isWithin (x3 / 11) 1 10 (by omega) (by omega) (by omega)) ml_X8_65 okX8_isWithin rfl rfl (Nat.le_of_ble_eq_true rfl) (roomOK.of (by decide)) ⟨(Nat.le_of_ble_eq_true rfl), (Nat.le_of_ble_eq_true rfl)⟩ ?_
        refine r_ifeqb (tgt := 63) dX8_allot_49 rfl (fun h49 => ?_) (fun h49 => ?_)
        · refine r_bipush dX8_allot_63 ?_
          exact r_ireti dX8_allot_65 rfl ⟨_, rfl, Or.inl ⟨by omega, rfl, rfl⟩⟩
        · refine r_iload dX8_allot_52 rfl ?_
          refine r_iconst dX8_allot_54 ?_
          refine r_bipush dX8_allot_55 ?_
          refine q_callSr dX8_allot_57 (c_isWithin (x3 % 11) 1 10 (by omega) (by omega) (by omega)) ml_X8_65 okX8_isWithin rfl rfl (Nat.le_of_ble_eq_true rfl) (roomOK.of (by decide)) ⟨(Nat.le_of_ble_eq_true rfl), (Nat.le_of_ble_eq_true rfl)⟩ ?_
          refine r_ifneb (tgt := 66) dX8_allot_60 rfl (fun h60 => ?_) (fun h60 => ?_)
          · obtain ⟨p, rfl⟩ : ∃ a : Nat, x1 = a := ⟨x1.toNat, by omega⟩
            obtain ⟨c, rfl⟩ : ∃ a : Nat, x2 = a := ⟨x2.toNat, by omega⟩
            obtain ⟨w, hw⟩ : ∃ a : Nat, x3 / 11 = a := ⟨(x3 / 11).toNat, by omega⟩
            obtain ⟨h, hh⟩ : ∃ a : Nat, x3 % 11 = a := ⟨(x3 % 11).toNat, by omega⟩
            refine r_aloadk_n dX8_allot_66 rfl ?_
            refine r_getr dX8_allot_67 fl_X8_57 rfl rfl (hs.lt rfl) (hs.rf rfl) ?_
            refine r_getr dX8_allot_70 fl_X8_222 rfl rfl (hs.lt rfl) (hs.rf rfl) ?_
            refine r_iload_n dX8_allot_73 rfl ?_
            refine r_iload_n dX8_allot_74 rfl ?_
            refine r_iload dX8_allot_75 rfl ?_
            refine r_iload dX8_allot_77 rfl ?_
            rw [show iv (x3 / 11) = iv (w : Int) by rw [hw], show iv (x3 % 11) = iv (h : Int) by rw [hh]]
            refine q_callSr dX8_allot_79 (c_shOf c w h (by omega) (by omega) (by omega)) ml_X8_225 okX5_of rfl rfl (Nat.le_of_ble_eq_true rfl) (roomOK.of (by decide)) ⟨(Nat.le_of_ble_eq_true rfl), (Nat.le_of_ble_eq_true rfl)⟩ ?_
            refine r_iast dX8_allot_82 rfl (hs.lt rfl) rfl (by omega) ?_
            refine r_iconst dX8_allot_83 ?_
            exact r_ireti dX8_allot_84 rfl ⟨_, rfl, Or.inr ⟨⟨h8, h19, h23, h49, h60⟩, rfl, by rw [Int.toNat_natCast, show ((256 * c + 16 * w + h : Nat) : Int) = 256 * (c : Int) + 16 * (x3 / 11) + x3 % 11 by rw [hw, hh]; omega]⟩⟩
          · refine r_bipush dX8_allot_63 ?_
            exact r_ireti dX8_allot_65 rfl ⟨_, rfl, Or.inl ⟨by omega, rfl, rfl⟩⟩
      · refine r_bipush dX8_allot_26 ?_
        exact r_ireti dX8_allot_28 rfl ⟨_, rfl, Or.inl ⟨by omega, rfl, rfl⟩⟩
theorem c_take (hs : Std n ρ) (hJ : JC σ W H P C O) (x1 : Int) (h1 : R32 x1) : CtI l G 1 mX8_take n ρ σ [rf G 0, iv x1] (fun σ' z => (¬ (0 ≤ x1 ∧ x1 < (P : Int)) ∧ z = -3 ∧ σ' = σ) ∨ ((0 ≤ x1 ∧ x1 < (P : Int)) ∧ z = bi (¬ σ 36 x1.toNat = -1) ∧ σ' = up σ 36 x1.toNat (-1))) := by
  obtain ⟨hR, j2, j3, j4, j5, j6, j7, j8, j9, j10, j11, j12, j13, j14⟩ := id hJ
  obtain ⟨c1, c2, c3, c4, c5, c6, c7, c8⟩ := id j6
  have kc := c_isClaimant (l := l) (G := G) hs hR x1 h1
  rw [c1] at kc
  refine Ct.of (L0 := [rf G 0, iv x1, xx]) (by decide +kernel) (Nat.le_of_ble_eq_true rfl) rfl ?_
  refine r_aloadk_n dX8_take_0 rfl ?_
  refine r_getr dX8_take_1 fl_X8_39 rfl rfl (hs.lt rfl) (hs.rf rfl) ?_
  refine r_iload_n dX8_take_4 rfl ?_
  refine q_callVr dX8_take_5 (kc) ml_X8_147 okX4_isClaimant rfl rfl (hs.lt rfl) rfl rfl (Nat.le_of_ble_eq_true rfl) (roomOK.of (by decide)) ⟨(Nat.le_of_ble_eq_true rfl), (Nat.le_of_ble_eq_true rfl)⟩ ?_
  refine r_ifneb (tgt := 14) dX8_take_8 rfl (fun h8 => ?_) (fun h8 => ?_)
  · obtain ⟨p, rfl⟩ : ∃ a : Nat, x1 = a := ⟨x1.toNat, by omega⟩
    refine r_aloadk_n dX8_take_14 rfl ?_
    refine r_getr dX8_take_15 fl_X8_57 rfl rfl (hs.lt rfl) (hs.rf rfl) ?_
    refine r_iload_n dX8_take_18 rfl ?_
    refine q_callVr dX8_take_19 (c_isDrawn hs hR p (by omega)) ml_X8_230 okX2_isDrawn rfl rfl (hs.lt rfl) rfl rfl (Nat.le_of_ble_eq_true rfl) (roomOK.of (by decide)) ⟨(Nat.le_of_ble_eq_true rfl), (Nat.le_of_ble_eq_true rfl)⟩ ?_
    refine r_ifeqb (tgt := 29) dX8_take_22 rfl (fun h22 => ?_) (fun h22 => ?_)
    · refine r_iconst dX8_take_29 ?_
      refine r_istore_n dX8_take_30 (Nat.le_of_ble_eq_true rfl) rfl s2 ?_
      refine r_aloadk_n dX8_take_31 rfl ?_
      refine r_getr dX8_take_32 fl_X8_57 rfl rfl (hs.lt rfl) (hs.rf rfl) ?_
      refine r_getr dX8_take_35 fl_X8_222 rfl rfl (hs.lt rfl) (hs.rf rfl) ?_
      refine r_iload_n dX8_take_38 rfl ?_
      refine r_iconst dX8_take_39 ?_
      refine r_iast dX8_take_40 rfl (hs.lt rfl) rfl (by omega) ?_
      refine r_iload_n dX8_take_41 rfl ?_
      exact r_ireti dX8_take_42 rfl ⟨_, rfl, Or.inr ⟨h8, by rw [Int.toNat_natCast]; first | rw [bi_t h22] | rw [bi_f h22], rfl⟩⟩
    · refine r_iconst dX8_take_25 ?_
      refine r_goto (tgt := 30) dX8_take_26 rfl ?_
      refine r_istore_n dX8_take_30 (Nat.le_of_ble_eq_true rfl) rfl s2 ?_
      refine r_aloadk_n dX8_take_31 rfl ?_
      refine r_getr dX8_take_32 fl_X8_57 rfl rfl (hs.lt rfl) (hs.rf rfl) ?_
      refine r_getr dX8_take_35 fl_X8_222 rfl rfl (hs.lt rfl) (hs.rf rfl) ?_
      refine r_iload_n dX8_take_38 rfl ?_
      refine r_iconst dX8_take_39 ?_
      refine r_iast dX8_take_40 rfl (hs.lt rfl) rfl (by omega) ?_
      refine r_iload_n dX8_take_41 rfl ?_
      exact r_ireti dX8_take_42 rfl ⟨_, rfl, Or.inr ⟨h8, by rw [Int.toNat_natCast]; first | rw [bi_t h22] | rw [bi_f h22], rfl⟩⟩
  · refine r_bipush dX8_take_11 ?_
    exact r_ireti dX8_take_13 rfl ⟨_, rfl, Or.inl ⟨h8, rfl, rfl⟩⟩
theorem JC.shape (hJ : JC σ W H P C O) {p : Nat} (hp : p < 8) (h : ¬ σ 36 p = -1) : ∃ s : Nat, σ 36 p = s ∧ s < 65536 ∧ s / 256 < W * H := by
  have := hJ.2.2.2.2.2.2.2.2.2.2.1 p hp
  exact ⟨(σ 36 p).toNat, by omega, by omega, by rcases this with q | q; exact absurd q h; exact q.2.2⟩
theorem c_good (hs : Std n ρ) (hJ : JC σ W H P C O) (x1 x2 : Int) (h1 : R32 x1) (h2 : R32 x2) : CtI l G 6 mX8_good n ρ σ [rf G 0, iv x1, iv x2] (fun σ' z => (¬ ((0 ≤ x1 ∧ x1 < (P : Int)) ∧ (0 ≤ x2 ∧ x2 ≤ 999)) ∧ z = -3 ∧ σ' = σ) ∨ (((0 ≤ x1 ∧ x1 < (P : Int)) ∧ (0 ≤ x2 ∧ x2 ≤ 999)) ∧ σ 36 x1.toNat = -1 ∧ z = -1 ∧ σ' = σ) ∨ (((0 ≤ x1 ∧ x1 < (P : Int)) ∧ (0 ≤ x2 ∧ x2 ≤ 999)) ∧ ¬ σ 36 x1.toNat = -1 ∧ ShrF σ σ' ∧ z = fauS W H (σ 4) (σ 5) (σ 6) (σ 36) (σ 36 x1.toNat).toNat x1.toNat (dueC σ (W * H) P C O x2 (σ 1 0) x1.toNat) (σ 1 4))) := by
  obtain ⟨hR, j2, j3, j4, j5, j6, j7, j8, j9, j10, j11, j12, j13, j14⟩ := id hJ
  obtain ⟨c1, c2, c3, c4, c5, c6, c7, c8⟩ := id j6
  have kc := c_isClaimant (l := l) (G := G) hs hR x1 h1
  rw [c1] at kc
  refine Ct.of (L0 := [rf G 0, iv x1, iv x2, xx]) (by decide +kernel) (Nat.le_of_ble_eq_true rfl) rfl ?_
  refine r_aloadk_n dX8_good_0 rfl ?_
  refine r_getr dX8_good_1 fl_X8_39 rfl rfl (hs.lt rfl) (hs.rf rfl) ?_
  refine r_iload_n dX8_good_4 rfl ?_
  refine q_callVr dX8_good_5 (kc) ml_X8_147 okX4_isClaimant rfl rfl (hs.lt rfl) rfl rfl (Nat.le_of_ble_eq_true rfl) (roomOK.of (by decide)) ⟨(Nat.le_of_ble_eq_true rfl), (Nat.le_of_ble_eq_true rfl)⟩ ?_
  refine r_ifeqb (tgt := 18) dX8_good_8 rfl (fun h8 => ?_) (fun h8 => ?_)
  · refine r_bipush dX8_good_18 ?_
    exact r_ireti dX8_good_20 rfl ⟨_, rfl, Or.inl ⟨by omega, rfl, rfl⟩⟩
  · refine r_iload_n dX8_good_11 rfl ?_
    refine q_callSr dX8_good_12 (c_isDay x2 h2) ml_X8_153 okX8_isDay rfl rfl (Nat.le_of_ble_eq_true rfl) (roomOK.of (by decide)) ⟨(Nat.le_of_ble_eq_true rfl), (Nat.le_of_ble_eq_true rfl)⟩ ?_
    refine r_ifneb (tgt := 21) dX8_good_15 rfl (fun h15 => ?_) (fun h15 => ?_)
    · obtain ⟨p, rfl⟩ : ∃ a : Nat, x1 = a := ⟨x1.toNat, by omega⟩
      have hp8 : p < 8 := by omega
      refine r_aloadk_n dX8_good_21 rfl ?_
      refine r_getr dX8_good_22 fl_X8_57 rfl rfl (hs.lt rfl) (hs.rf rfl) ?_
      refine r_iload_n dX8_good_25 rfl ?_
      refine q_callVr dX8_good_26 (c_isDrawn hs hR p hp8) ml_X8_230 okX2_isDrawn rfl rfl (hs.lt rfl) rfl rfl (Nat.le_of_ble_eq_true rfl) (roomOK.of (by decide)) ⟨(Nat.le_of_ble_eq_true rfl), (Nat.le_of_ble_eq_true rfl)⟩ ?_
      refine r_ifneb (tgt := 34) dX8_good_29 rfl (fun h29 => ?_) (fun h29 => ?_)
      · obtain ⟨s, hs0, hs1, hs2⟩ := hJ.shape hp8 h29
        have hdr := hJ.shr.due_r x2 (σ 1 0) p
        refine r_aloadk_n dX8_good_34 rfl ?_
        refine r_getr dX8_good_35 fl_X8_48 rfl rfl (hs.lt rfl) (hs.rf rfl) ?_
        refine r_iload_n dX8_good_38 rfl ?_
        refine r_iload_n dX8_good_39 rfl ?_
        refine r_aloadk_n dX8_good_40 rfl ?_
        refine r_getr dX8_good_41 fl_X8_7 rfl rfl (hs.lt rfl) (hs.rf rfl) ?_
        refine r_iconst dX8_good_44 ?_
        refine r_iald dX8_good_45 rfl (hs.lt rfl) (c := 0) rfl (Nat.le_of_ble_eq_true rfl) ?_
        refine q_callVi dX8_good_46 (c_dueOf hs hJ.shr p hp8 x2 (σ 1 0) h2 (by omega)) ml_X8_207 okX6_dueOf rfl rfl (hs.lt rfl) rfl rfl (Nat.le_of_ble_eq_true rfl) (roomOK.of (by decide)) ⟨(Nat.le_of_ble_eq_true rfl), (Nat.le_of_ble_eq_true rfl)⟩ (fun σ1 z1 hq1 => ?_)
        obtain ⟨f1, rfl⟩ := hq1
        have e2 := f1.1 2 (by omega)
        have e4 := f1.1 4 (by omega)
        have e5 := f1.1 5 (by omega)
        have e6 := f1.1 6 (by omega)
        have e36 := f1.1 36 (by omega)
        have e1 := f1.1 1 (by omega)
        have kf := c_faultOf (l := l) (G := G) (σ := σ1) hs f1.2.1 (W := W) (H := H) (by unfold Geo; rw [e2, f1.1 7 (by omega), f1.1 8 (by omega)]; exact j2) (by rw [e4]; exact j3) (by rw [e36]; exact j11) p s hp8 (by rw [e36]; exact hs0) hs1 hs2 (dueC σ (W * H) P C O x2 (σ 1 0) p) (σ1 1 4) (by omega) (by rw [e1]; omega)
        rw [e4, e5, e6, e36] at kf
        refine r_istore_n dX8_good_49 (Nat.le_of_ble_eq_true rfl) rfl s3 ?_
        refine r_aloadk_n dX8_good_50 rfl ?_
        refine r_getr dX8_good_51 fl_X8_57 rfl rfl (hs.lt rfl) (hs.rf rfl) ?_
        refine r_iload_n dX8_good_54 rfl ?_
        refine r_iload_n dX8_good_55 rfl ?_
        refine r_aloadk_n dX8_good_56 rfl ?_
        refine r_getr dX8_good_57 fl_X8_7 rfl rfl (hs.lt rfl) (hs.rf rfl) ?_
        refine r_iconst dX8_good_60 ?_
        refine r_iald dX8_good_61 rfl (hs.lt rfl) (c := 4) rfl (Nat.le_of_ble_eq_true rfl) ?_
        refine q_callVr dX8_good_62 (kf) ml_X8_233 okX2_faultOf rfl rfl (hs.lt rfl) rfl rfl (Nat.le_of_ble_eq_true rfl) (roomOK.of (by decide)) ⟨(Nat.le_of_ble_eq_true rfl), (Nat.le_of_ble_eq_true rfl)⟩ ?_
        exact r_ireti dX8_good_65 rfl ⟨_, rfl, Or.inr (Or.inr ⟨⟨h8, h15⟩, by rw [Int.toNat_natCast]; exact h29, f1, by rw [Int.toNat_natCast, hs0, Int.toNat_natCast, e1]⟩)⟩
      · refine r_iconst dX8_good_32 ?_
        exact r_ireti dX8_good_33 rfl ⟨_, rfl, Or.inr (Or.inl ⟨⟨h8, h15⟩, by rw [Int.toNat_natCast]; exact Decidable.not_not.mp h29, rfl, rfl⟩)⟩
    · refine r_bipush dX8_good_18 ?_
      exact r_ireti dX8_good_20 rfl ⟨_, rfl, Or.inl ⟨by omega, rfl, rfl⟩⟩
def plotS (W H : Nat) (so sh hm : Nat → Int) (s p : Nat) (x2 : Int) : Int :=
  if x2 = 0 then (s / 256 : Nat) else if x2 = 1 then (s / 16 % 16 : Nat) else if x2 = 2 then (s % 16 : Nat) else if x2 = 3 then worS W so s (W * H) else if x2 = 4 then stepsS W (hm p).toNat s else sumN (hedC W H sh s p) (W * H)
theorem c_plot (hs : Std n ρ) (hJ : JC σ W H P C O) (x1 x2 : Int) (h1 : R32 x1) (h2 : R32 x2) : RdI l G 4 mX8_plot n ρ σ [rf G 0, iv x1, iv x2] (if (0 ≤ x1 ∧ x1 < (P : Int)) ∧ (0 ≤ x2 ∧ x2 ≤ 5) then (if σ 36 x1.toNat = -1 then -1 else plotS W H (σ 4) (σ 36) (σ 21) (σ 36 x1.toNat).toNat x1.toNat x2) else -3) := by
  obtain ⟨hR, j2, j3, j4, j5, j6, j7, j8, j9, j10, j11, j12, j13, j14⟩ := id hJ
  obtain ⟨c1, c2, c3, c4, c5, c6, c7, c8⟩ := id j6
  have kc := c_isClaimant (l := l) (G := G) hs hR x1 h1
  rw [c1] at kc
  refine Ct.of (L0 := [rf G 0, iv x1, iv x2, xx]) (by decide +kernel) (Nat.le_of_ble_eq_true rfl) rfl ?_
  refine r_aloadk_n dX8_plot_0 rfl ?_
  refine r_getr dX8_plot_1 fl_X8_39 rfl rfl (hs.lt rfl) (hs.rf rfl) ?_
  refine r_iload_n dX8_plot_4 rfl ?_
  refine q_callVr dX8_plot_5 (kc) ml_X8_147 okX4_isClaimant rfl rfl (hs.lt rfl) rfl rfl (Nat.le_of_ble_eq_true rfl) (roomOK.of (by decide)) ⟨(Nat.le_of_ble_eq_true rfl), (Nat.le_of_ble_eq_true rfl)⟩ ?_
  refine r_ifeqb (tgt := 20) dX8_plot_8 rfl (fun h8 => ?_) (fun h8 => ?_)
  · refine r_bipush dX8_plot_20 ?_
    exact r_ireti dX8_plot_22 rfl ⟨_, rfl, rfl, by rw [if_neg (by omega)]⟩
  · refine r_iload_n dX8_plot_11 rfl ?_
    refine r_iconst dX8_plot_12 ?_
    refine r_iconst dX8_plot_13 ?_
    refine q_callSr dX8_plot_14 (c_isWithin x2 0 5 h2 (by omega) (by omega)) ml_X8_65 okX8_isWithin rfl rfl (Nat.le_of_ble_eq_true rfl) (roomOK.of (by decide)) ⟨(Nat.le_of_ble_eq_true rfl), (Nat.le_of_ble_eq_true rfl)⟩ ?_
    refine r_ifneb (tgt := 23) dX8_plot_17 rfl (fun h17 => ?_) (fun h17 => ?_)
    · obtain ⟨p, rfl⟩ : ∃ a : Nat, x1 = a := ⟨x1.toNat, by omega⟩
      have hp8 : p < 8 := by omega
      have hhm := j10 p (by omega)
      obtain ⟨hm, hhm0⟩ : ∃ a : Nat, σ 21 p = a := ⟨(σ 21 p).toNat, by omega⟩
      rw [if_pos ⟨h8, h17⟩, Int.toNat_natCast]
      refine r_aloadk_n dX8_plot_23 rfl ?_
      refine r_getr dX8_plot_24 fl_X8_57 rfl rfl (hs.lt rfl) (hs.rf rfl) ?_
      refine r_iload_n dX8_plot_27 rfl ?_
      refine q_callVr dX8_plot_28 (c_isDrawn hs hR p hp8) ml_X8_230 okX2_isDrawn rfl rfl (hs.lt rfl) rfl rfl (Nat.le_of_ble_eq_true rfl) (roomOK.of (by decide)) ⟨(Nat.le_of_ble_eq_true rfl), (Nat.le_of_ble_eq_true rfl)⟩ ?_
      refine r_ifneb (tgt := 36) dX8_plot_31 rfl (fun h31 => ?_) (fun h31 => ?_)
      · obtain ⟨s, hs0, hs1, hs2⟩ := hJ.shape hp8 h31
        rw [if_neg h31]
        refine r_aloadk_n dX8_plot_36 rfl ?_
        refine r_getr dX8_plot_37 fl_X8_57 rfl rfl (hs.lt rfl) (hs.rf rfl) ?_
        refine r_getr dX8_plot_40 fl_X8_222 rfl rfl (hs.lt rfl) (hs.rf rfl) ?_
        refine r_iload_n dX8_plot_43 rfl ?_
        refine r_iald dX8_plot_44 rfl (hs.lt rfl) rfl (by omega) ?_
        rw [show iv (σ 36 p) = iv (s : Int) by rw [hs0]]
        refine r_istore_n dX8_plot_45 (Nat.le_of_ble_eq_true rfl) rfl s3 ?_
        refine r_iload_n dX8_plot_46 rfl ?_
        by_cases h47_0 : x2 = 0
        · refine r_tabAt (c := 0) (tgt := 80) dX8_plot_47 (by first | exact hR _ (Nat.le_of_ble_eq_true rfl) _ | omega) h47_0 (by decide) (by decide) rfl rfl ?_
          refine r_iload_n dX8_plot_80 rfl ?_
          refine q_callSr dX8_plot_81 (c_shFirst s hs1) ml_X8_236 okX5_firstOf rfl rfl (Nat.le_of_ble_eq_true rfl) (roomOK.of (by decide)) ⟨(Nat.le_of_ble_eq_true rfl), (Nat.le_of_ble_eq_true rfl)⟩ ?_
          exact r_ireti dX8_plot_84 rfl ⟨_, rfl, rfl, by unfold plotS; rw [if_pos h47_0, hs0, Int.toNat_natCast]⟩
        by_cases h47_1 : x2 = 1
        · refine r_tabAt (c := 1) (tgt := 85) dX8_plot_47 (by first | exact hR _ (Nat.le_of_ble_eq_true rfl) _ | omega) h47_1 (by decide) (by decide) rfl rfl ?_
          refine r_iload_n dX8_plot_85 rfl ?_
          refine q_callSr dX8_plot_86 (c_shWide s hs1) ml_X8_239 okX5_wideOf rfl rfl (Nat.le_of_ble_eq_true rfl) (roomOK.of (by decide)) ⟨(Nat.le_of_ble_eq_true rfl), (Nat.le_of_ble_eq_true rfl)⟩ ?_
          exact r_ireti dX8_plot_89 rfl ⟨_, rfl, rfl, by unfold plotS; rw [if_neg h47_0, if_pos h47_1, hs0, Int.toNat_natCast]⟩
        by_cases h47_2 : x2 = 2
        · refine r_tabAt (c := 2) (tgt := 90) dX8_plot_47 (by first | exact hR _ (Nat.le_of_ble_eq_true rfl) _ | omega) h47_2 (by decide) (by decide) rfl rfl ?_
          refine r_iload_n dX8_plot_90 rfl ?_
          refine q_callSr dX8_plot_91 (c_shHigh s hs1) ml_X8_242 okX5_highOf rfl rfl (Nat.le_of_ble_eq_true rfl) (roomOK.of (by decide)) ⟨(Nat.le_of_ble_eq_true rfl), (Nat.le_of_ble_eq_true rfl)⟩ ?_
          exact r_ireti dX8_plot_94 rfl ⟨_, rfl, rfl, by unfold plotS; rw [if_neg h47_0, if_neg h47_1, if_pos h47_2, hs0, Int.toNat_natCast]⟩
        by_cases h47_3 : x2 = 3
        · refine r_tabAt (c := 3) (tgt := 95) dX8_plot_47 (by first | exact hR _ (Nat.le_of_ble_eq_true rfl) _ | omega) h47_3 (by decide) (by decide) rfl rfl ?_
          refine r_aloadk_n dX8_plot_95 rfl ?_
          refine r_getr dX8_plot_96 fl_X8_57 rfl rfl (hs.lt rfl) (hs.rf rfl) ?_
          refine r_iload_n dX8_plot_99 rfl ?_
          refine q_callVr dX8_plot_100 (c_worthOf hs hR j2 j3 p s hp8 hs0 hs1 hs2) ml_X8_245 okX2_worthOf rfl rfl (hs.lt rfl) rfl rfl (Nat.le_of_ble_eq_true rfl) (roomOK.of (by decide)) ⟨(Nat.le_of_ble_eq_true rfl), (Nat.le_of_ble_eq_true rfl)⟩ ?_
          exact r_ireti dX8_plot_103 rfl ⟨_, rfl, rfl, by unfold plotS; rw [if_neg h47_0, if_neg h47_1, if_neg h47_2, if_pos h47_3, hs0, Int.toNat_natCast]⟩
        by_cases h47_4 : x2 = 4
        · refine r_tabAt (c := 4) (tgt := 104) dX8_plot_47 (by first | exact hR _ (Nat.le_of_ble_eq_true rfl) _ | omega) h47_4 (by decide) (by decide) rfl rfl ?_
          refine r_aloadk_n dX8_plot_104 rfl ?_
          refine r_getr dX8_plot_105 fl_X8_16 rfl rfl (hs.lt rfl) (hs.rf rfl) ?_
          refine r_aloadk_n dX8_plot_108 rfl ?_
          refine r_getr dX8_plot_109 fl_X8_39 rfl rfl (hs.lt rfl) (hs.rf rfl) ?_
          refine r_getr dX8_plot_112 fl_X8_248 rfl rfl (hs.lt rfl) (hs.rf rfl) ?_
          refine r_iload_n dX8_plot_115 rfl ?_
          refine r_iald dX8_plot_116 rfl (hs.lt rfl) rfl (by omega) ?_
          rw [show iv (σ 21 p) = iv (hm : Int) by rw [hhm0]]
          refine r_iload_n dX8_plot_117 rfl ?_
          refine q_callVr dX8_plot_118 (c_stepsTo hs hR j2 hm s (by omega) hs1 hs2) ml_X8_251 okX1_stepsTo rfl rfl (hs.lt rfl) rfl rfl (Nat.le_of_ble_eq_true rfl) (roomOK.of (by decide)) ⟨(Nat.le_of_ble_eq_true rfl), (Nat.le_of_ble_eq_true rfl)⟩ ?_
          exact r_ireti dX8_plot_121 rfl ⟨_, rfl, rfl, by unfold plotS; rw [if_neg h47_0, if_neg h47_1, if_neg h47_2, if_neg h47_3, if_pos h47_4, hs0, Int.toNat_natCast, hhm0, Int.toNat_natCast]⟩
        refine r_tabOut (tgt := 122) dX8_plot_47 (by first | exact hR _ (Nat.le_of_ble_eq_true rfl) _ | omega) (by omega) rfl ?_
        refine r_aloadk_n dX8_plot_122 rfl ?_
        refine r_getr dX8_plot_123 fl_X8_57 rfl rfl (hs.lt rfl) (hs.rf rfl) ?_
        refine r_iload_n dX8_plot_126 rfl ?_
        refine q_callVr dX8_plot_127 (c_hedgeOf hs hR j2 j11 p s hp8 hs0 hs1 hs2) ml_X8_254 okX2_hedgeOf rfl rfl (hs.lt rfl) rfl rfl (Nat.le_of_ble_eq_true rfl) (roomOK.of (by decide)) ⟨(Nat.le_of_ble_eq_true rfl), (Nat.le_of_ble_eq_true rfl)⟩ ?_
        exact r_ireti dX8_plot_130 rfl ⟨_, rfl, rfl, by unfold plotS; rw [if_neg h47_0, if_neg h47_1, if_neg h47_2, if_neg h47_3, if_neg h47_4, hs0, Int.toNat_natCast]⟩
      · refine r_iconst dX8_plot_34 ?_
        exact r_ireti dX8_plot_35 rfl ⟨_, rfl, rfl, by rw [if_pos (Decidable.not_not.mp h31)]⟩
    · refine r_bipush dX8_plot_20 ?_
      exact r_ireti dX8_plot_22 rfl ⟨_, rfl, rfl, by rw [if_neg (by omega)]⟩
theorem c_hedge (hs : Std n ρ) (hJ : JC σ W H P C O) (x1 x2 : Int) (h1 : R32 x1) (h2 : R32 x2) : CtI l G 1 mX8_hedge n ρ σ [rf G 0, iv x1, iv x2] (fun σ' z => (¬ ((0 ≤ x1 ∧ x1 < (P : Int)) ∧ (-1 ≤ x2 ∧ x2 ≤ 999)) ∧ z = -3 ∧ σ' = σ) ∨ (((0 ≤ x1 ∧ x1 < (P : Int)) ∧ (-1 ≤ x2 ∧ x2 ≤ 999)) ∧ z = σ 37 x1.toNat ∧ σ' = up σ 37 x1.toNat x2)) := by
  obtain ⟨hR, j2, j3, j4, j5, j6, j7, j8, j9, j10, j11, j12, j13, j14⟩ := id hJ
  obtain ⟨c1, c2, c3, c4, c5, c6, c7, c8⟩ := id j6
  have kc := c_isClaimant (l := l) (G := G) hs hR x1 h1
  rw [c1] at kc
  refine Ct.of (L0 := [rf G 0, iv x1, iv x2, xx]) (by decide +kernel) (Nat.le_of_ble_eq_true rfl) rfl ?_
  refine r_aloadk_n dX8_hedge_0 rfl ?_
  refine r_getr dX8_hedge_1 fl_X8_39 rfl rfl (hs.lt rfl) (hs.rf rfl) ?_
  refine r_iload_n dX8_hedge_4 rfl ?_
  refine q_callVr dX8_hedge_5 (kc) ml_X8_147 okX4_isClaimant rfl rfl (hs.lt rfl) rfl rfl (Nat.le_of_ble_eq_true rfl) (roomOK.of (by decide)) ⟨(Nat.le_of_ble_eq_true rfl), (Nat.le_of_ble_eq_true rfl)⟩ ?_
  refine r_ifeqb (tgt := 22) dX8_hedge_8 rfl (fun h8 => ?_) (fun h8 => ?_)
  · refine r_bipush dX8_hedge_22 ?_
    exact r_ireti dX8_hedge_24 rfl ⟨_, rfl, Or.inl ⟨by omega, rfl, rfl⟩⟩
  · refine r_iload_n dX8_hedge_11 rfl ?_
    refine r_iconst dX8_hedge_12 ?_
    refine r_sipush dX8_hedge_13 ?_
    refine q_callSr dX8_hedge_16 (c_isWithin x2 (-1) 999 h2 (by omega) (by omega)) ml_X8_65 okX8_isWithin rfl rfl (Nat.le_of_ble_eq_true rfl) (roomOK.of (by decide)) ⟨(Nat.le_of_ble_eq_true rfl), (Nat.le_of_ble_eq_true rfl)⟩ ?_
    refine r_ifneb (tgt := 25) dX8_hedge_19 rfl (fun h19 => ?_) (fun h19 => ?_)
    · obtain ⟨p, rfl⟩ : ∃ a : Nat, x1 = a := ⟨x1.toNat, by omega⟩
      refine r_aloadk_n dX8_hedge_25 rfl ?_
      refine r_getr dX8_hedge_26 fl_X8_57 rfl rfl (hs.lt rfl) (hs.rf rfl) ?_
      refine r_getr dX8_hedge_29 fl_X8_272 rfl rfl (hs.lt rfl) (hs.rf rfl) ?_
      refine r_iload_n dX8_hedge_32 rfl ?_
      refine r_iald dX8_hedge_33 rfl (hs.lt rfl) rfl (by omega) ?_
      refine r_istore_n dX8_hedge_34 (Nat.le_of_ble_eq_true rfl) rfl s3 ?_
      refine r_aloadk_n dX8_hedge_35 rfl ?_
      refine r_getr dX8_hedge_36 fl_X8_57 rfl rfl (hs.lt rfl) (hs.rf rfl) ?_
      refine r_getr dX8_hedge_39 fl_X8_272 rfl rfl (hs.lt rfl) (hs.rf rfl) ?_
      refine r_iload_n dX8_hedge_42 rfl ?_
      refine r_iload_n dX8_hedge_43 rfl ?_
      refine r_iast dX8_hedge_44 rfl (hs.lt rfl) rfl (by omega) ?_
      refine r_iload_n dX8_hedge_45 rfl ?_
      exact r_ireti dX8_hedge_46 rfl ⟨_, rfl, Or.inr ⟨⟨h8, h19⟩, rfl, rfl⟩⟩
    · refine r_bipush dX8_hedge_22 ?_
      exact r_ireti dX8_hedge_24 rfl ⟨_, rfl, Or.inl ⟨by omega, rfl, rfl⟩⟩
theorem hed_r {W H : Nat} {sh : Nat → Int} {s p N : Nat} : 0 ≤ sumN (hedC W H sh s p) N ∧ sumN (hedC W H sh s p) N ≤ 4 * N := by
  have h : ∀ c, 0 ≤ hedC W H sh s p c ∧ hedC W H sh s p c ≤ 4 := fun c => by
    have := sumN_r (f := hedF W H sh s p c) (a := 0) (b := 1) 4 (fun i _ => by unfold hedF; have := bi_01 (¬ nb W H c i = -1 ∧ ¬ inS W s (nb W H c i).toNat ∧ anyN (aheadF W sh (nb W H c i).toNat) p = false); omega)
    unfold hedC
    split <;> omega
  have := sumN_r (f := hedC W H sh s p) (a := 0) (b := 4) N (fun i _ => h i)
  omega
theorem c_fine (hs : Std n ρ) (hJ : JC σ W H P C O) (x1 x2 : Int) (h1 : R32 x1) (h2 : R32 x2) : RdI l G 4 mX8_fine n ρ σ [rf G 0, iv x1, iv x2] (if (0 ≤ x1 ∧ x1 < (P : Int)) ∧ (0 ≤ x2 ∧ x2 ≤ 999) then (if σ 36 x1.toNat = -1 then 0 else sumN (hedC W H (σ 36) (σ 36 x1.toNat).toNat x1.toNat) (W * H) * max 0 ((if σ 37 x1.toNat = -1 then x2 else min (σ 37 x1.toNat) x2) - σ 1 1)) else -3) := by
  obtain ⟨hR, j2, j3, j4, j5, j6, j7, j8, j9, j10, j11, j12, j13, j14⟩ := id hJ
  obtain ⟨c1, c2, c3, c4, c5, c6, c7, c8⟩ := id j6
  have kc := c_isClaimant (l := l) (G := G) hs hR x1 h1
  rw [c1] at kc
  refine Ct.of (L0 := [rf G 0, iv x1, iv x2, xx, xx]) (by decide +kernel) (Nat.le_of_ble_eq_true rfl) rfl ?_
  refine r_aloadk_n dX8_fine_0 rfl ?_
  refine r_getr dX8_fine_1 fl_X8_39 rfl rfl (hs.lt rfl) (hs.rf rfl) ?_
  refine r_iload_n dX8_fine_4 rfl ?_
  refine q_callVr dX8_fine_5 (kc) ml_X8_147 okX4_isClaimant rfl rfl (hs.lt rfl) rfl rfl (Nat.le_of_ble_eq_true rfl) (roomOK.of (by decide)) ⟨(Nat.le_of_ble_eq_true rfl), (Nat.le_of_ble_eq_true rfl)⟩ ?_
  refine r_ifeqb (tgt := 18) dX8_fine_8 rfl (fun h8 => ?_) (fun h8 => ?_)
  · refine r_bipush dX8_fine_18 ?_
    exact r_ireti dX8_fine_20 rfl ⟨_, rfl, rfl, by rw [if_neg (by omega)]⟩
  · refine r_iload_n dX8_fine_11 rfl ?_
    refine q_callSr dX8_fine_12 (c_isDay x2 h2) ml_X8_153 okX8_isDay rfl rfl (Nat.le_of_ble_eq_true rfl) (roomOK.of (by decide)) ⟨(Nat.le_of_ble_eq_true rfl), (Nat.le_of_ble_eq_true rfl)⟩ ?_
    refine r_ifneb (tgt := 21) dX8_fine_15 rfl (fun h15 => ?_) (fun h15 => ?_)
    · obtain ⟨p, rfl⟩ : ∃ a : Nat, x1 = a := ⟨x1.toNat, by omega⟩
      have hp8 : p < 8 := by omega
      have hhd := j14 p hp8
      rw [if_pos ⟨h8, h15⟩, Int.toNat_natCast]
      refine r_aloadk_n dX8_fine_21 rfl ?_
      refine r_getr dX8_fine_22 fl_X8_57 rfl rfl (hs.lt rfl) (hs.rf rfl) ?_
      refine r_iload_n dX8_fine_25 rfl ?_
      refine q_callVr dX8_fine_26 (c_isDrawn hs hR p hp8) ml_X8_230 okX2_isDrawn rfl rfl (hs.lt rfl) rfl rfl (Nat.le_of_ble_eq_true rfl) (roomOK.of (by decide)) ⟨(Nat.le_of_ble_eq_true rfl), (Nat.le_of_ble_eq_true rfl)⟩ ?_
      refine r_ifneb (tgt := 34) dX8_fine_29 rfl (fun h29 => ?_) (fun h29 => ?_)
      · obtain ⟨s, hs0, hs1, hs2⟩ := hJ.shape hp8 h29
        rw [if_neg h29]
        refine r_aloadk_n dX8_fine_34 rfl ?_
        refine r_getr dX8_fine_35 fl_X8_57 rfl rfl (hs.lt rfl) (hs.rf rfl) ?_
        refine r_getr dX8_fine_38 fl_X8_272 rfl rfl (hs.lt rfl) (hs.rf rfl) ?_
        refine r_iload_n dX8_fine_41 rfl ?_
        refine r_iald dX8_fine_42 rfl (hs.lt rfl) rfl (by omega) ?_
        refine r_istore_n dX8_fine_43 (Nat.le_of_ble_eq_true rfl) rfl s3 ?_
        refine r_iload_n dX8_fine_44 rfl ?_
        refine r_iconst dX8_fine_45 ?_
        refine r_icmpne (tgt := 53) dX8_fine_46 rfl (by first | exact hR _ (Nat.le_of_ble_eq_true rfl) _ | omega) (by first | exact hR _ (Nat.le_of_ble_eq_true rfl) _ | omega) (fun h46 => ?_) (fun h46 => ?_)
        · refine r_iload_n dX8_fine_53 rfl ?_
          refine r_iload_n dX8_fine_54 rfl ?_
          refine r_mmin dX8_fine_55 ml_X8_127 (by omega) (by omega) (Nat.le_of_ble_eq_true rfl) (Nat.le_of_ble_eq_true rfl) ⟨(Nat.le_of_ble_eq_true rfl), (Nat.le_of_ble_eq_true rfl)⟩ ?_
          refine r_istore dX8_fine_58 (Nat.le_of_ble_eq_true rfl) rfl s4 ?_
          refine r_aloadk_n dX8_fine_60 rfl ?_
          refine r_getr dX8_fine_61 fl_X8_57 rfl rfl (hs.lt rfl) (hs.rf rfl) ?_
          refine r_iload_n dX8_fine_64 rfl ?_
          refine q_callVr dX8_fine_65 (c_hedgeOf hs hR j2 j11 p s hp8 hs0 hs1 hs2) ml_X8_254 okX2_hedgeOf rfl rfl (hs.lt rfl) rfl rfl (Nat.le_of_ble_eq_true rfl) (roomOK.of (by decide)) ⟨(Nat.le_of_ble_eq_true rfl), (Nat.le_of_ble_eq_true rfl)⟩ ?_
          refine r_iconst dX8_fine_68 ?_
          refine r_iload dX8_fine_69 rfl ?_
          refine r_aloadk_n dX8_fine_71 rfl ?_
          refine r_getr dX8_fine_72 fl_X8_7 rfl rfl (hs.lt rfl) (hs.rf rfl) ?_
          refine r_iconst dX8_fine_75 ?_
          refine r_iald dX8_fine_76 rfl (hs.lt rfl) (c := 1) rfl (Nat.le_of_ble_eq_true rfl) ?_
          refine r_isub dX8_fine_77 ?_
          refine r_mmax dX8_fine_78 ml_X8_275 (by omega) (by omega) (Nat.le_of_ble_eq_true rfl) (Nat.le_of_ble_eq_true rfl) ⟨(Nat.le_of_ble_eq_true rfl), (Nat.le_of_ble_eq_true rfl)⟩ ?_
          refine r_imul dX8_fine_81 ?_
          exact r_ireti dX8_fine_82 rfl ⟨_, rfl, rfl, by rw [hs0, Int.toNat_natCast]; first | rw [if_pos h46] | rw [if_neg h46]⟩
        · refine r_iload_n dX8_fine_49 rfl ?_
          refine r_goto (tgt := 58) dX8_fine_50 rfl ?_
          refine r_istore dX8_fine_58 (Nat.le_of_ble_eq_true rfl) rfl s4 ?_
          refine r_aloadk_n dX8_fine_60 rfl ?_
          refine r_getr dX8_fine_61 fl_X8_57 rfl rfl (hs.lt rfl) (hs.rf rfl) ?_
          refine r_iload_n dX8_fine_64 rfl ?_
          refine q_callVr dX8_fine_65 (c_hedgeOf hs hR j2 j11 p s hp8 hs0 hs1 hs2) ml_X8_254 okX2_hedgeOf rfl rfl (hs.lt rfl) rfl rfl (Nat.le_of_ble_eq_true rfl) (roomOK.of (by decide)) ⟨(Nat.le_of_ble_eq_true rfl), (Nat.le_of_ble_eq_true rfl)⟩ ?_
          refine r_iconst dX8_fine_68 ?_
          refine r_iload dX8_fine_69 rfl ?_
          refine r_aloadk_n dX8_fine_71 rfl ?_
          refine r_getr dX8_fine_72 fl_X8_7 rfl rfl (hs.lt rfl) (hs.rf rfl) ?_
          refine r_iconst dX8_fine_75 ?_
          refine r_iald dX8_fine_76 rfl (hs.lt rfl) (c := 1) rfl (Nat.le_of_ble_eq_true rfl) ?_
          refine r_isub dX8_fine_77 ?_
          refine r_mmax dX8_fine_78 ml_X8_275 (by omega) (by omega) (Nat.le_of_ble_eq_true rfl) (Nat.le_of_ble_eq_true rfl) ⟨(Nat.le_of_ble_eq_true rfl), (Nat.le_of_ble_eq_true rfl)⟩ ?_
          refine r_imul dX8_fine_81 ?_
          exact r_ireti dX8_fine_82 rfl ⟨_, rfl, rfl, by rw [hs0, Int.toNat_natCast]; first | rw [if_pos h46] | rw [if_neg h46]⟩
      · refine r_iconst dX8_fine_32 ?_
        exact r_ireti dX8_fine_33 rfl ⟨_, rfl, rfl, by rw [if_pos (Decidable.not_not.mp h29)]⟩
    · refine r_bipush dX8_fine_18 ?_
      exact r_ireti dX8_fine_20 rfl ⟨_, rfl, rfl, by rw [if_neg (by omega)]⟩
def countS (rd sh ln dy : Nat → Int) (N P C O : Nat) (x1 closing : Int) : Int :=
  if x1 = 0 then P else if x1 = 1 then C else if x1 = 2 then sumN (fun i => bi (closing < dy i)) C else if x1 = 3 then O else if x1 = 4 then sumN (fun p => bi (¬ sh p = -1)) P else if x1 = 5 then sumN rd N else if x1 = 6 then sumN (fun s => bi (¬ ln s = -1)) 3 else -3
theorem c_count (hs : Std n ρ) (hJ : JC σ W H P C O) (x1 : Int) (h1 : R32 x1) : RdI l G 2 mX8_count n ρ σ [rf G 0, iv x1] (countS (σ 6) (σ 36) (σ 18) (σ 25) (W * H) P C O x1 (σ 1 0)) := by
  obtain ⟨hR, j2, j3, j4, j5, j6, j7, j8, j9, j10, j11, j12, j13, j14⟩ := id hJ
  obtain ⟨c1, c2, c3, c4, c5, c6, c7, c8⟩ := id j6
  refine Ct.of (L0 := [rf G 0, iv x1]) (by decide +kernel) (Nat.le_of_ble_eq_true rfl) rfl ?_
  refine r_iload_n dX8_count_0 rfl ?_
  by_cases h1_0 : x1 = 0
  · refine r_tabAt (c := 0) (tgt := 44) dX8_count_1 (by first | exact hR _ (Nat.le_of_ble_eq_true rfl) _ | omega) h1_0 (by decide) (by decide) rfl rfl ?_
    refine r_aloadk_n dX8_count_44 rfl ?_
    refine r_getr dX8_count_45 fl_X8_39 rfl rfl (hs.lt rfl) (hs.rf rfl) ?_
    refine r_geti dX8_count_48 fl_X8_141 rfl rfl (hs.lt rfl) ?_
    exact r_ireti dX8_count_51 rfl ⟨_, rfl, rfl, by unfold countS; rw [if_pos h1_0, c1]⟩
  by_cases h1_1 : x1 = 1
  · refine r_tabAt (c := 1) (tgt := 52) dX8_count_1 (by first | exact hR _ (Nat.le_of_ble_eq_true rfl) _ | omega) h1_1 (by decide) (by decide) rfl rfl ?_
    refine r_aloadk_n dX8_count_52 rfl ?_
    refine r_getr dX8_count_53 fl_X8_39 rfl rfl (hs.lt rfl) (hs.rf rfl) ?_
    refine r_geti dX8_count_56 fl_X8_156 rfl rfl (hs.lt rfl) ?_
    exact r_ireti dX8_count_59 rfl ⟨_, rfl, rfl, by unfold countS; rw [if_neg h1_0, if_pos h1_1, c3]⟩
  by_cases h1_2 : x1 = 2
  · refine r_tabAt (c := 2) (tgt := 60) dX8_count_1 (by first | exact hR _ (Nat.le_of_ble_eq_true rfl) _ | omega) h1_2 (by decide) (by decide) rfl rfl ?_
    refine r_aloadk_n dX8_count_60 rfl ?_
    refine r_getr dX8_count_61 fl_X8_39 rfl rfl (hs.lt rfl) (hs.rf rfl) ?_
    refine r_aloadk_n dX8_count_64 rfl ?_
    refine r_getr dX8_count_65 fl_X8_7 rfl rfl (hs.lt rfl) (hs.rf rfl) ?_
    refine r_iconst dX8_count_68 ?_
    refine r_iald dX8_count_69 rfl (hs.lt rfl) (c := 0) rfl (Nat.le_of_ble_eq_true rfl) ?_
    refine q_callVr dX8_count_70 (c_lateClaims hs hR C c3 c4 (σ 1 0) (by omega)) ml_X8_278 okX4_lateClaims rfl rfl (hs.lt rfl) rfl rfl (Nat.le_of_ble_eq_true rfl) (roomOK.of (by decide)) ⟨(Nat.le_of_ble_eq_true rfl), (Nat.le_of_ble_eq_true rfl)⟩ ?_
    exact r_ireti dX8_count_73 rfl ⟨_, rfl, rfl, by unfold countS; rw [if_neg h1_0, if_neg h1_1, if_pos h1_2]⟩
  by_cases h1_3 : x1 = 3
  · refine r_tabAt (c := 3) (tgt := 74) dX8_count_1 (by first | exact hR _ (Nat.le_of_ble_eq_true rfl) _ | omega) h1_3 (by decide) (by decide) rfl rfl ?_
    refine r_aloadk_n dX8_count_74 rfl ?_
    refine r_getr dX8_count_75 fl_X8_39 rfl rfl (hs.lt rfl) (hs.rf rfl) ?_
    refine r_geti dX8_count_78 fl_X8_166 rfl rfl (hs.lt rfl) ?_
    exact r_ireti dX8_count_81 rfl ⟨_, rfl, rfl, by unfold countS; rw [if_neg h1_0, if_neg h1_1, if_neg h1_2, if_pos h1_3, c5]⟩
  by_cases h1_4 : x1 = 4
  · refine r_tabAt (c := 4) (tgt := 82) dX8_count_1 (by first | exact hR _ (Nat.le_of_ble_eq_true rfl) _ | omega) h1_4 (by decide) (by decide) rfl rfl ?_
    refine r_aloadk_n dX8_count_82 rfl ?_
    refine r_getr dX8_count_83 fl_X8_57 rfl rfl (hs.lt rfl) (hs.rf rfl) ?_
    refine q_callVr dX8_count_86 (c_drawnPlots hs hR P c1 c2) ml_X8_281 okX2_drawnPlots rfl rfl (hs.lt rfl) rfl rfl (Nat.le_of_ble_eq_true rfl) (roomOK.of (by decide)) ⟨(Nat.le_of_ble_eq_true rfl), (Nat.le_of_ble_eq_true rfl)⟩ ?_
    exact r_ireti dX8_count_89 rfl ⟨_, rfl, rfl, by unfold countS; rw [if_neg h1_0, if_neg h1_1, if_neg h1_2, if_neg h1_3, if_pos h1_4]⟩
  by_cases h1_5 : x1 = 5
  · refine r_tabAt (c := 5) (tgt := 90) dX8_count_1 (by first | exact hR _ (Nat.le_of_ble_eq_true rfl) _ | omega) h1_5 (by decide) (by decide) rfl rfl ?_
    refine r_aloadk_n dX8_count_90 rfl ?_
    refine r_getr dX8_count_91 fl_X8_16 rfl rfl (hs.lt rfl) (hs.rf rfl) ?_
    refine q_callVr dX8_count_94 (c_roadCells hs hR j2 j5) ml_X8_284 okX1_roadCells rfl rfl (hs.lt rfl) rfl rfl (Nat.le_of_ble_eq_true rfl) (roomOK.of (by decide)) ⟨(Nat.le_of_ble_eq_true rfl), (Nat.le_of_ble_eq_true rfl)⟩ ?_
    exact r_ireti dX8_count_97 rfl ⟨_, rfl, rfl, by unfold countS; rw [if_neg h1_0, if_neg h1_1, if_neg h1_2, if_neg h1_3, if_neg h1_4, if_pos h1_5]⟩
  by_cases h1_6 : x1 = 6
  · refine r_tabAt (c := 6) (tgt := 98) dX8_count_1 (by first | exact hR _ (Nat.le_of_ble_eq_true rfl) _ | omega) h1_6 (by decide) (by decide) rfl rfl ?_
    refine r_aloadk_n dX8_count_98 rfl ?_
    refine r_getr dX8_count_99 fl_X8_32 rfl rfl (hs.lt rfl) (hs.rf rfl) ?_
    refine q_callVr dX8_count_102 (c_present hs hR) ml_X8_287 okX7_present rfl rfl (hs.lt rfl) rfl rfl (Nat.le_of_ble_eq_true rfl) (roomOK.of (by decide)) ⟨(Nat.le_of_ble_eq_true rfl), (Nat.le_of_ble_eq_true rfl)⟩ ?_
    exact r_ireti dX8_count_105 rfl ⟨_, rfl, rfl, by unfold countS; rw [if_neg h1_0, if_neg h1_1, if_neg h1_2, if_neg h1_3, if_neg h1_4, if_neg h1_5, if_pos h1_6]⟩
  refine r_tabOut (tgt := 106) dX8_count_1 (by first | exact hR _ (Nat.le_of_ble_eq_true rfl) _ | omega) (by omega) rfl ?_
  refine r_bipush dX8_count_106 ?_
  exact r_ireti dX8_count_108 rfl ⟨_, rfl, rfl, by unfold countS; rw [if_neg h1_0, if_neg h1_1, if_neg h1_2, if_neg h1_3, if_neg h1_4, if_neg h1_5, if_neg h1_6]⟩
end Public2
