/-! CLASS: renew, clear, land -/
def filW (w : Nat → Int) (N : Nat) (z : Int) : Nat → Int := fun b => if b < N then z else w b
theorem filR_fil {σ : Si} {k N : Nat} {z : Int} : filR σ k N z = sr σ k (filW (σ k) N z) := filR_sr
theorem filW_R {w : Nat → Int} {N : Nat} {z : Int} (hw : ∀ j, R32 (w j)) (hz : R32 z) : ∀ j, R32 (filW w N z j) := by
  intro j
  unfold filW
  split
  · exact hz
  · exact hw j
theorem ud_R {w : Nat → Int} {j : Nat} {z : Int} (hw : ∀ j, R32 (w j)) (hz : R32 z) : ∀ b, R32 (ud w j z b) := by
  intro b
  unfold ud
  split
  · exact hz
  · exact hw b
/-- a new land: every cell as at first -/
def landS (σ : Si) (W H : Nat) (c7 c8 : Nat → Int) : Si := sr (sr (sr (sr (sr (sr σ 2 (ud (ud (ud (ud (σ 2) 0 W) 1 H) 2 (W * H : Nat)) 3 0)) 4 (filW (σ 4) 80 1)) 5 (filW (σ 5) 80 0)) 6 (filW (σ 6) 80 0)) 7 c7) 8 c8
section Land
variable {l : Launch} {G : GG} {n : Nat} {ρ : Rho} {σ : Si}
theorem c_renew (hs : ∀ k j r, sref k j = some r → (1 < k ∧ k < 9) → ρ k j = some r) (hn : 9 ≤ n) (hR : Rg σ) (W H : Nat) (hW : 2 ≤ W ∧ W ≤ 10) (hH : 2 ≤ H ∧ H ≤ 8) : CtV l G 1 mX1_renew n ρ σ [rf G 2, iv W, iv H] (fun σ' => ∃ c7 c8 : Nat → Int, (∀ j, R32 (c7 j)) ∧ (∀ j, R32 (c8 j)) ∧ (∀ c, c < W * H → c7 c = (c % W : Nat) ∧ c8 c = (c / W : Nat)) ∧ σ' = landS σ W H c7 c8) := by
  have hle := WH_le hW.2 hH.2
  unfold landS
  generalize hT : sr (sr (sr (sr σ 2 (ud (ud (ud (ud (σ 2) 0 W) 1 H) 2 (W * H : Nat)) 3 0)) 4 (filW (σ 4) 80 1)) 5 (filW (σ 5) 80 0)) 6 (filW (σ 6) 80 0) = T
  have outer : ∀ (m r : Nat) (c7 c8 : Nat → Int) (x5 : Value), r + m = H → (∀ j, R32 (c7 j)) → (∀ j, R32 (c8 j)) → (∀ c, c < r * W → c7 c = (c % W : Nat) ∧ c8 c = (c / W : Nat)) → isJ x5 = false → RW (KV l G 1 mX1_renew n ρ (fun σ' => ∃ c7 c8 : Nat → Int, (∀ j, R32 (c7 j)) ∧ (∀ j, R32 (c8 j)) ∧ (∀ c, c < W * H → c7 c = (c % W : Nat) ∧ c8 c = (c / W : Nat)) ∧ σ' = sr (sr T 7 c7) 8 c8)) (0, 0, n, ρ) (sr (sr T 7 c7) 8 c8) 57 [rf G 2, iv W, iv H, iv (r * W : Nat), iv r, x5] [] := by
    intro m
    induction m with
    | zero =>
      intro r c7 c8 x5 hr h7 h8 hI hx
      have e : r = H := by omega
      subst e
      refine r_iload dX1_renew_57 rfl ?_
      refine r_iload_n dX1_renew_59 rfl ?_
      refine r_icmpge (tgt := 103) dX1_renew_60 rfl (by omega) (by omega) (fun h60 => ?_) (fun h60 => ?_)
      · exact r_vret dX1_renew_103 rfl ⟨rfl, c7, c8, h7, h8, fun c hc => hI c (by rw [Nat.mul_comm]; exact hc), rfl⟩
      · omega
    | succ m ih =>
      intro r c7 c8 x5 hr h7 h8 hI hx
      have hrW : (r + 1) * W ≤ H * W := Nat.mul_le_mul_right W (by omega)
      rw [Nat.mul_comm H W, Nat.add_mul] at hrW
      have inner : ∀ (m2 x : Nat) (c7 c8 : Nat → Int), x + m2 = W → (∀ j, R32 (c7 j)) → (∀ j, R32 (c8 j)) → (∀ c, c < r * W + x → c7 c = (c % W : Nat) ∧ c8 c = (c / W : Nat)) → RW (KV l G 1 mX1_renew n ρ (fun σ' => ∃ c7 c8 : Nat → Int, (∀ j, R32 (c7 j)) ∧ (∀ j, R32 (c8 j)) ∧ (∀ c, c < W * H → c7 c = (c % W : Nat) ∧ c8 c = (c / W : Nat)) ∧ σ' = sr (sr T 7 c7) 8 c8)) (0, 0, n, ρ) (sr (sr T 7 c7) 8 c8) 66 [rf G 2, iv W, iv H, iv (r * W + x : Nat), iv r, iv x] [] := by
        intro m2
        induction m2 with
        | zero =>
          intro x c7 c8 hx2 h7 h8 hI
          have e : x = W := by omega
          subst e
          refine r_iload dX1_renew_66 rfl ?_
          refine r_iload_n dX1_renew_68 rfl ?_
          refine r_icmpge (tgt := 97) dX1_renew_69 rfl (by omega) (by omega) (fun h69 => ?_) (fun h69 => ?_)
          · refine r_iinc dX1_renew_97 (Nat.le_of_ble_eq_true rfl) rfl rfl s4 ?_
            refine r_goto (tgt := 57) dX1_renew_100 rfl ?_
            have h := ih (r + 1) c7 c8 (iv x) (by omega) h7 h8 (by rw [Nat.add_mul, Nat.one_mul]; exact hI) rfl
            rw [Nat.add_mul, Nat.one_mul] at h
            exact h
          · omega
        | succ m2 ih2 =>
          intro x c7 c8 hx2 h7 h8 hI
          have hm : (r * W + x) % W = x := by rw [Nat.mul_comm, Nat.mul_add_mod, Nat.mod_eq_of_lt (by omega)]
          have hd : (r * W + x) / W = r := by rw [Nat.mul_comm, Nat.mul_add_div (by omega), Nat.div_eq_of_lt (by omega), Nat.add_zero]
          refine r_iload dX1_renew_66 rfl ?_
          refine r_iload_n dX1_renew_68 rfl ?_
          refine r_icmpge (tgt := 97) dX1_renew_69 rfl (by omega) (by omega) (fun h69 => ?_) (fun h69 => ?_)
          · omega
          · refine r_aloadk_n dX1_renew_72 rfl ?_
            refine r_getr dX1_renew_73 fl_X1_16 rfl rfl (Nat.lt_of_lt_of_le (Nat.le_of_ble_eq_true rfl) hn) (hs _ _ _ rfl (by decide)) ?_
            refine r_iload_n dX1_renew_76 rfl ?_
            refine r_iload dX1_renew_77 rfl ?_
            refine r_iast dX1_renew_79 rfl (Nat.lt_of_lt_of_le (Nat.le_of_ble_eq_true rfl) hn) rfl (by omega) ?_
            refine r_aloadk_n dX1_renew_80 rfl ?_
            refine r_getr dX1_renew_81 fl_X1_20 rfl rfl (Nat.lt_of_lt_of_le (Nat.le_of_ble_eq_true rfl) hn) (hs _ _ _ rfl (by decide)) ?_
            refine r_iload_n dX1_renew_84 rfl ?_
            refine r_iload dX1_renew_85 rfl ?_
            refine r_iast dX1_renew_87 rfl (Nat.lt_of_lt_of_le (Nat.le_of_ble_eq_true rfl) hn) rfl (by omega) ?_
            refine r_iinc dX1_renew_88 (Nat.le_of_ble_eq_true rfl) rfl rfl s3 ?_
            refine r_iinc dX1_renew_91 (Nat.le_of_ble_eq_true rfl) rfl rfl s5 ?_
            refine r_goto (tgt := 66) dX1_renew_94 rfl ?_
            rw [sr_comm (by omega), up_sr, sr_comm (by omega), up_sr]
            refine ih2 (x + 1) (ud c7 (r * W + x) x) (ud c8 (r * W + x) r) (by omega) (ud_R h7 (by omega)) (ud_R h8 (by omega)) (fun c hc => ?_)
            by_cases e : c = r * W + x
            · rw [e, ud_at, ud_at, hm, hd]; exact ⟨rfl, rfl⟩
            · rw [ud_ne e, ud_ne e]; exact hI c (by omega)
      refine r_iload dX1_renew_57 rfl ?_
      refine r_iload_n dX1_renew_59 rfl ?_
      refine r_icmpge (tgt := 103) dX1_renew_60 rfl (by omega) (by omega) (fun h60 => ?_) (fun h60 => ?_)
      · omega
      · refine r_iconst dX1_renew_63 ?_
        refine r_istore dX1_renew_64 (Nat.le_of_ble_eq_true rfl) rfl s5 ?_
        have h := inner W 0 c7 c8 (by omega) h7 h8 (by rw [Nat.add_zero]; exact hI)
        exact h
  refine Ct.of (L0 := [rf G 2, iv W, iv H, xx, xx, xx]) (by decide +kernel) (Nat.le_of_ble_eq_true rfl) rfl ?_
  refine r_aloadk_n dX1_renew_0 rfl ?_
  refine r_iload_n dX1_renew_1 rfl ?_
  refine r_puti dX1_renew_2 fl_X1_27 rfl (Nat.lt_of_lt_of_le (Nat.le_of_ble_eq_true rfl) hn) ?_
  rw [up_eq_sr]
  refine r_aloadk_n dX1_renew_5 rfl ?_
  refine r_iload_n dX1_renew_6 rfl ?_
  refine r_puti dX1_renew_7 fl_X1_31 rfl (Nat.lt_of_lt_of_le (Nat.le_of_ble_eq_true rfl) hn) ?_
  rw [up_sr]
  refine r_aloadk_n dX1_renew_10 rfl ?_
  refine r_iload_n dX1_renew_11 rfl ?_
  refine r_iload_n dX1_renew_12 rfl ?_
  refine r_imul dX1_renew_13 ?_
  rw [show ((W : Int) * (H : Int)) = ((W * H : Nat) : Int) by simp]
  refine r_puti dX1_renew_14 fl_X1_34 rfl (Nat.lt_of_lt_of_le (Nat.le_of_ble_eq_true rfl) hn) ?_
  rw [up_sr]
  refine r_aloadk_n dX1_renew_17 rfl ?_
  refine r_iconst dX1_renew_18 ?_
  refine r_puti dX1_renew_19 fl_X1_37 rfl (Nat.lt_of_lt_of_le (Nat.le_of_ble_eq_true rfl) hn) ?_
  rw [up_sr]
  refine r_aloadk_n dX1_renew_22 rfl ?_
  refine r_getr dX1_renew_23 fl_X1_11 rfl rfl (Nat.lt_of_lt_of_le (Nat.le_of_ble_eq_true rfl) hn) (hs _ _ _ rfl (by decide)) ?_
  refine r_iconst dX1_renew_26 ?_
  refine r_aald dX1_renew_27 rfl (Nat.lt_of_lt_of_le (Nat.le_of_ble_eq_true rfl) hn) (c := 0) rfl (by decide) (hs _ _ _ rfl (by decide)) ?_
  refine r_iconst dX1_renew_28 ?_
  refine q_callSv dX1_renew_29 (c_fill 4 80 (Nat.lt_of_lt_of_le (Nat.le_of_ble_eq_true rfl) hn) rfl 1) ml_X1_40 okJ7_fill_53178 rfl rfl (Nat.le_of_ble_eq_true rfl) (roomOK.of (by decide)) ⟨(Nat.le_of_ble_eq_true rfl), (Nat.le_of_ble_eq_true rfl)⟩ (fun σ1 hq1 => ?_)
  subst hq1
  rw [filR_fil]
  refine r_aloadk_n dX1_renew_32 rfl ?_
  refine r_getr dX1_renew_33 fl_X1_11 rfl rfl (Nat.lt_of_lt_of_le (Nat.le_of_ble_eq_true rfl) hn) (hs _ _ _ rfl (by decide)) ?_
  refine r_iconst dX1_renew_36 ?_
  refine r_aald dX1_renew_37 rfl (Nat.lt_of_lt_of_le (Nat.le_of_ble_eq_true rfl) hn) (c := 1) rfl (by decide) (hs _ _ _ rfl (by decide)) ?_
  refine r_iconst dX1_renew_38 ?_
  refine q_callSv dX1_renew_39 (c_fill 5 80 (Nat.lt_of_lt_of_le (Nat.le_of_ble_eq_true rfl) hn) rfl 0) ml_X1_40 okJ7_fill_53178 rfl rfl (Nat.le_of_ble_eq_true rfl) (roomOK.of (by decide)) ⟨(Nat.le_of_ble_eq_true rfl), (Nat.le_of_ble_eq_true rfl)⟩ (fun σ1 hq1 => ?_)
  subst hq1
  rw [filR_fil]
  refine r_aloadk_n dX1_renew_42 rfl ?_
  refine r_getr dX1_renew_43 fl_X1_11 rfl rfl (Nat.lt_of_lt_of_le (Nat.le_of_ble_eq_true rfl) hn) (hs _ _ _ rfl (by decide)) ?_
  refine r_iconst dX1_renew_46 ?_
  refine r_aald dX1_renew_47 rfl (Nat.lt_of_lt_of_le (Nat.le_of_ble_eq_true rfl) hn) (c := 2) rfl (by decide) (hs _ _ _ rfl (by decide)) ?_
  refine r_iconst dX1_renew_48 ?_
  refine q_callSv dX1_renew_49 (c_fill 6 80 (Nat.lt_of_lt_of_le (Nat.le_of_ble_eq_true rfl) hn) rfl 0) ml_X1_40 okJ7_fill_53178 rfl rfl (Nat.le_of_ble_eq_true rfl) (roomOK.of (by decide)) ⟨(Nat.le_of_ble_eq_true rfl), (Nat.le_of_ble_eq_true rfl)⟩ (fun σ1 hq1 => ?_)
  subst hq1
  rw [filR_fil]
  change RW _ _ (sr (sr (sr (sr σ 2 (ud (ud (ud (ud (σ 2) 0 W) 1 H) 2 (W * H : Nat)) 3 0)) 4 (filW (σ 4) 80 1)) 5 (filW (σ 5) 80 0)) 6 (filW (σ 6) 80 0)) _ _ _
  rw [hT]
  refine r_iconst dX1_renew_52 ?_
  refine r_istore_n dX1_renew_53 (Nat.le_of_ble_eq_true rfl) rfl s3 ?_
  refine r_iconst dX1_renew_54 ?_
  refine r_istore dX1_renew_55 (Nat.le_of_ble_eq_true rfl) rfl s4 ?_
  have e7 : T 7 = σ 7 := by rw [← hT]; rfl
  have e8 : T 8 = σ 8 := by rw [← hT]; rfl
  have h := outer H 0 (T 7) (T 8) xx (by omega) (by rw [e7]; exact hR 7 (by decide)) (by rw [e8]; exact hR 8 (by decide)) (fun c hc => by omega) rfl
  rw [sr_self, sr_self, Nat.zero_mul] at h
  exact h
theorem c_rollClear (hs : Std n ρ) : CtV l G 0 mX4_clear n ρ σ [rf G 19] (fun σ' => σ' = sr σ 19 (ud (ud (ud (σ 19) 1 0) 2 0) 3 0)) := by
  refine Ct.of (L0 := [rf G 19]) (by decide +kernel) (Nat.le_of_ble_eq_true rfl) rfl ?_
  refine r_aloadk_n dX4_clear_0 rfl ?_
  refine r_iconst dX4_clear_1 ?_
  refine r_puti dX4_clear_2 fl_X4_43 rfl (hs.lt rfl) ?_
  rw [up_eq_sr]
  refine r_aloadk_n dX4_clear_5 rfl ?_
  refine r_iconst dX4_clear_6 ?_
  refine r_puti dX4_clear_7 fl_X4_47 rfl (hs.lt rfl) ?_
  rw [up_sr]
  refine r_aloadk_n dX4_clear_10 rfl ?_
  refine r_iconst dX4_clear_11 ?_
  refine r_puti dX4_clear_12 fl_X4_50 rfl (hs.lt rfl) ?_
  rw [up_sr]
  exact r_vret dX4_clear_15 rfl ⟨rfl, rfl⟩
theorem c_plotsClear (hs : ∀ j r, sref 35 j = some r → 2 ≤ j → ρ 35 j = some r) (hn : 38 ≤ n) : CtV l G 1 mX2_clear n ρ σ [rf G 35] (fun σ' => σ' = sr (sr σ 36 (filW (σ 36) 8 (-1))) 37 (filW (σ 37) 8 (-1))) := by
  refine Ct.of (L0 := [rf G 35]) (by decide +kernel) (Nat.le_of_ble_eq_true rfl) rfl ?_
  refine r_aloadk_n dX2_clear_0 rfl ?_
  refine r_getr dX2_clear_1 fl_X2_9 rfl rfl (Nat.lt_of_lt_of_le (Nat.le_of_ble_eq_true rfl) hn) (hs _ _ rfl (by decide)) ?_
  refine r_iconst dX2_clear_4 ?_
  refine q_callSv dX2_clear_5 (c_fill 36 8 (Nat.lt_of_lt_of_le (Nat.le_of_ble_eq_true rfl) hn) rfl (-1)) ml_X2_29 okJ7_fill_53178 rfl rfl (Nat.le_of_ble_eq_true rfl) (roomOK.of (by decide)) ⟨(Nat.le_of_ble_eq_true rfl), (Nat.le_of_ble_eq_true rfl)⟩ (fun σ1 hq1 => ?_)
  subst hq1
  rw [filR_fil]
  refine r_aloadk_n dX2_clear_8 rfl ?_
  refine r_getr dX2_clear_9 fl_X2_15 rfl rfl (Nat.lt_of_lt_of_le (Nat.le_of_ble_eq_true rfl) hn) (hs _ _ rfl (by decide)) ?_
  refine r_iconst dX2_clear_12 ?_
  refine q_callSv dX2_clear_13 (c_fill 37 8 (Nat.lt_of_lt_of_le (Nat.le_of_ble_eq_true rfl) hn) rfl (-1)) ml_X2_29 okJ7_fill_53178 rfl rfl (Nat.le_of_ble_eq_true rfl) (roomOK.of (by decide)) ⟨(Nat.le_of_ble_eq_true rfl), (Nat.le_of_ble_eq_true rfl)⟩ (fun σ1 hq1 => ?_)
  subst hq1
  rw [filR_fil]
  exact r_vret dX2_clear_16 rfl ⟨rfl, rfl⟩
theorem c_isDay (d : Int) (hd : R32 d) : RdI l G 1 mX8_isDay n ρ σ [iv d] (bi (0 ≤ d ∧ d ≤ 999)) := by
  refine Ct.of (L0 := [iv d]) (by decide +kernel) (Nat.le_of_ble_eq_true rfl) rfl ?_
  refine r_iload_n dX8_isDay_0 rfl ?_
  refine r_iconst dX8_isDay_1 ?_
  refine r_sipush dX8_isDay_2 ?_
  refine q_callSr dX8_isDay_5 (c_isWithin d 0 999 hd (by omega) (by omega)) ml_X8_65 okX8_isWithin rfl rfl (Nat.le_of_ble_eq_true rfl) (roomOK.of (by decide)) ⟨(Nat.le_of_ble_eq_true rfl), (Nat.le_of_ble_eq_true rfl)⟩ ?_
  exact r_iretz dX8_isDay_8 rfl (bi_01 _) ⟨_, rfl, rfl, rfl⟩
theorem c_isMark (d : Int) (hd : R32 d) : RdI l G 1 mX8_isMark n ρ σ [iv d] (bi (0 ≤ d ∧ d ≤ 2)) := by
  refine Ct.of (L0 := [iv d]) (by decide +kernel) (Nat.le_of_ble_eq_true rfl) rfl ?_
  refine r_iload_n dX8_isMark_0 rfl ?_
  refine r_iconst dX8_isMark_1 ?_
  refine r_iconst dX8_isMark_2 ?_
  refine q_callSr dX8_isMark_3 (c_isWithin d 0 2 hd (by omega) (by omega)) ml_X8_65 okX8_isWithin rfl rfl (Nat.le_of_ble_eq_true rfl) (roomOK.of (by decide)) ⟨(Nat.le_of_ble_eq_true rfl), (Nat.le_of_ble_eq_true rfl)⟩ ?_
  exact r_iretz dX8_isMark_6 rfl (bi_01 _) ⟨_, rfl, rfl, rfl⟩
theorem c_isKind (d : Int) (hd : R32 d) : RdI l G 1 mX8_isKind n ρ σ [iv d] (bi (0 ≤ d ∧ d ≤ 4)) := by
  refine Ct.of (L0 := [iv d]) (by decide +kernel) (Nat.le_of_ble_eq_true rfl) rfl ?_
  refine r_iload_n dX8_isKind_0 rfl ?_
  refine r_iconst dX8_isKind_1 ?_
  refine r_iconst dX8_isKind_2 ?_
  refine q_callSr dX8_isKind_3 (c_isWithin d 0 4 hd (by omega) (by omega)) ml_X8_65 okX8_isWithin rfl rfl (Nat.le_of_ble_eq_true rfl) (roomOK.of (by decide)) ⟨(Nat.le_of_ble_eq_true rfl), (Nat.le_of_ble_eq_true rfl)⟩ ?_
  exact r_iretz dX8_isKind_6 rfl (bi_01 _) ⟨_, rfl, rfl, rfl⟩
theorem c_isSurvey (d : Int) (hd : R32 d) : RdI l G 1 mX8_isSurvey n ρ σ [iv d] (bi (0 ≤ d ∧ d ≤ 2)) := by
  refine Ct.of (L0 := [iv d]) (by decide +kernel) (Nat.le_of_ble_eq_true rfl) rfl ?_
  refine r_iload_n dX8_isSurvey_0 rfl ?_
  refine r_iconst dX8_isSurvey_1 ?_
  refine r_iconst dX8_isSurvey_2 ?_
  refine q_callSr dX8_isSurvey_3 (c_isWithin d 0 2 hd (by omega) (by omega)) ml_X8_65 okX8_isWithin rfl rfl (Nat.le_of_ble_eq_true rfl) (roomOK.of (by decide)) ⟨(Nat.le_of_ble_eq_true rfl), (Nat.le_of_ble_eq_true rfl)⟩ ?_
  exact r_iretz dX8_isSurvey_6 rfl (bi_01 _) ⟨_, rfl, rfl, rfl⟩
theorem c_land (hs : Std n ρ) (hR : Rg σ) (x1 x2 : Int) (h1 : R32 x1) (h2 : R32 x2) : CtI l G 2 mX8_land n ρ σ [rf G 0, iv x1, iv x2] (fun σ' z => (¬ ((2 ≤ x1 ∧ x1 ≤ 10) ∧ (2 ≤ x2 ∧ x2 ≤ 8)) ∧ z = -3 ∧ σ' = σ) ∨ ((2 ≤ x1 ∧ x1 ≤ 10) ∧ (2 ≤ x2 ∧ x2 ≤ 8)) ∧ z = (x1.toNat * x2.toNat : Nat) ∧ ∃ c7 c8 : Nat → Int, (∀ j, R32 (c7 j)) ∧ (∀ j, R32 (c8 j)) ∧ (∀ c, c < x1.toNat * x2.toNat → c7 c = (c % x1.toNat : Nat) ∧ c8 c = (c / x1.toNat : Nat)) ∧ σ' = sr (sr (sr (landS σ x1.toNat x2.toNat c7 c8) 19 (ud (ud (ud (σ 19) 1 0) 2 0) 3 0)) 36 (filW (σ 36) 8 (-1))) 37 (filW (σ 37) 8 (-1))) := by
  refine Ct.of (L0 := [rf G 0, iv x1, iv x2]) (by decide +kernel) (Nat.le_of_ble_eq_true rfl) rfl ?_
  refine r_iload_n dX8_land_0 rfl ?_
  refine r_iconst dX8_land_1 ?_
  refine r_bipush dX8_land_2 ?_
  refine q_callSr dX8_land_4 (c_isWithin x1 2 10 h1 (by omega) (by omega)) ml_X8_65 okX8_isWithin rfl rfl (Nat.le_of_ble_eq_true rfl) (roomOK.of (by decide)) ⟨(Nat.le_of_ble_eq_true rfl), (Nat.le_of_ble_eq_true rfl)⟩ ?_
  refine r_ifeqb (tgt := 20) dX8_land_7 rfl (fun h7 => ?_) (fun h7 => ?_)
  · refine r_bipush dX8_land_20 ?_
    exact r_ireti dX8_land_22 rfl ⟨_, rfl, Or.inl ⟨by omega, rfl, rfl⟩⟩
  · have h7_ := h7
    refine r_iload_n dX8_land_10 rfl ?_
    refine r_iconst dX8_land_11 ?_
    refine r_bipush dX8_land_12 ?_
    refine q_callSr dX8_land_14 (c_isWithin x2 2 8 h2 (by omega) (by omega)) ml_X8_65 okX8_isWithin rfl rfl (Nat.le_of_ble_eq_true rfl) (roomOK.of (by decide)) ⟨(Nat.le_of_ble_eq_true rfl), (Nat.le_of_ble_eq_true rfl)⟩ ?_
    refine r_ifneb (tgt := 23) dX8_land_17 rfl (fun h17 => ?_) (fun h17 => ?_)
    · obtain ⟨W, rfl⟩ : ∃ W : Nat, x1 = W := ⟨x1.toNat, by omega⟩
      obtain ⟨H, rfl⟩ : ∃ H : Nat, x2 = H := ⟨x2.toNat, by omega⟩
      refine r_aloadk_n dX8_land_23 rfl ?_
      refine r_getr dX8_land_24 fl_X8_16 rfl rfl (hs.lt rfl) (hs.rf rfl) ?_
      refine r_iload_n dX8_land_27 rfl ?_
      refine r_iload_n dX8_land_28 rfl ?_
      refine q_callVv dX8_land_29 (c_renew (fun k j r h _ => hs.2 k j r h) (Nat.le_trans (by decide) hs.1) hR W H (by omega) (by omega)) ml_X8_69 okX1_renew rfl rfl (hs.lt rfl) rfl rfl (Nat.le_of_ble_eq_true rfl) (roomOK.of (by decide)) ⟨(Nat.le_of_ble_eq_true rfl), (Nat.le_of_ble_eq_true rfl)⟩ (fun σ1 hq1 => ?_)
      obtain ⟨c7, c8, h7, h8, hI, rfl⟩ := hq1
      refine r_aloadk_n dX8_land_32 rfl ?_
      refine r_getr dX8_land_33 fl_X8_39 rfl rfl (hs.lt rfl) (hs.rf rfl) ?_
      refine q_callVv dX8_land_36 (c_rollClear hs) ml_X8_73 okX4_clear rfl rfl (hs.lt rfl) rfl rfl (Nat.le_of_ble_eq_true rfl) (roomOK.of (by decide)) ⟨(Nat.le_of_ble_eq_true rfl), (Nat.le_of_ble_eq_true rfl)⟩ (fun σ1 hq1 => ?_)
      subst hq1
      refine r_aloadk_n dX8_land_39 rfl ?_
      refine r_getr dX8_land_40 fl_X8_57 rfl rfl (hs.lt rfl) (hs.rf rfl) ?_
      refine q_callVv dX8_land_43 (c_plotsClear (fun j r h _ => hs.2 35 j r h) (Nat.le_trans (by decide) hs.1)) ml_X8_76 okX2_clear rfl rfl (hs.lt rfl) rfl rfl (Nat.le_of_ble_eq_true rfl) (roomOK.of (by decide)) ⟨(Nat.le_of_ble_eq_true rfl), (Nat.le_of_ble_eq_true rfl)⟩ (fun σ1 hq1 => ?_)
      subst hq1
      refine r_aloadk_n dX8_land_46 rfl ?_
      refine r_getr dX8_land_47 fl_X8_16 rfl rfl (hs.lt rfl) (hs.rf rfl) ?_
      refine r_geti dX8_land_50 fl_X8_77 rfl rfl (hs.lt rfl) ?_
      exact r_ireti dX8_land_53 rfl ⟨_, rfl, Or.inr ⟨⟨h7_, h17⟩, rfl, c7, c8, h7, h8, hI, rfl⟩⟩
    · refine r_bipush dX8_land_20 ?_
      exact r_ireti dX8_land_22 rfl ⟨_, rfl, Or.inl ⟨by omega, rfl, rfl⟩⟩
end Land
