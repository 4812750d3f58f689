/-! CLASS: Shape, and the small methods; Math; Arrays.fill -/
/-- every int of the store is one -/
def Rg (σ : Si) : Prop := ∀ k, k < 69 → ∀ j, R32 (σ k j)
theorem Rg.up {σ : Si} {k j : Nat} {z : Int} (h : Rg σ) (hz : R32 z) : Rg (up σ k j z) := by
  intro a ha b
  unfold _root_.Jvm.Pilot.CAwardDeskLaw_law_r9118_a3d290.up
  split
  · exact hz
  · exact h a ha b
section Small
variable {l : Launch} {G : GG} {n : Nat} {ρ : Rho} {σ : Si}
theorem c_min (a b : Int) (ha : R32 a) (hb : R32 b) : RdI l G 0 mJ9_min_7cf53 n ρ σ [iv a, iv b] (min a b) := by
  refine Ct.of (L0 := [iv a, iv b]) (by decide +kernel) (Nat.le_of_ble_eq_true rfl) rfl ?_
  refine r_iload_n dJ9_min_7cf53_0 rfl ?_
  refine r_iload_n dJ9_min_7cf53_1 rfl ?_
  refine r_icmpgt (tgt := 9) dJ9_min_7cf53_2 rfl (by omega) (by omega) (fun h2 => ?_) (fun h2 => ?_)
  · refine r_iload_n dJ9_min_7cf53_9 rfl ?_
    exact r_ireti dJ9_min_7cf53_10 rfl ⟨_, rfl, rfl, by omega⟩
  · refine r_iload_n dJ9_min_7cf53_5 rfl ?_
    refine r_goto (tgt := 10) dJ9_min_7cf53_6 rfl ?_
    exact r_ireti dJ9_min_7cf53_10 rfl ⟨_, rfl, rfl, by omega⟩
theorem c_max (a b : Int) (ha : R32 a) (hb : R32 b) : RdI l G 0 mJ9_max_7cf53 n ρ σ [iv a, iv b] (max a b) := by
  refine Ct.of (L0 := [iv a, iv b]) (by decide +kernel) (Nat.le_of_ble_eq_true rfl) rfl ?_
  refine r_iload_n dJ9_max_7cf53_0 rfl ?_
  refine r_iload_n dJ9_max_7cf53_1 rfl ?_
  refine r_icmplt (tgt := 9) dJ9_max_7cf53_2 rfl (by omega) (by omega) (fun h2 => ?_) (fun h2 => ?_)
  · refine r_iload_n dJ9_max_7cf53_9 rfl ?_
    exact r_ireti dJ9_max_7cf53_10 rfl ⟨_, rfl, rfl, by omega⟩
  · refine r_iload_n dJ9_max_7cf53_5 rfl ?_
    refine r_goto (tgt := 10) dJ9_max_7cf53_6 rfl ?_
    exact r_ireti dJ9_max_7cf53_10 rfl ⟨_, rfl, rfl, by omega⟩
theorem c_abs (a : Int) (ha : R32 a) : RdI l G 0 mJ9_abs_0f7a4 n ρ σ [iv a] (if 0 ≤ a then a else -a) := by
  refine Ct.of (L0 := [iv a]) (by decide +kernel) (Nat.le_of_ble_eq_true rfl) rfl ?_
  refine r_iload_n dJ9_abs_0f7a4_0 rfl ?_
  refine r_ifge (tgt := 9) dJ9_abs_0f7a4_1 rfl (by omega) (fun h1 => ?_) (fun h1 => ?_)
  · refine r_iload_n dJ9_abs_0f7a4_9 rfl ?_
    exact r_ireti dJ9_abs_0f7a4_10 rfl ⟨_, rfl, rfl, by split <;> omega⟩
  · refine r_iload_n dJ9_abs_0f7a4_4 rfl ?_
    refine r_ineg dJ9_abs_0f7a4_5 ?_
    refine r_goto (tgt := 10) dJ9_abs_0f7a4_6 rfl ?_
    exact r_ireti dJ9_abs_0f7a4_10 rfl ⟨_, rfl, rfl, by split <;> omega⟩
theorem c_isWithin (v a b : Int) (hv : R32 v) (ha : R32 a) (hb : R32 b) : RdI l G 0 mX8_isWithin n ρ σ [iv v, iv a, iv b] (bi (a ≤ v ∧ v ≤ b)) := by
  refine Ct.of (L0 := [iv v, iv a, iv b]) (by decide +kernel) (Nat.le_of_ble_eq_true rfl) rfl ?_
  refine r_iload_n dX8_isWithin_0 rfl ?_
  refine r_iload_n dX8_isWithin_1 rfl ?_
  refine r_icmplt (tgt := 14) dX8_isWithin_2 rfl (by omega) (by omega) (fun h2 => ?_) (fun h2 => ?_)
  · refine r_iconst dX8_isWithin_14 ?_
    exact r_iretz dX8_isWithin_15 rfl (by omega) ⟨_, rfl, rfl, by unfold bi; split <;> omega⟩
  · refine r_iload_n dX8_isWithin_5 rfl ?_
    refine r_iload_n dX8_isWithin_6 rfl ?_
    refine r_icmpgt (tgt := 14) dX8_isWithin_7 rfl (by omega) (by omega) (fun h7 => ?_) (fun h7 => ?_)
    · refine r_iconst dX8_isWithin_14 ?_
      exact r_iretz dX8_isWithin_15 rfl (by omega) ⟨_, rfl, rfl, by unfold bi; split <;> omega⟩
    · refine r_iconst dX8_isWithin_10 ?_
      refine r_goto (tgt := 15) dX8_isWithin_11 rfl ?_
      exact r_iretz dX8_isWithin_15 rfl (by omega) ⟨_, rfl, rfl, by unfold bi; split <;> omega⟩
theorem c_in (v a b : Int) (hv : R32 v) (ha : R32 a) (hb : R32 b) : RdI l G 0 mX9_in n ρ σ [iv v, iv a, iv b] (bi (a ≤ v ∧ v ≤ b)) := by
  refine Ct.of (L0 := [iv v, iv a, iv b]) (by decide +kernel) (Nat.le_of_ble_eq_true rfl) rfl ?_
  refine r_iload_n dX9_in_0 rfl ?_
  refine r_iload_n dX9_in_1 rfl ?_
  refine r_icmplt (tgt := 14) dX9_in_2 rfl (by omega) (by omega) (fun h2 => ?_) (fun h2 => ?_)
  · refine r_iconst dX9_in_14 ?_
    exact r_iretz dX9_in_15 rfl (by omega) ⟨_, rfl, rfl, by unfold bi; split <;> omega⟩
  · refine r_iload_n dX9_in_5 rfl ?_
    refine r_iload_n dX9_in_6 rfl ?_
    refine r_icmpgt (tgt := 14) dX9_in_7 rfl (by omega) (by omega) (fun h7 => ?_) (fun h7 => ?_)
    · refine r_iconst dX9_in_14 ?_
      exact r_iretz dX9_in_15 rfl (by omega) ⟨_, rfl, rfl, by unfold bi; split <;> omega⟩
    · refine r_iconst dX9_in_10 ?_
      refine r_goto (tgt := 15) dX9_in_11 rfl ?_
      exact r_iretz dX9_in_15 rfl (by omega) ⟨_, rfl, rfl, by unfold bi; split <;> omega⟩
theorem c_isClaimant (hs : Std n ρ) (hR : Rg σ) (p : Int) (hp : R32 p) : RdI l G 0 mX4_isClaimant n ρ σ [rf G 19, iv p] (bi (0 ≤ p ∧ p < σ 19 1)) := by
  have hq := hR 19 (by decide) 1
  refine Ct.of (L0 := [rf G 19, iv p]) (by decide +kernel) (Nat.le_of_ble_eq_true rfl) rfl ?_
  refine r_iload_n dX4_isClaimant_0 rfl ?_
  refine r_iflt (tgt := 16) dX4_isClaimant_1 rfl (by omega) (fun h1 => ?_) (fun h1 => ?_)
  · refine r_iconst dX4_isClaimant_16 ?_
    exact r_iretz dX4_isClaimant_17 rfl (by omega) ⟨_, rfl, rfl, by unfold bi; split <;> omega⟩
  · refine r_iload_n dX4_isClaimant_4 rfl ?_
    refine r_aloadk_n dX4_isClaimant_5 rfl ?_
    refine r_geti dX4_isClaimant_6 fl_X4_43 rfl rfl (hs.lt rfl) ?_
    refine r_icmpge (tgt := 16) dX4_isClaimant_9 rfl (by omega) (by omega) (fun h9 => ?_) (fun h9 => ?_)
    · refine r_iconst dX4_isClaimant_16 ?_
      exact r_iretz dX4_isClaimant_17 rfl (by omega) ⟨_, rfl, rfl, by unfold bi; split <;> omega⟩
    · refine r_iconst dX4_isClaimant_12 ?_
      refine r_goto (tgt := 17) dX4_isClaimant_13 rfl ?_
      exact r_iretz dX4_isClaimant_17 rfl (by omega) ⟨_, rfl, rfl, by unfold bi; split <;> omega⟩
end Small
section Holder
variable {l : Launch} {G : GG} {n : Nat} {ρ : Rho} {σ : Si}
/-- the better of claims, one more looked at -/
def hstep (wh pf dy : Nat → Int) (cell day closing b : Int) (i : Nat) : Int := if wh i = cell ∧ dy i ≤ day ∧ dy i ≤ closing ∧ (b = -1 ∨ pf b.toNat < pf i ∨ (pf i = pf b.toNat ∧ dy i < dy b.toNat)) then (i : Int) else b
def hfold (wh pf dy : Nat → Int) (cell day closing : Int) : Nat → Int
  | 0 => -1
  | i + 1 => hstep wh pf dy cell day closing (hfold wh pf dy cell day closing i) i
theorem hfold_r (wh pf dy : Nat → Int) (cell day closing : Int) : ∀ i, -1 ≤ hfold wh pf dy cell day closing i ∧ hfold wh pf dy cell day closing i < i
  | 0 => by unfold hfold; omega
  | i + 1 => by
    have := hfold_r wh pf dy cell day closing i
    show -1 ≤ hstep wh pf dy cell day closing _ i ∧ hstep wh pf dy cell day closing _ i < _
    unfold hstep
    split <;> omega
/-- THE HOLDER -/
def hold (us rd wh pf dy : Nat → Int) (N : Nat) (cell : Nat) (day closing : Int) : Int := if us cell = 1 ∧ ¬ rd cell = 1 then hfold wh pf dy cell day closing N else -1
set_option maxHeartbeats 4000000 in
theorem c_holderAt (hs : Std n ρ) (hR : Rg σ) (cell : Nat) (day closing : Int) (hc : cell < 80) (hd : R32 day) (hcl : R32 closing) (N : Nat) (hN : σ 19 2 = N) (hN4 : N ≤ 40) : RdI l G 0 mX4_holderAt n ρ σ [rf G 19, iv cell, iv day, iv closing] (hold (σ 5) (σ 6) (σ 23) (σ 24) (σ 25) N cell day closing) := by
  have loop : ∀ (m i : Nat) (b : Int) (x6 : Value) (Q : Si → Int → Prop), i + m = N → b = hfold (σ 23) (σ 24) (σ 25) cell day closing i → isJ x6 = false → Q σ (hfold (σ 23) (σ 24) (σ 25) cell day closing N) → RW (KI l G 0 mX4_holderAt n ρ Q) (0, 0, n, ρ) σ 38 [rf G 19, iv cell, iv day, iv closing, iv b, iv i, x6] [] := by
    intro m
    induction m with
    | zero =>
      intro i b x6 Q hi hb hx hQ
      have hr := hfold_r (σ 23) (σ 24) (σ 25) cell day closing i
      have hi' : i = N := by omega
      subst hi'
      refine r_iload dX4_holderAt_38 rfl ?_
      refine r_aloadk_n dX4_holderAt_40 rfl ?_
      refine r_geti dX4_holderAt_41 fl_X4_47 rfl rfl (hs.lt rfl) ?_
      refine r_icmpge (tgt := 162) dX4_holderAt_44 rfl (by first | exact hR _ _ | omega) (by first | exact hR _ _ | omega) (fun h44 => ?_) (fun h44 => ?_)
      · refine r_iload dX4_holderAt_162 rfl ?_
        exact r_ireti dX4_holderAt_164 rfl ⟨_, rfl, by rw [hb]; exact hQ⟩
      · omega
    | succ m ih =>
      intro i b x6 Q hi hb hx hQ
      have hr := hfold_r (σ 23) (σ 24) (σ 25) cell day closing i
      have hlt : i < 40 := by omega
      refine r_iload dX4_holderAt_38 rfl ?_
      refine r_aloadk_n dX4_holderAt_40 rfl ?_
      refine r_geti dX4_holderAt_41 fl_X4_47 rfl rfl (hs.lt rfl) ?_
      refine r_icmpge (tgt := 162) dX4_holderAt_44 rfl (by first | exact hR _ _ | omega) (by first | exact hR _ _ | omega) (fun h44 => ?_) (fun h44 => ?_)
      · omega
      · refine r_aloadk_n dX4_holderAt_47 rfl ?_
        refine r_getr dX4_holderAt_48 fl_X4_21 rfl rfl (hs.lt rfl) (hs.rf rfl) ?_
        refine r_iload dX4_holderAt_51 rfl ?_
        refine r_iald dX4_holderAt_53 rfl (hs.lt rfl) rfl (by omega) ?_
        refine r_iload_n dX4_holderAt_54 rfl ?_
        refine r_icmpne (tgt := 156) dX4_holderAt_55 rfl (by first | exact hR _ _ | omega) (by first | exact hR _ _ | omega) (fun h55 => ?_) (fun h55 => ?_)
        · refine r_iinc dX4_holderAt_156 (Nat.le_of_ble_eq_true rfl) rfl rfl s5 ?_
          refine r_goto (tgt := 38) dX4_holderAt_159 rfl ?_
          exact ih (i + 1) _ _ Q (by omega) (by subst hb; first | exact (if_neg (by omega)).symm | exact (if_pos (by omega)).symm) rfl hQ
        · refine r_aloadk_n dX4_holderAt_58 rfl ?_
          refine r_getr dX4_holderAt_59 fl_X4_27 rfl rfl (hs.lt rfl) (hs.rf rfl) ?_
          refine r_iload dX4_holderAt_62 rfl ?_
          refine r_iald dX4_holderAt_64 rfl (hs.lt rfl) rfl (by omega) ?_
          refine r_iload_n dX4_holderAt_65 rfl ?_
          refine r_icmpgt (tgt := 156) dX4_holderAt_66 rfl (by first | exact hR _ _ | omega) (by first | exact hR _ _ | omega) (fun h66 => ?_) (fun h66 => ?_)
          · refine r_iinc dX4_holderAt_156 (Nat.le_of_ble_eq_true rfl) rfl rfl s5 ?_
            refine r_goto (tgt := 38) dX4_holderAt_159 rfl ?_
            exact ih (i + 1) _ _ Q (by omega) (by subst hb; first | exact (if_neg (by omega)).symm | exact (if_pos (by omega)).symm) rfl hQ
          · refine r_aloadk_n dX4_holderAt_69 rfl ?_
            refine r_getr dX4_holderAt_70 fl_X4_27 rfl rfl (hs.lt rfl) (hs.rf rfl) ?_
            refine r_iload dX4_holderAt_73 rfl ?_
            refine r_iald dX4_holderAt_75 rfl (hs.lt rfl) rfl (by omega) ?_
            refine r_iload_n dX4_holderAt_76 rfl ?_
            refine r_icmple (tgt := 83) dX4_holderAt_77 rfl (by first | exact hR _ _ | omega) (by first | exact hR _ _ | omega) (fun h77 => ?_) (fun h77 => ?_)
            · refine r_iload dX4_holderAt_83 rfl ?_
              refine r_iconst dX4_holderAt_85 ?_
              refine r_icmpeq (tgt := 140) dX4_holderAt_86 rfl (by first | exact hR _ _ | omega) (by first | exact hR _ _ | omega) (fun h86 => ?_) (fun h86 => ?_)
              · refine r_iconst dX4_holderAt_140 ?_
                refine r_goto (tgt := 145) dX4_holderAt_141 rfl ?_
                refine r_istore dX4_holderAt_145 (Nat.le_of_ble_eq_true rfl) rfl s6 ?_
                refine r_iload dX4_holderAt_147 rfl ?_
                refine r_ifeq (tgt := 156) dX4_holderAt_149 rfl (by first | exact hR _ _ | omega) (fun h149 => ?_) (fun h149 => ?_)
                · exact absurd h149 (by decide)
                · refine r_iload dX4_holderAt_152 rfl ?_
                  refine r_istore dX4_holderAt_154 (Nat.le_of_ble_eq_true rfl) rfl s4 ?_
                  refine r_iinc dX4_holderAt_156 (Nat.le_of_ble_eq_true rfl) rfl rfl s5 ?_
                  refine r_goto (tgt := 38) dX4_holderAt_159 rfl ?_
                  exact ih (i + 1) _ _ Q (by omega) (by subst hb; first | exact (if_neg (by omega)).symm | exact (if_pos (by omega)).symm) rfl hQ
              · refine r_aloadk_n dX4_holderAt_89 rfl ?_
                refine r_getr dX4_holderAt_90 fl_X4_24 rfl rfl (hs.lt rfl) (hs.rf rfl) ?_
                refine r_iload dX4_holderAt_93 rfl ?_
                refine r_iald dX4_holderAt_95 rfl (hs.lt rfl) rfl (by omega) ?_
                refine r_aloadk_n dX4_holderAt_96 rfl ?_
                refine r_getr dX4_holderAt_97 fl_X4_24 rfl rfl (hs.lt rfl) (hs.rf rfl) ?_
                refine r_iload dX4_holderAt_100 rfl ?_
                refine r_iald dX4_holderAt_102 rfl (hs.lt rfl) (c := b.toNat) (by omega) (by omega) ?_
                refine r_icmpgt (tgt := 140) dX4_holderAt_103 rfl (by first | exact hR _ _ | omega) (by first | exact hR _ _ | omega) (fun h103 => ?_) (fun h103 => ?_)
                · refine r_iconst dX4_holderAt_140 ?_
                  refine r_goto (tgt := 145) dX4_holderAt_141 rfl ?_
                  refine r_istore dX4_holderAt_145 (Nat.le_of_ble_eq_true rfl) rfl s6 ?_
                  refine r_iload dX4_holderAt_147 rfl ?_
                  refine r_ifeq (tgt := 156) dX4_holderAt_149 rfl (by first | exact hR _ _ | omega) (fun h149 => ?_) (fun h149 => ?_)
                  · exact absurd h149 (by decide)
                  · refine r_iload dX4_holderAt_152 rfl ?_
                    refine r_istore dX4_holderAt_154 (Nat.le_of_ble_eq_true rfl) rfl s4 ?_
                    refine r_iinc dX4_holderAt_156 (Nat.le_of_ble_eq_true rfl) rfl rfl s5 ?_
                    refine r_goto (tgt := 38) dX4_holderAt_159 rfl ?_
                    exact ih (i + 1) _ _ Q (by omega) (by subst hb; first | exact (if_neg (by omega)).symm | exact (if_pos (by omega)).symm) rfl hQ
                · refine r_aloadk_n dX4_holderAt_106 rfl ?_
                  refine r_getr dX4_holderAt_107 fl_X4_24 rfl rfl (hs.lt rfl) (hs.rf rfl) ?_
                  refine r_iload dX4_holderAt_110 rfl ?_
                  refine r_iald dX4_holderAt_112 rfl (hs.lt rfl) rfl (by omega) ?_
                  refine r_aloadk_n dX4_holderAt_113 rfl ?_
                  refine r_getr dX4_holderAt_114 fl_X4_24 rfl rfl (hs.lt rfl) (hs.rf rfl) ?_
                  refine r_iload dX4_holderAt_117 rfl ?_
                  refine r_iald dX4_holderAt_119 rfl (hs.lt rfl) (c := b.toNat) (by omega) (by omega) ?_
                  refine r_icmpne (tgt := 144) dX4_holderAt_120 rfl (by first | exact hR _ _ | omega) (by first | exact hR _ _ | omega) (fun h120 => ?_) (fun h120 => ?_)
                  · refine r_iconst dX4_holderAt_144 ?_
                    refine r_istore dX4_holderAt_145 (Nat.le_of_ble_eq_true rfl) rfl s6 ?_
                    refine r_iload dX4_holderAt_147 rfl ?_
                    refine r_ifeq (tgt := 156) dX4_holderAt_149 rfl (by first | exact hR _ _ | omega) (fun h149 => ?_) (fun h149 => ?_)
                    · exact absurd h149 (by decide)
                    · refine r_iload dX4_holderAt_152 rfl ?_
                      refine r_istore dX4_holderAt_154 (Nat.le_of_ble_eq_true rfl) rfl s4 ?_
                      refine r_iinc dX4_holderAt_156 (Nat.le_of_ble_eq_true rfl) rfl rfl s5 ?_
                      refine r_goto (tgt := 38) dX4_holderAt_159 rfl ?_
                      exact ih (i + 1) _ _ Q (by omega) (by subst hb; first | exact (if_neg (by omega)).symm | exact (if_pos (by omega)).symm) rfl hQ
                  · refine r_aloadk_n dX4_holderAt_123 rfl ?_
                    refine r_getr dX4_holderAt_124 fl_X4_27 rfl rfl (hs.lt rfl) (hs.rf rfl) ?_
                    refine r_iload dX4_holderAt_127 rfl ?_
                    refine r_iald dX4_holderAt_129 rfl (hs.lt rfl) rfl (by omega) ?_
                    refine r_aloadk_n dX4_holderAt_130 rfl ?_
                    refine r_getr dX4_holderAt_131 fl_X4_27 rfl rfl (hs.lt rfl) (hs.rf rfl) ?_
                    refine r_iload dX4_holderAt_134 rfl ?_
                    refine r_iald dX4_holderAt_136 rfl (hs.lt rfl) (c := b.toNat) (by omega) (by omega) ?_
                    refine r_icmpge (tgt := 144) dX4_holderAt_137 rfl (by first | exact hR _ _ | omega) (by first | exact hR _ _ | omega) (fun h137 => ?_) (fun h137 => ?_)
                    · refine r_iconst dX4_holderAt_144 ?_
                      refine r_istore dX4_holderAt_145 (Nat.le_of_ble_eq_true rfl) rfl s6 ?_
                      refine r_iload dX4_holderAt_147 rfl ?_
                      refine r_ifeq (tgt := 156) dX4_holderAt_149 rfl (by first | exact hR _ _ | omega) (fun h149 => ?_) (fun h149 => ?_)
                      · exact absurd h149 (by decide)
                      · refine r_iload dX4_holderAt_152 rfl ?_
                        refine r_istore dX4_holderAt_154 (Nat.le_of_ble_eq_true rfl) rfl s4 ?_
                        refine r_iinc dX4_holderAt_156 (Nat.le_of_ble_eq_true rfl) rfl rfl s5 ?_
                        refine r_goto (tgt := 38) dX4_holderAt_159 rfl ?_
                        exact ih (i + 1) _ _ Q (by omega) (by subst hb; first | exact (if_neg (by omega)).symm | exact (if_pos (by omega)).symm) rfl hQ
                    · refine r_iconst dX4_holderAt_140 ?_
                      refine r_goto (tgt := 145) dX4_holderAt_141 rfl ?_
                      refine r_istore dX4_holderAt_145 (Nat.le_of_ble_eq_true rfl) rfl s6 ?_
                      refine r_iload dX4_holderAt_147 rfl ?_
                      refine r_ifeq (tgt := 156) dX4_holderAt_149 rfl (by first | exact hR _ _ | omega) (fun h149 => ?_) (fun h149 => ?_)
                      · exact absurd h149 (by decide)
                      · refine r_iload dX4_holderAt_152 rfl ?_
                        refine r_istore dX4_holderAt_154 (Nat.le_of_ble_eq_true rfl) rfl s4 ?_
                        refine r_iinc dX4_holderAt_156 (Nat.le_of_ble_eq_true rfl) rfl rfl s5 ?_
                        refine r_goto (tgt := 38) dX4_holderAt_159 rfl ?_
                        exact ih (i + 1) _ _ Q (by omega) (by subst hb; first | exact (if_neg (by omega)).symm | exact (if_pos (by omega)).symm) rfl hQ
            · refine r_goto (tgt := 156) dX4_holderAt_80 rfl ?_
              refine r_iinc dX4_holderAt_156 (Nat.le_of_ble_eq_true rfl) rfl rfl s5 ?_
              refine r_goto (tgt := 38) dX4_holderAt_159 rfl ?_
              exact ih (i + 1) _ _ Q (by omega) (by subst hb; first | exact (if_neg (by omega)).symm | exact (if_pos (by omega)).symm) rfl hQ
  sorry
end Holder
