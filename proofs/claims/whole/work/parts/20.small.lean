/-! CLASS: Shape, and the small methods; Math; Arrays.fill -/
/-- every int of the store is one -/
def Rg (σ : Si) : Prop := ∀ k, k < 69 → ∀ j, R32 (σ k j)
theorem Rg.up {σ : Si} {k j : Nat} {z : Int} (h : Rg σ) (hz : R32 z) : Rg (up σ k j z) := by
  intro a ha b
  unfold _root_.Jvm.Pilot.CAwardDeskLaw_law_r9118_a3d290.up
  split
  · exact hz
  · exact h a ha b
section RowsM
variable {K : Kx} {φ : Ph} {σ : Si} {pc : Nat} {L L' : List Value} {st : List Value}
theorem mm_st : Cond.static Lib.Math.min.name ∈ lw_tbl := okJ9_min_7cf53.2
theorem mm_co : Cond.code Lib.Math.min.name Lib.Math.min.code 2 (some .int) ∈ lw_tbl := okJ9_min_7cf53.1.1
theorem mx_st : Cond.static Lib.Math.max.name ∈ lw_tbl := okJ9_max_7cf53.2
theorem mx_co : Cond.code Lib.Math.max.name Lib.Math.max.code 2 (some .int) ∈ lw_tbl := okJ9_max_7cf53.1.1
theorem ma_st : Cond.static Lib.Math.abs.name ∈ lw_tbl := okJ9_abs_0f7a4.2
theorem ma_co : Cond.code Lib.Math.abs.name Lib.Math.abs.code 1 (some .int) ∈ lw_tbl := okJ9_abs_0f7a4.1.1
theorem r_mmin {ix : Nat} {a b : Int} (hd : decode K.2.2.1.2.1 pc = .ok (.invokestatic ix, 3)) (hlk : Cond.methodLink K.2.2.1.1.cls ix Lib.Math.min.name ∈ lw_tbl) (ha : R32 a) (hb : R32 b) (hfr : 1 ≤ K.2.2.2.1.frames) (hlo : catSum st + 13 ≤ K.2.2.2.1.locals) (hce : φ.1 ≤ K.2.2.2.1.cells ∧ φ.2.1 ≤ K.2.2.2.1.slots) (k : RW K φ σ (pc + 3) L (iv (min a b) :: st)) : RW K φ σ pc L (iv b :: iv a :: st) := by
  intro p e s m args below meth c H locs ls F hW hS hl h0
  have hml : c.maxLocals = ls.size := by rw [F.2.2.2.1]; exact hl.choose_spec.1.1.symm
  have k := k p e s m args below meth c H locs ls F hW hS hl h0
  have e1 : iv (min a b) = .int (if Int32.ofInt b < Int32.ofInt a then Int32.ofInt b else Int32.ofInt a) := by
    unfold iv
    by_cases h : b < a
    · rw [if_pos ((i32_lt hb ha).mpr h), show min a b = b by omega]
    · rw [if_neg (fun q => h ((i32_lt hb ha).mp q)), show min a b = a by omega]
  rw [e1] at k
  exact va_mmin F.1 F.2.1 hml F.2.2.2.2.1 (F.2.2.2.2.2.1 _ hlk rfl) (F.2.2.2.2.2.1 _ mm_st rfl) (F.2.2.2.2.2.1 _ ini_J9 rfl) (F.2.2.2.2.2.1 _ mm_co rfl) hfr hlo hce.1 hce.2 hd k
theorem r_mmax {ix : Nat} {a b : Int} (hd : decode K.2.2.1.2.1 pc = .ok (.invokestatic ix, 3)) (hlk : Cond.methodLink K.2.2.1.1.cls ix Lib.Math.max.name ∈ lw_tbl) (ha : R32 a) (hb : R32 b) (hfr : 1 ≤ K.2.2.2.1.frames) (hlo : catSum st + 13 ≤ K.2.2.2.1.locals) (hce : φ.1 ≤ K.2.2.2.1.cells ∧ φ.2.1 ≤ K.2.2.2.1.slots) (k : RW K φ σ (pc + 3) L (iv (max a b) :: st)) : RW K φ σ pc L (iv b :: iv a :: st) := by
  intro p e s m args below meth c H locs ls F hW hS hl h0
  have hml : c.maxLocals = ls.size := by rw [F.2.2.2.1]; exact hl.choose_spec.1.1.symm
  have k := k p e s m args below meth c H locs ls F hW hS hl h0
  have e1 : iv (max a b) = .int (if Int32.ofInt a < Int32.ofInt b then Int32.ofInt b else Int32.ofInt a) := by
    unfold iv
    by_cases h : a < b
    · rw [if_pos ((i32_lt ha hb).mpr h), show max a b = b by omega]
    · rw [if_neg (fun q => h ((i32_lt ha hb).mp q)), show max a b = a by omega]
  rw [e1] at k
  exact va_mmax F.1 F.2.1 hml F.2.2.2.2.1 (F.2.2.2.2.2.1 _ hlk rfl) (F.2.2.2.2.2.1 _ mx_st rfl) (F.2.2.2.2.2.1 _ ini_J9 rfl) (F.2.2.2.2.2.1 _ mx_co rfl) hfr hlo hce.1 hce.2 hd k
theorem r_mabs {ix : Nat} {a : Int} (hd : decode K.2.2.1.2.1 pc = .ok (.invokestatic ix, 3)) (hlk : Cond.methodLink K.2.2.1.1.cls ix Lib.Math.abs.name ∈ lw_tbl) (ha : R32 a) (hfr : 1 ≤ K.2.2.2.1.frames) (hlo : catSum st + 13 ≤ K.2.2.2.1.locals) (hce : φ.1 ≤ K.2.2.2.1.cells ∧ φ.2.1 ≤ K.2.2.2.1.slots) (k : RW K φ σ (pc + 3) L (iv (if 0 ≤ a then a else -a) :: st)) : RW K φ σ pc L (iv a :: st) := by
  intro p e s m args below meth c H locs ls F hW hS hl h0
  have hml : c.maxLocals = ls.size := by rw [F.2.2.2.1]; exact hl.choose_spec.1.1.symm
  have k := k p e s m args below meth c H locs ls F hW hS hl h0
  have h0' : R32 0 := ⟨by omega, by omega⟩
  have e1 : iv (if 0 ≤ a then a else -a) = .int (if (0 : Int32) ≤ Int32.ofInt a then Int32.ofInt a else 0 - Int32.ofInt a) := by
    unfold iv
    by_cases h : 0 ≤ a
    · rw [if_pos h, if_pos (show (0 : Int32) ≤ Int32.ofInt a from (i32_le h0' ha).mpr h)]
    · rw [if_neg h, if_neg (show ¬ (0 : Int32) ≤ Int32.ofInt a from fun q => h ((i32_le h0' ha).mp q)), show -a = 0 - a by omega, Int32.ofInt_sub]
      rfl
  rw [e1] at k
  exact va_mabs F.1 F.2.1 hml F.2.2.2.2.1 (F.2.2.2.2.2.1 _ hlk rfl) (F.2.2.2.2.2.1 _ ma_st rfl) (F.2.2.2.2.2.1 _ ini_J9 rfl) (F.2.2.2.2.2.1 _ ma_co rfl) hfr hlo hce.1 hce.2 hd k
end RowsM
section Small
variable {l : Launch} {G : GG} {n : Nat} {ρ : Rho} {σ : Si}
theorem c_isWithin (v a b : Int) (hv : R32 v) (ha : R32 a) (hb : R32 b) : RdI l G 0 mX8_isWithin n ρ σ [iv v, iv a, iv b] (bi (a ≤ v ∧ v ≤ b)) := by
  refine Ct.of (L0 := [iv v, iv a, iv b]) (by decide +kernel) (Nat.le_of_ble_eq_true rfl) rfl ?_
  refine r_iload_n dX8_isWithin_0 rfl ?_
  refine r_iload_n dX8_isWithin_1 rfl ?_
  refine r_icmplt (tgt := 14) dX8_isWithin_2 rfl (by omega) (by omega) (fun h2 => ?_) (fun h2 => ?_)
  · refine r_iconst dX8_isWithin_14 ?_
    exact r_iretz dX8_isWithin_15 rfl (by omega) ⟨_, rfl, rfl, by unfold bi; split <;> omega⟩
  · refine r_iload_n dX8_isWithin_5 rfl ?_
    refine r_iload_n dX8_isWithin_6 rfl ?_
    refine r_icmpgt (tgt := 14) dX8_isWithin_7 rfl (by omega) (by omega) (fun h7 => ?_) (fun h7 => ?_)
    · refine r_iconst dX8_isWithin_14 ?_
      exact r_iretz dX8_isWithin_15 rfl (by omega) ⟨_, rfl, rfl, by unfold bi; split <;> omega⟩
    · refine r_iconst dX8_isWithin_10 ?_
      refine r_goto (tgt := 15) dX8_isWithin_11 rfl ?_
      exact r_iretz dX8_isWithin_15 rfl (by omega) ⟨_, rfl, rfl, by unfold bi; split <;> omega⟩
theorem c_in (v a b : Int) (hv : R32 v) (ha : R32 a) (hb : R32 b) : RdI l G 0 mX9_in n ρ σ [iv v, iv a, iv b] (bi (a ≤ v ∧ v ≤ b)) := by
  refine Ct.of (L0 := [iv v, iv a, iv b]) (by decide +kernel) (Nat.le_of_ble_eq_true rfl) rfl ?_
  refine r_iload_n dX9_in_0 rfl ?_
  refine r_iload_n dX9_in_1 rfl ?_
  refine r_icmplt (tgt := 14) dX9_in_2 rfl (by omega) (by omega) (fun h2 => ?_) (fun h2 => ?_)
  · refine r_iconst dX9_in_14 ?_
    exact r_iretz dX9_in_15 rfl (by omega) ⟨_, rfl, rfl, by unfold bi; split <;> omega⟩
  · refine r_iload_n dX9_in_5 rfl ?_
    refine r_iload_n dX9_in_6 rfl ?_
    refine r_icmpgt (tgt := 14) dX9_in_7 rfl (by omega) (by omega) (fun h7 => ?_) (fun h7 => ?_)
    · refine r_iconst dX9_in_14 ?_
      exact r_iretz dX9_in_15 rfl (by omega) ⟨_, rfl, rfl, by unfold bi; split <;> omega⟩
    · refine r_iconst dX9_in_10 ?_
      refine r_goto (tgt := 15) dX9_in_11 rfl ?_
      exact r_iretz dX9_in_15 rfl (by omega) ⟨_, rfl, rfl, by unfold bi; split <;> omega⟩
theorem c_isClaimant (hs : Std n ρ) (hR : Rg σ) (p : Int) (hp : R32 p) : RdI l G 0 mX4_isClaimant n ρ σ [rf G 19, iv p] (bi (0 ≤ p ∧ p < σ 19 1)) := by
  have hq := hR 19 (by decide) 1
  refine Ct.of (L0 := [rf G 19, iv p]) (by decide +kernel) (Nat.le_of_ble_eq_true rfl) rfl ?_
  refine r_iload_n dX4_isClaimant_0 rfl ?_
  refine r_iflt (tgt := 16) dX4_isClaimant_1 rfl (by omega) (fun h1 => ?_) (fun h1 => ?_)
  · refine r_iconst dX4_isClaimant_16 ?_
    exact r_iretz dX4_isClaimant_17 rfl (by omega) ⟨_, rfl, rfl, by unfold bi; split <;> omega⟩
  · refine r_iload_n dX4_isClaimant_4 rfl ?_
    refine r_aloadk_n dX4_isClaimant_5 rfl ?_
    refine r_geti dX4_isClaimant_6 fl_X4_43 rfl rfl (hs.lt rfl) ?_
    refine r_icmpge (tgt := 16) dX4_isClaimant_9 rfl (by omega) (by omega) (fun h9 => ?_) (fun h9 => ?_)
    · refine r_iconst dX4_isClaimant_16 ?_
      exact r_iretz dX4_isClaimant_17 rfl (by omega) ⟨_, rfl, rfl, by unfold bi; split <;> omega⟩
    · refine r_iconst dX4_isClaimant_12 ?_
      refine r_goto (tgt := 17) dX4_isClaimant_13 rfl ?_
      exact r_iretz dX4_isClaimant_17 rfl (by omega) ⟨_, rfl, rfl, by unfold bi; split <;> omega⟩
end Small
section Holder
variable {l : Launch} {G : GG} {n : Nat} {ρ : Rho} {σ : Si}
/-- the better of claims, one more looked at -/
def hstep (wh pf dy : Nat → Int) (cell day closing b : Int) (i : Nat) : Int := if wh i = cell ∧ dy i ≤ day ∧ dy i ≤ closing ∧ (b = -1 ∨ pf b.toNat < pf i ∨ (pf i = pf b.toNat ∧ dy i < dy b.toNat)) then (i : Int) else b
def hfold (wh pf dy : Nat → Int) (cell day closing : Int) : Nat → Int
  | 0 => -1
  | i + 1 => hstep wh pf dy cell day closing (hfold wh pf dy cell day closing i) i
theorem hfold_r (wh pf dy : Nat → Int) (cell day closing : Int) : ∀ i, -1 ≤ hfold wh pf dy cell day closing i ∧ hfold wh pf dy cell day closing i < i
  | 0 => by unfold hfold; omega
  | i + 1 => by
    have := hfold_r wh pf dy cell day closing i
    show -1 ≤ hstep wh pf dy cell day closing _ i ∧ hstep wh pf dy cell day closing _ i < _
    unfold hstep
    split <;> omega
/-- THE HOLDER -/
def hold (us rd wh pf dy : Nat → Int) (N : Nat) (cell : Nat) (day closing : Int) : Int := if us cell = 1 ∧ ¬ rd cell = 1 then hfold wh pf dy cell day closing N else -1
set_option maxHeartbeats 4000000 in
theorem c_holderAt (hs : Std n ρ) (hR : Rg σ) (cell : Nat) (day closing : Int) (hc : cell < 80) (hd : R32 day) (hcl : R32 closing) (N : Nat) (hN : σ 19 2 = N) (hN4 : N ≤ 40) : RdI l G 0 mX4_holderAt n ρ σ [rf G 19, iv cell, iv day, iv closing] (hold (σ 5) (σ 6) (σ 23) (σ 24) (σ 25) N cell day closing) := by
  have loop : ∀ (m i : Nat) (b : Int) (x6 : Value) (Q : Si → Int → Prop), i + m = N → b = hfold (σ 23) (σ 24) (σ 25) cell day closing i → isJ x6 = false → Q σ (hfold (σ 23) (σ 24) (σ 25) cell day closing N) → RW (KI l G 0 mX4_holderAt n ρ Q) (0, 0, n, ρ) σ 38 [rf G 19, iv cell, iv day, iv closing, iv b, iv i, x6] [] := by
    intro m
    induction m with
    | zero =>
      intro i b x6 Q hi hb hx hQ
      have hr := hfold_r (σ 23) (σ 24) (σ 25) cell day closing i
      have hi' : i = N := by omega
      subst hi'
      refine r_iload dX4_holderAt_38 rfl ?_
      refine r_aloadk_n dX4_holderAt_40 rfl ?_
      refine r_geti dX4_holderAt_41 fl_X4_47 rfl rfl (hs.lt rfl) ?_
      refine r_icmpge (tgt := 162) dX4_holderAt_44 rfl (by first | exact hR _ (Nat.le_of_ble_eq_true rfl) _ | omega) (by first | exact hR _ (Nat.le_of_ble_eq_true rfl) _ | omega) (fun h44 => ?_) (fun h44 => ?_)
      · refine r_iload dX4_holderAt_162 rfl ?_
        exact r_ireti dX4_holderAt_164 rfl ⟨_, rfl, by rw [hb]; exact hQ⟩
      · omega
    | succ m ih =>
      intro i b x6 Q hi hb hx hQ
      have hr := hfold_r (σ 23) (σ 24) (σ 25) cell day closing i
      have hlt : i < 40 := by omega
      refine r_iload dX4_holderAt_38 rfl ?_
      refine r_aloadk_n dX4_holderAt_40 rfl ?_
      refine r_geti dX4_holderAt_41 fl_X4_47 rfl rfl (hs.lt rfl) ?_
      refine r_icmpge (tgt := 162) dX4_holderAt_44 rfl (by first | exact hR _ (Nat.le_of_ble_eq_true rfl) _ | omega) (by first | exact hR _ (Nat.le_of_ble_eq_true rfl) _ | omega) (fun h44 => ?_) (fun h44 => ?_)
      · omega
      · refine r_aloadk_n dX4_holderAt_47 rfl ?_
        refine r_getr dX4_holderAt_48 fl_X4_21 rfl rfl (hs.lt rfl) (hs.rf rfl) ?_
        refine r_iload dX4_holderAt_51 rfl ?_
        refine r_iald dX4_holderAt_53 rfl (hs.lt rfl) rfl (by omega) ?_
        refine r_iload_n dX4_holderAt_54 rfl ?_
        refine r_icmpne (tgt := 156) dX4_holderAt_55 rfl (by first | exact hR _ (Nat.le_of_ble_eq_true rfl) _ | omega) (by first | exact hR _ (Nat.le_of_ble_eq_true rfl) _ | omega) (fun h55 => ?_) (fun h55 => ?_)
        · refine r_iinc dX4_holderAt_156 (Nat.le_of_ble_eq_true rfl) rfl rfl s5 ?_
          refine r_goto (tgt := 38) dX4_holderAt_159 rfl ?_
          exact ih (i + 1) _ _ Q (by omega) (by subst hb; first | exact (if_neg (by omega)).symm | exact (if_pos (by omega)).symm) (by first | exact hx | rfl) hQ
        · refine r_aloadk_n dX4_holderAt_58 rfl ?_
          refine r_getr dX4_holderAt_59 fl_X4_27 rfl rfl (hs.lt rfl) (hs.rf rfl) ?_
          refine r_iload dX4_holderAt_62 rfl ?_
          refine r_iald dX4_holderAt_64 rfl (hs.lt rfl) rfl (by omega) ?_
          refine r_iload_n dX4_holderAt_65 rfl ?_
          refine r_icmpgt (tgt := 156) dX4_holderAt_66 rfl (by first | exact hR _ (Nat.le_of_ble_eq_true rfl) _ | omega) (by first | exact hR _ (Nat.le_of_ble_eq_true rfl) _ | omega) (fun h66 => ?_) (fun h66 => ?_)
          · refine r_iinc dX4_holderAt_156 (Nat.le_of_ble_eq_true rfl) rfl rfl s5 ?_
            refine r_goto (tgt := 38) dX4_holderAt_159 rfl ?_
            exact ih (i + 1) _ _ Q (by omega) (by subst hb; first | exact (if_neg (by omega)).symm | exact (if_pos (by omega)).symm) (by first | exact hx | rfl) hQ
          · refine r_aloadk_n dX4_holderAt_69 rfl ?_
            refine r_getr dX4_holderAt_70 fl_X4_27 rfl rfl (hs.lt rfl) (hs.rf rfl) ?_
            refine r_iload dX4_holderAt_73 rfl ?_
            refine r_iald dX4_holderAt_75 rfl (hs.lt rfl) rfl (by omega) ?_
            refine r_iload_n dX4_holderAt_76 rfl ?_
            refine r_icmple (tgt := 83) dX4_holderAt_77 rfl (by first | exact hR _ (Nat.le_of_ble_eq_true rfl) _ | omega) (by first | exact hR _ (Nat.le_of_ble_eq_true rfl) _ | omega) (fun h77 => ?_) (fun h77 => ?_)
            · refine r_iload dX4_holderAt_83 rfl ?_
              refine r_iconst dX4_holderAt_85 ?_
              refine r_icmpeq (tgt := 140) dX4_holderAt_86 rfl (by first | exact hR _ (Nat.le_of_ble_eq_true rfl) _ | omega) (by first | exact hR _ (Nat.le_of_ble_eq_true rfl) _ | omega) (fun h86 => ?_) (fun h86 => ?_)
              · refine r_iconst dX4_holderAt_140 ?_
                refine r_goto (tgt := 145) dX4_holderAt_141 rfl ?_
                refine r_istore dX4_holderAt_145 (Nat.le_of_ble_eq_true rfl) rfl s6 ?_
                refine r_iload dX4_holderAt_147 rfl ?_
                refine r_ifeq (tgt := 156) dX4_holderAt_149 rfl (by first | exact hR _ (Nat.le_of_ble_eq_true rfl) _ | omega) (fun h149 => absurd h149 (by decide)) (fun h149 => ?_)
                refine r_iload dX4_holderAt_152 rfl ?_
                refine r_istore dX4_holderAt_154 (Nat.le_of_ble_eq_true rfl) rfl s4 ?_
                refine r_iinc dX4_holderAt_156 (Nat.le_of_ble_eq_true rfl) rfl rfl s5 ?_
                refine r_goto (tgt := 38) dX4_holderAt_159 rfl ?_
                exact ih (i + 1) _ _ Q (by omega) (by subst hb; first | exact (if_neg (by omega)).symm | exact (if_pos (by omega)).symm) (by first | exact hx | rfl) hQ
              · refine r_aloadk_n dX4_holderAt_89 rfl ?_
                refine r_getr dX4_holderAt_90 fl_X4_24 rfl rfl (hs.lt rfl) (hs.rf rfl) ?_
                refine r_iload dX4_holderAt_93 rfl ?_
                refine r_iald dX4_holderAt_95 rfl (hs.lt rfl) rfl (by omega) ?_
                refine r_aloadk_n dX4_holderAt_96 rfl ?_
                refine r_getr dX4_holderAt_97 fl_X4_24 rfl rfl (hs.lt rfl) (hs.rf rfl) ?_
                refine r_iload dX4_holderAt_100 rfl ?_
                refine r_iald dX4_holderAt_102 rfl (hs.lt rfl) (c := b.toNat) (by omega) (by omega) ?_
                refine r_icmpgt (tgt := 140) dX4_holderAt_103 rfl (by first | exact hR _ (Nat.le_of_ble_eq_true rfl) _ | omega) (by first | exact hR _ (Nat.le_of_ble_eq_true rfl) _ | omega) (fun h103 => ?_) (fun h103 => ?_)
                · refine r_iconst dX4_holderAt_140 ?_
                  refine r_goto (tgt := 145) dX4_holderAt_141 rfl ?_
                  refine r_istore dX4_holderAt_145 (Nat.le_of_ble_eq_true rfl) rfl s6 ?_
                  refine r_iload dX4_holderAt_147 rfl ?_
                  refine r_ifeq (tgt := 156) dX4_holderAt_149 rfl (by first | exact hR _ (Nat.le_of_ble_eq_true rfl) _ | omega) (fun h149 => absurd h149 (by decide)) (fun h149 => ?_)
                  refine r_iload dX4_holderAt_152 rfl ?_
                  refine r_istore dX4_holderAt_154 (Nat.le_of_ble_eq_true rfl) rfl s4 ?_
                  refine r_iinc dX4_holderAt_156 (Nat.le_of_ble_eq_true rfl) rfl rfl s5 ?_
                  refine r_goto (tgt := 38) dX4_holderAt_159 rfl ?_
                  exact ih (i + 1) _ _ Q (by omega) (by subst hb; first | exact (if_neg (by omega)).symm | exact (if_pos (by omega)).symm) (by first | exact hx | rfl) hQ
                · refine r_aloadk_n dX4_holderAt_106 rfl ?_
                  refine r_getr dX4_holderAt_107 fl_X4_24 rfl rfl (hs.lt rfl) (hs.rf rfl) ?_
                  refine r_iload dX4_holderAt_110 rfl ?_
                  refine r_iald dX4_holderAt_112 rfl (hs.lt rfl) rfl (by omega) ?_
                  refine r_aloadk_n dX4_holderAt_113 rfl ?_
                  refine r_getr dX4_holderAt_114 fl_X4_24 rfl rfl (hs.lt rfl) (hs.rf rfl) ?_
                  refine r_iload dX4_holderAt_117 rfl ?_
                  refine r_iald dX4_holderAt_119 rfl (hs.lt rfl) (c := b.toNat) (by omega) (by omega) ?_
                  refine r_icmpne (tgt := 144) dX4_holderAt_120 rfl (by first | exact hR _ (Nat.le_of_ble_eq_true rfl) _ | omega) (by first | exact hR _ (Nat.le_of_ble_eq_true rfl) _ | omega) (fun h120 => ?_) (fun h120 => ?_)
                  · refine r_iconst dX4_holderAt_144 ?_
                    refine r_istore dX4_holderAt_145 (Nat.le_of_ble_eq_true rfl) rfl s6 ?_
                    refine r_iload dX4_holderAt_147 rfl ?_
                    refine r_ifeq (tgt := 156) dX4_holderAt_149 rfl (by first | exact hR _ (Nat.le_of_ble_eq_true rfl) _ | omega) (fun h149 => ?_) (fun h149 => absurd h149 (by decide))
                    refine r_iinc dX4_holderAt_156 (Nat.le_of_ble_eq_true rfl) rfl rfl s5 ?_
                    refine r_goto (tgt := 38) dX4_holderAt_159 rfl ?_
                    exact ih (i + 1) _ _ Q (by omega) (by subst hb; first | exact (if_neg (by omega)).symm | exact (if_pos (by omega)).symm) (by first | exact hx | rfl) hQ
                  · refine r_aloadk_n dX4_holderAt_123 rfl ?_
                    refine r_getr dX4_holderAt_124 fl_X4_27 rfl rfl (hs.lt rfl) (hs.rf rfl) ?_
                    refine r_iload dX4_holderAt_127 rfl ?_
                    refine r_iald dX4_holderAt_129 rfl (hs.lt rfl) rfl (by omega) ?_
                    refine r_aloadk_n dX4_holderAt_130 rfl ?_
                    refine r_getr dX4_holderAt_131 fl_X4_27 rfl rfl (hs.lt rfl) (hs.rf rfl) ?_
                    refine r_iload dX4_holderAt_134 rfl ?_
                    refine r_iald dX4_holderAt_136 rfl (hs.lt rfl) (c := b.toNat) (by omega) (by omega) ?_
                    refine r_icmpge (tgt := 144) dX4_holderAt_137 rfl (by first | exact hR _ (Nat.le_of_ble_eq_true rfl) _ | omega) (by first | exact hR _ (Nat.le_of_ble_eq_true rfl) _ | omega) (fun h137 => ?_) (fun h137 => ?_)
                    · refine r_iconst dX4_holderAt_144 ?_
                      refine r_istore dX4_holderAt_145 (Nat.le_of_ble_eq_true rfl) rfl s6 ?_
                      refine r_iload dX4_holderAt_147 rfl ?_
                      refine r_ifeq (tgt := 156) dX4_holderAt_149 rfl (by first | exact hR _ (Nat.le_of_ble_eq_true rfl) _ | omega) (fun h149 => ?_) (fun h149 => absurd h149 (by decide))
                      refine r_iinc dX4_holderAt_156 (Nat.le_of_ble_eq_true rfl) rfl rfl s5 ?_
                      refine r_goto (tgt := 38) dX4_holderAt_159 rfl ?_
                      exact ih (i + 1) _ _ Q (by omega) (by subst hb; first | exact (if_neg (by omega)).symm | exact (if_pos (by omega)).symm) (by first | exact hx | rfl) hQ
                    · refine r_iconst dX4_holderAt_140 ?_
                      refine r_goto (tgt := 145) dX4_holderAt_141 rfl ?_
                      refine r_istore dX4_holderAt_145 (Nat.le_of_ble_eq_true rfl) rfl s6 ?_
                      refine r_iload dX4_holderAt_147 rfl ?_
                      refine r_ifeq (tgt := 156) dX4_holderAt_149 rfl (by first | exact hR _ (Nat.le_of_ble_eq_true rfl) _ | omega) (fun h149 => absurd h149 (by decide)) (fun h149 => ?_)
                      refine r_iload dX4_holderAt_152 rfl ?_
                      refine r_istore dX4_holderAt_154 (Nat.le_of_ble_eq_true rfl) rfl s4 ?_
                      refine r_iinc dX4_holderAt_156 (Nat.le_of_ble_eq_true rfl) rfl rfl s5 ?_
                      refine r_goto (tgt := 38) dX4_holderAt_159 rfl ?_
                      exact ih (i + 1) _ _ Q (by omega) (by subst hb; first | exact (if_neg (by omega)).symm | exact (if_pos (by omega)).symm) (by first | exact hx | rfl) hQ
            · refine r_goto (tgt := 156) dX4_holderAt_80 rfl ?_
              refine r_iinc dX4_holderAt_156 (Nat.le_of_ble_eq_true rfl) rfl rfl s5 ?_
              refine r_goto (tgt := 38) dX4_holderAt_159 rfl ?_
              exact ih (i + 1) _ _ Q (by omega) (by subst hb; first | exact (if_neg (by omega)).symm | exact (if_pos (by omega)).symm) (by first | exact hx | rfl) hQ
  refine Ct.of (L0 := [rf G 19, iv cell, iv day, iv closing, xx, xx, xx]) (by decide +kernel) (Nat.le_of_ble_eq_true rfl) rfl ?_
  refine r_aloadk_n dX4_holderAt_0 rfl ?_
  refine r_getr dX4_holderAt_1 fl_X4_39 rfl rfl (hs.lt rfl) (hs.rf rfl) ?_
  refine r_getr dX4_holderAt_4 fl_X4_53 rfl rfl (hs.lt rfl) (hs.rf rfl) ?_
  refine r_iconst dX4_holderAt_7 ?_
  refine r_aald dX4_holderAt_8 rfl (hs.lt rfl) (c := 1) rfl (Nat.le_of_ble_eq_true rfl) (hs.rf rfl) ?_
  refine r_iload_n dX4_holderAt_9 rfl ?_
  refine r_iald dX4_holderAt_10 rfl (hs.lt rfl) rfl (by omega) ?_
  refine r_iconst dX4_holderAt_11 ?_
  refine r_icmpne (tgt := 30) dX4_holderAt_12 rfl (by first | exact hR _ (Nat.le_of_ble_eq_true rfl) _ | omega) (by first | exact hR _ (Nat.le_of_ble_eq_true rfl) _ | omega) (fun h12 => ?_) (fun h12 => ?_)
  · refine r_iconst dX4_holderAt_30 ?_
    exact r_ireti dX4_holderAt_31 rfl ⟨_, rfl, rfl, (if_neg (by omega)).symm⟩
  · refine r_aloadk_n dX4_holderAt_15 rfl ?_
    refine r_getr dX4_holderAt_16 fl_X4_39 rfl rfl (hs.lt rfl) (hs.rf rfl) ?_
    refine r_getr dX4_holderAt_19 fl_X4_53 rfl rfl (hs.lt rfl) (hs.rf rfl) ?_
    refine r_iconst dX4_holderAt_22 ?_
    refine r_aald dX4_holderAt_23 rfl (hs.lt rfl) (c := 2) rfl (Nat.le_of_ble_eq_true rfl) (hs.rf rfl) ?_
    refine r_iload_n dX4_holderAt_24 rfl ?_
    refine r_iald dX4_holderAt_25 rfl (hs.lt rfl) rfl (by omega) ?_
    refine r_iconst dX4_holderAt_26 ?_
    refine r_icmpne (tgt := 32) dX4_holderAt_27 rfl (by first | exact hR _ (Nat.le_of_ble_eq_true rfl) _ | omega) (by first | exact hR _ (Nat.le_of_ble_eq_true rfl) _ | omega) (fun h27 => ?_) (fun h27 => ?_)
    · refine r_iconst dX4_holderAt_32 ?_
      refine r_istore dX4_holderAt_33 (Nat.le_of_ble_eq_true rfl) rfl s4 ?_
      refine r_iconst dX4_holderAt_35 ?_
      refine r_istore dX4_holderAt_36 (Nat.le_of_ble_eq_true rfl) rfl s5 ?_
      exact loop N 0 _ _ _ (by omega) rfl rfl ⟨rfl, (if_pos (by omega)).symm⟩
    · refine r_iconst dX4_holderAt_30 ?_
      exact r_ireti dX4_holderAt_31 rfl ⟨_, rfl, rfl, (if_neg (by omega)).symm⟩
end Holder
