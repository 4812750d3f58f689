/-! DRAWING: lowBit, highBit, findSitesDown, findSites -/
section DSites
variable {l : Launch} {G : GG} {n : Nat} {ρ : Rho} {σ : Si} {W H P C O : Nat}
theorem c_lowBit (c : Nat) (hc : c < 80) : RdJ l G 0 mX0_lowBit n ρ σ [iv c] ((if c < 64 then 2 ^ c else 0 : Nat) : Int) := by
  by_cases h : c < 64
  · rw [if_pos h]
    refine Ct.of (L0 := [iv c]) (by decide +kernel) (Nat.le_of_ble_eq_true rfl) rfl ?_
    refine r_iload_n dX0_lowBit_0 rfl ?_
    refine r_bipush dX0_lowBit_1 ?_
    refine r_icmpge (tgt := 12) dX0_lowBit_3 rfl (by omega) (by omega) (fun h3 => ?_) (fun h3 => ?_)
    · omega
    · refine r_lconst1 dX0_lowBit_6 ?_
      refine r_iload_n dX0_lowBit_7 rfl ?_
      refine r_lshl1 (c := c) dX0_lowBit_8 h ?_
      refine r_goto (tgt := 13) dX0_lowBit_9 rfl ?_
      exact r_lret dX0_lowBit_13 rfl ⟨_, rfl, rfl, rfl⟩
  · rw [if_neg h]
    refine Ct.of (L0 := [iv c]) (by decide +kernel) (Nat.le_of_ble_eq_true rfl) rfl ?_
    refine r_iload_n dX0_lowBit_0 rfl ?_
    refine r_bipush dX0_lowBit_1 ?_
    refine r_icmpge (tgt := 12) dX0_lowBit_3 rfl (by omega) (by omega) (fun h3 => ?_) (fun h3 => ?_)
    · refine r_lconst0 dX0_lowBit_12 ?_
      exact r_lret dX0_lowBit_13 rfl ⟨_, rfl, rfl, rfl⟩
    · omega
theorem c_highBit (c : Nat) (hc : c < 80) : RdJ l G 0 mX0_highBit n ρ σ [iv c] ((if c < 64 then 0 else 2 ^ (c - 64) : Nat) : Int) := by
  by_cases h : c < 64
  · rw [if_pos h]
    refine Ct.of (L0 := [iv c]) (by decide +kernel) (Nat.le_of_ble_eq_true rfl) rfl ?_
    refine r_iload_n dX0_highBit_0 rfl ?_
    refine r_bipush dX0_highBit_1 ?_
    refine r_icmpge (tgt := 10) dX0_highBit_3 rfl (by omega) (by omega) (fun h3 => ?_) (fun h3 => ?_)
    · omega
    · refine r_lconst0 dX0_highBit_6 ?_
      refine r_goto (tgt := 16) dX0_highBit_7 rfl ?_
      exact r_lret dX0_highBit_16 rfl ⟨_, rfl, rfl, rfl⟩
  · rw [if_neg h]
    refine Ct.of (L0 := [iv c]) (by decide +kernel) (Nat.le_of_ble_eq_true rfl) rfl ?_
    refine r_iload_n dX0_highBit_0 rfl ?_
    refine r_bipush dX0_highBit_1 ?_
    refine r_icmpge (tgt := 10) dX0_highBit_3 rfl (by omega) (by omega) (fun h3 => ?_) (fun h3 => ?_)
    · refine r_lconst1 dX0_highBit_10 ?_
      refine r_iload_n dX0_highBit_11 rfl ?_
      refine r_bipush dX0_highBit_12 ?_
      refine r_isub dX0_highBit_14 ?_
      rw [show iv ((c : Int) - 64) = iv ((c - 64 : Nat) : Int) by congr 1; omega]
      refine r_lshl1 (c := c - 64) dX0_highBit_15 (by omega) ?_
      exact r_lret dX0_highBit_16 rfl ⟨_, rfl, rfl, rfl⟩
    · omega
theorem ud_self {f : Nat → Int} {j : Nat} : ud f j (f j) = f := by
  funext b
  unfold ud
  split
  · rename_i h; rw [h]
  · rfl
def dR (σ : Si) (nn : Int) (f1 f2 f3 f4 : Nat → Int) : Si := sr (sr (sr (sr (sr σ 73 (ud (σ 73) 3 nn)) 74 f1) 75 f2) 76 f3) 77 f4
theorem dR_lo {nn : Int} {f1 f2 f3 f4 : Nat → Int} {k : Nat} (h : k < 73) : dR σ nn f1 f2 f3 f4 k = σ k := by
  unfold dR
  rw [sr_ne (show k ≠ 77 by omega), sr_ne (show k ≠ 76 by omega), sr_ne (show k ≠ 75 by omega), sr_ne (show k ≠ 74 by omega), sr_ne (show k ≠ 73 by omega)]
theorem dR_Rg {nn : Int} {f1 f2 f3 f4 : Nat → Int} (h : Rg σ) : Rg (dR σ nn f1 f2 f3 f4) := by
  intro k hk j
  rw [dR_lo (by omega)]
  exact h k hk j
theorem dR_up {nn v1 v2 v3 v4 m2 : Int} {f1 f2 f3 f4 : Nat → Int} {j : Nat} : up (up (up (up (up (dR σ nn f1 f2 f3 f4) 74 j v1) 75 j v2) 76 j v3) 77 j v4) 73 3 m2 = dR σ m2 (ud f1 j v1) (ud f2 j v2) (ud f3 j v3) (ud f4 j v4) := by
  funext a b
  unfold dR sr up ud
  by_cases e73 : a = 73
  · subst e73
    by_cases e3 : b = 3
    · simp [e3]
    · simp [e3]
  · by_cases e74 : a = 74
    · subst e74; simp
    · by_cases e75 : a = 75
      · subst e75; simp
      · by_cases e76 : a = 76
        · subst e76; simp
        · by_cases e77 : a = 77
          · subst e77; simp
          · simp [e73, e74, e75, e76, e77]
theorem dR_dR {nn m2 : Int} {f1 f2 f3 f4 g1 g2 g3 g4 : Nat → Int} : dR (dR σ nn f1 f2 f3 f4) m2 g1 g2 g3 g4 = dR σ m2 g1 g2 g3 g4 := by
  funext a b
  unfold dR sr ud
  by_cases e73 : a = 73
  · subst e73
    by_cases e3 : b = 3
    · simp [e3]
    · simp [e3]
  · by_cases e74 : a = 74
    · subst e74; simp
    · by_cases e75 : a = 75
      · subst e75; simp
      · by_cases e76 : a = 76
        · subst e76; simp
        · by_cases e77 : a = 77
          · subst e77; simp
          · simp [e73, e74, e75, e76, e77]
theorem dR_self {nn : Int} : dR σ nn (σ 74) (σ 75) (σ 76) (σ 77) = sr σ 73 (ud (σ 73) 3 nn) := by
  unfold dR
  rw [sr_eq (τ := sr σ 73 (ud (σ 73) 3 nn)) (a := 74) (v := σ 74) rfl, sr_eq (τ := sr σ 73 (ud (σ 73) 3 nn)) (a := 75) (v := σ 75) rfl, sr_eq (τ := sr σ 73 (ud (σ 73) 3 nn)) (a := 76) (v := σ 76) rfl, sr_eq (τ := sr σ 73 (ud (σ 73) 3 nn)) (a := 77) (v := σ 77) rfl]
/-- the class's rows of sites -/
def RowsC (so : Nat → Int) (W : Nat) (L : List Tri) (f1 f2 f3 f4 : Nat → Int) : Prop :=
  ∀ s, s < L.length → f1 s = (shpT (atS L s) : Nat) ∧ f2 s = worT so W (atS L s) ∧ f3 s = (mskT W (atS L s) % 2 ^ 64 : Nat) ∧ f4 s = (mskT W (atS L s) / 2 ^ 64 : Nat)
theorem RowsC.add {so : Nat → Int} {W : Nat} {L : List Tri} {f1 f2 f3 f4 : Nat → Int} (h : RowsC so W L f1 f2 f3 f4) (t : Tri) : RowsC so W (L ++ [t]) (ud f1 L.length (shpT t : Nat)) (ud f2 L.length (worT so W t)) (ud f3 L.length (mskT W t % 2 ^ 64 : Nat)) (ud f4 L.length (mskT W t / 2 ^ 64 : Nat)) := by
  intro s hs
  rw [List.length_append] at hs
  by_cases e : s = L.length
  · have ea : atS (L ++ [t]) s = t := by rw [e]; exact at_len
    rw [ea, e]
    simp only [ud_at]
    exact ⟨trivial, trivial, trivial, trivial⟩
  · have hs' : s < L.length := by have : [t].length = 1 := rfl; omega
    have ea : atS (L ++ [t]) s = atS L s := at_lt hs'
    rw [ea, ud_ne e, ud_ne e, ud_ne e, ud_ne e]
    exact h s hs'
set_option maxHeartbeats 8000000 in
theorem c_findSitesDown (hs : Std n ρ) (hsD : StdD n ρ) (hR : Rg σ) (g : Geo σ W H) (hso : ∀ c, 0 ≤ σ 4 c ∧ σ 4 c ≤ 9) (c w : Nat) (LL : List Tri) (hc : c < W * H) (hw : c % W + w ≤ W) (hroom : ∀ t, c / W + (t + 1) ≤ H → LL.length + (sitesDn (σ 5) (σ 6) W H c w t).length < 1980) (hl : σ 73 3 = LL.length) (hrow : RowsC (σ 4) W LL (σ 74) (σ 75) (σ 76) (σ 77)) : CtV l G 1 mX0_findSitesDown n ρ σ [rf G 73, iv c, iv w, jl (maskN (beB (σ 6) W H) (W * H) % 2 ^ 64 : Nat), jl (maskN (beB (σ 6) W H) (W * H) / 2 ^ 64 : Nat)] (fun σ' => ∃ f1 f2 f3 f4 : Nat → Int, RowsC (σ 4) W (LL ++ sitesDn (σ 5) (σ 6) W H c w (H - c / W)) f1 f2 f3 f4 ∧ σ' = dR σ (LL ++ sitesDn (σ 5) (σ 6) W H c w (H - c / W)).length f1 f2 f3 f4) := by
  have hle := g.le
  have hW : 0 < W := by have := g.2.2.2.1; omega
  have hW10 := g.2.2.2.1.2
  have hH8 := g.2.2.2.2.1.2
  have g1 := g.1
  have g2 := g.2.1
  have g8 := (g.2.2.2.2.2 c hc).2
  have cd : c / W < H := Nat.div_lt_of_lt_mul hc
  have cn := Int.natCast_nonneg (c / W)
  have hw10 : w ≤ 10 := by omega
  generalize hRR : maskN (beB (σ 6) W H) (W * H) = R
  have hRl : R < 2 ^ 80 := by rw [← hRR]; exact maskN_lt _ hle
  have hRm : R % 2 ^ 64 < 2 ^ 64 := Nat.mod_lt _ (Nat.two_pow_pos 64)
  have hRd : R / 2 ^ 64 < 2 ^ 64 := by omega
  generalize hQ : (fun (σ' : Si) => ∃ f1 f2 f3 f4 : Nat → Int, RowsC (σ 4) W (LL ++ sitesDn (σ 5) (σ 6) W H c w (H - c / W)) f1 f2 f3 f4 ∧ σ' = dR σ (LL ++ sitesDn (σ 5) (σ 6) W H c w (H - c / W)).length f1 f2 f3 f4) = Q
  have outer : ∀ (m t : Nat) (x14 x15 : Value) (f1 f2 f3 f4 : Nat → Int), t + m = H - c / W → anyR (npB (σ 5) (σ 6)) W c w t = false → RowsC (σ 4) W (LL ++ sitesDn (σ 5) (σ 6) W H c w t) f1 f2 f3 f4 → RW (KV l G 1 mX0_findSitesDown n ρ Q) (0, 0, n, ρ) (dR σ (LL ++ sitesDn (σ 5) (σ 6) W H c w t).length f1 f2 f3 f4) 31 [rf G 73, iv c, iv w, jl (R % 2 ^ 64 : Nat), xx, jl (R / 2 ^ 64 : Nat), xx, jl (mskR W c w t % 2 ^ 64 : Nat), xx, jl (mskR W c w t / 2 ^ 64 : Nat), xx, iv (worR (σ 4) W c w t), iv (H - c / W : Nat), iv (t + 1 : Nat), x14, x15] [] := by
    intro m
    induction m with
    | zero =>
      intro t x14 x15 f1 f2 f3 f4 ht hnp hrow
      have e : t = H - c / W := by omega
      subst e
      refine r_iload dX0_findSitesDown_31 rfl ?_
      refine r_iload dX0_findSitesDown_33 rfl ?_
      refine r_icmpgt (tgt := 232) dX0_findSitesDown_35 rfl (by omega) (by omega) (fun h35 => ?_) (fun h35 => ?_)
      · exact r_vret dX0_findSitesDown_232 rfl ⟨rfl, by rw [← hQ]; exact ⟨f1, f2, f3, f4, hrow, rfl⟩⟩
      · omega
    | succ m ih =>
      intro t x14 x15 f1 f2 f3 f4 ht hnp hrow
      have hth : c / W + (t + 1) ≤ H := by omega
      have hrm := hroom t hth
      have hwr := worR_r (so := σ 4) (W := W) (c := c) (w := w) hso hw10 (t + 1)
      have hml := msk_lt (W := W) (H := H) (c := c) (w := w) (h := t + 1) hW hle hw hth (t + 1) (Nat.le_refl _)
      have hand : mskR W c w (t + 1) &&& R = 0 ↔ anyR (beB (σ 6) W H) W c w (t + 1) = false := msk_and (t + 1) (fun y hy x hx => by
        rw [← hRR, maskN_bit, decide_eq_true (cell_in hW hw hth hy hx), Bool.true_and])
      have hsp := and_split 64 (mskR W c w (t + 1)) R
      have edn : sitesDn (σ 5) (σ 6) W H c w (t + 1) = if okR (σ 5) (σ 6) W H c w (t + 1) then sitesDn (σ 5) (σ 6) W H c w t ++ [(c, w, t + 1)] else sitesDn (σ 5) (σ 6) W H c w t := rfl
      have edp : anyR (npB (σ 5) (σ 6)) W c w (t + 1) = true → sitesDn (σ 5) (σ 6) W H c w (H - c / W) = sitesDn (σ 5) (σ 6) W H c w t := fun q => sitesDn_np q _ (by omega)
      have hlen : (LL ++ sitesDn (σ 5) (σ 6) W H c w t).length < 1980 := by rw [List.length_append]; exact hrm
      have nx := ih (t + 1)
      generalize hM : LL ++ sitesDn (σ 5) (σ 6) W H c w t = MM at hrow hlen ⊢
      have L226 : ∀ (x14 x15 : Value) (σ1 : Si), (∀ x14 x15 : Value, RW (KV l G 1 mX0_findSitesDown n ρ Q) (0, 0, n, ρ) σ1 31 [rf G 73, iv c, iv w, jl (R % 2 ^ 64 : Nat), xx, jl (R / 2 ^ 64 : Nat), xx, jl (mskR W c w (t + 1) % 2 ^ 64 : Nat), xx, jl (mskR W c w (t + 1) / 2 ^ 64 : Nat), xx, iv (worR (σ 4) W c w (t + 1)), iv (H - c / W : Nat), iv (t + 1 + 1 : Nat), x14, x15] []) → RW (KV l G 1 mX0_findSitesDown n ρ Q) (0, 0, n, ρ) σ1 226 [rf G 73, iv c, iv w, jl (R % 2 ^ 64 : Nat), xx, jl (R / 2 ^ 64 : Nat), xx, jl (mskR W c w (t + 1) % 2 ^ 64 : Nat), xx, jl (mskR W c w (t + 1) / 2 ^ 64 : Nat), xx, iv (worR (σ 4) W c w (t + 1)), iv (H - c / W : Nat), iv (t + 1 : Nat), x14, x15] [] := by
        intro x14 x15 σ1 h1
        refine r_iinc dX0_findSitesDown_226 (Nat.le_of_ble_eq_true rfl) rfl rfl s13 ?_
        refine r_goto (tgt := 31) dX0_findSitesDown_229 rfl ?_
        exact h1 _ _
      have L154 : ∀ (x14 : Value), anyR (npB (σ 5) (σ 6)) W c w (t + 1) = false → anyR (beB (σ 6) W H) W c w (t + 1) = true → RW (KV l G 1 mX0_findSitesDown n ρ Q) (0, 0, n, ρ) (dR σ MM.length f1 f2 f3 f4) 154 [rf G 73, iv c, iv w, jl (R % 2 ^ 64 : Nat), xx, jl (R / 2 ^ 64 : Nat), xx, jl (mskR W c w (t + 1) % 2 ^ 64 : Nat), xx, jl (mskR W c w (t + 1) / 2 ^ 64 : Nat), xx, iv (worR (σ 4) W c w (t + 1)), iv (H - c / W : Nat), iv (t + 1 : Nat), x14, iv 1] [] := by
        intro x14 hp hb
        rw [edn, if_pos ⟨hp, hb⟩, ← List.append_assoc, hM] at nx
        have el : ((MM ++ [(c, w, t + 1)]).length : Int) = (MM.length : Int) + 1 := by rw [List.length_append]; rfl
        rw [el] at nx
        have nx2 := nx
        generalize hlo : mskR W c w (t + 1) % 2 ^ 64 = lo at nx ⊢
        generalize hhi : mskR W c w (t + 1) / 2 ^ 64 = hi at nx ⊢
        generalize hwo : worR (σ 4) W c w (t + 1) = wo at nx hwr ⊢
        have hadd := hrow.add (c, w, t + 1)
        rw [show mskT W (c, w, t + 1) = mskR W c w (t + 1) from rfl, show worT (σ 4) W (c, w, t + 1) = worR (σ 4) W c w (t + 1) from rfl, hlo, hhi, hwo] at hadd
        refine r_aloadk_n dX0_findSitesDown_154 rfl ?_
        refine r_geti dX0_findSitesDown_155 fl_X0_111 rfl rfl (hsD.lt rfl) ?_
        refine show RW _ _ _ _ _ (iv (MM.length : Int) :: _) from ?_
        refine r_sipush dX0_findSitesDown_158 ?_
        refine r_icmplt (tgt := 167) dX0_findSitesDown_161 rfl (by omega) (by omega) (fun h161 => ?_) (fun h161 => ?_)
        · refine r_aloadk_n dX0_findSitesDown_167 rfl ?_
          refine r_getr dX0_findSitesDown_168 fl_X0_11 rfl rfl (hsD.lt rfl) (hsD.rf rfl) ?_
          refine r_aloadk_n dX0_findSitesDown_171 rfl ?_
          refine r_geti dX0_findSitesDown_172 fl_X0_111 rfl rfl (hsD.lt rfl) ?_
          refine show RW _ _ _ _ _ (iv (MM.length : Int) :: _) from ?_
          refine r_iload_n dX0_findSitesDown_175 rfl ?_
          refine r_iload_n dX0_findSitesDown_176 rfl ?_
          refine r_iload dX0_findSitesDown_177 rfl ?_
          refine q_callSr dX0_findSitesDown_179 (c_shOf c w (t + 1) (by omega) (by omega) (by omega)) ml_X0_136 okX5_of rfl rfl (Nat.le_of_ble_eq_true rfl) (roomOK.of (by decide)) ⟨(Nat.le_of_ble_eq_true rfl), (Nat.le_of_ble_eq_true rfl)⟩ ?_
          refine r_iast dX0_findSitesDown_182 rfl (hsD.lt rfl) rfl (by omega) ?_
          refine r_aloadk_n dX0_findSitesDown_183 rfl ?_
          refine r_getr dX0_findSitesDown_184 fl_X0_15 rfl rfl (hsD.lt rfl) (hsD.rf rfl) ?_
          refine r_aloadk_n dX0_findSitesDown_187 rfl ?_
          refine r_geti dX0_findSitesDown_188 fl_X0_111 rfl rfl (hsD.lt rfl) ?_
          refine show RW _ _ _ _ _ (iv (MM.length : Int) :: _) from ?_
          refine r_iload dX0_findSitesDown_191 rfl ?_
          refine r_iast dX0_findSitesDown_193 rfl (hsD.lt rfl) rfl (by omega) ?_
          refine r_aloadk_n dX0_findSitesDown_194 rfl ?_
          refine r_getr dX0_findSitesDown_195 fl_X0_18 rfl rfl (hsD.lt rfl) (hsD.rf rfl) ?_
          refine r_aloadk_n dX0_findSitesDown_198 rfl ?_
          refine r_geti dX0_findSitesDown_199 fl_X0_111 rfl rfl (hsD.lt rfl) ?_
          refine show RW _ _ _ _ _ (iv (MM.length : Int) :: _) from ?_
          refine r_lload dX0_findSitesDown_202 rfl ?_
          refine r_last dX0_findSitesDown_204 rfl (hsD.lt rfl) rfl (by omega) ?_
          refine r_aloadk_n dX0_findSitesDown_205 rfl ?_
          refine r_getr dX0_findSitesDown_206 fl_X0_22 rfl rfl (hsD.lt rfl) (hsD.rf rfl) ?_
          refine r_aloadk_n dX0_findSitesDown_209 rfl ?_
          refine r_geti dX0_findSitesDown_210 fl_X0_111 rfl rfl (hsD.lt rfl) ?_
          refine show RW _ _ _ _ _ (iv (MM.length : Int) :: _) from ?_
          refine r_lload dX0_findSitesDown_213 rfl ?_
          refine r_last dX0_findSitesDown_215 rfl (hsD.lt rfl) rfl (by omega) ?_
          refine r_aloadk_n dX0_findSitesDown_216 rfl ?_
          refine r_dup dX0_findSitesDown_217 rfl ?_
          refine r_geti dX0_findSitesDown_218 fl_X0_111 rfl rfl (hsD.lt rfl) ?_
          refine show RW _ _ _ _ _ (iv (MM.length : Int) :: _) from ?_
          refine r_iconst dX0_findSitesDown_221 ?_
          refine r_iadd dX0_findSitesDown_222 ?_
          refine r_puti dX0_findSitesDown_223 fl_X0_111 rfl (hsD.lt rfl) ?_
          rw [dR_up]
          have := L226 x14 (iv 1) (dR σ ((MM.length : Int) + 1) (ud f1 MM.length (shpT (c, w, t + 1) : Nat)) (ud f2 MM.length wo) (ud f3 MM.length (lo : Nat)) (ud f4 MM.length (hi : Nat)))
          rw [hlo, hhi, hwo] at this
          exact this (fun y14 y15 => nx y14 y15 _ _ _ _ (by omega) hp hadd)
        · omega
      have inner : ∀ (m2 x k : Nat), x + m2 = w → k = c + W * t + x → rowB (npB (σ 5) (σ 6)) (anyR (npB (σ 5) (σ 6)) W c w t) (c + W * t) x = false → RW (KV l G 1 mX0_findSitesDown n ρ Q) (0, 0, n, ρ) (dR σ MM.length f1 f2 f3 f4) 58 [rf G 73, iv c, iv w, jl (R % 2 ^ 64 : Nat), xx, jl (R / 2 ^ 64 : Nat), xx, jl (bitsRow (mskR W c w t) (c + W * t) x % 2 ^ 64 : Nat), xx, jl (bitsRow (mskR W c w t) (c + W * t) x / 2 ^ 64 : Nat), xx, iv (rowS (σ 4) (worR (σ 4) W c w t) (c + W * t) x), iv (H - c / W : Nat), iv (t + 1 : Nat), iv (c + W * t : Nat), iv (k : Nat)] [] := by
        intro m2
        induction m2 with
        | zero =>
          intro x k hx hk hnx
          have e : x = w := by omega
          subst e
          have hp : anyR (npB (σ 5) (σ 6)) W c x (t + 1) = false := hnx
          rw [show bitsRow (mskR W c x t) (c + W * t) x = mskR W c x (t + 1) from rfl, show rowS (σ 4) (worR (σ 4) W c x t) (c + W * t) x = worR (σ 4) W c x (t + 1) from rfl]
          have hcl := cell_le (W := W) (H := H) (c := c) (w := x) (h := t + 1) (y := t) hW hw hth (by omega)
          have hml2 : mskR W c x (t + 1) / 2 ^ 64 < 2 ^ 64 := by omega
          have ha1 : mskR W c x (t + 1) % 2 ^ 64 &&& R % 2 ^ 64 < 18446744073709551616 := by have := Nat.and_lt_two_pow (mskR W c x (t + 1) % 2 ^ 64) hRm; omega
          have ha2 : mskR W c x (t + 1) / 2 ^ 64 &&& R / 2 ^ 64 < 18446744073709551616 := by have := Nat.and_lt_two_pow (mskR W c x (t + 1) / 2 ^ 64) hRd; omega
          refine r_iload dX0_findSitesDown_58 rfl ?_
          refine r_iload dX0_findSitesDown_60 rfl ?_
          refine r_iload_n dX0_findSitesDown_62 rfl ?_
          refine r_iadd dX0_findSitesDown_63 ?_
          refine r_icmpge (tgt := 123) dX0_findSitesDown_64 rfl (by omega) (by omega) (fun h64 => ?_) (fun h64 => ?_)
          · refine r_lload dX0_findSitesDown_123 rfl ?_
            refine r_lload_n dX0_findSitesDown_125 rfl ?_
            refine r_land (a := mskR W c x (t + 1) % 2 ^ 64) (b := R % 2 ^ 64) dX0_findSitesDown_126 ?_
            refine r_lconst0 dX0_findSitesDown_127 ?_
            refine r_lcmp0 (m := mskR W c x (t + 1) % 2 ^ 64 &&& R % 2 ^ 64) dX0_findSitesDown_128 ha1 (fun z1 hz1 he1 => ?_)
            refine r_ifne (tgt := 142) dX0_findSitesDown_129 rfl hz1 (fun h129 => ?_) (fun h129 => ?_)
            · refine r_iconst dX0_findSitesDown_142 ?_
              refine r_goto (tgt := 147) dX0_findSitesDown_143 rfl ?_
              refine r_istore dX0_findSitesDown_147 (Nat.le_of_ble_eq_true rfl) rfl s15 ?_
              refine r_iload dX0_findSitesDown_149 rfl ?_
              refine r_ifeq (tgt := 226) dX0_findSitesDown_151 rfl (by first | exact hR _ (Nat.le_of_ble_eq_true rfl) _ | omega) (fun h151 => absurd h151 (by decide)) (fun h151 => ?_)
              refine L154 _ hp ?_
              rw [← Bool.not_eq_false, ← hand, hsp]
              first
              | exact fun q => h129 (he1.mpr q.1)
              | exact fun q => h139 (he2.mpr q.2)
            · refine r_lload dX0_findSitesDown_132 rfl ?_
              refine r_lload dX0_findSitesDown_134 rfl ?_
              refine r_land (a := mskR W c x (t + 1) / 2 ^ 64) (b := R / 2 ^ 64) dX0_findSitesDown_136 ?_
              refine r_lconst0 dX0_findSitesDown_137 ?_
              refine r_lcmp0 (m := mskR W c x (t + 1) / 2 ^ 64 &&& R / 2 ^ 64) dX0_findSitesDown_138 ha2 (fun z2 hz2 he2 => ?_)
              refine r_ifeq (tgt := 146) dX0_findSitesDown_139 rfl hz2 (fun h139 => ?_) (fun h139 => ?_)
              · refine r_iconst dX0_findSitesDown_146 ?_
                refine r_istore dX0_findSitesDown_147 (Nat.le_of_ble_eq_true rfl) rfl s15 ?_
                refine r_iload dX0_findSitesDown_149 rfl ?_
                refine r_ifeq (tgt := 226) dX0_findSitesDown_151 rfl (by first | exact hR _ (Nat.le_of_ble_eq_true rfl) _ | omega) (fun h151 => ?_) (fun h151 => absurd h151 (by decide))
                have hb : anyR (beB (σ 6) W H) W c x (t + 1) = false := hand.mp (hsp.mpr ⟨he1.mp h129, he2.mp h139⟩)
                refine L226 _ _ _ (fun y14 y15 => ?_)
                rw [edn, if_neg (fun q => by have h2 := q.2; rw [hb] at h2; exact absurd h2 (by decide)), hM] at nx
                exact nx y14 y15 f1 f2 f3 f4 (by omega) hp hrow
              · refine r_iconst dX0_findSitesDown_142 ?_
                refine r_goto (tgt := 147) dX0_findSitesDown_143 rfl ?_
                refine r_istore dX0_findSitesDown_147 (Nat.le_of_ble_eq_true rfl) rfl s15 ?_
                refine r_iload dX0_findSitesDown_149 rfl ?_
                refine r_ifeq (tgt := 226) dX0_findSitesDown_151 rfl (by first | exact hR _ (Nat.le_of_ble_eq_true rfl) _ | omega) (fun h151 => absurd h151 (by decide)) (fun h151 => ?_)
                refine L154 _ hp ?_
                rw [← Bool.not_eq_false, ← hand, hsp]
                first
                | exact fun q => h129 (he1.mpr q.1)
                | exact fun q => h139 (he2.mpr q.2)
          · omega
        | succ m2 ih2 =>
          intro x k hx hk hnx
          have hkl := cell_in (x := x) (y := t) hW hw hth (by omega) (show x < w by omega)
          rw [← hk] at hkl
          have nx3 := ih2 (x + 1) (k + 1) (by omega) (by omega)
          rw [bits_lo, bits_hi] at nx3
          have es : rowS (σ 4) (worR (σ 4) W c w t) (c + W * t) (x + 1) = rowS (σ 4) (worR (σ 4) W c w t) (c + W * t) x + σ 4 (c + W * t + x) := rfl
          have en : ∀ f b, rowB f b (c + W * t) (x + 1) = (rowB f b (c + W * t) x || f (c + W * t + x)) := fun f b => rfl
          rw [es, en, hnx, Bool.false_or, ← hk] at nx3
          have hst : npB (σ 5) (σ 6) k = true → anyR (npB (σ 5) (σ 6)) W c w (t + 1) = true := fun q => rowB_up (x := x + 1) (by rw [en, ← hk, q, Bool.or_true]) w (by omega)
          generalize rowS (σ 4) (worR (σ 4) W c w t) (c + W * t) x = wo at nx3 ⊢
          generalize bitsRow (mskR W c w t) (c + W * t) x % 2 ^ 64 = lo at nx3 ⊢
          generalize bitsRow (mskR W c w t) (c + W * t) x / 2 ^ 64 = hi at nx3 ⊢
          generalize hlf : c + W * t = lf at nx3 hk ⊢
          refine r_iload dX0_findSitesDown_58 rfl ?_
          refine r_iload dX0_findSitesDown_60 rfl ?_
          refine r_iload_n dX0_findSitesDown_62 rfl ?_
          refine r_iadd dX0_findSitesDown_63 ?_
          refine r_icmpge (tgt := 123) dX0_findSitesDown_64 rfl (by omega) (by omega) (fun h64 => ?_) (fun h64 => ?_)
          · omega
          · refine r_aloadk_n dX0_findSitesDown_67 rfl ?_
            refine r_getr dX0_findSitesDown_68 fl_X0_45 rfl rfl (hsD.lt rfl) (hsD.rf rfl) ?_
            refine r_iload dX0_findSitesDown_71 rfl ?_
            refine q_callVr dX0_findSitesDown_73 (c_isPlain (σ := dR σ MM.length f1 f2 f3 f4) hs (dR_Rg hR) k (by omega)) ml_X0_130 okX1_isPlain rfl rfl (hsD.lt rfl) rfl rfl (Nat.le_of_ble_eq_true rfl) (roomOK.of (by decide)) ⟨(Nat.le_of_ble_eq_true rfl), (Nat.le_of_ble_eq_true rfl)⟩ ?_
            refine r_ifneb (tgt := 80) dX0_findSitesDown_76 rfl (fun h76 => ?_) (fun h76 => ?_)
            · refine r_iload dX0_findSitesDown_80 rfl ?_
              refine r_aloadk_n dX0_findSitesDown_82 rfl ?_
              refine r_getr dX0_findSitesDown_83 fl_X0_45 rfl rfl (hsD.lt rfl) (hsD.rf rfl) ?_
              refine r_getr dX0_findSitesDown_86 fl_X0_133 rfl rfl (hsD.lt rfl) (hs.rf rfl) ?_
              refine r_iconst dX0_findSitesDown_89 ?_
              refine r_aald dX0_findSitesDown_90 rfl (hsD.lt rfl) (c := 0) rfl (Nat.le_of_ble_eq_true rfl) (hs.rf rfl) ?_
              refine r_iload dX0_findSitesDown_91 rfl ?_
              refine r_iald dX0_findSitesDown_93 rfl (hsD.lt rfl) rfl (by omega) ?_
              refine show RW _ _ _ _ _ (iv (σ 4 k) :: _) from ?_
              refine r_iadd dX0_findSitesDown_94 ?_
              refine r_istore dX0_findSitesDown_95 (Nat.le_of_ble_eq_true rfl) rfl s11 ?_
              refine r_lload dX0_findSitesDown_97 rfl ?_
              refine r_iload dX0_findSitesDown_99 rfl ?_
              refine q_callSj dX0_findSitesDown_101 (c_lowBit k (by omega)) ml_X0_104 okX0_lowBit rfl rfl (Nat.le_of_ble_eq_true rfl) (roomOK.of (by decide)) ⟨(Nat.le_of_ble_eq_true rfl), (Nat.le_of_ble_eq_true rfl)⟩ ?_
              refine r_lor (a := lo) (b := if k < 64 then 2 ^ k else 0) dX0_findSitesDown_104 ?_
              refine r_lstore dX0_findSitesDown_105 (Nat.le_of_ble_eq_true rfl) rfl w7 ?_
              refine r_lload dX0_findSitesDown_107 rfl ?_
              refine r_iload dX0_findSitesDown_109 rfl ?_
              refine q_callSj dX0_findSitesDown_111 (c_highBit k (by omega)) ml_X0_108 okX0_highBit rfl rfl (Nat.le_of_ble_eq_true rfl) (roomOK.of (by decide)) ⟨(Nat.le_of_ble_eq_true rfl), (Nat.le_of_ble_eq_true rfl)⟩ ?_
              refine r_lor (a := hi) (b := if k < 64 then 0 else 2 ^ (k - 64)) dX0_findSitesDown_114 ?_
              refine r_lstore dX0_findSitesDown_115 (Nat.le_of_ble_eq_true rfl) rfl w9 ?_
              refine r_iinc dX0_findSitesDown_117 (Nat.le_of_ble_eq_true rfl) rfl rfl s15 ?_
              refine r_goto (tgt := 58) dX0_findSitesDown_120 rfl ?_
              exact nx3 (Bool.eq_false_iff.mpr (fun q => npB_t.mp q h76))
            · exact r_vret dX0_findSitesDown_79 rfl ⟨rfl, by
  rw [← hQ, edp (hst (npB_t.mpr h76)), hM]
  exact ⟨f1, f2, f3, f4, hrow, rfl⟩⟩
      refine r_iload dX0_findSitesDown_31 rfl ?_
      refine r_iload dX0_findSitesDown_33 rfl ?_
      refine r_icmpgt (tgt := 232) dX0_findSitesDown_35 rfl (by omega) (by omega) (fun h35 => ?_) (fun h35 => ?_)
      · omega
      · refine r_iload_n dX0_findSitesDown_38 rfl ?_
        refine r_iload dX0_findSitesDown_39 rfl ?_
        refine r_iconst dX0_findSitesDown_41 ?_
        refine r_isub dX0_findSitesDown_42 ?_
        refine r_aloadk_n dX0_findSitesDown_43 rfl ?_
        refine r_getr dX0_findSitesDown_44 fl_X0_45 rfl rfl (hsD.lt rfl) (hsD.rf rfl) ?_
        refine r_geti dX0_findSitesDown_47 fl_X0_114 rfl rfl (hsD.lt rfl) ?_
        refine show RW _ _ _ _ _ (iv (σ 2 0) :: _) from ?_
        rw [g1]
        refine r_imul dX0_findSitesDown_50 ?_
        refine r_iadd dX0_findSitesDown_51 ?_
        rw [show iv ((c : Int) + (((t + 1 : Nat) : Int) - 1) * (W : Int)) = iv ((c + W * t : Nat) : Int) by congr 1; push_cast; rw [show ((t : Int) + 1 - 1) = t by omega, Int.mul_comm]]
        refine r_istore dX0_findSitesDown_52 (Nat.le_of_ble_eq_true rfl) rfl s14 ?_
        refine r_iload dX0_findSitesDown_54 rfl ?_
        refine r_istore dX0_findSitesDown_56 (Nat.le_of_ble_eq_true rfl) rfl s15 ?_
        exact inner w 0 (c + W * t) (by omega) rfl hnp
  refine Ct.of (L0 := [rf G 73, iv c, iv w, jl (R % 2 ^ 64 : Nat), xx, jl (R / 2 ^ 64 : Nat), xx, xx, xx, xx, xx, xx, xx, xx, xx, xx]) (by decide +kernel) (Nat.le_of_ble_eq_true rfl) rfl ?_
  refine r_lconst0 dX0_findSitesDown_0 ?_
  refine r_lstore dX0_findSitesDown_1 (Nat.le_of_ble_eq_true rfl) rfl w7 ?_
  refine r_lconst0 dX0_findSitesDown_3 ?_
  refine r_lstore dX0_findSitesDown_4 (Nat.le_of_ble_eq_true rfl) rfl w9 ?_
  refine r_iconst dX0_findSitesDown_6 ?_
  refine r_istore dX0_findSitesDown_7 (Nat.le_of_ble_eq_true rfl) rfl s11 ?_
  refine r_aloadk_n dX0_findSitesDown_9 rfl ?_
  refine r_getr dX0_findSitesDown_10 fl_X0_45 rfl rfl (hsD.lt rfl) (hsD.rf rfl) ?_
  refine r_geti dX0_findSitesDown_13 fl_X0_124 rfl rfl (hsD.lt rfl) ?_
  refine r_aloadk_n dX0_findSitesDown_16 rfl ?_
  refine r_getr dX0_findSitesDown_17 fl_X0_45 rfl rfl (hsD.lt rfl) (hsD.rf rfl) ?_
  refine r_getr dX0_findSitesDown_20 fl_X0_127 rfl rfl (hsD.lt rfl) (hs.rf rfl) ?_
  refine r_iload_n dX0_findSitesDown_23 rfl ?_
  refine r_iald dX0_findSitesDown_24 rfl (hsD.lt rfl) rfl (by omega) ?_
  refine r_isub dX0_findSitesDown_25 ?_
  rw [show iv (σ 2 1 - σ 8 c) = iv ((H - c / W : Nat) : Int) by congr 1; omega]
  refine r_istore dX0_findSitesDown_26 (Nat.le_of_ble_eq_true rfl) rfl s12 ?_
  refine r_iconst dX0_findSitesDown_28 ?_
  refine r_istore dX0_findSitesDown_29 (Nat.le_of_ble_eq_true rfl) rfl s13 ?_
  have z := outer (H - c / W) 0 xx xx (σ 74) (σ 75) (σ 76) (σ 77) (by omega) rfl (by rw [show sitesDn (σ 5) (σ 6) W H c w 0 = [] from rfl, List.append_nil]; exact hrow)
  rw [show mskR W c w 0 = 0 from rfl, Nat.zero_mod, Nat.zero_div, show sitesDn (σ 5) (σ 6) W H c w 0 = [] from rfl, List.append_nil, dR_self, ← hl, ud_self, sr_self] at z
  exact z
theorem mask_lo {f : Nat → Bool} (k i : Nat) (h : f i = true) : maskN f (i + 1) % 2 ^ k = (maskN f i % 2 ^ k) ||| (if i < k then 2 ^ i else 0) := by
  rw [show maskN f (i + 1) = if f i = true then maskN f i ||| 2 ^ i else maskN f i from rfl, if_pos h, Nat.or_mod_two_pow, bit_lo]
theorem mask_hi {f : Nat → Bool} (k i : Nat) (h : f i = true) : maskN f (i + 1) / 2 ^ k = (maskN f i / 2 ^ k) ||| (if i < k then 0 else 2 ^ (i - k)) := by
  rw [show maskN f (i + 1) = if f i = true then maskN f i ||| 2 ^ i else maskN f i from rfl, if_pos h, Nat.or_div_two_pow, bit_hi]
theorem mask_no {f : Nat → Bool} (i : Nat) (h : ¬ f i = true) : maskN f (i + 1) = maskN f i := by
  rw [show maskN f (i + 1) = if f i = true then maskN f i ||| 2 ^ i else maskN f i from rfl, if_neg h]
set_option maxHeartbeats 8000000 in
theorem c_findSites (hs : Std n ρ) (hsD : StdD n ρ) (hR : Rg σ) (g : Geo σ W H) (hso : ∀ c, 0 ≤ σ 4 c ∧ σ 4 c ≤ 9) : CtV l G 2 mX0_findSites n ρ σ [rf G 73] (fun σ' => ∃ f1 f2 f3 f4 : Nat → Int, RowsC (σ 4) W (sitesAl (σ 5) (σ 6) W H (W * H)) f1 f2 f3 f4 ∧ σ' = dR σ (sitesAl (σ 5) (σ 6) W H (W * H)).length f1 f2 f3 f4) := by
  have hle := g.le
  have hW : 0 < W := by have := g.2.2.2.1; omega
  have hW10 := g.2.2.2.1.2
  have hH8 := g.2.2.2.2.1.2
  have g1 := g.1
  have g2 := g.2.1
  have g3 := g.2.2.1
  generalize hQ : (fun (σ' : Si) => ∃ f1 f2 f3 f4 : Nat → Int, RowsC (σ 4) W (sitesAl (σ 5) (σ 6) W H (W * H)) f1 f2 f3 f4 ∧ σ' = dR σ (sitesAl (σ 5) (σ 6) W H (W * H)).length f1 f2 f3 f4) = Q
  have cl : ∀ (m c : Nat) (x6 x7 : Value) (f1 f2 f3 f4 : Nat → Int), c + m = W * H → RowsC (σ 4) W (sitesAl (σ 5) (σ 6) W H c) f1 f2 f3 f4 → RW (KV l G 2 mX0_findSites n ρ Q) (0, 0, n, ρ) (dR σ (sitesAl (σ 5) (σ 6) W H c).length f1 f2 f3 f4) 64 [rf G 73, jl (maskN (beB (σ 6) W H) (W * H) % 2 ^ 64 : Nat), xx, jl (maskN (beB (σ 6) W H) (W * H) / 2 ^ 64 : Nat), xx, iv c, x6, x7] [] := by
    intro m
    induction m with
    | zero =>
      intro c x6 x7 f1 f2 f3 f4 hc hrow
      have e : c = W * H := by omega
      subst e
      refine r_iload dX0_findSites_64 rfl ?_
      refine r_aloadk_n dX0_findSites_66 rfl ?_
      refine r_getr dX0_findSites_67 fl_X0_45 rfl rfl (hsD.lt rfl) (hsD.rf rfl) ?_
      refine r_geti dX0_findSites_70 fl_X0_95 rfl rfl (hsD.lt rfl) ?_
      refine show RW _ _ _ _ _ (iv (σ 2 2) :: _) from ?_
      refine r_icmpge (tgt := 128) dX0_findSites_73 rfl (by omega) (by omega) (fun h73 => ?_) (fun h73 => ?_)
      · exact r_vret dX0_findSites_128 rfl ⟨rfl, by rw [← hQ]; exact ⟨f1, f2, f3, f4, hrow, rfl⟩⟩
      · omega
    | succ m ih =>
      intro c x6 x7 f1 f2 f3 f4 hc hrow
      have hcl : c < W * H := by omega
      have cm := Nat.mod_lt c hW
      have g7 := (g.2.2.2.2.2 c hcl).1
      have eal : sitesAl (σ 5) (σ 6) W H (c + 1) = sitesAl (σ 5) (σ 6) W H c ++ sitesWd (σ 5) (σ 6) W H c (W - c % W) := rfl
      have hroom := fun w t hw ht => sites_room (us := σ 5) (rd := σ 6) (W := W) (H := H) (c := c) (w := w) (t := t) (by omega) (by omega) hcl hw ht
      have wl : ∀ (m2 w : Nat) (f1 f2 f3 f4 : Nat → Int), w + m2 = W - c % W → RowsC (σ 4) W (sitesAl (σ 5) (σ 6) W H c ++ sitesWd (σ 5) (σ 6) W H c w) f1 f2 f3 f4 → RW (KV l G 2 mX0_findSites n ρ Q) (0, 0, n, ρ) (dR σ (sitesAl (σ 5) (σ 6) W H c ++ sitesWd (σ 5) (σ 6) W H c w).length f1 f2 f3 f4) 99 [rf G 73, jl (maskN (beB (σ 6) W H) (W * H) % 2 ^ 64 : Nat), xx, jl (maskN (beB (σ 6) W H) (W * H) / 2 ^ 64 : Nat), xx, iv c, iv (W - c % W : Nat), iv (w + 1 : Nat)] [] := by
        intro m2
        induction m2 with
        | zero =>
          intro w f1 f2 f3 f4 hw hrow
          have e : w = W - c % W := by omega
          subst e
          rw [← eal] at hrow ⊢
          refine r_iload dX0_findSites_99 rfl ?_
          refine r_iload dX0_findSites_101 rfl ?_
          refine r_icmpgt (tgt := 122) dX0_findSites_103 rfl (by omega) (by omega) (fun h103 => ?_) (fun h103 => ?_)
          · refine r_iinc dX0_findSites_122 (Nat.le_of_ble_eq_true rfl) rfl rfl s5 ?_
            refine r_goto (tgt := 64) dX0_findSites_125 rfl ?_
            exact ih (c + 1) _ _ f1 f2 f3 f4 (by omega) hrow
          · omega
        | succ m2 ihw =>
          intro w f1 f2 f3 f4 hw hrow
          have ewd : sitesAl (σ 5) (σ 6) W H c ++ sitesWd (σ 5) (σ 6) W H c (w + 1) = sitesAl (σ 5) (σ 6) W H c ++ sitesWd (σ 5) (σ 6) W H c w ++ sitesDn (σ 5) (σ 6) W H c (w + 1) (H - c / W) := by rw [List.append_assoc]; rfl
          have nx := ihw (w + 1)
          rw [ewd] at nx
          have hrm : ∀ t, c / W + (t + 1) ≤ H → (sitesAl (σ 5) (σ 6) W H c ++ sitesWd (σ 5) (σ 6) W H c w).length + (sitesDn (σ 5) (σ 6) W H c (w + 1) t).length < 1980 := fun t ht => by rw [List.length_append]; exact hroom w t (by omega) ht
          generalize hLL : sitesAl (σ 5) (σ 6) W H c ++ sitesWd (σ 5) (σ 6) W H c w = LL at hrow nx hrm ⊢
          have ka : CtV l G 1 mX0_findSitesDown n ρ (dR σ LL.length f1 f2 f3 f4) [rf G 73, iv c, iv (w + 1 : Nat), jl (maskN (beB (σ 6) W H) (W * H) % 2 ^ 64 : Nat), jl (maskN (beB (σ 6) W H) (W * H) / 2 ^ 64 : Nat)] (fun σ' => ∃ g1 g2 g3 g4 : Nat → Int, RowsC (σ 4) W (LL ++ sitesDn (σ 5) (σ 6) W H c (w + 1) (H - c / W)) g1 g2 g3 g4 ∧ σ' = dR (dR σ LL.length f1 f2 f3 f4) (LL ++ sitesDn (σ 5) (σ 6) W H c (w + 1) (H - c / W)).length g1 g2 g3 g4) := c_findSitesDown (l := l) (G := G) (n := n) (ρ := ρ) (W := W) (H := H) (σ := dR σ LL.length f1 f2 f3 f4) hs hsD (dR_Rg hR) g hso c (w + 1) LL hcl (by omega) hrm rfl hrow
          refine r_iload dX0_findSites_99 rfl ?_
          refine r_iload dX0_findSites_101 rfl ?_
          refine r_icmpgt (tgt := 122) dX0_findSites_103 rfl (by omega) (by omega) (fun h103 => ?_) (fun h103 => ?_)
          · omega
          · refine r_aloadk_n dX0_findSites_106 rfl ?_
            refine r_iload dX0_findSites_107 rfl ?_
            refine r_iload dX0_findSites_109 rfl ?_
            refine r_lload_n dX0_findSites_111 rfl ?_
            refine r_lload_n dX0_findSites_112 rfl ?_
            refine q_callVv dX0_findSites_113 (ka) ml_X0_120 okX0_findSitesDown rfl rfl (hsD.lt rfl) rfl rfl (Nat.le_of_ble_eq_true rfl) (roomOK.of (by decide)) ⟨(Nat.le_of_ble_eq_true rfl), (Nat.le_of_ble_eq_true rfl)⟩ (fun σ1 hq1 => ?_)
            obtain ⟨g1, g2, g3, g4, hr1, rfl⟩ := hq1
            rw [dR_dR]
            refine r_iinc dX0_findSites_116 (Nat.le_of_ble_eq_true rfl) rfl rfl s7 ?_
            refine r_goto (tgt := 99) dX0_findSites_119 rfl ?_
            exact nx g1 g2 g3 g4 (by omega) hr1
      have h0 := wl (W - c % W) 0 f1 f2 f3 f4 (by omega)
      rw [show sitesWd (σ 5) (σ 6) W H c 0 = [] from rfl, List.append_nil] at h0
      have h1 := h0 hrow
      refine r_iload dX0_findSites_64 rfl ?_
      refine r_aloadk_n dX0_findSites_66 rfl ?_
      refine r_getr dX0_findSites_67 fl_X0_45 rfl rfl (hsD.lt rfl) (hsD.rf rfl) ?_
      refine r_geti dX0_findSites_70 fl_X0_95 rfl rfl (hsD.lt rfl) ?_
      refine show RW _ _ _ _ _ (iv (σ 2 2) :: _) from ?_
      refine r_icmpge (tgt := 128) dX0_findSites_73 rfl (by omega) (by omega) (fun h73 => ?_) (fun h73 => ?_)
      · omega
      · refine r_aloadk_n dX0_findSites_76 rfl ?_
        refine r_getr dX0_findSites_77 fl_X0_45 rfl rfl (hsD.lt rfl) (hsD.rf rfl) ?_
        refine r_geti dX0_findSites_80 fl_X0_114 rfl rfl (hsD.lt rfl) ?_
        refine r_aloadk_n dX0_findSites_83 rfl ?_
        refine r_getr dX0_findSites_84 fl_X0_45 rfl rfl (hsD.lt rfl) (hsD.rf rfl) ?_
        refine r_getr dX0_findSites_87 fl_X0_117 rfl rfl (hsD.lt rfl) (hs.rf rfl) ?_
        refine r_iload dX0_findSites_90 rfl ?_
        refine r_iald dX0_findSites_92 rfl (hsD.lt rfl) rfl (by omega) ?_
        refine r_isub dX0_findSites_93 ?_
        refine show RW _ _ _ _ _ (iv (σ 2 0 - σ 7 c) :: _) from ?_
        rw [show iv (σ 2 0 - σ 7 c) = iv ((W - c % W : Nat) : Int) by congr 1; omega]
        refine r_istore dX0_findSites_94 (Nat.le_of_ble_eq_true rfl) rfl s6 ?_
        refine r_iconst dX0_findSites_96 ?_
        refine r_istore dX0_findSites_97 (Nat.le_of_ble_eq_true rfl) rfl s7 ?_
        exact h1
  have rl : ∀ (m c : Nat), c + m = W * H → RW (KV l G 2 mX0_findSites n ρ Q) (0, 0, n, ρ) σ 7 [rf G 73, jl (maskN (beB (σ 6) W H) c % 2 ^ 64 : Nat), xx, jl (maskN (beB (σ 6) W H) c / 2 ^ 64 : Nat), xx, iv c, xx, xx] [] := by
    intro m
    induction m with
    | zero =>
      intro c hc
      have e : c = W * H := by omega
      subst e
      refine r_iload dX0_findSites_7 rfl ?_
      refine r_aloadk_n dX0_findSites_9 rfl ?_
      refine r_getr dX0_findSites_10 fl_X0_45 rfl rfl (hsD.lt rfl) (hsD.rf rfl) ?_
      refine r_geti dX0_findSites_13 fl_X0_95 rfl rfl (hsD.lt rfl) ?_
      refine r_icmpge (tgt := 56) dX0_findSites_16 rfl (by omega) (by omega) (fun h16 => ?_) (fun h16 => ?_)
      · refine r_aloadk_n dX0_findSites_56 rfl ?_
        refine r_iconst dX0_findSites_57 ?_
        refine r_puti dX0_findSites_58 fl_X0_111 rfl (hsD.lt rfl) ?_
        refine r_iconst dX0_findSites_61 ?_
        refine r_istore dX0_findSites_62 (Nat.le_of_ble_eq_true rfl) rfl s5 ?_
        have h := cl (W * H) 0 xx xx (σ 74) (σ 75) (σ 76) (σ 77) (by omega) (fun s hs => absurd hs (Nat.not_lt_zero s))
        rw [dR_self, show sitesAl (σ 5) (σ 6) W H 0 = [] from rfl] at h
        rw [up_eq_sr]
        exact h
      · omega
    | succ m ih =>
      intro c hc
      have hcl : c < W * H := by omega
      have nx := ih (c + 1) (by omega)
      have hbe : beB (σ 6) W H c = anyN (besF (σ 6) W H c) 4 := rfl
      by_cases hb : beB (σ 6) W H c = true
      · rw [mask_lo 64 c hb, mask_hi 64 c hb] at nx
        generalize maskN (beB (σ 6) W H) c % 2 ^ 64 = lo at nx ⊢
        generalize maskN (beB (σ 6) W H) c / 2 ^ 64 = hi at nx ⊢
        refine r_iload dX0_findSites_7 rfl ?_
        refine r_aloadk_n dX0_findSites_9 rfl ?_
        refine r_getr dX0_findSites_10 fl_X0_45 rfl rfl (hsD.lt rfl) (hsD.rf rfl) ?_
        refine r_geti dX0_findSites_13 fl_X0_95 rfl rfl (hsD.lt rfl) ?_
        refine r_icmpge (tgt := 56) dX0_findSites_16 rfl (by omega) (by omega) (fun h16 => ?_) (fun h16 => ?_)
        · omega
        · refine r_aloadk_n dX0_findSites_19 rfl ?_
          refine r_getr dX0_findSites_20 fl_X0_45 rfl rfl (hsD.lt rfl) (hsD.rf rfl) ?_
          refine r_iload dX0_findSites_23 rfl ?_
          refine q_callVr dX0_findSites_25 (c_isBesideRoad hs hR g c hcl) ml_X0_100 okX1_isBesideRoad rfl rfl (hsD.lt rfl) rfl rfl (Nat.le_of_ble_eq_true rfl) (roomOK.of (by decide)) ⟨(Nat.le_of_ble_eq_true rfl), (Nat.le_of_ble_eq_true rfl)⟩ ?_
          refine r_ifneb (tgt := 34) dX0_findSites_28 rfl (fun h28 => ?_) (fun h28 => ?_)
          · refine r_lload_n dX0_findSites_34 rfl ?_
            refine r_iload dX0_findSites_35 rfl ?_
            refine q_callSj dX0_findSites_37 (c_lowBit c (by omega)) ml_X0_104 okX0_lowBit rfl rfl (Nat.le_of_ble_eq_true rfl) (roomOK.of (by decide)) ⟨(Nat.le_of_ble_eq_true rfl), (Nat.le_of_ble_eq_true rfl)⟩ ?_
            refine r_lor (a := lo) (b := if c < 64 then 2 ^ c else 0) dX0_findSites_40 ?_
            refine r_lstore_n dX0_findSites_41 (Nat.le_of_ble_eq_true rfl) rfl w1 ?_
            refine r_lload_n dX0_findSites_42 rfl ?_
            refine r_iload dX0_findSites_43 rfl ?_
            refine q_callSj dX0_findSites_45 (c_highBit c (by omega)) ml_X0_108 okX0_highBit rfl rfl (Nat.le_of_ble_eq_true rfl) (roomOK.of (by decide)) ⟨(Nat.le_of_ble_eq_true rfl), (Nat.le_of_ble_eq_true rfl)⟩ ?_
            refine r_lor (a := hi) (b := if c < 64 then 0 else 2 ^ (c - 64)) dX0_findSites_48 ?_
            refine r_lstore_n dX0_findSites_49 (Nat.le_of_ble_eq_true rfl) rfl w3 ?_
            refine r_iinc dX0_findSites_50 (Nat.le_of_ble_eq_true rfl) rfl rfl s5 ?_
            refine r_goto (tgt := 7) dX0_findSites_53 rfl ?_
            exact nx
          · exact absurd hb (by rw [hbe]; exact h28)
      · rw [mask_no c hb] at nx
        refine r_iload dX0_findSites_7 rfl ?_
        refine r_aloadk_n dX0_findSites_9 rfl ?_
        refine r_getr dX0_findSites_10 fl_X0_45 rfl rfl (hsD.lt rfl) (hsD.rf rfl) ?_
        refine r_geti dX0_findSites_13 fl_X0_95 rfl rfl (hsD.lt rfl) ?_
        refine r_icmpge (tgt := 56) dX0_findSites_16 rfl (by omega) (by omega) (fun h16 => ?_) (fun h16 => ?_)
        · omega
        · refine r_aloadk_n dX0_findSites_19 rfl ?_
          refine r_getr dX0_findSites_20 fl_X0_45 rfl rfl (hsD.lt rfl) (hsD.rf rfl) ?_
          refine r_iload dX0_findSites_23 rfl ?_
          refine q_callVr dX0_findSites_25 (c_isBesideRoad hs hR g c hcl) ml_X0_100 okX1_isBesideRoad rfl rfl (hsD.lt rfl) rfl rfl (Nat.le_of_ble_eq_true rfl) (roomOK.of (by decide)) ⟨(Nat.le_of_ble_eq_true rfl), (Nat.le_of_ble_eq_true rfl)⟩ ?_
          refine r_ifneb (tgt := 34) dX0_findSites_28 rfl (fun h28 => ?_) (fun h28 => ?_)
          · exact absurd h28 (by rw [← hbe]; exact hb)
          · refine r_goto (tgt := 50) dX0_findSites_31 rfl ?_
            refine r_iinc dX0_findSites_50 (Nat.le_of_ble_eq_true rfl) rfl rfl s5 ?_
            refine r_goto (tgt := 7) dX0_findSites_53 rfl ?_
            exact nx
  refine Ct.of (L0 := [rf G 73, xx, xx, xx, xx, xx, xx, xx]) (by decide +kernel) (Nat.le_of_ble_eq_true rfl) rfl ?_
  refine r_lconst0 dX0_findSites_0 ?_
  refine r_lstore_n dX0_findSites_1 (Nat.le_of_ble_eq_true rfl) rfl w1 ?_
  refine r_lconst0 dX0_findSites_2 ?_
  refine r_lstore_n dX0_findSites_3 (Nat.le_of_ble_eq_true rfl) rfl w3 ?_
  refine r_iconst dX0_findSites_4 ?_
  refine r_istore dX0_findSites_5 (Nat.le_of_ble_eq_true rfl) rfl s5 ?_
  have z := rl (W * H) 0 (by omega)
  rw [show maskN (beB (σ 6) W H) 0 = 0 from rfl, Nat.zero_mod, Nat.zero_div] at z
  exact z
end DSites
