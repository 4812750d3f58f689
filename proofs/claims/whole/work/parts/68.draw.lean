/-! draw: the model's; Drawing.run -/
def MD (σ σ' : Si) : Prop := (∀ k, (k < 38 ∨ (38 < k ∧ k < 54) ∨ (56 < k ∧ k < 58) ∨ 72 < k) → σ' k = σ k) ∧ Rg σ' ∧ (∀ j, (j < 33 ∨ (33 < j ∧ j < 38)) → σ' 38 j = σ 38 j)
section Draw
variable {l : Launch} {G : GG} {n : Nat} {ρ : Rho} {σ : Si} {W H P C O : Nat}
theorem mP_ne {X : Si} {w4 w5 w6 : Nat → Int} {k : Nat} (h1 : k ≠ 54) (h2 : k ≠ 55) (h3 : k ≠ 56) : mP X w4 w5 w6 k = X k := by
  unfold mP
  rw [sr_ne h3, sr_ne h2, sr_ne h1]
theorem mS_ne {b lf sp : Int} {f g : Nat → Int} {k : Nat} (h1 : k ≠ 38) (h2 : k ≠ 71) (h3 : k ≠ 72) : mS σ b lf sp f g k = σ k := by
  unfold mS
  rw [sr_ne h3, sr_ne h2, sr_ne h1]
theorem mR_ne {nn : Int} {f1 f2 f3 f4 f5 f6 : Nat → Int} {k : Nat} (h : k ≠ 38) (h2 : k < 65 ∨ 70 < k) : mR σ nn f1 f2 f3 f4 f5 f6 k = σ k := by
  unfold mR
  rw [sr_ne (by omega), sr_ne (by omega), sr_ne (by omega), sr_ne (by omega), sr_ne (by omega), sr_ne (by omega), sr_ne h]
theorem mS_38 {b lf sp : Int} {f g : Nat → Int} {j : Nat} (h : j < 53 ∨ 55 < j) : mS σ b lf sp f g 38 j = σ 38 j := by
  show ud (ud (ud (σ 38) 53 b) 54 lf) 55 sp j = σ 38 j
  rw [ud_ne (by omega), ud_ne (by omega), ud_ne (by omega)]
theorem mR_38 {nn : Int} {f1 f2 f3 f4 f5 f6 : Nat → Int} {j : Nat} (h : j ≠ 44) : mR σ nn f1 f2 f3 f4 f5 f6 38 j = σ 38 j := by
  show ud (σ 38) 44 nn j = σ 38 j
  rw [ud_ne h]
theorem mR_Rg {nn : Int} {f1 f2 f3 f4 f5 f6 : Nat → Int} (hR : Rg σ) (hn : R32 nn) (r1 : ∀ j, R32 (f1 j)) (r2 : ∀ j, R32 (f2 j)) (r3 : ∀ j, R32 (f3 j)) (r4 : ∀ j, R32 (f4 j)) : Rg (mR σ nn f1 f2 f3 f4 f5 f6) := by
  intro k hk j
  unfold mR
  rw [sr_ne (show k ≠ 70 by omega), sr_ne (show k ≠ 69 by omega)]
  exact (((((hR.sr (ud_R (hR 38 (by decide)) hn)).sr r1).sr r2).sr r3).sr r4) k hk j
set_option maxHeartbeats 8000000 in
theorem m_draw (hs : Std n ρ) (hJ : JM σ W H P C O) (x1 x2 x3 : Int) (h1 : R32 x1) (h2 : R32 x2) (h3 : R32 x3) (S : St) (hS : S = srA (σ 39) (σ 46) (shM σ) (dueM σ (W * H) P C O x1 (σ 38 22)) W P (sitesAl (σ 40) (σ 41) W H (W * H)) (σ 38 26) x3 x2.toNat) : CtI l G 11 mX9_draw n ρ σ [rf G 38, iv x1, iv x2, iv x3] (fun σ' z => (¬ ((0 ≤ x1 ∧ x1 ≤ 999) ∧ (1 ≤ x2 ∧ x2 ≤ 20000) ∧ (0 ≤ x3 ∧ x3 ≤ 1)) ∧ z = -3 ∧ σ' = σ) ∨ (((0 ≤ x1 ∧ x1 ≤ 999) ∧ (1 ≤ x2 ∧ x2 ≤ 20000) ∧ (0 ≤ x3 ∧ x3 ≤ 1)) ∧ MD σ σ' ∧ ((S.2.2.2 = true ∧ z = -6 ∧ σ' 54 = σ 54 ∧ σ' 55 = σ 55 ∧ σ' 56 = σ 56) ∨ (¬ S.2.2.2 = true ∧ S.1 < 0 ∧ z = -1 ∧ σ' 54 = σ 54 ∧ σ' 55 = σ 55 ∧ σ' 56 = σ 56) ∨ (¬ S.2.2.2 = true ∧ 0 ≤ S.1 ∧ z = S.1 ∧ PutM (dueM σ (W * H) P C O x1 (σ 38 22)) P (sitesAl (σ 40) (σ 41) W H (W * H)) S.2.1 (σ' 54) (σ' 55) (σ' 56) P)))) := by
  obtain ⟨hR, t0, g, j3, j4, j5, j6, j7, j8, j9, j10, j11, j12⟩ := id hJ
  obtain ⟨c1, c2, c3, c4, c5, c6, c7, c8⟩ := id j6
  have hle := WH_le g.2.2.1.2 g.2.2.2.2
  have hd2 := dueM_r hJ x1 (σ 38 22)
  have hW : 0 < W := by have := g.2.2.1; omega
  have hin := fun s hs => al_in (us := σ 40) (rd := σ 41) (W := W) (H := H) (s := s) hW hs
  have hL := al_len (us := σ 40) (rd := σ 41) (W := W) (H := H) g.2.2.1.2 g.2.2.2.2
  generalize hLL : sitesAl (σ 40) (σ 41) W H (W * H) = L at hS hin hL ⊢
  generalize hdd : dueM σ (W * H) P C O x1 (σ 38 22) = due at hS hd2 ⊢
  refine Ct.of (L0 := [rf G 38, iv x1, iv x2, iv x3, xx, xx]) (by decide +kernel) (Nat.le_of_ble_eq_true rfl) rfl ?_
  refine r_aloadk_n dX9_draw_0 rfl ?_
  refine r_iconst dX9_draw_1 ?_
  refine r_puti dX9_draw_2 fl_X9_133 rfl (hs.lt rfl) ?_
  rw [up_id t0]
  refine r_iload_n dX9_draw_5 rfl ?_
  refine q_callSr dX9_draw_6 (m_isDay x1 h1) ml_X9_185 okX9_isDay rfl rfl (Nat.le_of_ble_eq_true rfl) (roomOK.of (by decide)) ⟨(Nat.le_of_ble_eq_true rfl), (Nat.le_of_ble_eq_true rfl)⟩ ?_
  refine r_ifeqb (tgt := 32) dX9_draw_9 rfl (fun h9 => ?_) (fun h9 => ?_)
  · refine r_bipush dX9_draw_32 ?_
    exact r_ireti dX9_draw_34 rfl ⟨_, rfl, Or.inl ⟨by omega, rfl, rfl⟩⟩
  · refine r_iload_n dX9_draw_12 rfl ?_
    refine r_iconst dX9_draw_13 ?_
    refine r_sipush dX9_draw_14 ?_
    refine q_callSr dX9_draw_17 (c_in x2 1 20000 h2 (by omega) (by omega)) ml_X9_152 okX9_in rfl rfl (Nat.le_of_ble_eq_true rfl) (roomOK.of (by decide)) ⟨(Nat.le_of_ble_eq_true rfl), (Nat.le_of_ble_eq_true rfl)⟩ ?_
    refine r_ifeqb (tgt := 32) dX9_draw_20 rfl (fun h20 => ?_) (fun h20 => ?_)
    · refine r_bipush dX9_draw_32 ?_
      exact r_ireti dX9_draw_34 rfl ⟨_, rfl, Or.inl ⟨by omega, rfl, rfl⟩⟩
    · refine r_iload_n dX9_draw_23 rfl ?_
      refine r_iconst dX9_draw_24 ?_
      refine r_iconst dX9_draw_25 ?_
      refine q_callSr dX9_draw_26 (c_in x3 0 1 h3 (by omega) (by omega)) ml_X9_152 okX9_in rfl rfl (Nat.le_of_ble_eq_true rfl) (roomOK.of (by decide)) ⟨(Nat.le_of_ble_eq_true rfl), (Nat.le_of_ble_eq_true rfl)⟩ ?_
      refine r_ifneb (tgt := 35) dX9_draw_29 rfl (fun h29 => ?_) (fun h29 => ?_)
      · refine r_aloadk_n dX9_draw_35 rfl ?_
        refine r_iload_n dX9_draw_36 rfl ?_
        refine r_iconst dX9_draw_37 ?_
        refine r_aloadk_n dX9_draw_38 rfl ?_
        refine r_getr dX9_draw_39 fl_X9_93 rfl rfl (hs.lt rfl) (hs.rf rfl) ?_
        refine q_callVv dX9_draw_42 (m_findDuesa hs hJ 0 (σ 38 22) (Or.inl rfl) ClP.zero x1 h1) ml_X9_246 okX9_findDues rfl rfl (hs.lt rfl) rfl rfl (Nat.le_of_ble_eq_true rfl) (roomOK.of (by decide)) ⟨(Nat.le_of_ble_eq_true rfl), (Nat.le_of_ble_eq_true rfl)⟩ (fun σ1 hq1 => ?_)
        obtain ⟨f1, q1, q2, q3, q4, q5, q6, q7, q8, q9⟩ := hq1
        rw [hdd] at q3
        obtain ⟨hR', t0', g', j3', j4', j5', j6', j7', j8', j9', j10', j11', j12'⟩ := hJ.mf f1
        refine r_aloadk_n dX9_draw_45 rfl ?_
        refine q_callVv dX9_draw_46 (m_findRects (σ := σ1) hs hR' g' j3' j5') ml_X9_301 okX9_findRects rfl rfl (hs.lt rfl) rfl rfl (Nat.le_of_ble_eq_true rfl) (roomOK.of (by decide)) ⟨(Nat.le_of_ble_eq_true rfl), (Nat.le_of_ble_eq_true rfl)⟩ (fun σ2 hq2 => ?_)
        obtain ⟨w1, w2, w3, w4, w5, w6, hrow, rfl⟩ := hq2
        rw [f1.1 39 (by omega), f1.1 40 (by omega), f1.1 41 (by omega), hLL] at hrow
        rw [f1.1 40 (by omega), f1.1 41 (by omega), hLL]
        obtain ⟨-, r1, r2, r3, r4⟩ := id hrow
        have hRm : Rg (mR σ1 (L.length : Int) w1 w2 w3 w4 w5 w6) := mR_Rg hR' (by omega) r1 r2 r3 r4
        refine r_aloadk_n dX9_draw_49 rfl ?_
        refine r_iconst dX9_draw_50 ?_
        refine r_puti dX9_draw_51 fl_X9_285 rfl (hs.lt rfl) ?_
        refine r_aloadk_n dX9_draw_54 rfl ?_
        refine r_iload_n dX9_draw_55 rfl ?_
        refine r_puti dX9_draw_56 fl_X9_298 rfl (hs.lt rfl) ?_
        refine r_aloadk_n dX9_draw_59 rfl ?_
        refine r_iconst dX9_draw_60 ?_
        refine r_putz dX9_draw_61 fl_X9_292 (by omega) rfl (hs.lt rfl) ?_
        refine r_aloadk_n dX9_draw_64 rfl ?_
        refine r_iload_n dX9_draw_65 rfl ?_
        refine r_iconst dX9_draw_66 ?_
        refine r_icmpne (tgt := 74) dX9_draw_67 rfl (by omega) (by omega) (fun h67 => ?_) (fun h67 => ?_)
        · refine r_iconst dX9_draw_74 ?_
          first
          | rw [show iv 1 = iv x3 by congr 1; omega]
          | rw [show iv 0 = iv x3 by congr 1; omega]
          refine r_putz dX9_draw_75 fl_X9_282 (by omega) rfl (hs.lt rfl) ?_
          rw [mS_mk]
          have esh : shM σ1 = shM σ := by unfold shM; rw [f1.1 54 (by omega), f1.1 55 (by omega), f1.1 56 (by omega)]
          refine m_draw78 (W := W) (H := H) (P := P) (L := L) (so := σ 39) (due := due) hs (τ := up (mR σ1 (L.length : Int) w1 w2 w3 w4 w5 w6) 38 56 x3) (hRm.up (by omega)) g' j10' j6'.1 c2 hL hin rfl hrow j3 q3 hd2 j7'.2.2.2.2 j9' (by show x3 = 0 ∨ x3 = 1; omega) x1 x2 x3 (by omega) S ?_ _ ?_
          · show S = srA (σ 39) (σ1 46) (shM σ1) due W P L (σ1 38 26) x3 x2.toNat
            rw [esh, f1.1 46 (by omega), f1.2.2 26 (by omega)]
            exact hS
          · intro b lf sp z f g1 v4 v5 v6 rb rl rs r54 r55 r56 hz
            refine Or.inr ⟨⟨by omega, by omega, by omega⟩, ⟨fun k hk => ?_, ?_, fun j hj => ?_⟩, ?_⟩
            · rw [mP_ne (by omega) (by omega) (by omega), mS_ne (by omega) (by omega) (by omega), up_row (by omega), mR_ne (by omega) (by omega)]
              exact f1.1 k (by omega)
            · exact (((mS_Rg (hRm.up (by omega)) rb rl rs).sr r54).sr r55).sr r56
            · rw [mP_ne (by omega) (by omega) (by omega), mS_38 (by omega), show up (mR σ1 (L.length : Int) w1 w2 w3 w4 w5 w6) 38 56 x3 38 j = mR σ1 (L.length : Int) w1 w2 w3 w4 w5 w6 38 j from if_neg (fun q => by omega), mR_38 (by omega)]
              exact f1.2.2 j (by omega)
            · rcases hz with ⟨a1, a2, a3, a4, a5⟩ | ⟨a1, a2, a3, a4, a5, a6⟩ | ⟨a1, a2, a3, a4⟩
              · exact Or.inl ⟨a1, a2, a3.trans (f1.1 54 (by omega)), a4.trans (f1.1 55 (by omega)), a5.trans (f1.1 56 (by omega))⟩
              · exact Or.inr (Or.inl ⟨a1, a2, a3, a4.trans (f1.1 54 (by omega)), a5.trans (f1.1 55 (by omega)), a6.trans (f1.1 56 (by omega))⟩)
              · exact Or.inr (Or.inr ⟨a1, a2, a3, a4⟩)
        · refine r_iconst dX9_draw_70 ?_
          refine r_goto (tgt := 75) dX9_draw_71 rfl ?_
          first
          | rw [show iv 1 = iv x3 by congr 1; omega]
          | rw [show iv 0 = iv x3 by congr 1; omega]
          refine r_putz dX9_draw_75 fl_X9_282 (by omega) rfl (hs.lt rfl) ?_
          rw [mS_mk]
          have esh : shM σ1 = shM σ := by unfold shM; rw [f1.1 54 (by omega), f1.1 55 (by omega), f1.1 56 (by omega)]
          refine m_draw78 (W := W) (H := H) (P := P) (L := L) (so := σ 39) (due := due) hs (τ := up (mR σ1 (L.length : Int) w1 w2 w3 w4 w5 w6) 38 56 x3) (hRm.up (by omega)) g' j10' j6'.1 c2 hL hin rfl hrow j3 q3 hd2 j7'.2.2.2.2 j9' (by show x3 = 0 ∨ x3 = 1; omega) x1 x2 x3 (by omega) S ?_ _ ?_
          · show S = srA (σ 39) (σ1 46) (shM σ1) due W P L (σ1 38 26) x3 x2.toNat
            rw [esh, f1.1 46 (by omega), f1.2.2 26 (by omega)]
            exact hS
          · intro b lf sp z f g1 v4 v5 v6 rb rl rs r54 r55 r56 hz
            refine Or.inr ⟨⟨by omega, by omega, by omega⟩, ⟨fun k hk => ?_, ?_, fun j hj => ?_⟩, ?_⟩
            · rw [mP_ne (by omega) (by omega) (by omega), mS_ne (by omega) (by omega) (by omega), up_row (by omega), mR_ne (by omega) (by omega)]
              exact f1.1 k (by omega)
            · exact (((mS_Rg (hRm.up (by omega)) rb rl rs).sr r54).sr r55).sr r56
            · rw [mP_ne (by omega) (by omega) (by omega), mS_38 (by omega), show up (mR σ1 (L.length : Int) w1 w2 w3 w4 w5 w6) 38 56 x3 38 j = mR σ1 (L.length : Int) w1 w2 w3 w4 w5 w6 38 j from if_neg (fun q => by omega), mR_38 (by omega)]
              exact f1.2.2 j (by omega)
            · rcases hz with ⟨a1, a2, a3, a4, a5⟩ | ⟨a1, a2, a3, a4, a5, a6⟩ | ⟨a1, a2, a3, a4⟩
              · exact Or.inl ⟨a1, a2, a3.trans (f1.1 54 (by omega)), a4.trans (f1.1 55 (by omega)), a5.trans (f1.1 56 (by omega))⟩
              · exact Or.inr (Or.inl ⟨a1, a2, a3, a4.trans (f1.1 54 (by omega)), a5.trans (f1.1 55 (by omega)), a6.trans (f1.1 56 (by omega))⟩)
              · exact Or.inr (Or.inr ⟨a1, a2, a3, a4⟩)
      · refine r_bipush dX9_draw_32 ?_
        exact r_ireti dX9_draw_34 rfl ⟨_, rfl, Or.inl ⟨by omega, rfl, rfl⟩⟩
theorem dS_mk {X : Si} {a b c d : Int} : up (up (up (up X 73 5 a) 73 6 d) 73 7 b) 73 8 c = dS (up X 73 6 d) a b c (X 90) (X 91) := by
  funext x y
  unfold dS sr up ud
  by_cases e : x = 73
  · subst e
    by_cases e1 : y = 8
    · subst e1; simp
    · by_cases e2 : y = 7
      · subst e2; simp
      · by_cases e3 : y = 6
        · subst e3; simp
        · by_cases e4 : y = 5
          · subst e4; simp
          · simp [e1, e2, e3, e4]
  · by_cases e1 : x = 91
    · subst e1; simp
    · by_cases e2 : x = 90
      · subst e2; simp
      · simp [e, e1, e2]
set_option maxHeartbeats 16000000 in
theorem c_run (hs : Std n ρ) (hsD : StdD n ρ) (hR : Rg σ) (g : Geo σ W H) (hso : ∀ c, 0 ≤ σ 4 c ∧ σ 4 c ≤ 9) (hP : σ 19 1 = P) (hP8 : P ≤ 8) (hho : ∀ p, p < P → 0 ≤ σ 21 p ∧ σ 21 p < (W * H : Nat)) (due : Nat → Int) (hdd : ∀ p, p < P → σ 31 p = due p) (hdr : ∀ p, 0 ≤ due p ∧ due p ≤ 2000) (sl most still : Int) (hsl : 0 ≤ sl ∧ sl ≤ 50) (hmo : 1 ≤ most ∧ most ≤ 20000) (hst : still = 0 ∨ still = 1) (L : List Tri) (hLL : L = sitesAl (σ 5) (σ 6) W H (W * H)) (S : St) (hS : S = srA (σ 4) (σ 21) (σ 36) due W P L sl still most.toNat) : CtI l G 10 mX0_run n ρ σ [rf G 73, rf G 31, iv sl, iv most, iv still] (fun σ' z => (∀ k, k < 73 → k ≠ 36 → σ' k = σ k) ∧ ((S.2.2.2 = true ∧ z = -6 ∧ σ' 36 = σ 36) ∨ (¬ S.2.2.2 = true ∧ S.1 < 0 ∧ z = -1 ∧ σ' 36 = σ 36) ∨ (¬ S.2.2.2 = true ∧ 0 ≤ S.1 ∧ z = S.1 ∧ (∀ p, p < 8 → σ' 36 p = if p < P ∧ 0 < due p then ((shpT (atS L (S.2.1 p)) : Nat) : Int) else -1) ∧ ∀ p, 8 ≤ p → σ' 36 p = σ 36 p))) := by
  have hle := g.le
  have hW : 0 < W := by have := g.2.2.2.1; omega
  have hin : ∀ s, s < L.length → InL W H (atS L s) := fun s hs => by rw [hLL] at hs ⊢; exact al_in hW hs
  have hLn : L.length ≤ 1980 := by rw [hLL]; exact al_len g.2.2.2.1.2 g.2.2.2.2.1.2
  have ks := c_findSites (l := l) (G := G) hs hsD hR g hso
  rw [← hLL] at ks
  have hcr := coG_r (L := L) (hm := σ 21) (sh := σ 36) (still := still) g.2.2.2.1 g.2.2.2.2.1.2 hin hho
  have e2 : ((most.toNat : Nat) : Int) = most := by omega
  have hok : StOK L.length P due (-1, fun _ => 0, most.toNat, false) := ⟨by show -1 ≤ (-1 : Int) ∧ (-1 : Int) ≤ 10000; omega, by show most.toNat ≤ 20000; omega, fun h => absurd h (by show ¬ (0 : Int) ≤ -1; omega)⟩
  have hSok := srG_ok (P := P) (nS := L.length) (msk := fun s => mskT W (atS L s)) (fit := fitG (σ 4) due W L sl) (co := coG W L (σ 21) (σ 36) still) (due := due) hcr P 0 0 0 (fun _ => 0) (-1, fun _ => 0, most.toNat, false) (by omega) (by omega) (by omega) (fun q hq => absurd hq (Nat.not_lt_zero q)) hok
  rw [show srG L.length (fun s => mskT W (atS L s)) (fitG (σ 4) due W L sl) (coG W L (σ 21) (σ 36) still) due P 0 0 0 (fun _ => 0) (-1, fun _ => 0, most.toNat, false) = S from hS.symm] at hSok
  have hb01 := bi_01 (S.2.2.2 = true)
  have hS1 := hSok.1
  have hS2 := hSok.2.1
  generalize hct : fcn (fun p => decide (0 < due p)) = cT
  have hct1 : ∀ p, 0 < due p → cT (p + 1) = cT p + 1 := fun p h => by rw [← hct]; exact fcn_t (decide_eq_true h)
  have hct2 : ∀ p, ¬ 0 < due p → cT (p + 1) = cT p := fun p h => by rw [← hct]; exact fcn_f (by rw [decide_eq_true_iff]; exact h)
  have hct3 : ∀ p, cT p ≤ p := fun p => by rw [← hct]; exact fcn_le p
  have hct4 : ∀ p q, p < q → 0 < due p → cT p < cT q := fun p q h h2 => by rw [← hct]; exact fcn_lt h (decide_eq_true h2)
  have hct0 : cT 0 = 0 := by rw [← hct]; rfl
  have hbc : bC S.1 = 1000000000 ∧ S.1 < 0 ∨ bC S.1 = S.1 ∧ 0 ≤ S.1 := by unfold bC; split <;> omega
  generalize hQ : (fun (σ' : Si) (z : Int) => (∀ k, k < 73 → k ≠ 36 → σ' k = σ k) ∧ ((S.2.2.2 = true ∧ z = -6 ∧ σ' 36 = σ 36) ∨ (¬ S.2.2.2 = true ∧ S.1 < 0 ∧ z = -1 ∧ σ' 36 = σ 36) ∨ (¬ S.2.2.2 = true ∧ 0 ≤ S.1 ∧ z = S.1 ∧ (∀ p, p < 8 → σ' 36 p = if p < P ∧ 0 < due p then ((shpT (atS L (S.2.1 p)) : Nat) : Int) else -1) ∧ ∀ p, 8 ≤ p → σ' 36 p = σ 36 p))) = Q
  have fin : ∀ (τ : Si), (∀ k, k < 73 → k ≠ 36 → τ k = σ k) → τ 73 4 = (cT P : Nat) → τ 73 7 = S.1 → ¬ S.2.2.2 = true → 0 ≤ S.1 → (∀ s, s < L.length → τ 74 s = (shpT (atS L s) : Nat)) → (∀ p, p < P → 0 < due p → τ 89 (cT p) = p ∧ τ 91 (cT p) = (S.2.1 p : Nat)) → ∀ (m p : Nat) (w : Nat → Int), p + m = P → (∀ q, q < 8 → w q = if q < p ∧ 0 < due q then ((shpT (atS L (S.2.1 q)) : Nat) : Int) else -1) → (∀ q, 8 ≤ q → w q = σ 36 q) → RW (KI l G 10 mX0_run n ρ Q) (0, 0, n, ρ) (sr τ 36 w) 76 [rf G 73, rf G 31, iv sl, iv most, iv still, iv (cT p : Nat)] [] := by
    intro τ f1 f4 f7 hnsp hS0 f74 f89 m
    have hcP := hct3 P
    induction m with
    | zero =>
      intro p w hp hw hw8
      have e : p = P := by omega
      subst e
      refine r_iload dX0_run_76 rfl ?_
      refine r_aloadk_n dX0_run_78 rfl ?_
      refine r_geti dX0_run_79 fl_X0_92 rfl rfl (hsD.lt rfl) ?_
      refine show RW _ _ _ _ _ (iv (τ 73 4) :: _) from ?_
      rw [f4]
      refine r_icmpge (tgt := 118) dX0_run_82 rfl (by omega) (by omega) (fun h82 => ?_) (fun h82 => ?_)
      · refine r_aloadk_n dX0_run_118 rfl ?_
        refine r_geti dX0_run_119 fl_X0_72 rfl rfl (hsD.lt rfl) ?_
        refine show RW _ _ _ _ _ (iv (τ 73 7) :: _) from ?_
        rw [f7]
        exact r_ireti dX0_run_122 rfl ⟨_, rfl, by rw [← hQ]; exact ⟨fun k hk hk2 => by rw [sr_ne hk2]; exact f1 k hk hk2, Or.inr (Or.inr ⟨hnsp, hS0, rfl, hw, hw8⟩)⟩⟩
      · omega
    | succ m ih =>
      intro p w hp hw hw8
      have hpP : p < P := by omega
      by_cases hdu : 0 < due p
      · have hc1 := hct1 p hdu
        have hc4 := hct4 p P hpP hdu
        obtain ⟨a1, a2⟩ := f89 p hpP hdu
        have hsL := hSok.2.2 hS0 p hpP hdu
        have h74 := f74 _ hsL
        have nx := ih (p + 1) (ud w p ((shpT (atS L (S.2.1 p)) : Nat) : Int)) (by omega) (fun q hq => by
          by_cases e : q = p
          · rw [e, ud_at, if_pos ⟨by omega, hdu⟩]
          · rw [ud_ne e, hw q hq]
            by_cases e2 : q < p ∧ 0 < due q
            · rw [if_pos e2, if_pos ⟨by omega, e2.2⟩]
            · rw [if_neg e2, if_neg (fun h => e2 ⟨by omega, h.2⟩)]) (fun q hq => by rw [ud_ne (by omega)]; exact hw8 q hq)
        rw [hc1] at nx
        refine r_iload dX0_run_76 rfl ?_
        refine r_aloadk_n dX0_run_78 rfl ?_
        refine r_geti dX0_run_79 fl_X0_92 rfl rfl (hsD.lt rfl) ?_
        refine show RW _ _ _ _ _ (iv (τ 73 4) :: _) from ?_
        rw [f4]
        refine r_icmpge (tgt := 118) dX0_run_82 rfl (by omega) (by omega) (fun h82 => ?_) (fun h82 => ?_)
        · omega
        · refine r_aloadk_n dX0_run_85 rfl ?_
          refine r_getr dX0_run_86 fl_X0_53 rfl rfl (hsD.lt rfl) (hsD.rf rfl) ?_
          refine r_getr dX0_run_89 fl_X0_83 rfl rfl (hsD.lt rfl) (hs.rf rfl) ?_
          refine r_aloadk_n dX0_run_92 rfl ?_
          refine r_getr dX0_run_93 fl_X0_36 rfl rfl (hsD.lt rfl) (hsD.rf rfl) ?_
          refine r_iload dX0_run_96 rfl ?_
          refine r_iald dX0_run_98 rfl (hsD.lt rfl) rfl (by omega) ?_
          refine show RW _ _ _ _ _ (iv (τ 89 (cT p)) :: _) from ?_
          rw [a1]
          refine r_aloadk_n dX0_run_99 rfl ?_
          refine r_getr dX0_run_100 fl_X0_11 rfl rfl (hsD.lt rfl) (hsD.rf rfl) ?_
          refine r_aloadk_n dX0_run_103 rfl ?_
          refine r_getr dX0_run_104 fl_X0_42 rfl rfl (hsD.lt rfl) (hsD.rf rfl) ?_
          refine r_iload dX0_run_107 rfl ?_
          refine r_iald dX0_run_109 rfl (hsD.lt rfl) rfl (by omega) ?_
          refine show RW _ _ _ _ _ (iv (τ 91 (cT p)) :: _) from ?_
          rw [a2]
          refine r_iald dX0_run_110 rfl (hsD.lt rfl) rfl (by omega) ?_
          refine show RW _ _ _ _ _ (iv (τ 74 (S.2.1 p)) :: _) from ?_
          rw [h74]
          refine r_iast dX0_run_111 rfl (hsD.lt rfl) rfl (by omega) ?_
          refine r_iinc dX0_run_112 (Nat.le_of_ble_eq_true rfl) rfl rfl s5 ?_
          refine r_goto (tgt := 76) dX0_run_115 rfl ?_
          rw [up_sr]
          exact nx
      · have nx := ih (p + 1) w (by omega) (fun q hq => by
          rw [hw q hq]
          by_cases e2 : q < p ∧ 0 < due q
          · rw [if_pos e2, if_pos ⟨by omega, e2.2⟩]
          · rw [if_neg e2, if_neg (fun h => e2 ⟨by
              by_cases e : q = p
              · rw [e] at h; exact absurd h.2 hdu
              · omega, h.2⟩)]) hw8
        rw [hct2 p hdu] at nx
        exact nx
  refine Ct.of (L0 := [rf G 73, rf G 31, iv sl, iv most, iv still, xx]) (by decide +kernel) (Nat.le_of_ble_eq_true rfl) rfl ?_
  refine r_aloadk_n dX0_run_0 rfl ?_
  refine q_callVv dX0_run_1 (ks) ml_X0_57 okX0_findSites rfl rfl (hsD.lt rfl) rfl rfl (Nat.le_of_ble_eq_true rfl) (roomOK.of (by decide)) ⟨(Nat.le_of_ble_eq_true rfl), (Nat.le_of_ble_eq_true rfl)⟩ (fun σ1 hq1 => ?_)
  obtain ⟨w1, w2, w3, w4, hrow, rfl⟩ := hq1
  have kt := c_findTakers (l := l) (G := G) (n := n) (ρ := ρ) (σ := dR σ (L.length : Int) w1 w2 w3 w4) (W := W) (H := H) (P := P) hs hsD (dR_Rg hR) g L.length hP hP8 hho rfl hLn (fun s => atS L s) (fun s hs => ⟨(hrow s hs).1, hin s hs⟩) (fun s hs => by show 0 ≤ w2 s ∧ w2 s ≤ 1000; rw [(hrow s hs).2.1]; exact in_wor hso g.2.2.2.1.2 g.2.2.2.2.1.2 (hin s hs)) due hdd hdr sl still hsl hst (fitG (σ 4) due W L sl) (coG W L (σ 21) (σ 36) still) (fun p s hp hs => by show _ ↔ (w2 s - due p ≤ sl ∧ -(w2 s - due p) ≤ sl); rw [(hrow s hs).2.1]; exact fitG_t) (fun p s hp hs => rfl)
  rw [hct] at kt
  refine r_aloadk_n dX0_run_4 rfl ?_
  refine r_aloadk_n dX0_run_5 rfl ?_
  refine r_iload_n dX0_run_6 rfl ?_
  refine r_iload dX0_run_7 rfl ?_
  refine q_callVv dX0_run_9 (kt) ml_X0_60 okX0_findTakers rfl rfl (hsD.lt rfl) rfl rfl (Nat.le_of_ble_eq_true rfl) (roomOK.of (by decide)) ⟨(Nat.le_of_ble_eq_true rfl), (Nat.le_of_ble_eq_true rfl)⟩ (fun τ hq2 => ?_)
  obtain ⟨f1, f2, f3, f4⟩ := hq2
  have hlo : ∀ k, k < 73 → up τ 73 6 most k = σ k := fun k hk => by rw [up_row (by omega), f1 k (Or.inl hk), dR_lo hk]
  have h74 : up τ 73 6 most 74 = w1 := by rw [up_row (by decide), f1 74 (by omega)]; rfl
  have h76 : up τ 73 6 most 76 = w3 := by rw [up_row (by decide), f1 76 (by omega)]; rfl
  have h77 : up τ 73 6 most 77 = w4 := by rw [up_row (by decide), f1 77 (by omega)]; rfl
  have kp := c_putFrom (l := l) (G := G) (n := n) (ρ := ρ) (σ := up τ 73 6 most) (P := P) (nS := L.length) (msk := fun s => mskT W (atS L s)) (fit := fitG (σ 4) due W L sl) (co := coG W L (σ 21) (σ 36) still) (due := due) (cT := cT) hs hsD hP8 hLn hct1 hct2 hct3 hct4 f3 most rfl (by omega) hdr (fun s hs => by rw [h76, h77]; exact ⟨(hrow s hs).2.2.1, (hrow s hs).2.2.2, in_msk hW hle (hin s hs)⟩) hcr (fun p hp hd => by rw [up_row (show 79 + cT p ≠ 73 by omega), up_row (show 87 ≠ 73 by decide), up_row (show 88 ≠ 73 by decide)]; exact (f4 p hp hd).2) P 9 0 0 0 (fun _ => 0) (-1, fun _ => 0, most.toNat, false) (τ 90) (τ 91) (by omega) (by omega) (by decide) (by omega) (by omega) (fun q hq => absurd hq (Nat.not_lt_zero q)) hok (fun h => absurd h (by show ¬ (0 : Int) ≤ -1; omega)) (fun q hq => absurd hq (Nat.not_lt_zero q))
  rw [show srG L.length (fun s => mskT W (atS L s)) (fitG (σ 4) due W L sl) (coG W L (σ 21) (σ 36) still) due P 0 0 0 (fun _ => 0) (-1, fun _ => 0, most.toNat, false) = S from hS.symm] at kp
  rw [hct0, Nat.zero_mod, Nat.zero_div, show most - (((-1, fun _ => 0, most.toNat, false) : St).2.2.1 : Int) = 0 by show most - ((most.toNat : Nat) : Int) = 0; omega, show bi (((-1, fun _ => 0, most.toNat, false) : St).2.2.2 = true) = 0 from bi_f (show ¬ false = true by decide), show bC (((-1, fun _ => 0, most.toNat, false) : St).1) = 1000000000 from rfl] at kp
  refine r_aloadk_n dX0_run_12 rfl ?_
  refine r_iconst dX0_run_13 ?_
  refine r_puti dX0_run_14 fl_X0_64 rfl (hsD.lt rfl) ?_
  refine r_aloadk_n dX0_run_17 rfl ?_
  refine r_iload_n dX0_run_18 rfl ?_
  refine r_puti dX0_run_19 fl_X0_68 rfl (hsD.lt rfl) ?_
  refine r_aloadk_n dX0_run_22 rfl ?_
  refine r_ldc dX0_run_23 k_X0_71 ?_
  refine r_puti dX0_run_25 fl_X0_72 rfl (hsD.lt rfl) ?_
  refine r_aloadk_n dX0_run_28 rfl ?_
  refine r_iconst dX0_run_29 ?_
  refine r_putz dX0_run_30 fl_X0_75 (by omega) rfl (hsD.lt rfl) ?_
  rw [dS_mk]
  refine r_aloadk_n dX0_run_33 rfl ?_
  refine r_iconst dX0_run_34 ?_
  refine r_lconst0 dX0_run_35 ?_
  refine r_lconst0 dX0_run_36 ?_
  refine r_iconst dX0_run_37 ?_
  refine q_callVv dX0_run_38 (kp) ml_X0_79 okX0_putFrom rfl rfl (hsD.lt rfl) rfl rfl (Nat.le_of_ble_eq_true rfl) (roomOK.of (by decide)) ⟨(Nat.le_of_ble_eq_true rfl), (Nat.le_of_ble_eq_true rfl)⟩ (fun σ3 hq3 => ?_)
  obtain ⟨f', g', hb', -, rfl⟩ := hq3
  have hrows : ∀ k, k < 73 → dS (up τ 73 6 most) (most - ↑S.2.2.1) (bC S.1) (bi (S.2.2.2 = true)) f' g' k = σ k := fun k hk => by rw [dS_lo (by omega) (by omega) (by omega)]; exact hlo k hk
  refine r_aloadk_n dX0_run_41 rfl ?_
  refine r_geti dX0_run_42 fl_X0_75 rfl rfl (hsD.lt rfl) ?_
  refine show RW _ _ _ _ _ (iv (bi (S.2.2.2 = true)) :: _) from ?_
  refine r_ifeq (tgt := 51) dX0_run_45 rfl (by omega) (fun h45 => ?_) (fun h45 => ?_)
  · have hsp : ¬ S.2.2.2 = true := fun q => by rw [bi_t q] at h45; exact absurd h45 (by decide)
    refine r_aloadk_n dX0_run_51 rfl ?_
    refine r_geti dX0_run_52 fl_X0_72 rfl rfl (hsD.lt rfl) ?_
    refine show RW _ _ _ _ _ (iv (bC S.1) :: _) from ?_
    refine r_ldc dX0_run_55 k_X0_71 ?_
    refine r_icmpne (tgt := 62) dX0_run_57 rfl (by omega) (by omega) (fun h57 => ?_) (fun h57 => ?_)
    · refine r_aloadk_n dX0_run_62 rfl ?_
      refine r_getr dX0_run_63 fl_X0_53 rfl rfl (hsD.lt rfl) (hsD.rf rfl) ?_
      refine r_getr dX0_run_66 fl_X0_83 rfl rfl (hsD.lt rfl) (hs.rf rfl) ?_
      refine r_iconst dX0_run_69 ?_
      refine q_callSv dX0_run_70 (c_fill 36 8 (hs.lt rfl) rfl (-1)) ml_X0_86 okJ7_fill_53178 rfl rfl (Nat.le_of_ble_eq_true rfl) (roomOK.of (by decide)) ⟨(Nat.le_of_ble_eq_true rfl), (Nat.le_of_ble_eq_true rfl)⟩ (fun σ4 hq4 => ?_)
      subst hq4
      rw [filR_sr]
      refine r_iconst dX0_run_73 ?_
      refine r_istore dX0_run_74 (Nat.le_of_ble_eq_true rfl) rfl s5 ?_
      have h0 : 0 ≤ S.1 := by omega
      have z := fin (dS (up τ 73 6 most) (most - ↑S.2.2.1) (bC S.1) (bi (S.2.2.2 = true)) f' g') (fun k hk _ => hrows k hk) f3 (by show bC S.1 = S.1; omega) hsp h0 (fun s hs => by rw [dS_lo (by decide) (by decide) (by decide), h74]; exact (hrow s hs).1) (fun p hp hd => ⟨by rw [dS_lo (by decide) (by decide) (by decide), up_row (by decide)]; exact (f4 p hp hd).1, hb' h0 p hp hd⟩) P 0 (fun b => if b < 8 then -1 else dS (up τ 73 6 most) (most - ↑S.2.2.1) (bC S.1) (bi (S.2.2.2 = true)) f' g' 36 b) (by omega) (fun q hq => by rw [if_pos hq, if_neg (fun h => absurd h.1 (Nat.not_lt_zero q))]) (fun q hq => by rw [if_neg (by omega), hrows 36 (by decide)])
      rw [hct0] at z
      exact z
    · refine r_iconst dX0_run_60 ?_
      exact r_ireti dX0_run_61 rfl ⟨_, rfl, by rw [← hQ]; exact ⟨fun k hk _ => hrows k hk, Or.inr (Or.inl ⟨hsp, by omega, rfl, hrows 36 (by decide)⟩)⟩⟩
  · have hsp : S.2.2.2 = true := Classical.byContradiction (fun q => h45 (bi_f q))
    refine r_bipush dX0_run_48 ?_
    exact r_ireti dX0_run_50 rfl ⟨_, rfl, by rw [← hQ]; exact ⟨fun k hk _ => hrows k hk, Or.inl ⟨hsp, rfl, hrows 36 (by decide)⟩⟩⟩
end Draw
