/-! MODEL: roads: the least prices by rounds -/
def BInv (us pr : Nat → Int) (W H fr : Nat) (D : Nat → Int) : Prop :=
  D fr = pr fr ∧ (∀ c, c < W * H → 0 < D c ∧ D c ≤ FARV) ∧ (∀ c, c < W * H → us c = 2 → D c = FARV) ∧
  (∀ c, c < W * H → c ≠ fr → D c < FARV → ∃ b, b < W * H ∧ Adj W H c b ∧ ¬ us b = 2 ∧ D b < FARV ∧ D b + pr c ≤ D c)
/-- over a side nothing is to be won -/
def okB (us pr : Nat → Int) (W H : Nat) (D : Nat → Int) (c s : Nat) : Prop := ¬ us c = 2 → ∀ b : Nat, nb W H c (sdM s) = b → ¬ us b = 2 → D b < FARV → D c ≤ D b + pr c
theorem sdM_on : ∀ s, s < 4 → ∃ s', s' < 4 ∧ sdM s' = s
  | 0, _ => ⟨2, by omega, rfl⟩
  | 1, _ => ⟨0, by omega, rfl⟩
  | 2, _ => ⟨1, by omega, rfl⟩
  | 3, _ => ⟨3, by omega, rfl⟩
  | _ + 4, h => by omega
theorem sdM_4 : ∀ s, s < 4 → sdM s < 4
  | 0, _ => by decide
  | 1, _ => by decide
  | 2, _ => by decide
  | 3, _ => by decide
  | _ + 4, h => by omega
theorem BInv.sol {us pr : Nat → Int} {W H fr : Nat} {D : Nat → Int} (h : BInv us pr W H fr D) (hW : 0 < W) (hok : ∀ c, c < W * H → ∀ s, s < 4 → okB us pr W H D c s) : Sol us pr W H fr D := by
  obtain ⟨h1, h2, h3, h4⟩ := h
  have e : ∀ b c, b < W * H → c < W * H → Adj W H b c → ¬ us b = 2 → ¬ us c = 2 → D b < FARV → D c ≤ D b + pr c := by
    intro b c hb hc hab hub huc hbF
    obtain ⟨s, hs, hn⟩ := hab.symm hb hW
    obtain ⟨s', hs', e⟩ := sdM_on s hs
    exact hok c hc s' hs' huc b (by rw [e]; exact hn) hub hbF
  refine ⟨h1, h2, h3, fun c hc hu hcf hcF => ?_, e⟩
  obtain ⟨b, hb, hab, hub, hbF, hle⟩ := h4 c hc hcf hcF
  exact ⟨b, hb, hab, hub, hbF, by have := e b c hb hc (hab.symm hc hW) hub hu hbF; omega⟩
theorem BInv.relax {us pr : Nat → Int} {W H fr : Nat} {D : Nat → Int} (h : BInv us pr W H fr D) (hpr : ∀ c, 1 ≤ pr c) {b c : Nat} (hb : b < W * H) (hc : c < W * H) (hab : Adj W H c b) (huc : ¬ us c = 2) (hub : ¬ us b = 2) (hbF : D b < FARV) (hlt : D b + pr c < D c) : BInv us pr W H fr (ud D c (D b + pr c)) := by
  obtain ⟨h1, h2, h3, h4⟩ := h
  have hb0 := h2 b hb
  have hc0 := h2 c hc
  have hpc := hpr c
  have hne : b ≠ c := fun q => by rw [q] at hlt; omega
  have hdle : ∀ v, ud D c (D b + pr c) v ≤ D v := fun v => by unfold ud; split; (rename_i q; rw [q]; omega); exact Int.le_refl _
  refine ⟨?_, fun v hv => ?_, fun v hv hu => ?_, fun v hv hvf hvF => ?_⟩
  · unfold ud
    split
    · rename_i q; rw [q] at h1; omega
    · exact h1
  · have := h2 v hv
    have := hdle v
    refine ⟨?_, by omega⟩
    unfold ud
    split <;> omega
  · rw [ud_ne (fun q => huc (by rw [← q]; exact hu))]; exact h3 v hv hu
  · by_cases q : v = c
    · subst q
      exact ⟨b, hb, hab, hub, by rw [ud_ne hne]; exact hbF, by rw [ud_ne hne, ud_at]; exact Int.le_refl _⟩
    · rw [ud_ne q] at hvF ⊢
      obtain ⟨a, ha, haa, hua, haF, hal⟩ := h4 v hv hvf hvF
      have := hdle a
      exact ⟨a, ha, haa, hua, by omega, by omega⟩
def iniD (pr D0 : Nat → Int) (fr i : Nat) : Nat → Int := fun b => if b < i then (if b = fr then pr b else FARV) else D0 b
theorem ini_ud {pr D0 : Nat → Int} {fr i : Nat} {z : Int} (hz : z = if i = fr then pr i else FARV) : ud (iniD pr D0 fr i) i z = iniD pr D0 fr (i + 1) := by
  funext b
  unfold ud iniD
  by_cases q : b = i
  · rw [if_pos q, if_pos (by omega), hz, q]
  · rw [if_neg q]
    by_cases q2 : b < i
    · rw [if_pos q2, if_pos (show b < i + 1 by omega)]
    · rw [if_neg q2, if_neg (show ¬ b < i + 1 by omega)]
section Model4
variable {l : Launch} {G : GG} {n : Nat} {ρ : Rho} {σ : Si} {W H P C O : Nat}
theorem m_priceOf (hs : Std n ρ) (hR : Rg σ) (hrd : ∀ c, 0 ≤ σ 41 c ∧ σ 41 c ≤ 1) (c : Nat) (hc : c < 80) : RdI l G 0 mX9_priceOf n ρ σ [rf G 38, iv c] (prS (σ 39) (σ 41) c) := by
  have := hrd c
  refine Ct.of (L0 := [rf G 38, iv c]) (by decide +kernel) (Nat.le_of_ble_eq_true rfl) rfl ?_
  refine r_aloadk_n dX9_priceOf_0 rfl ?_
  refine r_getr dX9_priceOf_1 fl_X9_23 rfl rfl (hs.lt rfl) (hs.rf rfl) ?_
  refine r_iload_n dX9_priceOf_4 rfl ?_
  refine r_zald dX9_priceOf_5 rfl (hs.lt rfl) rfl (by omega) ?_
  refine r_ifeq (tgt := 13) dX9_priceOf_6 rfl (by first | exact hR _ (Nat.le_of_ble_eq_true rfl) _ | omega) (fun h6 => ?_) (fun h6 => ?_)
  · refine r_bipush dX9_priceOf_13 ?_
    refine r_aloadk_n dX9_priceOf_15 rfl ?_
    refine r_getr dX9_priceOf_16 fl_X9_16 rfl rfl (hs.lt rfl) (hs.rf rfl) ?_
    refine r_iload_n dX9_priceOf_19 rfl ?_
    refine r_iald dX9_priceOf_20 rfl (hs.lt rfl) rfl (by omega) ?_
    refine r_imul dX9_priceOf_21 ?_
    refine r_bipush dX9_priceOf_22 ?_
    refine r_iadd dX9_priceOf_24 ?_
    exact r_ireti dX9_priceOf_25 rfl ⟨_, rfl, rfl, by unfold prS; first | rw [if_pos (by omega)] | rw [if_neg (by omega)]⟩
  · refine r_iconst dX9_priceOf_9 ?_
    refine r_goto (tgt := 25) dX9_priceOf_10 rfl ?_
    exact r_ireti dX9_priceOf_25 rfl ⟨_, rfl, rfl, by unfold prS; first | rw [if_pos (by omega)] | rw [if_neg (by omega)]⟩
set_option maxHeartbeats 4000000 in
theorem m_findPrices (hs : Std n ρ) (hR : Rg σ) (g : GeoM σ W H) (hso : ∀ c, 0 ≤ σ 39 c ∧ σ 39 c ≤ 9) (hrd : ∀ c, 0 ≤ σ 41 c ∧ σ 41 c ≤ 1) (fr : Nat) (hfr : fr < W * H) (hfu : ¬ σ 40 fr = 2) : CtV l G 1 mX9_findPrices n ρ σ [rf G 38, iv fr] (fun σ' => ∃ D : Nat → Int, (∀ j, R32 (D j)) ∧ Sol (σ 40) (prS (σ 39) (σ 41)) W H fr D ∧ σ' = sr σ 58 D) := by
  have hle := WH_le g.2.2.1.2 g.2.2.2.2
  have hW : 0 < W := by have := g.2.2.1; omega
  have hpr := prS_r (so := σ 39) (rd := σ 41) hso
  have kp : ∀ (D : Nat → Int), (∀ j, R32 (D j)) → ∀ c : Nat, c < 80 → RdI l G 0 mX9_priceOf n ρ (sr σ 58 D) [rf G 38, iv c] (prS (σ 39) (σ 41) c) := fun D hD c hc => m_priceOf (σ := sr σ 58 D) hs (hR.sr hD) hrd c hc
  have kb : ∀ (D : Nat → Int) (c sd : Nat), c < W * H → sd < 4 → RdI l G 0 mX9_beside n ρ (sr σ 58 D) [rf G 38, iv c, iv sd] (nb W H c (sdM sd)) := fun D c sd hc hsd => m_beside (σ := sr σ 58 D) hs g c sd hc hsd
  have kc : ∀ (D : Nat → Int), RdI l G 0 mX9_cells n ρ (sr σ 58 D) [rf G 38] (W * H : Nat) := fun D => m_cells (σ := sr σ 58 D) hs g
  generalize prS (σ 39) (σ 41) = pr at hpr kp ⊢
  generalize hQ : (fun (σ' : Si) => ∃ D : Nat → Int, (∀ j, R32 (D j)) ∧ Sol (σ 40) pr W H fr D ∧ σ' = sr σ 58 D) = Q
  have outer : ∀ (k : Nat) (D : Nat → Int) (x3 x4 x5 : Value), sumN D (W * H) < k → (∀ j, R32 (D j)) → BInv (σ 40) pr W H fr D → isJ x3 = false → isJ x4 = false → isJ x5 = false → RW (KV l G 1 mX9_findPrices n ρ Q) (0, 0, n, ρ) (sr σ 58 D) 39 [rf G 38, iv fr, iv 1, x3, x4, x5] [] := by
    intro k
    induction k with
    | zero =>
      intro D x3 x4 x5 hk hD hI
      have := (sumN_r (f := D) (a := 0) (b := FARV) (W * H) (fun i hi => by have := hI.2.1 i hi; omega)).1
      omega
    | succ k ih =>
      intro D0 x3 x4 x5 hk hD0 hI0 hx3 hx4 hx5
      have cl : ∀ (m i : Nat) (D : Nat → Int) (mo : Int) (x4 x5 : Value), i + m = W * H → (∀ j, R32 (D j)) → BInv (σ 40) pr W H fr D → isJ x4 = false → isJ x5 = false → ((mo = 1 ∧ sumN D (W * H) < sumN D0 (W * H)) ∨ (mo = 0 ∧ D = D0 ∧ ∀ c, c < i → ∀ s, s < 4 → okB (σ 40) pr W H D c s)) → RW (KV l G 1 mX9_findPrices n ρ Q) (0, 0, n, ρ) (sr σ 58 D) 47 [rf G 38, iv fr, iv mo, iv i, x4, x5] [] := by
        intro m
        induction m with
        | zero =>
          intro i D mo x4 x5 hi hD hI hx4 hx5 hm
          have e : i = W * H := by omega
          subst e
          rcases hm with ⟨rfl, hm⟩ | ⟨rfl, hm1, hm2⟩
          · have hu : True := trivial
            refine r_iload_n dX9_findPrices_47 rfl ?_
            refine r_aloadk_n dX9_findPrices_48 rfl ?_
            refine q_callVr dX9_findPrices_49 (kc D) ml_X9_148 okX9_cells rfl rfl (hs.lt rfl) rfl rfl (Nat.le_of_ble_eq_true rfl) (roomOK.of (by decide)) ⟨(Nat.le_of_ble_eq_true rfl), (Nat.le_of_ble_eq_true rfl)⟩ ?_
            refine r_icmpge (tgt := 167) dX9_findPrices_52 rfl (by omega) (by omega) (fun h52 => ?_) (fun h52 => ?_)
            · refine r_goto (tgt := 39) dX9_findPrices_167 rfl ?_
              exact ih D _ _ _ (by omega) hD hI rfl hx4 hx5
            · omega
          · have hu : True := trivial
            refine r_iload_n dX9_findPrices_47 rfl ?_
            refine r_aloadk_n dX9_findPrices_48 rfl ?_
            refine q_callVr dX9_findPrices_49 (kc D) ml_X9_148 okX9_cells rfl rfl (hs.lt rfl) rfl rfl (Nat.le_of_ble_eq_true rfl) (roomOK.of (by decide)) ⟨(Nat.le_of_ble_eq_true rfl), (Nat.le_of_ble_eq_true rfl)⟩ ?_
            refine r_icmpge (tgt := 167) dX9_findPrices_52 rfl (by omega) (by omega) (fun h52 => ?_) (fun h52 => ?_)
            · refine r_goto (tgt := 39) dX9_findPrices_167 rfl ?_
              refine r_iload_n dX9_findPrices_39 rfl ?_
              refine r_ifeq (tgt := 170) dX9_findPrices_40 rfl (by first | exact hR _ (Nat.le_of_ble_eq_true rfl) _ | omega) (fun h40 => ?_) (fun h40 => ?_)
              · exact r_vret dX9_findPrices_170 rfl ⟨rfl, by rw [← hQ]; exact ⟨D, hD, hI.sol hW hm2, rfl⟩⟩
              · exact absurd rfl h40
            · omega
        | succ m ihc =>
          intro i D mo x4 x5 hi hD hI hx4 hx5 hm
          have sl : ∀ (m2 j : Nat) (D : Nat → Int) (mo : Int) (x5 : Value), j + m2 = 4 → (∀ j, R32 (D j)) → BInv (σ 40) pr W H fr D → isJ x5 = false → ((mo = 1 ∧ sumN D (W * H) < sumN D0 (W * H)) ∨ (mo = 0 ∧ D = D0 ∧ (∀ c, c < i → ∀ s, s < 4 → okB (σ 40) pr W H D c s) ∧ ∀ s, s < j → okB (σ 40) pr W H D i s)) → RW (KV l G 1 mX9_findPrices n ρ Q) (0, 0, n, ρ) (sr σ 58 D) 58 [rf G 38, iv fr, iv mo, iv i, iv j, x5] [] := by
            intro m2
            have nxt : ∀ (D : Nat → Int) (mo : Int) (x4 x5 : Value), (∀ j, R32 (D j)) → BInv (σ 40) pr W H fr D → isJ x4 = false → isJ x5 = false → ((mo = 1 ∧ sumN D (W * H) < sumN D0 (W * H)) ∨ (mo = 0 ∧ D = D0 ∧ (∀ c, c < i → ∀ s, s < 4 → okB (σ 40) pr W H D c s) ∧ ∀ s, s < 4 → okB (σ 40) pr W H D i s)) → RW (KV l G 1 mX9_findPrices n ρ Q) (0, 0, n, ρ) (sr σ 58 D) 47 [rf G 38, iv fr, iv mo, iv (i + 1 : Nat), x4, x5] [] := by
              intro D mo x4 x5 hD hI hx4 hx5 hm
              refine ihc (i + 1) D mo x4 x5 (by omega) hD hI hx4 hx5 ?_
              rcases hm with hm | ⟨e1, e2, e3, e4⟩
              · exact Or.inl hm
              · refine Or.inr ⟨e1, e2, fun c hc s hs => ?_⟩
                by_cases q : c = i
                · rw [q]; exact e4 s hs
                · exact e3 c (by omega) s hs
            induction m2 with
            | zero =>
              intro j D mo x5 hj hD hI hx5 hm
              have e : j = 4 := by omega
              subst e
              refine r_iload dX9_findPrices_58 rfl ?_
              refine r_iconst dX9_findPrices_60 ?_
              refine r_icmpge (tgt := 161) dX9_findPrices_61 rfl (by first | exact hR _ (Nat.le_of_ble_eq_true rfl) _ | omega) (by first | exact hR _ (Nat.le_of_ble_eq_true rfl) _ | omega) (fun h61 => ?_) (fun h61 => ?_)
              · refine r_iinc dX9_findPrices_161 (Nat.le_of_ble_eq_true rfl) rfl rfl s3 ?_
                refine r_goto (tgt := 47) dX9_findPrices_164 rfl ?_
                exact nxt D mo _ _ hD hI rfl hx5 hm
              · omega
            | succ m2 ih2 =>
              intro j D mo x5 hj hD hI hx5 hm
              have hr := nb_r (show i < W * H by omega) hW (sdM j)
              have hDi := hD i
              have hIi := hI.2.1 i (by omega)
              have hpi := hpr i
              have skip : okB (σ 40) pr W H D i j → ∀ x5 : Value, isJ x5 = false → RW (KV l G 1 mX9_findPrices n ρ Q) (0, 0, n, ρ) (sr σ 58 D) 58 [rf G 38, iv fr, iv mo, iv i, iv (j + 1 : Nat), x5] [] := by
                intro hok x5 hx5
                refine ih2 (j + 1) D mo x5 (by omega) hD hI hx5 ?_
                rcases hm with hm | ⟨e1, e2, e3, e4⟩
                · exact Or.inl hm
                · refine Or.inr ⟨e1, e2, e3, fun s hs => ?_⟩
                  by_cases q : s = j
                  · rw [q]; exact hok
                  · exact e4 s (by omega)
              refine r_iload dX9_findPrices_58 rfl ?_
              refine r_iconst dX9_findPrices_60 ?_
              refine r_icmpge (tgt := 161) dX9_findPrices_61 rfl (by first | exact hR _ (Nat.le_of_ble_eq_true rfl) _ | omega) (by first | exact hR _ (Nat.le_of_ble_eq_true rfl) _ | omega) (fun h61 => ?_) (fun h61 => ?_)
              · omega
              · refine r_aloadk_n dX9_findPrices_64 rfl ?_
                refine r_getr dX9_findPrices_65 fl_X9_20 rfl rfl (hs.lt rfl) (hs.rf rfl) ?_
                refine r_iload_n dX9_findPrices_68 rfl ?_
                refine r_iald dX9_findPrices_69 rfl (hs.lt rfl) rfl (by omega) ?_
                refine r_iconst dX9_findPrices_70 ?_
                refine r_icmpeq (tgt := 161) dX9_findPrices_71 rfl (hR 40 (by decide) i) (by omega) (fun h71 => ?_) (fun h71 => ?_)
                · refine r_iinc dX9_findPrices_161 (Nat.le_of_ble_eq_true rfl) rfl rfl s3 ?_
                  refine r_goto (tgt := 47) dX9_findPrices_164 rfl ?_
                  exact nxt D mo _ _ hD hI rfl hx5 (by
                    rcases hm with hm | ⟨e1, e2, e3, e4⟩
                    · exact Or.inl hm
                    · exact Or.inr ⟨e1, e2, e3, fun s hs q => absurd h71 q⟩)
                · refine r_aloadk_n dX9_findPrices_74 rfl ?_
                  refine r_iload_n dX9_findPrices_75 rfl ?_
                  refine r_iload dX9_findPrices_76 rfl ?_
                  refine q_callVr dX9_findPrices_78 (kb D i j (by omega) (by omega)) ml_X9_172 okX9_beside rfl rfl (hs.lt rfl) rfl rfl (Nat.le_of_ble_eq_true rfl) (roomOK.of (by decide)) ⟨(Nat.le_of_ble_eq_true rfl), (Nat.le_of_ble_eq_true rfl)⟩ ?_
                  refine r_istore dX9_findPrices_81 (Nat.le_of_ble_eq_true rfl) rfl s5 ?_
                  refine r_iload dX9_findPrices_83 rfl ?_
                  refine r_iconst dX9_findPrices_85 ?_
                  refine r_icmpeq (tgt := 155) dX9_findPrices_86 rfl (by omega) (by omega) (fun h86 => ?_) (fun h86 => ?_)
                  · refine r_iinc dX9_findPrices_155 (Nat.le_of_ble_eq_true rfl) rfl rfl s4 ?_
                    refine r_goto (tgt := 58) dX9_findPrices_158 rfl ?_
                    first
                    | exact skip (fun _ b' hb' => by omega) _ rfl
                    | exact skip (fun _ b' hb' => by have e : b' = b := by { rw [hb] at hb'; omega }; rw [e]; intro q; exact absurd h97 q) _ rfl
                    | exact skip (fun _ b' hb' => by have e : b' = b := by { rw [hb] at hb'; omega }; rw [e]; intro q q2; exact absurd h109 (by show ¬ FARV ≤ D b; omega)) _ rfl
                    | exact skip (fun _ b' hb' => by have e : b' = b := by { rw [hb] at hb'; omega }; rw [e]; intro q q2; exact h131) _ rfl
                    | (rw [up_sr]
                       have h131' : D b + pr i < D i := by have h := h131; exact h
                       have h109' : D b < FARV := by have h := h109; exact h
                       have hab : Adj W H i b := ⟨sdM j, sdM_4 j (by omega), hb⟩
                       have hs1 : sumN (ud D i (D b + pr i)) (W * H) < sumN D (W * H) := by rw [sumN_ud, if_pos (by omega)]; omega
                       refine ih2 (j + 1) (ud D i (D b + pr i)) 1 _ (by omega) (ud_R hD (by omega)) (hI.relax (fun c => (hpr c).1) hbl (by omega) hab h71 h97 h109' h131') rfl (Or.inl ⟨rfl, ?_⟩)
                       rcases hm with hm | ⟨e1, e2, e3, e4⟩
                       · omega
                       · rw [← e2]; exact hs1)
                  · obtain ⟨b, hb⟩ : ∃ b : Nat, nb W H i (sdM j) = b := ⟨(nb W H i (sdM j)).toNat, by omega⟩
                    rw [hb] at h86 hr ⊢
                    have hbl : b < W * H := by omega
                    have hDb := hD b
                    have hIb := hI.2.1 b hbl
                    refine r_aloadk_n dX9_findPrices_89 rfl ?_
                    refine r_getr dX9_findPrices_90 fl_X9_20 rfl rfl (hs.lt rfl) (hs.rf rfl) ?_
                    refine r_iload dX9_findPrices_93 rfl ?_
                    refine r_iald dX9_findPrices_95 rfl (hs.lt rfl) rfl (by omega) ?_
                    refine r_iconst dX9_findPrices_96 ?_
                    refine r_icmpeq (tgt := 155) dX9_findPrices_97 rfl (hR 40 (by decide) b) (by omega) (fun h97 => ?_) (fun h97 => ?_)
                    · refine r_iinc dX9_findPrices_155 (Nat.le_of_ble_eq_true rfl) rfl rfl s4 ?_
                      refine r_goto (tgt := 58) dX9_findPrices_158 rfl ?_
                      first
                      | exact skip (fun _ b' hb' => by omega) _ rfl
                      | exact skip (fun _ b' hb' => by have e : b' = b := by { rw [hb] at hb'; omega }; rw [e]; intro q; exact absurd h97 q) _ rfl
                      | exact skip (fun _ b' hb' => by have e : b' = b := by { rw [hb] at hb'; omega }; rw [e]; intro q q2; exact absurd h109 (by show ¬ FARV ≤ D b; omega)) _ rfl
                      | exact skip (fun _ b' hb' => by have e : b' = b := by { rw [hb] at hb'; omega }; rw [e]; intro q q2; exact h131) _ rfl
                      | (rw [up_sr]
                         have h131' : D b + pr i < D i := by have h := h131; exact h
                         have h109' : D b < FARV := by have h := h109; exact h
                         have hab : Adj W H i b := ⟨sdM j, sdM_4 j (by omega), hb⟩
                         have hs1 : sumN (ud D i (D b + pr i)) (W * H) < sumN D (W * H) := by rw [sumN_ud, if_pos (by omega)]; omega
                         refine ih2 (j + 1) (ud D i (D b + pr i)) 1 _ (by omega) (ud_R hD (by omega)) (hI.relax (fun c => (hpr c).1) hbl (by omega) hab h71 h97 h109' h131') rfl (Or.inl ⟨rfl, ?_⟩)
                         rcases hm with hm | ⟨e1, e2, e3, e4⟩
                         · omega
                         · rw [← e2]; exact hs1)
                    · refine r_aloadk_n dX9_findPrices_100 rfl ?_
                      refine r_getr dX9_findPrices_101 fl_X9_84 rfl rfl (hs.lt rfl) (hs.rf rfl) ?_
                      refine r_iload dX9_findPrices_104 rfl ?_
                      refine r_iald dX9_findPrices_106 rfl (hs.lt rfl) rfl (by omega) ?_
                      refine r_ldc dX9_findPrices_107 k_X9_171 ?_
                      refine r_icmpge (tgt := 155) dX9_findPrices_109 rfl (hD b) (by omega) (fun h109 => ?_) (fun h109 => ?_)
                      · refine r_iinc dX9_findPrices_155 (Nat.le_of_ble_eq_true rfl) rfl rfl s4 ?_
                        refine r_goto (tgt := 58) dX9_findPrices_158 rfl ?_
                        first
                        | exact skip (fun _ b' hb' => by omega) _ rfl
                        | exact skip (fun _ b' hb' => by have e : b' = b := by { rw [hb] at hb'; omega }; rw [e]; intro q; exact absurd h97 q) _ rfl
                        | exact skip (fun _ b' hb' => by have e : b' = b := by { rw [hb] at hb'; omega }; rw [e]; intro q q2; exact absurd h109 (by show ¬ FARV ≤ D b; omega)) _ rfl
                        | exact skip (fun _ b' hb' => by have e : b' = b := by { rw [hb] at hb'; omega }; rw [e]; intro q q2; exact h131) _ rfl
                        | (rw [up_sr]
                           have h131' : D b + pr i < D i := by have h := h131; exact h
                           have h109' : D b < FARV := by have h := h109; exact h
                           have hab : Adj W H i b := ⟨sdM j, sdM_4 j (by omega), hb⟩
                           have hs1 : sumN (ud D i (D b + pr i)) (W * H) < sumN D (W * H) := by rw [sumN_ud, if_pos (by omega)]; omega
                           refine ih2 (j + 1) (ud D i (D b + pr i)) 1 _ (by omega) (ud_R hD (by omega)) (hI.relax (fun c => (hpr c).1) hbl (by omega) hab h71 h97 h109' h131') rfl (Or.inl ⟨rfl, ?_⟩)
                           rcases hm with hm | ⟨e1, e2, e3, e4⟩
                           · omega
                           · rw [← e2]; exact hs1)
                      · refine r_aloadk_n dX9_findPrices_112 rfl ?_
                        refine r_getr dX9_findPrices_113 fl_X9_84 rfl rfl (hs.lt rfl) (hs.rf rfl) ?_
                        refine r_iload dX9_findPrices_116 rfl ?_
                        refine r_iald dX9_findPrices_118 rfl (hs.lt rfl) rfl (by omega) ?_
                        refine r_aloadk_n dX9_findPrices_119 rfl ?_
                        refine r_iload_n dX9_findPrices_120 rfl ?_
                        refine q_callVr dX9_findPrices_121 (kp D hD i (by omega)) ml_X9_167 okX9_priceOf rfl rfl (hs.lt rfl) rfl rfl (Nat.le_of_ble_eq_true rfl) (roomOK.of (by decide)) ⟨(Nat.le_of_ble_eq_true rfl), (Nat.le_of_ble_eq_true rfl)⟩ ?_
                        refine r_iadd dX9_findPrices_124 ?_
                        refine r_aloadk_n dX9_findPrices_125 rfl ?_
                        refine r_getr dX9_findPrices_126 fl_X9_84 rfl rfl (hs.lt rfl) (hs.rf rfl) ?_
                        refine r_iload_n dX9_findPrices_129 rfl ?_
                        refine r_iald dX9_findPrices_130 rfl (hs.lt rfl) rfl (by omega) ?_
                        refine r_icmpge (tgt := 155) dX9_findPrices_131 rfl (by show R32 (D b + pr i); unfold FARV at *; omega) (hD i) (fun h131 => ?_) (fun h131 => ?_)
                        · refine r_iinc dX9_findPrices_155 (Nat.le_of_ble_eq_true rfl) rfl rfl s4 ?_
                          refine r_goto (tgt := 58) dX9_findPrices_158 rfl ?_
                          first
                          | exact skip (fun _ b' hb' => by omega) _ rfl
                          | exact skip (fun _ b' hb' => by have e : b' = b := by { rw [hb] at hb'; omega }; rw [e]; intro q; exact absurd h97 q) _ rfl
                          | exact skip (fun _ b' hb' => by have e : b' = b := by { rw [hb] at hb'; omega }; rw [e]; intro q q2; exact absurd h109 (by show ¬ FARV ≤ D b; omega)) _ rfl
                          | exact skip (fun _ b' hb' => by have e : b' = b := by { rw [hb] at hb'; omega }; rw [e]; intro q q2; exact h131) _ rfl
                          | (rw [up_sr]
                             have h131' : D b + pr i < D i := by have h := h131; exact h
                             have h109' : D b < FARV := by have h := h109; exact h
                             have hab : Adj W H i b := ⟨sdM j, sdM_4 j (by omega), hb⟩
                             have hs1 : sumN (ud D i (D b + pr i)) (W * H) < sumN D (W * H) := by rw [sumN_ud, if_pos (by omega)]; omega
                             refine ih2 (j + 1) (ud D i (D b + pr i)) 1 _ (by omega) (ud_R hD (by omega)) (hI.relax (fun c => (hpr c).1) hbl (by omega) hab h71 h97 h109' h131') rfl (Or.inl ⟨rfl, ?_⟩)
                             rcases hm with hm | ⟨e1, e2, e3, e4⟩
                             · omega
                             · rw [← e2]; exact hs1)
                        · refine r_aloadk_n dX9_findPrices_134 rfl ?_
                          refine r_getr dX9_findPrices_135 fl_X9_84 rfl rfl (hs.lt rfl) (hs.rf rfl) ?_
                          refine r_iload_n dX9_findPrices_138 rfl ?_
                          refine r_aloadk_n dX9_findPrices_139 rfl ?_
                          refine r_getr dX9_findPrices_140 fl_X9_84 rfl rfl (hs.lt rfl) (hs.rf rfl) ?_
                          refine r_iload dX9_findPrices_143 rfl ?_
                          refine r_iald dX9_findPrices_145 rfl (hs.lt rfl) rfl (by omega) ?_
                          refine r_aloadk_n dX9_findPrices_146 rfl ?_
                          refine r_iload_n dX9_findPrices_147 rfl ?_
                          refine q_callVr dX9_findPrices_148 (kp D hD i (by omega)) ml_X9_167 okX9_priceOf rfl rfl (hs.lt rfl) rfl rfl (Nat.le_of_ble_eq_true rfl) (roomOK.of (by decide)) ⟨(Nat.le_of_ble_eq_true rfl), (Nat.le_of_ble_eq_true rfl)⟩ ?_
                          refine r_iadd dX9_findPrices_151 ?_
                          refine r_iast dX9_findPrices_152 rfl (hs.lt rfl) rfl (by omega) ?_
                          refine r_iconst dX9_findPrices_153 ?_
                          refine r_istore_n dX9_findPrices_154 (Nat.le_of_ble_eq_true rfl) rfl s2 ?_
                          refine r_iinc dX9_findPrices_155 (Nat.le_of_ble_eq_true rfl) rfl rfl s4 ?_
                          refine r_goto (tgt := 58) dX9_findPrices_158 rfl ?_
                          first
                          | exact skip (fun _ b' hb' => by omega) _ rfl
                          | exact skip (fun _ b' hb' => by have e : b' = b := by { rw [hb] at hb'; omega }; rw [e]; intro q; exact absurd h97 q) _ rfl
                          | exact skip (fun _ b' hb' => by have e : b' = b := by { rw [hb] at hb'; omega }; rw [e]; intro q q2; exact absurd h109 (by show ¬ FARV ≤ D b; omega)) _ rfl
                          | exact skip (fun _ b' hb' => by have e : b' = b := by { rw [hb] at hb'; omega }; rw [e]; intro q q2; exact h131) _ rfl
                          | (rw [up_sr]
                             have h131' : D b + pr i < D i := by have h := h131; exact h
                             have h109' : D b < FARV := by have h := h109; exact h
                             have hab : Adj W H i b := ⟨sdM j, sdM_4 j (by omega), hb⟩
                             have hs1 : sumN (ud D i (D b + pr i)) (W * H) < sumN D (W * H) := by rw [sumN_ud, if_pos (by omega)]; omega
                             refine ih2 (j + 1) (ud D i (D b + pr i)) 1 _ (by omega) (ud_R hD (by omega)) (hI.relax (fun c => (hpr c).1) hbl (by omega) hab h71 h97 h109' h131') rfl (Or.inl ⟨rfl, ?_⟩)
                             rcases hm with hm | ⟨e1, e2, e3, e4⟩
                             · omega
                             · rw [← e2]; exact hs1)
          refine r_iload_n dX9_findPrices_47 rfl ?_
          refine r_aloadk_n dX9_findPrices_48 rfl ?_
          refine q_callVr dX9_findPrices_49 (kc D) ml_X9_148 okX9_cells rfl rfl (hs.lt rfl) rfl rfl (Nat.le_of_ble_eq_true rfl) (roomOK.of (by decide)) ⟨(Nat.le_of_ble_eq_true rfl), (Nat.le_of_ble_eq_true rfl)⟩ ?_
          refine r_icmpge (tgt := 167) dX9_findPrices_52 rfl (by omega) (by omega) (fun h52 => ?_) (fun h52 => ?_)
          · omega
          · refine r_iconst dX9_findPrices_55 ?_
            refine r_istore dX9_findPrices_56 (Nat.le_of_ble_eq_true rfl) rfl s4 ?_
            exact sl 4 0 D mo _ (by omega) hD hI hx5 (by
              rcases hm with hm | ⟨e1, e2, e3⟩
              · exact Or.inl hm
              · exact Or.inr ⟨e1, e2, e3, fun s hs => by omega⟩)
      refine r_iload_n dX9_findPrices_39 rfl ?_
      refine r_ifeq (tgt := 170) dX9_findPrices_40 rfl (by first | exact hR _ (Nat.le_of_ble_eq_true rfl) _ | omega) (fun h40 => ?_) (fun h40 => ?_)
      · omega
      · refine r_iconst dX9_findPrices_43 ?_
        refine r_istore_n dX9_findPrices_44 (Nat.le_of_ble_eq_true rfl) rfl s2 ?_
        refine r_iconst dX9_findPrices_45 ?_
        refine r_istore_n dX9_findPrices_46 (Nat.le_of_ble_eq_true rfl) rfl s3 ?_
        exact cl (W * H) 0 D0 0 _ _ (by omega) hD0 hI0 hx4 hx5 (Or.inr ⟨rfl, rfl, fun c hc => by omega⟩)
  have hR58 : ∀ j, R32 (σ 58 j) := hR 58 (by decide)
  have iniR : ∀ i j, R32 (iniD pr (σ 58) fr i j) := fun i j => by
    have := hR58 j
    have := hpr j
    unfold iniD FARV
    split
    · split <;> omega
    · assumption
  have loop : ∀ (m i : Nat), i + m = W * H → RW (KV l G 1 mX9_findPrices n ρ Q) (0, 0, n, ρ) (sr σ 58 (iniD pr (σ 58) fr i)) 2 [rf G 38, iv fr, iv i, xx, xx, xx] [] := by
    intro m
    induction m with
    | zero =>
      intro i hi
      have e : i = W * H := by omega
      have hI : BInv (σ 40) pr W H fr (iniD pr (σ 58) fr i) := by
        have h1 : ∀ c, c < W * H → c ≠ fr → iniD pr (σ 58) fr i c = FARV := fun c hc hf => by unfold iniD; rw [if_pos (by omega), if_neg hf]
        have h2 : iniD pr (σ 58) fr i fr = pr fr := by unfold iniD; rw [if_pos (by omega), if_pos rfl]
        have h3 := hpr fr
        refine ⟨h2, fun c hc => ?_, fun c hc hu => h1 c hc (fun q => hfu (by rw [← q]; exact hu)), fun c hc hf hF => ?_⟩
        · by_cases q : c = fr
          · rw [q, h2]; unfold FARV; omega
          · rw [h1 c hc q]; unfold FARV; omega
        · rw [h1 c hc hf] at hF; omega
      have hk := sumN_r (f := iniD pr (σ 58) fr i) (a := 0) (b := FARV) (W * H) (fun i hi => by have := hI.2.1 i hi; omega)
      refine r_iload_n dX9_findPrices_2 rfl ?_
      refine r_aloadk_n dX9_findPrices_3 rfl ?_
      refine q_callVr dX9_findPrices_4 (kc _) ml_X9_148 okX9_cells rfl rfl (hs.lt rfl) rfl rfl (Nat.le_of_ble_eq_true rfl) (roomOK.of (by decide)) ⟨(Nat.le_of_ble_eq_true rfl), (Nat.le_of_ble_eq_true rfl)⟩ ?_
      refine r_icmpge (tgt := 37) dX9_findPrices_7 rfl (by omega) (by omega) (fun h7 => ?_) (fun h7 => ?_)
      · refine r_iconst dX9_findPrices_37 ?_
        refine r_istore_n dX9_findPrices_38 (Nat.le_of_ble_eq_true rfl) rfl s2 ?_
        exact outer ((sumN (iniD pr (σ 58) fr i) (W * H)).toNat + 1) _ _ _ _ (by omega) (iniR i) hI rfl rfl rfl
      · omega
    | succ m ih =>
      intro i hi
      refine r_iload_n dX9_findPrices_2 rfl ?_
      refine r_aloadk_n dX9_findPrices_3 rfl ?_
      refine q_callVr dX9_findPrices_4 (kc _) ml_X9_148 okX9_cells rfl rfl (hs.lt rfl) rfl rfl (Nat.le_of_ble_eq_true rfl) (roomOK.of (by decide)) ⟨(Nat.le_of_ble_eq_true rfl), (Nat.le_of_ble_eq_true rfl)⟩ ?_
      refine r_icmpge (tgt := 37) dX9_findPrices_7 rfl (by omega) (by omega) (fun h7 => ?_) (fun h7 => ?_)
      · omega
      · refine r_aloadk_n dX9_findPrices_10 rfl ?_
        refine r_getr dX9_findPrices_11 fl_X9_84 rfl rfl (hs.lt rfl) (hs.rf rfl) ?_
        refine r_iload_n dX9_findPrices_14 rfl ?_
        refine r_iload_n dX9_findPrices_15 rfl ?_
        refine r_iload_n dX9_findPrices_16 rfl ?_
        refine r_icmpne (tgt := 28) dX9_findPrices_17 rfl (by omega) (by omega) (fun h17 => ?_) (fun h17 => ?_)
        · refine r_ldc dX9_findPrices_28 k_X9_171 ?_
          refine r_iast dX9_findPrices_30 rfl (hs.lt rfl) rfl (by omega) ?_
          refine r_iinc dX9_findPrices_31 (Nat.le_of_ble_eq_true rfl) rfl rfl s2 ?_
          refine r_goto (tgt := 2) dX9_findPrices_34 rfl ?_
          rw [up_sr, ini_ud (by first | (rw [if_pos (by omega)]) | (rw [if_neg (by omega)]; rfl))]
          exact ih (i + 1) (by omega)
        · refine r_aloadk_n dX9_findPrices_20 rfl ?_
          refine r_iload_n dX9_findPrices_21 rfl ?_
          refine q_callVr dX9_findPrices_22 (kp _ (iniR i) i (by omega)) ml_X9_167 okX9_priceOf rfl rfl (hs.lt rfl) rfl rfl (Nat.le_of_ble_eq_true rfl) (roomOK.of (by decide)) ⟨(Nat.le_of_ble_eq_true rfl), (Nat.le_of_ble_eq_true rfl)⟩ ?_
          refine r_goto (tgt := 30) dX9_findPrices_25 rfl ?_
          refine r_iast dX9_findPrices_30 rfl (hs.lt rfl) rfl (by omega) ?_
          refine r_iinc dX9_findPrices_31 (Nat.le_of_ble_eq_true rfl) rfl rfl s2 ?_
          refine r_goto (tgt := 2) dX9_findPrices_34 rfl ?_
          rw [up_sr, ini_ud (by first | (rw [if_pos (by omega)]) | (rw [if_neg (by omega)]; rfl))]
          exact ih (i + 1) (by omega)
  refine Ct.of (L0 := [rf G 38, iv fr, xx, xx, xx, xx]) (by decide +kernel) (Nat.le_of_ble_eq_true rfl) rfl ?_
  refine r_iconst dX9_findPrices_0 ?_
  refine r_istore_n dX9_findPrices_1 (Nat.le_of_ble_eq_true rfl) rfl s2 ?_
  have h := loop (W * H) 0 (by omega)
  have e : iniD pr (σ 58) fr 0 = σ 58 := by funext b; unfold iniD; rw [if_neg (by omega)]
  rw [e, sr_self] at h
  exact h
end Model4
