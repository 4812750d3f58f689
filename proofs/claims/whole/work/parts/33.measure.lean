/-! CLASS: RoadMaker.measure: the least prices, cell by cell settled -/
def DInv (us pr : Nat → Int) (W H from_ : Nat) (D S : Nat → Int) : Prop :=
  D from_ = pr from_ ∧ (∀ c, c < W * H → 0 < D c ∧ D c ≤ FARV ∧ (S c = 0 ∨ S c = 1)) ∧ (∀ c, c < W * H → us c = 2 → D c = FARV) ∧
  (∀ c, c < W * H → c ≠ from_ → D c < FARV → ∃ b, b < W * H ∧ Adj W H c b ∧ S b = 1 ∧ D c = D b + pr c) ∧
  (∀ b c, b < W * H → c < W * H → Adj W H b c → S b = 1 → ¬ us c = 2 → D c ≤ D b + pr c) ∧
  (∀ b c, b < W * H → c < W * H → S b = 1 → S c = 0 → D b ≤ D c) ∧
  (∀ b, b < W * H → S b = 1 → D b < FARV) ∧ (S from_ = 1 ∨ ∀ c, c < W * H → c ≠ from_ → D c = FARV)
def DInvU (us pr : Nat → Int) (W H from_ : Nat) (D S : Nat → Int) (u j : Nat) : Prop :=
  D from_ = pr from_ ∧ (∀ c, c < W * H → 0 < D c ∧ D c ≤ FARV ∧ (S c = 0 ∨ S c = 1)) ∧ (∀ c, c < W * H → us c = 2 → D c = FARV) ∧
  (∀ c, c < W * H → c ≠ from_ → D c < FARV → ∃ b, b < W * H ∧ Adj W H c b ∧ S b = 1 ∧ D c = D b + pr c) ∧
  (∀ b c, b < W * H → c < W * H → Adj W H b c → S b = 1 → b ≠ u → ¬ us c = 2 → D c ≤ D b + pr c) ∧
  (∀ b c, b < W * H → c < W * H → S b = 1 → S c = 0 → D b ≤ D c) ∧
  (∀ b, b < W * H → S b = 1 → D b < FARV) ∧ S from_ = 1 ∧
  (∀ s (c : Nat), s < j → nb W H u s = c → ¬ us c = 2 → D c ≤ D u + pr c) ∧ (∀ b, b < W * H → S b = 1 → D b ≤ D u) ∧ S u = 1 ∧ u < W * H
theorem DInv.start {us pr : Nat → Int} {W H from_ : Nat} {D S : Nat → Int} (h : DInv us pr W H from_ D S) (hf : from_ < W * H) {u : Nat} (hu : u < W * H) (hSu : S u = 0) (hDu : D u < FARV) (hmin : ∀ i, i < W * H → S i = 0 → D u ≤ D i) : DInvU us pr W H from_ D (ud S u 1) u 0 := by
  obtain ⟨h1, h2, h3, h4, h5, h6, h7, h8⟩ := h
  have hS : ∀ b, ud S u 1 b = 1 → b = u ∨ S b = 1 := fun b hb => by
    unfold ud at hb
    split at hb
    · left; assumption
    · right; assumption
  have hS1 : ∀ b, S b = 1 → ud S u 1 b = 1 := fun b hb => by unfold ud; split <;> simp_all
  have hS0 : ∀ b, ud S u 1 b = 0 → S b = 0 ∧ b ≠ u := fun b hb => by
    unfold ud at hb
    split at hb
    · omega
    · exact ⟨hb, by assumption⟩
  refine ⟨h1, fun c hc => ⟨(h2 c hc).1, (h2 c hc).2.1, ?_⟩, h3, fun c hc hcf hcF => ?_, fun b c hb hc hab hSb hbu huc => ?_, fun b c hb hc hSb hSc => ?_, fun b hb hSb => ?_, ?_, fun s c hs => by omega, fun b hb hSb => ?_, ud_at, hu⟩
  · unfold ud
    split
    · right; rfl
    · exact (h2 c hc).2.2
  · obtain ⟨b, hb, hab, hSb, he⟩ := h4 c hc hcf hcF
    exact ⟨b, hb, hab, hS1 b hSb, he⟩
  · rcases hS b hSb with e | e
    · exact absurd e hbu
    · exact h5 b c hb hc hab e huc
  · have h0 := hS0 c hSc
    rcases hS b hSb with e | e
    · rw [e]; exact hmin c hc h0.1
    · exact h6 b c hb hc e h0.1
  · rcases hS b hSb with e | e
    · rw [e]; exact hDu
    · exact h7 b hb e
  · rcases h8 with h8 | h8
    · exact hS1 _ h8
    · by_cases e : u = from_
      · rw [← e]; exact ud_at
      · have := h8 u hu e; omega
  · rcases hS b hSb with e | e
    · rw [e]; exact Int.le_refl _
    · exact h6 b u hb hu e hSu
theorem DInvU.skip {us pr : Nat → Int} {W H from_ : Nat} {D S : Nat → Int} {u j : Nat} (h : DInvU us pr W H from_ D S u j) (hk : ∀ c : Nat, nb W H u j = c → ¬ us c = 2 → D c ≤ D u + pr c) : DInvU us pr W H from_ D S u (j + 1) := by
  obtain ⟨h1, h2, h3, h4, h5, h6, h7, h8, h9, h10, h11, h12⟩ := h
  refine ⟨h1, h2, h3, h4, h5, h6, h7, h8, fun s c hs hn hc => ?_, h10, h11, h12⟩
  by_cases e : s = j
  · subst e; exact hk c hn hc
  · exact h9 s c (by omega) hn hc
theorem DInvU.relax {us pr : Nat → Int} {W H from_ : Nat} {D S : Nat → Int} {u j v : Nat} (h : DInvU us pr W H from_ D S u j) (hW : 0 < W) (hj : j < 4) (hpr : ∀ c, 1 ≤ pr c) (hv : v < W * H) (hn : nb W H u j = v) (hSv : S v = 0) (huv : ¬ us v = 2) : DInvU us pr W H from_ (ud D v (min (D v) (D u + pr v))) S u (j + 1) := by
  obtain ⟨h1, h2, h3, h4, h5, h6, h7, h8, h9, h10, h11, h12⟩ := h
  have hvu : v ≠ u := fun e => by rw [e] at hSv; omega
  have hvf : v ≠ from_ := fun e => by rw [e] at hSv; omega
  have hne : ∀ b, S b = 1 → b ≠ v := fun b hb e => by rw [e] at hb; omega
  have hle : ∀ c, ud D v (min (D v) (D u + pr v)) c ≤ D c := fun c => by
    unfold ud
    split
    · rename_i e; rw [e]; omega
    · exact Int.le_refl _
  have hp := hpr v
  have hDu := h2 u h12
  have hDv := h2 v hv
  have hav : Adj W H v u := Adj.symm ⟨j, hj, hn⟩ h12 hW
  refine ⟨by rw [ud_ne (Ne.symm hvf)]; exact h1, fun c hc => ?_, fun c hc huc => ?_, fun c hc hcf hcF => ?_, fun b c hb hc hab hSb hbu huc => ?_, fun b c hb hc hSb hSc => ?_, fun b hb hSb => ?_, h8, fun s c hs hns hc => ?_, fun b hb hSb => ?_, h11, h12⟩
  · have hc2 := h2 c hc
    refine ⟨?_, Int.le_trans (hle c) hc2.2.1, hc2.2.2⟩
    unfold ud
    split <;> omega
  · rw [ud_ne (fun e : c = v => huv (by rw [← e]; exact huc))]; exact h3 c hc huc
  · by_cases e : c = v
    · rw [e, ud_at] at hcF ⊢
      by_cases hm : D v ≤ D u + pr v
      · rw [show min (D v) (D u + pr v) = D v by omega] at hcF ⊢
        obtain ⟨b, hb, hab, hSb, he⟩ := h4 v hv hvf hcF
        exact ⟨b, hb, hab, hSb, by rw [ud_ne (hne b hSb)]; exact he⟩
      · exact ⟨u, h12, hav, h11, by rw [ud_ne (Ne.symm hvu)]; omega⟩
    · rw [ud_ne e] at hcF ⊢
      obtain ⟨b, hb, hab, hSb, he⟩ := h4 c hc hcf hcF
      exact ⟨b, hb, hab, hSb, by rw [ud_ne (hne b hSb)]; exact he⟩
  · rw [ud_ne (hne b hSb)]
    exact Int.le_trans (hle c) (h5 b c hb hc hab hSb hbu huc)
  · rw [ud_ne (hne b hSb)]
    have q := h6 b c hb hc hSb hSc
    have q2 := h10 b hb hSb
    unfold ud
    split
    · rename_i e
      rw [e] at q
      omega
    · exact q
  · rw [ud_ne (hne b hSb)]; exact h7 b hb hSb
  · rw [ud_ne (Ne.symm hvu)]
    by_cases e : s = j
    · subst e
      have e2 : c = v := by omega
      rw [e2, ud_at]
      omega
    · exact Int.le_trans (hle c) (h9 s c (by omega) hns hc)
  · rw [ud_ne (hne b hSb), ud_ne (Ne.symm hvu)]; exact h10 b hb hSb
theorem DInvU.done {us pr : Nat → Int} {W H from_ : Nat} {D S : Nat → Int} {u : Nat} (h : DInvU us pr W H from_ D S u 4) : DInv us pr W H from_ D S := by
  obtain ⟨h1, h2, h3, h4, h5, h6, h7, h8, h9, h10, h11, h12⟩ := h
  refine ⟨h1, h2, h3, h4, fun b c hb hc hab hSb huc => ?_, h6, h7, Or.inl h8⟩
  by_cases e : b = u
  · subst e
    obtain ⟨s, hs, hn⟩ := hab
    exact h9 s c hs hn huc
  · exact h5 b c hb hc hab hSb e huc
theorem DInv.sol {us pr : Nat → Int} {W H from_ : Nat} {D S : Nat → Int} (h : DInv us pr W H from_ D S) (hz : ∀ i, i < W * H → S i = 0 → FARV ≤ D i) : Sol us pr W H from_ D := by
  obtain ⟨h1, h2, h3, h4, h5, h6, h7, h8⟩ := h
  have hS : ∀ b, b < W * H → D b < FARV → S b = 1 := fun b hb hF => by
    rcases (h2 b hb).2.2 with e | e
    · have := hz b hb e; omega
    · exact e
  refine ⟨h1, fun c hc => ⟨(h2 c hc).1, (h2 c hc).2.1⟩, h3, fun c hc huc hcf hcF => ?_, fun b c hb hc hab hub huc hbF => h5 b c hb hc hab (hS b hb hbF) huc⟩
  obtain ⟨b, hb, hab, hSb, he⟩ := h4 c hc hcf hcF
  refine ⟨b, hb, hab, fun q => ?_, h7 b hb hSb, he⟩
  have := h3 b hb q
  have := h7 b hb hSb
  omega
theorem sumN_ud {S : Nat → Int} {u : Nat} {z : Int} : ∀ N : Nat, sumN (ud S u z) N = sumN S N + (if u < N then z - S u else 0)
  | 0 => by simp [sumN]
  | N + 1 => by
    have ih := sumN_ud (S := S) (u := u) (z := z) N
    show sumN (ud S u z) N + ud S u z N = sumN S N + S N + _
    rw [ih]
    unfold ud
    by_cases h : N = u
    · subst h
      rw [if_neg (by omega), if_pos rfl, if_pos (by omega)]
      omega
    · rw [if_neg h]
      by_cases h2 : u < N
      · rw [if_pos h2, if_pos (by omega)]; omega
      · rw [if_neg h2, if_neg (by omega)]; omega
theorem sumN_full {S : Nat → Int} : ∀ N : Nat, (∀ c, c < N → S c = 0 ∨ S c = 1) → (sumN S N ≤ N) ∧ (sumN S N = N → ∀ c, c < N → S c = 1)
  | 0, _ => ⟨by simp [sumN], fun _ c hc => by omega⟩
  | N + 1, h => by
    obtain ⟨h1, h2⟩ := sumN_full N (fun c hc => h c (by omega))
    have h3 := h N (by omega)
    have e : sumN S (N + 1) = sumN S N + S N := rfl
    refine ⟨by omega, fun hs c hc => ?_⟩
    by_cases e2 : c = N
    · rw [e2]; omega
    · exact h2 (by omega) c (by omega)
section Measure
variable {l : Launch} {G : GG} {n : Nat} {ρ : Rho} {σ : Si}
set_option maxHeartbeats 4000000 in
theorem c_measure (hs : Std n ρ) (hR : Rg σ) {W H : Nat} (g : Geo σ W H) (hso : ∀ c, 0 ≤ σ 4 c ∧ σ 4 c ≤ 9) (fr : Nat) (hfr : fr < W * H) (hfu : ¬ σ 5 fr = 2) : CtV l G 2 mX3_measure n ρ σ [rf G 9, iv fr] (fun σ' => ∃ D S : Nat → Int, (∀ j, R32 (D j)) ∧ (∀ j, R32 (S j)) ∧ Sol (σ 5) (prS (σ 4) (σ 6)) W H fr D ∧ σ' = sr (sr σ 10 D) 11 S) := by
  have hle := g.le
  obtain ⟨g0, g1, g2, g3, g4, g5⟩ := id g
  have hpr := prS_r (so := σ 4) (rd := σ 6) hso
  have kp : ∀ (D S : Nat → Int), (∀ j, R32 (D j)) → (∀ j, R32 (S j)) → ∀ c : Nat, c < 80 → RdI l G 1 mX3_price n ρ (sr (sr σ 10 D) 11 S) [rf G 9, iv c] (prS (σ 4) (σ 6) c) := fun D S hD hS c hc => c_price (σ := sr (sr σ 10 D) 11 S) hs ((hR.sr hD).sr hS) c hc
  have kn : ∀ (D S : Nat → Int), (∀ j, R32 (D j)) → (∀ j, R32 (S j)) → RdI l G 0 mX3_nearestUnsettled n ρ (sr (sr σ 10 D) 11 S) [rf G 9] (nfold D S (W * H)) := fun D S hD hS => c_nearest (σ := sr (sr σ 10 D) 11 S) hs ((hR.sr hD).sr hS) g2 hle
  have kb : ∀ (D S : Nat → Int), (∀ j, R32 (D j)) → (∀ j, R32 (S j)) → ∀ c sd : Nat, c < W * H → sd < 4 → RdI l G 0 mX1_beside n ρ (sr (sr σ 10 D) 11 S) [rf G 2, iv c, iv sd] (nb W H c sd) := fun D S hD hS c sd hc hsd => c_beside (σ := sr (sr σ 10 D) 11 S) hs ((hR.sr hD).sr hS) g c sd hc hsd
  have kc : ∀ (D S : Nat → Int), (∀ j, R32 (D j)) → (∀ j, R32 (S j)) → ∀ c : Nat, c < 80 → RdI l G 0 mX1_isClose n ρ (sr (sr σ 10 D) 11 S) [rf G 2, iv c] (bi (σ 5 c = 2)) := fun D S hD hS c hc => c_isClose (σ := sr (sr σ 10 D) 11 S) hs ((hR.sr hD).sr hS) c hc
  generalize prS (σ 4) (σ 6) = pr at hpr kp ⊢
  have outer : ∀ (m i : Nat) (D S : Nat → Int) (x3 x4 x5 : Value), i + m = W * H → (∀ j, R32 (D j)) → (∀ j, R32 (S j)) → DInv (σ 5) pr W H fr D S → sumN S (W * H) = i → isJ x3 = false → isJ x4 = false → RW (KV l G 2 mX3_measure n ρ (fun σ' => ∃ D S : Nat → Int, (∀ j, R32 (D j)) ∧ (∀ j, R32 (S j)) ∧ Sol (σ 5) pr W H fr D ∧ σ' = sr (sr σ 10 D) 11 S)) (0, 0, n, ρ) (sr (sr σ 10 D) 11 S) 48 [rf G 9, iv fr, iv i, x3, x4, x5] [] := by
    intro m
    induction m with
    | zero =>
      intro i D S x3 x4 x5 hi hD hS hI hcnt hx3 hx4
      have e : i = W * H := by omega
      refine r_iload_n dX3_measure_48 rfl ?_
      refine r_aloadk_n dX3_measure_49 rfl ?_
      refine r_getr dX3_measure_50 fl_X3_19 rfl rfl (hs.lt rfl) (hs.rf rfl) ?_
      refine r_geti dX3_measure_53 fl_X3_28 rfl rfl (hs.lt rfl) ?_
      refine r_icmpge (tgt := 171) dX3_measure_56 rfl (by omega) (by show R32 (σ 2 2); omega) (fun h56 => ?_) (fun h56 => ?_)
      · exact r_vret dX3_measure_171 rfl ⟨rfl, D, S, hD, hS, hI.sol (fun c hc h0 => by
  have := (sumN_full (W * H) (fun c hc => (hI.2.1 c hc).2.2)).2 (by rw [hcnt, e]) c hc
  omega), rfl⟩
      · exact absurd h56 (by show ¬ (i : Int) < σ 2 2; omega)
    | succ m ih =>
      intro i D S x3 x4 x5 hi hD hS hI hcnt hx3 hx4
      have hnp := nfold_p D S (W * H)
      have inner : ∀ (m2 j u : Nat) (D2 S2 : Nat → Int) (x5 : Value), j + m2 = 4 → (∀ j, R32 (D2 j)) → (∀ j, R32 (S2 j)) → DInvU (σ 5) pr W H fr D2 S2 u j → sumN S2 (W * H) = (i + 1 : Nat) → RW (KV l G 2 mX3_measure n ρ (fun σ' => ∃ D S : Nat → Int, (∀ j, R32 (D j)) ∧ (∀ j, R32 (S j)) ∧ Sol (σ 5) pr W H fr D ∧ σ' = sr (sr σ 10 D) 11 S)) (0, 0, n, ρ) (sr (sr σ 10 D2) 11 S2) 80 [rf G 9, iv fr, iv i, iv u, iv j, x5] [] := by
        intro m2
        induction m2 with
        | zero =>
          intro j u D2 S2 x5 hj hD2 hS2 hU hc2
          have e : j = 4 := by omega
          subst e
          refine r_iload dX3_measure_80 rfl ?_
          refine r_iconst dX3_measure_82 ?_
          refine r_icmpge (tgt := 165) dX3_measure_83 rfl (by omega) (by omega) (fun h83 => ?_) (fun h83 => ?_)
          · refine r_iinc dX3_measure_165 (Nat.le_of_ble_eq_true rfl) rfl rfl s2 ?_
            refine r_goto (tgt := 48) dX3_measure_168 rfl ?_
            exact ih (i + 1) D2 S2 _ _ _ (by omega) hD2 hS2 hU.done hc2 rfl rfl
          · omega
        | succ m2 ih2 =>
          intro j u D2 S2 x5 hj hD2 hS2 hU hc2
          have hu := hU.2.2.2.2.2.2.2.2.2.2.2
          have hr := nb_r hu (by omega : 0 < W) j
          refine r_iload dX3_measure_80 rfl ?_
          refine r_iconst dX3_measure_82 ?_
          refine r_icmpge (tgt := 165) dX3_measure_83 rfl (by omega) (by omega) (fun h83 => ?_) (fun h83 => ?_)
          · omega
          · refine r_aloadk_n dX3_measure_86 rfl ?_
            refine r_getr dX3_measure_87 fl_X3_19 rfl rfl (hs.lt rfl) (hs.rf rfl) ?_
            refine r_iload_n dX3_measure_90 rfl ?_
            refine r_iload dX3_measure_91 rfl ?_
            refine q_callVr dX3_measure_93 (kb D2 S2 hD2 hS2 u j hu (by omega)) ml_X3_62 okX1_beside rfl rfl (hs.lt rfl) rfl rfl (Nat.le_of_ble_eq_true rfl) (roomOK.of (by decide)) ⟨(Nat.le_of_ble_eq_true rfl), (Nat.le_of_ble_eq_true rfl)⟩ ?_
            refine r_istore dX3_measure_96 (Nat.le_of_ble_eq_true rfl) rfl s5 ?_
            refine r_iload dX3_measure_98 rfl ?_
            refine r_iconst dX3_measure_100 ?_
            refine r_icmpeq (tgt := 159) dX3_measure_101 rfl (by omega) (by omega) (fun h101 => ?_) (fun h101 => ?_)
            · refine r_iinc dX3_measure_159 (Nat.le_of_ble_eq_true rfl) rfl rfl s4 ?_
              refine r_goto (tgt := 80) dX3_measure_162 rfl ?_
              first
              | exact ih2 (j + 1) u D2 S2 _ (by omega) hD2 hS2 (hU.skip (fun c hn hc => by omega)) hc2
              | exact ih2 (j + 1) u D2 S2 _ (by omega) hD2 hS2 (hU.skip (fun c hn hc => by
                   have e : c = v := by omega
                   rw [e]
                   have := hU.2.2.2.2.2.2.2.2.2.1 v (by omega) (by omega)
                   omega)) hc2
              | exact ih2 (j + 1) u D2 S2 _ (by omega) hD2 hS2 (hU.skip (fun c hn hc => by
                   have e : c = v := by omega
                   rw [e] at hc
                   exact absurd h123 hc)) hc2
              | (rw [sr_comm (by omega), up_sr, sr_comm (by omega)]
                 exact ih2 (j + 1) u _ S2 _ (by omega) (fun b => by
                   unfold ud
                   split
                   · unfold FARV at hDv; omega
                   · exact hD2 b) hS2 (hU.relax (by omega) (by omega) (fun c => (hpr c).1) (by omega) hv h111 h123) hc2)
            · obtain ⟨v, hv⟩ : ∃ v : Nat, nb W H u j = v := ⟨(nb W H u j).toNat, by omega⟩
              rw [hv] at h101 hr ⊢
              have hDv := hU.2.1 v (by omega)
              have hDu := hU.2.1 u hu
              have hpv := hpr v
              refine r_aloadk_n dX3_measure_104 rfl ?_
              refine r_getr dX3_measure_105 fl_X3_15 rfl rfl (hs.lt rfl) (hs.rf rfl) ?_
              refine r_iload dX3_measure_108 rfl ?_
              refine r_zald dX3_measure_110 rfl (hs.lt rfl) rfl (by omega) ?_
              rw [show sr (sr σ 10 D2) 11 S2 11 = S2 from rfl]
              refine r_ifne (tgt := 159) dX3_measure_111 rfl (hS2 v) (fun h111 => ?_) (fun h111 => ?_)
              · refine r_iinc dX3_measure_159 (Nat.le_of_ble_eq_true rfl) rfl rfl s4 ?_
                refine r_goto (tgt := 80) dX3_measure_162 rfl ?_
                first
                | exact ih2 (j + 1) u D2 S2 _ (by omega) hD2 hS2 (hU.skip (fun c hn hc => by omega)) hc2
                | exact ih2 (j + 1) u D2 S2 _ (by omega) hD2 hS2 (hU.skip (fun c hn hc => by
                     have e : c = v := by omega
                     rw [e]
                     have := hU.2.2.2.2.2.2.2.2.2.1 v (by omega) (by omega)
                     omega)) hc2
                | exact ih2 (j + 1) u D2 S2 _ (by omega) hD2 hS2 (hU.skip (fun c hn hc => by
                     have e : c = v := by omega
                     rw [e] at hc
                     exact absurd h123 hc)) hc2
                | (rw [sr_comm (by omega), up_sr, sr_comm (by omega)]
                   exact ih2 (j + 1) u _ S2 _ (by omega) (fun b => by
                     unfold ud
                     split
                     · unfold FARV at hDv; omega
                     · exact hD2 b) hS2 (hU.relax (by omega) (by omega) (fun c => (hpr c).1) (by omega) hv h111 h123) hc2)
              · refine r_aloadk_n dX3_measure_114 rfl ?_
                refine r_getr dX3_measure_115 fl_X3_19 rfl rfl (hs.lt rfl) (hs.rf rfl) ?_
                refine r_iload dX3_measure_118 rfl ?_
                refine q_callVr dX3_measure_120 (kc D2 S2 hD2 hS2 v (by omega)) ml_X3_66 okX1_isClose rfl rfl (hs.lt rfl) rfl rfl (Nat.le_of_ble_eq_true rfl) (roomOK.of (by decide)) ⟨(Nat.le_of_ble_eq_true rfl), (Nat.le_of_ble_eq_true rfl)⟩ ?_
                refine r_ifeqb (tgt := 129) dX3_measure_123 rfl (fun h123 => ?_) (fun h123 => ?_)
                · refine r_aloadk_n dX3_measure_129 rfl ?_
                  refine r_getr dX3_measure_130 fl_X3_9 rfl rfl (hs.lt rfl) (hs.rf rfl) ?_
                  refine r_iload dX3_measure_133 rfl ?_
                  refine r_aloadk_n dX3_measure_135 rfl ?_
                  refine r_getr dX3_measure_136 fl_X3_9 rfl rfl (hs.lt rfl) (hs.rf rfl) ?_
                  refine r_iload dX3_measure_139 rfl ?_
                  refine r_iald dX3_measure_141 rfl (hs.lt rfl) rfl (by omega) ?_
                  rw [show sr (sr σ 10 D2) 11 S2 10 = D2 from rfl]
                  refine r_aloadk_n dX3_measure_142 rfl ?_
                  refine r_getr dX3_measure_143 fl_X3_9 rfl rfl (hs.lt rfl) (hs.rf rfl) ?_
                  refine r_iload_n dX3_measure_146 rfl ?_
                  refine r_iald dX3_measure_147 rfl (hs.lt rfl) rfl (by omega) ?_
                  rw [show sr (sr σ 10 D2) 11 S2 10 = D2 from rfl]
                  refine r_aloadk_n dX3_measure_148 rfl ?_
                  refine r_iload dX3_measure_149 rfl ?_
                  refine q_callVr dX3_measure_151 (kp D2 S2 hD2 hS2 v (by omega)) ml_X3_55 okX3_price rfl rfl (hs.lt rfl) rfl rfl (Nat.le_of_ble_eq_true rfl) (roomOK.of (by decide)) ⟨(Nat.le_of_ble_eq_true rfl), (Nat.le_of_ble_eq_true rfl)⟩ ?_
                  refine r_iadd dX3_measure_154 ?_
                  refine r_mmin dX3_measure_155 ml_X3_69 (by unfold FARV at hDv; omega) (by unfold FARV at hDv hDu; omega) (Nat.le_of_ble_eq_true rfl) (Nat.le_of_ble_eq_true rfl) ⟨(Nat.le_of_ble_eq_true rfl), (Nat.le_of_ble_eq_true rfl)⟩ ?_
                  refine r_iast dX3_measure_158 rfl (hs.lt rfl) rfl (by omega) ?_
                  refine r_iinc dX3_measure_159 (Nat.le_of_ble_eq_true rfl) rfl rfl s4 ?_
                  refine r_goto (tgt := 80) dX3_measure_162 rfl ?_
                  first
                  | exact ih2 (j + 1) u D2 S2 _ (by omega) hD2 hS2 (hU.skip (fun c hn hc => by omega)) hc2
                  | exact ih2 (j + 1) u D2 S2 _ (by omega) hD2 hS2 (hU.skip (fun c hn hc => by
                       have e : c = v := by omega
                       rw [e]
                       have := hU.2.2.2.2.2.2.2.2.2.1 v (by omega) (by omega)
                       omega)) hc2
                  | exact ih2 (j + 1) u D2 S2 _ (by omega) hD2 hS2 (hU.skip (fun c hn hc => by
                       have e : c = v := by omega
                       rw [e] at hc
                       exact absurd h123 hc)) hc2
                  | (rw [sr_comm (by omega), up_sr, sr_comm (by omega)]
                     exact ih2 (j + 1) u _ S2 _ (by omega) (fun b => by
                       unfold ud
                       split
                       · unfold FARV at hDv; omega
                       · exact hD2 b) hS2 (hU.relax (by omega) (by omega) (fun c => (hpr c).1) (by omega) hv h111 h123) hc2)
                · refine r_goto (tgt := 159) dX3_measure_126 rfl ?_
                  refine r_iinc dX3_measure_159 (Nat.le_of_ble_eq_true rfl) rfl rfl s4 ?_
                  refine r_goto (tgt := 80) dX3_measure_162 rfl ?_
                  first
                  | exact ih2 (j + 1) u D2 S2 _ (by omega) hD2 hS2 (hU.skip (fun c hn hc => by omega)) hc2
                  | exact ih2 (j + 1) u D2 S2 _ (by omega) hD2 hS2 (hU.skip (fun c hn hc => by
                       have e : c = v := by omega
                       rw [e]
                       have := hU.2.2.2.2.2.2.2.2.2.1 v (by omega) (by omega)
                       omega)) hc2
                  | exact ih2 (j + 1) u D2 S2 _ (by omega) hD2 hS2 (hU.skip (fun c hn hc => by
                       have e : c = v := by omega
                       rw [e] at hc
                       exact absurd h123 hc)) hc2
                  | (rw [sr_comm (by omega), up_sr, sr_comm (by omega)]
                     exact ih2 (j + 1) u _ S2 _ (by omega) (fun b => by
                       unfold ud
                       split
                       · unfold FARV at hDv; omega
                       · exact hD2 b) hS2 (hU.relax (by omega) (by omega) (fun c => (hpr c).1) (by omega) hv h111 h123) hc2)
      refine r_iload_n dX3_measure_48 rfl ?_
      refine r_aloadk_n dX3_measure_49 rfl ?_
      refine r_getr dX3_measure_50 fl_X3_19 rfl rfl (hs.lt rfl) (hs.rf rfl) ?_
      refine r_geti dX3_measure_53 fl_X3_28 rfl rfl (hs.lt rfl) ?_
      refine r_icmpge (tgt := 171) dX3_measure_56 rfl (by omega) (by show R32 (σ 2 2); omega) (fun h56 => ?_) (fun h56 => ?_)
      · exact absurd h56 (by show ¬ σ 2 2 ≤ (i : Int); omega)
      · refine r_aloadk_n dX3_measure_59 rfl ?_
        refine q_callVr dX3_measure_60 (kn D S hD hS) ml_X3_58 okX3_nearestUnsettled rfl rfl (hs.lt rfl) rfl rfl (Nat.le_of_ble_eq_true rfl) (roomOK.of (by decide)) ⟨(Nat.le_of_ble_eq_true rfl), (Nat.le_of_ble_eq_true rfl)⟩ ?_
        refine r_istore_n dX3_measure_63 (Nat.le_of_ble_eq_true rfl) rfl s3 ?_
        refine r_iload_n dX3_measure_64 rfl ?_
        refine r_iconst dX3_measure_65 ?_
        refine r_icmpne (tgt := 70) dX3_measure_66 rfl (by omega) (by omega) (fun h66 => ?_) (fun h66 => ?_)
        · obtain ⟨u, hu⟩ : ∃ u : Nat, nfold D S (W * H) = u := ⟨(nfold D S (W * H)).toNat, by omega⟩
          rw [hu] at h66 hnp ⊢
          rw [Int.toNat_natCast] at hnp
          obtain ⟨-, n2, n3, n4, n5⟩ := hnp.resolve_left (fun q => h66 q.1)
          refine r_aloadk_n dX3_measure_70 rfl ?_
          refine r_getr dX3_measure_71 fl_X3_15 rfl rfl (hs.lt rfl) (hs.rf rfl) ?_
          refine r_iload_n dX3_measure_74 rfl ?_
          refine r_iconst dX3_measure_75 ?_
          refine r_zast dX3_measure_76 rfl (hs.lt rfl) rfl (by omega) (by omega) ?_
          rw [up_sr]
          refine r_iconst dX3_measure_77 ?_
          refine r_istore dX3_measure_78 (Nat.le_of_ble_eq_true rfl) rfl s4 ?_
          refine inner 4 0 u D (ud S u 1) _ (by omega) hD (fun b => ?_) (hI.start hfr (by omega) n3 n4 n5) ?_
          · unfold ud
            split
            · omega
            · exact hS b
          · rw [sumN_ud, if_pos (by omega), hcnt, n3]; omega
        · exact r_vret dX3_measure_69 rfl ⟨rfl, D, S, hD, hS, hI.sol (by
  rcases hnp with q | q
  · exact q.2
  · omega), rfl⟩
  have clr : ∀ (m i : Nat) (D S : Nat → Int), i + m = W * H → S = (fun b => if b < i then 0 else σ 11 b) → (∀ j, R32 (D j)) → (∀ b, b < 80 → D b = FARV) → RW (KV l G 2 mX3_measure n ρ (fun σ' => ∃ D S : Nat → Int, (∀ j, R32 (D j)) ∧ (∀ j, R32 (S j)) ∧ Sol (σ 5) pr W H fr D ∧ σ' = sr (sr σ 10 D) 11 S)) (0, 0, n, ρ) (sr (sr σ 10 D) 11 S) 11 [rf G 9, iv fr, iv i, xx, xx, xx] [] := by
    intro m
    induction m with
    | zero =>
      intro i D S hi hSe hD hDF
      have e : i = W * H := by omega
      have hS : ∀ j, R32 (S j) := fun j => by
        rw [hSe]
        show R32 (if j < i then 0 else σ 11 j)
        split
        · omega
        · exact hR 11 (by decide) j
      have hS0 : ∀ c, c < W * H → S c = 0 := fun c hc => by rw [hSe]; exact if_pos (by omega)
      have hpf := hpr fr
      refine r_iload_n dX3_measure_11 rfl ?_
      refine r_aloadk_n dX3_measure_12 rfl ?_
      refine r_getr dX3_measure_13 fl_X3_19 rfl rfl (hs.lt rfl) (hs.rf rfl) ?_
      refine r_geti dX3_measure_16 fl_X3_28 rfl rfl (hs.lt rfl) ?_
      refine r_icmpge (tgt := 35) dX3_measure_19 rfl (by omega) (by show R32 (σ 2 2); omega) (fun h19 => ?_) (fun h19 => ?_)
      · refine r_aloadk_n dX3_measure_35 rfl ?_
        refine r_getr dX3_measure_36 fl_X3_9 rfl rfl (hs.lt rfl) (hs.rf rfl) ?_
        refine r_iload_n dX3_measure_39 rfl ?_
        refine r_aloadk_n dX3_measure_40 rfl ?_
        refine r_iload_n dX3_measure_41 rfl ?_
        refine q_callVr dX3_measure_42 (kp D S hD hS fr (by omega)) ml_X3_55 okX3_price rfl rfl (hs.lt rfl) rfl rfl (Nat.le_of_ble_eq_true rfl) (roomOK.of (by decide)) ⟨(Nat.le_of_ble_eq_true rfl), (Nat.le_of_ble_eq_true rfl)⟩ ?_
        refine r_iast dX3_measure_45 rfl (hs.lt rfl) rfl (by omega) ?_
        rw [sr_comm (by omega), up_sr, sr_comm (by omega)]
        refine r_iconst dX3_measure_46 ?_
        refine r_istore_n dX3_measure_47 (Nat.le_of_ble_eq_true rfl) rfl s2 ?_
        refine outer (W * H) 0 (ud D fr (pr fr)) S _ _ _ (by omega) (fun b => ?_) hS ?_ ?_ rfl rfl
        · unfold ud
          split
          · omega
          · exact hD b
        · have hF : ∀ c, c < W * H → c ≠ fr → ud D fr (pr fr) c = FARV := fun c hc hcf => by rw [ud_ne hcf]; exact hDF c (by omega)
          refine ⟨ud_at, fun c hc => ⟨?_, ?_, Or.inl (hS0 c hc)⟩, fun c hc huc => hF c hc (fun q => hfu (q ▸ huc)), fun c hc hcf hcF => ?_, fun b c hb hc hab hSb => ?_, fun b c hb hc hSb => ?_, fun b hb hSb => ?_, Or.inr hF⟩
          · by_cases q : c = fr
            · rw [q, ud_at]; omega
            · rw [hF c hc q]; unfold FARV; omega
          · by_cases q : c = fr
            · rw [q, ud_at]; unfold FARV; omega
            · rw [hF c hc q]; exact Int.le_refl _
          · rw [hF c hc hcf] at hcF; omega
          · have := hS0 b hb; omega
          · have := hS0 b hb; omega
          · have := hS0 b hb; omega
        · have := sumN_congr (f := S) (g := fun _ => 0) (W * H) (fun c hc => hS0 c hc)
          rw [this]
          have z : ∀ N : Nat, sumN (fun _ => (0 : Int)) N = 0 := fun N => by
            induction N with
            | zero => rfl
            | succ N ihN => show sumN _ N + 0 = 0; rw [ihN]; rfl
          rw [z]; rfl
      · exact absurd h19 (by show ¬ (i : Int) < σ 2 2; omega)
    | succ m ih =>
      intro i D S hi hSe hD hDF
      refine r_iload_n dX3_measure_11 rfl ?_
      refine r_aloadk_n dX3_measure_12 rfl ?_
      refine r_getr dX3_measure_13 fl_X3_19 rfl rfl (hs.lt rfl) (hs.rf rfl) ?_
      refine r_geti dX3_measure_16 fl_X3_28 rfl rfl (hs.lt rfl) ?_
      refine r_icmpge (tgt := 35) dX3_measure_19 rfl (by omega) (by show R32 (σ 2 2); omega) (fun h19 => ?_) (fun h19 => ?_)
      · exact absurd h19 (by show ¬ σ 2 2 ≤ (i : Int); omega)
      · refine r_aloadk_n dX3_measure_22 rfl ?_
        refine r_getr dX3_measure_23 fl_X3_15 rfl rfl (hs.lt rfl) (hs.rf rfl) ?_
        refine r_iload_n dX3_measure_26 rfl ?_
        refine r_iconst dX3_measure_27 ?_
        refine r_zast dX3_measure_28 rfl (hs.lt rfl) rfl (by omega) (by omega) ?_
        refine r_iinc dX3_measure_29 (Nat.le_of_ble_eq_true rfl) rfl rfl s2 ?_
        refine r_goto (tgt := 11) dX3_measure_32 rfl ?_
        rw [up_sr]
        refine ih (i + 1) D _ (by omega) ?_ hD hDF
        rw [hSe]
        exact ud_if (gts := fun _ => 0)
  refine Ct.of (L0 := [rf G 9, iv fr, xx, xx, xx, xx]) (by decide +kernel) (Nat.le_of_ble_eq_true rfl) rfl ?_
  refine r_aloadk_n dX3_measure_0 rfl ?_
  refine r_getr dX3_measure_1 fl_X3_9 rfl rfl (hs.lt rfl) (hs.rf rfl) ?_
  refine r_ldc dX3_measure_4 k_X3_27 ?_
  refine q_callSv dX3_measure_6 (c_fill 10 80 (hs.lt rfl) rfl 1000000000) ml_X3_49 okJ7_fill_53178 rfl rfl (Nat.le_of_ble_eq_true rfl) (roomOK.of (by decide)) ⟨(Nat.le_of_ble_eq_true rfl), (Nat.le_of_ble_eq_true rfl)⟩ (fun σ' hq1 => ?_)
  subst hq1
  rw [filR_sr]
  refine r_iconst dX3_measure_9 ?_
  refine r_istore_n dX3_measure_10 (Nat.le_of_ble_eq_true rfl) rfl s2 ?_
  have e1 : sr σ 10 (fun b => if b < 80 then 1000000000 else σ 10 b) = sr (sr σ 10 (fun b => if b < 80 then 1000000000 else σ 10 b)) 11 (fun b => if b < 0 then 0 else σ 11 b) := by
    have e2 : (fun b => if b < 0 then 0 else σ 11 b) = sr σ 10 (fun b => if b < 80 then 1000000000 else σ 10 b) 11 := by funext b; rw [if_neg (by omega)]; rfl
    rw [e2, sr_self]
  rw [e1]
  exact clr (W * H) 0 _ _ (by omega) rfl (fun j => by
    show R32 (if j < 80 then 1000000000 else σ 10 j)
    split
    · omega
    · exact hR 10 (by decide) j) (fun b hb => if_pos hb)
end Measure
