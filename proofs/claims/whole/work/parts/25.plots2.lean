/-! CLASS: PlotBook: hedges, faults -/
theorem bi0_any {f : Nat → Bool} {i : Nat} (h : bi (anyN f i = false) = 0) : 0 = bi (anyN f (i + 1) = false) := by
  show _ = bi ((anyN f i || f i) = false)
  cases ha : anyN f i <;> cases hb : f i <;> simp_all [bi]
theorem bi0_at {f : Nat → Bool} {i : Nat} (h : f i = true) : 0 = bi (anyN f (i + 1) = false) := by
  show _ = bi ((anyN f i || f i) = false)
  rw [h, Bool.or_true]; rfl
theorem bi1_any {f : Nat → Bool} {i : Nat} (h : ¬ bi (anyN f i = false) = 0) (h2 : f i = false) : 1 = bi (anyN f (i + 1) = false) := by
  show _ = bi ((anyN f i || f i) = false)
  cases ha : anyN f i <;> simp_all [bi]
theorem bi_keep {f : Nat → Bool} {i : Nat} (h : f i = false) : bi (anyN f i = false) = bi (anyN f (i + 1) = false) := by
  show _ = bi ((anyN f i || f i) = false)
  rw [h, Bool.or_false]
theorem bo1_any {f : Nat → Bool} {i : Nat} (h : ¬ bi (anyN f i = true) = 0) : 1 = bi (anyN f (i + 1) = true) := by
  show _ = bi ((anyN f i || f i) = true)
  cases ha : anyN f i <;> simp_all [bi]
theorem bo1_at {f : Nat → Bool} {i : Nat} (h : f i = true) : 1 = bi (anyN f (i + 1) = true) := by
  show _ = bi ((anyN f i || f i) = true)
  rw [h, Bool.or_true]; rfl
theorem bo0_any {f : Nat → Bool} {i : Nat} (h : bi (anyN f i = true) = 0) (h2 : f i = false) : 0 = bi (anyN f (i + 1) = true) := by
  show _ = bi ((anyN f i || f i) = true)
  cases ha : anyN f i <;> simp_all [bi]
theorem bo_keep {f : Nat → Bool} {i : Nat} (h : f i = false) : bi (anyN f i = true) = bi (anyN f (i + 1) = true) := by
  show _ = bi ((anyN f i || f i) = true)
  rw [h, Bool.or_false]
/-- a side of a cell that is hedged -/
def hedF (W H : Nat) (sh : Nat → Int) (s p c : Nat) (side : Nat) : Int := bi (¬ nb W H c side = -1 ∧ ¬ inS W s (nb W H c side).toNat ∧ anyN (aheadF W sh (nb W H c side).toNat) p = false)
def hedC (W H : Nat) (sh : Nat → Int) (s p c : Nat) : Int := if inS W s c ∧ anyN (aheadF W sh c) p = false then sumN (hedF W H sh s p c) 4 else 0
def npF (W : Nat) (us rd : Nat → Int) (s c : Nat) : Bool := decide (inS W s c ∧ ¬ (¬ us c = 2 ∧ rd c = 0))
def ahF (W : Nat) (sh : Nat → Int) (s p c : Nat) : Bool := decide (inS W s c ∧ anyN (aheadF W sh c) p = true)
def brF (W H : Nat) (rd : Nat → Int) (s c : Nat) : Bool := decide (inS W s c ∧ anyN (besF rd W H c) 4 = true)
/-- by which of 1 .. 4 a plot first fails -/
def fauS (W H : Nat) (so us rd sh : Nat → Int) (s p : Nat) (due slack : Int) : Int :=
  if ¬ insideS W H s then 1 else if anyN (npF W us rd s) (W * H) = true then 1 else if anyN (ahF W sh s p) (W * H) = true then 2
  else if slack < (if 0 ≤ worS W so s (W * H) - due then worS W so s (W * H) - due else -(worS W so s (W * H) - due)) then 3 else if anyN (brF W H rd s) (W * H) = true then 0 else 4
section Plots2
variable {l : Launch} {G : GG} {n : Nat} {ρ : Rho} {σ : Si}
theorem c_hedgeOf (hs : Std n ρ) (hR : Rg σ) {W H : Nat} (g : Geo σ W H) (hsh : ShpOK W H (σ 36)) (p s : Nat) (hp : p < 8) (hps : σ 36 p = s) (hs1 : s < 65536) (hs2 : s / 256 < W * H) : RdI l G 3 mX2_hedgeOf n ρ σ [rf G 35, iv p] (sumN (hedC W H (σ 36) s p) (W * H)) := by
  have hle := g.le
  obtain ⟨g0, g1, g2, g3, g4, g5⟩ := id g
  have loop : ∀ (m i : Nat) (z0 : Int) (x4 x5 : Value), i + m = W * H → z0 = sumN (hedC W H (σ 36) s p) i → isJ x4 = false → isJ x5 = false → RW (KI l G 3 mX2_hedgeOf n ρ (fun σ' z => σ' = σ ∧ z = sumN (hedC W H (σ 36) s p) (W * H))) (0, 0, n, ρ) σ 4 [rf G 35, iv p, iv z0, iv i, x4, x5] [] := by
    intro m
    induction m with
    | zero =>
      intro i z0 x4 x5 hi hz hx4 hx5
      have e : i = W * H := by omega
      refine r_iload_n dX2_hedgeOf_4 rfl ?_
      refine r_aloadk_n dX2_hedgeOf_5 rfl ?_
      refine r_getr dX2_hedgeOf_6 fl_X2_18 rfl rfl (hs.lt rfl) (hs.rf rfl) ?_
      refine r_geti dX2_hedgeOf_9 fl_X2_54 rfl rfl (hs.lt rfl) ?_
      refine r_icmpge (tgt := 117) dX2_hedgeOf_12 rfl (by first | exact hR _ (Nat.le_of_ble_eq_true rfl) _ | omega) (by first | exact hR _ (Nat.le_of_ble_eq_true rfl) _ | omega) (fun h12 => ?_) (fun h12 => ?_)
      · refine r_iload_n dX2_hedgeOf_117 rfl ?_
        exact r_ireti dX2_hedgeOf_118 rfl ⟨_, rfl, rfl, by rw [← e, hz]⟩
      · omega
    | succ m ih =>
      intro i z0 x4 x5 hi hz hx4 hx5
      have inner : ∀ (m2 j : Nat) (z1 : Int) (x5 : Value), j + m2 = 4 → isJ x5 = false → z1 = z0 + sumN (hedF W H (σ 36) s p i) j → inS W s i → anyN (aheadF W (σ 36) i) p = false → RW (KI l G 3 mX2_hedgeOf n ρ (fun σ' z => σ' = σ ∧ z = sumN (hedC W H (σ 36) s p) (W * H))) (0, 0, n, ρ) σ 47 [rf G 35, iv p, iv z1, iv i, iv j, x5] [] := by
        intro m2
        induction m2 with
        | zero =>
          intro j z1 x5 hj hx5 hz1 hin hah
          have e : j = 4 := by omega
          subst e
          refine r_iload dX2_hedgeOf_47 rfl ?_
          refine r_iconst dX2_hedgeOf_49 ?_
          refine r_icmpge (tgt := 111) dX2_hedgeOf_50 rfl (by first | exact hR _ (Nat.le_of_ble_eq_true rfl) _ | omega) (by first | exact hR _ (Nat.le_of_ble_eq_true rfl) _ | omega) (fun h50 => ?_) (fun h50 => ?_)
          · refine r_iinc dX2_hedgeOf_111 (Nat.le_of_ble_eq_true rfl) rfl rfl s3 ?_
            refine r_goto (tgt := 4) dX2_hedgeOf_114 rfl ?_
            refine ih (i + 1) _ _ _ (by omega) ?_ rfl hx5
            show _ = sumN _ i + hedC W H (σ 36) s p i
            rw [← hz]
            unfold hedC
            rw [if_pos ⟨hin, hah⟩, hz1]
          · omega
        | succ m2 ih2 =>
          intro j z1 x5 hj hx5 hz1 hin hah
          have hr := nb_r (show i < W * H by omega) (by omega : 0 < W) j
          refine r_iload dX2_hedgeOf_47 rfl ?_
          refine r_iconst dX2_hedgeOf_49 ?_
          refine r_icmpge (tgt := 111) dX2_hedgeOf_50 rfl (by first | exact hR _ (Nat.le_of_ble_eq_true rfl) _ | omega) (by first | exact hR _ (Nat.le_of_ble_eq_true rfl) _ | omega) (fun h50 => ?_) (fun h50 => ?_)
          · omega
          · refine r_aloadk_n dX2_hedgeOf_53 rfl ?_
            refine r_getr dX2_hedgeOf_54 fl_X2_18 rfl rfl (hs.lt rfl) (hs.rf rfl) ?_
            refine r_iload_n dX2_hedgeOf_57 rfl ?_
            refine r_iload dX2_hedgeOf_58 rfl ?_
            refine q_callVr dX2_hedgeOf_60 (c_beside hs hR g i j (by omega) (by omega)) ml_X2_79 okX1_beside rfl rfl (hs.lt rfl) rfl rfl (Nat.le_of_ble_eq_true rfl) (roomOK.of (by decide)) ⟨(Nat.le_of_ble_eq_true rfl), (Nat.le_of_ble_eq_true rfl)⟩ ?_
            refine r_istore dX2_hedgeOf_63 (Nat.le_of_ble_eq_true rfl) rfl s5 ?_
            refine r_iload dX2_hedgeOf_65 rfl ?_
            refine r_iconst dX2_hedgeOf_67 ?_
            refine r_icmpeq (tgt := 105) dX2_hedgeOf_68 rfl (by first | exact hR _ (Nat.le_of_ble_eq_true rfl) _ | omega) (by first | exact hR _ (Nat.le_of_ble_eq_true rfl) _ | omega) (fun h68 => ?_) (fun h68 => ?_)
            · refine r_iinc dX2_hedgeOf_105 (Nat.le_of_ble_eq_true rfl) rfl rfl s4 ?_
              refine r_goto (tgt := 47) dX2_hedgeOf_108 rfl ?_
              refine ih2 (j + 1) _ _ (by omega) rfl ?_ hin hah
              show _ = z0 + (sumN _ j + hedF W H (σ 36) s p i j)
              rw [hz1]
              have key : ∀ x : Int, x = hedF W H (σ 36) s p i j → z0 + sumN (hedF W H (σ 36) s p i) j + x = z0 + (sumN (hedF W H (σ 36) s p i) j + hedF W H (σ 36) s p i j) := fun x hx => by omega
              first
              | exact key 1 (by unfold hedF; rw [hb, Int.toNat_natCast]; exact (bi_t ⟨by omega, h86, Bool.eq_false_iff.mpr h99⟩).symm)
              | (have h := key 0 (by unfold hedF; exact (bi_f (fun q => by first | exact q.1 h68 | (rw [hb, Int.toNat_natCast] at q; first | exact q.2.1 h86 | (rw [h99] at q; exact absurd q.2.2 (by decide))))).symm); omega)
            · obtain ⟨b, hb⟩ : ∃ b : Nat, nb W H i j = b := ⟨(nb W H i j).toNat, by omega⟩
              rw [hb] at h68 hr ⊢
              refine r_aloadk_n dX2_hedgeOf_71 rfl ?_
              refine r_getr dX2_hedgeOf_72 fl_X2_18 rfl rfl (hs.lt rfl) (hs.rf rfl) ?_
              refine r_iload dX2_hedgeOf_75 rfl ?_
              refine r_aloadk_n dX2_hedgeOf_77 rfl ?_
              refine r_getr dX2_hedgeOf_78 fl_X2_9 rfl rfl (hs.lt rfl) (hs.rf rfl) ?_
              refine r_iload_n dX2_hedgeOf_81 rfl ?_
              refine r_iald dX2_hedgeOf_82 rfl (hs.lt rfl) rfl (by omega) ?_
              rw [hps]
              refine q_callVr dX2_hedgeOf_83 (c_isIn hs hR g b s (by omega) hs1 hs2) ml_X2_45 okX1_isIn rfl rfl (hs.lt rfl) rfl rfl (Nat.le_of_ble_eq_true rfl) (roomOK.of (by decide)) ⟨(Nat.le_of_ble_eq_true rfl), (Nat.le_of_ble_eq_true rfl)⟩ ?_
              refine r_ifeqb (tgt := 92) dX2_hedgeOf_86 rfl (fun h86 => ?_) (fun h86 => ?_)
              · refine r_aloadk_n dX2_hedgeOf_92 rfl ?_
                refine r_iload dX2_hedgeOf_93 rfl ?_
                refine r_iload_n dX2_hedgeOf_95 rfl ?_
                refine q_callVr dX2_hedgeOf_96 (c_isInPlotAhead hs hR g hsh b p (by omega) (by omega)) ml_X2_60 okX2_isInPlotAhead rfl rfl (hs.lt rfl) rfl rfl (Nat.le_of_ble_eq_true rfl) (roomOK.of (by decide)) ⟨(Nat.le_of_ble_eq_true rfl), (Nat.le_of_ble_eq_true rfl)⟩ ?_
                refine r_ifneb (tgt := 105) dX2_hedgeOf_99 rfl (fun h99 => ?_) (fun h99 => ?_)
                · refine r_iinc dX2_hedgeOf_105 (Nat.le_of_ble_eq_true rfl) rfl rfl s4 ?_
                  refine r_goto (tgt := 47) dX2_hedgeOf_108 rfl ?_
                  refine ih2 (j + 1) _ _ (by omega) rfl ?_ hin hah
                  show _ = z0 + (sumN _ j + hedF W H (σ 36) s p i j)
                  rw [hz1]
                  have key : ∀ x : Int, x = hedF W H (σ 36) s p i j → z0 + sumN (hedF W H (σ 36) s p i) j + x = z0 + (sumN (hedF W H (σ 36) s p i) j + hedF W H (σ 36) s p i j) := fun x hx => by omega
                  first
                  | exact key 1 (by unfold hedF; rw [hb, Int.toNat_natCast]; exact (bi_t ⟨by omega, h86, Bool.eq_false_iff.mpr h99⟩).symm)
                  | (have h := key 0 (by unfold hedF; exact (bi_f (fun q => by first | exact q.1 h68 | (rw [hb, Int.toNat_natCast] at q; first | exact q.2.1 h86 | (rw [h99] at q; exact absurd q.2.2 (by decide))))).symm); omega)
                · refine r_iinc dX2_hedgeOf_102 (Nat.le_of_ble_eq_true rfl) rfl rfl s2 ?_
                  refine r_iinc dX2_hedgeOf_105 (Nat.le_of_ble_eq_true rfl) rfl rfl s4 ?_
                  refine r_goto (tgt := 47) dX2_hedgeOf_108 rfl ?_
                  refine ih2 (j + 1) _ _ (by omega) rfl ?_ hin hah
                  show _ = z0 + (sumN _ j + hedF W H (σ 36) s p i j)
                  rw [hz1]
                  have key : ∀ x : Int, x = hedF W H (σ 36) s p i j → z0 + sumN (hedF W H (σ 36) s p i) j + x = z0 + (sumN (hedF W H (σ 36) s p i) j + hedF W H (σ 36) s p i j) := fun x hx => by omega
                  first
                  | exact key 1 (by unfold hedF; rw [hb, Int.toNat_natCast]; exact (bi_t ⟨by omega, h86, Bool.eq_false_iff.mpr h99⟩).symm)
                  | (have h := key 0 (by unfold hedF; exact (bi_f (fun q => by first | exact q.1 h68 | (rw [hb, Int.toNat_natCast] at q; first | exact q.2.1 h86 | (rw [h99] at q; exact absurd q.2.2 (by decide))))).symm); omega)
              · refine r_goto (tgt := 105) dX2_hedgeOf_89 rfl ?_
                refine r_iinc dX2_hedgeOf_105 (Nat.le_of_ble_eq_true rfl) rfl rfl s4 ?_
                refine r_goto (tgt := 47) dX2_hedgeOf_108 rfl ?_
                refine ih2 (j + 1) _ _ (by omega) rfl ?_ hin hah
                show _ = z0 + (sumN _ j + hedF W H (σ 36) s p i j)
                rw [hz1]
                have key : ∀ x : Int, x = hedF W H (σ 36) s p i j → z0 + sumN (hedF W H (σ 36) s p i) j + x = z0 + (sumN (hedF W H (σ 36) s p i) j + hedF W H (σ 36) s p i j) := fun x hx => by omega
                first
                | exact key 1 (by unfold hedF; rw [hb, Int.toNat_natCast]; exact (bi_t ⟨by omega, h86, Bool.eq_false_iff.mpr h99⟩).symm)
                | (have h := key 0 (by unfold hedF; exact (bi_f (fun q => by first | exact q.1 h68 | (rw [hb, Int.toNat_natCast] at q; first | exact q.2.1 h86 | (rw [h99] at q; exact absurd q.2.2 (by decide))))).symm); omega)
      refine r_iload_n dX2_hedgeOf_4 rfl ?_
      refine r_aloadk_n dX2_hedgeOf_5 rfl ?_
      refine r_getr dX2_hedgeOf_6 fl_X2_18 rfl rfl (hs.lt rfl) (hs.rf rfl) ?_
      refine r_geti dX2_hedgeOf_9 fl_X2_54 rfl rfl (hs.lt rfl) ?_
      refine r_icmpge (tgt := 117) dX2_hedgeOf_12 rfl (by first | exact hR _ (Nat.le_of_ble_eq_true rfl) _ | omega) (by first | exact hR _ (Nat.le_of_ble_eq_true rfl) _ | omega) (fun h12 => ?_) (fun h12 => ?_)
      · omega
      · refine r_aloadk_n dX2_hedgeOf_15 rfl ?_
        refine r_getr dX2_hedgeOf_16 fl_X2_18 rfl rfl (hs.lt rfl) (hs.rf rfl) ?_
        refine r_iload_n dX2_hedgeOf_19 rfl ?_
        refine r_aloadk_n dX2_hedgeOf_20 rfl ?_
        refine r_getr dX2_hedgeOf_21 fl_X2_9 rfl rfl (hs.lt rfl) (hs.rf rfl) ?_
        refine r_iload_n dX2_hedgeOf_24 rfl ?_
        refine r_iald dX2_hedgeOf_25 rfl (hs.lt rfl) rfl (by omega) ?_
        rw [hps]
        refine q_callVr dX2_hedgeOf_26 (c_isIn hs hR g i s (by omega) hs1 hs2) ml_X2_45 okX1_isIn rfl rfl (hs.lt rfl) rfl rfl (Nat.le_of_ble_eq_true rfl) (roomOK.of (by decide)) ⟨(Nat.le_of_ble_eq_true rfl), (Nat.le_of_ble_eq_true rfl)⟩ ?_
        refine r_ifeqb (tgt := 111) dX2_hedgeOf_29 rfl (fun h29 => ?_) (fun h29 => ?_)
        · refine r_iinc dX2_hedgeOf_111 (Nat.le_of_ble_eq_true rfl) rfl rfl s3 ?_
          refine r_goto (tgt := 4) dX2_hedgeOf_114 rfl ?_
          refine ih (i + 1) _ _ _ (by omega) ?_ hx4 hx5
          show _ = sumN _ i + hedC W H (σ 36) s p i
          rw [← hz]
          unfold hedC
          first
          | (rw [if_neg (fun q => h29 q.1)]; omega)
          | (rw [if_neg (fun q => by rw [h38] at q; exact absurd q.2 (by decide))]; omega)
        · refine r_aloadk_n dX2_hedgeOf_32 rfl ?_
          refine r_iload_n dX2_hedgeOf_33 rfl ?_
          refine r_iload_n dX2_hedgeOf_34 rfl ?_
          refine q_callVr dX2_hedgeOf_35 (c_isInPlotAhead hs hR g hsh i p (by omega) (by omega)) ml_X2_60 okX2_isInPlotAhead rfl rfl (hs.lt rfl) rfl rfl (Nat.le_of_ble_eq_true rfl) (roomOK.of (by decide)) ⟨(Nat.le_of_ble_eq_true rfl), (Nat.le_of_ble_eq_true rfl)⟩ ?_
          refine r_ifeqb (tgt := 44) dX2_hedgeOf_38 rfl (fun h38 => ?_) (fun h38 => ?_)
          · refine r_iconst dX2_hedgeOf_44 ?_
            refine r_istore dX2_hedgeOf_45 (Nat.le_of_ble_eq_true rfl) rfl s4 ?_
            exact inner 4 0 _ _ (by omega) hx5 (by show _ = z0 + 0; omega) h29 (Bool.eq_false_iff.mpr h38)
          · refine r_goto (tgt := 111) dX2_hedgeOf_41 rfl ?_
            refine r_iinc dX2_hedgeOf_111 (Nat.le_of_ble_eq_true rfl) rfl rfl s3 ?_
            refine r_goto (tgt := 4) dX2_hedgeOf_114 rfl ?_
            refine ih (i + 1) _ _ _ (by omega) ?_ hx4 hx5
            show _ = sumN _ i + hedC W H (σ 36) s p i
            rw [← hz]
            unfold hedC
            first
            | (rw [if_neg (fun q => h29 q.1)]; omega)
            | (rw [if_neg (fun q => by rw [h38] at q; exact absurd q.2 (by decide))]; omega)
  refine Ct.of (L0 := [rf G 35, iv p, xx, xx, xx, xx]) (by decide +kernel) (Nat.le_of_ble_eq_true rfl) rfl ?_
  refine r_iconst dX2_hedgeOf_0 ?_
  refine r_istore_n dX2_hedgeOf_1 (Nat.le_of_ble_eq_true rfl) rfl s2 ?_
  refine r_iconst dX2_hedgeOf_2 ?_
  refine r_istore_n dX2_hedgeOf_3 (Nat.le_of_ble_eq_true rfl) rfl s3 ?_
  exact loop (W * H) 0 _ _ _ (by omega) rfl rfl rfl
set_option maxHeartbeats 4000000 in
theorem c_faultOf (hs : Std n ρ) (hR : Rg σ) {W H : Nat} (g : Geo σ W H) (hso : ∀ c, 0 ≤ σ 4 c ∧ σ 4 c ≤ 9) (hsh : ShpOK W H (σ 36)) (p s : Nat) (hp : p < 8) (hps : σ 36 p = s) (hs1 : s < 65536) (hs2 : s / 256 < W * H) (due slack : Int) (hdu : 0 ≤ due ∧ due < 1000000) (hsl : R32 slack) : RdI l G 3 mX2_faultOf n ρ σ [rf G 35, iv p, iv due, iv slack] (fauS W H (σ 4) (σ 5) (σ 6) (σ 36) s p due slack) := by
  have hle := g.le
  obtain ⟨g0, g1, g2, g3, g4, g5⟩ := id g
  have hwr := worS_r (W := W) (s := s) (N := W * H) hso
  have loop : ∀ (m i : Nat) (pl fr br : Int), i + m = W * H → pl = bi (anyN (npF W (σ 5) (σ 6) s) i = false) → fr = bi (anyN (ahF W (σ 36) s p) i = false) → br = bi (anyN (brF W H (σ 6) s) i = true) → insideS W H s → RW (KI l G 3 mX2_faultOf n ρ (fun σ' z => σ' = σ ∧ z = fauS W H (σ 4) (σ 5) (σ 6) (σ 36) s p due slack)) (0, 0, n, ρ) σ 34 [rf G 35, iv p, iv due, iv slack, iv s, iv pl, iv fr, iv br, iv i] [] := by
    intro m
    induction m with
    | zero =>
      intro i pl fr br hi hpl hfr hbr hin
      have e : i = W * H := by omega
      subst e
      have r1 := bi_01 (anyN (npF W (σ 5) (σ 6) s) (W * H) = false)
      have r2 := bi_01 (anyN (ahF W (σ 36) s p) (W * H) = false)
      have r3 := bi_01 (anyN (brF W H (σ 6) s) (W * H) = true)
      refine r_iload dX2_faultOf_34 rfl ?_
      refine r_aloadk_n dX2_faultOf_36 rfl ?_
      refine r_getr dX2_faultOf_37 fl_X2_18 rfl rfl (hs.lt rfl) (hs.rf rfl) ?_
      refine r_geti dX2_faultOf_40 fl_X2_54 rfl rfl (hs.lt rfl) ?_
      refine r_icmpge (tgt := 139) dX2_faultOf_43 rfl (by first | exact hR _ (Nat.le_of_ble_eq_true rfl) _ | omega) (by first | exact hR _ (Nat.le_of_ble_eq_true rfl) _ | omega) (fun h43 => ?_) (fun h43 => ?_)
      · refine r_iload dX2_faultOf_139 rfl ?_
        refine r_ifne (tgt := 146) dX2_faultOf_141 rfl (by first | exact hR _ (Nat.le_of_ble_eq_true rfl) _ | omega) (fun h141 => ?_) (fun h141 => ?_)
        · refine r_iload dX2_faultOf_146 rfl ?_
          refine r_ifne (tgt := 153) dX2_faultOf_148 rfl (by first | exact hR _ (Nat.le_of_ble_eq_true rfl) _ | omega) (fun h148 => ?_) (fun h148 => ?_)
          · refine r_aloadk_n dX2_faultOf_153 rfl ?_
            refine r_iload_n dX2_faultOf_154 rfl ?_
            refine q_callVr dX2_faultOf_155 (c_worthOf hs hR g hso p s hp hps hs1 hs2) ml_X2_66 okX2_worthOf rfl rfl (hs.lt rfl) rfl rfl (Nat.le_of_ble_eq_true rfl) (roomOK.of (by decide)) ⟨(Nat.le_of_ble_eq_true rfl), (Nat.le_of_ble_eq_true rfl)⟩ ?_
            refine r_iload_n dX2_faultOf_158 rfl ?_
            refine r_isub dX2_faultOf_159 ?_
            refine r_mabs dX2_faultOf_160 ml_X2_70 (by omega) (Nat.le_of_ble_eq_true rfl) (Nat.le_of_ble_eq_true rfl) ⟨(Nat.le_of_ble_eq_true rfl), (Nat.le_of_ble_eq_true rfl)⟩ ?_
            refine r_iload_n dX2_faultOf_163 rfl ?_
            refine r_icmple (tgt := 169) dX2_faultOf_164 rfl (by split <;> omega) (by omega) (fun h164 => ?_) (fun h164 => ?_)
            · refine r_iload dX2_faultOf_169 rfl ?_
              refine r_ifeq (tgt := 178) dX2_faultOf_171 rfl (by first | exact hR _ (Nat.le_of_ble_eq_true rfl) _ | omega) (fun h171 => ?_) (fun h171 => ?_)
              · refine r_iconst dX2_faultOf_178 ?_
                exact r_ireti dX2_faultOf_179 rfl ⟨_, rfl, rfl, by
  have e1 : anyN (npF W (σ 5) (σ 6) s) (W * H) = false := by
    cases h : anyN (npF W (σ 5) (σ 6) s) (W * H) with
    | false => rfl
    | true => rw [hpl, h] at h141; exact absurd rfl h141
  have e2 : anyN (ahF W (σ 36) s p) (W * H) = false := by
    cases h : anyN (ahF W (σ 36) s p) (W * H) with
    | false => rfl
    | true => rw [hfr, h] at h148; exact absurd rfl h148
  unfold fauS
  rw [if_neg (by simpa using hin), if_neg (by rw [e1]; decide), if_neg (by rw [e2]; decide)]
  first
  | rw [if_pos h164]
  | (rw [if_neg (Int.not_lt.mpr h164)]
     cases h : anyN (brF W H (σ 6) s) (W * H) with
     | false => first | rfl | (rw [hbr, h] at h171; exact absurd rfl h171)
     | true => first | rfl | (rw [hbr, h] at h171; exact absurd h171 (by decide)))⟩
              · refine r_iconst dX2_faultOf_174 ?_
                refine r_goto (tgt := 179) dX2_faultOf_175 rfl ?_
                exact r_ireti dX2_faultOf_179 rfl ⟨_, rfl, rfl, by
  have e1 : anyN (npF W (σ 5) (σ 6) s) (W * H) = false := by
    cases h : anyN (npF W (σ 5) (σ 6) s) (W * H) with
    | false => rfl
    | true => rw [hpl, h] at h141; exact absurd rfl h141
  have e2 : anyN (ahF W (σ 36) s p) (W * H) = false := by
    cases h : anyN (ahF W (σ 36) s p) (W * H) with
    | false => rfl
    | true => rw [hfr, h] at h148; exact absurd rfl h148
  unfold fauS
  rw [if_neg (by simpa using hin), if_neg (by rw [e1]; decide), if_neg (by rw [e2]; decide)]
  first
  | rw [if_pos h164]
  | (rw [if_neg (Int.not_lt.mpr h164)]
     cases h : anyN (brF W H (σ 6) s) (W * H) with
     | false => first | rfl | (rw [hbr, h] at h171; exact absurd rfl h171)
     | true => first | rfl | (rw [hbr, h] at h171; exact absurd h171 (by decide)))⟩
            · refine r_iconst dX2_faultOf_167 ?_
              exact r_ireti dX2_faultOf_168 rfl ⟨_, rfl, rfl, by
  have e1 : anyN (npF W (σ 5) (σ 6) s) (W * H) = false := by
    cases h : anyN (npF W (σ 5) (σ 6) s) (W * H) with
    | false => rfl
    | true => rw [hpl, h] at h141; exact absurd rfl h141
  have e2 : anyN (ahF W (σ 36) s p) (W * H) = false := by
    cases h : anyN (ahF W (σ 36) s p) (W * H) with
    | false => rfl
    | true => rw [hfr, h] at h148; exact absurd rfl h148
  unfold fauS
  rw [if_neg (by simpa using hin), if_neg (by rw [e1]; decide), if_neg (by rw [e2]; decide)]
  first
  | rw [if_pos h164]
  | (rw [if_neg (Int.not_lt.mpr h164)]
     cases h : anyN (brF W H (σ 6) s) (W * H) with
     | false => first | rfl | (rw [hbr, h] at h171; exact absurd rfl h171)
     | true => first | rfl | (rw [hbr, h] at h171; exact absurd h171 (by decide)))⟩
          · refine r_iconst dX2_faultOf_151 ?_
            exact r_ireti dX2_faultOf_152 rfl ⟨_, rfl, rfl, by
  have e1 : anyN (npF W (σ 5) (σ 6) s) (W * H) = false := by
    cases h : anyN (npF W (σ 5) (σ 6) s) (W * H) with
    | false => rfl
    | true => rw [hpl, h] at h141; exact absurd rfl h141
  unfold fauS
  rw [if_neg (by simpa using hin), if_neg (by rw [e1]; decide), if_pos (by cases h : anyN (ahF W (σ 36) s p) (W * H) with
    | true => rfl
    | false => rw [hfr, h] at h148; exact absurd h148 (by decide))]⟩
        · refine r_iconst dX2_faultOf_144 ?_
          exact r_ireti dX2_faultOf_145 rfl ⟨_, rfl, rfl, by
  unfold fauS
  rw [if_neg (by simpa using hin), if_pos (by cases h : anyN (npF W (σ 5) (σ 6) s) (W * H) with
    | true => rfl
    | false => rw [hpl, h] at h141; exact absurd h141 (by decide))]⟩
      · omega
    | succ m ih =>
      intro i pl fr br hi hpl hfr hbr hin
      have r1 := bi_01 (anyN (npF W (σ 5) (σ 6) s) i = false)
      have r2 := bi_01 (anyN (ahF W (σ 36) s p) i = false)
      have r3 := bi_01 (anyN (brF W H (σ 6) s) i = true)
      rw [← hpl] at r1
      rw [← hfr] at r2
      rw [← hbr] at r3
      have L131 : ∀ (a b c : Int), a = bi (anyN (npF W (σ 5) (σ 6) s) (i + 1) = false) → b = bi (anyN (ahF W (σ 36) s p) (i + 1) = false) → c = bi (anyN (brF W H (σ 6) s) (i + 1) = true) → RW (KI l G 3 mX2_faultOf n ρ (fun σ' z => σ' = σ ∧ z = fauS W H (σ 4) (σ 5) (σ 6) (σ 36) s p due slack)) (0, 0, n, ρ) σ 131 [rf G 35, iv p, iv due, iv slack, iv s, iv a, iv b, iv br, iv i] [iv c] := by
        intro a b c ha hb hc
        refine r_istore dX2_faultOf_131 (Nat.le_of_ble_eq_true rfl) rfl s7 ?_
        refine r_iinc dX2_faultOf_133 (Nat.le_of_ble_eq_true rfl) rfl rfl s8 ?_
        refine r_goto (tgt := 34) dX2_faultOf_136 rfl ?_
        exact ih (i + 1) a b c (by omega) ha hb hc hin
      have L107 : ∀ (a b : Int), a = bi (anyN (npF W (σ 5) (σ 6) s) (i + 1) = false) → b = bi (anyN (ahF W (σ 36) s p) (i + 1) = false) → inS W s i → RW (KI l G 3 mX2_faultOf n ρ (fun σ' z => σ' = σ ∧ z = fauS W H (σ 4) (σ 5) (σ 6) (σ 36) s p due slack)) (0, 0, n, ρ) σ 107 [rf G 35, iv p, iv due, iv slack, iv s, iv a, iv fr, iv br, iv i] [iv b] := by
        intro a b ha hb hii
        refine r_istore dX2_faultOf_107 (Nat.le_of_ble_eq_true rfl) rfl s6 ?_
        refine r_iload dX2_faultOf_109 rfl ?_
        refine r_ifne (tgt := 126) dX2_faultOf_111 rfl (by first | exact hR _ (Nat.le_of_ble_eq_true rfl) _ | omega) (fun h111 => ?_) (fun h111 => ?_)
        · refine r_iconst dX2_faultOf_126 ?_
          refine r_goto (tgt := 131) dX2_faultOf_127 rfl ?_
          refine L131 a b _ ha hb ?_
          first
          | exact bo1_any (by rw [← hbr]; exact h111)
          | exact bo1_at (by unfold brF; exact decide_eq_true ⟨hii, h123⟩)
          | exact bo0_any (by rw [← hbr]; exact h111) (by unfold brF; exact decide_eq_false (fun q => h123 q.2))
        · refine r_aloadk_n dX2_faultOf_114 rfl ?_
          refine r_getr dX2_faultOf_115 fl_X2_18 rfl rfl (hs.lt rfl) (hs.rf rfl) ?_
          refine r_iload dX2_faultOf_118 rfl ?_
          refine q_callVr dX2_faultOf_120 (c_isBesideRoad hs hR g i (by omega)) ml_X2_63 okX1_isBesideRoad rfl rfl (hs.lt rfl) rfl rfl (Nat.le_of_ble_eq_true rfl) (roomOK.of (by decide)) ⟨(Nat.le_of_ble_eq_true rfl), (Nat.le_of_ble_eq_true rfl)⟩ ?_
          refine r_ifeqb (tgt := 130) dX2_faultOf_123 rfl (fun h123 => ?_) (fun h123 => ?_)
          · refine r_iconst dX2_faultOf_130 ?_
            refine L131 a b _ ha hb ?_
            first
            | exact bo1_any (by rw [← hbr]; exact h111)
            | exact bo1_at (by unfold brF; exact decide_eq_true ⟨hii, h123⟩)
            | exact bo0_any (by rw [← hbr]; exact h111) (by unfold brF; exact decide_eq_false (fun q => h123 q.2))
          · refine r_iconst dX2_faultOf_126 ?_
            refine r_goto (tgt := 131) dX2_faultOf_127 rfl ?_
            refine L131 a b _ ha hb ?_
            first
            | exact bo1_any (by rw [← hbr]; exact h111)
            | exact bo1_at (by unfold brF; exact decide_eq_true ⟨hii, h123⟩)
            | exact bo0_any (by rw [← hbr]; exact h111) (by unfold brF; exact decide_eq_false (fun q => h123 q.2))
      have L85 : ∀ (a : Int), a = bi (anyN (npF W (σ 5) (σ 6) s) (i + 1) = false) → inS W s i → RW (KI l G 3 mX2_faultOf n ρ (fun σ' z => σ' = σ ∧ z = fauS W H (σ 4) (σ 5) (σ 6) (σ 36) s p due slack)) (0, 0, n, ρ) σ 85 [rf G 35, iv p, iv due, iv slack, iv s, iv pl, iv fr, iv br, iv i] [iv a] := by
        intro a ha hii
        refine r_istore dX2_faultOf_85 (Nat.le_of_ble_eq_true rfl) rfl s5 ?_
        refine r_iload dX2_faultOf_87 rfl ?_
        refine r_ifeq (tgt := 106) dX2_faultOf_89 rfl (by first | exact hR _ (Nat.le_of_ble_eq_true rfl) _ | omega) (fun h89 => ?_) (fun h89 => ?_)
        · refine r_iconst dX2_faultOf_106 ?_
          refine L107 a _ ha ?_ hii
          first
          | exact bi0_any (by rw [← hfr]; exact h89)
          | exact bi0_at (by unfold ahF; exact decide_eq_true ⟨hii, h99⟩)
          | exact bi1_any (by rw [← hfr]; exact h89) (by unfold ahF; exact decide_eq_false (fun q => h99 q.2))
        · refine r_aloadk_n dX2_faultOf_92 rfl ?_
          refine r_iload dX2_faultOf_93 rfl ?_
          refine r_iload_n dX2_faultOf_95 rfl ?_
          refine q_callVr dX2_faultOf_96 (c_isInPlotAhead hs hR g hsh i p (by omega) (by omega)) ml_X2_60 okX2_isInPlotAhead rfl rfl (hs.lt rfl) rfl rfl (Nat.le_of_ble_eq_true rfl) (roomOK.of (by decide)) ⟨(Nat.le_of_ble_eq_true rfl), (Nat.le_of_ble_eq_true rfl)⟩ ?_
          refine r_ifneb (tgt := 106) dX2_faultOf_99 rfl (fun h99 => ?_) (fun h99 => ?_)
          · refine r_iconst dX2_faultOf_106 ?_
            refine L107 a _ ha ?_ hii
            first
            | exact bi0_any (by rw [← hfr]; exact h89)
            | exact bi0_at (by unfold ahF; exact decide_eq_true ⟨hii, h99⟩)
            | exact bi1_any (by rw [← hfr]; exact h89) (by unfold ahF; exact decide_eq_false (fun q => h99 q.2))
          · refine r_iconst dX2_faultOf_102 ?_
            refine r_goto (tgt := 107) dX2_faultOf_103 rfl ?_
            refine L107 a _ ha ?_ hii
            first
            | exact bi0_any (by rw [← hfr]; exact h89)
            | exact bi0_at (by unfold ahF; exact decide_eq_true ⟨hii, h99⟩)
            | exact bi1_any (by rw [← hfr]; exact h89) (by unfold ahF; exact decide_eq_false (fun q => h99 q.2))
      refine r_iload dX2_faultOf_34 rfl ?_
      refine r_aloadk_n dX2_faultOf_36 rfl ?_
      refine r_getr dX2_faultOf_37 fl_X2_18 rfl rfl (hs.lt rfl) (hs.rf rfl) ?_
      refine r_geti dX2_faultOf_40 fl_X2_54 rfl rfl (hs.lt rfl) ?_
      refine r_icmpge (tgt := 139) dX2_faultOf_43 rfl (by first | exact hR _ (Nat.le_of_ble_eq_true rfl) _ | omega) (by first | exact hR _ (Nat.le_of_ble_eq_true rfl) _ | omega) (fun h43 => ?_) (fun h43 => ?_)
      · omega
      · refine r_aloadk_n dX2_faultOf_46 rfl ?_
        refine r_getr dX2_faultOf_47 fl_X2_18 rfl rfl (hs.lt rfl) (hs.rf rfl) ?_
        refine r_iload dX2_faultOf_50 rfl ?_
        refine r_iload dX2_faultOf_52 rfl ?_
        refine q_callVr dX2_faultOf_54 (c_isIn hs hR g i s (by omega) hs1 hs2) ml_X2_45 okX1_isIn rfl rfl (hs.lt rfl) rfl rfl (Nat.le_of_ble_eq_true rfl) (roomOK.of (by decide)) ⟨(Nat.le_of_ble_eq_true rfl), (Nat.le_of_ble_eq_true rfl)⟩ ?_
        refine r_ifneb (tgt := 63) dX2_faultOf_57 rfl (fun h57 => ?_) (fun h57 => ?_)
        · refine r_iload dX2_faultOf_63 rfl ?_
          refine r_ifeq (tgt := 84) dX2_faultOf_65 rfl (by first | exact hR _ (Nat.le_of_ble_eq_true rfl) _ | omega) (fun h65 => ?_) (fun h65 => ?_)
          · refine r_iconst dX2_faultOf_84 ?_
            refine L85 _ ?_ h57
            first
            | exact bi0_any (by rw [← hpl]; exact h65)
            | exact bi0_at (by unfold npF; exact decide_eq_true ⟨h57, h77⟩)
            | exact bi1_any (by rw [← hpl]; exact h65) (by unfold npF; exact decide_eq_false (fun q => q.2 h77))
          · refine r_aloadk_n dX2_faultOf_68 rfl ?_
            refine r_getr dX2_faultOf_69 fl_X2_18 rfl rfl (hs.lt rfl) (hs.rf rfl) ?_
            refine r_iload dX2_faultOf_72 rfl ?_
            refine q_callVr dX2_faultOf_74 (c_isPlain hs hR i (by omega)) ml_X2_57 okX1_isPlain rfl rfl (hs.lt rfl) rfl rfl (Nat.le_of_ble_eq_true rfl) (roomOK.of (by decide)) ⟨(Nat.le_of_ble_eq_true rfl), (Nat.le_of_ble_eq_true rfl)⟩ ?_
            refine r_ifeqb (tgt := 84) dX2_faultOf_77 rfl (fun h77 => ?_) (fun h77 => ?_)
            · refine r_iconst dX2_faultOf_84 ?_
              refine L85 _ ?_ h57
              first
              | exact bi0_any (by rw [← hpl]; exact h65)
              | exact bi0_at (by unfold npF; exact decide_eq_true ⟨h57, h77⟩)
              | exact bi1_any (by rw [← hpl]; exact h65) (by unfold npF; exact decide_eq_false (fun q => q.2 h77))
            · refine r_iconst dX2_faultOf_80 ?_
              refine r_goto (tgt := 85) dX2_faultOf_81 rfl ?_
              refine L85 _ ?_ h57
              first
              | exact bi0_any (by rw [← hpl]; exact h65)
              | exact bi0_at (by unfold npF; exact decide_eq_true ⟨h57, h77⟩)
              | exact bi1_any (by rw [← hpl]; exact h65) (by unfold npF; exact decide_eq_false (fun q => q.2 h77))
        · refine r_goto (tgt := 133) dX2_faultOf_60 rfl ?_
          refine r_iinc dX2_faultOf_133 (Nat.le_of_ble_eq_true rfl) rfl rfl s8 ?_
          refine r_goto (tgt := 34) dX2_faultOf_136 rfl ?_
          exact ih (i + 1) _ _ _ (by omega) (by rw [hpl]; exact bi_keep (by unfold npF; exact decide_eq_false (fun q => h57 q.1))) (by rw [hfr]; exact bi_keep (by unfold ahF; exact decide_eq_false (fun q => h57 q.1))) (by rw [hbr]; exact bo_keep (by unfold brF; exact decide_eq_false (fun q => h57 q.1))) hin
  refine Ct.of (L0 := [rf G 35, iv p, iv due, iv slack, xx, xx, xx, xx, xx]) (by decide +kernel) (Nat.le_of_ble_eq_true rfl) rfl ?_
  refine r_aloadk_n dX2_faultOf_0 rfl ?_
  refine r_getr dX2_faultOf_1 fl_X2_9 rfl rfl (hs.lt rfl) (hs.rf rfl) ?_
  refine r_iload_n dX2_faultOf_4 rfl ?_
  refine r_iald dX2_faultOf_5 rfl (hs.lt rfl) rfl (by omega) ?_
  rw [hps]
  refine r_istore dX2_faultOf_6 (Nat.le_of_ble_eq_true rfl) rfl s4 ?_
  refine r_aloadk_n dX2_faultOf_8 rfl ?_
  refine r_getr dX2_faultOf_9 fl_X2_18 rfl rfl (hs.lt rfl) (hs.rf rfl) ?_
  refine r_iload dX2_faultOf_12 rfl ?_
  refine q_callVr dX2_faultOf_14 (c_isInside hs hR g s hs1 hs2) ml_X2_51 okX1_isInside rfl rfl (hs.lt rfl) rfl rfl (Nat.le_of_ble_eq_true rfl) (roomOK.of (by decide)) ⟨(Nat.le_of_ble_eq_true rfl), (Nat.le_of_ble_eq_true rfl)⟩ ?_
  refine r_ifneb (tgt := 22) dX2_faultOf_17 rfl (fun h17 => ?_) (fun h17 => ?_)
  · refine r_iconst dX2_faultOf_22 ?_
    refine r_istore dX2_faultOf_23 (Nat.le_of_ble_eq_true rfl) rfl s5 ?_
    refine r_iconst dX2_faultOf_25 ?_
    refine r_istore dX2_faultOf_26 (Nat.le_of_ble_eq_true rfl) rfl s6 ?_
    refine r_iconst dX2_faultOf_28 ?_
    refine r_istore dX2_faultOf_29 (Nat.le_of_ble_eq_true rfl) rfl s7 ?_
    refine r_iconst dX2_faultOf_31 ?_
    refine r_istore dX2_faultOf_32 (Nat.le_of_ble_eq_true rfl) rfl s8 ?_
    exact loop (W * H) 0 _ _ _ (by omega) rfl rfl rfl h17
  · refine r_iconst dX2_faultOf_20 ?_
    exact r_ireti dX2_faultOf_21 rfl ⟨_, rfl, rfl, by unfold fauS; rw [if_pos h17]⟩
end Plots2
