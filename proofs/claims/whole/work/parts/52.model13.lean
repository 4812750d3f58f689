/-! MODEL: the plots -/
/-- a plot of the model as one number -/
def shM (σ : Si) : Nat → Int := fun p => if σ 55 p = 0 then -1 else 256 * σ 54 p + 16 * σ 55 p + σ 56 p
def PlM (σ : Si) (W H P : Nat) : Prop := ∀ p, p < P → σ 55 p = 0 ∨ ((1 ≤ σ 55 p ∧ σ 55 p ≤ 10) ∧ (1 ≤ σ 56 p ∧ σ 56 p ≤ 10) ∧ (0 ≤ σ 54 p ∧ σ 54 p < (W * H : Nat)))
theorem PlM.get {σ : Si} {W H P p : Nat} (h : PlM σ W H P) (hp : p < P) (hle : W * H ≤ 80) (h0 : ¬ σ 55 p = 0) : ∃ a w v : Nat, σ 54 p = a ∧ σ 55 p = w ∧ σ 56 p = v ∧ a < W * H ∧ (1 ≤ w ∧ w ≤ 10) ∧ (1 ≤ v ∧ v ≤ 10) ∧ shM σ p = ((256 * a + 16 * w + v : Nat) : Int) ∧ (256 * a + 16 * w + v) / 256 = a ∧ (256 * a + 16 * w + v) / 16 % 16 = w ∧ (256 * a + 16 * w + v) % 16 = v := by
  rcases h p hp with q | ⟨q1, q2, q3⟩
  · exact absurd q h0
  · refine ⟨(σ 54 p).toNat, (σ 55 p).toNat, (σ 56 p).toNat, by omega, by omega, by omega, by omega, by omega, by omega, ?_, by omega, by omega, by omega⟩
    unfold shM
    rw [if_neg h0]
    omega
theorem shM_0 {σ : Si} {W H P p : Nat} (h : PlM σ W H P) (hp : p < P) (hle : W * H ≤ 80) : shM σ p = -1 ↔ σ 55 p = 0 := by
  constructor
  · intro q
    rcases Classical.em (σ 55 p = 0) with e | e
    · exact e
    · obtain ⟨a, w, v, -, -, -, -, -, -, hs, -⟩ := h.get hp hle e
      omega
  · intro q
    unfold shM
    rw [if_pos q]
theorem anyN_sd {f : Nat → Bool} : anyN (fun s => f (sdM s)) 4 = anyN f 4 := by
  show ((((false || f 1) || f 2) || f 0) || f 3) = ((((false || f 0) || f 1) || f 2) || f 3)
  cases f 0 <;> cases f 1 <;> cases f 2 <;> cases f 3 <;> rfl
theorem sumN_sd {f : Nat → Int} : sumN (fun s => f (sdM s)) 4 = sumN f 4 := by
  show (((0 + f 1) + f 2) + f 0) + f 3 = (((0 + f 0) + f 1) + f 2) + f 3
  omega
theorem aheadM {W : Nat} {sh : Nat → Int} {c p s : Nat} (h : sh p = s) : aheadF W sh c p = true ↔ inS W s c := by
  unfold aheadF
  rw [decide_eq_true_iff, h, Int.toNat_natCast]
  exact ⟨fun q => q.2, fun q => ⟨by omega, q⟩⟩
section Model13
variable {l : Launch} {G : GG} {n : Nat} {ρ : Rho} {σ : Si} {W H P C O : Nat}
set_option maxHeartbeats 4000000 in
theorem m_isIn (hs : Std n ρ) (hR : Rg σ) (g : GeoM σ W H) (hpl : PlM σ W H P) (hP8 : P ≤ 8) (p c : Nat) (hp : p < P) (hc : c < W * H) : RdI l G 1 mX9_isIn n ρ σ [rf G 38, iv p, iv c] (bi (aheadF W (shM σ) c p = true)) := by
  have hle := WH_le g.2.2.1.2 g.2.2.2.2
  obtain ⟨g1, g2, g3, g4⟩ := id g
  have hp8 : p < 8 := by omega
  by_cases h0 : σ 55 p = 0
  · have e : bi (aheadF W (shM σ) c p = true) = 0 := bi_f (fun q => by
      unfold aheadF at q
      rw [decide_eq_true_iff] at q
      exact q.1 ((shM_0 hpl hp hle).mpr h0))
    rw [e]
    refine Ct.of (L0 := [rf G 38, iv p, iv c, xx, xx]) (by decide +kernel) (Nat.le_of_ble_eq_true rfl) rfl ?_
    refine r_aloadk_n dX9_isIn_0 rfl ?_
    refine r_getr dX9_isIn_1 fl_X9_75 rfl rfl (hs.lt rfl) (hs.rf rfl) ?_
    refine r_iload_n dX9_isIn_4 rfl ?_
    refine r_iald dX9_isIn_5 rfl (hs.lt rfl) rfl (by omega) ?_
    refine r_ifne (tgt := 11) dX9_isIn_6 rfl (by first | exact hR _ (Nat.le_of_ble_eq_true rfl) _ | omega) (fun h6 => ?_) (fun h6 => ?_)
    · exact absurd h0 h6
    · refine r_iconst dX9_isIn_9 ?_
      exact r_iretz dX9_isIn_10 rfl (by omega) ⟨_, rfl, rfl, rfl⟩
  · obtain ⟨a, w, v, ea, ew, ev, ha, hw, hv, hsh, sa1, sa2, sa3⟩ := hpl.get hp hle h0
    have e : bi (aheadF W (shM σ) c p = true) = bi ((0 ≤ ((c % W : Nat) : Int) - (a % W : Nat) ∧ ((c % W : Nat) : Int) - (a % W : Nat) ≤ (w : Int) - 1) ∧ (0 ≤ ((c / W : Nat) : Int) - (a / W : Nat) ∧ ((c / W : Nat) : Int) - (a / W : Nat) ≤ (v : Int) - 1)) := bi_iff (by
      rw [aheadM hsh]
      unfold inS
      rw [sa1, sa2, sa3]
      omega)
    rw [e]
    have p3 := Nat.mod_lt c (show 0 < W by omega)
    have p4 : c / W < H := Nat.div_lt_of_lt_mul hc
    have p5 := Nat.mod_lt a (show 0 < W by omega)
    have p6 : a / W < H := Nat.div_lt_of_lt_mul ha
    generalize hcx : c % W = cx at p3 ⊢
    generalize hcy : c / W = cy at p4 ⊢
    generalize hax : a % W = ax at p5 ⊢
    generalize hay : a / W = ay at p6 ⊢
    have k1 : RdI l G 0 mX9_in n ρ σ [iv ((cx : Int) - (ax : Int)), iv 0, iv ((w : Int) - 1)] (bi (0 ≤ (cx : Int) - (ax : Int) ∧ (cx : Int) - (ax : Int) ≤ (w : Int) - 1)) := c_in _ 0 _ (by omega) (by omega) (by omega)
    have k2 : RdI l G 0 mX9_in n ρ σ [iv ((cy : Int) - (ay : Int)), iv 0, iv ((v : Int) - 1)] (bi (0 ≤ (cy : Int) - (ay : Int) ∧ (cy : Int) - (ay : Int) ≤ (v : Int) - 1)) := c_in _ 0 _ (by omega) (by omega) (by omega)
    refine Ct.of (L0 := [rf G 38, iv p, iv c, xx, xx]) (by decide +kernel) (Nat.le_of_ble_eq_true rfl) rfl ?_
    refine r_aloadk_n dX9_isIn_0 rfl ?_
    refine r_getr dX9_isIn_1 fl_X9_75 rfl rfl (hs.lt rfl) (hs.rf rfl) ?_
    refine r_iload_n dX9_isIn_4 rfl ?_
    refine r_iald dX9_isIn_5 rfl (hs.lt rfl) rfl (by omega) ?_
    refine r_ifne (tgt := 11) dX9_isIn_6 rfl (by first | exact hR _ (Nat.le_of_ble_eq_true rfl) _ | omega) (fun h6 => ?_) (fun h6 => ?_)
    · refine r_iload_n dX9_isIn_11 rfl ?_
      refine r_aloadk_n dX9_isIn_12 rfl ?_
      refine r_geti dX9_isIn_13 fl_X9_7 rfl rfl (hs.lt rfl) ?_
      refine r_irem dX9_isIn_16 (by omega) (by omega) ?_
      rw [show iv ((c : Int) % σ 38 1) = iv (cx : Int) by rw [g1, ← hcx]; rfl]
      refine r_aloadk_n dX9_isIn_17 rfl ?_
      refine r_getr dX9_isIn_18 fl_X9_72 rfl rfl (hs.lt rfl) (hs.rf rfl) ?_
      refine r_iload_n dX9_isIn_21 rfl ?_
      refine r_iald dX9_isIn_22 rfl (hs.lt rfl) rfl (by omega) ?_
      refine r_aloadk_n dX9_isIn_23 rfl ?_
      refine r_geti dX9_isIn_24 fl_X9_7 rfl rfl (hs.lt rfl) ?_
      refine r_irem dX9_isIn_27 (by omega) (by omega) ?_
      rw [show iv (σ 54 p % σ 38 1) = iv (ax : Int) by rw [g1, ea, ← hax]; rfl]
      refine r_isub dX9_isIn_28 ?_
      refine r_istore_n dX9_isIn_29 (Nat.le_of_ble_eq_true rfl) rfl s3 ?_
      refine r_iload_n dX9_isIn_30 rfl ?_
      refine r_aloadk_n dX9_isIn_31 rfl ?_
      refine r_geti dX9_isIn_32 fl_X9_7 rfl rfl (hs.lt rfl) ?_
      refine r_idiv dX9_isIn_35 (by omega) (by omega) ?_
      rw [show iv ((c : Int) / σ 38 1) = iv (cy : Int) by rw [g1, ← hcy]; rfl]
      refine r_aloadk_n dX9_isIn_36 rfl ?_
      refine r_getr dX9_isIn_37 fl_X9_72 rfl rfl (hs.lt rfl) (hs.rf rfl) ?_
      refine r_iload_n dX9_isIn_40 rfl ?_
      refine r_iald dX9_isIn_41 rfl (hs.lt rfl) rfl (by omega) ?_
      refine r_aloadk_n dX9_isIn_42 rfl ?_
      refine r_geti dX9_isIn_43 fl_X9_7 rfl rfl (hs.lt rfl) ?_
      refine r_idiv dX9_isIn_46 (by omega) (by omega) ?_
      rw [show iv (σ 54 p / σ 38 1) = iv (ay : Int) by rw [g1, ea, ← hay]; rfl]
      refine r_isub dX9_isIn_47 ?_
      refine r_istore dX9_isIn_48 (Nat.le_of_ble_eq_true rfl) rfl s4 ?_
      refine r_iload_n dX9_isIn_50 rfl ?_
      refine r_iconst dX9_isIn_51 ?_
      refine r_aloadk_n dX9_isIn_52 rfl ?_
      refine r_getr dX9_isIn_53 fl_X9_75 rfl rfl (hs.lt rfl) (hs.rf rfl) ?_
      refine r_iload_n dX9_isIn_56 rfl ?_
      refine r_iald dX9_isIn_57 rfl (hs.lt rfl) rfl (by omega) ?_
      rw [ew]
      refine r_iconst dX9_isIn_58 ?_
      refine r_isub dX9_isIn_59 ?_
      refine q_callSr dX9_isIn_60 (k1) ml_X9_152 okX9_in rfl rfl (Nat.le_of_ble_eq_true rfl) (roomOK.of (by decide)) ⟨(Nat.le_of_ble_eq_true rfl), (Nat.le_of_ble_eq_true rfl)⟩ ?_
      refine r_ifeqb (tgt := 87) dX9_isIn_63 rfl (fun h63 => ?_) (fun h63 => ?_)
      · refine r_iconst dX9_isIn_87 ?_
        exact r_iretz dX9_isIn_88 rfl (by omega) ⟨_, rfl, rfl, by first | exact (bi_t ⟨h63, h80⟩).symm | exact (bi_f (fun q => h63 q.1)).symm | exact (bi_f (fun q => h80 q.2)).symm⟩
      · refine r_iload dX9_isIn_66 rfl ?_
        refine r_iconst dX9_isIn_68 ?_
        refine r_aloadk_n dX9_isIn_69 rfl ?_
        refine r_getr dX9_isIn_70 fl_X9_78 rfl rfl (hs.lt rfl) (hs.rf rfl) ?_
        refine r_iload_n dX9_isIn_73 rfl ?_
        refine r_iald dX9_isIn_74 rfl (hs.lt rfl) rfl (by omega) ?_
        rw [ev]
        refine r_iconst dX9_isIn_75 ?_
        refine r_isub dX9_isIn_76 ?_
        refine q_callSr dX9_isIn_77 (k2) ml_X9_152 okX9_in rfl rfl (Nat.le_of_ble_eq_true rfl) (roomOK.of (by decide)) ⟨(Nat.le_of_ble_eq_true rfl), (Nat.le_of_ble_eq_true rfl)⟩ ?_
        refine r_ifeqb (tgt := 87) dX9_isIn_80 rfl (fun h80 => ?_) (fun h80 => ?_)
        · refine r_iconst dX9_isIn_87 ?_
          exact r_iretz dX9_isIn_88 rfl (by omega) ⟨_, rfl, rfl, by first | exact (bi_t ⟨h63, h80⟩).symm | exact (bi_f (fun q => h63 q.1)).symm | exact (bi_f (fun q => h80 q.2)).symm⟩
        · refine r_iconst dX9_isIn_83 ?_
          refine r_goto (tgt := 88) dX9_isIn_84 rfl ?_
          exact r_iretz dX9_isIn_88 rfl (by omega) ⟨_, rfl, rfl, by first | exact (bi_t ⟨h63, h80⟩).symm | exact (bi_f (fun q => h63 q.1)).symm | exact (bi_f (fun q => h80 q.2)).symm⟩
    · exact absurd h6 h0
theorem m_isAhead (hs : Std n ρ) (hR : Rg σ) (g : GeoM σ W H) (hpl : PlM σ W H P) (hP8 : P ≤ 8) (p c : Nat) (hp : p < P) (hc : c < W * H) : RdI l G 2 mX9_isAhead n ρ σ [rf G 38, iv p, iv c] (bi (anyN (aheadF W (shM σ) c) p = true)) := by
  have hle := WH_le g.2.2.1.2 g.2.2.2.2
  have loop : ∀ (m i : Nat) (is : Int), i + m = p → is = bi (anyN (aheadF W (shM σ) c) i = true) → RW (KI l G 2 mX9_isAhead n ρ (fun σ' z => σ' = σ ∧ z = bi (anyN (aheadF W (shM σ) c) p = true))) (0, 0, n, ρ) σ 5 [rf G 38, iv p, iv c, iv is, iv i] [] := by
    intro m
    induction m with
    | zero =>
      intro i is hi his
      have e : i = p := by omega
      subst e
      have h01 := bi_01 (anyN (aheadF W (shM σ) c) i = true)
      refine r_iload dX9_isAhead_5 rfl ?_
      refine r_iload_n dX9_isAhead_7 rfl ?_
      refine r_icmpge (tgt := 37) dX9_isAhead_8 rfl (by first | exact hR _ (Nat.le_of_ble_eq_true rfl) _ | omega) (by first | exact hR _ (Nat.le_of_ble_eq_true rfl) _ | omega) (fun h8 => ?_) (fun h8 => ?_)
      · refine r_iload_n dX9_isAhead_37 rfl ?_
        exact r_iretz dX9_isAhead_38 rfl (by omega) ⟨_, rfl, rfl, his⟩
      · omega
    | succ m ih =>
      intro i is hi his
      have h01 := bi_01 (anyN (aheadF W (shM σ) c) i = true)
      have nx : ∀ z : Int, z = bi (is = 1 ∨ aheadF W (shM σ) c i = true) → RW (KI l G 2 mX9_isAhead n ρ (fun σ' z => σ' = σ ∧ z = bi (anyN (aheadF W (shM σ) c) p = true))) (0, 0, n, ρ) σ 5 [rf G 38, iv p, iv c, iv z, iv (i + 1 : Nat)] [] := by
        intro z hz
        refine ih (i + 1) z (by omega) ?_
        rw [hz]
        refine bi_iff ?_
        show _ ↔ (anyN _ i || aheadF _ _ _ i) = true
        rw [Bool.or_eq_true, his]
        unfold bi
        split <;> simp_all
      refine r_iload dX9_isAhead_5 rfl ?_
      refine r_iload_n dX9_isAhead_7 rfl ?_
      refine r_icmpge (tgt := 37) dX9_isAhead_8 rfl (by first | exact hR _ (Nat.le_of_ble_eq_true rfl) _ | omega) (by first | exact hR _ (Nat.le_of_ble_eq_true rfl) _ | omega) (fun h8 => ?_) (fun h8 => ?_)
      · omega
      · refine r_iload_n dX9_isAhead_11 rfl ?_
        refine r_ifne (tgt := 25) dX9_isAhead_12 rfl (by omega) (fun h12 => ?_) (fun h12 => ?_)
        · refine r_iconst dX9_isAhead_25 ?_
          refine r_goto (tgt := 30) dX9_isAhead_26 rfl ?_
          refine r_istore_n dX9_isAhead_30 (Nat.le_of_ble_eq_true rfl) rfl s3 ?_
          refine r_iinc dX9_isAhead_31 (Nat.le_of_ble_eq_true rfl) rfl rfl s4 ?_
          refine r_goto (tgt := 5) dX9_isAhead_34 rfl ?_
          refine nx _ ?_
          first
          | exact (bi_t (Or.inr h22)).symm
          | exact (bi_f (fun q => q.elim (fun q => by omega) h22)).symm
          | exact (bi_t (Or.inl (by omega))).symm
        · refine r_aloadk_n dX9_isAhead_15 rfl ?_
          refine r_iload dX9_isAhead_16 rfl ?_
          refine r_iload_n dX9_isAhead_18 rfl ?_
          refine q_callVr dX9_isAhead_19 (m_isIn hs hR g hpl hP8 i c (by omega) hc) ml_X9_250 okX9_isIn rfl rfl (hs.lt rfl) rfl rfl (Nat.le_of_ble_eq_true rfl) (roomOK.of (by decide)) ⟨(Nat.le_of_ble_eq_true rfl), (Nat.le_of_ble_eq_true rfl)⟩ ?_
          refine r_ifeqb (tgt := 29) dX9_isAhead_22 rfl (fun h22 => ?_) (fun h22 => ?_)
          · refine r_iconst dX9_isAhead_29 ?_
            refine r_istore_n dX9_isAhead_30 (Nat.le_of_ble_eq_true rfl) rfl s3 ?_
            refine r_iinc dX9_isAhead_31 (Nat.le_of_ble_eq_true rfl) rfl rfl s4 ?_
            refine r_goto (tgt := 5) dX9_isAhead_34 rfl ?_
            refine nx _ ?_
            first
            | exact (bi_t (Or.inr h22)).symm
            | exact (bi_f (fun q => q.elim (fun q => by omega) h22)).symm
            | exact (bi_t (Or.inl (by omega))).symm
          · refine r_iconst dX9_isAhead_25 ?_
            refine r_goto (tgt := 30) dX9_isAhead_26 rfl ?_
            refine r_istore_n dX9_isAhead_30 (Nat.le_of_ble_eq_true rfl) rfl s3 ?_
            refine r_iinc dX9_isAhead_31 (Nat.le_of_ble_eq_true rfl) rfl rfl s4 ?_
            refine r_goto (tgt := 5) dX9_isAhead_34 rfl ?_
            refine nx _ ?_
            first
            | exact (bi_t (Or.inr h22)).symm
            | exact (bi_f (fun q => q.elim (fun q => by omega) h22)).symm
            | exact (bi_t (Or.inl (by omega))).symm
  refine Ct.of (L0 := [rf G 38, iv p, iv c, xx, xx]) (by decide +kernel) (Nat.le_of_ble_eq_true rfl) rfl ?_
  refine r_iconst dX9_isAhead_0 ?_
  refine r_istore_n dX9_isAhead_1 (Nat.le_of_ble_eq_true rfl) rfl s3 ?_
  refine r_iconst dX9_isAhead_2 ?_
  refine r_istore dX9_isAhead_3 (Nat.le_of_ble_eq_true rfl) rfl s4 ?_
  exact loop p 0 0 (by omega) (bi_f (fun q => by cases q)).symm
theorem m_worthOf (hs : Std n ρ) (hR : Rg σ) (g : GeoM σ W H) (hpl : PlM σ W H P) (hP8 : P ≤ 8) (hso : ∀ c, 0 ≤ σ 39 c ∧ σ 39 c ≤ 9) (p s : Nat) (hp : p < P) (hsh : shM σ p = s) : RdI l G 2 mX9_worthOf n ρ σ [rf G 38, iv p] (worS W (σ 39) s (W * H)) := by
  have hle := WH_le g.2.2.1.2 g.2.2.2.2
  have loop : ∀ (m i : Nat), i + m = W * H → RW (KI l G 2 mX9_worthOf n ρ (fun σ' z => σ' = σ ∧ z = worS W (σ 39) s (W * H))) (0, 0, n, ρ) σ 4 [rf G 38, iv p, iv (worS W (σ 39) s i), iv i] [] := by
    intro m
    induction m with
    | zero =>
      intro i hi
      have e : i = W * H := by omega
      subst e
      refine r_iload_n dX9_worthOf_4 rfl ?_
      refine r_aloadk_n dX9_worthOf_5 rfl ?_
      refine q_callVr dX9_worthOf_6 (m_cells hs g) ml_X9_148 okX9_cells rfl rfl (hs.lt rfl) rfl rfl (Nat.le_of_ble_eq_true rfl) (roomOK.of (by decide)) ⟨(Nat.le_of_ble_eq_true rfl), (Nat.le_of_ble_eq_true rfl)⟩ ?_
      refine r_icmpge (tgt := 40) dX9_worthOf_9 rfl (by omega) (by omega) (fun h9 => ?_) (fun h9 => ?_)
      · refine r_iload_n dX9_worthOf_40 rfl ?_
        exact r_ireti dX9_worthOf_41 rfl ⟨_, rfl, rfl, rfl⟩
      · omega
    | succ m ih =>
      intro i hi
      have nx : ∀ z : Int, z = worS W (σ 39) s i + (if inS W s i then σ 39 i else 0) → RW (KI l G 2 mX9_worthOf n ρ (fun σ' z => σ' = σ ∧ z = worS W (σ 39) s (W * H))) (0, 0, n, ρ) σ 4 [rf G 38, iv p, iv z, iv (i + 1 : Nat)] [] := by
        intro z hz
        rw [hz]
        exact ih (i + 1) (by omega)
      refine r_iload_n dX9_worthOf_4 rfl ?_
      refine r_aloadk_n dX9_worthOf_5 rfl ?_
      refine q_callVr dX9_worthOf_6 (m_cells hs g) ml_X9_148 okX9_cells rfl rfl (hs.lt rfl) rfl rfl (Nat.le_of_ble_eq_true rfl) (roomOK.of (by decide)) ⟨(Nat.le_of_ble_eq_true rfl), (Nat.le_of_ble_eq_true rfl)⟩ ?_
      refine r_icmpge (tgt := 40) dX9_worthOf_9 rfl (by omega) (by omega) (fun h9 => ?_) (fun h9 => ?_)
      · omega
      · refine r_iload_n dX9_worthOf_12 rfl ?_
        refine r_aloadk_n dX9_worthOf_13 rfl ?_
        refine r_iload_n dX9_worthOf_14 rfl ?_
        refine r_iload_n dX9_worthOf_15 rfl ?_
        refine q_callVr dX9_worthOf_16 (m_isIn hs hR g hpl hP8 p i hp (by omega)) ml_X9_250 okX9_isIn rfl rfl (hs.lt rfl) rfl rfl (Nat.le_of_ble_eq_true rfl) (roomOK.of (by decide)) ⟨(Nat.le_of_ble_eq_true rfl), (Nat.le_of_ble_eq_true rfl)⟩ ?_
        refine r_ifeqb (tgt := 31) dX9_worthOf_19 rfl (fun h19 => ?_) (fun h19 => ?_)
        · refine r_iconst dX9_worthOf_31 ?_
          refine r_iadd dX9_worthOf_32 ?_
          refine r_istore_n dX9_worthOf_33 (Nat.le_of_ble_eq_true rfl) rfl s2 ?_
          refine r_iinc dX9_worthOf_34 (Nat.le_of_ble_eq_true rfl) rfl rfl s3 ?_
          refine r_goto (tgt := 4) dX9_worthOf_37 rfl ?_
          refine nx _ ?_
          first
          | rw [if_pos ((aheadM hsh).mp h19)]
          | rw [if_neg (fun q => h19 ((aheadM hsh).mpr q))]
        · refine r_aloadk_n dX9_worthOf_22 rfl ?_
          refine r_getr dX9_worthOf_23 fl_X9_16 rfl rfl (hs.lt rfl) (hs.rf rfl) ?_
          refine r_iload_n dX9_worthOf_26 rfl ?_
          refine r_iald dX9_worthOf_27 rfl (hs.lt rfl) rfl (by omega) ?_
          refine r_goto (tgt := 32) dX9_worthOf_28 rfl ?_
          refine r_iadd dX9_worthOf_32 ?_
          refine r_istore_n dX9_worthOf_33 (Nat.le_of_ble_eq_true rfl) rfl s2 ?_
          refine r_iinc dX9_worthOf_34 (Nat.le_of_ble_eq_true rfl) rfl rfl s3 ?_
          refine r_goto (tgt := 4) dX9_worthOf_37 rfl ?_
          refine nx _ ?_
          first
          | rw [if_pos ((aheadM hsh).mp h19)]
          | rw [if_neg (fun q => h19 ((aheadM hsh).mpr q))]
  refine Ct.of (L0 := [rf G 38, iv p, xx, xx]) (by decide +kernel) (Nat.le_of_ble_eq_true rfl) rfl ?_
  refine r_iconst dX9_worthOf_0 ?_
  refine r_istore_n dX9_worthOf_1 (Nat.le_of_ble_eq_true rfl) rfl s2 ?_
  refine r_iconst dX9_worthOf_2 ?_
  refine r_istore_n dX9_worthOf_3 (Nat.le_of_ble_eq_true rfl) rfl s3 ?_
  exact loop (W * H) 0 (by omega)
theorem m_isByRoad (hs : Std n ρ) (hR : Rg σ) (g : GeoM σ W H) (hrd : ∀ c, 0 ≤ σ 41 c ∧ σ 41 c ≤ 1) (c : Nat) (hc : c < W * H) : RdI l G 1 mX9_isByRoad n ρ σ [rf G 38, iv c] (bi (anyN (besF (σ 41) W H c) 4 = true)) := by
  have hle := WH_le g.2.2.1.2 g.2.2.2.2
  have hW : 0 < W := by have := g.2.2.1; omega
  rw [← anyN_sd]
  generalize hF : (fun s => besF (σ 41) W H c (sdM s)) = F
  have hFt : ∀ s, F s = true ↔ (¬ nb W H c (sdM s) = -1 ∧ σ 41 (nb W H c (sdM s)).toNat = 1) := fun s => by rw [← hF]; unfold besF; exact decide_eq_true_iff
  have loop : ∀ (m i : Nat) (is : Int) (x4 : Value), i + m = 4 → is = bi (anyN F i = true) → isJ x4 = false → RW (KI l G 1 mX9_isByRoad n ρ (fun σ' z => σ' = σ ∧ z = bi (anyN F 4 = true))) (0, 0, n, ρ) σ 4 [rf G 38, iv c, iv is, iv i, x4] [] := by
    intro m
    induction m with
    | zero =>
      intro i is x4 hi his hx
      have e : i = 4 := by omega
      subst e
      have h01 := bi_01 (anyN F 4 = true)
      refine r_iload_n dX9_isByRoad_4 rfl ?_
      refine r_iconst dX9_isByRoad_5 ?_
      refine r_icmpge (tgt := 49) dX9_isByRoad_6 rfl (by first | exact hR _ (Nat.le_of_ble_eq_true rfl) _ | omega) (by first | exact hR _ (Nat.le_of_ble_eq_true rfl) _ | omega) (fun h6 => ?_) (fun h6 => ?_)
      · refine r_iload_n dX9_isByRoad_49 rfl ?_
        exact r_iretz dX9_isByRoad_50 rfl (by omega) ⟨_, rfl, rfl, his⟩
      · omega
    | succ m ih =>
      intro i is x4 hi his hx
      have h01 := bi_01 (anyN F i = true)
      have hr := nb_r hc hW (sdM i)
      have nx : ∀ (z : Int) (x4 : Value), isJ x4 = false → z = bi (is = 1 ∨ F i = true) → RW (KI l G 1 mX9_isByRoad n ρ (fun σ' z => σ' = σ ∧ z = bi (anyN F 4 = true))) (0, 0, n, ρ) σ 4 [rf G 38, iv c, iv z, iv (i + 1 : Nat), x4] [] := by
        intro z x4 hx4 hz
        refine ih (i + 1) z x4 (by omega) ?_ hx4
        rw [hz]
        refine bi_iff ?_
        show _ ↔ (anyN _ i || F i) = true
        rw [Bool.or_eq_true, his]
        unfold bi
        split <;> simp_all
      refine r_iload_n dX9_isByRoad_4 rfl ?_
      refine r_iconst dX9_isByRoad_5 ?_
      refine r_icmpge (tgt := 49) dX9_isByRoad_6 rfl (by first | exact hR _ (Nat.le_of_ble_eq_true rfl) _ | omega) (by first | exact hR _ (Nat.le_of_ble_eq_true rfl) _ | omega) (fun h6 => ?_) (fun h6 => ?_)
      · omega
      · refine r_aloadk_n dX9_isByRoad_9 rfl ?_
        refine r_iload_n dX9_isByRoad_10 rfl ?_
        refine r_iload_n dX9_isByRoad_11 rfl ?_
        refine q_callVr dX9_isByRoad_12 (m_beside hs g c i hc (by omega)) ml_X9_172 okX9_beside rfl rfl (hs.lt rfl) rfl rfl (Nat.le_of_ble_eq_true rfl) (roomOK.of (by decide)) ⟨(Nat.le_of_ble_eq_true rfl), (Nat.le_of_ble_eq_true rfl)⟩ ?_
        refine r_istore dX9_isByRoad_15 (Nat.le_of_ble_eq_true rfl) rfl s4 ?_
        refine r_iload_n dX9_isByRoad_17 rfl ?_
        refine r_ifne (tgt := 37) dX9_isByRoad_18 rfl (by omega) (fun h18 => ?_) (fun h18 => ?_)
        · refine r_iconst dX9_isByRoad_37 ?_
          refine r_goto (tgt := 42) dX9_isByRoad_38 rfl ?_
          refine r_istore_n dX9_isByRoad_42 (Nat.le_of_ble_eq_true rfl) rfl s2 ?_
          refine r_iinc dX9_isByRoad_43 (Nat.le_of_ble_eq_true rfl) rfl rfl s3 ?_
          refine r_goto (tgt := 4) dX9_isByRoad_46 rfl ?_
          refine nx _ _ rfl ?_
          first
          | exact (bi_t (Or.inl (by omega))).symm
          | exact (bi_t (Or.inr (hFb.mpr ⟨by omega, by omega⟩))).symm
          | exact (bi_f (fun q => q.elim (fun q => by omega) (fun q => by have := (hFt i).mp q; omega))).symm
          | exact (bi_f (fun q => q.elim (fun q => by omega) (fun q => by have := hFb.mp q; omega))).symm
        · refine r_iload dX9_isByRoad_21 rfl ?_
          refine r_iconst dX9_isByRoad_23 ?_
          refine r_icmpeq (tgt := 41) dX9_isByRoad_24 rfl (by omega) (by omega) (fun h24 => ?_) (fun h24 => ?_)
          · refine r_iconst dX9_isByRoad_41 ?_
            refine r_istore_n dX9_isByRoad_42 (Nat.le_of_ble_eq_true rfl) rfl s2 ?_
            refine r_iinc dX9_isByRoad_43 (Nat.le_of_ble_eq_true rfl) rfl rfl s3 ?_
            refine r_goto (tgt := 4) dX9_isByRoad_46 rfl ?_
            refine nx _ _ rfl ?_
            first
            | exact (bi_t (Or.inl (by omega))).symm
            | exact (bi_t (Or.inr (hFb.mpr ⟨by omega, by omega⟩))).symm
            | exact (bi_f (fun q => q.elim (fun q => by omega) (fun q => by have := (hFt i).mp q; omega))).symm
            | exact (bi_f (fun q => q.elim (fun q => by omega) (fun q => by have := hFb.mp q; omega))).symm
          · obtain ⟨b, hb⟩ : ∃ b : Nat, nb W H c (sdM i) = b := ⟨(nb W H c (sdM i)).toNat, by omega⟩
            have hFb := hFt i
            rw [hb, Int.toNat_natCast] at hFb
            have hrb := hrd b
            rw [hb] at h24 hr ⊢
            refine r_aloadk_n dX9_isByRoad_27 rfl ?_
            refine r_getr dX9_isByRoad_28 fl_X9_23 rfl rfl (hs.lt rfl) (hs.rf rfl) ?_
            refine r_iload dX9_isByRoad_31 rfl ?_
            refine r_zald dX9_isByRoad_33 rfl (hs.lt rfl) rfl (by omega) ?_
            refine r_ifeq (tgt := 41) dX9_isByRoad_34 rfl (by first | exact hR _ (Nat.le_of_ble_eq_true rfl) _ | omega) (fun h34 => ?_) (fun h34 => ?_)
            · refine r_iconst dX9_isByRoad_41 ?_
              refine r_istore_n dX9_isByRoad_42 (Nat.le_of_ble_eq_true rfl) rfl s2 ?_
              refine r_iinc dX9_isByRoad_43 (Nat.le_of_ble_eq_true rfl) rfl rfl s3 ?_
              refine r_goto (tgt := 4) dX9_isByRoad_46 rfl ?_
              refine nx _ _ rfl ?_
              first
              | exact (bi_t (Or.inl (by omega))).symm
              | exact (bi_t (Or.inr (hFb.mpr ⟨by omega, by omega⟩))).symm
              | exact (bi_f (fun q => q.elim (fun q => by omega) (fun q => by have := (hFt i).mp q; omega))).symm
              | exact (bi_f (fun q => q.elim (fun q => by omega) (fun q => by have := hFb.mp q; omega))).symm
            · refine r_iconst dX9_isByRoad_37 ?_
              refine r_goto (tgt := 42) dX9_isByRoad_38 rfl ?_
              refine r_istore_n dX9_isByRoad_42 (Nat.le_of_ble_eq_true rfl) rfl s2 ?_
              refine r_iinc dX9_isByRoad_43 (Nat.le_of_ble_eq_true rfl) rfl rfl s3 ?_
              refine r_goto (tgt := 4) dX9_isByRoad_46 rfl ?_
              refine nx _ _ rfl ?_
              first
              | exact (bi_t (Or.inl (by omega))).symm
              | exact (bi_t (Or.inr (hFb.mpr ⟨by omega, by omega⟩))).symm
              | exact (bi_f (fun q => q.elim (fun q => by omega) (fun q => by have := (hFt i).mp q; omega))).symm
              | exact (bi_f (fun q => q.elim (fun q => by omega) (fun q => by have := hFb.mp q; omega))).symm
  refine Ct.of (L0 := [rf G 38, iv c, xx, xx, xx]) (by decide +kernel) (Nat.le_of_ble_eq_true rfl) rfl ?_
  refine r_iconst dX9_isByRoad_0 ?_
  refine r_istore_n dX9_isByRoad_1 (Nat.le_of_ble_eq_true rfl) rfl s2 ?_
  refine r_iconst dX9_isByRoad_2 ?_
  refine r_istore_n dX9_isByRoad_3 (Nat.le_of_ble_eq_true rfl) rfl s3 ?_
  exact loop 4 0 _ _ (by omega) (bi_f (fun q => by cases q)).symm rfl
end Model13
