/-! ROADS: what the least prices are; CLASS: RoadMaker -/
def FARV : Int := 1000000000
def prS (so rd : Nat → Int) (c : Nat) : Int := if rd c = 1 then 1 else 100 * so c + 101
theorem prS_r {so rd : Nat → Int} (h : ∀ c, 0 ≤ so c ∧ so c ≤ 9) (c : Nat) : 1 ≤ prS so rd c ∧ prS so rd c ≤ 1001 := by
  have := h c
  unfold prS
  split <;> omega
/-- beside one another -/
def Adj (W H a b : Nat) : Prop := ∃ s, s < 4 ∧ nb W H a s = b
theorem Adj.lt {W H a b : Nat} (h : Adj W H a b) (ha : a < W * H) (hW : 0 < W) : b < W * H := by
  obtain ⟨s, -, hs⟩ := h
  have := nb_r ha hW s
  omega
theorem Adj.symm {W H a b : Nat} (h : Adj W H a b) (ha : a < W * H) (hW : 0 < W) : Adj W H b a := by
  obtain ⟨s, h4, hs⟩ := h
  have e := Nat.div_add_mod a W
  have m := Nat.mod_lt a hW
  have q : a / W < H := Nat.div_lt_of_lt_mul ha
  rcases (show s = 0 ∨ s = 1 ∨ s = 2 ∨ s = 3 by omega) with rfl | rfl | rfl | rfl
  · rw [nb0] at hs
    split at hs
    · rename_i h
      have h1 : W * 1 ≤ W * (a / W) := Nat.mul_le_mul_left W h
      have eb : a = b + W := by omega
      refine ⟨3, by omega, ?_⟩
      rw [nb3]
      have : a / W = b / W + 1 := by rw [eb, Nat.add_div_right b hW]
      rw [if_pos (by omega)]
      omega
    · omega
  · rw [nb1] at hs
    split at hs
    · rename_i h
      refine ⟨2, by omega, ?_⟩
      rw [nb2]
      have eb : a = b + 1 := by omega
      have hm : b % W = a % W - 1 := by
        have : b = W * (a / W) + (a % W - 1) := by omega
        rw [this, Nat.mul_add_mod, Nat.mod_eq_of_lt (by omega)]
      rw [if_pos (by omega)]
      omega
    · omega
  · rw [nb2] at hs
    split at hs
    · rename_i h
      refine ⟨1, by omega, ?_⟩
      rw [nb1]
      have hm : b % W = a % W + 1 := by
        have : b = W * (a / W) + (a % W + 1) := by omega
        rw [this, Nat.mul_add_mod, Nat.mod_eq_of_lt (by omega)]
      rw [if_pos (by omega)]
      omega
    · omega
  · rw [nb3] at hs
    split at hs
    · rename_i h
      refine ⟨0, by omega, ?_⟩
      rw [nb0]
      have eb : b = a + W := by omega
      have : b / W = a / W + 1 := by rw [eb, Nat.add_div_right a hW]
      rw [if_pos (by rw [this]; exact Nat.succ_pos _)]
      omega
    · omega
/-- D are the least prices from a cell -/
def Sol (us pr : Nat → Int) (W H from_ : Nat) (D : Nat → Int) : Prop :=
  D from_ = pr from_ ∧ (∀ c, c < W * H → 0 < D c ∧ D c ≤ FARV) ∧ (∀ c, c < W * H → us c = 2 → D c = FARV) ∧
  (∀ c, c < W * H → ¬ us c = 2 → c ≠ from_ → D c < FARV → ∃ b, b < W * H ∧ Adj W H c b ∧ ¬ us b = 2 ∧ D b < FARV ∧ D c = D b + pr c) ∧
  (∀ b c, b < W * H → c < W * H → Adj W H b c → ¬ us b = 2 → ¬ us c = 2 → D b < FARV → D c ≤ D b + pr c)
theorem Sol.le {us pr : Nat → Int} {W H from_ : Nat} {D D' : Nat → Int} (hW : 0 < W) (hpr : ∀ c, 1 ≤ pr c) (h : Sol us pr W H from_ D) (h' : Sol us pr W H from_ D') : ∀ (k c : Nat), c < W * H → D' c ≤ k → D c ≤ D' c := by
  intro k
  induction k with
  | zero => intro c hc hk; have := h'.2.1 c hc; omega
  | succ k ih =>
    intro c hc hk
    by_cases hu : us c = 2
    · rw [h.2.2.1 c hc hu, h'.2.2.1 c hc hu]; exact Int.le_refl _
    · by_cases hf : c = from_
      · rw [hf, h.1, h'.1]; exact Int.le_refl _
      · by_cases hF : D' c < FARV
        · obtain ⟨b, hb, hab, hub, hbF, he⟩ := h'.2.2.2.1 c hc hu hf hF
          have hp := hpr c
          have h1 := ih b hb (by omega)
          have h2 := h.2.2.2.2 b c hb hc (hab.symm hc hW) hub hu (by omega)
          omega
        · have h1 := (h.2.1 c hc).2
          omega
theorem Sol.uniq {us pr : Nat → Int} {W H from_ : Nat} {D D' : Nat → Int} (hW : 0 < W) (hpr : ∀ c, 1 ≤ pr c) (h : Sol us pr W H from_ D) (h' : Sol us pr W H from_ D') (c : Nat) (hc : c < W * H) : D c = D' c := by
  have h1 := Sol.le hW hpr h h' (D' c).toNat c hc (by omega)
  have h2 := Sol.le hW hpr h' h (D c).toNat c hc (by omega)
  omega
/-- the nearest that isn't settled -/
def nfold (D S : Nat → Int) : Nat → Int
  | 0 => -1
  | i + 1 => if S i = 0 ∧ D i < (if nfold D S i = -1 then FARV else D (nfold D S i).toNat) then (i : Int) else nfold D S i
theorem nfold_p (D S : Nat → Int) : ∀ N : Nat, (nfold D S N = -1 ∧ ∀ i, i < N → S i = 0 → FARV ≤ D i) ∨ (0 ≤ nfold D S N ∧ nfold D S N < N ∧ S (nfold D S N).toNat = 0 ∧ D (nfold D S N).toNat < FARV ∧ ∀ i, i < N → S i = 0 → D (nfold D S N).toNat ≤ D i)
  | 0 => Or.inl ⟨rfl, fun i hi => by omega⟩
  | N + 1 => by
    have ih := nfold_p D S N
    unfold nfold
    rcases ih with ⟨h1, h2⟩ | ⟨h1, h2, h3, h4, h5⟩
    · rw [h1, if_pos rfl]
      split
      · rename_i h
        refine Or.inr ⟨by omega, by omega, ?_, ?_, ?_⟩
        · rw [Int.toNat_natCast]; exact h.1
        · rw [Int.toNat_natCast]; exact h.2
        · intro i hi hs
          rw [Int.toNat_natCast]
          by_cases e : i = N
          · rw [e]; exact Int.le_refl _
          · have := h2 i (by omega) hs; omega
      · rename_i h
        refine Or.inl ⟨rfl, fun i hi hs => ?_⟩
        by_cases e : i = N
        · subst e; exact Int.not_lt.mp (fun q => h ⟨hs, q⟩)
        · exact h2 i (by omega) hs
    · rw [if_neg (show ¬ nfold D S N = -1 by omega)]
      split
      · rename_i h
        refine Or.inr ⟨by omega, by omega, ?_, ?_, ?_⟩
        · rw [Int.toNat_natCast]; exact h.1
        · rw [Int.toNat_natCast]; omega
        · intro i hi hs
          rw [Int.toNat_natCast]
          by_cases e : i = N
          · rw [e]; exact Int.le_refl _
          · have := h5 i (by omega) hs; omega
      · rename_i h
        refine Or.inr ⟨h1, by omega, h3, h4, fun i hi hs => ?_⟩
        by_cases e : i = N
        · subst e; exact Int.not_lt.mp (fun q => h ⟨hs, q⟩)
        · exact h5 i (by omega) hs
section Road
variable {l : Launch} {G : GG} {n : Nat} {ρ : Rho} {σ : Si}
theorem c_price (hs : Std n ρ) (hR : Rg σ) (c : Nat) (hc : c < 80) : RdI l G 1 mX3_price n ρ σ [rf G 9, iv c] (prS (σ 4) (σ 6) c) := by
  refine Ct.of (L0 := [rf G 9, iv c]) (by decide +kernel) (Nat.le_of_ble_eq_true rfl) rfl ?_
  refine r_aloadk_n dX3_price_0 rfl ?_
  refine r_getr dX3_price_1 fl_X3_19 rfl rfl (hs.lt rfl) (hs.rf rfl) ?_
  refine r_iload_n dX3_price_4 rfl ?_
  refine q_callVr dX3_price_5 (c_isRoad hs hR c hc) ml_X3_38 okX1_isRoad rfl rfl (hs.lt rfl) rfl rfl (Nat.le_of_ble_eq_true rfl) (roomOK.of (by decide)) ⟨(Nat.le_of_ble_eq_true rfl), (Nat.le_of_ble_eq_true rfl)⟩ ?_
  refine r_ifeqb (tgt := 15) dX3_price_8 rfl (fun h8 => ?_) (fun h8 => ?_)
  · refine r_bipush dX3_price_15 ?_
    refine r_aloadk_n dX3_price_17 rfl ?_
    refine r_getr dX3_price_18 fl_X3_19 rfl rfl (hs.lt rfl) (hs.rf rfl) ?_
    refine r_getr dX3_price_21 fl_X3_42 rfl rfl (hs.lt rfl) (hs.rf rfl) ?_
    refine r_iconst dX3_price_24 ?_
    refine r_aald dX3_price_25 rfl (hs.lt rfl) (c := 0) rfl (Nat.le_of_ble_eq_true rfl) (hs.rf rfl) ?_
    refine r_iload_n dX3_price_26 rfl ?_
    refine r_iald dX3_price_27 rfl (hs.lt rfl) rfl (by omega) ?_
    refine r_imul dX3_price_28 ?_
    refine r_bipush dX3_price_29 ?_
    refine r_iadd dX3_price_31 ?_
    exact r_ireti dX3_price_32 rfl ⟨_, rfl, rfl, by unfold prS; first | rw [if_pos h8] | rw [if_neg h8]⟩
  · refine r_iconst dX3_price_11 ?_
    refine r_goto (tgt := 32) dX3_price_12 rfl ?_
    exact r_ireti dX3_price_32 rfl ⟨_, rfl, rfl, by unfold prS; first | rw [if_pos h8] | rw [if_neg h8]⟩
theorem c_nearest (hs : Std n ρ) (hR : Rg σ) {W H : Nat} (g0 : σ 2 2 = (W * H : Nat)) (hle : W * H ≤ 80) : RdI l G 0 mX3_nearestUnsettled n ρ σ [rf G 9] (nfold (σ 10) (σ 11) (W * H)) := by
  have loop : ∀ (m i : Nat) (a b : Int), i + m = W * H → a = nfold (σ 10) (σ 11) i → b = (if nfold (σ 10) (σ 11) i = -1 then FARV else σ 10 (nfold (σ 10) (σ 11) i).toNat) → RW (KI l G 0 mX3_nearestUnsettled n ρ (fun σ' z => σ' = σ ∧ z = nfold (σ 10) (σ 11) (W * H))) (0, 0, n, ρ) σ 7 [rf G 9, iv a, iv b, iv i] [] := by
    intro m
    induction m with
    | zero =>
      intro i a b hi ha hb
      have e : i = W * H := by omega
      refine r_iload_n dX3_nearestUnsettled_7 rfl ?_
      refine r_aloadk_n dX3_nearestUnsettled_8 rfl ?_
      refine r_getr dX3_nearestUnsettled_9 fl_X3_19 rfl rfl (hs.lt rfl) (hs.rf rfl) ?_
      refine r_geti dX3_nearestUnsettled_12 fl_X3_28 rfl rfl (hs.lt rfl) ?_
      refine r_icmpge (tgt := 52) dX3_nearestUnsettled_15 rfl (by first | exact hR _ (Nat.le_of_ble_eq_true rfl) _ | omega) (by first | exact hR _ (Nat.le_of_ble_eq_true rfl) _ | omega) (fun h15 => ?_) (fun h15 => ?_)
      · refine r_iload_n dX3_nearestUnsettled_52 rfl ?_
        exact r_ireti dX3_nearestUnsettled_53 rfl ⟨_, rfl, rfl, by rw [ha, e]⟩
      · omega
    | succ m ih =>
      intro i a b hi ha hb
      have hbr : R32 b := by
        rw [hb]
        split
        · unfold FARV; omega
        · exact hR 10 (by decide) _
      have es : nfold (σ 10) (σ 11) (i + 1) = if σ 11 i = 0 ∧ σ 10 i < b then (i : Int) else a := by rw [hb, ha]; rfl
      have hp := nfold_p (σ 10) (σ 11) i
      refine r_iload_n dX3_nearestUnsettled_7 rfl ?_
      refine r_aloadk_n dX3_nearestUnsettled_8 rfl ?_
      refine r_getr dX3_nearestUnsettled_9 fl_X3_19 rfl rfl (hs.lt rfl) (hs.rf rfl) ?_
      refine r_geti dX3_nearestUnsettled_12 fl_X3_28 rfl rfl (hs.lt rfl) ?_
      refine r_icmpge (tgt := 52) dX3_nearestUnsettled_15 rfl (by first | exact hR _ (Nat.le_of_ble_eq_true rfl) _ | omega) (by first | exact hR _ (Nat.le_of_ble_eq_true rfl) _ | omega) (fun h15 => ?_) (fun h15 => ?_)
      · omega
      · refine r_aloadk_n dX3_nearestUnsettled_18 rfl ?_
        refine r_getr dX3_nearestUnsettled_19 fl_X3_15 rfl rfl (hs.lt rfl) (hs.rf rfl) ?_
        refine r_iload_n dX3_nearestUnsettled_22 rfl ?_
        refine r_zald dX3_nearestUnsettled_23 rfl (hs.lt rfl) rfl (by omega) ?_
        refine r_ifne (tgt := 46) dX3_nearestUnsettled_24 rfl (by first | exact hR _ (Nat.le_of_ble_eq_true rfl) _ | omega) (fun h24 => ?_) (fun h24 => ?_)
        · refine r_iinc dX3_nearestUnsettled_46 (Nat.le_of_ble_eq_true rfl) rfl rfl s3 ?_
          refine r_goto (tgt := 7) dX3_nearestUnsettled_49 rfl ?_
          first
          | (rw [if_neg (by omega)] at es
             exact ih (i + 1) _ _ (by omega) es.symm (by rw [es, ha]; exact hb))
          | (rw [if_pos ⟨h24, h34⟩] at es
             exact ih (i + 1) _ _ (by omega) es.symm (by rw [es, if_neg (by omega), Int.toNat_natCast]))
        · refine r_aloadk_n dX3_nearestUnsettled_27 rfl ?_
          refine r_getr dX3_nearestUnsettled_28 fl_X3_9 rfl rfl (hs.lt rfl) (hs.rf rfl) ?_
          refine r_iload_n dX3_nearestUnsettled_31 rfl ?_
          refine r_iald dX3_nearestUnsettled_32 rfl (hs.lt rfl) rfl (by omega) ?_
          refine r_iload_n dX3_nearestUnsettled_33 rfl ?_
          refine r_icmpge (tgt := 46) dX3_nearestUnsettled_34 rfl (by first | exact hR _ (Nat.le_of_ble_eq_true rfl) _ | omega) (by first | exact hR _ (Nat.le_of_ble_eq_true rfl) _ | omega) (fun h34 => ?_) (fun h34 => ?_)
          · refine r_iinc dX3_nearestUnsettled_46 (Nat.le_of_ble_eq_true rfl) rfl rfl s3 ?_
            refine r_goto (tgt := 7) dX3_nearestUnsettled_49 rfl ?_
            first
            | (rw [if_neg (by omega)] at es
               exact ih (i + 1) _ _ (by omega) es.symm (by rw [es, ha]; exact hb))
            | (rw [if_pos ⟨h24, h34⟩] at es
               exact ih (i + 1) _ _ (by omega) es.symm (by rw [es, if_neg (by omega), Int.toNat_natCast]))
          · refine r_iload_n dX3_nearestUnsettled_37 rfl ?_
            refine r_istore_n dX3_nearestUnsettled_38 (Nat.le_of_ble_eq_true rfl) rfl s1 ?_
            refine r_aloadk_n dX3_nearestUnsettled_39 rfl ?_
            refine r_getr dX3_nearestUnsettled_40 fl_X3_9 rfl rfl (hs.lt rfl) (hs.rf rfl) ?_
            refine r_iload_n dX3_nearestUnsettled_43 rfl ?_
            refine r_iald dX3_nearestUnsettled_44 rfl (hs.lt rfl) rfl (by omega) ?_
            refine r_istore_n dX3_nearestUnsettled_45 (Nat.le_of_ble_eq_true rfl) rfl s2 ?_
            refine r_iinc dX3_nearestUnsettled_46 (Nat.le_of_ble_eq_true rfl) rfl rfl s3 ?_
            refine r_goto (tgt := 7) dX3_nearestUnsettled_49 rfl ?_
            first
            | (rw [if_neg (by omega)] at es
               exact ih (i + 1) _ _ (by omega) es.symm (by rw [es, ha]; exact hb))
            | (rw [if_pos ⟨h24, h34⟩] at es
               exact ih (i + 1) _ _ (by omega) es.symm (by rw [es, if_neg (by omega), Int.toNat_natCast]))
  refine Ct.of (L0 := [rf G 9, xx, xx, xx]) (by decide +kernel) (Nat.le_of_ble_eq_true rfl) rfl ?_
  refine r_iconst dX3_nearestUnsettled_0 ?_
  refine r_istore_n dX3_nearestUnsettled_1 (Nat.le_of_ble_eq_true rfl) rfl s1 ?_
  refine r_ldc dX3_nearestUnsettled_2 k_X3_27 ?_
  refine r_istore_n dX3_nearestUnsettled_4 (Nat.le_of_ble_eq_true rfl) rfl s2 ?_
  refine r_iconst dX3_nearestUnsettled_5 ?_
  refine r_istore_n dX3_nearestUnsettled_6 (Nat.le_of_ble_eq_true rfl) rfl s3 ?_
  exact loop (W * H) 0 _ _ (by omega) rfl rfl
end Road
