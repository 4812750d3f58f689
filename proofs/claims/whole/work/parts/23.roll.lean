/-! CLASS: Roll, what it reads -/
def fstN (f : Nat → Bool) : Nat → Int
  | 0 => -1
  | i + 1 => if fstN f i = -1 then (if f i = true then (i : Int) else -1) else fstN f i
theorem fstN_r (f : Nat → Bool) : ∀ N : Nat, -1 ≤ fstN f N ∧ fstN f N < N
  | 0 => by unfold fstN; omega
  | N + 1 => by
    have := fstN_r f N
    unfold fstN
    split
    · split <;> omega
    · omega
theorem fstN_hit {f : Nat → Bool} {i : Nat} (h : fstN f i = -1) (hf : f i = true) : ∀ m : Nat, fstN f (i + 1 + m) = i
  | 0 => by
    show (if fstN f i = -1 then (if f i = true then (i : Int) else -1) else fstN f i) = i
    rw [if_pos h, if_pos hf]
  | m + 1 => by
    have e := fstN_hit h hf m
    show (if fstN f (i + 1 + m) = -1 then (if f (i + 1 + m) = true then ((i + 1 + m : Nat) : Int) else -1) else fstN f (i + 1 + m)) = i
    rw [e, if_neg (by omega)]
theorem fstN_hit' {f : Nat → Bool} {i N : Nat} (h : fstN f i = -1) (hf : f i = true) (hN : i < N) : fstN f N = i := by
  have := fstN_hit h hf (N - (i + 1))
  rwa [show i + 1 + (N - (i + 1)) = N by omega] at this
theorem fstN_miss {f : Nat → Bool} {i : Nat} (h : fstN f i = -1) (hf : f i = false) : fstN f (i + 1) = -1 := by
  show (if fstN f i = -1 then (if f i = true then (i : Int) else -1) else fstN f i) = -1
  rw [if_pos h, if_neg (by rw [hf]; decide)]
theorem fstN_at (f : Nat → Bool) : ∀ N : Nat, fstN f N ≠ -1 → f (fstN f N).toNat = true
  | 0, h => absurd rfl h
  | N + 1, h => by
    have ih := fstN_at f N
    unfold fstN at h ⊢
    by_cases h1 : fstN f N = -1
    · rw [if_pos h1] at h ⊢
      by_cases h2 : f N = true
      · rw [if_pos h2]; exact h2
      · rw [if_neg h2] at h; exact absurd rfl h
    · rw [if_neg h1]; exact ih h1
theorem fstN_none {f : Nat → Bool} : ∀ N : Nat, fstN f N = -1 ↔ anyN f N = false
  | 0 => by simp [fstN, anyN]
  | N + 1 => by
    have ih := fstN_none (f := f) N
    have hr := fstN_r f N
    show (if fstN f N = -1 then (if f N = true then (N : Int) else -1) else fstN f N) = -1 ↔ (anyN f N || f N) = false
    by_cases h1 : fstN f N = -1
    · rw [if_pos h1, ih.mp h1, Bool.false_or]
      by_cases h2 : f N = true
      · rw [if_pos h2, h2]; constructor
        · intro h; omega
        · intro h; cases h
      · rw [if_neg h2]; exact ⟨fun _ => Bool.eq_false_iff.mpr h2, fun _ => rfl⟩
    · rw [if_neg h1]
      constructor
      · intro h; exact absurd h h1
      · intro h; rw [Bool.or_eq_false_iff] at h; exact ih.mpr h.1
def kindF (kd : Nat → Int) (k : Int) (p : Nat) : Bool := decide (kd p = k)
theorem kindF_t {kd : Nat → Int} {k : Int} {p : Nat} : kindF kd k p = true ↔ kd p = k := by unfold kindF; exact decide_eq_true_iff
/-- the gates of a claimant, over the first claims -/
def gfold (by_ wh pf dy : Nat → Int) (p day closing : Int) : Nat → Int
  | 0 => 0
  | i + 1 => if by_ i = p ∧ ¬ pf i = 0 ∧ dy i ≤ day ∧ dy i ≤ closing then max (gfold by_ wh pf dy p day closing i) (wh i - 100) else gfold by_ wh pf dy p day closing i
theorem gfold_r {by_ wh pf dy : Nat → Int} {p day closing : Int} : ∀ N : Nat, (∀ i, i < N → wh i ≤ 150) → 0 ≤ gfold by_ wh pf dy p day closing N ∧ gfold by_ wh pf dy p day closing N ≤ 50
  | 0, _ => by unfold gfold; omega
  | N + 1, h => by
    have h1 := gfold_r (by_ := by_) (pf := pf) (dy := dy) (p := p) (day := day) (closing := closing) N (fun i hi => h i (by omega))
    have h2 := h N (by omega)
    unfold gfold
    split <;> omega
def uphF (by_ wh pf dy : Nat → Int) (b cell day closing : Int) (h : Nat) (i : Nat) : Bool := decide (by_ i = b ∧ wh i = cell ∧ dy i ≤ day ∧ dy i ≤ closing ∧ pf h ≤ pf i)
theorem uphF_t {by_ wh pf dy : Nat → Int} {b cell day closing : Int} {h i : Nat} : uphF by_ wh pf dy b cell day closing h i = true ↔ (by_ i = b ∧ wh i = cell ∧ dy i ≤ day ∧ dy i ≤ closing ∧ pf h ≤ pf i) := by unfold uphF; exact decide_eq_true_iff
/-- an objection is upheld -/
def uphB (us rd by_ wh pf dy ob oc od : Nat → Int) (C : Nat) (closing : Int) (o : Nat) : Bool :=
  !(decide (hold us rd wh pf dy C (oc o).toNat (od o) closing = -1)) && (!(decide (by_ (hold us rd wh pf dy C (oc o).toNat (od o) closing).toNat = ob o)) && anyN (uphF by_ wh pf dy (ob o) (oc o) (od o) closing (hold us rd wh pf dy C (oc o).toNat (od o) closing).toNat) C)
theorem hold_r (us rd wh pf dy : Nat → Int) (C cell : Nat) (day closing : Int) : -1 ≤ hold us rd wh pf dy C cell day closing ∧ hold us rd wh pf dy C cell day closing < C := by
  have := hfold_r wh pf dy cell day closing C
  unfold hold
  split <;> omega
/-- the first objection on a cell that is upheld -/
def objF (us rd by_ wh pf dy ob oc od : Nat → Int) (C : Nat) (cell day closing : Int) (o : Nat) : Bool := decide (oc o = cell ∧ od o ≤ day) && uphB us rd by_ wh pf dy ob oc od C closing o
section Roll
variable {l : Launch} {G : GG} {n : Nat} {ρ : Rho} {σ : Si}
theorem c_firstOfKind (hs : Std n ρ) (hR : Rg σ) (P : Nat) (hP : σ 19 1 = P) (hP8 : P ≤ 8) (k : Int) (hk : R32 k) : RdI l G 0 mX4_firstOfKind n ρ σ [rf G 19, iv k] (fstN (kindF (σ 20) k) P) := by
  have loop : ∀ (m i : Nat), i + m = P → fstN (kindF (σ 20) k) i = -1 → RW (KI l G 0 mX4_firstOfKind n ρ (fun σ' z => σ' = σ ∧ z = fstN (kindF (σ 20) k) P)) (0, 0, n, ρ) σ 2 [rf G 19, iv k, iv i] [] := by
    intro m
    induction m with
    | zero =>
      intro i hi hf
      have e : i = P := by omega
      refine r_iload_n dX4_firstOfKind_2 rfl ?_
      refine r_aloadk_n dX4_firstOfKind_3 rfl ?_
      refine r_geti dX4_firstOfKind_4 fl_X4_43 rfl rfl (hs.lt rfl) ?_
      refine r_icmpge (tgt := 28) dX4_firstOfKind_7 rfl (by first | exact hR _ (Nat.le_of_ble_eq_true rfl) _ | omega) (by first | exact hR _ (Nat.le_of_ble_eq_true rfl) _ | omega) (fun h7 => ?_) (fun h7 => ?_)
      · refine r_iconst dX4_firstOfKind_28 ?_
        exact r_ireti dX4_firstOfKind_29 rfl ⟨_, rfl, rfl, by rw [← e, hf]⟩
      · omega
    | succ m ih =>
      intro i hi hf
      refine r_iload_n dX4_firstOfKind_2 rfl ?_
      refine r_aloadk_n dX4_firstOfKind_3 rfl ?_
      refine r_geti dX4_firstOfKind_4 fl_X4_43 rfl rfl (hs.lt rfl) ?_
      refine r_icmpge (tgt := 28) dX4_firstOfKind_7 rfl (by first | exact hR _ (Nat.le_of_ble_eq_true rfl) _ | omega) (by first | exact hR _ (Nat.le_of_ble_eq_true rfl) _ | omega) (fun h7 => ?_) (fun h7 => ?_)
      · omega
      · refine r_aloadk_n dX4_firstOfKind_10 rfl ?_
        refine r_getr dX4_firstOfKind_11 fl_X4_9 rfl rfl (hs.lt rfl) (hs.rf rfl) ?_
        refine r_iload_n dX4_firstOfKind_14 rfl ?_
        refine r_iald dX4_firstOfKind_15 rfl (hs.lt rfl) rfl (by omega) ?_
        refine r_iload_n dX4_firstOfKind_16 rfl ?_
        refine r_icmpne (tgt := 22) dX4_firstOfKind_17 rfl (by first | exact hR _ (Nat.le_of_ble_eq_true rfl) _ | omega) (by first | exact hR _ (Nat.le_of_ble_eq_true rfl) _ | omega) (fun h17 => ?_) (fun h17 => ?_)
        · refine r_iinc dX4_firstOfKind_22 (Nat.le_of_ble_eq_true rfl) rfl rfl s2 ?_
          refine r_goto (tgt := 2) dX4_firstOfKind_25 rfl ?_
          exact ih (i + 1) (by omega) (fstN_miss hf (Bool.eq_false_iff.mpr (fun q => h17 (kindF_t.mp q))))
        · refine r_iload_n dX4_firstOfKind_20 rfl ?_
          exact r_ireti dX4_firstOfKind_21 rfl ⟨_, rfl, rfl, (fstN_hit' hf (kindF_t.mpr h17) (by omega)).symm⟩
  refine Ct.of (L0 := [rf G 19, iv k, xx]) (by decide +kernel) (Nat.le_of_ble_eq_true rfl) rfl ?_
  refine r_iconst dX4_firstOfKind_0 ?_
  refine r_istore_n dX4_firstOfKind_1 (Nat.le_of_ble_eq_true rfl) rfl s2 ?_
  exact loop P 0 (by omega) rfl
theorem c_claimantOf (hs : Std n ρ) (i : Nat) (hi : i < 40) : RdI l G 0 mX4_claimantOf n ρ σ [rf G 19, iv i] (σ 22 i) := by
  refine Ct.of (L0 := [rf G 19, iv i]) (by decide +kernel) (Nat.le_of_ble_eq_true rfl) rfl ?_
  refine r_aloadk_n dX4_claimantOf_0 rfl ?_
  refine r_getr dX4_claimantOf_1 fl_X4_18 rfl rfl (hs.lt rfl) (hs.rf rfl) ?_
  refine r_iload_n dX4_claimantOf_4 rfl ?_
  refine r_iald dX4_claimantOf_5 rfl (hs.lt rfl) rfl (by omega) ?_
  exact r_ireti dX4_claimantOf_6 rfl ⟨_, rfl, rfl, rfl⟩
theorem c_lateClaims (hs : Std n ρ) (hR : Rg σ) (C : Nat) (hC : σ 19 2 = C) (hC4 : C ≤ 40) (closing : Int) (hc : R32 closing) : RdI l G 0 mX4_lateClaims n ρ σ [rf G 19, iv closing] (sumN (fun i => bi (closing < σ 25 i)) C) := by
  have loop : ∀ (m i : Nat) (s : Int), i + m = C → s = sumN (fun i => bi (closing < σ 25 i)) i → RW (KI l G 0 mX4_lateClaims n ρ (fun σ' z => σ' = σ ∧ z = sumN (fun i => bi (closing < σ 25 i)) C)) (0, 0, n, ρ) σ 4 [rf G 19, iv closing, iv s, iv i] [] := by
    intro m
    induction m with
    | zero =>
      intro i s hi hf
      have e : i = C := by omega
      refine r_iload_n dX4_lateClaims_4 rfl ?_
      refine r_aloadk_n dX4_lateClaims_5 rfl ?_
      refine r_geti dX4_lateClaims_6 fl_X4_47 rfl rfl (hs.lt rfl) ?_
      refine r_icmpge (tgt := 31) dX4_lateClaims_9 rfl (by first | exact hR _ (Nat.le_of_ble_eq_true rfl) _ | omega) (by first | exact hR _ (Nat.le_of_ble_eq_true rfl) _ | omega) (fun h9 => ?_) (fun h9 => ?_)
      · refine r_iload_n dX4_lateClaims_31 rfl ?_
        exact r_ireti dX4_lateClaims_32 rfl ⟨_, rfl, rfl, by rw [← e, hf]⟩
      · omega
    | succ m ih =>
      intro i s hi hf
      refine r_iload_n dX4_lateClaims_4 rfl ?_
      refine r_aloadk_n dX4_lateClaims_5 rfl ?_
      refine r_geti dX4_lateClaims_6 fl_X4_47 rfl rfl (hs.lt rfl) ?_
      refine r_icmpge (tgt := 31) dX4_lateClaims_9 rfl (by first | exact hR _ (Nat.le_of_ble_eq_true rfl) _ | omega) (by first | exact hR _ (Nat.le_of_ble_eq_true rfl) _ | omega) (fun h9 => ?_) (fun h9 => ?_)
      · omega
      · refine r_aloadk_n dX4_lateClaims_12 rfl ?_
        refine r_getr dX4_lateClaims_13 fl_X4_27 rfl rfl (hs.lt rfl) (hs.rf rfl) ?_
        refine r_iload_n dX4_lateClaims_16 rfl ?_
        refine r_iald dX4_lateClaims_17 rfl (hs.lt rfl) rfl (by omega) ?_
        refine r_iload_n dX4_lateClaims_18 rfl ?_
        refine r_icmple (tgt := 25) dX4_lateClaims_19 rfl (by first | exact hR _ (Nat.le_of_ble_eq_true rfl) _ | omega) (by first | exact hR _ (Nat.le_of_ble_eq_true rfl) _ | omega) (fun h19 => ?_) (fun h19 => ?_)
        · refine r_iinc dX4_lateClaims_25 (Nat.le_of_ble_eq_true rfl) rfl rfl s3 ?_
          refine r_goto (tgt := 4) dX4_lateClaims_28 rfl ?_
          refine ih (i + 1) _ (by omega) ?_
          show _ = sumN _ i + bi (closing < σ 25 i)
          rw [← hf]; unfold bi; split <;> omega
        · refine r_iinc dX4_lateClaims_22 (Nat.le_of_ble_eq_true rfl) rfl rfl s2 ?_
          refine r_iinc dX4_lateClaims_25 (Nat.le_of_ble_eq_true rfl) rfl rfl s3 ?_
          refine r_goto (tgt := 4) dX4_lateClaims_28 rfl ?_
          refine ih (i + 1) _ (by omega) ?_
          show _ = sumN _ i + bi (closing < σ 25 i)
          rw [← hf]; unfold bi; split <;> omega
  refine Ct.of (L0 := [rf G 19, iv closing, xx, xx]) (by decide +kernel) (Nat.le_of_ble_eq_true rfl) rfl ?_
  refine r_iconst dX4_lateClaims_0 ?_
  refine r_istore_n dX4_lateClaims_1 (Nat.le_of_ble_eq_true rfl) rfl s2 ?_
  refine r_iconst dX4_lateClaims_2 ?_
  refine r_istore_n dX4_lateClaims_3 (Nat.le_of_ble_eq_true rfl) rfl s3 ?_
  exact loop C 0 _ (by omega) rfl
theorem c_gatesOf (hs : Std n ρ) (hR : Rg σ) (C : Nat) (hC : σ 19 2 = C) (hC4 : C ≤ 40) (hw : ∀ i, i < C → 0 ≤ σ 23 i ∧ σ 23 i ≤ 150) (p day closing : Int) (hp : R32 p) (hd : R32 day) (hc : R32 closing) : RdI l G 1 mX4_gatesOf n ρ σ [rf G 19, iv p, iv day, iv closing] (gfold (σ 22) (σ 23) (σ 24) (σ 25) p day closing C) := by
  have loop : ∀ (m i : Nat) (s : Int), i + m = C → s = gfold (σ 22) (σ 23) (σ 24) (σ 25) p day closing i → RW (KI l G 1 mX4_gatesOf n ρ (fun σ' z => σ' = σ ∧ z = gfold (σ 22) (σ 23) (σ 24) (σ 25) p day closing C)) (0, 0, n, ρ) σ 6 [rf G 19, iv p, iv day, iv closing, iv s, iv i] [] := by
    intro m
    induction m with
    | zero =>
      intro i s hi hf
      have e : i = C := by omega
      refine r_iload dX4_gatesOf_6 rfl ?_
      refine r_aloadk_n dX4_gatesOf_8 rfl ?_
      refine r_geti dX4_gatesOf_9 fl_X4_47 rfl rfl (hs.lt rfl) ?_
      refine r_icmpge (tgt := 87) dX4_gatesOf_12 rfl (by first | exact hR _ (Nat.le_of_ble_eq_true rfl) _ | omega) (by first | exact hR _ (Nat.le_of_ble_eq_true rfl) _ | omega) (fun h12 => ?_) (fun h12 => ?_)
      · refine r_iload dX4_gatesOf_87 rfl ?_
        exact r_ireti dX4_gatesOf_89 rfl ⟨_, rfl, rfl, by rw [← e, hf]⟩
      · omega
    | succ m ih =>
      intro i s hi hf
      have hr := gfold_r (by_ := σ 22) (wh := σ 23) (pf := σ 24) (dy := σ 25) (p := p) (day := day) (closing := closing) i (fun j hj => (hw j (by omega)).2)
      have hwi := hw i (by omega)
      rw [← hf] at hr
      refine r_iload dX4_gatesOf_6 rfl ?_
      refine r_aloadk_n dX4_gatesOf_8 rfl ?_
      refine r_geti dX4_gatesOf_9 fl_X4_47 rfl rfl (hs.lt rfl) ?_
      refine r_icmpge (tgt := 87) dX4_gatesOf_12 rfl (by first | exact hR _ (Nat.le_of_ble_eq_true rfl) _ | omega) (by first | exact hR _ (Nat.le_of_ble_eq_true rfl) _ | omega) (fun h12 => ?_) (fun h12 => ?_)
      · omega
      · refine r_aloadk_n dX4_gatesOf_15 rfl ?_
        refine r_getr dX4_gatesOf_16 fl_X4_18 rfl rfl (hs.lt rfl) (hs.rf rfl) ?_
        refine r_iload dX4_gatesOf_19 rfl ?_
        refine r_iald dX4_gatesOf_21 rfl (hs.lt rfl) rfl (by omega) ?_
        refine r_iload_n dX4_gatesOf_22 rfl ?_
        refine r_icmpne (tgt := 81) dX4_gatesOf_23 rfl (by first | exact hR _ (Nat.le_of_ble_eq_true rfl) _ | omega) (by first | exact hR _ (Nat.le_of_ble_eq_true rfl) _ | omega) (fun h23 => ?_) (fun h23 => ?_)
        · refine r_iinc dX4_gatesOf_81 (Nat.le_of_ble_eq_true rfl) rfl rfl s5 ?_
          refine r_goto (tgt := 6) dX4_gatesOf_84 rfl ?_
          refine ih (i + 1) _ (by omega) ?_
          show _ = if σ 22 i = p ∧ ¬ σ 24 i = 0 ∧ σ 25 i ≤ day ∧ σ 25 i ≤ closing then max (gfold _ _ _ _ _ _ _ i) (σ 23 i - 100) else gfold _ _ _ _ _ _ _ i
          rw [← hf]
          first | rw [if_neg (by omega)] | rw [if_pos (by omega)]
        · refine r_aloadk_n dX4_gatesOf_26 rfl ?_
          refine r_getr dX4_gatesOf_27 fl_X4_24 rfl rfl (hs.lt rfl) (hs.rf rfl) ?_
          refine r_iload dX4_gatesOf_30 rfl ?_
          refine r_iald dX4_gatesOf_32 rfl (hs.lt rfl) rfl (by omega) ?_
          refine r_ifne (tgt := 39) dX4_gatesOf_33 rfl (by first | exact hR _ (Nat.le_of_ble_eq_true rfl) _ | omega) (fun h33 => ?_) (fun h33 => ?_)
          · refine r_aloadk_n dX4_gatesOf_39 rfl ?_
            refine r_getr dX4_gatesOf_40 fl_X4_27 rfl rfl (hs.lt rfl) (hs.rf rfl) ?_
            refine r_iload dX4_gatesOf_43 rfl ?_
            refine r_iald dX4_gatesOf_45 rfl (hs.lt rfl) rfl (by omega) ?_
            refine r_iload_n dX4_gatesOf_46 rfl ?_
            refine r_icmpgt (tgt := 81) dX4_gatesOf_47 rfl (by first | exact hR _ (Nat.le_of_ble_eq_true rfl) _ | omega) (by first | exact hR _ (Nat.le_of_ble_eq_true rfl) _ | omega) (fun h47 => ?_) (fun h47 => ?_)
            · refine r_iinc dX4_gatesOf_81 (Nat.le_of_ble_eq_true rfl) rfl rfl s5 ?_
              refine r_goto (tgt := 6) dX4_gatesOf_84 rfl ?_
              refine ih (i + 1) _ (by omega) ?_
              show _ = if σ 22 i = p ∧ ¬ σ 24 i = 0 ∧ σ 25 i ≤ day ∧ σ 25 i ≤ closing then max (gfold _ _ _ _ _ _ _ i) (σ 23 i - 100) else gfold _ _ _ _ _ _ _ i
              rw [← hf]
              first | rw [if_neg (by omega)] | rw [if_pos (by omega)]
            · refine r_aloadk_n dX4_gatesOf_50 rfl ?_
              refine r_getr dX4_gatesOf_51 fl_X4_27 rfl rfl (hs.lt rfl) (hs.rf rfl) ?_
              refine r_iload dX4_gatesOf_54 rfl ?_
              refine r_iald dX4_gatesOf_56 rfl (hs.lt rfl) rfl (by omega) ?_
              refine r_iload_n dX4_gatesOf_57 rfl ?_
              refine r_icmple (tgt := 64) dX4_gatesOf_58 rfl (by first | exact hR _ (Nat.le_of_ble_eq_true rfl) _ | omega) (by first | exact hR _ (Nat.le_of_ble_eq_true rfl) _ | omega) (fun h58 => ?_) (fun h58 => ?_)
              · refine r_iload dX4_gatesOf_64 rfl ?_
                refine r_aloadk_n dX4_gatesOf_66 rfl ?_
                refine r_getr dX4_gatesOf_67 fl_X4_21 rfl rfl (hs.lt rfl) (hs.rf rfl) ?_
                refine r_iload dX4_gatesOf_70 rfl ?_
                refine r_iald dX4_gatesOf_72 rfl (hs.lt rfl) rfl (by omega) ?_
                refine r_bipush dX4_gatesOf_73 ?_
                refine r_isub dX4_gatesOf_75 ?_
                refine r_mmax dX4_gatesOf_76 ml_X4_59 (by first | exact hR _ (Nat.le_of_ble_eq_true rfl) _ | omega) (by first | exact hR _ (Nat.le_of_ble_eq_true rfl) _ | omega) (Nat.le_of_ble_eq_true rfl) (Nat.le_of_ble_eq_true rfl) ⟨(Nat.le_of_ble_eq_true rfl), (Nat.le_of_ble_eq_true rfl)⟩ ?_
                refine r_istore dX4_gatesOf_79 (Nat.le_of_ble_eq_true rfl) rfl s4 ?_
                refine r_iinc dX4_gatesOf_81 (Nat.le_of_ble_eq_true rfl) rfl rfl s5 ?_
                refine r_goto (tgt := 6) dX4_gatesOf_84 rfl ?_
                refine ih (i + 1) _ (by omega) ?_
                show _ = if σ 22 i = p ∧ ¬ σ 24 i = 0 ∧ σ 25 i ≤ day ∧ σ 25 i ≤ closing then max (gfold _ _ _ _ _ _ _ i) (σ 23 i - 100) else gfold _ _ _ _ _ _ _ i
                rw [← hf]
                first | rw [if_neg (by omega)] | rw [if_pos (by omega)]
              · refine r_goto (tgt := 81) dX4_gatesOf_61 rfl ?_
                refine r_iinc dX4_gatesOf_81 (Nat.le_of_ble_eq_true rfl) rfl rfl s5 ?_
                refine r_goto (tgt := 6) dX4_gatesOf_84 rfl ?_
                refine ih (i + 1) _ (by omega) ?_
                show _ = if σ 22 i = p ∧ ¬ σ 24 i = 0 ∧ σ 25 i ≤ day ∧ σ 25 i ≤ closing then max (gfold _ _ _ _ _ _ _ i) (σ 23 i - 100) else gfold _ _ _ _ _ _ _ i
                rw [← hf]
                first | rw [if_neg (by omega)] | rw [if_pos (by omega)]
          · refine r_goto (tgt := 81) dX4_gatesOf_36 rfl ?_
            refine r_iinc dX4_gatesOf_81 (Nat.le_of_ble_eq_true rfl) rfl rfl s5 ?_
            refine r_goto (tgt := 6) dX4_gatesOf_84 rfl ?_
            refine ih (i + 1) _ (by omega) ?_
            show _ = if σ 22 i = p ∧ ¬ σ 24 i = 0 ∧ σ 25 i ≤ day ∧ σ 25 i ≤ closing then max (gfold _ _ _ _ _ _ _ i) (σ 23 i - 100) else gfold _ _ _ _ _ _ _ i
            rw [← hf]
            first | rw [if_neg (by omega)] | rw [if_pos (by omega)]
  refine Ct.of (L0 := [rf G 19, iv p, iv day, iv closing, xx, xx]) (by decide +kernel) (Nat.le_of_ble_eq_true rfl) rfl ?_
  refine r_iconst dX4_gatesOf_0 ?_
  refine r_istore dX4_gatesOf_1 (Nat.le_of_ble_eq_true rfl) rfl s4 ?_
  refine r_iconst dX4_gatesOf_3 ?_
  refine r_istore dX4_gatesOf_4 (Nat.le_of_ble_eq_true rfl) rfl s5 ?_
  exact loop C 0 _ (by omega) rfl
set_option maxHeartbeats 4000000 in
theorem c_isUpheld (hs : Std n ρ) (hR : Rg σ) (C : Nat) (hC : σ 19 2 = C) (hC4 : C ≤ 40) (closing : Int) (hc : R32 closing) (o : Nat) (ho : o < 20) (hoc : 0 ≤ σ 27 o ∧ σ 27 o < 80) : RdI l G 1 mX4_isUpheld n ρ σ [rf G 19, iv o, iv closing] (bi (uphB (σ 5) (σ 6) (σ 22) (σ 23) (σ 24) (σ 25) (σ 26) (σ 27) (σ 28) C closing o = true)) := by
  obtain ⟨cell, hcell⟩ : ∃ cell : Nat, σ 27 o = cell := ⟨(σ 27 o).toNat, by omega⟩
  have hro := hR 28 (by decide) o
  have hrb := hR 26 (by decide) o
  unfold uphB
  rw [hcell, Int.toNat_natCast]
  have hr := hold_r (σ 5) (σ 6) (σ 23) (σ 24) (σ 25) C cell (σ 28 o) closing
  generalize hH : hold (σ 5) (σ 6) (σ 23) (σ 24) (σ 25) C cell (σ 28 o) closing = h at hr ⊢
  have hcon := c_holderAt (l := l) (G := G) hs hR cell (σ 28 o) closing (by omega) hro hc C hC hC4
  rw [hH] at hcon
  have loop : ∀ (m i : Nat), i + m = C → anyN (uphF (σ 22) (σ 23) (σ 24) (σ 25) (σ 26 o) cell (σ 28 o) closing h.toNat) i = false → 0 ≤ h → ¬ σ 22 h.toNat = σ 26 o → RW (KI l G 1 mX4_isUpheld n ρ (fun σ' z => σ' = σ ∧ z = bi ((!decide (h = -1) && (!decide (σ 22 h.toNat = σ 26 o) && anyN (uphF (σ 22) (σ 23) (σ 24) (σ 25) (σ 26 o) cell (σ 28 o) closing h.toNat) C)) = true))) (0, 0, n, ρ) σ 56 [rf G 19, iv o, iv closing, iv cell, iv (σ 28 o), iv (σ 26 o), iv h, iv i] [] := by
    intro m
    induction m with
    | zero =>
      intro i hi ha hh hb
      have e : i = C := by omega
      refine r_iload dX4_isUpheld_56 rfl ?_
      refine r_aloadk_n dX4_isUpheld_58 rfl ?_
      refine r_geti dX4_isUpheld_59 fl_X4_47 rfl rfl (hs.lt rfl) ?_
      refine r_icmpge (tgt := 139) dX4_isUpheld_62 rfl (by first | exact hR _ (Nat.le_of_ble_eq_true rfl) _ | omega) (by first | exact hR _ (Nat.le_of_ble_eq_true rfl) _ | omega) (fun h62 => ?_) (fun h62 => ?_)
      · refine r_iconst dX4_isUpheld_139 ?_
        exact r_iretz dX4_isUpheld_140 rfl (by omega) ⟨_, rfl, rfl, by
  refine (bi_f (fun q => ?_)).symm
  simp only [Bool.and_eq_true] at q
  rw [← e, ha] at q
  exact absurd q.2.2 (by decide)⟩
      · omega
    | succ m ih =>
      intro i hi ha hh hb
      refine r_iload dX4_isUpheld_56 rfl ?_
      refine r_aloadk_n dX4_isUpheld_58 rfl ?_
      refine r_geti dX4_isUpheld_59 fl_X4_47 rfl rfl (hs.lt rfl) ?_
      refine r_icmpge (tgt := 139) dX4_isUpheld_62 rfl (by first | exact hR _ (Nat.le_of_ble_eq_true rfl) _ | omega) (by first | exact hR _ (Nat.le_of_ble_eq_true rfl) _ | omega) (fun h62 => ?_) (fun h62 => ?_)
      · omega
      · refine r_aloadk_n dX4_isUpheld_65 rfl ?_
        refine r_getr dX4_isUpheld_66 fl_X4_18 rfl rfl (hs.lt rfl) (hs.rf rfl) ?_
        refine r_iload dX4_isUpheld_69 rfl ?_
        refine r_iald dX4_isUpheld_71 rfl (hs.lt rfl) rfl (by omega) ?_
        refine r_iload dX4_isUpheld_72 rfl ?_
        refine r_icmpne (tgt := 133) dX4_isUpheld_74 rfl (by first | exact hR _ (Nat.le_of_ble_eq_true rfl) _ | omega) (by first | exact hR _ (Nat.le_of_ble_eq_true rfl) _ | omega) (fun h74 => ?_) (fun h74 => ?_)
        · refine r_iinc dX4_isUpheld_133 (Nat.le_of_ble_eq_true rfl) rfl rfl s7 ?_
          refine r_goto (tgt := 56) dX4_isUpheld_136 rfl ?_
          refine ih (i + 1) (by omega) ?_ hh hb
          show (anyN _ i || uphF _ _ _ _ _ _ _ _ _ i) = false
          rw [ha, Bool.false_or]
          refine Bool.eq_false_iff.mpr (fun q => ?_)
          have q := uphF_t.mp q
          omega
        · refine r_aloadk_n dX4_isUpheld_77 rfl ?_
          refine r_getr dX4_isUpheld_78 fl_X4_21 rfl rfl (hs.lt rfl) (hs.rf rfl) ?_
          refine r_iload dX4_isUpheld_81 rfl ?_
          refine r_iald dX4_isUpheld_83 rfl (hs.lt rfl) rfl (by omega) ?_
          refine r_iload_n dX4_isUpheld_84 rfl ?_
          refine r_icmpne (tgt := 133) dX4_isUpheld_85 rfl (by first | exact hR _ (Nat.le_of_ble_eq_true rfl) _ | omega) (by first | exact hR _ (Nat.le_of_ble_eq_true rfl) _ | omega) (fun h85 => ?_) (fun h85 => ?_)
          · refine r_iinc dX4_isUpheld_133 (Nat.le_of_ble_eq_true rfl) rfl rfl s7 ?_
            refine r_goto (tgt := 56) dX4_isUpheld_136 rfl ?_
            refine ih (i + 1) (by omega) ?_ hh hb
            show (anyN _ i || uphF _ _ _ _ _ _ _ _ _ i) = false
            rw [ha, Bool.false_or]
            refine Bool.eq_false_iff.mpr (fun q => ?_)
            have q := uphF_t.mp q
            omega
          · refine r_aloadk_n dX4_isUpheld_88 rfl ?_
            refine r_getr dX4_isUpheld_89 fl_X4_27 rfl rfl (hs.lt rfl) (hs.rf rfl) ?_
            refine r_iload dX4_isUpheld_92 rfl ?_
            refine r_iald dX4_isUpheld_94 rfl (hs.lt rfl) rfl (by omega) ?_
            refine r_iload dX4_isUpheld_95 rfl ?_
            refine r_icmpgt (tgt := 133) dX4_isUpheld_97 rfl (by first | exact hR _ (Nat.le_of_ble_eq_true rfl) _ | omega) (by first | exact hR _ (Nat.le_of_ble_eq_true rfl) _ | omega) (fun h97 => ?_) (fun h97 => ?_)
            · refine r_iinc dX4_isUpheld_133 (Nat.le_of_ble_eq_true rfl) rfl rfl s7 ?_
              refine r_goto (tgt := 56) dX4_isUpheld_136 rfl ?_
              refine ih (i + 1) (by omega) ?_ hh hb
              show (anyN _ i || uphF _ _ _ _ _ _ _ _ _ i) = false
              rw [ha, Bool.false_or]
              refine Bool.eq_false_iff.mpr (fun q => ?_)
              have q := uphF_t.mp q
              omega
            · refine r_aloadk_n dX4_isUpheld_100 rfl ?_
              refine r_getr dX4_isUpheld_101 fl_X4_27 rfl rfl (hs.lt rfl) (hs.rf rfl) ?_
              refine r_iload dX4_isUpheld_104 rfl ?_
              refine r_iald dX4_isUpheld_106 rfl (hs.lt rfl) rfl (by omega) ?_
              refine r_iload_n dX4_isUpheld_107 rfl ?_
              refine r_icmple (tgt := 114) dX4_isUpheld_108 rfl (by first | exact hR _ (Nat.le_of_ble_eq_true rfl) _ | omega) (by first | exact hR _ (Nat.le_of_ble_eq_true rfl) _ | omega) (fun h108 => ?_) (fun h108 => ?_)
              · refine r_aloadk_n dX4_isUpheld_114 rfl ?_
                refine r_getr dX4_isUpheld_115 fl_X4_24 rfl rfl (hs.lt rfl) (hs.rf rfl) ?_
                refine r_iload dX4_isUpheld_118 rfl ?_
                refine r_iald dX4_isUpheld_120 rfl (hs.lt rfl) rfl (by omega) ?_
                refine r_aloadk_n dX4_isUpheld_121 rfl ?_
                refine r_getr dX4_isUpheld_122 fl_X4_24 rfl rfl (hs.lt rfl) (hs.rf rfl) ?_
                refine r_iload dX4_isUpheld_125 rfl ?_
                refine r_iald dX4_isUpheld_127 rfl (hs.lt rfl) (c := h.toNat) (by omega) (by omega) ?_
                refine r_icmplt (tgt := 133) dX4_isUpheld_128 rfl (by first | exact hR _ (Nat.le_of_ble_eq_true rfl) _ | omega) (by first | exact hR _ (Nat.le_of_ble_eq_true rfl) _ | omega) (fun h128 => ?_) (fun h128 => ?_)
                · refine r_iinc dX4_isUpheld_133 (Nat.le_of_ble_eq_true rfl) rfl rfl s7 ?_
                  refine r_goto (tgt := 56) dX4_isUpheld_136 rfl ?_
                  refine ih (i + 1) (by omega) ?_ hh hb
                  show (anyN _ i || uphF _ _ _ _ _ _ _ _ _ i) = false
                  rw [ha, Bool.false_or]
                  refine Bool.eq_false_iff.mpr (fun q => ?_)
                  have q := uphF_t.mp q
                  omega
                · refine r_iconst dX4_isUpheld_131 ?_
                  exact r_iretz dX4_isUpheld_132 rfl (by omega) ⟨_, rfl, rfl, by
  refine (bi_t ?_).symm
  simp only [Bool.and_eq_true, Bool.not_eq_true', decide_eq_false_iff_not]
  exact ⟨by omega, hb, (anyN_iff C).mpr ⟨i, by omega, uphF_t.mpr ⟨h74, h85, h97, h108, h128⟩⟩⟩⟩
              · refine r_goto (tgt := 133) dX4_isUpheld_111 rfl ?_
                refine r_iinc dX4_isUpheld_133 (Nat.le_of_ble_eq_true rfl) rfl rfl s7 ?_
                refine r_goto (tgt := 56) dX4_isUpheld_136 rfl ?_
                refine ih (i + 1) (by omega) ?_ hh hb
                show (anyN _ i || uphF _ _ _ _ _ _ _ _ _ i) = false
                rw [ha, Bool.false_or]
                refine Bool.eq_false_iff.mpr (fun q => ?_)
                have q := uphF_t.mp q
                omega
  refine Ct.of (L0 := [rf G 19, iv o, iv closing, xx, xx, xx, xx, xx]) (by decide +kernel) (Nat.le_of_ble_eq_true rfl) rfl ?_
  refine r_aloadk_n dX4_isUpheld_0 rfl ?_
  refine r_getr dX4_isUpheld_1 fl_X4_33 rfl rfl (hs.lt rfl) (hs.rf rfl) ?_
  refine r_iload_n dX4_isUpheld_4 rfl ?_
  refine r_iald dX4_isUpheld_5 rfl (hs.lt rfl) rfl (by omega) ?_
  refine r_istore_n dX4_isUpheld_6 (Nat.le_of_ble_eq_true rfl) rfl s3 ?_
  refine r_aloadk_n dX4_isUpheld_7 rfl ?_
  refine r_getr dX4_isUpheld_8 fl_X4_36 rfl rfl (hs.lt rfl) (hs.rf rfl) ?_
  refine r_iload_n dX4_isUpheld_11 rfl ?_
  refine r_iald dX4_isUpheld_12 rfl (hs.lt rfl) rfl (by omega) ?_
  refine r_istore dX4_isUpheld_13 (Nat.le_of_ble_eq_true rfl) rfl s4 ?_
  refine r_aloadk_n dX4_isUpheld_15 rfl ?_
  refine r_getr dX4_isUpheld_16 fl_X4_30 rfl rfl (hs.lt rfl) (hs.rf rfl) ?_
  refine r_iload_n dX4_isUpheld_19 rfl ?_
  refine r_iald dX4_isUpheld_20 rfl (hs.lt rfl) rfl (by omega) ?_
  refine r_istore dX4_isUpheld_21 (Nat.le_of_ble_eq_true rfl) rfl s5 ?_
  refine r_aloadk_n dX4_isUpheld_23 rfl ?_
  refine r_iload_n dX4_isUpheld_24 rfl ?_
  rw [hcell]
  refine r_iload dX4_isUpheld_25 rfl ?_
  refine r_iload_n dX4_isUpheld_27 rfl ?_
  refine q_callVr dX4_isUpheld_28 (hcon) ml_X4_65 okX4_holderAt rfl rfl (hs.lt rfl) rfl rfl (Nat.le_of_ble_eq_true rfl) (roomOK.of (by decide)) ⟨(Nat.le_of_ble_eq_true rfl), (Nat.le_of_ble_eq_true rfl)⟩ ?_
  refine r_istore dX4_isUpheld_31 (Nat.le_of_ble_eq_true rfl) rfl s6 ?_
  refine r_iload dX4_isUpheld_33 rfl ?_
  refine r_iconst dX4_isUpheld_35 ?_
  refine r_icmpeq (tgt := 51) dX4_isUpheld_36 rfl (by first | exact hR _ (Nat.le_of_ble_eq_true rfl) _ | omega) (by first | exact hR _ (Nat.le_of_ble_eq_true rfl) _ | omega) (fun h36 => ?_) (fun h36 => ?_)
  · refine r_iconst dX4_isUpheld_51 ?_
    exact r_iretz dX4_isUpheld_52 rfl (by omega) ⟨_, rfl, rfl, by
  refine (bi_f (fun q => ?_)).symm
  simp only [Bool.and_eq_true, Bool.not_eq_true', decide_eq_false_iff_not] at q
  first | exact q.1 h36 | exact q.2.1 h48⟩
  · refine r_aloadk_n dX4_isUpheld_39 rfl ?_
    refine r_getr dX4_isUpheld_40 fl_X4_18 rfl rfl (hs.lt rfl) (hs.rf rfl) ?_
    refine r_iload dX4_isUpheld_43 rfl ?_
    refine r_iald dX4_isUpheld_45 rfl (hs.lt rfl) (c := h.toNat) (by omega) (by omega) ?_
    refine r_iload dX4_isUpheld_46 rfl ?_
    refine r_icmpne (tgt := 53) dX4_isUpheld_48 rfl (by first | exact hR _ (Nat.le_of_ble_eq_true rfl) _ | omega) (by first | exact hR _ (Nat.le_of_ble_eq_true rfl) _ | omega) (fun h48 => ?_) (fun h48 => ?_)
    · refine r_iconst dX4_isUpheld_53 ?_
      refine r_istore dX4_isUpheld_54 (Nat.le_of_ble_eq_true rfl) rfl s7 ?_
      exact loop C 0 (by omega) rfl (by omega) h48
    · refine r_iconst dX4_isUpheld_51 ?_
      exact r_iretz dX4_isUpheld_52 rfl (by omega) ⟨_, rfl, rfl, by
  refine (bi_f (fun q => ?_)).symm
  simp only [Bool.and_eq_true, Bool.not_eq_true', decide_eq_false_iff_not] at q
  first | exact q.1 h36 | exact q.2.1 h48⟩
theorem c_upheldObjector (hs : Std n ρ) (hR : Rg σ) (C : Nat) (hC : σ 19 2 = C) (hC4 : C ≤ 40) (O : Nat) (hO : σ 19 3 = O) (hO2 : O ≤ 20) (cell day closing : Int) (hce : R32 cell) (hd : R32 day) (hc : R32 closing) (hoc : ∀ o, o < O → 0 ≤ σ 27 o ∧ σ 27 o < 80) : RdI l G 2 mX4_upheldObjector n ρ σ [rf G 19, iv cell, iv day, iv closing] (if fstN (objF (σ 5) (σ 6) (σ 22) (σ 23) (σ 24) (σ 25) (σ 26) (σ 27) (σ 28) C cell day closing) O = -1 then -1 else σ 26 (fstN (objF (σ 5) (σ 6) (σ 22) (σ 23) (σ 24) (σ 25) (σ 26) (σ 27) (σ 28) C cell day closing) O).toNat) := by
  generalize hF : objF (σ 5) (σ 6) (σ 22) (σ 23) (σ 24) (σ 25) (σ 26) (σ 27) (σ 28) C cell day closing = F
  have hFt : ∀ o, F o = true ↔ (σ 27 o = cell ∧ σ 28 o ≤ day) ∧ uphB (σ 5) (σ 6) (σ 22) (σ 23) (σ 24) (σ 25) (σ 26) (σ 27) (σ 28) C closing o = true := by
    intro o
    rw [← hF]
    unfold objF
    rw [Bool.and_eq_true, decide_eq_true_iff]
  have loop : ∀ (m i : Nat), i + m = O → fstN F i = -1 → RW (KI l G 2 mX4_upheldObjector n ρ (fun σ' z => σ' = σ ∧ z = if fstN F O = -1 then -1 else σ 26 (fstN F O).toNat)) (0, 0, n, ρ) σ 3 [rf G 19, iv cell, iv day, iv closing, iv i] [] := by
    intro m
    induction m with
    | zero =>
      intro i hi hf
      have e : i = O := by omega
      refine r_iload dX4_upheldObjector_3 rfl ?_
      refine r_aloadk_n dX4_upheldObjector_5 rfl ?_
      refine r_geti dX4_upheldObjector_6 fl_X4_50 rfl rfl (hs.lt rfl) ?_
      refine r_icmpge (tgt := 58) dX4_upheldObjector_9 rfl (by first | exact hR _ (Nat.le_of_ble_eq_true rfl) _ | omega) (by first | exact hR _ (Nat.le_of_ble_eq_true rfl) _ | omega) (fun h9 => ?_) (fun h9 => ?_)
      · refine r_iconst dX4_upheldObjector_58 ?_
        exact r_ireti dX4_upheldObjector_59 rfl ⟨_, rfl, rfl, by rw [← e, if_pos hf]⟩
      · omega
    | succ m ih =>
      intro i hi hf
      refine r_iload dX4_upheldObjector_3 rfl ?_
      refine r_aloadk_n dX4_upheldObjector_5 rfl ?_
      refine r_geti dX4_upheldObjector_6 fl_X4_50 rfl rfl (hs.lt rfl) ?_
      refine r_icmpge (tgt := 58) dX4_upheldObjector_9 rfl (by first | exact hR _ (Nat.le_of_ble_eq_true rfl) _ | omega) (by first | exact hR _ (Nat.le_of_ble_eq_true rfl) _ | omega) (fun h9 => ?_) (fun h9 => ?_)
      · omega
      · refine r_aloadk_n dX4_upheldObjector_12 rfl ?_
        refine r_getr dX4_upheldObjector_13 fl_X4_33 rfl rfl (hs.lt rfl) (hs.rf rfl) ?_
        refine r_iload dX4_upheldObjector_16 rfl ?_
        refine r_iald dX4_upheldObjector_18 rfl (hs.lt rfl) rfl (by omega) ?_
        refine r_iload_n dX4_upheldObjector_19 rfl ?_
        refine r_icmpne (tgt := 52) dX4_upheldObjector_20 rfl (by first | exact hR _ (Nat.le_of_ble_eq_true rfl) _ | omega) (by first | exact hR _ (Nat.le_of_ble_eq_true rfl) _ | omega) (fun h20 => ?_) (fun h20 => ?_)
        · refine r_iinc dX4_upheldObjector_52 (Nat.le_of_ble_eq_true rfl) rfl rfl s4 ?_
          refine r_goto (tgt := 3) dX4_upheldObjector_55 rfl ?_
          refine ih (i + 1) (by omega) (fstN_miss hf (Bool.eq_false_iff.mpr (fun q => ?_)))
          have q := (hFt i).mp q
          first | exact h20 q.1.1 | (have := q.1.2; omega) | exact h41 q.2
        · refine r_aloadk_n dX4_upheldObjector_23 rfl ?_
          refine r_getr dX4_upheldObjector_24 fl_X4_36 rfl rfl (hs.lt rfl) (hs.rf rfl) ?_
          refine r_iload dX4_upheldObjector_27 rfl ?_
          refine r_iald dX4_upheldObjector_29 rfl (hs.lt rfl) rfl (by omega) ?_
          refine r_iload_n dX4_upheldObjector_30 rfl ?_
          refine r_icmpgt (tgt := 52) dX4_upheldObjector_31 rfl (by first | exact hR _ (Nat.le_of_ble_eq_true rfl) _ | omega) (by first | exact hR _ (Nat.le_of_ble_eq_true rfl) _ | omega) (fun h31 => ?_) (fun h31 => ?_)
          · refine r_iinc dX4_upheldObjector_52 (Nat.le_of_ble_eq_true rfl) rfl rfl s4 ?_
            refine r_goto (tgt := 3) dX4_upheldObjector_55 rfl ?_
            refine ih (i + 1) (by omega) (fstN_miss hf (Bool.eq_false_iff.mpr (fun q => ?_)))
            have q := (hFt i).mp q
            first | exact h20 q.1.1 | (have := q.1.2; omega) | exact h41 q.2
          · refine r_aloadk_n dX4_upheldObjector_34 rfl ?_
            refine r_iload dX4_upheldObjector_35 rfl ?_
            refine r_iload_n dX4_upheldObjector_37 rfl ?_
            refine q_callVr dX4_upheldObjector_38 (c_isUpheld hs hR C hC hC4 closing hc i (by omega) (hoc i (by omega))) ml_X4_69 okX4_isUpheld rfl rfl (hs.lt rfl) rfl rfl (Nat.le_of_ble_eq_true rfl) (roomOK.of (by decide)) ⟨(Nat.le_of_ble_eq_true rfl), (Nat.le_of_ble_eq_true rfl)⟩ ?_
            refine r_ifeqb (tgt := 52) dX4_upheldObjector_41 rfl (fun h41 => ?_) (fun h41 => ?_)
            · refine r_iinc dX4_upheldObjector_52 (Nat.le_of_ble_eq_true rfl) rfl rfl s4 ?_
              refine r_goto (tgt := 3) dX4_upheldObjector_55 rfl ?_
              refine ih (i + 1) (by omega) (fstN_miss hf (Bool.eq_false_iff.mpr (fun q => ?_)))
              have q := (hFt i).mp q
              first | exact h20 q.1.1 | (have := q.1.2; omega) | exact h41 q.2
            · refine r_aloadk_n dX4_upheldObjector_44 rfl ?_
              refine r_getr dX4_upheldObjector_45 fl_X4_30 rfl rfl (hs.lt rfl) (hs.rf rfl) ?_
              refine r_iload dX4_upheldObjector_48 rfl ?_
              refine r_iald dX4_upheldObjector_50 rfl (hs.lt rfl) rfl (by omega) ?_
              exact r_ireti dX4_upheldObjector_51 rfl ⟨_, rfl, rfl, by rw [fstN_hit' hf ((hFt i).mpr ⟨⟨h20, h31⟩, h41⟩) (by omega), if_neg (by omega), Int.toNat_natCast]⟩
  refine Ct.of (L0 := [rf G 19, iv cell, iv day, iv closing, xx]) (by decide +kernel) (Nat.le_of_ble_eq_true rfl) rfl ?_
  refine r_iconst dX4_upheldObjector_0 ?_
  refine r_istore dX4_upheldObjector_1 (Nat.le_of_ble_eq_true rfl) rfl s4 ?_
  exact loop O 0 (by omega) rfl
end Roll
