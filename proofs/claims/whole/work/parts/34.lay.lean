/-! CLASS: RoadMaker: the way back, lay -/
def befF (D pr : Nat → Int) (W H c s : Nat) : Bool := decide (¬ nb W H c s = -1 ∧ D (nb W H c s).toNat = D c - pr c)
theorem befF_t {D pr : Nat → Int} {W H c s : Nat} : befF D pr W H c s = true ↔ (¬ nb W H c s = -1 ∧ D (nb W H c s).toNat = D c - pr c) := by unfold befF; exact decide_eq_true_iff
/-- the cell ahead on the way -/
def befS (D pr : Nat → Int) (W H c : Nat) : Int := if fstN (befF D pr W H c) 4 = -1 then -1 else nb W H c (fstN (befF D pr W H c) 4).toNat
def roadGo (pre : Nat → Nat) (fr : Nat) : Nat → Nat → (Nat → Int) → Int → (Nat → Int) × Int
  | 0, _, rd, laid => (rd, laid)
  | k + 1, c, rd, laid => if c = fr then (ud rd c 1, laid + bi (¬ rd c = 1)) else roadGo pre fr k (pre c) (ud rd c 1) (laid + bi (¬ rd c = 1))
def rankS (D : Nat → Int) (N c : Nat) : Int := sumN (fun v => bi (D v < D c)) N
theorem sumN_mono {f g : Nat → Int} : ∀ N : Nat, (∀ v, v < N → f v ≤ g v) → sumN f N ≤ sumN g N
  | 0, _ => Int.le_refl _
  | N + 1, h => by
    have h1 := sumN_mono N (fun v hv => h v (by omega))
    have h2 := h N (by omega)
    show sumN f N + f N ≤ sumN g N + g N
    omega
theorem sumN_smono {f g : Nat → Int} {b : Nat} (hb : f b < g b) : ∀ N : Nat, b < N → (∀ v, v < N → f v ≤ g v) → sumN f N < sumN g N
  | 0, h, _ => by omega
  | N + 1, hN, h => by
    have h2 := h N (by omega)
    show sumN f N + f N < sumN g N + g N
    by_cases e : b = N
    · subst e
      have h1 := sumN_mono (f := f) (g := g) b (fun v hv => h v (by omega))
      omega
    · have h1 := sumN_smono hb N (by omega) (fun v hv => h v (by omega))
      omega
theorem rank_lt {D : Nat → Int} {N b c : Nat} (hb : b < N) (h : D b < D c) : rankS D N b < rankS D N c := by
  unfold rankS
  refine sumN_smono (b := b) ?_ N hb (fun v _ => ?_)
  · show bi (D b < D b) < bi (D b < D c)
    rw [bi_f (by omega), bi_t h]; omega
  · show bi (D v < D b) ≤ bi (D v < D c)
    by_cases q : D v < D b
    · rw [bi_t q, bi_t (by omega)]; exact Int.le_refl _
    · rw [bi_f q]; have := bi_01 (D v < D c); omega
theorem rank_N {D : Nat → Int} {N c : Nat} (hc : c < N) : 0 ≤ rankS D N c ∧ rankS D N c < N := by
  have h1 := sumN_smono (f := fun v => bi (D v < D c)) (g := fun _ => 1) (b := c) (by show bi (D c < D c) < 1; rw [bi_f (by omega)]; omega) N hc (fun v _ => by show bi (D v < D c) ≤ 1; have := bi_01 (D v < D c); omega)
  have h2 := sumN_r (f := fun _ => (1 : Int)) (a := 1) (b := 1) N (fun _ _ => by omega)
  have h3 := sumN_r (f := fun v => bi (D v < D c)) (a := 0) (b := 1) N (fun v _ => by show 0 ≤ bi (D v < D c) ∧ bi (D v < D c) ≤ 1; have := bi_01 (D v < D c); omega)
  unfold rankS
  omega
/-- on a way of least price the cell ahead is there, and nearer -/
theorem Sol.pre {us pr : Nat → Int} {W H fr : Nat} {D : Nat → Int} (h : Sol us pr W H fr D) (hW : 0 < W) (hpr : ∀ c, 1 ≤ pr c) {c : Nat} (hc : c < W * H) (hcF : D c < FARV) (hcf : c ≠ fr) : ∃ b : Nat, befS D pr W H c = b ∧ b < W * H ∧ D b = D c - pr c ∧ D b < FARV := by
  have hu : ¬ us c = 2 := fun q => by have := h.2.2.1 c hc q; omega
  obtain ⟨b, hb, ⟨s, hs, hn⟩, hub, hbF, he⟩ := h.2.2.2.1 c hc hu hcf hcF
  have hp := hpr c
  have hne : ¬ fstN (befF D pr W H c) 4 = -1 := fun q => by
    have := (fstN_none 4).mp q
    have h2 : anyN (befF D pr W H c) 4 = true := (anyN_iff 4).mpr ⟨s, hs, befF_t.mpr ⟨by omega, by rw [hn, Int.toNat_natCast]; omega⟩⟩
    rw [this] at h2; cases h2
  have ht := befF_t.mp (fstN_at _ 4 hne)
  have hr := nb_r hc hW (fstN (befF D pr W H c) 4).toNat
  refine ⟨(nb W H c (fstN (befF D pr W H c) 4).toNat).toNat, ?_, by omega, ht.2, by omega⟩
  unfold befS
  rw [if_neg hne]
  omega
section Lay
variable {l : Launch} {G : GG} {n : Nat} {ρ : Rho} {σ : Si}
theorem c_cellBefore (hs : Std n ρ) (hR : Rg σ) {W H : Nat} (g : Geo σ W H) (hso : ∀ c, 0 ≤ σ 4 c ∧ σ 4 c ≤ 9) (c : Nat) (hc : c < W * H) (hD : 0 ≤ σ 10 c) : RdI l G 2 mX3_cellBefore n ρ σ [rf G 9, iv c] (befS (σ 10) (prS (σ 4) (σ 6)) W H c) := by
  have hle := g.le
  have hpr := prS_r (so := σ 4) (rd := σ 6) hso c
  have hDr := hR 10 (by decide) c
  have hW : 0 < W := by have := g.2.2.2.1; omega
  unfold befS
  generalize hF : befF (σ 10) (prS (σ 4) (σ 6)) W H c = F
  have hFt : ∀ s, F s = true ↔ (¬ nb W H c s = -1 ∧ σ 10 (nb W H c s).toNat = σ 10 c - prS (σ 4) (σ 6) c) := fun s => by rw [← hF]; exact befF_t
  have loop : ∀ (m i : Nat) (x4 : Value), i + m = 4 → fstN F i = -1 → isJ x4 = false → RW (KI l G 2 mX3_cellBefore n ρ (fun σ' z => σ' = σ ∧ z = if fstN F 4 = -1 then -1 else nb W H c (fstN F 4).toNat)) (0, 0, n, ρ) σ 15 [rf G 9, iv c, iv (σ 10 c - prS (σ 4) (σ 6) c), iv i, x4] [] := by
    intro m
    induction m with
    | zero =>
      intro i x4 hi hf hx
      have e : i = 4 := by omega
      subst e
      refine r_iload_n dX3_cellBefore_15 rfl ?_
      refine r_iconst dX3_cellBefore_16 ?_
      refine r_icmpge (tgt := 57) dX3_cellBefore_17 rfl (by first | exact hR _ (Nat.le_of_ble_eq_true rfl) _ | omega) (by first | exact hR _ (Nat.le_of_ble_eq_true rfl) _ | omega) (fun h17 => ?_) (fun h17 => ?_)
      · refine r_iconst dX3_cellBefore_57 ?_
        exact r_ireti dX3_cellBefore_58 rfl ⟨_, rfl, rfl, by rw [if_pos hf]⟩
      · omega
    | succ m ih =>
      intro i x4 hi hf hx
      have hr := nb_r hc hW i
      refine r_iload_n dX3_cellBefore_15 rfl ?_
      refine r_iconst dX3_cellBefore_16 ?_
      refine r_icmpge (tgt := 57) dX3_cellBefore_17 rfl (by first | exact hR _ (Nat.le_of_ble_eq_true rfl) _ | omega) (by first | exact hR _ (Nat.le_of_ble_eq_true rfl) _ | omega) (fun h17 => ?_) (fun h17 => ?_)
      · omega
      · refine r_aloadk_n dX3_cellBefore_20 rfl ?_
        refine r_getr dX3_cellBefore_21 fl_X3_19 rfl rfl (hs.lt rfl) (hs.rf rfl) ?_
        refine r_iload_n dX3_cellBefore_24 rfl ?_
        refine r_iload_n dX3_cellBefore_25 rfl ?_
        refine q_callVr dX3_cellBefore_26 (c_beside hs hR g c i hc (by omega)) ml_X3_62 okX1_beside rfl rfl (hs.lt rfl) rfl rfl (Nat.le_of_ble_eq_true rfl) (roomOK.of (by decide)) ⟨(Nat.le_of_ble_eq_true rfl), (Nat.le_of_ble_eq_true rfl)⟩ ?_
        refine r_istore dX3_cellBefore_29 (Nat.le_of_ble_eq_true rfl) rfl s4 ?_
        refine r_iload dX3_cellBefore_31 rfl ?_
        refine r_iconst dX3_cellBefore_33 ?_
        refine r_icmpeq (tgt := 51) dX3_cellBefore_34 rfl (by first | exact hR _ (Nat.le_of_ble_eq_true rfl) _ | omega) (by first | exact hR _ (Nat.le_of_ble_eq_true rfl) _ | omega) (fun h34 => ?_) (fun h34 => ?_)
        · refine r_iinc dX3_cellBefore_51 (Nat.le_of_ble_eq_true rfl) rfl rfl s3 ?_
          refine r_goto (tgt := 15) dX3_cellBefore_54 rfl ?_
          refine ih (i + 1) _ (by omega) (fstN_miss hf (Bool.eq_false_iff.mpr (fun q => ?_))) rfl
          have q := (hFt i).mp q
          first | exact q.1 h34 | (rw [hb, Int.toNat_natCast] at q; exact h45 q.2)
        · obtain ⟨b, hb⟩ : ∃ b : Nat, nb W H c i = b := ⟨(nb W H c i).toNat, by omega⟩
          rw [hb] at h34 hr ⊢
          refine r_aloadk_n dX3_cellBefore_37 rfl ?_
          refine r_getr dX3_cellBefore_38 fl_X3_9 rfl rfl (hs.lt rfl) (hs.rf rfl) ?_
          refine r_iload dX3_cellBefore_41 rfl ?_
          refine r_iald dX3_cellBefore_43 rfl (hs.lt rfl) rfl (by omega) ?_
          refine r_iload_n dX3_cellBefore_44 rfl ?_
          refine r_icmpne (tgt := 51) dX3_cellBefore_45 rfl (by first | exact hR _ (Nat.le_of_ble_eq_true rfl) _ | omega) (by first | exact hR _ (Nat.le_of_ble_eq_true rfl) _ | omega) (fun h45 => ?_) (fun h45 => ?_)
          · refine r_iinc dX3_cellBefore_51 (Nat.le_of_ble_eq_true rfl) rfl rfl s3 ?_
            refine r_goto (tgt := 15) dX3_cellBefore_54 rfl ?_
            refine ih (i + 1) _ (by omega) (fstN_miss hf (Bool.eq_false_iff.mpr (fun q => ?_))) rfl
            have q := (hFt i).mp q
            first | exact q.1 h34 | (rw [hb, Int.toNat_natCast] at q; exact h45 q.2)
          · refine r_iload dX3_cellBefore_48 rfl ?_
            exact r_ireti dX3_cellBefore_50 rfl ⟨_, rfl, rfl, by rw [fstN_hit' hf ((hFt i).mpr ⟨by omega, by rw [hb, Int.toNat_natCast]; exact h45⟩) (by omega), if_neg (by omega), Int.toNat_natCast, hb]⟩
  refine Ct.of (L0 := [rf G 9, iv c, xx, xx, xx]) (by decide +kernel) (Nat.le_of_ble_eq_true rfl) rfl ?_
  refine r_aloadk_n dX3_cellBefore_0 rfl ?_
  refine r_getr dX3_cellBefore_1 fl_X3_9 rfl rfl (hs.lt rfl) (hs.rf rfl) ?_
  refine r_iload_n dX3_cellBefore_4 rfl ?_
  refine r_iald dX3_cellBefore_5 rfl (hs.lt rfl) rfl (by omega) ?_
  refine r_aloadk_n dX3_cellBefore_6 rfl ?_
  refine r_iload_n dX3_cellBefore_7 rfl ?_
  refine q_callVr dX3_cellBefore_8 (c_price hs hR c (by omega)) ml_X3_55 okX3_price rfl rfl (hs.lt rfl) rfl rfl (Nat.le_of_ble_eq_true rfl) (roomOK.of (by decide)) ⟨(Nat.le_of_ble_eq_true rfl), (Nat.le_of_ble_eq_true rfl)⟩ ?_
  refine r_isub dX3_cellBefore_11 ?_
  refine r_istore_n dX3_cellBefore_12 (Nat.le_of_ble_eq_true rfl) rfl s2 ?_
  refine r_iconst dX3_cellBefore_13 ?_
  refine r_istore_n dX3_cellBefore_14 (Nat.le_of_ble_eq_true rfl) rfl s3 ?_
  exact loop 4 0 _ (by omega) rfl rfl
set_option maxHeartbeats 4000000 in
theorem c_lay (hs : Std n ρ) (hR : Rg σ) {W H : Nat} (g : Geo σ W H) (hso : ∀ c, 0 ≤ σ 4 c ∧ σ 4 c ≤ 9) (hrd : ∀ c, 0 ≤ σ 6 c ∧ σ 6 c ≤ 1) (hex : 0 ≤ σ 2 3 ∧ σ 2 3 ≤ 1000000) (fr to : Nat) (hfr : fr < W * H) (hto : to < W * H) (hfu : ¬ σ 5 fr = 2) : CtI l G 3 mX3_lay n ρ σ [rf G 9, iv fr, iv to] (fun σ' z => ∃ D S : Nat → Int, (∀ j, R32 (D j)) ∧ (∀ j, R32 (S j)) ∧ Sol (σ 5) (prS (σ 4) (σ 6)) W H fr D ∧ ((D to = FARV ∧ z = -4 ∧ σ' = sr (sr σ 10 D) 11 S) ∨ (D to < FARV ∧ ∃ rd : Nat → Int, (rd, z) = roadGo (fun c => (befS D (prS (σ 4) (σ 6)) W H c).toNat) fr (W * H) to (σ 6) 0 ∧ (∀ c, 0 ≤ rd c ∧ rd c ≤ 1) ∧ 0 ≤ z ∧ z ≤ 80 ∧ σ' = up (sr (sr (sr σ 10 D) 11 S) 6 rd) 2 3 (σ 2 3 + 10 * z)))) := by
  have hle := g.le
  obtain ⟨g0, g1, g2, g3, g4, g5⟩ := id g
  have hpr := prS_r (so := σ 4) (rd := σ 6) hso
  have kbf : ∀ (D S rd : Nat → Int), (∀ j, R32 (D j)) → (∀ j, R32 (S j)) → (∀ j, R32 (rd j)) → ∀ c : Nat, c < W * H → 0 ≤ D c → rd c = σ 6 c → RdI l G 2 mX3_cellBefore n ρ (sr (sr (sr σ 10 D) 11 S) 6 rd) [rf G 9, iv c] (befS D (prS (σ 4) (σ 6)) W H c) := fun D S rd hD hS hr c hc h0 he => by
    have h := c_cellBefore (l := l) (G := G) (σ := sr (sr (sr σ 10 D) 11 S) 6 rd) hs (((hR.sr hD).sr hS).sr hr) g hso c hc h0
    have e : befS D (prS (σ 4) rd) W H c = befS D (prS (σ 4) (σ 6)) W H c := by
      have e1 : prS (σ 4) rd c = prS (σ 4) (σ 6) c := by unfold prS; rw [he]
      have e2 : befF D (prS (σ 4) rd) W H c = befF D (prS (σ 4) (σ 6)) W H c := by funext s; unfold befF; rw [e1]
      unfold befS; rw [e2]
    rw [← e]
    exact h
  have kir : ∀ (D S rd : Nat → Int), (∀ j, R32 (D j)) → (∀ j, R32 (S j)) → (∀ j, R32 (rd j)) → ∀ c : Nat, c < 80 → RdI l G 0 mX1_isRoad n ρ (sr (sr (sr σ 10 D) 11 S) 6 rd) [rf G 2, iv c] (bi (rd c = 1)) := fun D S rd hD hS hr c hc => c_isRoad (σ := sr (sr (sr σ 10 D) 11 S) 6 rd) hs (((hR.sr hD).sr hS).sr hr) c hc
  have km := c_measure (l := l) (G := G) hs hR g hso fr hfr hfu
  generalize prS (σ 4) (σ 6) = pr at hpr kbf km ⊢
  have fin101 : ∀ (D S rd : Nat → Int) (laid : Int) (x4 x5 x6 : Value), (∀ j, R32 (D j)) → (∀ j, R32 (S j)) → Sol (σ 5) pr W H fr D → D to < FARV → (rd, laid) = roadGo (fun c => (befS D pr W H c).toNat) fr (W * H) to (σ 6) 0 → (∀ c, 0 ≤ rd c ∧ rd c ≤ 1) → 0 ≤ laid → laid ≤ 80 → RW (KI l G 3 mX3_lay n ρ (fun σ' z => ∃ D S : Nat → Int, (∀ j, R32 (D j)) ∧ (∀ j, R32 (S j)) ∧ Sol (σ 5) pr W H fr D ∧ ((D to = FARV ∧ z = -4 ∧ σ' = sr (sr σ 10 D) 11 S) ∨ (D to < FARV ∧ ∃ rd : Nat → Int, (rd, z) = roadGo (fun c => (befS D pr W H c).toNat) fr (W * H) to (σ 6) 0 ∧ (∀ c, 0 ≤ rd c ∧ rd c ≤ 1) ∧ 0 ≤ z ∧ z ≤ 80 ∧ σ' = up (sr (sr (sr σ 10 D) 11 S) 6 rd) 2 3 (σ 2 3 + 10 * z))))) (0, 0, n, ρ) (sr (sr (sr σ 10 D) 11 S) 6 rd) 101 [rf G 9, iv fr, iv to, iv laid, x4, x5, x6] [] := by
    intro D S rd laid x4 x5 x6 hD hS hSol hDt hgo hrd2 h0 h80
    refine r_aloadk_n dX3_lay_101 rfl ?_
    refine r_getr dX3_lay_102 fl_X3_19 rfl rfl (hs.lt rfl) (hs.rf rfl) ?_
    refine r_dup dX3_lay_105 rfl ?_
    refine r_geti dX3_lay_106 fl_X3_46 rfl rfl (hs.lt rfl) ?_
    rw [show sr (sr (sr σ 10 D) 11 S) 6 rd 2 = σ 2 from rfl]
    refine r_bipush dX3_lay_109 ?_
    refine r_iload_n dX3_lay_111 rfl ?_
    refine r_imul dX3_lay_112 ?_
    refine r_iadd dX3_lay_113 ?_
    refine r_puti dX3_lay_114 fl_X3_46 rfl (hs.lt rfl) ?_
    refine r_iload_n dX3_lay_117 rfl ?_
    exact r_ireti dX3_lay_118 rfl ⟨_, rfl, D, S, hD, hS, hSol, Or.inr ⟨hDt, rd, hgo, hrd2, h0, h80, rfl⟩⟩
  have loop : ∀ (D S : Nat → Int), (∀ j, R32 (D j)) → (∀ j, R32 (S j)) → Sol (σ 5) pr W H fr D → D to < FARV → ∀ (k i m c : Nat) (rd : Nat → Int) (laid : Int) (x6 : Value), rankS D (W * H) c < k → i + (m + 1) = W * H → c < W * H → D c < FARV → (i : Int) + rankS D (W * H) c < (W * H : Nat) → (∀ v, v < W * H → D v ≤ D c → rd v = σ 6 v) → (∀ v, 0 ≤ rd v ∧ rd v ≤ 1) → 0 ≤ laid ∧ laid ≤ i → isJ x6 = false → roadGo (fun c => (befS D pr W H c).toNat) fr (m + 1) c rd laid = roadGo (fun c => (befS D pr W H c).toNat) fr (W * H) to (σ 6) 0 → RW (KI l G 3 mX3_lay n ρ (fun σ' z => ∃ D S : Nat → Int, (∀ j, R32 (D j)) ∧ (∀ j, R32 (S j)) ∧ Sol (σ 5) pr W H fr D ∧ ((D to = FARV ∧ z = -4 ∧ σ' = sr (sr σ 10 D) 11 S) ∨ (D to < FARV ∧ ∃ rd : Nat → Int, (rd, z) = roadGo (fun c => (befS D pr W H c).toNat) fr (W * H) to (σ 6) 0 ∧ (∀ c, 0 ≤ rd c ∧ rd c ≤ 1) ∧ 0 ≤ z ∧ z ≤ 80 ∧ σ' = up (sr (sr (sr σ 10 D) 11 S) 6 rd) 2 3 (σ 2 3 + 10 * z))))) (0, 0, n, ρ) (sr (sr (sr σ 10 D) 11 S) 6 rd) 27 [rf G 9, iv fr, iv to, iv laid, iv c, iv i, x6] [] := by
    intro D S hD hS hSol hDt k
    induction k with
    | zero => intro i m c rd laid x6 hk hi hc; have := rank_N (D := D) hc; omega
    | succ k ih =>
      intro i m c rd laid x6 hk hi hc hcF hrk heq hr01 hlaid hx hgo
      have hr32 : ∀ j, R32 (rd j) := fun j => by have := hr01 j; omega
      have hDc := hSol.2.1 c hc
      have hrc := rank_N (D := D) hc
      have hr01' : ∀ v, 0 ≤ ud rd c 1 v ∧ ud rd c 1 v ≤ 1 := fun v => by have := hr01 v; unfold ud; split <;> omega
      have hb01 := bi_01 (¬ rd c = 1)
      have hgo1 : (if c = fr then (ud rd c 1, laid + bi (¬ rd c = 1)) else roadGo (fun c => (befS D pr W H c).toNat) fr m ((befS D pr W H c).toNat) (ud rd c 1) (laid + bi (¬ rd c = 1))) = roadGo (fun c => (befS D pr W H c).toNat) fr (W * H) to (σ 6) 0 := hgo
      have L61 : ∀ before : Int, (c = fr ∧ before = -1) ∨ (c ≠ fr ∧ before = befS D pr W H c) → RW (KI l G 3 mX3_lay n ρ (fun σ' z => ∃ D S : Nat → Int, (∀ j, R32 (D j)) ∧ (∀ j, R32 (S j)) ∧ Sol (σ 5) pr W H fr D ∧ ((D to = FARV ∧ z = -4 ∧ σ' = sr (sr σ 10 D) 11 S) ∨ (D to < FARV ∧ ∃ rd : Nat → Int, (rd, z) = roadGo (fun c => (befS D pr W H c).toNat) fr (W * H) to (σ 6) 0 ∧ (∀ c, 0 ≤ rd c ∧ rd c ≤ 1) ∧ 0 ≤ z ∧ z ≤ 80 ∧ σ' = up (sr (sr (sr σ 10 D) 11 S) 6 rd) 2 3 (σ 2 3 + 10 * z))))) (0, 0, n, ρ) (sr (sr (sr σ 10 D) 11 S) 6 rd) 61 [rf G 9, iv fr, iv to, iv laid, iv c, iv i, x6] [iv before] := by
        intro before hbf
        have L91 : ∀ laid2 : Int, laid2 = laid + bi (¬ rd c = 1) → RW (KI l G 3 mX3_lay n ρ (fun σ' z => ∃ D S : Nat → Int, (∀ j, R32 (D j)) ∧ (∀ j, R32 (S j)) ∧ Sol (σ 5) pr W H fr D ∧ ((D to = FARV ∧ z = -4 ∧ σ' = sr (sr σ 10 D) 11 S) ∨ (D to < FARV ∧ ∃ rd : Nat → Int, (rd, z) = roadGo (fun c => (befS D pr W H c).toNat) fr (W * H) to (σ 6) 0 ∧ (∀ c, 0 ≤ rd c ∧ rd c ≤ 1) ∧ 0 ≤ z ∧ z ≤ 80 ∧ σ' = up (sr (sr (sr σ 10 D) 11 S) 6 rd) 2 3 (σ 2 3 + 10 * z))))) (0, 0, n, ρ) (sr (sr (sr σ 10 D) 11 S) 6 (ud rd c 1)) 27 [rf G 9, iv fr, iv to, iv laid2, iv before, iv (i + 1 : Nat), iv before] [] := by
          intro laid2 hl2
          rcases hbf with ⟨e1, e2⟩ | ⟨e1, e2⟩
          · subst e2
            rw [if_pos e1, ← hl2] at hgo1
            refine r_iload dX3_lay_27 rfl ?_
            refine r_aloadk_n dX3_lay_29 rfl ?_
            refine r_getr dX3_lay_30 fl_X3_19 rfl rfl (hs.lt rfl) (hs.rf rfl) ?_
            refine r_geti dX3_lay_33 fl_X3_28 rfl rfl (hs.lt rfl) ?_
            refine r_icmpge (tgt := 101) dX3_lay_36 rfl (by omega) (by show R32 (σ 2 2); omega) (fun h36 => ?_) (fun h36 => ?_)
            · exact fin101 D S _ _ _ _ _ hD hS hSol hDt hgo1 hr01' (by omega) (by omega)
            · refine r_iload dX3_lay_39 rfl ?_
              refine r_iconst dX3_lay_41 ?_
              refine r_icmpeq (tgt := 101) dX3_lay_42 rfl (by omega) (by omega) (fun h42 => ?_) (fun h42 => ?_)
              · exact fin101 D S _ _ _ _ _ hD hS hSol hDt hgo1 hr01' (by omega) (by omega)
              · omega
          · rw [if_neg e1, ← hl2] at hgo1
            obtain ⟨b, hb1, hb2, hb3, hb4⟩ := hSol.pre (by omega) (fun c => (hpr c).1) hc hcF e1
            have hpc := hpr c
            have hrb := rank_lt (D := D) (N := W * H) (b := b) (c := c) hb2 (by omega)
            have hrb0 := rank_N (D := D) hb2
            obtain ⟨m', rfl⟩ : ∃ m', m = m' + 1 := ⟨m - 1, by omega⟩
            rw [e2, hb1]
            rw [hb1, Int.toNat_natCast] at hgo1
            refine ih (i + 1) m' b (ud rd c 1) laid2 _ (by omega) (by omega) hb2 hb4 (by omega) (fun v hv hvb => ?_) hr01' (by omega) rfl hgo1
            rw [ud_ne (fun q : v = c => by rw [q] at hvb; omega)]
            exact heq v hv (by omega)
        refine r_istore dX3_lay_61 (Nat.le_of_ble_eq_true rfl) rfl s6 ?_
        refine r_aloadk_n dX3_lay_63 rfl ?_
        refine r_getr dX3_lay_64 fl_X3_19 rfl rfl (hs.lt rfl) (hs.rf rfl) ?_
        refine r_iload dX3_lay_67 rfl ?_
        refine q_callVr dX3_lay_69 (kir D S rd hD hS hr32 c (by omega)) ml_X3_38 okX1_isRoad rfl rfl (hs.lt rfl) rfl rfl (Nat.le_of_ble_eq_true rfl) (roomOK.of (by decide)) ⟨(Nat.le_of_ble_eq_true rfl), (Nat.le_of_ble_eq_true rfl)⟩ ?_
        refine r_ifneb (tgt := 78) dX3_lay_72 rfl (fun h72 => ?_) (fun h72 => ?_)
        · refine r_aloadk_n dX3_lay_78 rfl ?_
          refine r_getr dX3_lay_79 fl_X3_19 rfl rfl (hs.lt rfl) (hs.rf rfl) ?_
          refine r_getr dX3_lay_82 fl_X3_42 rfl rfl (hs.lt rfl) (hs.rf rfl) ?_
          refine r_iconst dX3_lay_85 ?_
          refine r_aald dX3_lay_86 rfl (hs.lt rfl) (c := 2) rfl (Nat.le_of_ble_eq_true rfl) (hs.rf rfl) ?_
          refine r_iload dX3_lay_87 rfl ?_
          refine r_iconst dX3_lay_89 ?_
          refine r_iast dX3_lay_90 rfl (hs.lt rfl) rfl (by omega) ?_
          refine r_iload dX3_lay_91 rfl ?_
          refine r_istore dX3_lay_93 (Nat.le_of_ble_eq_true rfl) rfl s4 ?_
          refine r_iinc dX3_lay_95 (Nat.le_of_ble_eq_true rfl) rfl rfl s5 ?_
          refine r_goto (tgt := 27) dX3_lay_98 rfl ?_
          rw [up_sr]
          first
          | exact L91 _ (by rw [bi_t h72])
          | exact L91 _ (by rw [bi_f (fun q => q h72)]; omega)
        · refine r_iinc dX3_lay_75 (Nat.le_of_ble_eq_true rfl) rfl rfl s3 ?_
          refine r_aloadk_n dX3_lay_78 rfl ?_
          refine r_getr dX3_lay_79 fl_X3_19 rfl rfl (hs.lt rfl) (hs.rf rfl) ?_
          refine r_getr dX3_lay_82 fl_X3_42 rfl rfl (hs.lt rfl) (hs.rf rfl) ?_
          refine r_iconst dX3_lay_85 ?_
          refine r_aald dX3_lay_86 rfl (hs.lt rfl) (c := 2) rfl (Nat.le_of_ble_eq_true rfl) (hs.rf rfl) ?_
          refine r_iload dX3_lay_87 rfl ?_
          refine r_iconst dX3_lay_89 ?_
          refine r_iast dX3_lay_90 rfl (hs.lt rfl) rfl (by omega) ?_
          refine r_iload dX3_lay_91 rfl ?_
          refine r_istore dX3_lay_93 (Nat.le_of_ble_eq_true rfl) rfl s4 ?_
          refine r_iinc dX3_lay_95 (Nat.le_of_ble_eq_true rfl) rfl rfl s5 ?_
          refine r_goto (tgt := 27) dX3_lay_98 rfl ?_
          rw [up_sr]
          first
          | exact L91 _ (by rw [bi_t h72])
          | exact L91 _ (by rw [bi_f (fun q => q h72)]; omega)
      refine r_iload dX3_lay_27 rfl ?_
      refine r_aloadk_n dX3_lay_29 rfl ?_
      refine r_getr dX3_lay_30 fl_X3_19 rfl rfl (hs.lt rfl) (hs.rf rfl) ?_
      refine r_geti dX3_lay_33 fl_X3_28 rfl rfl (hs.lt rfl) ?_
      refine r_icmpge (tgt := 101) dX3_lay_36 rfl (by omega) (by show R32 (σ 2 2); omega) (fun h36 => ?_) (fun h36 => ?_)
      · exact absurd h36 (by show ¬ σ 2 2 ≤ (i : Int); omega)
      · refine r_iload dX3_lay_39 rfl ?_
        refine r_iconst dX3_lay_41 ?_
        refine r_icmpeq (tgt := 101) dX3_lay_42 rfl (by omega) (by omega) (fun h42 => ?_) (fun h42 => ?_)
        · omega
        · refine r_iload dX3_lay_45 rfl ?_
          refine r_iload_n dX3_lay_47 rfl ?_
          refine r_icmpne (tgt := 55) dX3_lay_48 rfl (by omega) (by omega) (fun h48 => ?_) (fun h48 => ?_)
          · refine r_aloadk_n dX3_lay_55 rfl ?_
            refine r_iload dX3_lay_56 rfl ?_
            refine q_callVr dX3_lay_58 (kbf D S rd hD hS hr32 c hc (by omega) (heq c hc (Int.le_refl _))) ml_X3_34 okX3_cellBefore rfl rfl (hs.lt rfl) rfl rfl (Nat.le_of_ble_eq_true rfl) (roomOK.of (by decide)) ⟨(Nat.le_of_ble_eq_true rfl), (Nat.le_of_ble_eq_true rfl)⟩ ?_
            first
            | exact L61 _ (Or.inl ⟨by omega, rfl⟩)
            | exact L61 _ (Or.inr ⟨by omega, rfl⟩)
          · refine r_iconst dX3_lay_51 ?_
            refine r_goto (tgt := 61) dX3_lay_52 rfl ?_
            first
            | exact L61 _ (Or.inl ⟨by omega, rfl⟩)
            | exact L61 _ (Or.inr ⟨by omega, rfl⟩)
  refine Ct.of (L0 := [rf G 9, iv fr, iv to, xx, xx, xx, xx]) (by decide +kernel) (Nat.le_of_ble_eq_true rfl) rfl ?_
  refine r_aloadk_n dX3_lay_0 rfl ?_
  refine r_iload_n dX3_lay_1 rfl ?_
  refine q_callVv dX3_lay_2 (km) ml_X3_23 okX3_measure rfl rfl (hs.lt rfl) rfl rfl (Nat.le_of_ble_eq_true rfl) (roomOK.of (by decide)) ⟨(Nat.le_of_ble_eq_true rfl), (Nat.le_of_ble_eq_true rfl)⟩ (fun σ1 hq1 => ?_)
  obtain ⟨D, S, hD, hS, hSol, rfl⟩ := hq1
  have hDt := hSol.2.1 to hto
  refine r_aloadk_n dX3_lay_5 rfl ?_
  refine r_getr dX3_lay_6 fl_X3_9 rfl rfl (hs.lt rfl) (hs.rf rfl) ?_
  refine r_iload_n dX3_lay_9 rfl ?_
  refine r_iald dX3_lay_10 rfl (hs.lt rfl) rfl (by omega) ?_
  rw [show sr (sr σ 10 D) 11 S 10 = D from rfl]
  refine r_ldc dX3_lay_11 k_X3_27 ?_
  refine r_icmpne (tgt := 19) dX3_lay_13 rfl (hD to) (by omega) (fun h13 => ?_) (fun h13 => ?_)
  · have h13' : ¬ D to = FARV := h13
    refine r_iconst dX3_lay_19 ?_
    refine r_istore_n dX3_lay_20 (Nat.le_of_ble_eq_true rfl) rfl s3 ?_
    refine r_iload_n dX3_lay_21 rfl ?_
    refine r_istore dX3_lay_22 (Nat.le_of_ble_eq_true rfl) rfl s4 ?_
    refine r_iconst dX3_lay_24 ?_
    refine r_istore dX3_lay_25 (Nat.le_of_ble_eq_true rfl) rfl s5 ?_
    have hrt := rank_N (D := D) hto
    have h := loop D S hD hS hSol (by omega) (W * H) 0 (W * H - 1) to (σ 6) 0 xx (by omega) (by omega) hto (by omega) (by omega) (fun _ _ _ => rfl) hrd (by omega) rfl (by rw [show W * H - 1 + 1 = W * H by omega])
    rw [show sr (sr (sr σ 10 D) 11 S) 6 (σ 6) = sr (sr σ 10 D) 11 S from sr_self (σ := sr (sr σ 10 D) 11 S) (k := 6)] at h
    exact h
  · refine r_bipush dX3_lay_16 ?_
    exact r_ireti dX3_lay_18 rfl ⟨_, rfl, D, S, hD, hS, hSol, Or.inl ⟨h13, rfl, rfl⟩⟩
end Lay
