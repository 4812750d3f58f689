/-! CLASS: Shares.part and what stands on it -/
def partGo (P : Nat) : Nat → (Nat → Int) → (Nat → Int) → Int → (Nat → Int)
  | 0, q, _, _ => q
  | k + 1, q, r, left => if left ≤ 0 then q else partGo P k (ud q (argmax r P) (q (argmax r P) + 1)) (ud r (argmax r P) (-1)) (left - 1)
def pqI (whole all : Int) (by_ w : Nat → Int) (i : Nat) : Nat → Int := fun p => if p < i then whole * by_ p / all else w00 w p
def prI (whole all : Int) (by_ r : Nat → Int) (i : Nat) : Nat → Int := fun p => if p < i then whole * by_ p % all else r p
/-- a whole parted by a row -/
def partS (whole : Int) (by_ w r0 : Nat → Int) (P : Nat) : Nat → Int := if sumN by_ P ≤ 0 then w00 w else partGo P P (pqI whole (sumN by_ P) by_ w P) (prI whole (sumN by_ P) by_ r0 P) (whole - sumN (fun p => whole * by_ p / sumN by_ P) P)
theorem le_sumN {f : Nat → Int} {P : Nat} (h : ∀ p, p < P → 0 ≤ f p) : ∀ N : Nat, N ≤ P → 0 ≤ sumN f N ∧ ∀ b, b < N → f b ≤ sumN f N
  | 0, _ => ⟨Int.le_refl 0, fun b hb => by omega⟩
  | N + 1, hN => by
    obtain ⟨h1, h2⟩ := le_sumN h N (by omega)
    have h3 := h N (by omega)
    refine ⟨by show 0 ≤ sumN f N + f N; omega, fun b hb => ?_⟩
    show f b ≤ sumN f N + f N
    by_cases e : b = N
    · rw [e]; omega
    · have := h2 b (by omega); omega
theorem quo_r {whole all b : Int} (hw : 0 ≤ whole) (hb : 0 ≤ b) (ha : 0 < all) (hle : b ≤ all) : 0 ≤ whole * b / all ∧ whole * b / all ≤ whole := ⟨Int.ediv_nonneg (Int.mul_nonneg hw hb) (by omega), Int.ediv_le_of_le_mul ha (Int.mul_le_mul_of_nonneg_left hle hw)⟩
section Part
variable {l : Launch} {G : GG} {n : Nat} {ρ : Rho} {σ : Si}
theorem pq_ud {whole all : Int} {by_ w : Nat → Int} {i : Nat} : ud (pqI whole all by_ w i) i (whole * by_ i / all) = pqI whole all by_ w (i + 1) := ud_if (gts := fun p => whole * by_ p / all)
theorem pr_ud {whole all : Int} {by_ w : Nat → Int} {i : Nat} : ud (prI whole all by_ w i) i (whole * by_ i % all) = prI whole all by_ w (i + 1) := ud_if (gts := fun p => whole * by_ p % all)
set_option maxHeartbeats 4000000 in
theorem c_parta (hs : Std n ρ) (hR : Rg σ) (P : Nat) (hP : σ 19 1 = P) (hP8 : P ≤ 8) (whole : Int) (hw : 0 ≤ whole ∧ whole ≤ 1000000) (hb : ∀ p, p < P → 0 ≤ σ 30 p ∧ σ 30 p ≤ 200000) (hz : ∀ b, 8 ≤ b → σ 31 b = 0) : CtV l G 1 mX6_part n ρ σ [rf G 29, iv whole, rf G 30, rf G 31] (fun σ' => ∃ r : Nat → Int, (∀ j, R32 (r j)) ∧ σ' = sr (sr σ 31 (partS whole (σ 30) (σ 31) (σ 34) P)) 34 r) := by
  have hall := le_sumN (f := σ 30) (P := P) (fun p hp => (hb p hp).1) P (Nat.le_refl P)
  have hall2 := sumN_r (f := σ 30) (a := 0) (b := 200000) P hb
  have hz0 : ∀ b, w00 (σ 31) b = 0 := fun b => by
    unfold w00
    split
    · rfl
    · exact hz b (by omega)
  have hrest : ∀ j, R32 (σ 34 j) := fun j => hR 34 (by decide) j
  unfold partS
  generalize hA : sumN (σ 30) P = all at hall hall2 ⊢
  generalize hF : (if all ≤ 0 then w00 (σ 31) else partGo P P (pqI whole all (σ 30) (σ 31) P) (prI whole all (σ 30) (σ 34) P) (whole - sumN (fun p => whole * σ 30 p / all) P)) = F
  have loop2 : ∀ (k rd : Nat) (q r : Nat → Int) (left : Int) (x8 x9 : Value), rd + k = P → 0 < P → (∀ j, 0 ≤ q j ∧ q j ≤ 1000000 + rd) → (∀ j, R32 (r j)) → R32 left → R32 (left - k) → partGo P k q r left = F → RW (KV l G 1 mX6_part n ρ (fun σ' => ∃ r : Nat → Int, (∀ j, R32 (r j)) ∧ σ' = sr (sr σ 31 F) 34 r)) (0, 0, n, ρ) (sr (sr σ 31 q) 34 r) 95 [rf G 29, iv whole, rf G 30, rf G 31, jl all, xx, iv left, iv rd, x8, x9] [] := by
    intro k
    induction k with
    | zero =>
      intro rd q r left x8 x9 hk hP0 hq hr hlf hlf2 hF
      refine r_iload dX6_part_95 rfl ?_
      refine r_aloadk_n dX6_part_97 rfl ?_
      refine r_getr dX6_part_98 fl_X6_32 rfl rfl (hs.lt rfl) (hs.rf rfl) ?_
      refine r_geti dX6_part_101 fl_X6_97 rfl rfl (hs.lt rfl) ?_
      refine r_icmpge (tgt := 145) dX6_part_104 rfl (by omega) (by show R32 (σ 19 1); omega) (fun h104 => ?_) (fun h104 => ?_)
      · exact r_vret dX6_part_145 rfl ⟨rfl, r, hr, by rw [← hF]; rfl⟩
      · exact absurd h104 (by show ¬ (rd : Int) < σ 19 1; omega)
    | succ k ih =>
      intro rd q r left x8 x9 hk hP0 hq hr hlf hlf2 hF
      have ha := argmax_lt r P hP0
      have hqa := hq (argmax r P)
      have hRt : Rg (sr (sr σ 31 q) 34 r) := (hR.sr (fun j => by have := hq j; omega)).sr hr
      have hFs : (if left ≤ 0 then q else partGo P k (ud q (argmax r P) (q (argmax r P) + 1)) (ud r (argmax r P) (-1)) (left - 1)) = F := hF
      have kc : RdI l G 0 mX6_greatestRest n ρ (sr (sr σ 31 q) 34 r) [rf G 29] (argmax r P : Nat) := c_greatestRest (σ := sr (sr σ 31 q) 34 r) hs hRt P hP hP0 hP8
      refine r_iload dX6_part_95 rfl ?_
      refine r_aloadk_n dX6_part_97 rfl ?_
      refine r_getr dX6_part_98 fl_X6_32 rfl rfl (hs.lt rfl) (hs.rf rfl) ?_
      refine r_geti dX6_part_101 fl_X6_97 rfl rfl (hs.lt rfl) ?_
      refine r_icmpge (tgt := 145) dX6_part_104 rfl (by omega) (by show R32 (σ 19 1); omega) (fun h104 => ?_) (fun h104 => ?_)
      · exact absurd h104 (by show ¬ σ 19 1 ≤ (rd : Int); omega)
      · refine r_iload dX6_part_107 rfl ?_
        refine r_ifle (tgt := 145) dX6_part_109 rfl (by omega) (fun h109 => ?_) (fun h109 => ?_)
        · exact r_vret dX6_part_145 rfl ⟨rfl, r, hr, by rw [← hFs, if_pos h109]⟩
        · refine r_aloadk_n dX6_part_112 rfl ?_
          refine q_callVr dX6_part_113 (kc) ml_X6_131 okX6_greatestRest rfl rfl (hs.lt rfl) rfl rfl (Nat.le_of_ble_eq_true rfl) (roomOK.of (by decide)) ⟨(Nat.le_of_ble_eq_true rfl), (Nat.le_of_ble_eq_true rfl)⟩ ?_
          refine r_istore dX6_part_116 (Nat.le_of_ble_eq_true rfl) rfl s8 ?_
          refine r_aloadk_n dX6_part_118 rfl ?_
          refine r_iload dX6_part_119 rfl ?_
          refine r_dup2 dX6_part_121 rfl rfl ?_
          refine r_iald dX6_part_122 rfl (hs.lt rfl) rfl (by omega) ?_
          rw [show sr (sr σ 31 q) 34 r 31 = q from rfl]
          refine r_iconst dX6_part_123 ?_
          refine r_iadd dX6_part_124 ?_
          refine r_iast dX6_part_125 rfl (hs.lt rfl) rfl (by omega) ?_
          rw [sr_comm (by omega), up_sr, sr_comm (by omega)]
          refine r_aloadk_n dX6_part_126 rfl ?_
          refine r_getr dX6_part_127 fl_X6_24 rfl rfl (hs.lt rfl) (hs.rf rfl) ?_
          refine r_iload dX6_part_130 rfl ?_
          refine r_ldc2 dX6_part_132 kl_X6_134 ?_
          refine r_last dX6_part_135 rfl (hs.lt rfl) rfl (by omega) ?_
          rw [up_sr]
          refine r_iinc dX6_part_136 (Nat.le_of_ble_eq_true rfl) rfl rfl s6 ?_
          refine r_iinc dX6_part_139 (Nat.le_of_ble_eq_true rfl) rfl rfl s7 ?_
          refine r_goto (tgt := 95) dX6_part_142 rfl ?_
          rw [if_neg (by omega)] at hFs
          refine ih (rd + 1) _ _ _ _ _ (by omega) hP0 (fun j => ?_) (fun j => ?_) (by omega) (by omega) hFs
          · unfold ud
            split
            · omega
            · have := hq j; omega
          · unfold ud
            split
            · omega
            · exact hr j
  have hpq : ∀ i, i ≤ P → 0 < all → ∀ j, 0 ≤ pqI whole all (σ 30) (σ 31) i j ∧ pqI whole all (σ 30) (σ 31) i j ≤ 1000000 := fun i hi ha j => by
    unfold pqI
    split
    · have := quo_r hw.1 (hb j (by omega)).1 ha (hall.2 j (by omega)); omega
    · rw [hz0 j]; omega
  have hpr : ∀ i, i ≤ P → 0 < all → ∀ j, R32 (prI whole all (σ 30) (σ 34) i j) := fun i hi ha j => by
    unfold prI
    split
    · have h1 := Int.emod_nonneg (whole * σ 30 j) (show all ≠ 0 by omega)
      have h2 := Int.emod_lt_of_pos (whole * σ 30 j) ha
      omega
    · exact hrest j
  have loop1 : ∀ (m i : Nat) (x8 x9 : Value), i + m = P → 0 < all → RW (KV l G 1 mX6_part n ρ (fun σ' => ∃ r : Nat → Int, (∀ j, R32 (r j)) ∧ σ' = sr (sr σ 31 F) 34 r)) (0, 0, n, ρ) (sr (sr σ 31 (pqI whole all (σ 30) (σ 31) i)) 34 (prI whole all (σ 30) (σ 34) i)) 33 [rf G 29, iv whole, rf G 30, rf G 31, jl all, xx, iv (whole - sumN (fun p => whole * σ 30 p / all) i), iv i, x8, x9] [] := by
    intro m
    induction m with
    | zero =>
      intro i x8 x9 hi ha
      have e : i = P := by omega
      subst e
      have hP0 : 0 < i := by
        rcases Nat.eq_zero_or_pos i with h | h
        · rw [h] at hA; have : all = 0 := hA.symm; omega
        · exact h
      have hsr := sumN_r (f := fun p => whole * σ 30 p / all) (a := 0) (b := 1000000) i (fun p hp => by have := quo_r hw.1 (hb p hp).1 ha (hall.2 p hp); show 0 ≤ whole * σ 30 p / all ∧ whole * σ 30 p / all ≤ 1000000; omega)
      refine r_iload dX6_part_33 rfl ?_
      refine r_aloadk_n dX6_part_35 rfl ?_
      refine r_getr dX6_part_36 fl_X6_32 rfl rfl (hs.lt rfl) (hs.rf rfl) ?_
      refine r_geti dX6_part_39 fl_X6_97 rfl rfl (hs.lt rfl) ?_
      refine r_icmpge (tgt := 92) dX6_part_42 rfl (by omega) (by show R32 (σ 19 1); omega) (fun h42 => ?_) (fun h42 => ?_)
      · refine r_iconst dX6_part_92 ?_
        refine r_istore dX6_part_93 (Nat.le_of_ble_eq_true rfl) rfl s7 ?_
        exact loop2 i 0 _ _ _ _ _ (by omega) hP0 (fun j => by have := hpq i (Nat.le_refl i) ha j; omega) (hpr i (Nat.le_refl i) ha) (by omega) (by omega) (by rw [← hF, if_neg (by omega)])
      · exact absurd h42 (by show ¬ (i : Int) < σ 19 1; omega)
    | succ m ih =>
      intro i x8 x9 hi ha
      have hbi := hb i (by omega)
      have hqi := quo_r hw.1 hbi.1 ha (hall.2 i (by omega))
      have hmul : 0 ≤ whole * σ 30 i ∧ whole * σ 30 i ≤ 1000000 * 200000 := ⟨Int.mul_nonneg hw.1 hbi.1, Int.mul_le_mul hw.2 hbi.2 hbi.1 (by omega)⟩
      refine r_iload dX6_part_33 rfl ?_
      refine r_aloadk_n dX6_part_35 rfl ?_
      refine r_getr dX6_part_36 fl_X6_32 rfl rfl (hs.lt rfl) (hs.rf rfl) ?_
      refine r_geti dX6_part_39 fl_X6_97 rfl rfl (hs.lt rfl) ?_
      refine r_icmpge (tgt := 92) dX6_part_42 rfl (by omega) (by show R32 (σ 19 1); omega) (fun h42 => ?_) (fun h42 => ?_)
      · exact absurd h42 (by show ¬ σ 19 1 ≤ (i : Int); omega)
      · refine r_iload_n dX6_part_45 rfl ?_
        refine r_i2l dX6_part_46 (by omega) ?_
        refine r_aloadk_n dX6_part_47 rfl ?_
        refine r_iload dX6_part_48 rfl ?_
        refine r_iald dX6_part_50 rfl (hs.lt rfl) rfl (by omega) ?_
        rw [show sr (sr σ 31 (pqI whole all (σ 30) (σ 31) i)) 34 (prI whole all (σ 30) (σ 34) i) 30 = σ 30 from rfl]
        refine r_i2l dX6_part_51 (by omega) ?_
        refine r_lmul dX6_part_52 ?_
        refine r_lstore dX6_part_53 (Nat.le_of_ble_eq_true rfl) rfl w8 ?_
        refine r_aloadk_n dX6_part_55 rfl ?_
        refine r_iload dX6_part_56 rfl ?_
        refine r_lload dX6_part_58 rfl ?_
        refine r_lload dX6_part_60 rfl ?_
        refine r_ldiv dX6_part_62 (by omega) (by omega) ?_
        refine r_l2i dX6_part_63 (by omega) ?_
        refine r_iast dX6_part_64 rfl (hs.lt rfl) rfl (by omega) ?_
        rw [sr_comm (by omega), up_sr, sr_comm (by omega), pq_ud]
        refine r_aloadk_n dX6_part_65 rfl ?_
        refine r_getr dX6_part_66 fl_X6_24 rfl rfl (hs.lt rfl) (hs.rf rfl) ?_
        refine r_iload dX6_part_69 rfl ?_
        refine r_lload dX6_part_71 rfl ?_
        refine r_lload dX6_part_73 rfl ?_
        refine r_lrem dX6_part_75 (by omega) (by omega) ?_
        refine r_last dX6_part_76 rfl (hs.lt rfl) rfl (by omega) ?_
        rw [up_sr, pr_ud]
        refine r_iload dX6_part_77 rfl ?_
        refine r_aloadk_n dX6_part_79 rfl ?_
        refine r_iload dX6_part_80 rfl ?_
        refine r_iald dX6_part_82 rfl (hs.lt rfl) rfl (by omega) ?_
        rw [show sr (sr σ 31 (pqI whole all (σ 30) (σ 31) (i + 1))) 34 (prI whole all (σ 30) (σ 34) (i + 1)) 31 i = whole * σ 30 i / all from if_pos (by omega)]
        refine r_isub dX6_part_83 ?_
        refine r_istore dX6_part_84 (Nat.le_of_ble_eq_true rfl) rfl s6 ?_
        refine r_iinc dX6_part_86 (Nat.le_of_ble_eq_true rfl) rfl rfl s7 ?_
        refine r_goto (tgt := 33) dX6_part_89 rfl ?_
        have h := ih (i + 1) (jl (whole * σ 30 i)) xx (by omega) ha
        rw [show whole - sumN (fun p => whole * σ 30 p / all) (i + 1) = whole - sumN (fun p => whole * σ 30 p / all) i - whole * σ 30 i / all by show whole - (sumN (fun p => whole * σ 30 p / all) i + whole * σ 30 i / all) = _; omega] at h
        exact h
  have e0 : sr σ 31 (w00 (σ 31)) = sr (sr σ 31 (pqI whole all (σ 30) (σ 31) 0)) 34 (prI whole all (σ 30) (σ 34) 0) := by
    have e1 : pqI whole all (σ 30) (σ 31) 0 = w00 (σ 31) := by funext p; unfold pqI; rw [if_neg (by omega)]
    have e2 : prI whole all (σ 30) (σ 34) 0 = sr σ 31 (w00 (σ 31)) 34 := by funext p; unfold prI; rw [if_neg (by omega)]; rfl
    rw [e1, e2, sr_self]
  refine Ct.of (L0 := [rf G 29, iv whole, rf G 30, rf G 31, xx, xx, xx, xx, xx, xx]) (by decide +kernel) (Nat.le_of_ble_eq_true rfl) rfl ?_
  refine r_aloadk_n dX6_part_0 rfl ?_
  refine r_iconst dX6_part_1 ?_
  refine q_callSv dX6_part_2 (c_fill 31 8 (hs.lt rfl) rfl 0) ml_X6_71 okJ7_fill_53178 rfl rfl (Nat.le_of_ble_eq_true rfl) (roomOK.of (by decide)) ⟨(Nat.le_of_ble_eq_true rfl), (Nat.le_of_ble_eq_true rfl)⟩ (fun σ' hq1 => ?_)
  subst hq1
  rw [filR_sr]
  change RW _ _ (sr σ 31 (w00 (σ 31))) _ _ _
  refine r_aloadk_n dX6_part_5 rfl ?_
  refine r_aloadk_n dX6_part_6 rfl ?_
  refine r_getr dX6_part_7 fl_X6_32 rfl rfl (hs.lt rfl) (hs.rf rfl) ?_
  refine r_geti dX6_part_10 fl_X6_97 rfl rfl (hs.lt rfl) ?_
  rw [show sr σ 31 (w00 (σ 31)) 19 1 = (P : Int) from hP]
  refine q_callSr dX6_part_13 (c_total 30 8 (hs.lt rfl) rfl P hP8) ml_X6_103 okX6_total rfl rfl (Nat.le_of_ble_eq_true rfl) (roomOK.of (by decide)) ⟨(Nat.le_of_ble_eq_true rfl), (Nat.le_of_ble_eq_true rfl)⟩ ?_
  rw [show sumN (sr σ 31 (w00 (σ 31)) 30) P = all from hA]
  refine r_i2l dX6_part_16 (by omega) ?_
  refine r_lstore dX6_part_17 (Nat.le_of_ble_eq_true rfl) rfl w4 ?_
  refine r_lload dX6_part_19 rfl ?_
  refine r_lconst0 dX6_part_21 ?_
  refine r_lcmp dX6_part_22 (by omega) (by omega) ?_
  refine r_ifgt (tgt := 27) dX6_part_23 rfl (by split <;> (try split) <;> omega) (fun h23 => ?_) (fun h23 => ?_)
  · refine r_iload_n dX6_part_27 rfl ?_
    refine r_istore dX6_part_28 (Nat.le_of_ble_eq_true rfl) rfl s6 ?_
    refine r_iconst dX6_part_30 ?_
    refine r_istore dX6_part_31 (Nat.le_of_ble_eq_true rfl) rfl s7 ?_
    rw [e0]
    have h := loop1 P 0 xx xx (by omega) (by split at h23 <;> (try split at h23) <;> omega)
    rw [show whole - sumN (fun p => whole * σ 30 p / all) 0 = whole by show whole - 0 = whole; omega] at h
    exact h
  · exact r_vret dX6_part_26 rfl ⟨rfl, σ 34, hrest, by
  have h0 : all ≤ 0 := by split at h23 <;> omega
  rw [← hF, if_pos h0]
  exact (sr_self (σ := sr σ 31 (w00 (σ 31))) (k := 34)).symm⟩
set_option maxHeartbeats 4000000 in
theorem c_partb (hs : Std n ρ) (hR : Rg σ) (P : Nat) (hP : σ 19 1 = P) (hP8 : P ≤ 8) (whole : Int) (hw : 0 ≤ whole ∧ whole ≤ 1000000) (hb : ∀ p, p < P → 0 ≤ σ 31 p ∧ σ 31 p ≤ 200000) (hz : ∀ b, 8 ≤ b → σ 32 b = 0) : CtV l G 1 mX6_part n ρ σ [rf G 29, iv whole, rf G 31, rf G 32] (fun σ' => ∃ r : Nat → Int, (∀ j, R32 (r j)) ∧ σ' = sr (sr σ 32 (partS whole (σ 31) (σ 32) (σ 34) P)) 34 r) := by
  have hall := le_sumN (f := σ 31) (P := P) (fun p hp => (hb p hp).1) P (Nat.le_refl P)
  have hall2 := sumN_r (f := σ 31) (a := 0) (b := 200000) P hb
  have hz0 : ∀ b, w00 (σ 32) b = 0 := fun b => by
    unfold w00
    split
    · rfl
    · exact hz b (by omega)
  have hrest : ∀ j, R32 (σ 34 j) := fun j => hR 34 (by decide) j
  unfold partS
  generalize hA : sumN (σ 31) P = all at hall hall2 ⊢
  generalize hF : (if all ≤ 0 then w00 (σ 32) else partGo P P (pqI whole all (σ 31) (σ 32) P) (prI whole all (σ 31) (σ 34) P) (whole - sumN (fun p => whole * σ 31 p / all) P)) = F
  have loop2 : ∀ (k rd : Nat) (q r : Nat → Int) (left : Int) (x8 x9 : Value), rd + k = P → 0 < P → (∀ j, 0 ≤ q j ∧ q j ≤ 1000000 + rd) → (∀ j, R32 (r j)) → R32 left → R32 (left - k) → partGo P k q r left = F → RW (KV l G 1 mX6_part n ρ (fun σ' => ∃ r : Nat → Int, (∀ j, R32 (r j)) ∧ σ' = sr (sr σ 32 F) 34 r)) (0, 0, n, ρ) (sr (sr σ 32 q) 34 r) 95 [rf G 29, iv whole, rf G 31, rf G 32, jl all, xx, iv left, iv rd, x8, x9] [] := by
    intro k
    induction k with
    | zero =>
      intro rd q r left x8 x9 hk hP0 hq hr hlf hlf2 hF
      refine r_iload dX6_part_95 rfl ?_
      refine r_aloadk_n dX6_part_97 rfl ?_
      refine r_getr dX6_part_98 fl_X6_32 rfl rfl (hs.lt rfl) (hs.rf rfl) ?_
      refine r_geti dX6_part_101 fl_X6_97 rfl rfl (hs.lt rfl) ?_
      refine r_icmpge (tgt := 145) dX6_part_104 rfl (by omega) (by show R32 (σ 19 1); omega) (fun h104 => ?_) (fun h104 => ?_)
      · exact r_vret dX6_part_145 rfl ⟨rfl, r, hr, by rw [← hF]; rfl⟩
      · exact absurd h104 (by show ¬ (rd : Int) < σ 19 1; omega)
    | succ k ih =>
      intro rd q r left x8 x9 hk hP0 hq hr hlf hlf2 hF
      have ha := argmax_lt r P hP0
      have hqa := hq (argmax r P)
      have hRt : Rg (sr (sr σ 32 q) 34 r) := (hR.sr (fun j => by have := hq j; omega)).sr hr
      have hFs : (if left ≤ 0 then q else partGo P k (ud q (argmax r P) (q (argmax r P) + 1)) (ud r (argmax r P) (-1)) (left - 1)) = F := hF
      have kc : RdI l G 0 mX6_greatestRest n ρ (sr (sr σ 32 q) 34 r) [rf G 29] (argmax r P : Nat) := c_greatestRest (σ := sr (sr σ 32 q) 34 r) hs hRt P hP hP0 hP8
      refine r_iload dX6_part_95 rfl ?_
      refine r_aloadk_n dX6_part_97 rfl ?_
      refine r_getr dX6_part_98 fl_X6_32 rfl rfl (hs.lt rfl) (hs.rf rfl) ?_
      refine r_geti dX6_part_101 fl_X6_97 rfl rfl (hs.lt rfl) ?_
      refine r_icmpge (tgt := 145) dX6_part_104 rfl (by omega) (by show R32 (σ 19 1); omega) (fun h104 => ?_) (fun h104 => ?_)
      · exact absurd h104 (by show ¬ σ 19 1 ≤ (rd : Int); omega)
      · refine r_iload dX6_part_107 rfl ?_
        refine r_ifle (tgt := 145) dX6_part_109 rfl (by omega) (fun h109 => ?_) (fun h109 => ?_)
        · exact r_vret dX6_part_145 rfl ⟨rfl, r, hr, by rw [← hFs, if_pos h109]⟩
        · refine r_aloadk_n dX6_part_112 rfl ?_
          refine q_callVr dX6_part_113 (kc) ml_X6_131 okX6_greatestRest rfl rfl (hs.lt rfl) rfl rfl (Nat.le_of_ble_eq_true rfl) (roomOK.of (by decide)) ⟨(Nat.le_of_ble_eq_true rfl), (Nat.le_of_ble_eq_true rfl)⟩ ?_
          refine r_istore dX6_part_116 (Nat.le_of_ble_eq_true rfl) rfl s8 ?_
          refine r_aloadk_n dX6_part_118 rfl ?_
          refine r_iload dX6_part_119 rfl ?_
          refine r_dup2 dX6_part_121 rfl rfl ?_
          refine r_iald dX6_part_122 rfl (hs.lt rfl) rfl (by omega) ?_
          rw [show sr (sr σ 32 q) 34 r 32 = q from rfl]
          refine r_iconst dX6_part_123 ?_
          refine r_iadd dX6_part_124 ?_
          refine r_iast dX6_part_125 rfl (hs.lt rfl) rfl (by omega) ?_
          rw [sr_comm (by omega), up_sr, sr_comm (by omega)]
          refine r_aloadk_n dX6_part_126 rfl ?_
          refine r_getr dX6_part_127 fl_X6_24 rfl rfl (hs.lt rfl) (hs.rf rfl) ?_
          refine r_iload dX6_part_130 rfl ?_
          refine r_ldc2 dX6_part_132 kl_X6_134 ?_
          refine r_last dX6_part_135 rfl (hs.lt rfl) rfl (by omega) ?_
          rw [up_sr]
          refine r_iinc dX6_part_136 (Nat.le_of_ble_eq_true rfl) rfl rfl s6 ?_
          refine r_iinc dX6_part_139 (Nat.le_of_ble_eq_true rfl) rfl rfl s7 ?_
          refine r_goto (tgt := 95) dX6_part_142 rfl ?_
          rw [if_neg (by omega)] at hFs
          refine ih (rd + 1) _ _ _ _ _ (by omega) hP0 (fun j => ?_) (fun j => ?_) (by omega) (by omega) hFs
          · unfold ud
            split
            · omega
            · have := hq j; omega
          · unfold ud
            split
            · omega
            · exact hr j
  have hpq : ∀ i, i ≤ P → 0 < all → ∀ j, 0 ≤ pqI whole all (σ 31) (σ 32) i j ∧ pqI whole all (σ 31) (σ 32) i j ≤ 1000000 := fun i hi ha j => by
    unfold pqI
    split
    · have := quo_r hw.1 (hb j (by omega)).1 ha (hall.2 j (by omega)); omega
    · rw [hz0 j]; omega
  have hpr : ∀ i, i ≤ P → 0 < all → ∀ j, R32 (prI whole all (σ 31) (σ 34) i j) := fun i hi ha j => by
    unfold prI
    split
    · have h1 := Int.emod_nonneg (whole * σ 31 j) (show all ≠ 0 by omega)
      have h2 := Int.emod_lt_of_pos (whole * σ 31 j) ha
      omega
    · exact hrest j
  have loop1 : ∀ (m i : Nat) (x8 x9 : Value), i + m = P → 0 < all → RW (KV l G 1 mX6_part n ρ (fun σ' => ∃ r : Nat → Int, (∀ j, R32 (r j)) ∧ σ' = sr (sr σ 32 F) 34 r)) (0, 0, n, ρ) (sr (sr σ 32 (pqI whole all (σ 31) (σ 32) i)) 34 (prI whole all (σ 31) (σ 34) i)) 33 [rf G 29, iv whole, rf G 31, rf G 32, jl all, xx, iv (whole - sumN (fun p => whole * σ 31 p / all) i), iv i, x8, x9] [] := by
    intro m
    induction m with
    | zero =>
      intro i x8 x9 hi ha
      have e : i = P := by omega
      subst e
      have hP0 : 0 < i := by
        rcases Nat.eq_zero_or_pos i with h | h
        · rw [h] at hA; have : all = 0 := hA.symm; omega
        · exact h
      have hsr := sumN_r (f := fun p => whole * σ 31 p / all) (a := 0) (b := 1000000) i (fun p hp => by have := quo_r hw.1 (hb p hp).1 ha (hall.2 p hp); show 0 ≤ whole * σ 31 p / all ∧ whole * σ 31 p / all ≤ 1000000; omega)
      refine r_iload dX6_part_33 rfl ?_
      refine r_aloadk_n dX6_part_35 rfl ?_
      refine r_getr dX6_part_36 fl_X6_32 rfl rfl (hs.lt rfl) (hs.rf rfl) ?_
      refine r_geti dX6_part_39 fl_X6_97 rfl rfl (hs.lt rfl) ?_
      refine r_icmpge (tgt := 92) dX6_part_42 rfl (by omega) (by show R32 (σ 19 1); omega) (fun h42 => ?_) (fun h42 => ?_)
      · refine r_iconst dX6_part_92 ?_
        refine r_istore dX6_part_93 (Nat.le_of_ble_eq_true rfl) rfl s7 ?_
        exact loop2 i 0 _ _ _ _ _ (by omega) hP0 (fun j => by have := hpq i (Nat.le_refl i) ha j; omega) (hpr i (Nat.le_refl i) ha) (by omega) (by omega) (by rw [← hF, if_neg (by omega)])
      · exact absurd h42 (by show ¬ (i : Int) < σ 19 1; omega)
    | succ m ih =>
      intro i x8 x9 hi ha
      have hbi := hb i (by omega)
      have hqi := quo_r hw.1 hbi.1 ha (hall.2 i (by omega))
      have hmul : 0 ≤ whole * σ 31 i ∧ whole * σ 31 i ≤ 1000000 * 200000 := ⟨Int.mul_nonneg hw.1 hbi.1, Int.mul_le_mul hw.2 hbi.2 hbi.1 (by omega)⟩
      refine r_iload dX6_part_33 rfl ?_
      refine r_aloadk_n dX6_part_35 rfl ?_
      refine r_getr dX6_part_36 fl_X6_32 rfl rfl (hs.lt rfl) (hs.rf rfl) ?_
      refine r_geti dX6_part_39 fl_X6_97 rfl rfl (hs.lt rfl) ?_
      refine r_icmpge (tgt := 92) dX6_part_42 rfl (by omega) (by show R32 (σ 19 1); omega) (fun h42 => ?_) (fun h42 => ?_)
      · exact absurd h42 (by show ¬ σ 19 1 ≤ (i : Int); omega)
      · refine r_iload_n dX6_part_45 rfl ?_
        refine r_i2l dX6_part_46 (by omega) ?_
        refine r_aloadk_n dX6_part_47 rfl ?_
        refine r_iload dX6_part_48 rfl ?_
        refine r_iald dX6_part_50 rfl (hs.lt rfl) rfl (by omega) ?_
        rw [show sr (sr σ 32 (pqI whole all (σ 31) (σ 32) i)) 34 (prI whole all (σ 31) (σ 34) i) 31 = σ 31 from rfl]
        refine r_i2l dX6_part_51 (by omega) ?_
        refine r_lmul dX6_part_52 ?_
        refine r_lstore dX6_part_53 (Nat.le_of_ble_eq_true rfl) rfl w8 ?_
        refine r_aloadk_n dX6_part_55 rfl ?_
        refine r_iload dX6_part_56 rfl ?_
        refine r_lload dX6_part_58 rfl ?_
        refine r_lload dX6_part_60 rfl ?_
        refine r_ldiv dX6_part_62 (by omega) (by omega) ?_
        refine r_l2i dX6_part_63 (by omega) ?_
        refine r_iast dX6_part_64 rfl (hs.lt rfl) rfl (by omega) ?_
        rw [sr_comm (by omega), up_sr, sr_comm (by omega), pq_ud]
        refine r_aloadk_n dX6_part_65 rfl ?_
        refine r_getr dX6_part_66 fl_X6_24 rfl rfl (hs.lt rfl) (hs.rf rfl) ?_
        refine r_iload dX6_part_69 rfl ?_
        refine r_lload dX6_part_71 rfl ?_
        refine r_lload dX6_part_73 rfl ?_
        refine r_lrem dX6_part_75 (by omega) (by omega) ?_
        refine r_last dX6_part_76 rfl (hs.lt rfl) rfl (by omega) ?_
        rw [up_sr, pr_ud]
        refine r_iload dX6_part_77 rfl ?_
        refine r_aloadk_n dX6_part_79 rfl ?_
        refine r_iload dX6_part_80 rfl ?_
        refine r_iald dX6_part_82 rfl (hs.lt rfl) rfl (by omega) ?_
        rw [show sr (sr σ 32 (pqI whole all (σ 31) (σ 32) (i + 1))) 34 (prI whole all (σ 31) (σ 34) (i + 1)) 32 i = whole * σ 31 i / all from if_pos (by omega)]
        refine r_isub dX6_part_83 ?_
        refine r_istore dX6_part_84 (Nat.le_of_ble_eq_true rfl) rfl s6 ?_
        refine r_iinc dX6_part_86 (Nat.le_of_ble_eq_true rfl) rfl rfl s7 ?_
        refine r_goto (tgt := 33) dX6_part_89 rfl ?_
        have h := ih (i + 1) (jl (whole * σ 31 i)) xx (by omega) ha
        rw [show whole - sumN (fun p => whole * σ 31 p / all) (i + 1) = whole - sumN (fun p => whole * σ 31 p / all) i - whole * σ 31 i / all by show whole - (sumN (fun p => whole * σ 31 p / all) i + whole * σ 31 i / all) = _; omega] at h
        exact h
  have e0 : sr σ 32 (w00 (σ 32)) = sr (sr σ 32 (pqI whole all (σ 31) (σ 32) 0)) 34 (prI whole all (σ 31) (σ 34) 0) := by
    have e1 : pqI whole all (σ 31) (σ 32) 0 = w00 (σ 32) := by funext p; unfold pqI; rw [if_neg (by omega)]
    have e2 : prI whole all (σ 31) (σ 34) 0 = sr σ 32 (w00 (σ 32)) 34 := by funext p; unfold prI; rw [if_neg (by omega)]; rfl
    rw [e1, e2, sr_self]
  refine Ct.of (L0 := [rf G 29, iv whole, rf G 31, rf G 32, xx, xx, xx, xx, xx, xx]) (by decide +kernel) (Nat.le_of_ble_eq_true rfl) rfl ?_
  refine r_aloadk_n dX6_part_0 rfl ?_
  refine r_iconst dX6_part_1 ?_
  refine q_callSv dX6_part_2 (c_fill 32 8 (hs.lt rfl) rfl 0) ml_X6_71 okJ7_fill_53178 rfl rfl (Nat.le_of_ble_eq_true rfl) (roomOK.of (by decide)) ⟨(Nat.le_of_ble_eq_true rfl), (Nat.le_of_ble_eq_true rfl)⟩ (fun σ' hq1 => ?_)
  subst hq1
  rw [filR_sr]
  change RW _ _ (sr σ 32 (w00 (σ 32))) _ _ _
  refine r_aloadk_n dX6_part_5 rfl ?_
  refine r_aloadk_n dX6_part_6 rfl ?_
  refine r_getr dX6_part_7 fl_X6_32 rfl rfl (hs.lt rfl) (hs.rf rfl) ?_
  refine r_geti dX6_part_10 fl_X6_97 rfl rfl (hs.lt rfl) ?_
  rw [show sr σ 32 (w00 (σ 32)) 19 1 = (P : Int) from hP]
  refine q_callSr dX6_part_13 (c_total 31 8 (hs.lt rfl) rfl P hP8) ml_X6_103 okX6_total rfl rfl (Nat.le_of_ble_eq_true rfl) (roomOK.of (by decide)) ⟨(Nat.le_of_ble_eq_true rfl), (Nat.le_of_ble_eq_true rfl)⟩ ?_
  rw [show sumN (sr σ 32 (w00 (σ 32)) 31) P = all from hA]
  refine r_i2l dX6_part_16 (by omega) ?_
  refine r_lstore dX6_part_17 (Nat.le_of_ble_eq_true rfl) rfl w4 ?_
  refine r_lload dX6_part_19 rfl ?_
  refine r_lconst0 dX6_part_21 ?_
  refine r_lcmp dX6_part_22 (by omega) (by omega) ?_
  refine r_ifgt (tgt := 27) dX6_part_23 rfl (by split <;> (try split) <;> omega) (fun h23 => ?_) (fun h23 => ?_)
  · refine r_iload_n dX6_part_27 rfl ?_
    refine r_istore dX6_part_28 (Nat.le_of_ble_eq_true rfl) rfl s6 ?_
    refine r_iconst dX6_part_30 ?_
    refine r_istore dX6_part_31 (Nat.le_of_ble_eq_true rfl) rfl s7 ?_
    rw [e0]
    have h := loop1 P 0 xx xx (by omega) (by split at h23 <;> (try split at h23) <;> omega)
    rw [show whole - sumN (fun p => whole * σ 31 p / all) 0 = whole by show whole - 0 = whole; omega] at h
    exact h
  · exact r_vret dX6_part_26 rfl ⟨rfl, σ 34, hrest, by
  have h0 : all ≤ 0 := by split at h23 <;> omega
  rw [← hF, if_pos h0]
  exact (sr_self (σ := sr σ 32 (w00 (σ 32))) (k := 34)).symm⟩
end Part
