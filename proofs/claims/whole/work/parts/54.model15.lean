/-! MODEL: farOf, hedgeOf, plot, fine, count -/
def abI (z : Int) : Int := if z < 0 then -z else z
theorem gap_le {a f m x : Int} (h1 : f ≤ x) (h2 : x < f + m) : gapS a f m ≤ abI (x - a) := by
  unfold gapS abI
  split <;> split <;> omega
theorem gap_at {a f m : Nat} (hm : 1 ≤ m) : ∃ x : Nat, f ≤ x ∧ x < f + m ∧ (x ≤ a ∨ x ≤ f) ∧ abI ((x : Int) - a) = gapS a f m := by
  unfold gapS abI
  by_cases h : a < f
  · exact ⟨f, by omega, by omega, by omega, by rw [if_neg (by omega), if_pos (by omega)]⟩
  · by_cases h2 : a < f + m
    · exact ⟨a, by omega, by omega, by omega, by rw [if_neg (by omega), if_neg (by omega)]; omega⟩
    · exact ⟨f + m - 1, by omega, by omega, by omega, by rw [if_pos (by omega), if_neg (by omega)]; omega⟩
theorem near_le {W home s c : Nat} (h : inS W s c) : stepsS W home s ≤ abI ((c % W : Nat) - (home % W : Nat)) + abI ((c / W : Nat) - (home / W : Nat)) := by
  obtain ⟨h1, h2, h3, h4⟩ := h
  have e1 := gap_le (a := (home % W : Nat)) (f := (s / 256 % W : Nat)) (m := (s / 16 % 16 : Nat)) (x := (c % W : Nat)) (by omega) (by omega)
  have e2 := gap_le (a := (home / W : Nat)) (f := (s / 256 / W : Nat)) (m := (s % 16 : Nat)) (x := (c / W : Nat)) (by omega) (by omega)
  unfold stepsS
  omega
theorem near_at {W H home s : Nat} (hW : 0 < W) (hh : home < W * H) (hs : s / 256 < W * H) (hw : 1 ≤ s / 16 % 16) (hv : 1 ≤ s % 16) : ∃ c, c < W * H ∧ inS W s c ∧ abI ((c % W : Nat) - (home % W : Nat)) + abI ((c / W : Nat) - (home / W : Nat)) = stepsS W home s := by
  obtain ⟨x, x1, x2, x3, x4⟩ := gap_at (a := home % W) (f := s / 256 % W) (m := s / 16 % 16) hw
  obtain ⟨y, y1, y2, y3, y4⟩ := gap_at (a := home / W) (f := s / 256 / W) (m := s % 16) hv
  have m1 := Nat.mod_lt home hW
  have m2 := Nat.mod_lt (s / 256) hW
  have d1 : home / W < H := Nat.div_lt_of_lt_mul hh
  have d2 : s / 256 / W < H := Nat.div_lt_of_lt_mul hs
  have hx : x < W := by omega
  have hy : y < H := by omega
  have e1 : (W * y + x) % W = x := by rw [Nat.mul_add_mod, Nat.mod_eq_of_lt hx]
  have e2 : (W * y + x) / W = y := by rw [Nat.mul_add_div hW, Nat.div_eq_of_lt hx, Nat.add_zero]
  have hlt : W * y + x < W * H := by
    have : W * (y + 1) ≤ W * H := Nat.mul_le_mul_left W hy
    rw [Nat.mul_add, Nat.mul_one] at this
    omega
  refine ⟨W * y + x, hlt, ?_, ?_⟩
  · show s / 256 % W ≤ (W * y + x) % W ∧ (W * y + x) % W < s / 256 % W + s / 16 % 16 ∧ s / 256 / W ≤ (W * y + x) / W ∧ (W * y + x) / W < s / 256 / W + s % 16
    rw [e1, e2]
    exact ⟨x1, x2, y1, y2⟩
  · rw [e1, e2, x4, y4]
    rfl
section Model15
variable {l : Launch} {G : GG} {n : Nat} {ρ : Rho} {σ : Si} {W H P C O : Nat}
set_option maxHeartbeats 8000000 in
theorem m_farOf (hs : Std n ρ) (hR : Rg σ) (g : GeoM σ W H) (hpl : PlM σ W H P) (hP8 : P ≤ 8) (p s h : Nat) (hp : p < P) (h0 : ¬ σ 55 p = 0) (hsh : shM σ p = s) (hh : σ 46 p = h) (hhl : h < W * H) : RdI l G 2 mX9_farOf n ρ σ [rf G 38, iv p] (stepsS W h s) := by
  have hle := WH_le g.2.2.1.2 g.2.2.2.2
  have hW : 0 < W := by have := g.2.2.1; omega
  obtain ⟨g1, g2, g3, g4⟩ := id g
  obtain ⟨a, w, v, ea, ew, ev, ha, hw, hv, hsh', q1, q2, q3⟩ := hpl.get hp hle h0
  have es : 256 * a + 16 * w + v = s := by rw [hsh] at hsh'; omega
  rw [es] at q1 q2 q3
  obtain ⟨c0, hc0, hin0, hst0⟩ := near_at (W := W) (H := H) (home := h) (s := s) hW hhl (by omega) (by omega) (by omega)
  have hle2 := fun c hin => near_le (W := W) (home := h) (s := s) (c := c) hin
  have m1 := Nat.mod_lt h hW
  have d1 : h / W < H := Nat.div_lt_of_lt_mul hhl
  have m2 := Nat.mod_lt c0 hW
  have d2 : c0 / W < H := Nat.div_lt_of_lt_mul hc0
  have hstr : 0 ≤ stepsS W h s ∧ stepsS W h s ≤ 100 := by
    rw [← hst0]
    have n1 := Int.natCast_nonneg (c0 / W)
    have n2 := Int.natCast_nonneg (h / W)
    unfold abI
    split <;> split <;> omega
  generalize stepsS W h s = st at hst0 hle2 hstr ⊢
  generalize hhx : h % W = hx at m1 hst0 hle2
  generalize hhy : h / W = hy at d1 hst0 hle2
  have loop : ∀ (m i : Nat) (best : Int) (x4 x5 x6 : Value), i + m = W * H → st ≤ best ∧ best ≤ 10000 → (c0 < i → best = st) → isJ x4 = false → isJ x5 = false → RW (KI l G 2 mX9_farOf n ρ (fun σ' z => σ' = σ ∧ z = st)) (0, 0, n, ρ) σ 6 [rf G 38, iv p, iv best, iv i, x4, x5, x6] [] := by
    intro m
    induction m with
    | zero =>
      intro i best x4 x5 x6 hi hb hbc hx4 hx5
      have e : i = W * H := by omega
      refine r_iload_n dX9_farOf_6 rfl ?_
      refine r_aloadk_n dX9_farOf_7 rfl ?_
      refine q_callVr dX9_farOf_8 (m_cells hs g) ml_X9_148 okX9_cells rfl rfl (hs.lt rfl) rfl rfl (Nat.le_of_ble_eq_true rfl) (roomOK.of (by decide)) ⟨(Nat.le_of_ble_eq_true rfl), (Nat.le_of_ble_eq_true rfl)⟩ ?_
      refine r_icmpge (tgt := 111) dX9_farOf_11 rfl (by omega) (by omega) (fun h11 => ?_) (fun h11 => ?_)
      · refine r_iload_n dX9_farOf_111 rfl ?_
        exact r_ireti dX9_farOf_112 rfl ⟨_, rfl, rfl, hbc (by omega)⟩
      · omega
    | succ m ih =>
      intro i best x4 x5 x6 hi hb hbc hx4 hx5
      have mi := Nat.mod_lt i hW
      have di : i / W < H := Nat.div_lt_of_lt_mul (show i < W * H by omega)
      have fin : inS W s i → ∀ (z : Int) (x4 x5 x6 : Value), isJ x4 = false → isJ x5 = false → z = (if abI ((i % W : Nat) - (hx : Nat)) + abI ((i / W : Nat) - (hy : Nat)) < best then abI ((i % W : Nat) - (hx : Nat)) + abI ((i / W : Nat) - (hy : Nat)) else best) → RW (KI l G 2 mX9_farOf n ρ (fun σ' z => σ' = σ ∧ z = st)) (0, 0, n, ρ) σ 6 [rf G 38, iv p, iv z, iv (i + 1 : Nat), x4, x5, x6] [] := by
        intro hin z x4 x5 x6 hx4 hx5 hz
        have h1 := hle2 i hin
        refine ih (i + 1) z x4 x5 x6 (by omega) ?_ (fun q => ?_) hx4 hx5
        · rw [hz]; split <;> omega
        · by_cases e : c0 = i
          · rw [e] at hst0
            rw [hz]; split <;> omega
          · have := hbc (by omega)
            rw [hz]; split <;> omega
      generalize hix : i % W = ix at mi fin
      generalize hiy : i / W = iy at di fin
      have L92 : inS W s i → ∀ (z : Int) (x4 x5 x6 : Value), isJ x4 = false → isJ x5 = false → z = abI ((ix : Nat) - (hx : Nat)) + abI ((iy : Nat) - (hy : Nat)) → RW (KI l G 2 mX9_farOf n ρ (fun σ' z => σ' = σ ∧ z = st)) (0, 0, n, ρ) σ 90 [rf G 38, iv p, iv best, iv i, x4, x5, x6] [iv z] := by
        intro hin z x4 x5 x6 hx4 hx5 hz
        have hzr : 0 ≤ z ∧ z ≤ 100 := by rw [hz]; unfold abI; split <;> split <;> omega
        refine r_istore dX9_farOf_90 (Nat.le_of_ble_eq_true rfl) (by show (!(isJ x5)) = true; rw [hx5]; rfl) s6 ?_
        refine r_iload dX9_farOf_92 rfl ?_
        refine r_iload_n dX9_farOf_94 rfl ?_
        refine r_icmpge (tgt := 103) dX9_farOf_95 rfl (by omega) (by omega) (fun h95 => ?_) (fun h95 => ?_)
        · refine r_iload_n dX9_farOf_103 rfl ?_
          refine r_istore_n dX9_farOf_104 (Nat.le_of_ble_eq_true rfl) rfl s2 ?_
          refine r_iinc dX9_farOf_105 (Nat.le_of_ble_eq_true rfl) rfl rfl s3 ?_
          refine r_goto (tgt := 6) dX9_farOf_108 rfl ?_
          refine fin hin _ _ _ _ hx4 hx5 ?_
          rw [← hz]
          split <;> omega
        · refine r_iload dX9_farOf_98 rfl ?_
          refine r_goto (tgt := 104) dX9_farOf_100 rfl ?_
          refine r_istore_n dX9_farOf_104 (Nat.le_of_ble_eq_true rfl) rfl s2 ?_
          refine r_iinc dX9_farOf_105 (Nat.le_of_ble_eq_true rfl) rfl rfl s3 ?_
          refine r_goto (tgt := 6) dX9_farOf_108 rfl ?_
          refine fin hin _ _ _ _ hx4 hx5 ?_
          rw [← hz]
          split <;> omega
      refine r_iload_n dX9_farOf_6 rfl ?_
      refine r_aloadk_n dX9_farOf_7 rfl ?_
      refine q_callVr dX9_farOf_8 (m_cells hs g) ml_X9_148 okX9_cells rfl rfl (hs.lt rfl) rfl rfl (Nat.le_of_ble_eq_true rfl) (roomOK.of (by decide)) ⟨(Nat.le_of_ble_eq_true rfl), (Nat.le_of_ble_eq_true rfl)⟩ ?_
      refine r_icmpge (tgt := 111) dX9_farOf_11 rfl (by omega) (by omega) (fun h11 => ?_) (fun h11 => ?_)
      · omega
      · refine r_aloadk_n dX9_farOf_14 rfl ?_
        refine r_iload_n dX9_farOf_15 rfl ?_
        refine r_iload_n dX9_farOf_16 rfl ?_
        refine q_callVr dX9_farOf_17 (m_isIn hs hR g hpl hP8 p i hp (by omega)) ml_X9_250 okX9_isIn rfl rfl (hs.lt rfl) rfl rfl (Nat.le_of_ble_eq_true rfl) (roomOK.of (by decide)) ⟨(Nat.le_of_ble_eq_true rfl), (Nat.le_of_ble_eq_true rfl)⟩ ?_
        refine r_ifeqb (tgt := 105) dX9_farOf_20 rfl (fun h20 => ?_) (fun h20 => ?_)
        · have hin : ¬ inS W s i := fun q => h20 ((aheadM hsh).mpr q)
          refine r_iinc dX9_farOf_105 (Nat.le_of_ble_eq_true rfl) rfl rfl s3 ?_
          refine r_goto (tgt := 6) dX9_farOf_108 rfl ?_
          refine ih (i + 1) best _ _ _ (by omega) hb (fun q => ?_) hx4 hx5
          by_cases e : c0 = i
          · rw [e] at hin0; exact absurd hin0 hin
          · exact hbc (by omega)
        · have hin : inS W s i := (aheadM hsh).mp h20
          refine r_iload_n dX9_farOf_23 rfl ?_
          refine r_aloadk_n dX9_farOf_24 rfl ?_
          refine r_geti dX9_farOf_25 fl_X9_7 rfl rfl (hs.lt rfl) ?_
          refine r_irem dX9_farOf_28 (by omega) (by omega) ?_
          rw [show iv ((i : Int) % σ 38 1) = iv (ix : Int) by rw [g1, ← hix]; rfl]
          refine r_aloadk_n dX9_farOf_29 rfl ?_
          refine r_getr dX9_farOf_30 fl_X9_39 rfl rfl (hs.lt rfl) (hs.rf rfl) ?_
          refine r_iload_n dX9_farOf_33 rfl ?_
          refine r_iald dX9_farOf_34 rfl (hs.lt rfl) rfl (by omega) ?_
          refine r_aloadk_n dX9_farOf_35 rfl ?_
          refine r_geti dX9_farOf_36 fl_X9_7 rfl rfl (hs.lt rfl) ?_
          refine r_irem dX9_farOf_39 (by omega) (by omega) ?_
          rw [show iv (σ 46 p % σ 38 1) = iv (hx : Int) by rw [g1, hh, ← hhx]; rfl]
          refine r_isub dX9_farOf_40 ?_
          refine r_istore dX9_farOf_41 (Nat.le_of_ble_eq_true rfl) rfl s4 ?_
          refine r_iload_n dX9_farOf_43 rfl ?_
          refine r_aloadk_n dX9_farOf_44 rfl ?_
          refine r_geti dX9_farOf_45 fl_X9_7 rfl rfl (hs.lt rfl) ?_
          refine r_idiv dX9_farOf_48 (by omega) (by omega) ?_
          rw [show iv ((i : Int) / σ 38 1) = iv (iy : Int) by rw [g1, ← hiy]; rfl]
          refine r_aloadk_n dX9_farOf_49 rfl ?_
          refine r_getr dX9_farOf_50 fl_X9_39 rfl rfl (hs.lt rfl) (hs.rf rfl) ?_
          refine r_iload_n dX9_farOf_53 rfl ?_
          refine r_iald dX9_farOf_54 rfl (hs.lt rfl) rfl (by omega) ?_
          refine r_aloadk_n dX9_farOf_55 rfl ?_
          refine r_geti dX9_farOf_56 fl_X9_7 rfl rfl (hs.lt rfl) ?_
          refine r_idiv dX9_farOf_59 (by omega) (by omega) ?_
          rw [show iv (σ 46 p / σ 38 1) = iv (hy : Int) by rw [g1, hh, ← hhy]; rfl]
          refine r_isub dX9_farOf_60 ?_
          refine r_istore dX9_farOf_61 (Nat.le_of_ble_eq_true rfl) rfl s5 ?_
          refine r_iload dX9_farOf_63 rfl ?_
          refine r_ifge (tgt := 74) dX9_farOf_65 rfl (by omega) (fun h65 => ?_) (fun h65 => ?_)
          · refine r_iload dX9_farOf_74 rfl ?_
            refine r_iload dX9_farOf_76 rfl ?_
            refine r_ifge (tgt := 87) dX9_farOf_78 rfl (by omega) (fun h78 => ?_) (fun h78 => ?_)
            · refine r_iload dX9_farOf_87 rfl ?_
              refine r_iadd dX9_farOf_89 ?_
              refine L92 hin _ _ _ _ rfl rfl ?_
              unfold abI
              (repeat' split) <;> omega
            · refine r_iload dX9_farOf_81 rfl ?_
              refine r_ineg dX9_farOf_83 ?_
              refine r_goto (tgt := 89) dX9_farOf_84 rfl ?_
              refine r_iadd dX9_farOf_89 ?_
              refine L92 hin _ _ _ _ rfl rfl ?_
              unfold abI
              (repeat' split) <;> omega
          · refine r_iload dX9_farOf_68 rfl ?_
            refine r_ineg dX9_farOf_70 ?_
            refine r_goto (tgt := 76) dX9_farOf_71 rfl ?_
            refine r_iload dX9_farOf_76 rfl ?_
            refine r_ifge (tgt := 87) dX9_farOf_78 rfl (by omega) (fun h78 => ?_) (fun h78 => ?_)
            · refine r_iload dX9_farOf_87 rfl ?_
              refine r_iadd dX9_farOf_89 ?_
              refine L92 hin _ _ _ _ rfl rfl ?_
              unfold abI
              (repeat' split) <;> omega
            · refine r_iload dX9_farOf_81 rfl ?_
              refine r_ineg dX9_farOf_83 ?_
              refine r_goto (tgt := 89) dX9_farOf_84 rfl ?_
              refine r_iadd dX9_farOf_89 ?_
              refine L92 hin _ _ _ _ rfl rfl ?_
              unfold abI
              (repeat' split) <;> omega
  refine Ct.of (L0 := [rf G 38, iv p, xx, xx, xx, xx, xx]) (by decide +kernel) (Nat.le_of_ble_eq_true rfl) rfl ?_
  refine r_sipush dX9_farOf_0 ?_
  refine r_istore_n dX9_farOf_3 (Nat.le_of_ble_eq_true rfl) rfl s2 ?_
  refine r_iconst dX9_farOf_4 ?_
  refine r_istore_n dX9_farOf_5 (Nat.le_of_ble_eq_true rfl) rfl s3 ?_
  exact loop (W * H) 0 _ _ _ _ (by omega) (by omega) (fun q => by omega) rfl rfl
set_option maxHeartbeats 8000000 in
theorem m_hedgeOf (hs : Std n ρ) (hR : Rg σ) (g : GeoM σ W H) (hpl : PlM σ W H P) (hP8 : P ≤ 8) (p s : Nat) (hp : p < P) (hsh : shM σ p = s) : RdI l G 3 mX9_hedgeOf n ρ σ [rf G 38, iv p] (sumN (hedC W H (shM σ) s p) (W * H)) := by
  have hle := WH_le g.2.2.1.2 g.2.2.2.2
  have hW : 0 < W := by have := g.2.2.1; omega
  have loop : ∀ (m i : Nat) (z0 : Int) (x4 x5 : Value), i + m = W * H → z0 = sumN (hedC W H (shM σ) s p) i → isJ x4 = false → isJ x5 = false → RW (KI l G 3 mX9_hedgeOf n ρ (fun σ' z => σ' = σ ∧ z = sumN (hedC W H (shM σ) s p) (W * H))) (0, 0, n, ρ) σ 4 [rf G 38, iv p, iv z0, iv i, x4, x5] [] := by
    intro m
    induction m with
    | zero =>
      intro i z0 x4 x5 hi hz hx4 hx5
      have e : i = W * H := by omega
      refine r_iload_n dX9_hedgeOf_4 rfl ?_
      refine r_aloadk_n dX9_hedgeOf_5 rfl ?_
      refine q_callVr dX9_hedgeOf_6 (m_cells hs g) ml_X9_148 okX9_cells rfl rfl (hs.lt rfl) rfl rfl (Nat.le_of_ble_eq_true rfl) (roomOK.of (by decide)) ⟨(Nat.le_of_ble_eq_true rfl), (Nat.le_of_ble_eq_true rfl)⟩ ?_
      refine r_icmpge (tgt := 94) dX9_hedgeOf_9 rfl (by omega) (by omega) (fun h9 => ?_) (fun h9 => ?_)
      · refine r_iload_n dX9_hedgeOf_94 rfl ?_
        exact r_ireti dX9_hedgeOf_95 rfl ⟨_, rfl, rfl, by rw [← e, hz]⟩
      · omega
    | succ m ih =>
      intro i z0 x4 x5 hi hz hx4 hx5
      have nxt : ∀ (z : Int) (x4 x5 : Value), isJ x4 = false → isJ x5 = false → z = z0 + hedC W H (shM σ) s p i → RW (KI l G 3 mX9_hedgeOf n ρ (fun σ' z => σ' = σ ∧ z = sumN (hedC W H (shM σ) s p) (W * H))) (0, 0, n, ρ) σ 4 [rf G 38, iv p, iv z, iv (i + 1 : Nat), x4, x5] [] := by
        intro z x4 x5 hx4 hx5 hzz
        refine ih (i + 1) z x4 x5 (by omega) ?_ hx4 hx5
        rw [hzz, hz]
        rfl
      by_cases hcn : inS W s i ∧ anyN (aheadF W (shM σ) i) p = false
      · have eC : hedC W H (shM σ) s p i = sumN (fun sd => hedF W H (shM σ) s p i (sdM sd)) 4 := by rw [sumN_sd]; unfold hedC; rw [if_pos hcn]
        have inner : ∀ (m2 j : Nat) (z1 : Int) (x5 : Value), j + m2 = 4 → isJ x5 = false → z1 = z0 + sumN (fun sd => hedF W H (shM σ) s p i (sdM sd)) j → RW (KI l G 3 mX9_hedgeOf n ρ (fun σ' z => σ' = σ ∧ z = sumN (hedC W H (shM σ) s p) (W * H))) (0, 0, n, ρ) σ 15 [rf G 38, iv p, iv z1, iv i, iv j, x5] [] := by
          intro m2
          induction m2 with
          | zero =>
            intro j z1 x5 hj hx5 hz1
            have e : j = 4 := by omega
            subst e
            refine r_iload dX9_hedgeOf_15 rfl ?_
            refine r_iconst dX9_hedgeOf_17 ?_
            refine r_icmpge (tgt := 88) dX9_hedgeOf_18 rfl (by first | exact hR _ (Nat.le_of_ble_eq_true rfl) _ | omega) (by first | exact hR _ (Nat.le_of_ble_eq_true rfl) _ | omega) (fun h18 => ?_) (fun h18 => ?_)
            · refine r_iinc dX9_hedgeOf_88 (Nat.le_of_ble_eq_true rfl) rfl rfl s3 ?_
              refine r_goto (tgt := 4) dX9_hedgeOf_91 rfl ?_
              exact nxt _ _ _ rfl hx5 (by rw [eC, hz1])
            · omega
          | succ m2 ih2 =>
            intro j z1 x5 hj hx5 hz1
            have hr := nb_r (show i < W * H by omega) hW (sdM j)
            have nx2 : ∀ (z : Int) (x5 : Value), isJ x5 = false → z = z1 + hedF W H (shM σ) s p i (sdM j) → RW (KI l G 3 mX9_hedgeOf n ρ (fun σ' z => σ' = σ ∧ z = sumN (hedC W H (shM σ) s p) (W * H))) (0, 0, n, ρ) σ 15 [rf G 38, iv p, iv z, iv i, iv (j + 1 : Nat), x5] [] := by
              intro z x5 hx5 hzz
              refine ih2 (j + 1) z x5 (by omega) hx5 ?_
              show _ = z0 + (sumN _ j + hedF W H (shM σ) s p i (sdM j))
              omega
            unfold hedF at nx2
            refine r_iload dX9_hedgeOf_15 rfl ?_
            refine r_iconst dX9_hedgeOf_17 ?_
            refine r_icmpge (tgt := 88) dX9_hedgeOf_18 rfl (by first | exact hR _ (Nat.le_of_ble_eq_true rfl) _ | omega) (by first | exact hR _ (Nat.le_of_ble_eq_true rfl) _ | omega) (fun h18 => ?_) (fun h18 => ?_)
            · omega
            · refine r_aloadk_n dX9_hedgeOf_21 rfl ?_
              refine r_iload_n dX9_hedgeOf_22 rfl ?_
              refine r_iload_n dX9_hedgeOf_23 rfl ?_
              refine q_callVr dX9_hedgeOf_24 (m_isIn hs hR g hpl hP8 p i hp (by omega)) ml_X9_250 okX9_isIn rfl rfl (hs.lt rfl) rfl rfl (Nat.le_of_ble_eq_true rfl) (roomOK.of (by decide)) ⟨(Nat.le_of_ble_eq_true rfl), (Nat.le_of_ble_eq_true rfl)⟩ ?_
              refine r_ifeqb (tgt := 88) dX9_hedgeOf_27 rfl (fun h27 => ?_) (fun h27 => ?_)
              · exact absurd ((aheadM hsh).mpr hcn.1) h27
              · refine r_aloadk_n dX9_hedgeOf_30 rfl ?_
                refine r_iload_n dX9_hedgeOf_31 rfl ?_
                refine r_iload_n dX9_hedgeOf_32 rfl ?_
                refine q_callVr dX9_hedgeOf_33 (m_isAhead hs hR g hpl hP8 p i hp (by omega)) ml_X9_253 okX9_isAhead rfl rfl (hs.lt rfl) rfl rfl (Nat.le_of_ble_eq_true rfl) (roomOK.of (by decide)) ⟨(Nat.le_of_ble_eq_true rfl), (Nat.le_of_ble_eq_true rfl)⟩ ?_
                refine r_ifneb (tgt := 88) dX9_hedgeOf_36 rfl (fun h36 => ?_) (fun h36 => ?_)
                · (rw [hcn.2] at h36; exact absurd h36 (by decide))
                · refine r_aloadk_n dX9_hedgeOf_39 rfl ?_
                  refine r_iload_n dX9_hedgeOf_40 rfl ?_
                  refine r_iload dX9_hedgeOf_41 rfl ?_
                  refine q_callVr dX9_hedgeOf_43 (m_beside hs g i j (by omega) (by omega)) ml_X9_172 okX9_beside rfl rfl (hs.lt rfl) rfl rfl (Nat.le_of_ble_eq_true rfl) (roomOK.of (by decide)) ⟨(Nat.le_of_ble_eq_true rfl), (Nat.le_of_ble_eq_true rfl)⟩ ?_
                  refine r_istore dX9_hedgeOf_46 (Nat.le_of_ble_eq_true rfl) rfl s5 ?_
                  refine r_iload_n dX9_hedgeOf_48 rfl ?_
                  refine r_iload dX9_hedgeOf_49 rfl ?_
                  refine r_iconst dX9_hedgeOf_51 ?_
                  refine r_icmpeq (tgt := 79) dX9_hedgeOf_52 rfl (by omega) (by omega) (fun h52 => ?_) (fun h52 => ?_)
                  · refine r_iconst dX9_hedgeOf_79 ?_
                    refine r_iadd dX9_hedgeOf_80 ?_
                    refine r_istore_n dX9_hedgeOf_81 (Nat.le_of_ble_eq_true rfl) rfl s2 ?_
                    refine r_iinc dX9_hedgeOf_82 (Nat.le_of_ble_eq_true rfl) rfl rfl s4 ?_
                    refine r_goto (tgt := 15) dX9_hedgeOf_85 rfl ?_
                    refine nx2 _ _ rfl ?_
                    congr 1
                    first
                    | (refine (bi_t ?_).symm
                       exact ⟨by omega, fun q => h62 ((aheadM hsh).mpr q), Bool.eq_false_iff.mpr h72⟩)
                    | (refine (bi_f (fun q => ?_)).symm
                       obtain ⟨z1, z2, z3⟩ := q
                       first | exact z1 h52 | exact z2 ((aheadM hsh).mp h62) | (rw [z3] at h72; exact absurd h72 (by decide)))
                  · obtain ⟨b, hb⟩ : ∃ b : Nat, nb W H i (sdM j) = b := ⟨(nb W H i (sdM j)).toNat, by omega⟩
                    rw [hb] at h52 hr nx2 ⊢
                    simp only [Int.toNat_natCast] at nx2
                    refine r_aloadk_n dX9_hedgeOf_55 rfl ?_
                    refine r_iload_n dX9_hedgeOf_56 rfl ?_
                    refine r_iload dX9_hedgeOf_57 rfl ?_
                    refine q_callVr dX9_hedgeOf_59 (m_isIn hs hR g hpl hP8 p b hp (by omega)) ml_X9_250 okX9_isIn rfl rfl (hs.lt rfl) rfl rfl (Nat.le_of_ble_eq_true rfl) (roomOK.of (by decide)) ⟨(Nat.le_of_ble_eq_true rfl), (Nat.le_of_ble_eq_true rfl)⟩ ?_
                    refine r_ifneb (tgt := 79) dX9_hedgeOf_62 rfl (fun h62 => ?_) (fun h62 => ?_)
                    · refine r_iconst dX9_hedgeOf_79 ?_
                      refine r_iadd dX9_hedgeOf_80 ?_
                      refine r_istore_n dX9_hedgeOf_81 (Nat.le_of_ble_eq_true rfl) rfl s2 ?_
                      refine r_iinc dX9_hedgeOf_82 (Nat.le_of_ble_eq_true rfl) rfl rfl s4 ?_
                      refine r_goto (tgt := 15) dX9_hedgeOf_85 rfl ?_
                      refine nx2 _ _ rfl ?_
                      congr 1
                      first
                      | (refine (bi_t ?_).symm
                         exact ⟨by omega, fun q => h62 ((aheadM hsh).mpr q), Bool.eq_false_iff.mpr h72⟩)
                      | (refine (bi_f (fun q => ?_)).symm
                         obtain ⟨z1, z2, z3⟩ := q
                         first | exact z1 h52 | exact z2 ((aheadM hsh).mp h62) | (rw [z3] at h72; exact absurd h72 (by decide)))
                    · refine r_aloadk_n dX9_hedgeOf_65 rfl ?_
                      refine r_iload_n dX9_hedgeOf_66 rfl ?_
                      refine r_iload dX9_hedgeOf_67 rfl ?_
                      refine q_callVr dX9_hedgeOf_69 (m_isAhead hs hR g hpl hP8 p b hp (by omega)) ml_X9_253 okX9_isAhead rfl rfl (hs.lt rfl) rfl rfl (Nat.le_of_ble_eq_true rfl) (roomOK.of (by decide)) ⟨(Nat.le_of_ble_eq_true rfl), (Nat.le_of_ble_eq_true rfl)⟩ ?_
                      refine r_ifneb (tgt := 79) dX9_hedgeOf_72 rfl (fun h72 => ?_) (fun h72 => ?_)
                      · refine r_iconst dX9_hedgeOf_79 ?_
                        refine r_iadd dX9_hedgeOf_80 ?_
                        refine r_istore_n dX9_hedgeOf_81 (Nat.le_of_ble_eq_true rfl) rfl s2 ?_
                        refine r_iinc dX9_hedgeOf_82 (Nat.le_of_ble_eq_true rfl) rfl rfl s4 ?_
                        refine r_goto (tgt := 15) dX9_hedgeOf_85 rfl ?_
                        refine nx2 _ _ rfl ?_
                        congr 1
                        first
                        | (refine (bi_t ?_).symm
                           exact ⟨by omega, fun q => h62 ((aheadM hsh).mpr q), Bool.eq_false_iff.mpr h72⟩)
                        | (refine (bi_f (fun q => ?_)).symm
                           obtain ⟨z1, z2, z3⟩ := q
                           first | exact z1 h52 | exact z2 ((aheadM hsh).mp h62) | (rw [z3] at h72; exact absurd h72 (by decide)))
                      · refine r_iconst dX9_hedgeOf_75 ?_
                        refine r_goto (tgt := 80) dX9_hedgeOf_76 rfl ?_
                        refine r_iadd dX9_hedgeOf_80 ?_
                        refine r_istore_n dX9_hedgeOf_81 (Nat.le_of_ble_eq_true rfl) rfl s2 ?_
                        refine r_iinc dX9_hedgeOf_82 (Nat.le_of_ble_eq_true rfl) rfl rfl s4 ?_
                        refine r_goto (tgt := 15) dX9_hedgeOf_85 rfl ?_
                        refine nx2 _ _ rfl ?_
                        congr 1
                        first
                        | (refine (bi_t ?_).symm
                           exact ⟨by omega, fun q => h62 ((aheadM hsh).mpr q), Bool.eq_false_iff.mpr h72⟩)
                        | (refine (bi_f (fun q => ?_)).symm
                           obtain ⟨z1, z2, z3⟩ := q
                           first | exact z1 h52 | exact z2 ((aheadM hsh).mp h62) | (rw [z3] at h72; exact absurd h72 (by decide)))
        refine r_iload_n dX9_hedgeOf_4 rfl ?_
        refine r_aloadk_n dX9_hedgeOf_5 rfl ?_
        refine q_callVr dX9_hedgeOf_6 (m_cells hs g) ml_X9_148 okX9_cells rfl rfl (hs.lt rfl) rfl rfl (Nat.le_of_ble_eq_true rfl) (roomOK.of (by decide)) ⟨(Nat.le_of_ble_eq_true rfl), (Nat.le_of_ble_eq_true rfl)⟩ ?_
        refine r_icmpge (tgt := 94) dX9_hedgeOf_9 rfl (by omega) (by omega) (fun h9 => ?_) (fun h9 => ?_)
        · omega
        · refine r_iconst dX9_hedgeOf_12 ?_
          refine r_istore dX9_hedgeOf_13 (Nat.le_of_ble_eq_true rfl) rfl s4 ?_
          exact inner 4 0 _ _ (by omega) hx5 (by show _ = z0 + 0; omega)
      · have eC : hedC W H (shM σ) s p i = 0 := by unfold hedC; rw [if_neg hcn]
        refine r_iload_n dX9_hedgeOf_4 rfl ?_
        refine r_aloadk_n dX9_hedgeOf_5 rfl ?_
        refine q_callVr dX9_hedgeOf_6 (m_cells hs g) ml_X9_148 okX9_cells rfl rfl (hs.lt rfl) rfl rfl (Nat.le_of_ble_eq_true rfl) (roomOK.of (by decide)) ⟨(Nat.le_of_ble_eq_true rfl), (Nat.le_of_ble_eq_true rfl)⟩ ?_
        refine r_icmpge (tgt := 94) dX9_hedgeOf_9 rfl (by omega) (by omega) (fun h9 => ?_) (fun h9 => ?_)
        · omega
        · refine r_iconst dX9_hedgeOf_12 ?_
          refine r_istore dX9_hedgeOf_13 (Nat.le_of_ble_eq_true rfl) rfl s4 ?_
          refine r_iload dX9_hedgeOf_15 rfl ?_
          refine r_iconst dX9_hedgeOf_17 ?_
          refine r_icmpge (tgt := 88) dX9_hedgeOf_18 rfl (by first | exact hR _ (Nat.le_of_ble_eq_true rfl) _ | omega) (by first | exact hR _ (Nat.le_of_ble_eq_true rfl) _ | omega) (fun h18 => absurd h18 (by decide)) (fun h18 => ?_)
          refine r_aloadk_n dX9_hedgeOf_21 rfl ?_
          refine r_iload_n dX9_hedgeOf_22 rfl ?_
          refine r_iload_n dX9_hedgeOf_23 rfl ?_
          refine q_callVr dX9_hedgeOf_24 (m_isIn hs hR g hpl hP8 p i hp (by omega)) ml_X9_250 okX9_isIn rfl rfl (hs.lt rfl) rfl rfl (Nat.le_of_ble_eq_true rfl) (roomOK.of (by decide)) ⟨(Nat.le_of_ble_eq_true rfl), (Nat.le_of_ble_eq_true rfl)⟩ ?_
          refine r_ifeqb (tgt := 88) dX9_hedgeOf_27 rfl (fun h27 => ?_) (fun h27 => ?_)
          · refine r_iinc dX9_hedgeOf_88 (Nat.le_of_ble_eq_true rfl) rfl rfl s3 ?_
            refine r_goto (tgt := 4) dX9_hedgeOf_91 rfl ?_
            exact nxt _ _ _ rfl hx5 (by rw [eC]; omega)
          · refine r_aloadk_n dX9_hedgeOf_30 rfl ?_
            refine r_iload_n dX9_hedgeOf_31 rfl ?_
            refine r_iload_n dX9_hedgeOf_32 rfl ?_
            refine q_callVr dX9_hedgeOf_33 (m_isAhead hs hR g hpl hP8 p i hp (by omega)) ml_X9_253 okX9_isAhead rfl rfl (hs.lt rfl) rfl rfl (Nat.le_of_ble_eq_true rfl) (roomOK.of (by decide)) ⟨(Nat.le_of_ble_eq_true rfl), (Nat.le_of_ble_eq_true rfl)⟩ ?_
            refine r_ifneb (tgt := 88) dX9_hedgeOf_36 rfl (fun h36 => ?_) (fun h36 => ?_)
            · refine r_iinc dX9_hedgeOf_88 (Nat.le_of_ble_eq_true rfl) rfl rfl s3 ?_
              refine r_goto (tgt := 4) dX9_hedgeOf_91 rfl ?_
              exact nxt _ _ _ rfl hx5 (by rw [eC]; omega)
            · exact absurd ⟨(aheadM hsh).mp h27, Bool.eq_false_iff.mpr h36⟩ hcn
  refine Ct.of (L0 := [rf G 38, iv p, xx, xx, xx, xx]) (by decide +kernel) (Nat.le_of_ble_eq_true rfl) rfl ?_
  refine r_iconst dX9_hedgeOf_0 ?_
  refine r_istore_n dX9_hedgeOf_1 (Nat.le_of_ble_eq_true rfl) rfl s2 ?_
  refine r_iconst dX9_hedgeOf_2 ?_
  refine r_istore_n dX9_hedgeOf_3 (Nat.le_of_ble_eq_true rfl) rfl s3 ?_
  exact loop (W * H) 0 _ _ _ (by omega) rfl rfl rfl
theorem m_plot (hs : Std n ρ) (hJ : JM σ W H P C O) (x1 x2 : Int) (h1 : R32 x1) (h2 : R32 x2) : RdI l G 4 mX9_plot n ρ σ [rf G 38, iv x1, iv x2] (if (0 ≤ x1 ∧ x1 < (P : Int)) ∧ (0 ≤ x2 ∧ x2 ≤ 5) then (if shM σ x1.toNat = -1 then -1 else plotS W H (σ 39) (shM σ) (σ 46) (shM σ x1.toNat).toNat x1.toNat x2) else -3) := by
  obtain ⟨hR, t0, g, j3, j4, j5, j6, j7, j8, j9, j10, j11, j12⟩ := id hJ
  obtain ⟨c1, c2, c3, c4, c5, c6, c7, c8⟩ := id j6
  have hle := WH_le g.2.2.1.2 g.2.2.2.2
  refine Ct.of (L0 := [rf G 38, iv x1, iv x2]) (by decide +kernel) (Nat.le_of_ble_eq_true rfl) rfl ?_
  refine r_aloadk_n dX9_plot_0 rfl ?_
  refine r_iconst dX9_plot_1 ?_
  refine r_puti dX9_plot_2 fl_X9_133 rfl (hs.lt rfl) ?_
  rw [up_id t0]
  refine r_aloadk_n dX9_plot_5 rfl ?_
  refine r_iload_n dX9_plot_6 rfl ?_
  refine q_callVr dX9_plot_7 (m_isPerson hs c1 c2 x1 h1) ml_X9_182 okX9_isPerson rfl rfl (hs.lt rfl) rfl rfl (Nat.le_of_ble_eq_true rfl) (roomOK.of (by decide)) ⟨(Nat.le_of_ble_eq_true rfl), (Nat.le_of_ble_eq_true rfl)⟩ ?_
  refine r_ifeqb (tgt := 22) dX9_plot_10 rfl (fun h10 => ?_) (fun h10 => ?_)
  · refine r_bipush dX9_plot_22 ?_
    exact r_ireti dX9_plot_24 rfl ⟨_, rfl, rfl, by rw [if_neg (by omega)]⟩
  · refine r_iload_n dX9_plot_13 rfl ?_
    refine r_iconst dX9_plot_14 ?_
    refine r_iconst dX9_plot_15 ?_
    refine q_callSr dX9_plot_16 (c_in x2 0 5 h2 (by omega) (by omega)) ml_X9_152 okX9_in rfl rfl (Nat.le_of_ble_eq_true rfl) (roomOK.of (by decide)) ⟨(Nat.le_of_ble_eq_true rfl), (Nat.le_of_ble_eq_true rfl)⟩ ?_
    refine r_ifneb (tgt := 25) dX9_plot_19 rfl (fun h19 => ?_) (fun h19 => ?_)
    · obtain ⟨p, rfl⟩ : ∃ a : Nat, x1 = a := ⟨x1.toNat, by omega⟩
      have hp : p < P := by omega
      refine r_aloadk_n dX9_plot_25 rfl ?_
      refine r_getr dX9_plot_26 fl_X9_75 rfl rfl (hs.lt rfl) (hs.rf rfl) ?_
      refine r_iload_n dX9_plot_29 rfl ?_
      refine r_iald dX9_plot_30 rfl (hs.lt rfl) rfl (by omega) ?_
      refine r_ifne (tgt := 36) dX9_plot_31 rfl (by first | exact hR _ (Nat.le_of_ble_eq_true rfl) _ | omega) (fun h31 => ?_) (fun h31 => ?_)
      · obtain ⟨a, w, v, ea, ew, ev, ha, hw, hv, hsx, q1, q2, q3⟩ := PlM.get j10 hp hle h31
        obtain ⟨h, hh⟩ : ∃ h : Nat, σ 46 p = h := ⟨(σ 46 p).toNat, by have := j9 p hp; omega⟩
        have hhl := j9 p hp
        rw [if_pos ⟨h10, h19⟩, Int.toNat_natCast, hsx, if_neg (by omega), Int.toNat_natCast]
        unfold plotS
        rw [hh, Int.toNat_natCast, q1, q2, q3]
        refine r_iload_n dX9_plot_36 rfl ?_
        by_cases h37_0 : x2 = 0
        · refine r_tabAt (c := 0) (tgt := 72) dX9_plot_37 (by first | exact hR _ (Nat.le_of_ble_eq_true rfl) _ | omega) h37_0 (by decide) (by decide) rfl rfl ?_
          refine r_aloadk_n dX9_plot_72 rfl ?_
          refine r_getr dX9_plot_73 fl_X9_72 rfl rfl (hs.lt rfl) (hs.rf rfl) ?_
          refine r_iload_n dX9_plot_76 rfl ?_
          refine r_iald dX9_plot_77 rfl (hs.lt rfl) rfl (by omega) ?_
          exact r_ireti dX9_plot_78 rfl ⟨_, rfl, rfl, by rw [if_pos h37_0, ea]⟩
        by_cases h37_1 : x2 = 1
        · refine r_tabAt (c := 1) (tgt := 79) dX9_plot_37 (by first | exact hR _ (Nat.le_of_ble_eq_true rfl) _ | omega) h37_1 (by decide) (by decide) rfl rfl ?_
          refine r_aloadk_n dX9_plot_79 rfl ?_
          refine r_getr dX9_plot_80 fl_X9_75 rfl rfl (hs.lt rfl) (hs.rf rfl) ?_
          refine r_iload_n dX9_plot_83 rfl ?_
          refine r_iald dX9_plot_84 rfl (hs.lt rfl) rfl (by omega) ?_
          exact r_ireti dX9_plot_85 rfl ⟨_, rfl, rfl, by rw [if_neg h37_0, if_pos h37_1, ew]⟩
        by_cases h37_2 : x2 = 2
        · refine r_tabAt (c := 2) (tgt := 86) dX9_plot_37 (by first | exact hR _ (Nat.le_of_ble_eq_true rfl) _ | omega) h37_2 (by decide) (by decide) rfl rfl ?_
          refine r_aloadk_n dX9_plot_86 rfl ?_
          refine r_getr dX9_plot_87 fl_X9_78 rfl rfl (hs.lt rfl) (hs.rf rfl) ?_
          refine r_iload_n dX9_plot_90 rfl ?_
          refine r_iald dX9_plot_91 rfl (hs.lt rfl) rfl (by omega) ?_
          exact r_ireti dX9_plot_92 rfl ⟨_, rfl, rfl, by rw [if_neg h37_0, if_neg h37_1, if_pos h37_2, ev]⟩
        by_cases h37_3 : x2 = 3
        · refine r_tabAt (c := 3) (tgt := 93) dX9_plot_37 (by first | exact hR _ (Nat.le_of_ble_eq_true rfl) _ | omega) h37_3 (by decide) (by decide) rfl rfl ?_
          refine r_aloadk_n dX9_plot_93 rfl ?_
          refine r_iload_n dX9_plot_94 rfl ?_
          refine q_callVr dX9_plot_95 (m_worthOf hs hR g j10 c2 j3 p _ hp hsx) ml_X9_259 okX9_worthOf rfl rfl (hs.lt rfl) rfl rfl (Nat.le_of_ble_eq_true rfl) (roomOK.of (by decide)) ⟨(Nat.le_of_ble_eq_true rfl), (Nat.le_of_ble_eq_true rfl)⟩ ?_
          exact r_ireti dX9_plot_98 rfl ⟨_, rfl, rfl, by rw [if_neg h37_0, if_neg h37_1, if_neg h37_2, if_pos h37_3]⟩
        by_cases h37_4 : x2 = 4
        · refine r_tabAt (c := 4) (tgt := 99) dX9_plot_37 (by first | exact hR _ (Nat.le_of_ble_eq_true rfl) _ | omega) h37_4 (by decide) (by decide) rfl rfl ?_
          refine r_aloadk_n dX9_plot_99 rfl ?_
          refine r_iload_n dX9_plot_100 rfl ?_
          refine q_callVr dX9_plot_101 (m_farOf hs hR g j10 c2 p _ h hp h31 hsx hh (by omega)) ml_X9_265 okX9_farOf rfl rfl (hs.lt rfl) rfl rfl (Nat.le_of_ble_eq_true rfl) (roomOK.of (by decide)) ⟨(Nat.le_of_ble_eq_true rfl), (Nat.le_of_ble_eq_true rfl)⟩ ?_
          exact r_ireti dX9_plot_104 rfl ⟨_, rfl, rfl, by rw [if_neg h37_0, if_neg h37_1, if_neg h37_2, if_neg h37_3, if_pos h37_4]⟩
        refine r_tabOut (tgt := 105) dX9_plot_37 (by first | exact hR _ (Nat.le_of_ble_eq_true rfl) _ | omega) (by omega) rfl ?_
        refine r_aloadk_n dX9_plot_105 rfl ?_
        refine r_iload_n dX9_plot_106 rfl ?_
        refine q_callVr dX9_plot_107 (m_hedgeOf hs hR g j10 c2 p _ hp hsx) ml_X9_268 okX9_hedgeOf rfl rfl (hs.lt rfl) rfl rfl (Nat.le_of_ble_eq_true rfl) (roomOK.of (by decide)) ⟨(Nat.le_of_ble_eq_true rfl), (Nat.le_of_ble_eq_true rfl)⟩ ?_
        exact r_ireti dX9_plot_110 rfl ⟨_, rfl, rfl, by rw [if_neg h37_0, if_neg h37_1, if_neg h37_2, if_neg h37_3, if_neg h37_4]⟩
      · refine r_iconst dX9_plot_34 ?_
        exact r_ireti dX9_plot_35 rfl ⟨_, rfl, rfl, by rw [if_pos ⟨h10, h19⟩, Int.toNat_natCast, if_pos ((shM_0 j10 hp hle).mpr h31)]⟩
    · refine r_bipush dX9_plot_22 ?_
      exact r_ireti dX9_plot_24 rfl ⟨_, rfl, rfl, by rw [if_neg (by omega)]⟩
theorem m_fine (hs : Std n ρ) (hJ : JM σ W H P C O) (x1 x2 : Int) (h1 : R32 x1) (h2 : R32 x2) : RdI l G 4 mX9_fine n ρ σ [rf G 38, iv x1, iv x2] (if (0 ≤ x1 ∧ x1 < (P : Int)) ∧ (0 ≤ x2 ∧ x2 ≤ 999) then (if shM σ x1.toNat = -1 then 0 else sumN (hedC W H (shM σ) (shM σ x1.toNat).toNat x1.toNat) (W * H) * max 0 ((if σ 57 x1.toNat = -1 then x2 else min (σ 57 x1.toNat) x2) - σ 38 23)) else -3) := by
  obtain ⟨hR, t0, g, j3, j4, j5, j6, j7, j8, j9, j10, j11, j12⟩ := id hJ
  obtain ⟨c1, c2, c3, c4, c5, c6, c7, c8⟩ := id j6
  have hle := WH_le g.2.2.1.2 g.2.2.2.2
  refine Ct.of (L0 := [rf G 38, iv x1, iv x2, xx]) (by decide +kernel) (Nat.le_of_ble_eq_true rfl) rfl ?_
  refine r_aloadk_n dX9_fine_0 rfl ?_
  refine r_iconst dX9_fine_1 ?_
  refine r_puti dX9_fine_2 fl_X9_133 rfl (hs.lt rfl) ?_
  rw [up_id t0]
  refine r_aloadk_n dX9_fine_5 rfl ?_
  refine r_iload_n dX9_fine_6 rfl ?_
  refine q_callVr dX9_fine_7 (m_isPerson hs c1 c2 x1 h1) ml_X9_182 okX9_isPerson rfl rfl (hs.lt rfl) rfl rfl (Nat.le_of_ble_eq_true rfl) (roomOK.of (by decide)) ⟨(Nat.le_of_ble_eq_true rfl), (Nat.le_of_ble_eq_true rfl)⟩ ?_
  refine r_ifeqb (tgt := 20) dX9_fine_10 rfl (fun h10 => ?_) (fun h10 => ?_)
  · refine r_bipush dX9_fine_20 ?_
    exact r_ireti dX9_fine_22 rfl ⟨_, rfl, rfl, by rw [if_neg (by omega)]⟩
  · refine r_iload_n dX9_fine_13 rfl ?_
    refine q_callSr dX9_fine_14 (m_isDay x2 h2) ml_X9_185 okX9_isDay rfl rfl (Nat.le_of_ble_eq_true rfl) (roomOK.of (by decide)) ⟨(Nat.le_of_ble_eq_true rfl), (Nat.le_of_ble_eq_true rfl)⟩ ?_
    refine r_ifneb (tgt := 23) dX9_fine_17 rfl (fun h17 => ?_) (fun h17 => ?_)
    · obtain ⟨p, rfl⟩ : ∃ a : Nat, x1 = a := ⟨x1.toNat, by omega⟩
      have hp : p < P := by omega
      have hhd := j11 p hp
      refine r_aloadk_n dX9_fine_23 rfl ?_
      refine r_getr dX9_fine_24 fl_X9_75 rfl rfl (hs.lt rfl) (hs.rf rfl) ?_
      refine r_iload_n dX9_fine_27 rfl ?_
      refine r_iald dX9_fine_28 rfl (hs.lt rfl) rfl (by omega) ?_
      refine r_ifne (tgt := 34) dX9_fine_29 rfl (by first | exact hR _ (Nat.le_of_ble_eq_true rfl) _ | omega) (fun h29 => ?_) (fun h29 => ?_)
      · obtain ⟨a, w, v, ea, ew, ev, ha, hw, hv, hsx, q1, q2, q3⟩ := PlM.get j10 hp hle h29
        rw [if_pos ⟨h10, h17⟩, Int.toNat_natCast, hsx, if_neg (by omega), Int.toNat_natCast]
        refine r_aloadk_n dX9_fine_34 rfl ?_
        refine r_getr dX9_fine_35 fl_X9_81 rfl rfl (hs.lt rfl) (hs.rf rfl) ?_
        refine r_iload_n dX9_fine_38 rfl ?_
        refine r_iald dX9_fine_39 rfl (hs.lt rfl) rfl (by omega) ?_
        refine r_iconst dX9_fine_40 ?_
        refine r_icmpeq (tgt := 54) dX9_fine_41 rfl (by first | exact hR _ (Nat.le_of_ble_eq_true rfl) _ | omega) (by first | exact hR _ (Nat.le_of_ble_eq_true rfl) _ | omega) (fun h41 => ?_) (fun h41 => ?_)
        · refine r_iload_n dX9_fine_54 rfl ?_
          refine r_goto (tgt := 64) dX9_fine_55 rfl ?_
          refine r_istore_n dX9_fine_64 (Nat.le_of_ble_eq_true rfl) rfl s3 ?_
          refine r_iload_n dX9_fine_65 rfl ?_
          refine r_aloadk_n dX9_fine_66 rfl ?_
          refine r_geti dX9_fine_67 fl_X9_66 rfl rfl (hs.lt rfl) ?_
          refine r_icmple (tgt := 88) dX9_fine_70 rfl (by omega) (by omega) (fun h70 => ?_) (fun h70 => ?_)
          · refine r_iconst dX9_fine_88 ?_
            exact r_ireti dX9_fine_89 rfl ⟨_, rfl, rfl, by
  have key : ∀ x y : Int, x = y → sumN (hedC W H (shM σ) (256 * a + 16 * w + v) p) (W * H) * x = sumN (hedC W H (shM σ) (256 * a + 16 * w + v) p) (W * H) * y := fun x y e => by rw [e]
  first
  | exact key _ _ (by split <;> omega)
  | (rw [show max 0 ((if σ 57 p = -1 then x2 else min (σ 57 p) x2) - σ 38 23) = 0 by split <;> omega, Int.mul_zero])⟩
          · refine r_aloadk_n dX9_fine_73 rfl ?_
            refine r_iload_n dX9_fine_74 rfl ?_
            refine q_callVr dX9_fine_75 (m_hedgeOf hs hR g j10 c2 p _ hp hsx) ml_X9_268 okX9_hedgeOf rfl rfl (hs.lt rfl) rfl rfl (Nat.le_of_ble_eq_true rfl) (roomOK.of (by decide)) ⟨(Nat.le_of_ble_eq_true rfl), (Nat.le_of_ble_eq_true rfl)⟩ ?_
            refine r_iload_n dX9_fine_78 rfl ?_
            refine r_aloadk_n dX9_fine_79 rfl ?_
            refine r_geti dX9_fine_80 fl_X9_66 rfl rfl (hs.lt rfl) ?_
            refine r_isub dX9_fine_83 ?_
            refine r_imul dX9_fine_84 ?_
            refine r_goto (tgt := 89) dX9_fine_85 rfl ?_
            exact r_ireti dX9_fine_89 rfl ⟨_, rfl, rfl, by
  have key : ∀ x y : Int, x = y → sumN (hedC W H (shM σ) (256 * a + 16 * w + v) p) (W * H) * x = sumN (hedC W H (shM σ) (256 * a + 16 * w + v) p) (W * H) * y := fun x y e => by rw [e]
  first
  | exact key _ _ (by split <;> omega)
  | (rw [show max 0 ((if σ 57 p = -1 then x2 else min (σ 57 p) x2) - σ 38 23) = 0 by split <;> omega, Int.mul_zero])⟩
        · refine r_iload_n dX9_fine_44 rfl ?_
          refine r_aloadk_n dX9_fine_45 rfl ?_
          refine r_getr dX9_fine_46 fl_X9_81 rfl rfl (hs.lt rfl) (hs.rf rfl) ?_
          refine r_iload_n dX9_fine_49 rfl ?_
          refine r_iald dX9_fine_50 rfl (hs.lt rfl) rfl (by omega) ?_
          refine r_icmpge (tgt := 58) dX9_fine_51 rfl (by first | exact hR _ (Nat.le_of_ble_eq_true rfl) _ | omega) (by first | exact hR _ (Nat.le_of_ble_eq_true rfl) _ | omega) (fun h51 => ?_) (fun h51 => ?_)
          · refine r_aloadk_n dX9_fine_58 rfl ?_
            refine r_getr dX9_fine_59 fl_X9_81 rfl rfl (hs.lt rfl) (hs.rf rfl) ?_
            refine r_iload_n dX9_fine_62 rfl ?_
            refine r_iald dX9_fine_63 rfl (hs.lt rfl) rfl (by omega) ?_
            refine r_istore_n dX9_fine_64 (Nat.le_of_ble_eq_true rfl) rfl s3 ?_
            refine r_iload_n dX9_fine_65 rfl ?_
            refine r_aloadk_n dX9_fine_66 rfl ?_
            refine r_geti dX9_fine_67 fl_X9_66 rfl rfl (hs.lt rfl) ?_
            refine r_icmple (tgt := 88) dX9_fine_70 rfl (by omega) (by omega) (fun h70 => ?_) (fun h70 => ?_)
            · refine r_iconst dX9_fine_88 ?_
              exact r_ireti dX9_fine_89 rfl ⟨_, rfl, rfl, by
  have key : ∀ x y : Int, x = y → sumN (hedC W H (shM σ) (256 * a + 16 * w + v) p) (W * H) * x = sumN (hedC W H (shM σ) (256 * a + 16 * w + v) p) (W * H) * y := fun x y e => by rw [e]
  first
  | exact key _ _ (by split <;> omega)
  | (rw [show max 0 ((if σ 57 p = -1 then x2 else min (σ 57 p) x2) - σ 38 23) = 0 by split <;> omega, Int.mul_zero])⟩
            · refine r_aloadk_n dX9_fine_73 rfl ?_
              refine r_iload_n dX9_fine_74 rfl ?_
              refine q_callVr dX9_fine_75 (m_hedgeOf hs hR g j10 c2 p _ hp hsx) ml_X9_268 okX9_hedgeOf rfl rfl (hs.lt rfl) rfl rfl (Nat.le_of_ble_eq_true rfl) (roomOK.of (by decide)) ⟨(Nat.le_of_ble_eq_true rfl), (Nat.le_of_ble_eq_true rfl)⟩ ?_
              refine r_iload_n dX9_fine_78 rfl ?_
              refine r_aloadk_n dX9_fine_79 rfl ?_
              refine r_geti dX9_fine_80 fl_X9_66 rfl rfl (hs.lt rfl) ?_
              refine r_isub dX9_fine_83 ?_
              refine r_imul dX9_fine_84 ?_
              refine r_goto (tgt := 89) dX9_fine_85 rfl ?_
              exact r_ireti dX9_fine_89 rfl ⟨_, rfl, rfl, by
  have key : ∀ x y : Int, x = y → sumN (hedC W H (shM σ) (256 * a + 16 * w + v) p) (W * H) * x = sumN (hedC W H (shM σ) (256 * a + 16 * w + v) p) (W * H) * y := fun x y e => by rw [e]
  first
  | exact key _ _ (by split <;> omega)
  | (rw [show max 0 ((if σ 57 p = -1 then x2 else min (σ 57 p) x2) - σ 38 23) = 0 by split <;> omega, Int.mul_zero])⟩
          · refine r_iload_n dX9_fine_54 rfl ?_
            refine r_goto (tgt := 64) dX9_fine_55 rfl ?_
            refine r_istore_n dX9_fine_64 (Nat.le_of_ble_eq_true rfl) rfl s3 ?_
            refine r_iload_n dX9_fine_65 rfl ?_
            refine r_aloadk_n dX9_fine_66 rfl ?_
            refine r_geti dX9_fine_67 fl_X9_66 rfl rfl (hs.lt rfl) ?_
            refine r_icmple (tgt := 88) dX9_fine_70 rfl (by omega) (by omega) (fun h70 => ?_) (fun h70 => ?_)
            · refine r_iconst dX9_fine_88 ?_
              exact r_ireti dX9_fine_89 rfl ⟨_, rfl, rfl, by
  have key : ∀ x y : Int, x = y → sumN (hedC W H (shM σ) (256 * a + 16 * w + v) p) (W * H) * x = sumN (hedC W H (shM σ) (256 * a + 16 * w + v) p) (W * H) * y := fun x y e => by rw [e]
  first
  | exact key _ _ (by split <;> omega)
  | (rw [show max 0 ((if σ 57 p = -1 then x2 else min (σ 57 p) x2) - σ 38 23) = 0 by split <;> omega, Int.mul_zero])⟩
            · refine r_aloadk_n dX9_fine_73 rfl ?_
              refine r_iload_n dX9_fine_74 rfl ?_
              refine q_callVr dX9_fine_75 (m_hedgeOf hs hR g j10 c2 p _ hp hsx) ml_X9_268 okX9_hedgeOf rfl rfl (hs.lt rfl) rfl rfl (Nat.le_of_ble_eq_true rfl) (roomOK.of (by decide)) ⟨(Nat.le_of_ble_eq_true rfl), (Nat.le_of_ble_eq_true rfl)⟩ ?_
              refine r_iload_n dX9_fine_78 rfl ?_
              refine r_aloadk_n dX9_fine_79 rfl ?_
              refine r_geti dX9_fine_80 fl_X9_66 rfl rfl (hs.lt rfl) ?_
              refine r_isub dX9_fine_83 ?_
              refine r_imul dX9_fine_84 ?_
              refine r_goto (tgt := 89) dX9_fine_85 rfl ?_
              exact r_ireti dX9_fine_89 rfl ⟨_, rfl, rfl, by
  have key : ∀ x y : Int, x = y → sumN (hedC W H (shM σ) (256 * a + 16 * w + v) p) (W * H) * x = sumN (hedC W H (shM σ) (256 * a + 16 * w + v) p) (W * H) * y := fun x y e => by rw [e]
  first
  | exact key _ _ (by split <;> omega)
  | (rw [show max 0 ((if σ 57 p = -1 then x2 else min (σ 57 p) x2) - σ 38 23) = 0 by split <;> omega, Int.mul_zero])⟩
      · refine r_iconst dX9_fine_32 ?_
        exact r_ireti dX9_fine_33 rfl ⟨_, rfl, rfl, by rw [if_pos ⟨h10, h17⟩, Int.toNat_natCast, if_pos ((shM_0 j10 hp hle).mpr h29)]⟩
    · refine r_bipush dX9_fine_20 ?_
      exact r_ireti dX9_fine_22 rfl ⟨_, rfl, rfl, by rw [if_neg (by omega)]⟩
end Model15
