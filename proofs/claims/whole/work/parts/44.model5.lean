/-! MODEL: roads: the way back, road -/
theorem nb_lt {W H c s t : Nat} (hW : 0 < W) (hst : s < t) (ht : t < 4) (h1 : ¬ nb W H c s = -1) (h2 : ¬ nb W H c t = -1) : nb W H c s ≤ nb W H c t := by
  have e := Nat.div_add_mod c W
  have a0 : nb W H c 0 = -1 ∨ nb W H c 0 = (c : Int) - W := by rw [nb0]; split <;> omega
  have a1 : nb W H c 1 = -1 ∨ nb W H c 1 = (c : Int) - 1 := by rw [nb1]; split <;> omega
  have a2 : nb W H c 2 = -1 ∨ nb W H c 2 = (c : Int) + 1 := by rw [nb2]; split <;> omega
  have a3 : nb W H c 3 = -1 ∨ nb W H c 3 = (c : Int) + W := by rw [nb3]; split <;> omega
  rcases (show s = 0 ∨ s = 1 ∨ s = 2 by omega) with rfl | rfl | rfl <;> rcases (show t = 1 ∨ t = 2 ∨ t = 3 by omega) with rfl | rfl | rfl <;> omega
/-- the least of those beside from which the way comes, over the first sides -/
def cmP (us D pr : Nat → Int) (W H c : Nat) (i : Nat) (best : Int) : Prop :=
  (best = -1 ∧ ∀ s, s < i → ¬ (¬ nb W H c (sdM s) = -1 ∧ ¬ us (nb W H c (sdM s)).toNat = 2 ∧ D (nb W H c (sdM s)).toNat = D c - pr c)) ∨
  ((∃ s, s < i ∧ best = nb W H c (sdM s) ∧ ¬ best = -1 ∧ ¬ us best.toNat = 2 ∧ D best.toNat = D c - pr c) ∧ ∀ s, s < i → ¬ nb W H c (sdM s) = -1 → ¬ us (nb W H c (sdM s)).toNat = 2 → D (nb W H c (sdM s)).toNat = D c - pr c → best ≤ nb W H c (sdM s))
theorem cmP_bef {us D pr : Nat → Int} {W H fr c : Nat} {best : Int} (h : cmP us D pr W H c 4 best) (hS : Sol us pr W H fr D) (hW : 0 < W) (hpr : ∀ c, 1 ≤ pr c) (hc : c < W * H) (hcF : D c < FARV) (hcf : c ≠ fr) : best = befS D pr W H c := by
  obtain ⟨b, hb, hbl, hbD, hbF⟩ := hS.pre hW hpr hc hcF hcf
  have hub : ¬ us b = 2 := fun q => by have := hS.2.2.1 b hbl q; omega
  unfold befS at hb
  have hne : ¬ fstN (befF D pr W H c) 4 = -1 := fun q => by rw [if_pos q] at hb; omega
  have hr := fstN_r (befF D pr W H c) 4
  rw [if_neg hne] at hb
  obtain ⟨t, ht⟩ : ∃ t : Nat, fstN (befF D pr W H c) 4 = t := ⟨(fstN (befF D pr W H c) 4).toNat, by omega⟩
  have ht4 : t < 4 := by omega
  rw [ht, Int.toNat_natCast] at hb
  obtain ⟨t', ht', et⟩ := sdM_on t ht4
  unfold befS
  rw [if_neg hne, ht, Int.toNat_natCast, hb]
  rcases h with ⟨-, h2⟩ | ⟨⟨s, hs, e1, e2, e3, e4⟩, h2⟩
  · exact absurd ⟨by rw [et, hb]; omega, by rw [et, hb, Int.toNat_natCast]; exact hub, by rw [et, hb, Int.toNat_natCast]; exact hbD⟩ (h2 t' ht')
  · have h3 := h2 t' ht' (by rw [et, hb]; omega) (by rw [et, hb, Int.toNat_natCast]; exact hub) (by rw [et, hb, Int.toNat_natCast]; exact hbD)
    rw [et, hb] at h3
    have hr2 := nb_r hc hW (sdM s)
    have hs4 := sdM_4 s hs
    by_cases q : t < sdM s
    · have h4 := nb_lt hW q hs4 (by rw [hb]; omega) (by rw [← e1]; exact e2)
      rw [hb, ← e1] at h4
      omega
    · by_cases q2 : t = sdM s
      · rw [q2, ← e1] at hb; omega
      · have hf : fstN (befF D pr W H c) (sdM s) = -1 := by
          rcases Classical.em (fstN (befF D pr W H c) (sdM s) = -1) with q3 | q3
          · exact q3
          · exfalso
            have hr3 := fstN_r (befF D pr W H c) (sdM s)
            have hat := fstN_at _ _ q3
            obtain ⟨u, hu⟩ : ∃ u : Nat, fstN (befF D pr W H c) (sdM s) = u := ⟨(fstN (befF D pr W H c) (sdM s)).toNat, by omega⟩
            have key : ∀ m : Nat, fstN (befF D pr W H c) (sdM s + m) = u := by
              intro m
              induction m with
              | zero => exact hu
              | succ m ih =>
                show (if fstN (befF D pr W H c) (sdM s + m) = -1 then _ else fstN (befF D pr W H c) (sdM s + m)) = _
                rw [ih, if_neg (by omega)]
            have := key (4 - sdM s)
            rw [show sdM s + (4 - sdM s) = 4 by omega, ht] at this
            omega
        have := fstN_hit' hf (befF_t.mpr ⟨by rw [← e1]; exact e2, by rw [← e1]; exact e4⟩) hs4
        omega
section Model5
variable {l : Launch} {G : GG} {n : Nat} {ρ : Rho} {σ : Si} {W H P C O : Nat}
theorem m_cameFrom (hs : Std n ρ) (hR : Rg σ) (g : GeoM σ W H) (hso : ∀ c, 0 ≤ σ 39 c ∧ σ 39 c ≤ 9) (hrd : ∀ c, 0 ≤ σ 41 c ∧ σ 41 c ≤ 1) (fr c : Nat) (hc : c < W * H) (hS : Sol (σ 40) (prS (σ 39) (σ 41)) W H fr (σ 58)) (hcF : σ 58 c < FARV) (hcf : c ≠ fr) : RdI l G 1 mX9_cameFrom n ρ σ [rf G 38, iv c] (befS (σ 58) (prS (σ 39) (σ 41)) W H c) := by
  have hle := WH_le g.2.2.1.2 g.2.2.2.2
  have hW : 0 < W := by have := g.2.2.1; omega
  have hpr := prS_r (so := σ 39) (rd := σ 41) hso
  have hDc := hS.2.1 c hc
  have kp := m_priceOf (l := l) (G := G) hs hR hrd c (by omega)
  generalize prS (σ 39) (σ 41) = pr at hpr kp hS ⊢
  have hpc := hpr c
  have loop : ∀ (m i : Nat) (best : Int) (x4 : Value), i + m = 4 → cmP (σ 40) (σ 58) pr W H c i best → isJ x4 = false → R32 best → RW (KI l G 1 mX9_cameFrom n ρ (fun σ' z => σ' = σ ∧ z = befS (σ 58) pr W H c)) (0, 0, n, ρ) σ 4 [rf G 38, iv c, iv best, iv i, x4] [] := by
    intro m
    induction m with
    | zero =>
      intro i best x4 hi hP hx hbr
      have e : i = 4 := by omega
      subst e
      refine r_iload_n dX9_cameFrom_4 rfl ?_
      refine r_iconst dX9_cameFrom_5 ?_
      refine r_icmpge (tgt := 76) dX9_cameFrom_6 rfl (by first | exact hR _ (Nat.le_of_ble_eq_true rfl) _ | omega) (by first | exact hR _ (Nat.le_of_ble_eq_true rfl) _ | omega) (fun h6 => ?_) (fun h6 => ?_)
      · refine r_iload_n dX9_cameFrom_76 rfl ?_
        exact r_ireti dX9_cameFrom_77 rfl ⟨_, rfl, rfl, cmP_bef hP hS hW (fun c => (hpr c).1) hc hcF hcf⟩
      · omega
    | succ m ih =>
      intro i best x4 hi hP hx hbr
      have hr := nb_r hc hW (sdM i)
      have skip : ∀ x4 : Value, isJ x4 = false → ¬ (¬ nb W H c (sdM i) = -1 ∧ ¬ σ 40 (nb W H c (sdM i)).toNat = 2 ∧ σ 58 (nb W H c (sdM i)).toNat = σ 58 c - pr c ∧ (best = -1 ∨ nb W H c (sdM i) < best)) → RW (KI l G 1 mX9_cameFrom n ρ (fun σ' z => σ' = σ ∧ z = befS (σ 58) pr W H c)) (0, 0, n, ρ) σ 4 [rf G 38, iv c, iv best, iv (i + 1 : Nat), x4] [] := by
        intro x4 hx hno
        refine ih (i + 1) best x4 (by omega) ?_ hx hbr
        rcases hP with ⟨p1, p2⟩ | ⟨⟨s, p1, p2⟩, p3⟩
        · refine Or.inl ⟨p1, fun s hs q => ?_⟩
          by_cases e : s = i
          · rw [e] at q; exact hno ⟨q.1, q.2.1, q.2.2, Or.inl p1⟩
          · exact p2 s (by omega) q
        · refine Or.inr ⟨⟨s, by omega, p2⟩, fun s hs q1 q2 q3 => ?_⟩
          by_cases e : s = i
          · rw [e] at q1 q2 q3 ⊢
            exact Int.not_lt.mp (fun q => hno ⟨q1, q2, q3, Or.inr q⟩)
          · exact p3 s (by omega) q1 q2 q3
      have hit : ¬ nb W H c (sdM i) = -1 → ¬ σ 40 (nb W H c (sdM i)).toNat = 2 → σ 58 (nb W H c (sdM i)).toNat = σ 58 c - pr c → (best = -1 ∨ nb W H c (sdM i) < best) → RW (KI l G 1 mX9_cameFrom n ρ (fun σ' z => σ' = σ ∧ z = befS (σ 58) pr W H c)) (0, 0, n, ρ) σ 4 [rf G 38, iv c, iv (nb W H c (sdM i)), iv (i + 1 : Nat), iv (nb W H c (sdM i))] [] := by
        intro q1 q2 q3 q4
        refine ih (i + 1) _ _ (by omega) (Or.inr ⟨⟨i, by omega, rfl, q1, q2, q3⟩, fun s hs r1 r2 r3 => ?_⟩) rfl (by omega)
        by_cases e : s = i
        · rw [e]; exact Int.le_refl _
        · rcases hP with ⟨p1, p2⟩ | ⟨⟨t, p1, p2⟩, p3⟩
          · exact absurd ⟨r1, r2, r3⟩ (p2 s (by omega))
          · have := p3 s (by omega) r1 r2 r3
            rcases q4 with q4 | q4
            · exact absurd q4 p2.2.1
            · omega
      refine r_iload_n dX9_cameFrom_4 rfl ?_
      refine r_iconst dX9_cameFrom_5 ?_
      refine r_icmpge (tgt := 76) dX9_cameFrom_6 rfl (by first | exact hR _ (Nat.le_of_ble_eq_true rfl) _ | omega) (by first | exact hR _ (Nat.le_of_ble_eq_true rfl) _ | omega) (fun h6 => ?_) (fun h6 => ?_)
      · omega
      · refine r_aloadk_n dX9_cameFrom_9 rfl ?_
        refine r_iload_n dX9_cameFrom_10 rfl ?_
        refine r_iload_n dX9_cameFrom_11 rfl ?_
        refine q_callVr dX9_cameFrom_12 (m_beside hs g c i hc (by omega)) ml_X9_172 okX9_beside rfl rfl (hs.lt rfl) rfl rfl (Nat.le_of_ble_eq_true rfl) (roomOK.of (by decide)) ⟨(Nat.le_of_ble_eq_true rfl), (Nat.le_of_ble_eq_true rfl)⟩ ?_
        refine r_istore dX9_cameFrom_15 (Nat.le_of_ble_eq_true rfl) rfl s4 ?_
        refine r_iload dX9_cameFrom_17 rfl ?_
        refine r_iconst dX9_cameFrom_19 ?_
        refine r_icmpeq (tgt := 70) dX9_cameFrom_20 rfl (by first | exact hR _ (Nat.le_of_ble_eq_true rfl) _ | omega) (by first | exact hR _ (Nat.le_of_ble_eq_true rfl) _ | omega) (fun h20 => ?_) (fun h20 => ?_)
        · refine r_iinc dX9_cameFrom_70 (Nat.le_of_ble_eq_true rfl) rfl rfl s3 ?_
          refine r_goto (tgt := 4) dX9_cameFrom_73 rfl ?_
          first
          | exact hit (by omega) h31 h53 (Or.inl h58)
          | exact hit (by omega) h31 h53 (Or.inr h64)
          | exact skip _ rfl (fun q => q.1 (by assumption))
          | exact skip _ rfl (fun q => q.2.1 h31)
          | exact skip _ rfl (fun q => h53 q.2.2.1)
          | exact skip _ rfl (fun q => by have := q.2.2.2; omega)
        · obtain ⟨b, hb⟩ : ∃ b : Nat, nb W H c (sdM i) = b := ⟨(nb W H c (sdM i)).toNat, by omega⟩
          rw [hb] at h20 hr skip hit ⊢
          simp only [Int.toNat_natCast] at skip hit
          have hDb := hS.2.1 b (by omega)
          refine r_aloadk_n dX9_cameFrom_23 rfl ?_
          refine r_getr dX9_cameFrom_24 fl_X9_20 rfl rfl (hs.lt rfl) (hs.rf rfl) ?_
          refine r_iload dX9_cameFrom_27 rfl ?_
          refine r_iald dX9_cameFrom_29 rfl (hs.lt rfl) rfl (by omega) ?_
          refine r_iconst dX9_cameFrom_30 ?_
          refine r_icmpeq (tgt := 70) dX9_cameFrom_31 rfl (by first | exact hR _ (Nat.le_of_ble_eq_true rfl) _ | omega) (by first | exact hR _ (Nat.le_of_ble_eq_true rfl) _ | omega) (fun h31 => ?_) (fun h31 => ?_)
          · refine r_iinc dX9_cameFrom_70 (Nat.le_of_ble_eq_true rfl) rfl rfl s3 ?_
            refine r_goto (tgt := 4) dX9_cameFrom_73 rfl ?_
            first
            | exact hit (by omega) h31 h53 (Or.inl h58)
            | exact hit (by omega) h31 h53 (Or.inr h64)
            | exact skip _ rfl (fun q => q.1 (by assumption))
            | exact skip _ rfl (fun q => q.2.1 h31)
            | exact skip _ rfl (fun q => h53 q.2.2.1)
            | exact skip _ rfl (fun q => by have := q.2.2.2; omega)
          · refine r_aloadk_n dX9_cameFrom_34 rfl ?_
            refine r_getr dX9_cameFrom_35 fl_X9_84 rfl rfl (hs.lt rfl) (hs.rf rfl) ?_
            refine r_iload dX9_cameFrom_38 rfl ?_
            refine r_iald dX9_cameFrom_40 rfl (hs.lt rfl) rfl (by omega) ?_
            refine r_aloadk_n dX9_cameFrom_41 rfl ?_
            refine r_getr dX9_cameFrom_42 fl_X9_84 rfl rfl (hs.lt rfl) (hs.rf rfl) ?_
            refine r_iload_n dX9_cameFrom_45 rfl ?_
            refine r_iald dX9_cameFrom_46 rfl (hs.lt rfl) rfl (by omega) ?_
            refine r_aloadk_n dX9_cameFrom_47 rfl ?_
            refine r_iload_n dX9_cameFrom_48 rfl ?_
            refine q_callVr dX9_cameFrom_49 (kp) ml_X9_167 okX9_priceOf rfl rfl (hs.lt rfl) rfl rfl (Nat.le_of_ble_eq_true rfl) (roomOK.of (by decide)) ⟨(Nat.le_of_ble_eq_true rfl), (Nat.le_of_ble_eq_true rfl)⟩ ?_
            refine r_isub dX9_cameFrom_52 ?_
            refine r_icmpne (tgt := 70) dX9_cameFrom_53 rfl (by unfold FARV at *; omega) (by unfold FARV at *; omega) (fun h53 => ?_) (fun h53 => ?_)
            · refine r_iinc dX9_cameFrom_70 (Nat.le_of_ble_eq_true rfl) rfl rfl s3 ?_
              refine r_goto (tgt := 4) dX9_cameFrom_73 rfl ?_
              first
              | exact hit (by omega) h31 h53 (Or.inl h58)
              | exact hit (by omega) h31 h53 (Or.inr h64)
              | exact skip _ rfl (fun q => q.1 (by assumption))
              | exact skip _ rfl (fun q => q.2.1 h31)
              | exact skip _ rfl (fun q => h53 q.2.2.1)
              | exact skip _ rfl (fun q => by have := q.2.2.2; omega)
            · refine r_iload_n dX9_cameFrom_56 rfl ?_
              refine r_iconst dX9_cameFrom_57 ?_
              refine r_icmpeq (tgt := 67) dX9_cameFrom_58 rfl (by first | exact hR _ (Nat.le_of_ble_eq_true rfl) _ | omega) (by first | exact hR _ (Nat.le_of_ble_eq_true rfl) _ | omega) (fun h58 => ?_) (fun h58 => ?_)
              · refine r_iload dX9_cameFrom_67 rfl ?_
                refine r_istore_n dX9_cameFrom_69 (Nat.le_of_ble_eq_true rfl) rfl s2 ?_
                refine r_iinc dX9_cameFrom_70 (Nat.le_of_ble_eq_true rfl) rfl rfl s3 ?_
                refine r_goto (tgt := 4) dX9_cameFrom_73 rfl ?_
                first
                | exact hit (by omega) h31 h53 (Or.inl h58)
                | exact hit (by omega) h31 h53 (Or.inr h64)
                | exact skip _ rfl (fun q => q.1 (by assumption))
                | exact skip _ rfl (fun q => q.2.1 h31)
                | exact skip _ rfl (fun q => h53 q.2.2.1)
                | exact skip _ rfl (fun q => by have := q.2.2.2; omega)
              · refine r_iload dX9_cameFrom_61 rfl ?_
                refine r_iload_n dX9_cameFrom_63 rfl ?_
                refine r_icmpge (tgt := 70) dX9_cameFrom_64 rfl (by first | exact hR _ (Nat.le_of_ble_eq_true rfl) _ | omega) (by first | exact hR _ (Nat.le_of_ble_eq_true rfl) _ | omega) (fun h64 => ?_) (fun h64 => ?_)
                · refine r_iinc dX9_cameFrom_70 (Nat.le_of_ble_eq_true rfl) rfl rfl s3 ?_
                  refine r_goto (tgt := 4) dX9_cameFrom_73 rfl ?_
                  first
                  | exact hit (by omega) h31 h53 (Or.inl h58)
                  | exact hit (by omega) h31 h53 (Or.inr h64)
                  | exact skip _ rfl (fun q => q.1 (by assumption))
                  | exact skip _ rfl (fun q => q.2.1 h31)
                  | exact skip _ rfl (fun q => h53 q.2.2.1)
                  | exact skip _ rfl (fun q => by have := q.2.2.2; omega)
                · refine r_iload dX9_cameFrom_67 rfl ?_
                  refine r_istore_n dX9_cameFrom_69 (Nat.le_of_ble_eq_true rfl) rfl s2 ?_
                  refine r_iinc dX9_cameFrom_70 (Nat.le_of_ble_eq_true rfl) rfl rfl s3 ?_
                  refine r_goto (tgt := 4) dX9_cameFrom_73 rfl ?_
                  first
                  | exact hit (by omega) h31 h53 (Or.inl h58)
                  | exact hit (by omega) h31 h53 (Or.inr h64)
                  | exact skip _ rfl (fun q => q.1 (by assumption))
                  | exact skip _ rfl (fun q => q.2.1 h31)
                  | exact skip _ rfl (fun q => h53 q.2.2.1)
                  | exact skip _ rfl (fun q => by have := q.2.2.2; omega)
  refine Ct.of (L0 := [rf G 38, iv c, xx, xx, xx]) (by decide +kernel) (Nat.le_of_ble_eq_true rfl) rfl ?_
  refine r_iconst dX9_cameFrom_0 ?_
  refine r_istore_n dX9_cameFrom_1 (Nat.le_of_ble_eq_true rfl) rfl s2 ?_
  refine r_iconst dX9_cameFrom_2 ?_
  refine r_istore_n dX9_cameFrom_3 (Nat.le_of_ble_eq_true rfl) rfl s3 ?_
  exact loop 4 0 _ _ (by omega) (Or.inl ⟨rfl, fun s hs => by omega⟩) rfl (by omega)
end Model5
