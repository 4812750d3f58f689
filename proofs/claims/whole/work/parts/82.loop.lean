/-! THE LAW: its loop, its start -/
def MKp (c0 s0 n : Nat) (ρ : Rho) (σ : Si) : Prop := (n = 73 ∧ ρ = rho2 ∧ c0 = 73 ∧ s0 = 14182 ∧ ∀ k, 73 ≤ k → ∀ j, σ k j = 0) ∨ (n = 92 ∧ ρ = rho3 ∧ c0 = 92 ∧ s0 = 38009)
section Loop
variable {nm : String} {l : Launch} {G : GG} {n c0 s0 : Nat} {ρ : Rho} {σ : Si} {W H P C O : Nat}
theorem MKp.std (h : MKp c0 s0 n ρ σ) : Std n ρ := by
  rcases h with ⟨rfl, rfl, -⟩ | ⟨rfl, rfl, -⟩
  · exact std2
  · exact std3
theorem MKp.room (h : MKp c0 s0 n ρ σ) : c0 ≤ 600000 ∧ s0 ≤ 7302250 := by
  rcases h with ⟨-, -, rfl, rfl, -⟩ | ⟨-, -, rfl, rfl⟩ <;> decide
theorem MKp.next {σ2 : Si} (h : MKp c0 s0 n ρ σ) (f : ∀ k, 73 ≤ k → σ2 k = σ k) : MKp c0 s0 n ρ σ2 := by
  rcases h with ⟨a, b, c, d, e⟩ | h
  · exact Or.inl ⟨a, b, c, d, fun k hk j => by rw [f k hk]; exact e k hk j⟩
  · exact Or.inr h
set_option maxHeartbeats 8000000 in
theorem law_loop (hL : gL G ≤ 3072) : ∀ (m t : Nat) (c0 s0 n : Nat) (ρ : Rho) (σ : Si) (W H P C O : Nat), t ≤ 513 → gL G ≤ 6 * t + 6 * m → MKp c0 s0 n ρ σ → JJ σ W H P C O (800 * (t : Int)) → RW (KL nm l G) (c0, s0, n, ρ) σ 18 [.ref (gb G), rf G 0, rf G 38, iv ((6 * t : Nat) : Int)] [] := by
  intro m
  induction m with
  | zero =>
    intro t c0 s0 n ρ σ W H P C O ht hm mk J
    refine r_iload_n dL_law_18 rfl ?_
    refine r_aload_n dL_law_19 rfl ?_
    refine r_slen dL_law_20 ?_
    refine show RW _ _ _ _ _ (iv (gL G : Int) :: _) from ?_
    refine r_bipush dL_law_21 ?_
    refine r_isub dL_law_23 ?_
    refine r_icmpgt (tgt := 1103) dL_law_24 rfl (by omega) (by omega) (fun h24 => ?_) (fun h24 => ?_)
    · refine r_iconst dL_law_1103 ?_
      exact law_end mk.room.1 mk.room.2
    · omega
  | succ m ih =>
    intro t c0 s0 n ρ σ W H P C O ht hm mk J
    by_cases hlt : 6 * t + 6 ≤ gL G
    · have hs := mk.std
      obtain ⟨hc0, hs0⟩ := mk.room
      have hB : 0 ≤ 800 * (t : Int) ∧ 800 * (t : Int) ≤ 890000 := by omega
      have go : ∀ (c1 s1 n1 : Nat) (ρ1 : Rho) (σ2 : Si), MKp c1 s1 n1 ρ1 σ2 → (∃ W H P C O : Nat, JJ σ2 W H P C O (800 * (t : Int) + 800)) → RW (KL nm l G) (c1, s1, n1, ρ1) σ2 1097 [.ref (gb G), rf G 0, rf G 38, iv ((6 * t : Nat) : Int)] [] := by
        intro c1 s1 n1 ρ1 σ2 mk2 hJ2
        obtain ⟨W', H', P', C', O', J'⟩ := hJ2
        have nx := ih (t + 1) c1 s1 n1 ρ1 σ2 W' H' P' C' O' (by omega) (by omega) mk2 (by rw [show 800 * ((t + 1 : Nat) : Int) = 800 * (t : Int) + 800 by omega]; exact J')
        rw [show ((6 * (t + 1) : Nat) : Int) = ((6 * t : Nat) : Int) + 6 by omega] at nx
        refine r_iinc dL_law_1097 (Nat.le_of_ble_eq_true rfl) rfl rfl s3 ?_
        refine r_goto (tgt := 18) dL_law_1100 rfl ?_
        exact nx
      have kk : KK nm l G (6 * t) c0 s0 n ρ σ (800 * (t : Int)) := fun σ2 hJ2 hk => go c0 s0 n ρ σ2 (mk.next hk) hJ2
      have dr : RW (KL nm l G) (c0, s0, n, ρ) σ 965 [.ref (gb G), rf G 0, rf G 38, iv ((6 * t : Nat) : Int)] [] := by
        rcases id mk with ⟨rfl, rfl, rfl, rfl, hz⟩ | ⟨rfl, rfl, rfl, rfl⟩
        · exact law_drawN hz J (by omega) kk (fun σ2 hJ2 => go 92 38009 92 rho3 σ2 (Or.inr ⟨rfl, rfl, rfl, rfl⟩) hJ2)
        · exact law_drawD std3 stdD3 J (by omega) hc0 hs0 (fun σ2 hJ2 => go 92 38009 92 rho3 σ2 (Or.inr ⟨rfl, rfl, rfl, rfl⟩) hJ2)
      refine r_iload_n dL_law_18 rfl ?_
      refine r_aload_n dL_law_19 rfl ?_
      refine r_slen dL_law_20 ?_
      refine show RW _ _ _ _ _ (iv (gL G : Int) :: _) from ?_
      refine r_bipush dL_law_21 ?_
      refine r_isub dL_law_23 ?_
      refine r_icmpgt (tgt := 1103) dL_law_24 rfl (by omega) (by omega) (fun h24 => ?_) (fun h24 => ?_)
      · omega
      · refine r_aload_n dL_law_27 rfl ?_
        refine r_iload_n dL_law_28 rfl ?_
        refine r_sld (c := 6 * t) dL_law_29 rfl (show 6 * t < gL G by omega) ?_
        refine r_bipush dL_law_30 ?_
        refine r_iand31 dL_law_32 (x32 _) ?_
        refine show RW _ _ _ _ _ (iv ((gx G (6 * t)).toInt % 32) :: _) from ?_
        have hop : 0 ≤ (gx G (6 * t)).toInt % 32 ∧ (gx G (6 * t)).toInt % 32 < 32 := by omega
        generalize (gx G (6 * t)).toInt % 32 = op at hop ⊢
        by_cases h33_0 : op = 0
        · refine r_tabAt (c := 0) (tgt := 156) dL_law_33 (by omega) h33_0 (by decide) (by decide) rfl rfl ?_
          exact law_land hs J (by omega) hB hc0 hs0 kk
        by_cases h33_1 : op = 1
        · refine r_tabAt (c := 1) (tgt := 189) dL_law_33 (by omega) h33_1 (by decide) (by decide) rfl rfl ?_
          exact law_cell hs J (by omega) hB hc0 hs0 kk
        by_cases h33_2 : op = 2
        · refine r_tabAt (c := 2) (tgt := 232) dL_law_33 (by omega) h33_2 (by decide) (by decide) rfl rfl ?_
          exact law_told hs J (by omega) hB hc0 hs0 kk
        by_cases h33_3 : op = 3
        · refine r_tabAt (c := 3) (tgt := 265) dL_law_33 (by omega) h33_3 (by decide) (by decide) rfl rfl ?_
          exact law_survey hs J (by omega) hB hc0 hs0 kk
        by_cases h33_4 : op = 4
        · refine r_tabAt (c := 4) (tgt := 308) dL_law_33 (by omega) h33_4 (by decide) (by decide) rfl rfl ?_
          exact law_lose hs J (by omega) hB hc0 hs0 kk
        by_cases h33_5 : op = 5
        · refine r_tabAt (c := 5) (tgt := 331) dL_law_33 (by omega) h33_5 (by decide) (by decide) rfl rfl ?_
          exact law_mark hs J (by omega) hB hc0 hs0 kk
        by_cases h33_6 : op = 6
        · refine r_tabAt (c := 6) (tgt := 374) dL_law_33 (by omega) h33_6 (by decide) (by decide) rfl rfl ?_
          exact law_copy hs J (by omega) hB hc0 hs0 kk
        by_cases h33_7 : op = 7
        · refine r_tabAt (c := 7) (tgt := 437) dL_law_33 (by omega) h33_7 (by decide) (by decide) rfl rfl ?_
          exact law_read hs J (by omega) hB hc0 hs0 kk
        by_cases h33_8 : op = 8
        · refine r_tabAt (c := 8) (tgt := 460) dL_law_33 (by omega) h33_8 (by decide) (by decide) rfl rfl ?_
          exact law_road hs J (by omega) hB hc0 hs0 kk
        by_cases h33_9 : op = 9
        · refine r_tabAt (c := 9) (tgt := 493) dL_law_33 (by omega) h33_9 (by decide) (by decide) rfl rfl ?_
          exact law_claimant hs J (by omega) hB hc0 hs0 kk
        by_cases h33_10 : op = 10
        · refine r_tabAt (c := 10) (tgt := 526) dL_law_33 (by omega) h33_10 (by decide) (by decide) rfl rfl ?_
          exact law_isOf hs J (by omega) hB hc0 hs0 kk
        by_cases h33_11 : op = 11
        · refine r_tabAt (c := 11) (tgt := 559) dL_law_33 (by omega) h33_11 (by decide) (by decide) rfl rfl ?_
          exact law_claim hs J (by omega) hB hc0 hs0 kk
        by_cases h33_12 : op = 12
        · refine r_tabAt (c := 12) (tgt := 612) dL_law_33 (by omega) h33_12 (by decide) (by decide) rfl rfl ?_
          exact law_withdraw hs J (by omega) hB hc0 hs0 kk
        by_cases h33_13 : op = 13
        · refine r_tabAt (c := 13) (tgt := 625) dL_law_33 (by omega) h33_13 (by decide) (by decide) rfl rfl ?_
          exact law_rule hs J (by omega) hB hc0 hs0 kk
        by_cases h33_14 : op = 14
        · refine r_tabAt (c := 14) (tgt := 658) dL_law_33 (by omega) h33_14 (by decide) (by decide) rfl rfl ?_
          exact law_object hs J (by omega) hB hc0 hs0 kk
        by_cases h33_15 : op = 15
        · refine r_tabAt (c := 15) (tgt := 701) dL_law_33 (by omega) h33_15 (by decide) (by decide) rfl rfl ?_
          exact law_upheld hs J (by omega) hB hc0 hs0 kk
        by_cases h33_16 : op = 16
        · refine r_tabAt (c := 16) (tgt := 724) dL_law_33 (by omega) h33_16 (by decide) (by decide) rfl rfl ?_
          exact law_holder hs J (by omega) hB hc0 hs0 kk
        by_cases h33_17 : op = 17
        · refine r_tabAt (c := 17) (tgt := 757) dL_law_33 (by omega) h33_17 (by decide) (by decide) rfl rfl ?_
          exact law_sum hs J (by omega) hB hc0 hs0 kk
        by_cases h33_18 : op = 18
        · refine r_tabAt (c := 18) (tgt := 790) dL_law_33 (by omega) h33_18 (by decide) (by decide) rfl rfl ?_
          exact law_has hs J (by omega) hB hc0 hs0 kk
        by_cases h33_19 : op = 19
        · refine r_tabAt (c := 19) (tgt := 833) dL_law_33 (by omega) h33_19 (by decide) (by decide) rfl rfl ?_
          exact law_allot hs J (by omega) hB hc0 hs0 kk
        by_cases h33_20 : op = 20
        · refine r_tabAt (c := 20) (tgt := 876) dL_law_33 (by omega) h33_20 (by decide) (by decide) rfl rfl ?_
          exact law_take hs J (by omega) hB hc0 hs0 kk
        by_cases h33_21 : op = 21
        · refine r_tabAt (c := 21) (tgt := 899) dL_law_33 (by omega) h33_21 (by decide) (by decide) rfl rfl ?_
          exact law_good hs J (by omega) hB hc0 hs0 kk
        by_cases h33_22 : op = 22
        · refine r_tabAt (c := 22) (tgt := 932) dL_law_33 (by omega) h33_22 (by decide) (by decide) rfl rfl ?_
          exact law_plot hs J (by omega) hB hc0 hs0 kk
        by_cases h33_23 : op = 23
        · refine r_tabAt (c := 23) (tgt := 965) dL_law_33 (by omega) h33_23 (by decide) (by decide) rfl rfl ?_
          exact dr
        by_cases h33_24 : op = 24
        · refine r_tabAt (c := 24) (tgt := 1008) dL_law_33 (by omega) h33_24 (by decide) (by decide) rfl rfl ?_
          exact law_hedge hs J (by omega) hB hc0 hs0 kk
        by_cases h33_25 : op = 25
        · refine r_tabAt (c := 25) (tgt := 1041) dL_law_33 (by omega) h33_25 (by decide) (by decide) rfl rfl ?_
          exact law_fine hs J (by omega) hB hc0 hs0 kk
        by_cases h33_26 : op = 26
        · refine r_tabAt (c := 26) (tgt := 1074) dL_law_33 (by omega) h33_26 (by decide) (by decide) rfl rfl ?_
          exact law_count hs J (by omega) hB hc0 hs0 kk
        refine r_tabOut (tgt := 1097) dL_law_33 (by omega) (by omega) rfl ?_
        exact kk σ ⟨W, H, P, C, O, J.more⟩ (fun _ _ => rfl)
    · have hu : True := trivial
      refine r_iload_n dL_law_18 rfl ?_
      refine r_aload_n dL_law_19 rfl ?_
      refine r_slen dL_law_20 ?_
      refine show RW _ _ _ _ _ (iv (gL G : Int) :: _) from ?_
      refine r_bipush dL_law_21 ?_
      refine r_isub dL_law_23 ?_
      refine r_icmpgt (tgt := 1103) dL_law_24 rfl (by omega) (by omega) (fun h24 => ?_) (fun h24 => ?_)
      · refine r_iconst dL_law_1103 ?_
        exact law_end mk.room.1 mk.room.2
      · omega
theorem land0_Rg {c7 c8 : Nat → Int} (r7 : ∀ j, R32 (c7 j)) (r8 : ∀ j, R32 (c8 j)) : Rg (landS sA 6 5 c7 c8) := by
  have hR := sA_R
  unfold landS
  exact (((((hR.sr (ud_R (ud_R (ud_R (ud_R (hR 2 (by decide)) (by omega)) (by omega)) (by omega)) (by omega))).sr (filW_R (hR 4 (by decide)) (by omega))).sr (filW_R (hR 5 (by decide)) (by omega))).sr (filW_R (hR 6 (by decide)) (by omega))).sr r7).sr r8
theorem sC_Rg {c7 c8 : Nat → Int} (r7 : ∀ j, R32 (c7 j)) (r8 : ∀ j, R32 (c8 j)) : Rg (sC c7 c8) := by
  have hB : Rg (sB c7 c8) := (((land0_Rg r7 r8).up (by omega)).up (by omega)).up (by omega)
  exact (hB.sr (filW_R (hB 36 (by decide)) (by omega))).sr (filW_R (hB 37 (by decide)) (by omega))
theorem sD_Rg (h : Rg σ) : Rg (sD σ) := (((((((h.up (by omega)).up (by omega)).up (by omega)).up (by omega)).up (by omega)).up (by omega)).up (by omega)).up (by omega)
theorem sC_z {c7 c8 : Nat → Int} : ∀ k, 38 ≤ k → ∀ j, sC c7 c8 k j = 0 := fun k hk j => by
  unfold sC
  rw [sr_ne (by omega), sr_ne (by omega)]
  exact sB_z k (by omega) j
theorem s0_z {c7 c8 : Nat → Int} : ∀ k, 73 ≤ k → ∀ j, clrS (sD (sC c7 c8)) k j = 0 := fun k hk j => by
  unfold clrS sD
  rw [sr_ne (by omega), sr_ne (by omega), sr_ne (by omega), sr_ne (by omega), up_row (by omega), up_row (by omega), up_row (by omega), up_row (by omega), up_row (by omega), up_row (by omega), up_row (by omega), up_row (by omega)]
  exact sC_z k (by omega) j
set_option maxHeartbeats 8000000 in
theorem JJ0 {c7 c8 : Nat → Int} (r7 : ∀ j, R32 (c7 j)) (r8 : ∀ j, R32 (c8 j)) (hc : ∀ c, c < 6 * 5 → c7 c = (c % 6 : Nat) ∧ c8 c = (c / 6 : Nat)) : JJ (clrS (sD (sC c7 c8))) 6 5 0 0 0 (800 * ((0 : Nat) : Int)) := by
  have hR2 : Rg (clrS (sD (sC c7 c8))) := clr_Rg (sD_Rg (sC_Rg r7 r8))
  have z9 : ∀ c : Nat, (0 : Int) ≤ sZ 0 c ∧ sZ 0 c ≤ 9 := fun c => by show (0 : Int) ≤ 0 ∧ (0 : Int) ≤ 9; omega
  have z2 : ∀ c : Nat, (0 : Int) ≤ sZ 0 c ∧ sZ 0 c ≤ 2 := fun c => by show (0 : Int) ≤ 0 ∧ (0 : Int) ≤ 2; omega
  have z1 : ∀ c : Nat, (0 : Int) ≤ sZ 0 c ∧ sZ 0 c ≤ 1 := fun c => by show (0 : Int) ≤ 0 ∧ (0 : Int) ≤ 1; omega
  have v0 : ∀ {p : Nat → Prop} (q : Nat), q < 0 → p q := fun q hq => absurd hq (Nat.not_lt_zero q)
  refine ⟨⟨hR2, ⟨rfl, rfl, rfl, by omega, by omega, hc⟩, fil_in (w := sZ 0) z9 (by omega), fil_in (w := sZ 0) z2 (by omega), fil_in (w := sZ 0) z1 (by omega), ⟨rfl, by omega, rfl, by omega, rfl, by omega, fun i hi => absurd hi (Nat.not_lt_zero i), fun i hi => absurd hi (Nat.not_lt_zero i)⟩, fun b _ => ⟨rfl, rfl, rfl⟩, ?_, ?_, fun p hp => absurd hp (Nat.not_lt_zero p), fun p hp => Or.inl (filW_in hp), fun p _ hp => ⟨filW_in hp, filW_in hp⟩, ?_, fun p hp => ?_⟩, ⟨hR2, rfl, ⟨rfl, rfl, by omega, by omega⟩, fil_in (w := sZ 0) z9 (by omega), fil_in (w := sZ 0) z2 (by omega), fil_in (w := sZ 0) z1 (by omega), ⟨rfl, by omega, rfl, by omega, rfl, by omega, fun i hi => absurd hi (Nat.not_lt_zero i), fun i hi => absurd hi (Nat.not_lt_zero i)⟩, ?_, ?_, fun p hp => absurd hp (Nat.not_lt_zero p), fun p hp => absurd hp (Nat.not_lt_zero p), fun p hp => absurd hp (Nat.not_lt_zero p), ?_⟩, ⟨⟨rfl, rfl, rfl⟩, ⟨rfl, rfl⟩, ⟨rfl, rfl, rfl, rfl⟩, ⟨rfl, rfl, rfl⟩, fun p hp => absurd hp (Nat.not_lt_zero p), ?_, rfl, ?_⟩, ?_⟩
  · show ((0 : Int) ≤ 500 ∧ (500 : Int) ≤ 999) ∧ ((0 : Int) ≤ 900 ∧ (900 : Int) ≤ 999) ∧ ((0 : Int) ≤ 0 ∧ (0 : Int) ≤ 50) ∧ ((0 : Int) ≤ 0 ∧ (0 : Int) ≤ 1000) ∧ ((0 : Int) ≤ 2 ∧ (2 : Int) ≤ 50)
    omega
  · show (0 : Int) ≤ 0 ∧ (0 : Int) ≤ 900000
    omega
  · exact lt3 (show (-1 : Int) ≤ -1 ∧ (-1 : Int) ≤ 80 by omega) (show (-1 : Int) ≤ -1 ∧ (-1 : Int) ≤ 80 by omega) (show (-1 : Int) ≤ -1 ∧ (-1 : Int) ≤ 80 by omega)
  · show -1 ≤ filW (sB c7 c8 37) 8 (-1) p ∧ filW (sB c7 c8 37) 8 (-1) p ≤ 999
    rw [filW_in hp]; omega
  · show ((0 : Int) ≤ 500 ∧ (500 : Int) ≤ 999) ∧ ((0 : Int) ≤ 900 ∧ (900 : Int) ≤ 999) ∧ ((0 : Int) ≤ 0 ∧ (0 : Int) ≤ 50) ∧ ((0 : Int) ≤ 0 ∧ (0 : Int) ≤ 1000) ∧ ((0 : Int) ≤ 2 ∧ (2 : Int) ≤ 50)
    omega
  · show (0 : Int) ≤ 0 ∧ (0 : Int) ≤ 900000
    omega
  · exact lt3 (show ((-1 : Int) ≤ -1 ∧ (-1 : Int) ≤ 2) ∧ ((0 : Int) ≤ 0 ∧ (0 : Int) ≤ 80) by omega) (show ((-1 : Int) ≤ -1 ∧ (-1 : Int) ≤ 2) ∧ ((0 : Int) ≤ 0 ∧ (0 : Int) ≤ 80) by omega) (show ((-1 : Int) ≤ -1 ∧ (-1 : Int) ≤ 2) ∧ ((0 : Int) ≤ 0 ∧ (0 : Int) ≤ 80) by omega)
  · intro j hj
    rcases (show j = 0 ∨ j = 1 ∨ j = 2 ∨ j = 3 ∨ j = 4 by omega) with rfl | rfl | rfl | rfl | rfl <;> rfl
  · exact lt3 ⟨rfl, fun h => absurd (show (0 : Int) ≤ -1 from h) (by decide), fun j hj => rfl⟩ ⟨rfl, fun h => absurd (show (0 : Int) ≤ -1 from h) (by decide), fun j hj => rfl⟩ ⟨rfl, fun h => absurd (show (0 : Int) ≤ -1 from h) (by decide), fun j hj => rfl⟩
  · show (0 : Int) ≤ 800 * ((0 : Nat) : Int)
    omega
set_option maxHeartbeats 8000000 in
theorem law_begin (hL : gL G ≤ 3072) : RW (KL nm l G) (0, 0, 0, rho0) sZ 0 [.ref (gb G), xx, xx, xx] [] := by
  refine r_new (t := 7) dL_law_0 rfl cl_L_7 in_X8 ini_X8 rfl (fun _ => rfl) (fun j => rfl) df_X8 (show 0 + 1 ≤ 600000 by decide) (show 0 + 8 ≤ 7302250 by decide) ?_
  refine show RW _ (1, 8, 1, rho0) _ _ _ _ from ?_
  refine r_dup dL_law_3 rfl ?_
  refine r_callI dL_law_4 (i_X8) rfl ml_L_9 okX8_init rfl rfl (Nat.le_of_ble_eq_true rfl) (rm_ok _ (by decide)) ⟨(show 1 + 37 ≤ 600000 by decide), (show 8 + 1147 ≤ 7302250 by decide)⟩ (fun σ1 v1 hq1 => ?_)
  obtain ⟨rfl, c7, c8, hr7, hr8, hc78, rfl⟩ := hq1
  refine show RW _ (38, 1155, 38, (rho1)) _ _ _ _ from ?_
  refine r_astore_n dL_law_7 (Nat.le_of_ble_eq_true rfl) rfl s1 ?_
  refine r_new (t := 8) dL_law_8 rfl cl_L_10 in_X9 ini_X9 rfl (sC_z 38 (by decide)) (fun j => rfl) df_X9 (show 38 + 1 ≤ 600000 by decide) (show 1155 + 57 ≤ 7302250 by decide) ?_
  refine show RW _ (39, 1212, 39, (rho1)) _ _ _ _ from ?_
  refine r_dup dL_law_11 rfl ?_
  refine r_callI dL_law_12 (i_X9 (fun k hk => sC_z k (by omega))) rfl ml_L_12 okX9_init rfl rfl (Nat.le_of_ble_eq_true rfl) (rm_ok _ (by decide)) ⟨(show 39 + 34 ≤ 600000 by decide), (show 1212 + 12970 ≤ 7302250 by decide)⟩ (fun σ1 v1 hq1 => ?_)
  obtain ⟨rfl, rfl⟩ := hq1
  refine show RW _ (73, 14182, 73, (rho2)) _ _ _ _ from ?_
  refine r_astore_n dL_law_15 (Nat.le_of_ble_eq_true rfl) rfl s2 ?_
  refine r_iconst dL_law_16 ?_
  refine r_istore_n dL_law_17 (Nat.le_of_ble_eq_true rfl) rfl s3 ?_
  exact law_loop hL 512 0 73 14182 73 rho2 _ 6 5 0 0 0 (by omega) (by omega) (Or.inl ⟨rfl, rfl, rfl, rfl, s0_z⟩) (JJ0 hr7 hr8 hc78)
end Loop
