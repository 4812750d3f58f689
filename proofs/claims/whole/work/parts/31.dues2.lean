/-! CLASS: Shares: what the shares are, whatever the rows held before; dueOf, coinOf, settleRates -/
def zF : Nat → Int := fun _ => 0
theorem w00_z {w : Nat → Int} (h : ∀ b, 8 ≤ b → w b = 0) : w00 w = zF := by
  funext b
  unfold w00 zF
  split
  · rfl
  · exact h b (by omega)
theorem w00_zz : w00 zF = zF := by funext b; unfold w00 zF; split <;> rfl
theorem argmax_congr {r r' : Nat → Int} : ∀ N : Nat, (∀ p, p < N → r p = r' p) → argmax r N = argmax r' N
  | 0, _ => rfl
  | 1, h => by
    show (if r (argmax r 0) < r 0 then 0 else argmax r 0) = (if r' (argmax r' 0) < r' 0 then 0 else argmax r' 0)
    show (if r 0 < r 0 then 0 else 0) = (if r' 0 < r' 0 then 0 else 0)
    split <;> split <;> rfl
  | N + 2, h => by
    have ih := argmax_congr (N + 1) (fun p hp => h p (by omega))
    have hl := argmax_lt r (N + 1) (by omega)
    show (if r (argmax r (N + 1)) < r (N + 1) then N + 1 else argmax r (N + 1)) = (if r' (argmax r' (N + 1)) < r' (N + 1) then N + 1 else argmax r' (N + 1))
    rw [← ih, h _ (by omega : argmax r (N + 1) < N + 2), h (N + 1) (by omega)]
theorem partGo_congr {P : Nat} : ∀ (k : Nat) (q r r' : Nat → Int) (left : Int), (∀ p, p < P → r p = r' p) → partGo P k q r left = partGo P k q r' left
  | 0, _, _, _, _, _ => rfl
  | k + 1, q, r, r', left, h => by
    unfold partGo
    rw [argmax_congr P h]
    split
    · rfl
    · refine partGo_congr k _ _ _ _ (fun p hp => ?_)
      unfold ud
      split
      · rfl
      · exact h p hp
theorem partS_z {whole : Int} {by_ w r0 : Nat → Int} {P : Nat} (h : ∀ b, 8 ≤ b → w b = 0) : partS whole by_ w r0 P = partS whole by_ zF zF P := by
  unfold partS
  rw [w00_z h, w00_zz]
  split
  · rfl
  · have e : pqI whole (sumN by_ P) by_ w P = pqI whole (sumN by_ P) by_ zF P := by
      unfold pqI; rw [w00_z h, w00_zz]
    rw [e]
    refine partGo_congr P _ _ _ _ (fun p hp => ?_)
    unfold prI
    rw [if_pos hp, if_pos hp]
theorem weiS_z {so us rd kd by_ wh pf dy ob oc od w : Nat → Int} {N P C O : Nat} {day closing : Int} (h : ∀ b, 8 ≤ b → w b = 0) : weiS so us rd kd by_ wh pf dy ob oc od w N P C O day closing = weiS so us rd kd by_ wh pf dy ob oc od zF N P C O day closing := by
  unfold weiS
  rw [w00_z h, w00_zz]
theorem dueS_z {so us rd kd by_ wh pf dy ob oc od w30 w31 r34 : Nat → Int} {N P C O : Nat} {day closing sold tithe : Int} (h : ∀ b, 8 ≤ b → w30 b = 0) (h1 : ∀ b, 8 ≤ b → w31 b = 0) : dueS so us rd kd by_ wh pf dy ob oc od w30 w31 r34 N P C O day closing sold tithe = dueS so us rd kd by_ wh pf dy ob oc od zF zF zF N P C O day closing sold tithe := by
  unfold dueS
  rw [weiS_z h, partS_z h1]
def weiC (σ : Si) (N P C O : Nat) (day closing : Int) : Nat → Int := weiS (σ 4) (σ 5) (σ 6) (σ 20) (σ 22) (σ 23) (σ 24) (σ 25) (σ 26) (σ 27) (σ 28) zF N P C O day closing
def dueC (σ : Si) (N P C O : Nat) (day closing : Int) : Nat → Int := dueS (σ 4) (σ 5) (σ 6) (σ 20) (σ 22) (σ 23) (σ 24) (σ 25) (σ 26) (σ 27) (σ 28) zF zF zF N P C O day closing (σ 1 3) (σ 1 2)
theorem dueC_next {σ σ' : Si} {N P C O : Nat} {day closing : Int} (f : ShrF σ σ') : dueC σ' N P C O day closing = dueC σ N P C O day closing := by
  unfold dueC
  rw [f.1 4 (by omega), f.1 5 (by omega), f.1 6 (by omega), f.1 20 (by omega), f.1 22 (by omega), f.1 23 (by omega), f.1 24 (by omega), f.1 25 (by omega), f.1 26 (by omega), f.1 27 (by omega), f.1 28 (by omega), f.1 1 (by omega)]
theorem dueS_r {so us rd kd by_ wh pf dy ob oc od : Nat → Int} {N P C O : Nat} {day closing sold tithe : Int} (hP8 : P ≤ 8) (hso : ∀ c, 0 ≤ so c ∧ so c ≤ 9) (hN : N ≤ 80) (hwh : ∀ i, i < C → wh i ≤ 150) (hs : 0 ≤ sold) (ht : 0 ≤ tithe ∧ tithe ≤ 50) (j : Nat) : 0 ≤ dueS so us rd kd by_ wh pf dy ob oc od zF zF zF N P C O day closing sold tithe j ∧ dueS so us rd kd by_ wh pf dy ob oc od zF zF zF N P C O day closing sold tithe j ≤ 2000 := by
  have hv := valS_r (us := us) (rd := rd) (N := N) hso
  have h1 := titS_r (kd := kd) (P := P) (v := valS so us rd N) (sold := sold) (tithe := tithe) hv.1 hs ht
  have h2 := fun i => partS_r (whole := valS so us rd N - min (valS so us rd N) sold - titS kd P (valS so us rd N) sold tithe) (by_ := weiS so us rd kd by_ wh pf dy ob oc od zF N P C O day closing) (w := zF) (r0 := zF) (P := P) hP8 (fun _ _ => rfl) (by omega) (fun p _ => (weiS_r hso hN (fun _ _ => rfl) hwh p).1) i
  unfold dueS
  split
  · have := h2 j; omega
  · have h3 := h2 j
    have h4 := h2 (fstN (kindF kd 4) P).toNat
    unfold ud
    split <;> omega
section Dues2
variable {l : Launch} {G : GG} {n : Nat} {ρ : Rho} {σ : Si}
theorem ShrP.due_r {W H P C O : Nat} (hp : ShrP σ W H P C O) (day closing : Int) (j : Nat) : 0 ≤ dueC σ (W * H) P C O day closing j ∧ dueC σ (W * H) P C O day closing j ≤ 2000 := by
  obtain ⟨hR, g0, hle, hso, hc, hz, hsl, hti, hex⟩ := id hp
  exact dueS_r hc.2.1 hso hle (fun i hi => (hc.2.2.2.2.2.2.1 i hi).2.2) hsl.1 hti j
theorem c_dues0 (hs : Std n ρ) {W H P C O : Nat} (hp : ShrP σ W H P C O) (day closing : Int) (hd : R32 day) (hcl : R32 closing) : CtV l G 4 mX6_settleDues n ρ σ [rf G 29, iv day, iv closing] (fun σ' => ShrF σ σ' ∧ σ' 32 = σ 32 ∧ σ' 30 = weiC σ (W * H) P C O day closing ∧ σ' 31 = dueC σ (W * H) P C O day closing) := by
  have h := c_settleDues (l := l) (G := G) hs hp day closing hd hcl
  rw [dueS_z (fun b hb => (hp.2.2.2.2.2.1 b hb).1) (fun b hb => (hp.2.2.2.2.2.1 b hb).2.1), weiS_z (fun b hb => (hp.2.2.2.2.2.1 b hb).1)] at h
  exact h
theorem c_weigh0 (hs : Std n ρ) {W H P C O : Nat} (hp : ShrP σ W H P C O) (day closing : Int) (hd : R32 day) (hcl : R32 closing) : CtV l G 3 mX6_weigh n ρ σ [rf G 29, iv day, iv closing] (fun σ' => ∃ g : Nat → Int, (∀ j, R32 (g j)) ∧ σ' = sr (sr σ 30 (weiC σ (W * H) P C O day closing)) 33 g) := by
  obtain ⟨hR, g0, hle, hso, hc, hz, hsl, hti, hex⟩ := id hp
  have h := c_weigh (l := l) (G := G) hs hR g0 hle hso hc (fun b hb => (hz b hb).1) day closing hd hcl
  rw [weiS_z (fun b hb => (hz b hb).1)] at h
  exact h
theorem c_dueOf (hs : Std n ρ) {W H P C O : Nat} (hp : ShrP σ W H P C O) (p : Nat) (hp8 : p < 8) (day closing : Int) (hd : R32 day) (hcl : R32 closing) : CtI l G 5 mX6_dueOf n ρ σ [rf G 29, iv p, iv day, iv closing] (fun σ' z => ShrF σ σ' ∧ z = dueC σ (W * H) P C O day closing p) := by
  refine Ct.of (L0 := [rf G 29, iv p, iv day, iv closing]) (by decide +kernel) (Nat.le_of_ble_eq_true rfl) rfl ?_
  refine r_aloadk_n dX6_dueOf_0 rfl ?_
  refine r_iload_n dX6_dueOf_1 rfl ?_
  refine r_iload_n dX6_dueOf_2 rfl ?_
  refine q_callVv dX6_dueOf_3 (c_dues0 hs hp day closing hd hcl) ml_X6_122 okX6_settleDues rfl rfl (hs.lt rfl) rfl rfl (Nat.le_of_ble_eq_true rfl) (roomOK.of (by decide)) ⟨(Nat.le_of_ble_eq_true rfl), (Nat.le_of_ble_eq_true rfl)⟩ (fun σ1 hq1 => ?_)
  obtain ⟨f1, -, -, e1⟩ := hq1
  refine r_aloadk_n dX6_dueOf_6 rfl ?_
  refine r_getr dX6_dueOf_7 fl_X6_15 rfl rfl (hs.lt rfl) (hs.rf rfl) ?_
  refine r_iload_n dX6_dueOf_10 rfl ?_
  refine r_iald dX6_dueOf_11 rfl (hs.lt rfl) rfl (by omega) ?_
  exact r_ireti dX6_dueOf_12 rfl ⟨_, rfl, f1, by rw [e1]⟩
theorem c_coinOf (hs : Std n ρ) {W H P C O : Nat} (hp : ShrP σ W H P C O) (p : Nat) (hp8 : p < 8) (day closing : Int) (hd : R32 day) (hcl : R32 closing) : CtI l G 5 mX6_coinOf n ρ σ [rf G 29, iv p, iv day, iv closing] (fun σ' z => ShrF σ σ' ∧ z = 3 * max 0 (dueC σ (W * H) P C O day 999 p - dueC σ (W * H) P C O day closing p)) := by
  have r1 := hp.due_r day closing p
  have r2 := hp.due_r day 999 p
  refine Ct.of (L0 := [rf G 29, iv p, iv day, iv closing, xx]) (by decide +kernel) (Nat.le_of_ble_eq_true rfl) rfl ?_
  refine r_aloadk_n dX6_coinOf_0 rfl ?_
  refine r_iload_n dX6_coinOf_1 rfl ?_
  refine r_iload_n dX6_coinOf_2 rfl ?_
  refine q_callVv dX6_coinOf_3 (c_dues0 hs hp day closing hd hcl) ml_X6_122 okX6_settleDues rfl rfl (hs.lt rfl) rfl rfl (Nat.le_of_ble_eq_true rfl) (roomOK.of (by decide)) ⟨(Nat.le_of_ble_eq_true rfl), (Nat.le_of_ble_eq_true rfl)⟩ (fun σ1 hq1 => ?_)
  obtain ⟨f1, -, -, e1⟩ := hq1
  refine r_aloadk_n dX6_coinOf_6 rfl ?_
  refine r_getr dX6_coinOf_7 fl_X6_15 rfl rfl (hs.lt rfl) (hs.rf rfl) ?_
  refine r_iload_n dX6_coinOf_10 rfl ?_
  refine r_iald dX6_coinOf_11 rfl (hs.lt rfl) rfl (by omega) ?_
  rw [e1]
  refine r_istore dX6_coinOf_12 (Nat.le_of_ble_eq_true rfl) rfl s4 ?_
  refine r_aloadk_n dX6_coinOf_14 rfl ?_
  refine r_iload_n dX6_coinOf_15 rfl ?_
  refine r_sipush dX6_coinOf_16 ?_
  refine q_callVv dX6_coinOf_19 (c_dues0 hs (hp.next f1) day 999 hd (by omega)) ml_X6_122 okX6_settleDues rfl rfl (hs.lt rfl) rfl rfl (Nat.le_of_ble_eq_true rfl) (roomOK.of (by decide)) ⟨(Nat.le_of_ble_eq_true rfl), (Nat.le_of_ble_eq_true rfl)⟩ (fun σ2 hq2 => ?_)
  obtain ⟨f2, -, -, e2⟩ := hq2
  rw [dueC_next f1] at e2
  refine r_iconst dX6_coinOf_22 ?_
  refine r_iconst dX6_coinOf_23 ?_
  refine r_aloadk_n dX6_coinOf_24 rfl ?_
  refine r_getr dX6_coinOf_25 fl_X6_15 rfl rfl (hs.lt rfl) (hs.rf rfl) ?_
  refine r_iload_n dX6_coinOf_28 rfl ?_
  refine r_iald dX6_coinOf_29 rfl (hs.lt rfl) rfl (by omega) ?_
  rw [e2]
  refine r_iload dX6_coinOf_30 rfl ?_
  refine r_isub dX6_coinOf_32 ?_
  refine r_mmax dX6_coinOf_33 ml_X6_128 (by omega) (by omega) (Nat.le_of_ble_eq_true rfl) (Nat.le_of_ble_eq_true rfl) ⟨(Nat.le_of_ble_eq_true rfl), (Nat.le_of_ble_eq_true rfl)⟩ ?_
  refine r_imul dX6_coinOf_36 ?_
  exact r_ireti dX6_coinOf_37 rfl ⟨_, rfl, f1.trans f2, rfl⟩
theorem c_settleRates (hs : Std n ρ) {W H P C O : Nat} (hp : ShrP σ W H P C O) (day closing : Int) (hd : R32 day) (hcl : R32 closing) : CtV l G 5 mX6_settleRates n ρ σ [rf G 29, iv day, iv closing] (fun σ' => ShrF σ σ' ∧ σ' 32 = partS (σ 2 3) (dueC σ (W * H) P C O day closing) zF zF P) := by
  obtain ⟨hR, g0, hle, hso, hc, hz, hsl, hti, hex⟩ := id hp
  refine Ct.of (L0 := [rf G 29, iv day, iv closing]) (by decide +kernel) (Nat.le_of_ble_eq_true rfl) rfl ?_
  refine r_aloadk_n dX6_settleRates_0 rfl ?_
  refine r_iload_n dX6_settleRates_1 rfl ?_
  refine r_iload_n dX6_settleRates_2 rfl ?_
  refine q_callVv dX6_settleRates_3 (c_dues0 hs hp day closing hd hcl) ml_X6_122 okX6_settleDues rfl rfl (hs.lt rfl) rfl rfl (Nat.le_of_ble_eq_true rfl) (roomOK.of (by decide)) ⟨(Nat.le_of_ble_eq_true rfl), (Nat.le_of_ble_eq_true rfl)⟩ (fun σ1 hq1 => ?_)
  obtain ⟨f1, e0, -, e1⟩ := hq1
  obtain ⟨hR1, g01, hle1, hso1, hc1, hz1, hsl1, hti1, hex1⟩ := id (hp.next f1)
  have r1 := hp.due_r day closing
  have hz32 : ∀ b, 8 ≤ b → σ1 32 b = 0 := fun b hb => (hz1 b hb).2.2
  refine r_aloadk_n dX6_settleRates_6 rfl ?_
  refine r_aloadk_n dX6_settleRates_7 rfl ?_
  refine r_getr dX6_settleRates_8 fl_X6_28 rfl rfl (hs.lt rfl) (hs.rf rfl) ?_
  refine r_geti dX6_settleRates_11 fl_X6_125 rfl rfl (hs.lt rfl) ?_
  refine r_aloadk_n dX6_settleRates_14 rfl ?_
  refine r_getr dX6_settleRates_15 fl_X6_15 rfl rfl (hs.lt rfl) (hs.rf rfl) ?_
  refine r_aloadk_n dX6_settleRates_18 rfl ?_
  refine r_getr dX6_settleRates_19 fl_X6_18 rfl rfl (hs.lt rfl) (hs.rf rfl) ?_
  refine q_callVv dX6_settleRates_22 (c_partb (σ := σ1) hs hR1 P hc1.1 hc1.2.1 (σ1 2 3) hex1 (fun p _ => by rw [e1]; have := r1 p; omega) hz32) ml_X6_118 okX6_part rfl rfl (hs.lt rfl) rfl rfl (Nat.le_of_ble_eq_true rfl) (roomOK.of (by decide)) ⟨(Nat.le_of_ble_eq_true rfl), (Nat.le_of_ble_eq_true rfl)⟩ (fun σ2 hq2 => ?_)
  obtain ⟨r, hr, rfl⟩ := hq2
  rw [partS_z hz32, e1, f1.1 2 (by omega)]
  have hpr := fun j => partS_r (whole := σ 2 3) (by_ := dueC σ (W * H) P C O day closing) (w := zF) (r0 := zF) (P := P) hc.2.1 (fun _ _ => rfl) hex (fun p _ => (r1 p).1) j
  have hph := partS_hi (whole := σ 2 3) (by_ := dueC σ (W * H) P C O day closing) (w := zF) (r0 := zF) (P := P) hc.2.1 (fun _ _ => rfl)
  exact r_vret dX6_settleRates_25 rfl ⟨rfl, f1.trans ⟨fun k hk => by rw [sr_ne (by omega), sr_ne (by omega)], (hR1.sr (fun j => by have := hpr j; omega)).sr hr, fun b hb => ⟨(hz1 b hb).1, (hz1 b hb).2.1, hph b hb⟩⟩, rfl⟩
end Dues2
