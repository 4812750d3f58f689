/-! CLASS: Shares: dues, rates, coin -/
theorem ud_hi {w : Nat → Int} {j b : Nat} {z : Int} (hj : j < 8) (hb : 8 ≤ b) : ud w j z b = w b := if_neg (by omega)
theorem giveW_hi {kd w : Nat → Int} {p b : Nat} {amt lord : Int} (hp : p < 8) (hl : lord < 8) (hb : 8 ≤ b) : giveW kd w p amt lord b = w b := by
  unfold giveW
  split
  · rw [ud_hi (by omega) hb, ud_hi hp hb]
  · exact ud_hi hp hb
theorem wfold_hi {so kd by_ hol obr : Nat → Int} {lord : Int} {w0 : Nat → Int} (hb : ∀ c, hol c = -1 ∨ (0 ≤ by_ (hol c).toNat ∧ by_ (hol c).toNat < 8)) (ho : ∀ c, obr c < 8) (hl : lord < 8) (h0 : ∀ b, 8 ≤ b → w0 b = 0) : ∀ (N b : Nat), 8 ≤ b → wfold so kd by_ hol obr lord w0 N b = 0
  | 0, b, h => h0 b h
  | N + 1, b, h => by
    show wstep so kd by_ hol obr lord (wfold so kd by_ hol obr lord w0 N) N b = 0
    unfold wstep
    have h1 := hb N
    have h2 := ho N
    split
    · exact wfold_hi hb ho hl h0 N b h
    · rw [giveW_hi (by split <;> omega) hl h, giveW_hi (by omega) hl h]
      exact wfold_hi hb ho hl h0 N b h
theorem partGo_hi {P : Nat} (hP : 0 < P) (hP8 : P ≤ 8) : ∀ (k : Nat) (q r : Nat → Int) (left : Int) (b : Nat), 8 ≤ b → partGo P k q r left b = q b
  | 0, _, _, _, _, _ => rfl
  | k + 1, q, r, left, b, hb => by
    unfold partGo
    split
    · rfl
    · have := argmax_lt r P hP
      rw [partGo_hi hP hP8 k _ _ _ b hb, ud_hi (by omega) hb]
theorem partS_hi {whole : Int} {by_ w r0 : Nat → Int} {P : Nat} (hP8 : P ≤ 8) (hw : ∀ b, 8 ≤ b → w b = 0) (b : Nat) (hb : 8 ≤ b) : partS whole by_ w r0 P b = 0 := by
  unfold partS
  split
  · unfold w00; rw [if_neg (by omega)]; exact hw b hb
  · rename_i h
    have hP : 0 < P := by
      rcases Nat.eq_zero_or_pos P with e | e
      · rw [e] at h; exact absurd (show sumN by_ 0 ≤ 0 from Int.le_refl 0) h
      · exact e
    rw [partGo_hi hP hP8 _ _ _ _ b hb]
    unfold pqI w00
    rw [if_neg (by omega), if_neg (by omega)]
    exact hw b hb
theorem partGo_r {P : Nat} (hP : 0 < P) : ∀ (k : Nat) (q r : Nat → Int) (left B : Int), (∀ j, 0 ≤ q j ∧ q j ≤ B) → ∀ j, 0 ≤ partGo P k q r left j ∧ partGo P k q r left j ≤ B + k
  | 0, q, _, _, B, h, j => by have := h j; show 0 ≤ q j ∧ q j ≤ _; omega
  | k + 1, q, r, left, B, h, j => by
    unfold partGo
    split
    · have := h j; omega
    · have := partGo_r hP k (ud q (argmax r P) (q (argmax r P) + 1)) (ud r (argmax r P) (-1)) (left - 1) (B + 1) (fun i => by
        have h1 := h i
        have h2 := h (argmax r P)
        unfold ud
        split <;> omega) j
      omega
theorem partS_r {whole : Int} {by_ w r0 : Nat → Int} {P : Nat} (hP8 : P ≤ 8) (hw : ∀ b, 8 ≤ b → w b = 0) (h0 : 0 ≤ whole ∧ whole ≤ 1000000) (hb : ∀ p, p < P → 0 ≤ by_ p) (j : Nat) : 0 ≤ partS whole by_ w r0 P j ∧ partS whole by_ w r0 P j ≤ whole + 8 := by
  have hz : ∀ b, w00 w b = 0 := fun b => by
    unfold w00
    split
    · rfl
    · exact hw b (by omega)
  unfold partS
  split
  · rw [hz j]; omega
  · rename_i h
    have hP : 0 < P := by
      rcases Nat.eq_zero_or_pos P with e | e
      · rw [e] at h; exact absurd (show sumN by_ 0 ≤ 0 from Int.le_refl 0) h
      · exact e
    have hall := le_sumN (f := by_) (P := P) hb P (Nat.le_refl P)
    have := partGo_r hP P (pqI whole (sumN by_ P) by_ w P) (prI whole (sumN by_ P) by_ r0 P) (whole - sumN (fun p => whole * by_ p / sumN by_ P) P) whole (fun i => by
      unfold pqI
      split
      · exact quo_r h0.1 (hb i (by omega)) (by omega) (hall.2 i (by omega))
      · rw [hz i]; omega) j
    omega
/-- all DUES at a day -/
def dueS (so us rd kd by_ wh pf dy ob oc od w30 w31 r34 : Nat → Int) (N P C O : Nat) (day closing sold tithe : Int) : Nat → Int :=
  if fstN (kindF kd 4) P = -1 then partS (valS so us rd N - min (valS so us rd N) sold - titS kd P (valS so us rd N) sold tithe) (weiS so us rd kd by_ wh pf dy ob oc od w30 N P C O day closing) w31 r34 P
  else ud (partS (valS so us rd N - min (valS so us rd N) sold - titS kd P (valS so us rd N) sold tithe) (weiS so us rd kd by_ wh pf dy ob oc od w30 N P C O day closing) w31 r34 P) (fstN (kindF kd 4) P).toNat (partS (valS so us rd N - min (valS so us rd N) sold - titS kd P (valS so us rd N) sold tithe) (weiS so us rd kd by_ wh pf dy ob oc od w30 N P C O day closing) w31 r34 P (fstN (kindF kd 4) P).toNat + titS kd P (valS so us rd N) sold tithe)
/-- the rows of shares alone are other than before -/
def ShrF (σ σ' : Si) : Prop := (∀ k, k < 30 ∨ 34 < k → σ' k = σ k) ∧ Rg σ' ∧ ∀ b, 8 ≤ b → σ' 30 b = 0 ∧ σ' 31 b = 0 ∧ σ' 32 b = 0
/-- what of the desk the shares rest on -/
def ShrP (σ : Si) (W H P C O : Nat) : Prop := Rg σ ∧ σ 2 2 = (W * H : Nat) ∧ W * H ≤ 80 ∧ (∀ c, 0 ≤ σ 4 c ∧ σ 4 c ≤ 9) ∧ ClmC σ P C O ∧ (∀ b, 8 ≤ b → σ 30 b = 0 ∧ σ 31 b = 0 ∧ σ 32 b = 0) ∧ (0 ≤ σ 1 3 ∧ σ 1 3 ≤ 1000) ∧ (0 ≤ σ 1 2 ∧ σ 1 2 ≤ 50) ∧ (0 ≤ σ 2 3 ∧ σ 2 3 ≤ 1000000)
theorem ShrP.next {σ σ' : Si} {W H P C O : Nat} (h : ShrP σ W H P C O) (f : ShrF σ σ') : ShrP σ' W H P C O := by
  obtain ⟨h1, h2, h3, h4, h5, h6, h7, h8, h9⟩ := h
  obtain ⟨f1, f2, f3⟩ := f
  unfold ShrP ClmC
  rw [f1 2 (by omega), f1 4 (by omega), f1 1 (by omega), f1 19 (by omega), f1 22 (by omega), f1 23 (by omega), f1 26 (by omega), f1 27 (by omega)]
  exact ⟨f2, h2, h3, h4, h5, f3, h7, h8, h9⟩
theorem ShrF.trans {σ σ' σ'' : Si} (h : ShrF σ σ') (h' : ShrF σ' σ'') : ShrF σ σ'' := ⟨fun k hk => (h'.1 k hk).trans (h.1 k hk), h'.2⟩
theorem weiS_r {so us rd kd by_ wh pf dy ob oc od w : Nat → Int} {N P C O : Nat} {day closing : Int} (hso : ∀ c, 0 ≤ so c ∧ so c ≤ 9) (hN : N ≤ 80) (hw : ∀ b, 8 ≤ b → w b = 0) (hwh : ∀ i, i < C → wh i ≤ 150) (j : Nat) : 0 ≤ weiS so us rd kd by_ wh pf dy ob oc od w N P C O day closing j ∧ weiS so us rd kd by_ wh pf dy ob oc od w N P C O day closing j ≤ 200000 := by
  have hcom := comS_r (us := us) (rd := rd) (N := N) hso
  have hw0 : ∀ b, 0 ≤ w00 w b ∧ w00 w b ≤ 0 := fun b => by
    unfold w00
    split
    · omega
    · rw [hw b (by omega)]; omega
  have h1 := wfold_r (kd := kd) (by_ := by_) (hol := fun c => hold us rd wh pf dy C c day closing) (obr := obrS us rd by_ wh pf dy ob oc od C O day closing) (lord := fstN (kindF kd 3) P) hso hw0 N
  have h2 := comW_r (w := wfold so kd by_ (fun c => hold us rd wh pf dy C c day closing) (obrS us rd by_ wh pf dy ob oc od C O day closing) (fstN (kindF kd 3) P) (w00 w) N) (gts := fun p => gfold by_ wh pf dy p day closing C) (wt := 60 * comS so us rd N) (P := P) (i := P) (B := 86400) (fun b => by have := h1 b; omega) (fun b _ => (gfold_r C hwh).1) (Nat.le_refl P) (by omega) j
  unfold weiS
  omega
theorem weiS_hi {so us rd kd by_ wh pf dy ob oc od w : Nat → Int} {N P C O : Nat} {day closing : Int} (hP8 : P ≤ 8) (hw : ∀ b, 8 ≤ b → w b = 0) (hby : ∀ i, i < C → 0 ≤ by_ i ∧ by_ i < 8) (hob : ∀ o, o < O → 0 ≤ ob o ∧ ob o < 8) (b : Nat) (hb : 8 ≤ b) : weiS so us rd kd by_ wh pf dy ob oc od w N P C O day closing b = 0 := by
  unfold weiS comW
  rw [if_neg (by omega)]
  refine wfold_hi (fun c => ?_) (fun c => (obrS_r hob).2) (by have := fstN_r (kindF kd 3) P; omega) (fun b hb => by unfold w00; rw [if_neg (by omega)]; exact hw b hb) N b hb
  have := hold_r us rd wh pf dy C c day closing
  by_cases h : hold us rd wh pf dy C c day closing = -1
  · exact Or.inl h
  · exact Or.inr (hby _ (by omega))
theorem titS_r {kd : Nat → Int} {P : Nat} {v sold tithe : Int} (hv : 0 ≤ v) (hs : 0 ≤ sold) (ht : 0 ≤ tithe ∧ tithe ≤ 50) : 0 ≤ titS kd P v sold tithe ∧ titS kd P v sold tithe ≤ v - min v sold := by
  unfold titS
  split
  · omega
  · have h1 : 0 ≤ (v - min v sold) * tithe := Int.mul_nonneg (by omega) ht.1
    have h2 : (v - min v sold) * tithe ≤ (v - min v sold) * 50 := Int.mul_le_mul_of_nonneg_left ht.2 (by omega)
    omega
section Dues
variable {l : Launch} {G : GG} {n : Nat} {ρ : Rho} {σ : Si}
set_option maxHeartbeats 4000000 in
theorem c_settleDues (hs : Std n ρ) {W H P C O : Nat} (hp : ShrP σ W H P C O) (day closing : Int) (hd : R32 day) (hcl : R32 closing) : CtV l G 4 mX6_settleDues n ρ σ [rf G 29, iv day, iv closing] (fun σ' => ShrF σ σ' ∧ σ' 32 = σ 32 ∧ σ' 30 = weiS (σ 4) (σ 5) (σ 6) (σ 20) (σ 22) (σ 23) (σ 24) (σ 25) (σ 26) (σ 27) (σ 28) (σ 30) (W * H) P C O day closing ∧ σ' 31 = dueS (σ 4) (σ 5) (σ 6) (σ 20) (σ 22) (σ 23) (σ 24) (σ 25) (σ 26) (σ 27) (σ 28) (σ 30) (σ 31) (σ 34) (W * H) P C O day closing (σ 1 3) (σ 1 2)) := by
  obtain ⟨hR, g0, hle, hso, hc, hz, hsl, hti, hex⟩ := id hp
  obtain ⟨c1, c2, c3, c4, c5, c6, c7, c8⟩ := id hc
  have hv := valS_r (so := σ 4) (us := σ 5) (rd := σ 6) (N := W * H) hso
  have ht := titS_r (kd := σ 20) (P := P) (v := valS (σ 4) (σ 5) (σ 6) (W * H)) (sold := σ 1 3) (tithe := σ 1 2) hv.1 hsl.1 hti
  have hfr := fstN_r (kindF (σ 20) 4) P
  have hwr := weiS_r (so := σ 4) (us := σ 5) (rd := σ 6) (kd := σ 20) (by_ := σ 22) (wh := σ 23) (pf := σ 24) (dy := σ 25) (ob := σ 26) (oc := σ 27) (od := σ 28) (w := σ 30) (N := W * H) (P := P) (C := C) (O := O) (day := day) (closing := closing) hso hle (fun b hb => (hz b hb).1) (fun i hi => (c7 i hi).2.2)
  have hwh := weiS_hi (so := σ 4) (us := σ 5) (rd := σ 6) (kd := σ 20) (by_ := σ 22) (wh := σ 23) (pf := σ 24) (dy := σ 25) (ob := σ 26) (oc := σ 27) (od := σ 28) (w := σ 30) (N := W * H) (P := P) (C := C) (O := O) (day := day) (closing := closing) c2 (fun b hb => (hz b hb).1) (fun i hi => (c7 i hi).1) (fun o ho => (c8 o ho).1)
  have kw := c_weigh (l := l) (G := G) hs hR g0 hle hso hc (fun b hb => (hz b hb).1) day closing hd hcl
  unfold dueS
  generalize weiS (σ 4) (σ 5) (σ 6) (σ 20) (σ 22) (σ 23) (σ 24) (σ 25) (σ 26) (σ 27) (σ 28) (σ 30) (W * H) P C O day closing = wts at hwr hwh kw ⊢
  generalize hV : valS (σ 4) (σ 5) (σ 6) (W * H) = v at hv ht ⊢
  generalize hT : titS (σ 20) P v (σ 1 3) (σ 1 2) = tt at ht ⊢
  have hpr := fun j => partS_r (whole := v - min v (σ 1 3) - tt) (by_ := wts) (w := σ 31) (r0 := σ 34) (P := P) c2 (fun b hb => (hz b hb).2.1) (by omega) (fun p _ => (hwr p).1) j
  have hph := partS_hi (whole := v - min v (σ 1 3) - tt) (by_ := wts) (w := σ 31) (r0 := σ 34) (P := P) c2 (fun b hb => (hz b hb).2.1)
  refine Ct.of (L0 := [rf G 29, iv day, iv closing, xx, xx]) (by decide +kernel) (Nat.le_of_ble_eq_true rfl) rfl ?_
  refine r_aloadk_n dX6_settleDues_0 rfl ?_
  refine r_iload_n dX6_settleDues_1 rfl ?_
  refine r_iload_n dX6_settleDues_2 rfl ?_
  refine q_callVv dX6_settleDues_3 (kw) ml_X6_107 okX6_weigh rfl rfl (hs.lt rfl) rfl rfl (Nat.le_of_ble_eq_true rfl) (roomOK.of (by decide)) ⟨(Nat.le_of_ble_eq_true rfl), (Nat.le_of_ble_eq_true rfl)⟩ (fun σ1 hq1 => ?_)
  obtain ⟨g, hg, rfl⟩ := hq1
  have hR1 : Rg (sr (sr σ 30 wts) 33 g) := (hR.sr (fun j => by have := hwr j; omega)).sr hg
  have kv : RdI l G 1 mX6_value n ρ (sr (sr σ 30 wts) 33 g) [rf G 29] v := by
    rw [← hV]
    exact c_value (σ := sr (sr σ 30 wts) 33 g) hs hR1 g0 hle
  have kr : RdI l G 3 mX6_restOf n ρ (sr (sr σ 30 wts) 33 g) [rf G 29, iv v] (v - min v (σ 1 3) - tt) := by
    rw [← hT]
    exact c_restOf (σ := sr (sr σ 30 wts) 33 g) hs hR1 P c1 c2 v (by omega) hsl.1 hti
  have kp : CtV l G 1 mX6_part n ρ (sr (sr σ 30 wts) 33 g) [rf G 29, iv (v - min v (σ 1 3) - tt), rf G 30, rf G 31] (fun σ' => ∃ r : Nat → Int, (∀ j, R32 (r j)) ∧ σ' = sr (sr (sr (sr σ 30 wts) 33 g) 31 (partS (v - min v (σ 1 3) - tt) wts (σ 31) (σ 34) P)) 34 r) := c_parta (σ := sr (sr σ 30 wts) 33 g) hs hR1 P c1 c2 _ (by omega) (fun p _ => hwr p) (fun b hb => (hz b hb).2.1)
  refine r_aloadk_n dX6_settleDues_6 rfl ?_
  refine q_callVr dX6_settleDues_7 (kv) ml_X6_111 okX6_value rfl rfl (hs.lt rfl) rfl rfl (Nat.le_of_ble_eq_true rfl) (roomOK.of (by decide)) ⟨(Nat.le_of_ble_eq_true rfl), (Nat.le_of_ble_eq_true rfl)⟩ ?_
  refine r_istore_n dX6_settleDues_10 (Nat.le_of_ble_eq_true rfl) rfl s3 ?_
  refine r_aloadk_n dX6_settleDues_11 rfl ?_
  refine r_aloadk_n dX6_settleDues_12 rfl ?_
  refine r_iload_n dX6_settleDues_13 rfl ?_
  refine q_callVr dX6_settleDues_14 (kr) ml_X6_115 okX6_restOf rfl rfl (hs.lt rfl) rfl rfl (Nat.le_of_ble_eq_true rfl) (roomOK.of (by decide)) ⟨(Nat.le_of_ble_eq_true rfl), (Nat.le_of_ble_eq_true rfl)⟩ ?_
  refine r_aloadk_n dX6_settleDues_17 rfl ?_
  refine r_getr dX6_settleDues_18 fl_X6_9 rfl rfl (hs.lt rfl) (hs.rf rfl) ?_
  refine r_aloadk_n dX6_settleDues_21 rfl ?_
  refine r_getr dX6_settleDues_22 fl_X6_15 rfl rfl (hs.lt rfl) (hs.rf rfl) ?_
  refine q_callVv dX6_settleDues_25 (kp) ml_X6_118 okX6_part rfl rfl (hs.lt rfl) rfl rfl (Nat.le_of_ble_eq_true rfl) (roomOK.of (by decide)) ⟨(Nat.le_of_ble_eq_true rfl), (Nat.le_of_ble_eq_true rfl)⟩ (fun σ2 hq2 => ?_)
  obtain ⟨r, hr, rfl⟩ := hq2
  generalize hDD : partS (v - min v (σ 1 3) - tt) wts (σ 31) (σ 34) P = dd at hpr hph ⊢
  have hR2 : Rg (sr (sr (sr (sr σ 30 wts) 33 g) 31 dd) 34 r) := (hR1.sr (fun j => by have := hpr j; omega)).sr hr
  have kf : RdI l G 0 mX4_firstOfKind n ρ (sr (sr (sr (sr σ 30 wts) 33 g) 31 dd) 34 r) [rf G 19, iv 4] (fstN (kindF (σ 20) 4) P) := c_firstOfKind (σ := sr (sr (sr (sr σ 30 wts) 33 g) 31 dd) 34 r) hs hR2 P c1 c2 4 (by omega)
  have kt : RdI l G 2 mX6_titheOf n ρ (sr (sr (sr (sr σ 30 wts) 33 g) 31 dd) 34 r) [rf G 29, iv v] tt := by
    rw [← hT]
    exact c_titheOf (σ := sr (sr (sr (sr σ 30 wts) 33 g) 31 dd) 34 r) hs hR2 P c1 c2 v (by omega) hsl.1 hti
  have fin : ∀ dd2 : Nat → Int, (∀ j, R32 (dd2 j)) → (∀ b, 8 ≤ b → dd2 b = 0) → ShrF σ (sr (sr (sr (sr σ 30 wts) 33 g) 31 dd2) 34 r) := fun dd2 h1 h2 => ⟨fun k hk => by rw [sr_ne (by omega), sr_ne (by omega), sr_ne (by omega), sr_ne (by omega)], (hR1.sr h1).sr hr, fun b hb => ⟨hwh b hb, h2 b hb, (hz b hb).2.2⟩⟩
  refine r_aloadk_n dX6_settleDues_28 rfl ?_
  refine r_getr dX6_settleDues_29 fl_X6_32 rfl rfl (hs.lt rfl) (hs.rf rfl) ?_
  refine r_iconst dX6_settleDues_32 ?_
  refine q_callVr dX6_settleDues_33 (kf) ml_X6_59 okX4_firstOfKind rfl rfl (hs.lt rfl) rfl rfl (Nat.le_of_ble_eq_true rfl) (roomOK.of (by decide)) ⟨(Nat.le_of_ble_eq_true rfl), (Nat.le_of_ble_eq_true rfl)⟩ ?_
  refine r_istore dX6_settleDues_36 (Nat.le_of_ble_eq_true rfl) rfl s4 ?_
  refine r_iload dX6_settleDues_38 rfl ?_
  refine r_iconst dX6_settleDues_40 ?_
  refine r_icmpeq (tgt := 59) dX6_settleDues_41 rfl (by omega) (by omega) (fun h41 => ?_) (fun h41 => ?_)
  · skip
    exact r_vret dX6_settleDues_59 rfl ⟨rfl, by
  first
  | (rw [if_pos h41]
     exact ⟨fin dd (fun j => by have := hpr j; omega) hph, rfl, rfl, rfl⟩)
  | (rw [if_neg h41, sr_comm (by omega), up_sr, sr_comm (by omega)]
     refine ⟨fin _ (fun j => ?_) (fun b hb => ?_), rfl, rfl, rfl⟩
     · have h1 := hpr j
       have h2 := hpr (fstN (kindF (σ 20) 4) P).toNat
       unfold ud
       split <;> omega
     · rw [ud_hi (by omega) hb]; exact hph b hb)⟩
  · refine r_aloadk_n dX6_settleDues_44 rfl ?_
    refine r_getr dX6_settleDues_45 fl_X6_15 rfl rfl (hs.lt rfl) (hs.rf rfl) ?_
    refine r_iload dX6_settleDues_48 rfl ?_
    refine r_dup2 dX6_settleDues_50 rfl rfl ?_
    refine r_iald dX6_settleDues_51 rfl (hs.lt rfl) (c := (fstN (kindF (σ 20) 4) P).toNat) (by omega) (by omega) ?_
    rw [show sr (sr (sr (sr σ 30 wts) 33 g) 31 dd) 34 r 31 = dd from rfl]
    refine r_aloadk_n dX6_settleDues_52 rfl ?_
    refine r_iload_n dX6_settleDues_53 rfl ?_
    refine q_callVr dX6_settleDues_54 (kt) ml_X6_68 okX6_titheOf rfl rfl (hs.lt rfl) rfl rfl (Nat.le_of_ble_eq_true rfl) (roomOK.of (by decide)) ⟨(Nat.le_of_ble_eq_true rfl), (Nat.le_of_ble_eq_true rfl)⟩ ?_
    refine r_iadd dX6_settleDues_57 ?_
    refine r_iast dX6_settleDues_58 rfl (hs.lt rfl) (c := (fstN (kindF (σ 20) 4) P).toNat) (by omega) (by omega) ?_
    exact r_vret dX6_settleDues_59 rfl ⟨rfl, by
  first
  | (rw [if_pos h41]
     exact ⟨fin dd (fun j => by have := hpr j; omega) hph, rfl, rfl, rfl⟩)
  | (rw [if_neg h41, sr_comm (by omega), up_sr, sr_comm (by omega)]
     refine ⟨fin _ (fun j => ?_) (fun b hb => ?_), rfl, rfl, rfl⟩
     · have h1 := hpr j
       have h2 := hpr (fstN (kindF (σ 20) 4) P).toNat
       unfold ud
       split <;> omega
     · rw [ud_hi (by omega) hb]; exact hph b hb)⟩
end Dues
