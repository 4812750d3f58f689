/-! MODEL: comes, findWeights -/
theorem giveW_out {kd w : Nat → Int} {p P : Nat} {amt lord : Int} (hp : p < P) (hl : -1 ≤ lord ∧ lord < P) {b : Nat} (hb : P ≤ b) : giveW kd w p amt lord b = w b := by
  unfold giveW
  split
  · rw [ud_ne (by omega), ud_ne (by omega)]
  · rw [ud_ne (by omega)]
theorem ud_cg {w w' : Nat → Int} {P j : Nat} {z z' : Int} (h : ∀ b, b < P → w b = w' b) (hz : z = z') : ∀ b, b < P → ud w j z b = ud w' j z' b := by
  intro b hb
  unfold ud
  rw [h b hb, hz]
theorem giveW_cg {kd w w' : Nat → Int} {p P : Nat} {amt lord : Int} (hp : p < P) (hl : -1 ≤ lord ∧ lord < P) (h : ∀ b, b < P → w b = w' b) : ∀ b, b < P → giveW kd w p amt lord b = giveW kd w' p amt lord b := by
  unfold giveW
  split
  · rename_i q
    refine ud_cg (ud_cg h (by rw [h p hp])) ?_
    rw [ud_cg h (by rw [h p hp]) lord.toNat (by omega)]
  · exact ud_cg h (by rw [h p hp])
theorem giveW_two {kd w : Nat → Int} {p : Nat} {s lord : Int} (hs : 0 ≤ s) : giveW kd (giveW kd w p (30 * s) lord) p (30 * s) lord = giveW kd w p (60 * s) lord := by
  have e1 : 30 * s / 3 = 10 * s := by omega
  have e2 : 60 * s / 3 = 20 * s := by omega
  unfold giveW
  rw [e1, e2]
  by_cases h : kd p = 2 ∧ ¬ lord = -1 ∧ 0 < 10 * s
  · rw [if_pos h, if_pos h, if_pos ⟨h.1, h.2.1, by omega⟩]
    funext b
    unfold ud
    by_cases q1 : b = lord.toNat
    · by_cases q2 : lord.toNat = p
      · simp only [q1, q2, if_pos]; omega
      · simp only [q1, q2, if_pos, if_false]; omega
    · by_cases q2 : b = p
      · subst q2
        simp only [q1, if_pos, if_false]; omega
      · simp only [q1, q2, if_false]
  · rw [if_neg h, if_neg h, if_neg (fun q => h ⟨q.1, q.2.1, by omega⟩)]
    funext b
    unfold ud
    by_cases q2 : b = p
    · simp only [q2, if_pos]; omega
    · simp only [q2, if_false]
theorem wfold_out {so kd by_ hol obr : Nat → Int} {lord : Int} {w0 : Nat → Int} {P : Nat} (hl : -1 ≤ lord ∧ lord < P) (hh : ∀ c, hol c = -1 ∨ (0 ≤ by_ (hol c).toNat ∧ by_ (hol c).toNat < P)) (ho : ∀ c, -1 ≤ obr c ∧ obr c < P) {b : Nat} (hb : P ≤ b) : ∀ N : Nat, wfold so kd by_ hol obr lord w0 N b = w0 b
  | 0 => rfl
  | N + 1 => by
    have ih := wfold_out (so := so) (kd := kd) (w0 := w0) hl hh ho hb N
    show wstep so kd by_ hol obr lord (wfold so kd by_ hol obr lord w0 N) N b = _
    have h1 := hh N
    have h2 := ho N
    unfold wstep
    split
    · exact ih
    · rw [giveW_out (P := P) (by split <;> omega) hl hb, giveW_out (P := P) (by omega) hl hb, ih]
theorem wfold_cg {so kd by_ hol obr : Nat → Int} {lord : Int} {w0 w0' : Nat → Int} {P : Nat} (hl : -1 ≤ lord ∧ lord < P) (hh : ∀ c, hol c = -1 ∨ (0 ≤ by_ (hol c).toNat ∧ by_ (hol c).toNat < P)) (ho : ∀ c, -1 ≤ obr c ∧ obr c < P) (h0 : ∀ b, b < P → w0 b = w0' b) : ∀ N : Nat, ∀ b, b < P → wfold so kd by_ hol obr lord w0 N b = wfold so kd by_ hol obr lord w0' N b
  | 0 => h0
  | N + 1 => by
    have ih := wfold_cg (so := so) (kd := kd) hl hh ho h0 N
    intro b hb
    show wstep so kd by_ hol obr lord (wfold so kd by_ hol obr lord w0 N) N b = wstep so kd by_ hol obr lord (wfold so kd by_ hol obr lord w0' N) N b
    have h1 := hh N
    have h2 := ho N
    unfold wstep
    split
    · exact ih b hb
    · exact giveW_cg (P := P) (by split <;> omega) hl (giveW_cg (P := P) (by omega) hl ih) b hb
theorem giveW_R {kd w : Nat → Int} {p P : Nat} {amt lord : Int} (hp : p < P) (hl : -1 ≤ lord ∧ lord < P) (ha : 0 ≤ amt ∧ amt ≤ 270) (h : ∀ b, b < P → 0 ≤ w b ∧ w b ≤ 100000) (hr : ∀ b, R32 (w b)) : ∀ b, R32 (giveW kd w p amt lord b) := by
  intro b
  rcases Nat.lt_or_ge b P with q | q
  · have e := giveW_cg (kd := kd) (w := w) (w' := fun b => if b < P then w b else 0) (amt := amt) hp hl (fun b hb => (if_pos hb).symm) b q
    have h2 := giveW_r (kd := kd) (w := fun b => if b < P then w b else 0) (p := p) (amt := amt) (lord := lord) (B := 100000) (fun b => by
      show 0 ≤ (if b < P then w b else 0) ∧ (if b < P then w b else 0) ≤ 100000
      split
      · exact h b (by assumption)
      · omega) ha b
    rw [e]
    omega
  · rw [giveW_out hp hl q]; exact hr b
/-- the model's weights, its row as it is -/
def wP0 (P : Nat) (w : Nat → Int) : Nat → Int := fun b => if b < P then 0 else w b
def weiF (so us rd kd by_ wh pf dy ob oc od w : Nat → Int) (P C O : Nat) (day cl : Int) (N : Nat) : Nat → Int :=
  wfold so kd by_ (fun c => hold us rd wh pf dy C c day cl) (obrS us rd by_ wh pf dy ob oc od C O day cl) (fstN (kindF kd 3) P) (wP0 P w) N
section Model9
variable {l : Launch} {G : GG} {n : Nat} {ρ : Rho} {σ : Si} {W H P C O : Nat}
theorem m_comes (hs : Std n ρ) (hR : Rg σ) (hP : σ 38 10 = P) (hP8 : P ≤ 8) (w : Nat → Int) (hw : ∀ j, R32 (w j)) (p : Nat) (hp : p < 8) (amt : Int) (ha : 0 ≤ amt ∧ amt ≤ 1000) : CtV l G 1 mX9_comes n ρ (sr σ 60 w) [rf G 38, iv p, iv amt] (fun σ' => σ' = sr σ 60 (giveW (σ 45) w p amt (fstN (kindF (σ 45) 3) P))) := by
  have hk := hR 45 (by decide) p
  have e45 : sr σ 60 w 45 = σ 45 := rfl
  have e60 : sr σ 60 w 60 = w := rfl
  have hl := fstN_r (kindF (σ 45) 3) P
  have k1 : RdI l G 0 mX9_firstOf n ρ (sr σ 60 w) [rf G 38, iv 3] (fstN (kindF (σ 45) 3) P) := m_firstOf (σ := sr σ 60 w) hs (hR.sr hw) P hP hP8 3 (by omega)
  generalize fstN (kindF (σ 45) 3) P = lord at hl k1 ⊢
  refine Ct.of (L0 := [rf G 38, iv p, iv amt, xx, xx]) (by decide +kernel) (Nat.le_of_ble_eq_true rfl) rfl ?_
  refine r_aloadk_n dX9_comes_0 rfl ?_
  refine r_iconst dX9_comes_1 ?_
  refine q_callVr dX9_comes_2 (k1) ml_X9_208 okX9_firstOf rfl rfl (hs.lt rfl) rfl rfl (Nat.le_of_ble_eq_true rfl) (roomOK.of (by decide)) ⟨(Nat.le_of_ble_eq_true rfl), (Nat.le_of_ble_eq_true rfl)⟩ ?_
  refine r_istore_n dX9_comes_5 (Nat.le_of_ble_eq_true rfl) rfl s3 ?_
  refine r_aloadk_n dX9_comes_6 rfl ?_
  refine r_getr dX9_comes_7 fl_X9_36 rfl rfl (hs.lt rfl) (hs.rf rfl) ?_
  refine r_iload_n dX9_comes_10 rfl ?_
  refine r_iald dX9_comes_11 rfl (hs.lt rfl) rfl (by omega) ?_
  rw [e45]
  refine r_iconst dX9_comes_12 ?_
  refine r_icmpne (tgt := 27) dX9_comes_13 rfl (by omega) (by omega) (fun h13 => ?_) (fun h13 => ?_)
  · refine r_iconst dX9_comes_27 ?_
    refine r_istore dX9_comes_28 (Nat.le_of_ble_eq_true rfl) rfl s4 ?_
    refine r_aloadk_n dX9_comes_30 rfl ?_
    refine r_getr dX9_comes_31 fl_X9_90 rfl rfl (hs.lt rfl) (hs.rf rfl) ?_
    refine r_iload_n dX9_comes_34 rfl ?_
    refine r_dup2 dX9_comes_35 rfl rfl ?_
    refine r_iald dX9_comes_36 rfl (hs.lt rfl) rfl (by omega) ?_
    rw [e60]
    refine r_iload_n dX9_comes_37 rfl ?_
    refine r_iload dX9_comes_38 rfl ?_
    refine r_isub dX9_comes_40 ?_
    refine r_iadd dX9_comes_41 ?_
    refine r_iast dX9_comes_42 rfl (hs.lt rfl) rfl (by omega) ?_
    rw [up_sr]
    refine r_iload dX9_comes_43 rfl ?_
    refine r_ifle (tgt := 59) dX9_comes_45 rfl (by omega) (fun h45 => ?_) (fun h45 => absurd h45 (by decide))
    exact r_vret dX9_comes_59 rfl ⟨rfl, by
  try rw [up_sr]
  unfold giveW
  first
  | (rw [if_pos ⟨by omega, by omega, by omega⟩])
  | (rw [if_neg (by omega)]; congr 2; omega)⟩
  · refine r_iload_n dX9_comes_16 rfl ?_
    refine r_iconst dX9_comes_17 ?_
    refine r_icmpeq (tgt := 27) dX9_comes_18 rfl (by omega) (by omega) (fun h18 => ?_) (fun h18 => ?_)
    · refine r_iconst dX9_comes_27 ?_
      refine r_istore dX9_comes_28 (Nat.le_of_ble_eq_true rfl) rfl s4 ?_
      refine r_aloadk_n dX9_comes_30 rfl ?_
      refine r_getr dX9_comes_31 fl_X9_90 rfl rfl (hs.lt rfl) (hs.rf rfl) ?_
      refine r_iload_n dX9_comes_34 rfl ?_
      refine r_dup2 dX9_comes_35 rfl rfl ?_
      refine r_iald dX9_comes_36 rfl (hs.lt rfl) rfl (by omega) ?_
      rw [e60]
      refine r_iload_n dX9_comes_37 rfl ?_
      refine r_iload dX9_comes_38 rfl ?_
      refine r_isub dX9_comes_40 ?_
      refine r_iadd dX9_comes_41 ?_
      refine r_iast dX9_comes_42 rfl (hs.lt rfl) rfl (by omega) ?_
      rw [up_sr]
      refine r_iload dX9_comes_43 rfl ?_
      refine r_ifle (tgt := 59) dX9_comes_45 rfl (by omega) (fun h45 => ?_) (fun h45 => absurd h45 (by decide))
      exact r_vret dX9_comes_59 rfl ⟨rfl, by
  try rw [up_sr]
  unfold giveW
  first
  | (rw [if_pos ⟨by omega, by omega, by omega⟩])
  | (rw [if_neg (by omega)]; congr 2; omega)⟩
    · refine r_iload_n dX9_comes_21 rfl ?_
      refine r_iconst dX9_comes_22 ?_
      refine r_idiv dX9_comes_23 (by omega) (by omega) ?_
      refine r_goto (tgt := 28) dX9_comes_24 rfl ?_
      refine r_istore dX9_comes_28 (Nat.le_of_ble_eq_true rfl) rfl s4 ?_
      refine r_aloadk_n dX9_comes_30 rfl ?_
      refine r_getr dX9_comes_31 fl_X9_90 rfl rfl (hs.lt rfl) (hs.rf rfl) ?_
      refine r_iload_n dX9_comes_34 rfl ?_
      refine r_dup2 dX9_comes_35 rfl rfl ?_
      refine r_iald dX9_comes_36 rfl (hs.lt rfl) rfl (by omega) ?_
      rw [e60]
      refine r_iload_n dX9_comes_37 rfl ?_
      refine r_iload dX9_comes_38 rfl ?_
      refine r_isub dX9_comes_40 ?_
      refine r_iadd dX9_comes_41 ?_
      refine r_iast dX9_comes_42 rfl (hs.lt rfl) rfl (by omega) ?_
      rw [up_sr]
      refine r_iload dX9_comes_43 rfl ?_
      refine r_ifle (tgt := 59) dX9_comes_45 rfl (by omega) (fun h45 => ?_) (fun h45 => ?_)
      · exact r_vret dX9_comes_59 rfl ⟨rfl, by
  try rw [up_sr]
  unfold giveW
  first
  | (rw [if_pos ⟨by omega, by omega, by omega⟩])
  | (rw [if_neg (by omega)]; congr 2; omega)⟩
      · refine r_aloadk_n dX9_comes_48 rfl ?_
        refine r_getr dX9_comes_49 fl_X9_90 rfl rfl (hs.lt rfl) (hs.rf rfl) ?_
        refine r_iload_n dX9_comes_52 rfl ?_
        refine r_dup2 dX9_comes_53 rfl rfl ?_
        refine r_iald dX9_comes_54 rfl (hs.lt rfl) (c := lord.toNat) (by omega) (by omega) ?_
        rw [sr_same]
        refine r_iload dX9_comes_55 rfl ?_
        refine r_iadd dX9_comes_57 ?_
        refine r_iast dX9_comes_58 rfl (hs.lt rfl) (c := lord.toNat) (by omega) (by omega) ?_
        exact r_vret dX9_comes_59 rfl ⟨rfl, by
  try rw [up_sr]
  unfold giveW
  first
  | (rw [if_pos ⟨by omega, by omega, by omega⟩])
  | (rw [if_neg (by omega)]; congr 2; omega)⟩
set_option maxHeartbeats 8000000 in
theorem m_findWeights (hs : Std n ρ) (hR : Rg σ) (g : GeoM σ W H) (hso : ∀ c, 0 ≤ σ 39 c ∧ σ 39 c ≤ 9) (hrd : ∀ c, 0 ≤ σ 41 c ∧ σ 41 c ≤ 1) (hc : ClmM σ P C O) (cl : Int) (hcl : ClO σ C cl) (day : Int) (hd : R32 day) : CtV l G 4 mX9_findWeights n ρ σ [rf G 38, iv day] (fun σ' => ∃ wf : Nat → Int, wf = comW (weiF (σ 39) (σ 40) (σ 41) (σ 45) (σ 47) (σ 48) (σ 49) (σ 50) (σ 51) (σ 52) (σ 53) (σ 60) P C O day cl (W * H)) (fun p => gfold (σ 47) (σ 48) (σ 49) (σ 50) p day cl C) (60 * comS (σ 39) (σ 40) (σ 41) (W * H)) P P ∧ σ' = sr (sr σ 38 (ud (ud (σ 38) 38 (valS (σ 39) (σ 40) (σ 41) (W * H))) 42 (sumN wf P))) 60 wf) := by
  have hle := WH_le g.2.2.1.2 g.2.2.2.2
  obtain ⟨c1, c2, c3, c4, c5, c6, c7, c8⟩ := id hc
  have hl := fstN_r (kindF (σ 45) 3) P
  have hho : ∀ c, -1 ≤ hold (σ 40) (σ 41) (σ 48) (σ 49) (σ 50) C c day cl ∧ hold (σ 40) (σ 41) (σ 48) (σ 49) (σ 50) C c day cl < C := fun c => hold_r _ _ _ _ _ _ _ _ _
  have hfo : ∀ c : Nat, -1 ≤ fstN (objF (σ 40) (σ 41) (σ 47) (σ 48) (σ 49) (σ 50) (σ 51) (σ 52) (σ 53) C c day cl) O ∧ fstN (objF (σ 40) (σ 41) (σ 47) (σ 48) (σ 49) (σ 50) (σ 51) (σ 52) (σ 53) C c day cl) O < O := fun c => fstN_r _ _
  have hob : ∀ c, -1 ≤ obrS (σ 40) (σ 41) (σ 47) (σ 48) (σ 49) (σ 50) (σ 51) (σ 52) (σ 53) C O day cl c ∧ obrS (σ 40) (σ 41) (σ 47) (σ 48) (σ 49) (σ 50) (σ 51) (σ 52) (σ 53) C O day cl c < P := fun c => by
    have h := hfo c
    unfold obrS
    split
    · omega
    · have := c8 (fstN (objF (σ 40) (σ 41) (σ 47) (σ 48) (σ 49) (σ 50) (σ 51) (σ 52) (σ 53) C c day cl) O).toNat (by omega)
      omega
  have hhb : ∀ c, hold (σ 40) (σ 41) (σ 48) (σ 49) (σ 50) C c day cl = -1 ∨ (0 ≤ σ 47 (hold (σ 40) (σ 41) (σ 48) (σ 49) (σ 50) C c day cl).toNat ∧ σ 47 (hold (σ 40) (σ 41) (σ 48) (σ 49) (σ 50) C c day cl).toNat < P) := fun c => by
    have h := hho c
    by_cases q : hold (σ 40) (σ 41) (σ 48) (σ 49) (σ 50) C c day cl = -1
    · exact Or.inl q
    · exact Or.inr (c7 _ (by omega)).1
  have hcm := fun N => comS_r (so := σ 39) (us := σ 40) (rd := σ 41) (N := N) hso
  have hvl := fun N => valS_r (so := σ 39) (us := σ 40) (rd := σ 41) (N := N) hso
  have hr60 : ∀ j, R32 (σ 60 j) := hR 60 (by decide)
  have hwf : ∀ (N : Nat), N ≤ 80 → ∀ b, (b < P → 0 ≤ weiF (σ 39) (σ 40) (σ 41) (σ 45) (σ 47) (σ 48) (σ 49) (σ 50) (σ 51) (σ 52) (σ 53) (σ 60) P C O day cl N b ∧ weiF (σ 39) (σ 40) (σ 41) (σ 45) (σ 47) (σ 48) (σ 49) (σ 50) (σ 51) (σ 52) (σ 53) (σ 60) P C O day cl N b ≤ 86400) ∧ (P ≤ b → weiF (σ 39) (σ 40) (σ 41) (σ 45) (σ 47) (σ 48) (σ 49) (σ 50) (σ 51) (σ 52) (σ 53) (σ 60) P C O day cl N b = σ 60 b) := by
    intro N hN b
    refine ⟨fun hb => ?_, fun hb => ?_⟩
    · have h1 := wfold_cg (so := σ 39) (kd := σ 45) (by_ := σ 47) (hol := fun c => hold (σ 40) (σ 41) (σ 48) (σ 49) (σ 50) C c day cl) (obr := obrS (σ 40) (σ 41) (σ 47) (σ 48) (σ 49) (σ 50) (σ 51) (σ 52) (σ 53) C O day cl) (lord := fstN (kindF (σ 45) 3) P) (w0 := wP0 P (σ 60)) (w0' := zF) (P := P) hl hhb hob (fun b hb => if_pos hb) N b hb
      have h2 := wfold_r (so := σ 39) (kd := σ 45) (by_ := σ 47) (hol := fun c => hold (σ 40) (σ 41) (σ 48) (σ 49) (σ 50) C c day cl) (obr := obrS (σ 40) (σ 41) (σ 47) (σ 48) (σ 49) (σ 50) (σ 51) (σ 52) (σ 53) C O day cl) (lord := fstN (kindF (σ 45) 3) P) (w0 := zF) hso (fun b => by unfold zF; omega) N b
      unfold weiF
      rw [h1]
      omega
    · have h1 := wfold_out (so := σ 39) (kd := σ 45) (by_ := σ 47) (hol := fun c => hold (σ 40) (σ 41) (σ 48) (σ 49) (σ 50) C c day cl) (obr := obrS (σ 40) (σ 41) (σ 47) (σ 48) (σ 49) (σ 50) (σ 51) (σ 52) (σ 53) C O day cl) (lord := fstN (kindF (σ 45) 3) P) (w0 := wP0 P (σ 60)) (P := P) hl hhb hob hb N
      unfold weiF
      rw [h1]
      exact if_neg (by omega)
  have hwR : ∀ (N : Nat), N ≤ 80 → ∀ b, R32 (weiF (σ 39) (σ 40) (σ 41) (σ 45) (σ 47) (σ 48) (σ 49) (σ 50) (σ 51) (σ 52) (σ 53) (σ 60) P C O day cl N b) := fun N hN b => by
    have h := hwf N hN b
    rcases Nat.lt_or_ge b P with q | q
    · have := h.1 q; omega
    · rw [h.2 q]; exact hr60 b
  have hgt : ∀ p : Nat, 0 ≤ gfold (σ 47) (σ 48) (σ 49) (σ 50) p day cl C ∧ gfold (σ 47) (σ 48) (σ 49) (σ 50) p day cl C ≤ 50 := fun p => gfold_r C (fun i hi => (c7 i hi).2.1.2)
  have hfR : ∀ v w : Int, R32 v → R32 w → ∀ j, R32 (ud (ud (σ 38) 38 v) 42 w j) := fun v w hv hw => ud_R (ud_R (hR 38 (by decide)) hv) hw
  have k1 : ∀ (f w : Nat → Int), (∀ j, R32 (f j)) → (∀ j, R32 (w j)) → f 13 = C → f 33 = σ 38 33 → f 22 = σ 38 22 → ∀ c : Nat, c < 80 → RdI l G 1 mX9_holderOf n ρ (sr (sr σ 38 f) 60 w) [rf G 38, iv c, iv day] (hold (σ 40) (σ 41) (σ 48) (σ 49) (σ 50) C c day cl) := fun f w hf hw e1 e2 e3 c hc => m_holderOf (σ := sr (sr σ 38 f) 60 w) hs ((hR.sr hf).sr hw) hrd e1 c4 cl (fun i hi => by have := hcl i hi; show (¬ f 33 = 0 ∨ σ 50 i ≤ f 22) ↔ _; rw [e2, e3]; exact this) c hc day hd
  have k2 : ∀ (f w : Nat → Int), (∀ j, R32 (f j)) → (∀ j, R32 (w j)) → f 13 = C → f 18 = O → f 33 = σ 38 33 → f 22 = σ 38 22 → ∀ c : Nat, c < 80 → RdI l G 3 mX9_objectionOn n ρ (sr (sr σ 38 f) 60 w) [rf G 38, iv c, iv day] (fstN (objF (σ 40) (σ 41) (σ 47) (σ 48) (σ 49) (σ 50) (σ 51) (σ 52) (σ 53) C c day cl) O) := fun f w hf hw e1 e18 e2 e3 c hc => m_objectionOn (σ := sr (sr σ 38 f) 60 w) hs ((hR.sr hf).sr hw) hrd e1 c4 e18 c6 cl (fun i hi => by have := hcl i hi; show (¬ f 33 = 0 ∨ σ 50 i ≤ f 22) ↔ _; rw [e2, e3]; exact this) (fun o ho => (c8 o ho).2) c day (by omega) hd
  have k3 : ∀ (f w : Nat → Int), (∀ j, R32 (f j)) → (∀ j, R32 (w j)) → f 13 = C → f 33 = σ 38 33 → f 22 = σ 38 22 → ∀ p : Nat, p < 8 → RdI l G 1 mX9_gatesOf n ρ (sr (sr σ 38 f) 60 w) [rf G 38, iv p, iv day] (gfold (σ 47) (σ 48) (σ 49) (σ 50) p day cl C) := fun f w hf hw e1 e2 e3 p hp => m_gatesOf (σ := sr (sr σ 38 f) 60 w) hs ((hR.sr hf).sr hw) e1 c4 cl (fun i hi => by have := hcl i hi; show (¬ f 33 = 0 ∨ σ 50 i ≤ f 22) ↔ _; rw [e2, e3]; exact this) (fun i hi => ⟨(c7 i hi).2.1, (c7 i hi).2.2.2⟩) p day (by omega) hd
  have k4 : ∀ (f w : Nat → Int), (∀ j, R32 (f j)) → (∀ j, R32 (w j)) → ∀ c : Nat, c < 80 → RdI l G 0 mX9_isPlain n ρ (sr (sr σ 38 f) 60 w) [rf G 38, iv c] (bi (¬ σ 40 c = 2 ∧ σ 41 c = 0)) := fun f w hf hw c hc => m_isPlain (σ := sr (sr σ 38 f) 60 w) hs ((hR.sr hf).sr hw) c hc
  have k5 : ∀ (f w : Nat → Int), f 1 = W → f 2 = H → RdI l G 0 mX9_cells n ρ (sr (sr σ 38 f) 60 w) [rf G 38] (W * H : Nat) := fun f w e1 e2 => m_cells (σ := sr (sr σ 38 f) 60 w) hs ⟨e1, e2, g.2.2⟩
  have k6 : ∀ (f w : Nat → Int), (∀ j, R32 (f j)) → (∀ j, R32 (w j)) → f 10 = P → ∀ p : Nat, p < 8 → ∀ amt : Int, (0 ≤ amt ∧ amt ≤ 1000) → CtV l G 1 mX9_comes n ρ (sr (sr σ 38 f) 60 w) [rf G 38, iv p, iv amt] (fun σ' => σ' = sr (sr σ 38 f) 60 (giveW (σ 45) w p amt (fstN (kindF (σ 45) 3) P))) := fun f w hf hw e p hp amt ha => m_comes (σ := sr σ 38 f) hs (hR.sr hf) e c2 w hw p hp amt ha
  generalize hWF : weiF (σ 39) (σ 40) (σ 41) (σ 45) (σ 47) (σ 48) (σ 49) (σ 50) (σ 51) (σ 52) (σ 53) (σ 60) P C O day cl = wF at hwf hwR ⊢
  have wF0 : wF 0 = wP0 P (σ 60) := by rw [← hWF]; rfl
  have wFS : ∀ N, wF (N + 1) = wstep (σ 39) (σ 45) (σ 47) (fun c => hold (σ 40) (σ 41) (σ 48) (σ 49) (σ 50) C c day cl) (obrS (σ 40) (σ 41) (σ 47) (σ 48) (σ 49) (σ 50) (σ 51) (σ 52) (σ 53) C O day cl) (fstN (kindF (σ 45) 3) P) (wF N) N := fun N => by rw [← hWF]; rfl
  generalize hGT : (fun p : Nat => gfold (σ 47) (σ 48) (σ 49) (σ 50) p day cl C) = gts
  have hG' : ∀ p : Nat, gfold (σ 47) (σ 48) (σ 49) (σ 50) p day cl C = gts p := fun p => by rw [← hGT]
  simp only [hG'] at k3 hgt
  have hall : 0 ≤ sumN gts P ∧ sumN gts P ≤ 400 := by
    have := sumN_r (f := gts) (a := 0) (b := 50) P (fun i _ => hgt i)
    omega
  have hcmN := hcm (W * H)
  have hvlN := hvl (W * H)
  generalize hCM : comS (σ 39) (σ 40) (σ 41) (W * H) = cmm at hcmN ⊢
  generalize hV : valS (σ 39) (σ 40) (σ 41) (W * H) = vv at hvlN ⊢
  have hcw : ∀ i, i ≤ P → ∀ b, (b < P → 0 ≤ comW (wF (W * H)) gts (60 * cmm) P i b ∧ comW (wF (W * H)) gts (60 * cmm) P i b ≤ 200000) ∧ (P ≤ b → comW (wF (W * H)) gts (60 * cmm) P i b = σ 60 b) := by
    intro i hi b
    refine ⟨fun hb => ?_, fun hb => ?_⟩
    · have h1 := comW_r (w := fun b => if b < P then wF (W * H) b else 0) (gts := gts) (wt := 60 * cmm) (B := 86400) (P := P) (i := i) (fun b => by
        show 0 ≤ (if b < P then wF (W * H) b else 0) ∧ (if b < P then wF (W * H) b else 0) ≤ 86400
        split
        · exact (hwf (W * H) hle b).1 (by assumption)
        · omega) (fun b _ => (hgt b).1) hi (by omega) b
      have e : comW (fun b => if b < P then wF (W * H) b else 0) gts (60 * cmm) P i b = comW (wF (W * H)) gts (60 * cmm) P i b := by unfold comW; simp only [if_pos hb]
      rw [e] at h1
      omega
    · unfold comW
      rw [if_neg (by omega)]
      exact (hwf (W * H) hle b).2 hb
  have hcR : ∀ i, i ≤ P → ∀ b, R32 (comW (wF (W * H)) gts (60 * cmm) P i b) := fun i hi b => by
    have h := hcw i hi b
    rcases Nat.lt_or_ge b P with q | q
    · have := h.1 q; omega
    · rw [h.2 q]; exact hr60 b
  generalize hQ : (fun (σ' : Si) => ∃ wf : Nat → Int, wf = comW (wF (W * H)) gts (60 * cmm) P P ∧ σ' = sr (sr σ 38 (ud (ud (σ 38) 38 vv) 42 (sumN wf P))) 60 wf) = Q
  have loop4 : ∀ (m i : Nat) (sm : Int), i + m = P → sm = sumN (comW (wF (W * H)) gts (60 * cmm) P P) i → ∀ x5 : Value, RW (KV l G 4 mX9_findWeights n ρ Q) (0, 0, n, ρ) (sr (sr σ 38 (ud (ud (σ 38) 38 vv) 42 sm)) 60 (comW (wF (W * H)) gts (60 * cmm) P i)) 220 [rf G 38, iv day, iv cmm, iv (sumN gts P), iv i, x5] [] := by
    intro m
    induction m with
    | zero =>
      intro i sm hi hsm x5
      have e : i = P := by omega
      subst e
      refine r_iload dX9_findWeights_220 rfl ?_
      refine r_aloadk_n dX9_findWeights_222 rfl ?_
      refine r_geti dX9_findWeights_223 fl_X9_139 rfl rfl (hs.lt rfl) ?_
      refine r_icmpge (tgt := 283) dX9_findWeights_226 rfl (by omega) (by show R32 (σ 38 10); omega) (fun h226 => ?_) (fun h226 => ?_)
      · exact r_vret dX9_findWeights_283 rfl ⟨rfl, by rw [← hQ]; exact ⟨_, rfl, by rw [hsm]⟩⟩
      · exact absurd h226 (by show ¬ (i : Int) < σ 38 10; omega)
    | succ m ih =>
      intro i sm hi hsm x5
      have hgi := hgt i
      have hwi := (hcw i (by omega) i).1 (by omega)
      have hmul : 0 ≤ 60 * cmm * gts i ∧ 60 * cmm * gts i ≤ 50000 * 50 := ⟨Int.mul_nonneg (by omega) hgi.1, Int.mul_le_mul (by omega) hgi.2 hgi.1 (by omega)⟩
      have hsm2 := sumN_r (f := comW (wF (W * H)) gts (60 * cmm) P P) (a := 0) (b := 200000) i (fun b hb => (hcw P (Nat.le_refl P) b).1 (by omega))
      have ew : comW (wF (W * H)) gts (60 * cmm) P i i = wF (W * H) i := by unfold comW; rw [if_neg (by omega)]
      have eP : comW (wF (W * H)) gts (60 * cmm) P (i + 1) i = comW (wF (W * H)) gts (60 * cmm) P P i := by
        unfold comW
        by_cases q : 0 < sumN gts P
        · rw [if_pos ⟨by omega, q⟩, if_pos ⟨by omega, q⟩]
        · rw [if_neg (fun r => q r.2), if_neg (fun r => q r.2)]
      have eu : ∀ z : Int, z = comW (wF (W * H)) gts (60 * cmm) P (i + 1) i → ud (comW (wF (W * H)) gts (60 * cmm) P i) i z = comW (wF (W * H)) gts (60 * cmm) P (i + 1) := by
        intro z hz
        funext j
        unfold ud
        by_cases h : j = i
        · rw [if_pos h, hz, h]
        · rw [if_neg h]
          unfold comW
          by_cases h2 : j < i ∧ 0 < sumN gts P
          · rw [if_pos h2, if_pos ⟨by omega, h2.2⟩]
          · rw [if_neg h2, if_neg (by omega)]
      have L259 : ∀ z : Int, comW (wF (W * H)) gts (60 * cmm) P i i + z = comW (wF (W * H)) gts (60 * cmm) P (i + 1) i → RW (KV l G 4 mX9_findWeights n ρ Q) (0, 0, n, ρ) (sr (sr σ 38 (ud (ud (σ 38) 38 vv) 42 sm)) 60 (comW (wF (W * H)) gts (60 * cmm) P i)) 259 [rf G 38, iv day, iv cmm, iv (sumN gts P), iv i, x5] [iv z, iv (comW (wF (W * H)) gts (60 * cmm) P i i), iv i, rf G 60] := by
        intro z hz
        refine r_iadd dX9_findWeights_259 ?_
        refine r_iast dX9_findWeights_260 rfl (hs.lt rfl) rfl (by omega) ?_
        rw [up_sr, eu _ hz]
        refine r_aloadk_n dX9_findWeights_261 rfl ?_
        refine r_dup dX9_findWeights_262 rfl ?_
        refine r_geti dX9_findWeights_263 fl_X9_227 rfl rfl (hs.lt rfl) ?_
        refine r_aloadk_n dX9_findWeights_266 rfl ?_
        refine r_getr dX9_findWeights_267 fl_X9_90 rfl rfl (hs.lt rfl) (hs.rf rfl) ?_
        refine r_iload dX9_findWeights_270 rfl ?_
        refine r_iald dX9_findWeights_272 rfl (hs.lt rfl) rfl (by omega) ?_
        refine show RW _ _ _ _ _ (iv (comW (wF (W * H)) gts (60 * cmm) P (i + 1) i) :: iv sm :: _) from ?_
        refine r_iadd dX9_findWeights_273 ?_
        refine r_puti dX9_findWeights_274 fl_X9_227 rfl (hs.lt rfl) ?_
        refine r_iinc dX9_findWeights_277 (Nat.le_of_ble_eq_true rfl) rfl rfl s4 ?_
        refine r_goto (tgt := 220) dX9_findWeights_280 rfl ?_
        rw [sr_comm (by omega), up_sr, sr_comm (by omega)]
        have e : ud (ud (ud (σ 38) 38 vv) 42 sm) 42 (sm + comW (wF (W * H)) gts (60 * cmm) P (i + 1) i) = ud (ud (σ 38) 38 vv) 42 (sm + comW (wF (W * H)) gts (60 * cmm) P (i + 1) i) := by
          funext j
          unfold ud
          split <;> rfl
        rw [e]
        refine ih (i + 1) _ (by omega) ?_ _
        rw [hsm, eP]
        rfl
      refine r_iload dX9_findWeights_220 rfl ?_
      refine r_aloadk_n dX9_findWeights_222 rfl ?_
      refine r_geti dX9_findWeights_223 fl_X9_139 rfl rfl (hs.lt rfl) ?_
      refine r_icmpge (tgt := 283) dX9_findWeights_226 rfl (by omega) (by show R32 (σ 38 10); omega) (fun h226 => ?_) (fun h226 => ?_)
      · exact absurd h226 (by show ¬ σ 38 10 ≤ (i : Int); omega)
      · refine r_aloadk_n dX9_findWeights_229 rfl ?_
        refine r_getr dX9_findWeights_230 fl_X9_90 rfl rfl (hs.lt rfl) (hs.rf rfl) ?_
        refine r_iload dX9_findWeights_233 rfl ?_
        refine r_dup2 dX9_findWeights_235 rfl rfl ?_
        refine r_iald dX9_findWeights_236 rfl (hs.lt rfl) rfl (by omega) ?_
        refine r_iload_n dX9_findWeights_237 rfl ?_
        refine r_ifne (tgt := 245) dX9_findWeights_238 rfl (by omega) (fun h238 => ?_) (fun h238 => ?_)
        · refine r_bipush dX9_findWeights_245 ?_
          refine r_iload_n dX9_findWeights_247 rfl ?_
          refine r_imul dX9_findWeights_248 ?_
          refine r_aloadk_n dX9_findWeights_249 rfl ?_
          refine r_iload dX9_findWeights_250 rfl ?_
          refine r_iload_n dX9_findWeights_252 rfl ?_
          refine q_callVr dX9_findWeights_253 (k3 _ _ (hfR _ _ (by omega) (by omega)) (hcR i (by omega)) c3 rfl rfl i (by omega)) ml_X9_224 okX9_gatesOf rfl rfl (hs.lt rfl) rfl rfl (Nat.le_of_ble_eq_true rfl) (roomOK.of (by decide)) ⟨(Nat.le_of_ble_eq_true rfl), (Nat.le_of_ble_eq_true rfl)⟩ ?_
          refine r_imul dX9_findWeights_256 ?_
          refine r_iload_n dX9_findWeights_257 rfl ?_
          refine r_idiv dX9_findWeights_258 (by omega) (by omega) ?_
          first
          | (refine L259 0 ?_
             unfold comW
             rw [if_neg (by omega), if_neg (by omega)]; omega)
          | (refine L259 _ ?_
             rw [ew]
             unfold comW
             rw [if_pos ⟨by omega, by omega⟩])
        · refine r_iconst dX9_findWeights_241 ?_
          refine r_goto (tgt := 259) dX9_findWeights_242 rfl ?_
          first
          | (refine L259 0 ?_
             unfold comW
             rw [if_neg (by omega), if_neg (by omega)]; omega)
          | (refine L259 _ ?_
             rw [ew]
             unfold comW
             rw [if_pos ⟨by omega, by omega⟩])
  have loop3 : ∀ (m i : Nat), i + m = P → ∀ x5 : Value, RW (KV l G 4 mX9_findWeights n ρ Q) (0, 0, n, ρ) (sr (sr σ 38 (ud (σ 38) 38 vv)) 60 (wF (W * H))) 187 [rf G 38, iv day, iv cmm, iv (sumN gts i), iv i, x5] [] := by
    intro m
    induction m with
    | zero =>
      intro i hi x5
      have e : i = P := by omega
      subst e
      refine r_iload dX9_findWeights_187 rfl ?_
      refine r_aloadk_n dX9_findWeights_189 rfl ?_
      refine r_geti dX9_findWeights_190 fl_X9_139 rfl rfl (hs.lt rfl) ?_
      refine r_icmpge (tgt := 212) dX9_findWeights_193 rfl (by omega) (by show R32 (σ 38 10); omega) (fun h193 => ?_) (fun h193 => ?_)
      · refine r_aloadk_n dX9_findWeights_212 rfl ?_
        refine r_iconst dX9_findWeights_213 ?_
        refine r_puti dX9_findWeights_214 fl_X9_227 rfl (hs.lt rfl) ?_
        refine r_iconst dX9_findWeights_217 ?_
        refine r_istore dX9_findWeights_218 (Nat.le_of_ble_eq_true rfl) rfl s4 ?_
        rw [sr_comm (by omega), up_sr, sr_comm (by omega)]
        have h := loop4 i 0 0 (by omega) rfl x5
        have e : comW (wF (W * H)) gts (60 * cmm) i 0 = wF (W * H) := by funext j; unfold comW; rw [if_neg (by omega)]
        rw [e] at h
        exact h
      · exact absurd h193 (by show ¬ (i : Int) < σ 38 10; omega)
    | succ m ih =>
      intro i hi x5
      refine r_iload dX9_findWeights_187 rfl ?_
      refine r_aloadk_n dX9_findWeights_189 rfl ?_
      refine r_geti dX9_findWeights_190 fl_X9_139 rfl rfl (hs.lt rfl) ?_
      refine r_icmpge (tgt := 212) dX9_findWeights_193 rfl (by omega) (by show R32 (σ 38 10); omega) (fun h193 => ?_) (fun h193 => ?_)
      · exact absurd h193 (by show ¬ σ 38 10 ≤ (i : Int); omega)
      · refine r_iload_n dX9_findWeights_196 rfl ?_
        refine r_aloadk_n dX9_findWeights_197 rfl ?_
        refine r_iload dX9_findWeights_198 rfl ?_
        refine r_iload_n dX9_findWeights_200 rfl ?_
        refine q_callVr dX9_findWeights_201 (k3 (ud (σ 38) 38 vv) _ (ud_R (hR 38 (by decide)) (by omega)) (hwR (W * H) hle) c3 rfl rfl i (by omega)) ml_X9_224 okX9_gatesOf rfl rfl (hs.lt rfl) rfl rfl (Nat.le_of_ble_eq_true rfl) (roomOK.of (by decide)) ⟨(Nat.le_of_ble_eq_true rfl), (Nat.le_of_ble_eq_true rfl)⟩ ?_
        refine r_iadd dX9_findWeights_204 ?_
        refine r_istore_n dX9_findWeights_205 (Nat.le_of_ble_eq_true rfl) rfl s3 ?_
        refine r_iinc dX9_findWeights_206 (Nat.le_of_ble_eq_true rfl) rfl rfl s4 ?_
        refine r_goto (tgt := 187) dX9_findWeights_209 rfl ?_
        exact ih (i + 1) (by omega) x5
  have loop2 : ∀ (m i : Nat) (x4 x5 : Value), i + m = W * H → isJ x4 = false → isJ x5 = false → RW (KV l G 4 mX9_findWeights n ρ Q) (0, 0, n, ρ) (sr (sr σ 38 (ud (σ 38) 38 (valS (σ 39) (σ 40) (σ 41) i))) 60 (wF i)) 32 [rf G 38, iv day, iv (comS (σ 39) (σ 40) (σ 41) i), iv i, x4, x5] [] := by
    intro m
    induction m with
    | zero =>
      intro i x4 x5 hi hx4 hx5
      have e : i = W * H := by omega
      subst e
      rw [hCM, hV]
      refine r_iload_n dX9_findWeights_32 rfl ?_
      refine r_aloadk_n dX9_findWeights_33 rfl ?_
      refine q_callVr dX9_findWeights_34 (k5 _ _ g.1 g.2.1) ml_X9_148 okX9_cells rfl rfl (hs.lt rfl) rfl rfl (Nat.le_of_ble_eq_true rfl) (roomOK.of (by decide)) ⟨(Nat.le_of_ble_eq_true rfl), (Nat.le_of_ble_eq_true rfl)⟩ ?_
      refine r_icmpge (tgt := 182) dX9_findWeights_37 rfl (by omega) (by omega) (fun h37 => ?_) (fun h37 => ?_)
      · refine r_iconst dX9_findWeights_182 ?_
        refine r_istore_n dX9_findWeights_183 (Nat.le_of_ble_eq_true rfl) rfl s3 ?_
        refine r_iconst dX9_findWeights_184 ?_
        refine r_istore dX9_findWeights_185 (Nat.le_of_ble_eq_true rfl) rfl s4 ?_
        exact loop3 P 0 (by omega) _
      · omega
    | succ m ih =>
      intro i x4 x5 hi hx4 hx5
      have hvi := hvl i
      have hvi1 := hvl (i + 1)
      have hci := hcm i
      have hsi := hso i
      have hhi := hho i
      have hfi := hfo i
      have hf1 : ∀ j, R32 (ud (σ 38) 38 (valS (σ 39) (σ 40) (σ 41) (i + 1)) j) := ud_R (hR 38 (by decide)) (by omega)
      have hf0 : ∀ j, R32 (ud (σ 38) 38 (valS (σ 39) (σ 40) (σ 41) i) j) := ud_R (hR 38 (by decide)) (by omega)
      have hw := hwR i (by omega)
      have es := wFS i
      have nx : ∀ (cm2 : Int) (w : Nat → Int) (x4 x5 : Value), cm2 = comS (σ 39) (σ 40) (σ 41) (i + 1) → w = wF (i + 1) → isJ x4 = false → isJ x5 = false → RW (KV l G 4 mX9_findWeights n ρ Q) (0, 0, n, ρ) (sr (sr σ 38 (ud (σ 38) 38 (valS (σ 39) (σ 40) (σ 41) (i + 1)))) 60 w) 32 [rf G 38, iv day, iv cm2, iv (i + 1 : Nat), x4, x5] [] := by
        intro cm2 w x4 x5 h1 h2 h3 h4
        rw [h1, h2]
        exact ih (i + 1) x4 x5 (by omega) h3 h4
      have L97 : ∀ cm2 : Int, cm2 = comS (σ 39) (σ 40) (σ 41) (i + 1) → RW (KV l G 4 mX9_findWeights n ρ Q) (0, 0, n, ρ) (sr (sr σ 38 (ud (σ 38) 38 (valS (σ 39) (σ 40) (σ 41) (i + 1)))) 60 (wF i)) 97 [rf G 38, iv day, iv cm2, iv i, x4, x5] [] := by
        intro cm2 hcm2
        generalize hH : hold (σ 40) (σ 41) (σ 48) (σ 49) (σ 50) C i day cl = hol at hhi
        have kk1 := k1 _ _ hf1 hw c3 rfl rfl i (by omega)
        rw [hH] at kk1
        have kk2 := k2 _ _ hf1 hw c3 c5 rfl rfl i (by omega)
        generalize hF : fstN (objF (σ 40) (σ 41) (σ 47) (σ 48) (σ 49) (σ 50) (σ 51) (σ 52) (σ 53) C i day cl) O = fo at hfi kk2
        have hobr : obrS (σ 40) (σ 41) (σ 47) (σ 48) (σ 49) (σ 50) (σ 51) (σ 52) (σ 53) C O day cl i = if fo = -1 then -1 else σ 51 fo.toNat := by unfold obrS; rw [hF]
        have hlr : -1 ≤ fstN (kindF (σ 45) 3) P ∧ fstN (kindF (σ 45) 3) P < P := hl
        have A : ∀ (h : Int) (b : Nat), b < 8 → giveW (σ 45) (wF i) b (60 * σ 39 i) (fstN (kindF (σ 45) 3) P) = wF (i + 1) → RW (KV l G 4 mX9_findWeights n ρ Q) (0, 0, n, ρ) (sr (sr σ 38 (ud (σ 38) 38 (valS (σ 39) (σ 40) (σ 41) (i + 1)))) 60 (wF i)) 140 [rf G 38, iv day, iv cm2, iv i, iv h, iv (-1)] [iv 60, iv b, rf G 38] := by
          intro h b hb hfin
          refine r_aloadk_n dX9_findWeights_140 rfl ?_
          refine r_getr dX9_findWeights_141 fl_X9_16 rfl rfl (hs.lt rfl) (hs.rf rfl) ?_
          refine r_iload_n dX9_findWeights_144 rfl ?_
          refine r_iald dX9_findWeights_145 rfl (hs.lt rfl) rfl (by omega) ?_
          refine r_imul dX9_findWeights_146 ?_
          refine q_callVv dX9_findWeights_147 (k6 _ _ hf1 hw c1 b hb (60 * σ 39 i) (by omega)) ml_X9_220 okX9_comes rfl rfl (hs.lt rfl) rfl rfl (Nat.le_of_ble_eq_true rfl) (roomOK.of (by decide)) ⟨(Nat.le_of_ble_eq_true rfl), (Nat.le_of_ble_eq_true rfl)⟩ (fun σ1 hq1 => ?_)
          subst hq1
          refine r_iload dX9_findWeights_150 rfl ?_
          refine r_iconst dX9_findWeights_152 ?_
          refine r_icmpeq (tgt := 176) dX9_findWeights_153 rfl (by omega) (by omega) (fun h153 => ?_) (fun h153 => ?_)
          · refine r_iinc dX9_findWeights_176 (Nat.le_of_ble_eq_true rfl) rfl rfl s3 ?_
            refine r_goto (tgt := 32) dX9_findWeights_179 rfl ?_
            exact nx cm2 _ _ _ hcm2 hfin rfl rfl
          · exact absurd rfl h153
        have B : ∀ (h : Int) (b o q : Nat), b < P → o < 20 → q < P → σ 51 o = q → giveW (σ 45) (giveW (σ 45) (wF i) b (30 * σ 39 i) (fstN (kindF (σ 45) 3) P)) q (30 * σ 39 i) (fstN (kindF (σ 45) 3) P) = wF (i + 1) → RW (KV l G 4 mX9_findWeights n ρ Q) (0, 0, n, ρ) (sr (sr σ 38 (ud (σ 38) 38 (valS (σ 39) (σ 40) (σ 41) (i + 1)))) 60 (wF i)) 140 [rf G 38, iv day, iv cm2, iv i, iv h, iv o] [iv 30, iv b, rf G 38] := by
          intro h b o q hb ho hq hqo hfin
          have hgw := giveW_R (kd := σ 45) (w := wF i) (p := b) (P := P) (amt := 30 * σ 39 i) hb hlr (by omega) (fun b hb => by have := (hwf i (by omega) b).1 hb; omega) hw
          refine r_aloadk_n dX9_findWeights_140 rfl ?_
          refine r_getr dX9_findWeights_141 fl_X9_16 rfl rfl (hs.lt rfl) (hs.rf rfl) ?_
          refine r_iload_n dX9_findWeights_144 rfl ?_
          refine r_iald dX9_findWeights_145 rfl (hs.lt rfl) rfl (by omega) ?_
          refine r_imul dX9_findWeights_146 ?_
          refine q_callVv dX9_findWeights_147 (k6 _ _ hf1 hw c1 b (by omega) (30 * σ 39 i) (by omega)) ml_X9_220 okX9_comes rfl rfl (hs.lt rfl) rfl rfl (Nat.le_of_ble_eq_true rfl) (roomOK.of (by decide)) ⟨(Nat.le_of_ble_eq_true rfl), (Nat.le_of_ble_eq_true rfl)⟩ (fun σ1 hq1 => ?_)
          subst hq1
          refine r_iload dX9_findWeights_150 rfl ?_
          refine r_iconst dX9_findWeights_152 ?_
          refine r_icmpeq (tgt := 176) dX9_findWeights_153 rfl (by omega) (by omega) (fun h153 => ?_) (fun h153 => ?_)
          · omega
          · refine r_aloadk_n dX9_findWeights_156 rfl ?_
            refine r_aloadk_n dX9_findWeights_157 rfl ?_
            refine r_getr dX9_findWeights_158 fl_X9_54 rfl rfl (hs.lt rfl) (hs.rf rfl) ?_
            refine r_iload dX9_findWeights_161 rfl ?_
            refine r_iald dX9_findWeights_163 rfl (hs.lt rfl) rfl (by omega) ?_
            refine show RW _ _ _ _ _ (iv (σ 51 o) :: _) from ?_
            rw [hqo]
            refine r_bipush dX9_findWeights_164 ?_
            refine r_aloadk_n dX9_findWeights_166 rfl ?_
            refine r_getr dX9_findWeights_167 fl_X9_16 rfl rfl (hs.lt rfl) (hs.rf rfl) ?_
            refine r_iload_n dX9_findWeights_170 rfl ?_
            refine r_iald dX9_findWeights_171 rfl (hs.lt rfl) rfl (by omega) ?_
            refine r_imul dX9_findWeights_172 ?_
            refine q_callVv dX9_findWeights_173 (k6 _ _ hf1 hgw c1 q (by omega) (30 * σ 39 i) (by omega)) ml_X9_220 okX9_comes rfl rfl (hs.lt rfl) rfl rfl (Nat.le_of_ble_eq_true rfl) (roomOK.of (by decide)) ⟨(Nat.le_of_ble_eq_true rfl), (Nat.le_of_ble_eq_true rfl)⟩ (fun σ1 hq1 => ?_)
            subst hq1
            refine r_iinc dX9_findWeights_176 (Nat.le_of_ble_eq_true rfl) rfl rfl s3 ?_
            refine r_goto (tgt := 32) dX9_findWeights_179 rfl ?_
            exact nx cm2 _ _ _ hcm2 hfin rfl rfl
        refine r_aloadk_n dX9_findWeights_97 rfl ?_
        refine r_iload_n dX9_findWeights_98 rfl ?_
        refine r_iload_n dX9_findWeights_99 rfl ?_
        refine q_callVr dX9_findWeights_100 (kk1) ml_X9_202 okX9_holderOf rfl rfl (hs.lt rfl) rfl rfl (Nat.le_of_ble_eq_true rfl) (roomOK.of (by decide)) ⟨(Nat.le_of_ble_eq_true rfl), (Nat.le_of_ble_eq_true rfl)⟩ ?_
        refine r_istore dX9_findWeights_103 (Nat.le_of_ble_eq_true rfl) rfl s4 ?_
        refine r_iload dX9_findWeights_105 rfl ?_
        refine r_iconst dX9_findWeights_107 ?_
        refine r_icmpeq (tgt := 176) dX9_findWeights_108 rfl (by omega) (by omega) (fun h108 => ?_) (fun h108 => ?_)
        · refine r_iinc dX9_findWeights_176 (Nat.le_of_ble_eq_true rfl) rfl rfl s3 ?_
          refine r_goto (tgt := 32) dX9_findWeights_179 rfl ?_
          refine nx cm2 _ _ _ hcm2 ?_ rfl (by assumption)
          rw [es]; unfold wstep; rw [if_pos (by show hold (σ 40) (σ 41) (σ 48) (σ 49) (σ 50) C i day cl = -1; rw [hH]; exact h108)]
        · obtain ⟨h, hh⟩ : ∃ h : Nat, hol = h := ⟨hol.toNat, by omega⟩
          subst hh
          have hby := c7 h (by omega)
          obtain ⟨b, hb⟩ : ∃ b : Nat, σ 47 h = b := ⟨(σ 47 h).toNat, by omega⟩
          have hfin : giveW (σ 45) (giveW (σ 45) (wF i) b (30 * σ 39 i) (fstN (kindF (σ 45) 3) P)) ((if fo = -1 then (b : Int) else σ 51 fo.toNat).toNat) (30 * σ 39 i) (fstN (kindF (σ 45) 3) P) = wF (i + 1) := by
            rw [es]
            unfold wstep
            rw [if_neg (show ¬ hold (σ 40) (σ 41) (σ 48) (σ 49) (σ 50) C i day cl = -1 by rw [hH]; omega)]
            show _ = giveW (σ 45) (giveW (σ 45) (wF i) (σ 47 (hold (σ 40) (σ 41) (σ 48) (σ 49) (σ 50) C i day cl).toNat).toNat _ _) ((if obrS (σ 40) (σ 41) (σ 47) (σ 48) (σ 49) (σ 50) (σ 51) (σ 52) (σ 53) C O day cl i = -1 then σ 47 (hold (σ 40) (σ 41) (σ 48) (σ 49) (σ 50) C i day cl).toNat else obrS (σ 40) (σ 41) (σ 47) (σ 48) (σ 49) (σ 50) (σ 51) (σ 52) (σ 53) C O day cl i).toNat) _ _
            rw [hH, Int.toNat_natCast, hb, Int.toNat_natCast, hobr]
            by_cases q : fo = -1
            · rw [if_pos q, if_pos q, if_pos rfl]
            · have := c8 fo.toNat (by omega)
              rw [if_neg q, if_neg q, if_neg (by omega)]
          refine r_aloadk_n dX9_findWeights_111 rfl ?_
          refine r_iload_n dX9_findWeights_112 rfl ?_
          refine r_iload_n dX9_findWeights_113 rfl ?_
          refine q_callVr dX9_findWeights_114 (kk2) ml_X9_217 okX9_objectionOn rfl rfl (hs.lt rfl) rfl rfl (Nat.le_of_ble_eq_true rfl) (roomOK.of (by decide)) ⟨(Nat.le_of_ble_eq_true rfl), (Nat.le_of_ble_eq_true rfl)⟩ ?_
          refine r_istore dX9_findWeights_117 (Nat.le_of_ble_eq_true rfl) rfl s5 ?_
          refine r_aloadk_n dX9_findWeights_119 rfl ?_
          refine r_aloadk_n dX9_findWeights_120 rfl ?_
          refine r_getr dX9_findWeights_121 fl_X9_42 rfl rfl (hs.lt rfl) (hs.rf rfl) ?_
          refine r_iload dX9_findWeights_124 rfl ?_
          refine r_iald dX9_findWeights_126 rfl (hs.lt rfl) rfl (by omega) ?_
          refine show RW _ _ _ _ _ (iv (σ 47 h) :: _) from ?_
          rw [hb]
          refine r_iload dX9_findWeights_127 rfl ?_
          refine r_iconst dX9_findWeights_129 ?_
          refine r_icmpne (tgt := 138) dX9_findWeights_130 rfl (by omega) (by omega) (fun h130 => ?_) (fun h130 => ?_)
          · refine r_bipush dX9_findWeights_138 ?_
            first
            | (have q : fo = -1 := by omega
               rw [if_pos q, Int.toNat_natCast, giveW_two hsi.1] at hfin
               rw [q]
               exact A h b (by omega) hfin)
            | (obtain ⟨o, ho⟩ : ∃ o : Nat, fo = o := ⟨fo.toNat, by omega⟩
               have ho8 := c8 o (by omega)
               obtain ⟨q, hq⟩ : ∃ q : Nat, σ 51 o = q := ⟨(σ 51 o).toNat, by omega⟩
               rw [if_neg (by omega), ho, Int.toNat_natCast, hq, Int.toNat_natCast] at hfin
               rw [ho]
               exact B h b o q (by omega) (by omega) (by omega) hq hfin)
          · refine r_bipush dX9_findWeights_133 ?_
            refine r_goto (tgt := 140) dX9_findWeights_135 rfl ?_
            first
            | (have q : fo = -1 := by omega
               rw [if_pos q, Int.toNat_natCast, giveW_two hsi.1] at hfin
               rw [q]
               exact A h b (by omega) hfin)
            | (obtain ⟨o, ho⟩ : ∃ o : Nat, fo = o := ⟨fo.toNat, by omega⟩
               have ho8 := c8 o (by omega)
               obtain ⟨q, hq⟩ : ∃ q : Nat, σ 51 o = q := ⟨(σ 51 o).toNat, by omega⟩
               rw [if_neg (by omega), ho, Int.toNat_natCast, hq, Int.toNat_natCast] at hfin
               rw [ho]
               exact B h b o q (by omega) (by omega) (by omega) hq hfin)
      have ev : ∀ x : Int, x = (if ¬ σ 40 i = 2 ∧ σ 41 i = 0 then σ 39 i else 0) → ud (ud (σ 38) 38 (valS (σ 39) (σ 40) (σ 41) i)) 38 (valS (σ 39) (σ 40) (σ 41) i + x) = ud (σ 38) 38 (valS (σ 39) (σ 40) (σ 41) (i + 1)) := by
        intro x hx
        rw [show valS (σ 39) (σ 40) (σ 41) (i + 1) = valS (σ 39) (σ 40) (σ 41) i + x by rw [hx]; rfl]
        funext j
        unfold ud
        split <;> rfl
      have L67 : RW (KV l G 4 mX9_findWeights n ρ Q) (0, 0, n, ρ) (sr (sr σ 38 (ud (σ 38) 38 (valS (σ 39) (σ 40) (σ 41) (i + 1)))) 60 (wF i)) 67 [rf G 38, iv day, iv (comS (σ 39) (σ 40) (σ 41) i), iv i, x4, x5] [] := by
        refine r_iload_n dX9_findWeights_67 rfl ?_
        refine r_aloadk_n dX9_findWeights_68 rfl ?_
        refine r_iload_n dX9_findWeights_69 rfl ?_
        refine q_callVr dX9_findWeights_70 (k4 _ _ hf1 hw i (by omega)) ml_X9_214 okX9_isPlain rfl rfl (hs.lt rfl) rfl rfl (Nat.le_of_ble_eq_true rfl) (roomOK.of (by decide)) ⟨(Nat.le_of_ble_eq_true rfl), (Nat.le_of_ble_eq_true rfl)⟩ ?_
        refine r_ifeqb (tgt := 94) dX9_findWeights_73 rfl (fun h73 => ?_) (fun h73 => ?_)
        · refine r_iconst dX9_findWeights_94 ?_
          refine r_iadd dX9_findWeights_95 ?_
          refine r_istore_n dX9_findWeights_96 (Nat.le_of_ble_eq_true rfl) rfl s2 ?_
          refine L97 _ ?_
          show _ = comS (σ 39) (σ 40) (σ 41) i + (if (¬ σ 40 i = 2 ∧ σ 41 i = 0) ∧ σ 40 i = 0 then σ 39 i else 0)
          first
          | (rw [if_neg (fun q => h73 q.1)])
          | (rw [if_neg (fun q => h82 q.2)])
          | (rw [if_pos ⟨h73, h82⟩]; rfl)
        · refine r_aloadk_n dX9_findWeights_76 rfl ?_
          refine r_getr dX9_findWeights_77 fl_X9_20 rfl rfl (hs.lt rfl) (hs.rf rfl) ?_
          refine r_iload_n dX9_findWeights_80 rfl ?_
          refine r_iald dX9_findWeights_81 rfl (hs.lt rfl) rfl (by omega) ?_
          refine r_ifne (tgt := 94) dX9_findWeights_82 rfl (hR 40 (by decide) i) (fun h82 => ?_) (fun h82 => ?_)
          · refine r_iconst dX9_findWeights_94 ?_
            refine r_iadd dX9_findWeights_95 ?_
            refine r_istore_n dX9_findWeights_96 (Nat.le_of_ble_eq_true rfl) rfl s2 ?_
            refine L97 _ ?_
            show _ = comS (σ 39) (σ 40) (σ 41) i + (if (¬ σ 40 i = 2 ∧ σ 41 i = 0) ∧ σ 40 i = 0 then σ 39 i else 0)
            first
            | (rw [if_neg (fun q => h73 q.1)])
            | (rw [if_neg (fun q => h82 q.2)])
            | (rw [if_pos ⟨h73, h82⟩]; rfl)
          · refine r_aloadk_n dX9_findWeights_85 rfl ?_
            refine r_getr dX9_findWeights_86 fl_X9_16 rfl rfl (hs.lt rfl) (hs.rf rfl) ?_
            refine r_iload_n dX9_findWeights_89 rfl ?_
            refine r_iald dX9_findWeights_90 rfl (hs.lt rfl) rfl (by omega) ?_
            refine r_goto (tgt := 95) dX9_findWeights_91 rfl ?_
            refine r_iadd dX9_findWeights_95 ?_
            refine r_istore_n dX9_findWeights_96 (Nat.le_of_ble_eq_true rfl) rfl s2 ?_
            refine L97 _ ?_
            show _ = comS (σ 39) (σ 40) (σ 41) i + (if (¬ σ 40 i = 2 ∧ σ 41 i = 0) ∧ σ 40 i = 0 then σ 39 i else 0)
            first
            | (rw [if_neg (fun q => h73 q.1)])
            | (rw [if_neg (fun q => h82 q.2)])
            | (rw [if_pos ⟨h73, h82⟩]; rfl)
      refine r_iload_n dX9_findWeights_32 rfl ?_
      refine r_aloadk_n dX9_findWeights_33 rfl ?_
      refine q_callVr dX9_findWeights_34 (k5 _ _ g.1 g.2.1) ml_X9_148 okX9_cells rfl rfl (hs.lt rfl) rfl rfl (Nat.le_of_ble_eq_true rfl) (roomOK.of (by decide)) ⟨(Nat.le_of_ble_eq_true rfl), (Nat.le_of_ble_eq_true rfl)⟩ ?_
      refine r_icmpge (tgt := 182) dX9_findWeights_37 rfl (by omega) (by omega) (fun h37 => ?_) (fun h37 => ?_)
      · omega
      · refine r_aloadk_n dX9_findWeights_40 rfl ?_
        refine r_dup dX9_findWeights_41 rfl ?_
        refine r_geti dX9_findWeights_42 fl_X9_211 rfl rfl (hs.lt rfl) ?_
        refine show RW _ _ _ _ _ (iv (valS (σ 39) (σ 40) (σ 41) i) :: _) from ?_
        refine r_aloadk_n dX9_findWeights_45 rfl ?_
        refine r_iload_n dX9_findWeights_46 rfl ?_
        refine q_callVr dX9_findWeights_47 (k4 _ _ hf0 hw i (by omega)) ml_X9_214 okX9_isPlain rfl rfl (hs.lt rfl) rfl rfl (Nat.le_of_ble_eq_true rfl) (roomOK.of (by decide)) ⟨(Nat.le_of_ble_eq_true rfl), (Nat.le_of_ble_eq_true rfl)⟩ ?_
        refine r_ifeqb (tgt := 62) dX9_findWeights_50 rfl (fun h50 => ?_) (fun h50 => ?_)
        · refine r_iconst dX9_findWeights_62 ?_
          refine r_iadd dX9_findWeights_63 ?_
          refine r_puti dX9_findWeights_64 fl_X9_211 rfl (hs.lt rfl) ?_
          rw [sr_comm (by omega), up_sr, sr_comm (by omega)]
          first
          | (rw [ev 0 (if_neg h50).symm]; exact L67)
          | (rw [ev _ (if_pos h50).symm]; exact L67)
        · refine r_aloadk_n dX9_findWeights_53 rfl ?_
          refine r_getr dX9_findWeights_54 fl_X9_16 rfl rfl (hs.lt rfl) (hs.rf rfl) ?_
          refine r_iload_n dX9_findWeights_57 rfl ?_
          refine r_iald dX9_findWeights_58 rfl (hs.lt rfl) rfl (by omega) ?_
          refine show RW _ _ _ _ _ (iv (σ 39 i) :: _) from ?_
          refine r_goto (tgt := 63) dX9_findWeights_59 rfl ?_
          refine r_iadd dX9_findWeights_63 ?_
          refine r_puti dX9_findWeights_64 fl_X9_211 rfl (hs.lt rfl) ?_
          rw [sr_comm (by omega), up_sr, sr_comm (by omega)]
          first
          | (rw [ev 0 (if_neg h50).symm]; exact L67)
          | (rw [ev _ (if_pos h50).symm]; exact L67)
  have loop1 : ∀ (m i : Nat), i + m = P → RW (KV l G 4 mX9_findWeights n ρ Q) (0, 0, n, ρ) (sr (sr σ 38 (ud (σ 38) 38 0)) 60 (wP0 i (σ 60))) 9 [rf G 38, iv day, iv 0, iv i, xx, xx] [] := by
    intro m
    induction m with
    | zero =>
      intro i hi
      have e : i = P := by omega
      subst e
      refine r_iload_n dX9_findWeights_9 rfl ?_
      refine r_aloadk_n dX9_findWeights_10 rfl ?_
      refine r_geti dX9_findWeights_11 fl_X9_139 rfl rfl (hs.lt rfl) ?_
      refine r_icmpge (tgt := 30) dX9_findWeights_14 rfl (by omega) (by show R32 (σ 38 10); omega) (fun h14 => ?_) (fun h14 => ?_)
      · refine r_iconst dX9_findWeights_30 ?_
        refine r_istore_n dX9_findWeights_31 (Nat.le_of_ble_eq_true rfl) rfl s3 ?_
        rw [← wF0]
        exact loop2 (W * H) 0 _ _ (by omega) rfl rfl
      · exact absurd h14 (by show ¬ (i : Int) < σ 38 10; omega)
    | succ m ih =>
      intro i hi
      refine r_iload_n dX9_findWeights_9 rfl ?_
      refine r_aloadk_n dX9_findWeights_10 rfl ?_
      refine r_geti dX9_findWeights_11 fl_X9_139 rfl rfl (hs.lt rfl) ?_
      refine r_icmpge (tgt := 30) dX9_findWeights_14 rfl (by omega) (by show R32 (σ 38 10); omega) (fun h14 => ?_) (fun h14 => ?_)
      · exact absurd h14 (by show ¬ σ 38 10 ≤ (i : Int); omega)
      · refine r_aloadk_n dX9_findWeights_17 rfl ?_
        refine r_getr dX9_findWeights_18 fl_X9_90 rfl rfl (hs.lt rfl) (hs.rf rfl) ?_
        refine r_iload_n dX9_findWeights_21 rfl ?_
        refine r_iconst dX9_findWeights_22 ?_
        refine r_iast dX9_findWeights_23 rfl (hs.lt rfl) rfl (by omega) ?_
        refine r_iinc dX9_findWeights_24 (Nat.le_of_ble_eq_true rfl) rfl rfl s3 ?_
        refine r_goto (tgt := 9) dX9_findWeights_27 rfl ?_
        rw [up_sr]
        have e : ud (wP0 i (σ 60)) i 0 = wP0 (i + 1) (σ 60) := ud_if (gts := fun _ => 0)
        rw [e]
        exact ih (i + 1) (by omega)
  refine Ct.of (L0 := [rf G 38, iv day, xx, xx, xx, xx]) (by decide +kernel) (Nat.le_of_ble_eq_true rfl) rfl ?_
  refine r_iconst dX9_findWeights_0 ?_
  refine r_istore_n dX9_findWeights_1 (Nat.le_of_ble_eq_true rfl) rfl s2 ?_
  refine r_aloadk_n dX9_findWeights_2 rfl ?_
  refine r_iconst dX9_findWeights_3 ?_
  refine r_puti dX9_findWeights_4 fl_X9_211 rfl (hs.lt rfl) ?_
  refine r_iconst dX9_findWeights_7 ?_
  refine r_istore_n dX9_findWeights_8 (Nat.le_of_ble_eq_true rfl) rfl s3 ?_
  have h := loop1 P 0 (by omega)
  have e : wP0 0 (σ 60) = sr σ 38 (ud (σ 38) 38 0) 60 := by funext b; unfold wP0; rw [if_neg (by omega)]; rfl
  rw [e, sr_self] at h
  rw [up_eq_sr]
  exact h
end Model9
