/-! CLASS: Shares.weigh -/
def w00 (w : Nat → Int) : Nat → Int := fun b => if b < 8 then 0 else w b
/-- all WEIGHTS at a day -/
def weiS (so us rd kd by_ wh pf dy ob oc od w : Nat → Int) (N P C O : Nat) (day closing : Int) : Nat → Int :=
  comW (wfold so kd by_ (fun c => hold us rd wh pf dy C c day closing) (obrS us rd by_ wh pf dy ob oc od C O day closing) (fstN (kindF kd 3) P) (w00 w) N) (fun p => gfold by_ wh pf dy p day closing C) (60 * comS so us rd N) P P
section Weigh2
variable {l : Launch} {G : GG} {n : Nat} {ρ : Rho} {σ : Si}
theorem obrS_r {us rd by_ wh pf dy ob oc od : Nat → Int} {C O : Nat} {day closing : Int} {c : Nat} (h : ∀ o, o < O → 0 ≤ ob o ∧ ob o < 8) : -1 ≤ obrS us rd by_ wh pf dy ob oc od C O day closing c ∧ obrS us rd by_ wh pf dy ob oc od C O day closing c < 8 := by
  have hr := fstN_r (objF us rd by_ wh pf dy ob oc od C c day closing) O
  unfold obrS
  split
  · omega
  · have := h (fstN (objF us rd by_ wh pf dy ob oc od C c day closing) O).toNat (by omega)
    omega
set_option maxHeartbeats 4000000 in
theorem c_weigh (hs : Std n ρ) (hR : Rg σ) {W H P C O : Nat} (g0 : σ 2 2 = (W * H : Nat)) (hle : W * H ≤ 80) (hso : ∀ c, 0 ≤ σ 4 c ∧ σ 4 c ≤ 9) (hc : ClmC σ P C O) (hz : ∀ b, 8 ≤ b → σ 30 b = 0) (day closing : Int) (hd : R32 day) (hcl : R32 closing) : CtV l G 3 mX6_weigh n ρ σ [rf G 29, iv day, iv closing] (fun σ' => ∃ g : Nat → Int, (∀ j, R32 (g j)) ∧ σ' = sr (sr σ 30 (weiS (σ 4) (σ 5) (σ 6) (σ 20) (σ 22) (σ 23) (σ 24) (σ 25) (σ 26) (σ 27) (σ 28) (σ 30) (W * H) P C O day closing)) 33 g) := by
  obtain ⟨c1, c2, c3, c4, c5, c6, c7, c8⟩ := id hc
  have hl := fstN_r (kindF (σ 20) 3) P
  have hcom := comS_r (so := σ 4) (us := σ 5) (rd := σ 6) (N := W * H) hso
  have hob : ∀ c, -1 ≤ obrS (σ 5) (σ 6) (σ 22) (σ 23) (σ 24) (σ 25) (σ 26) (σ 27) (σ 28) C O day closing c ∧ obrS (σ 5) (σ 6) (σ 22) (σ 23) (σ 24) (σ 25) (σ 26) (σ 27) (σ 28) C O day closing c < 8 := fun c => obrS_r (fun o ho => (c8 o ho).1)
  have hho : ∀ c, -1 ≤ hold (σ 5) (σ 6) (σ 23) (σ 24) (σ 25) C c day closing ∧ hold (σ 5) (σ 6) (σ 23) (σ 24) (σ 25) C c day closing < C := fun c => hold_r _ _ _ _ _ _ _ _ _
  have hw0 : ∀ b, 0 ≤ w00 (σ 30) b ∧ w00 (σ 30) b ≤ 0 := fun b => by
    unfold w00
    split
    · omega
    · rw [hz b (by omega)]; omega
  have hwf := fun N => wfold_r (so := σ 4) (kd := σ 20) (by_ := σ 22) (hol := fun c => hold (σ 5) (σ 6) (σ 23) (σ 24) (σ 25) C c day closing) (obr := obrS (σ 5) (σ 6) (σ 22) (σ 23) (σ 24) (σ 25) (σ 26) (σ 27) (σ 28) C O day closing) (lord := fstN (kindF (σ 20) 3) P) (w0 := w00 (σ 30)) hso hw0 N
  have k1 : ∀ (w : Nat → Int), (∀ j, R32 (w j)) → ∀ c : Nat, c < 80 → RdI l G 0 mX4_holderAt n ρ (sr σ 30 w) [rf G 19, iv c, iv day, iv closing] (hold (σ 5) (σ 6) (σ 23) (σ 24) (σ 25) C c day closing) := fun w hw c hc => c_holderAt (σ := sr σ 30 w) hs (hR.sr hw) c day closing hc hd hcl C c3 c4
  have k2 : ∀ (w : Nat → Int), (∀ j, R32 (w j)) → ∀ c : Nat, c < 80 → RdI l G 2 mX4_upheldObjector n ρ (sr σ 30 w) [rf G 19, iv c, iv day, iv closing] (obrS (σ 5) (σ 6) (σ 22) (σ 23) (σ 24) (σ 25) (σ 26) (σ 27) (σ 28) C O day closing c) := fun w hw c hc => c_upheldObjector (σ := sr σ 30 w) hs (hR.sr hw) C c3 c4 O c5 c6 c day closing (by omega) hd hcl (fun o ho => (c8 o ho).2)
  have k3 : ∀ (w : Nat → Int), (∀ j, R32 (w j)) → RdI l G 0 mX4_firstOfKind n ρ (sr σ 30 w) [rf G 19, iv 3] (fstN (kindF (σ 20) 3) P) := fun w hw => c_firstOfKind (σ := sr σ 30 w) hs (hR.sr hw) P c1 c2 3 (by omega)
  have k4 : ∀ (w : Nat → Int), (∀ j, R32 (w j)) → ∀ c : Nat, c < 80 → RdI l G 0 mX1_isPlain n ρ (sr σ 30 w) [rf G 2, iv c] (bi (¬ σ 5 c = 2 ∧ σ 6 c = 0)) := fun w hw c hc => c_isPlain (σ := sr σ 30 w) hs (hR.sr hw) c hc
  have k5 : ∀ (w : Nat → Int) (i : Nat), i < 40 → RdI l G 0 mX4_claimantOf n ρ (sr σ 30 w) [rf G 19, iv i] (σ 22 i) := fun w i hi => c_claimantOf (σ := sr σ 30 w) hs i hi
  have k6 := fun (w : Nat → Int) (hw : ∀ b, 0 ≤ w b ∧ w b ≤ 100000) (wt : Int) (ht : 0 ≤ wt ∧ wt ≤ 50000) => c_giveCommon (l := l) (G := G) (n := n) (ρ := ρ) hs hR hc w hw wt day closing ht hd hcl
  unfold weiS
  generalize hH : (fun c : Nat => hold (σ 5) (σ 6) (σ 23) (σ 24) (σ 25) C c day closing) = hol at hwf ⊢
  have hH' : ∀ c : Nat, hold (σ 5) (σ 6) (σ 23) (σ 24) (σ 25) C c day closing = hol c := fun c => by rw [← hH]
  simp only [hH'] at k1 hho
  generalize obrS (σ 5) (σ 6) (σ 22) (σ 23) (σ 24) (σ 25) (σ 26) (σ 27) (σ 28) C O day closing = obr at hwf k2 hob ⊢
  generalize fstN (kindF (σ 20) 3) P = lord at hwf k3 hl ⊢
  have loop : ∀ (m i : Nat) (com : Int) (x6 x7 x8 x9 : Value) (w : Nat → Int), i + m = W * H → com = comS (σ 4) (σ 5) (σ 6) i → w = wfold (σ 4) (σ 20) (σ 22) hol obr lord (w00 (σ 30)) i → isJ x6 = false → isJ x7 = false → isJ x8 = false → RW (KV l G 3 mX6_weigh n ρ (fun σ' => ∃ g : Nat → Int, (∀ j, R32 (g j)) ∧ σ' = sr (sr σ 30 (comW (wfold (σ 4) (σ 20) (σ 22) hol obr lord (w00 (σ 30)) (W * H)) (fun p => gfold (σ 22) (σ 23) (σ 24) (σ 25) p day closing C) (60 * comS (σ 4) (σ 5) (σ 6) (W * H)) P P)) 33 g)) (0, 0, n, ρ) (sr σ 30 w) 23 [rf G 29, iv day, iv closing, iv lord, iv com, iv i, x6, x7, x8, x9] [] := by
    intro m
    induction m with
    | zero =>
      intro i com x6 x7 x8 x9 w hi hcm hw hx6 hx7 hx8
      have e : i = W * H := by omega
      subst e
      have hwr := hwf (W * H)
      rw [← hw] at hwr ⊢
      refine r_iload dX6_weigh_23 rfl ?_
      refine r_aloadk_n dX6_weigh_25 rfl ?_
      refine r_getr dX6_weigh_26 fl_X6_28 rfl rfl (hs.lt rfl) (hs.rf rfl) ?_
      refine r_geti dX6_weigh_29 fl_X6_39 rfl rfl (hs.lt rfl) ?_
      refine r_icmpge (tgt := 170) dX6_weigh_32 rfl (by omega) (by show R32 (σ 2 2); omega) (fun h32 => ?_) (fun h32 => ?_)
      · refine r_aloadk_n dX6_weigh_170 rfl ?_
        refine r_bipush dX6_weigh_171 ?_
        refine r_iload dX6_weigh_173 rfl ?_
        refine r_imul dX6_weigh_175 ?_
        refine r_iload_n dX6_weigh_176 rfl ?_
        refine r_iload_n dX6_weigh_177 rfl ?_
        refine q_callVv dX6_weigh_178 (k6 w (fun b => by have := hwr b; omega) (60 * com) (by omega)) ml_X6_91 okX6_giveCommon rfl rfl (hs.lt rfl) rfl rfl (Nat.le_of_ble_eq_true rfl) (roomOK.of (by decide)) ⟨(Nat.le_of_ble_eq_true rfl), (Nat.le_of_ble_eq_true rfl)⟩ (fun σ' hq => ?_)
        exact r_vret dX6_weigh_181 rfl ⟨rfl, by rw [← hcm]; exact hq⟩
      · exact absurd h32 (by show ¬ ((W * H : Nat) : Int) < σ 2 2; omega)
    | succ m ih =>
      intro i com x6 x7 x8 x9 w hi hcm hw hx6 hx7 hx8
      have hwr := hwf i
      rw [← hw] at hwr
      have hw32 : ∀ j, R32 (w j) := fun j => by have := hwr j; omega
      have hsi := hso i
      have hhi := hho i
      have hobi := hob i
      have es : wfold (σ 4) (σ 20) (σ 22) hol obr lord (w00 (σ 30)) (i + 1) = wstep (σ 4) (σ 20) (σ 22) hol obr lord w i := by rw [hw]; rfl
      have L155 : ∀ (com2 : Int) (h b q : Nat), com2 = comS (σ 4) (σ 5) (σ 6) (i + 1) → hol i = h → σ 22 h = b → q < 8 → (if obr i = -1 then (b : Int) else obr i) = q → RW (KV l G 3 mX6_weigh n ρ (fun σ' => ∃ g : Nat → Int, (∀ j, R32 (g j)) ∧ σ' = sr (sr σ 30 (comW (wfold (σ 4) (σ 20) (σ 22) hol obr lord (w00 (σ 30)) (W * H)) (fun p => gfold (σ 22) (σ 23) (σ 24) (σ 25) p day closing C) (60 * comS (σ 4) (σ 5) (σ 6) (W * H)) P P)) 33 g)) (0, 0, n, ρ) (sr σ 30 (giveW (σ 20) w b (30 * σ 4 i) lord)) 155 [rf G 29, iv day, iv closing, iv lord, iv com2, iv i, iv (σ 4 i), iv h, iv (obr i), iv b] [iv q, rf G 29] := by
        intro com2 h b q hcm2 hh hb hq8 hq
        refine r_bipush dX6_weigh_155 ?_
        refine r_iload dX6_weigh_157 rfl ?_
        refine r_imul dX6_weigh_159 ?_
        refine r_iload_n dX6_weigh_160 rfl ?_
        refine q_callVv dX6_weigh_161 (c_giveStrip hs hR (giveW (σ 20) w b (30 * σ 4 i) lord) q hq8 (30 * σ 4 i) lord (by omega) (by omega)) ml_X6_87 okX6_giveStrip rfl rfl (hs.lt rfl) rfl rfl (Nat.le_of_ble_eq_true rfl) (roomOK.of (by decide)) ⟨(Nat.le_of_ble_eq_true rfl), (Nat.le_of_ble_eq_true rfl)⟩ (fun σ' hq1 => ?_)
        subst hq1
        refine r_iinc dX6_weigh_164 (Nat.le_of_ble_eq_true rfl) rfl rfl s5 ?_
        refine r_goto (tgt := 23) dX6_weigh_167 rfl ?_
        refine ih (i + 1) com2 _ _ _ _ _ (by omega) hcm2 ?_ rfl rfl rfl
        rw [es]
        unfold wstep
        rw [hh, if_neg (by omega), Int.toNat_natCast, hb, hq, Int.toNat_natCast, Int.toNat_natCast]
      have L83 : ∀ com2 : Int, com2 = comS (σ 4) (σ 5) (σ 6) (i + 1) → RW (KV l G 3 mX6_weigh n ρ (fun σ' => ∃ g : Nat → Int, (∀ j, R32 (g j)) ∧ σ' = sr (sr σ 30 (comW (wfold (σ 4) (σ 20) (σ 22) hol obr lord (w00 (σ 30)) (W * H)) (fun p => gfold (σ 22) (σ 23) (σ 24) (σ 25) p day closing C) (60 * comS (σ 4) (σ 5) (σ 6) (W * H)) P P)) 33 g)) (0, 0, n, ρ) (sr σ 30 w) 83 [rf G 29, iv day, iv closing, iv lord, iv com2, iv i, iv (σ 4 i), x7, x8, x9] [] := by
        intro com2 hcm2
        refine r_aloadk_n dX6_weigh_83 rfl ?_
        refine r_getr dX6_weigh_84 fl_X6_32 rfl rfl (hs.lt rfl) (hs.rf rfl) ?_
        refine r_iload dX6_weigh_87 rfl ?_
        refine r_iload_n dX6_weigh_89 rfl ?_
        refine r_iload_n dX6_weigh_90 rfl ?_
        refine q_callVr dX6_weigh_91 (k1 w hw32 i (by omega)) ml_X6_77 okX4_holderAt rfl rfl (hs.lt rfl) rfl rfl (Nat.le_of_ble_eq_true rfl) (roomOK.of (by decide)) ⟨(Nat.le_of_ble_eq_true rfl), (Nat.le_of_ble_eq_true rfl)⟩ ?_
        refine r_istore dX6_weigh_94 (Nat.le_of_ble_eq_true rfl) rfl s7 ?_
        refine r_iload dX6_weigh_96 rfl ?_
        refine r_iconst dX6_weigh_98 ?_
        refine r_icmpne (tgt := 105) dX6_weigh_99 rfl (by omega) (by omega) (fun h99 => ?_) (fun h99 => ?_)
        · obtain ⟨h, hh⟩ : ∃ h : Nat, hol i = h := ⟨(hol i).toNat, by omega⟩
          rw [hh] at h99 hhi ⊢
          have hby := c7 h (by omega)
          obtain ⟨b, hb⟩ : ∃ b : Nat, σ 22 h = b := ⟨(σ 22 h).toNat, by omega⟩
          refine r_aloadk_n dX6_weigh_105 rfl ?_
          refine r_getr dX6_weigh_106 fl_X6_32 rfl rfl (hs.lt rfl) (hs.rf rfl) ?_
          refine r_iload dX6_weigh_109 rfl ?_
          refine r_iload_n dX6_weigh_111 rfl ?_
          refine r_iload_n dX6_weigh_112 rfl ?_
          refine q_callVr dX6_weigh_113 (k2 w hw32 i (by omega)) ml_X6_81 okX4_upheldObjector rfl rfl (hs.lt rfl) rfl rfl (Nat.le_of_ble_eq_true rfl) (roomOK.of (by decide)) ⟨(Nat.le_of_ble_eq_true rfl), (Nat.le_of_ble_eq_true rfl)⟩ ?_
          refine r_istore dX6_weigh_116 (Nat.le_of_ble_eq_true rfl) rfl s8 ?_
          refine r_aloadk_n dX6_weigh_118 rfl ?_
          refine r_getr dX6_weigh_119 fl_X6_32 rfl rfl (hs.lt rfl) (hs.rf rfl) ?_
          refine r_iload dX6_weigh_122 rfl ?_
          refine q_callVr dX6_weigh_124 (k5 w h (by omega)) ml_X6_84 okX4_claimantOf rfl rfl (hs.lt rfl) rfl rfl (Nat.le_of_ble_eq_true rfl) (roomOK.of (by decide)) ⟨(Nat.le_of_ble_eq_true rfl), (Nat.le_of_ble_eq_true rfl)⟩ ?_
          rw [hb]
          refine r_istore dX6_weigh_127 (Nat.le_of_ble_eq_true rfl) rfl s9 ?_
          refine r_aloadk_n dX6_weigh_129 rfl ?_
          refine r_iload dX6_weigh_130 rfl ?_
          refine r_bipush dX6_weigh_132 ?_
          refine r_iload dX6_weigh_134 rfl ?_
          refine r_imul dX6_weigh_136 ?_
          refine r_iload_n dX6_weigh_137 rfl ?_
          refine q_callVv dX6_weigh_138 (c_giveStrip hs hR w b (by omega) (30 * σ 4 i) lord (by omega) (by omega)) ml_X6_87 okX6_giveStrip rfl rfl (hs.lt rfl) rfl rfl (Nat.le_of_ble_eq_true rfl) (roomOK.of (by decide)) ⟨(Nat.le_of_ble_eq_true rfl), (Nat.le_of_ble_eq_true rfl)⟩ (fun σ' hq1 => ?_)
          subst hq1
          refine r_aloadk_n dX6_weigh_141 rfl ?_
          refine r_iload dX6_weigh_142 rfl ?_
          refine r_iconst dX6_weigh_144 ?_
          refine r_icmpne (tgt := 153) dX6_weigh_145 rfl (by omega) (by omega) (fun h145 => ?_) (fun h145 => ?_)
          · refine r_iload dX6_weigh_153 rfl ?_
            first
            | exact L155 com2 h b b hcm2 hh hb (by omega) (if_pos h145)
            | (obtain ⟨q, hq⟩ : ∃ q : Nat, obr i = q := ⟨(obr i).toNat, by omega⟩
               have hh5 := L155 com2 h b q hcm2 hh hb (by omega) (by rw [if_neg h145]; exact hq)
               rw [hq] at hh5 ⊢
               exact hh5)
          · refine r_iload dX6_weigh_148 rfl ?_
            refine r_goto (tgt := 155) dX6_weigh_150 rfl ?_
            first
            | exact L155 com2 h b b hcm2 hh hb (by omega) (if_pos h145)
            | (obtain ⟨q, hq⟩ : ∃ q : Nat, obr i = q := ⟨(obr i).toNat, by omega⟩
               have hh5 := L155 com2 h b q hcm2 hh hb (by omega) (by rw [if_neg h145]; exact hq)
               rw [hq] at hh5 ⊢
               exact hh5)
        · refine r_goto (tgt := 164) dX6_weigh_102 rfl ?_
          refine r_iinc dX6_weigh_164 (Nat.le_of_ble_eq_true rfl) rfl rfl s5 ?_
          refine r_goto (tgt := 23) dX6_weigh_167 rfl ?_
          refine ih (i + 1) com2 _ _ _ _ _ (by omega) hcm2 ?_ rfl rfl (by assumption)
          rw [es]
          unfold wstep
          rw [if_pos h99]
      refine r_iload dX6_weigh_23 rfl ?_
      refine r_aloadk_n dX6_weigh_25 rfl ?_
      refine r_getr dX6_weigh_26 fl_X6_28 rfl rfl (hs.lt rfl) (hs.rf rfl) ?_
      refine r_geti dX6_weigh_29 fl_X6_39 rfl rfl (hs.lt rfl) ?_
      refine r_icmpge (tgt := 170) dX6_weigh_32 rfl (by omega) (by show R32 (σ 2 2); omega) (fun h32 => ?_) (fun h32 => ?_)
      · exact absurd h32 (by show ¬ σ 2 2 ≤ (i : Int); omega)
      · refine r_aloadk_n dX6_weigh_35 rfl ?_
        refine r_getr dX6_weigh_36 fl_X6_28 rfl rfl (hs.lt rfl) (hs.rf rfl) ?_
        refine r_getr dX6_weigh_39 fl_X6_49 rfl rfl (hs.lt rfl) (hs.rf rfl) ?_
        refine r_iconst dX6_weigh_42 ?_
        refine r_aald dX6_weigh_43 rfl (hs.lt rfl) (c := 0) rfl (Nat.le_of_ble_eq_true rfl) (hs.rf rfl) ?_
        refine r_iload dX6_weigh_44 rfl ?_
        refine r_iald dX6_weigh_46 rfl (hs.lt rfl) rfl (by omega) ?_
        rw [show sr σ 30 w 4 = σ 4 from rfl]
        refine r_istore dX6_weigh_47 (Nat.le_of_ble_eq_true rfl) rfl s6 ?_
        refine r_aloadk_n dX6_weigh_49 rfl ?_
        refine r_getr dX6_weigh_50 fl_X6_28 rfl rfl (hs.lt rfl) (hs.rf rfl) ?_
        refine r_iload dX6_weigh_53 rfl ?_
        refine q_callVr dX6_weigh_55 (k4 w hw32 i (by omega)) ml_X6_45 okX1_isPlain rfl rfl (hs.lt rfl) rfl rfl (Nat.le_of_ble_eq_true rfl) (roomOK.of (by decide)) ⟨(Nat.le_of_ble_eq_true rfl), (Nat.le_of_ble_eq_true rfl)⟩ ?_
        refine r_ifeqb (tgt := 83) dX6_weigh_58 rfl (fun h58 => ?_) (fun h58 => ?_)
        · refine L83 _ ?_
          show _ = comS (σ 4) (σ 5) (σ 6) i + (if (¬ σ 5 i = 2 ∧ σ 6 i = 0) ∧ σ 5 i = 0 then σ 4 i else 0)
          rw [← hcm]
          first
          | (rw [if_neg (fun q => h58 q.1)]; omega)
          | (rw [if_neg (fun q => h73 q.2)]; omega)
          | rw [if_pos ⟨h58, h73⟩]
        · refine r_aloadk_n dX6_weigh_61 rfl ?_
          refine r_getr dX6_weigh_62 fl_X6_28 rfl rfl (hs.lt rfl) (hs.rf rfl) ?_
          refine r_getr dX6_weigh_65 fl_X6_49 rfl rfl (hs.lt rfl) (hs.rf rfl) ?_
          refine r_iconst dX6_weigh_68 ?_
          refine r_aald dX6_weigh_69 rfl (hs.lt rfl) (c := 1) rfl (Nat.le_of_ble_eq_true rfl) (hs.rf rfl) ?_
          refine r_iload dX6_weigh_70 rfl ?_
          refine r_iald dX6_weigh_72 rfl (hs.lt rfl) rfl (by omega) ?_
          refine r_ifne (tgt := 83) dX6_weigh_73 rfl (hR 5 (by decide) i) (fun h73 => ?_) (fun h73 => ?_)
          · refine L83 _ ?_
            show _ = comS (σ 4) (σ 5) (σ 6) i + (if (¬ σ 5 i = 2 ∧ σ 6 i = 0) ∧ σ 5 i = 0 then σ 4 i else 0)
            rw [← hcm]
            first
            | (rw [if_neg (fun q => h58 q.1)]; omega)
            | (rw [if_neg (fun q => h73 q.2)]; omega)
            | rw [if_pos ⟨h58, h73⟩]
          · refine r_iload dX6_weigh_76 rfl ?_
            refine r_iload dX6_weigh_78 rfl ?_
            refine r_iadd dX6_weigh_80 ?_
            refine r_istore dX6_weigh_81 (Nat.le_of_ble_eq_true rfl) rfl s4 ?_
            refine L83 _ ?_
            show _ = comS (σ 4) (σ 5) (σ 6) i + (if (¬ σ 5 i = 2 ∧ σ 6 i = 0) ∧ σ 5 i = 0 then σ 4 i else 0)
            rw [← hcm]
            first
            | (rw [if_neg (fun q => h58 q.1)]; omega)
            | (rw [if_neg (fun q => h73 q.2)]; omega)
            | rw [if_pos ⟨h58, h73⟩]
  refine Ct.of (L0 := [rf G 29, iv day, iv closing, xx, xx, xx, xx, xx, xx, xx]) (by decide +kernel) (Nat.le_of_ble_eq_true rfl) rfl ?_
  refine r_aloadk_n dX6_weigh_0 rfl ?_
  refine r_getr dX6_weigh_1 fl_X6_9 rfl rfl (hs.lt rfl) (hs.rf rfl) ?_
  refine r_iconst dX6_weigh_4 ?_
  refine q_callSv dX6_weigh_5 (c_fill 30 8 (hs.lt rfl) rfl 0) ml_X6_71 okJ7_fill_53178 rfl rfl (Nat.le_of_ble_eq_true rfl) (roomOK.of (by decide)) ⟨(Nat.le_of_ble_eq_true rfl), (Nat.le_of_ble_eq_true rfl)⟩ (fun σ' hq1 => ?_)
  subst hq1
  rw [filR_sr]
  change RW _ _ (sr σ 30 (w00 (σ 30))) _ _ _
  refine r_aloadk_n dX6_weigh_8 rfl ?_
  refine r_getr dX6_weigh_9 fl_X6_32 rfl rfl (hs.lt rfl) (hs.rf rfl) ?_
  refine r_iconst dX6_weigh_12 ?_
  refine q_callVr dX6_weigh_13 (k3 (w00 (σ 30)) (fun j => by have := hw0 j; omega)) ml_X6_59 okX4_firstOfKind rfl rfl (hs.lt rfl) rfl rfl (Nat.le_of_ble_eq_true rfl) (roomOK.of (by decide)) ⟨(Nat.le_of_ble_eq_true rfl), (Nat.le_of_ble_eq_true rfl)⟩ ?_
  refine r_istore_n dX6_weigh_16 (Nat.le_of_ble_eq_true rfl) rfl s3 ?_
  refine r_iconst dX6_weigh_17 ?_
  refine r_istore dX6_weigh_18 (Nat.le_of_ble_eq_true rfl) rfl s4 ?_
  refine r_iconst dX6_weigh_20 ?_
  refine r_istore dX6_weigh_21 (Nat.le_of_ble_eq_true rfl) rfl s5 ?_
  exact loop (W * H) 0 _ _ _ _ _ _ (by omega) rfl rfl rfl rfl rfl
end Weigh2
