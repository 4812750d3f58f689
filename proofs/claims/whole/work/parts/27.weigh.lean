/-! CLASS: Shares: weights -/
/-- the roll's numbers -/
def ClmC (σ : Si) (P C O : Nat) : Prop := σ 19 1 = P ∧ P ≤ 8 ∧ σ 19 2 = C ∧ C ≤ 40 ∧ σ 19 3 = O ∧ O ≤ 20 ∧ (∀ i, i < C → (0 ≤ σ 22 i ∧ σ 22 i < 8) ∧ (0 ≤ σ 23 i ∧ σ 23 i ≤ 150)) ∧ (∀ o, o < O → (0 ≤ σ 26 o ∧ σ 26 o < 8) ∧ (0 ≤ σ 27 o ∧ σ 27 o < 80))
def comW (w gts : Nat → Int) (wt : Int) (P : Nat) (i : Nat) : Nat → Int := fun p => if p < i ∧ 0 < sumN gts P then w p + wt * gts p / sumN gts P else w p
def obrS (us rd by_ wh pf dy ob oc od : Nat → Int) (C O : Nat) (day closing : Int) (c : Nat) : Int := if fstN (objF us rd by_ wh pf dy ob oc od C c day closing) O = -1 then -1 else ob (fstN (objF us rd by_ wh pf dy ob oc od C c day closing) O).toNat
def wstep (so kd by_ hol obr : Nat → Int) (lord : Int) (w : Nat → Int) (c : Nat) : Nat → Int := if hol c = -1 then w else giveW kd (giveW kd w (by_ (hol c).toNat).toNat (30 * so c) lord) ((if obr c = -1 then by_ (hol c).toNat else obr c).toNat) (30 * so c) lord
def wfold (so kd by_ hol obr : Nat → Int) (lord : Int) (w0 : Nat → Int) : Nat → (Nat → Int)
  | 0 => w0
  | c + 1 => wstep so kd by_ hol obr lord (wfold so kd by_ hol obr lord w0 c) c
def comS (so us rd : Nat → Int) (N : Nat) : Int := sumN (fun c => if (¬ us c = 2 ∧ rd c = 0) ∧ us c = 0 then so c else 0) N
theorem comS_r {so us rd : Nat → Int} {N : Nat} (h : ∀ c, 0 ≤ so c ∧ so c ≤ 9) : 0 ≤ comS so us rd N ∧ comS so us rd N ≤ 9 * N := by
  have := sumN_r (f := fun c => if (¬ us c = 2 ∧ rd c = 0) ∧ us c = 0 then so c else 0) (a := 0) (b := 9) N (fun i _ => by have := h i; show 0 ≤ (if (¬ us i = 2 ∧ rd i = 0) ∧ us i = 0 then so i else 0) ∧ (if (¬ us i = 2 ∧ rd i = 0) ∧ us i = 0 then so i else 0) ≤ 9; split <;> omega)
  unfold comS
  omega
theorem ud_r {w : Nat → Int} {j : Nat} {z B : Int} (hw : ∀ b, 0 ≤ w b ∧ w b ≤ B) (hz : 0 ≤ z ∧ z ≤ B) : ∀ b, 0 ≤ ud w j z b ∧ ud w j z b ≤ B := by
  intro b
  unfold ud
  split
  · exact hz
  · exact hw b
theorem giveW_r {kd w : Nat → Int} {p : Nat} {amt lord B : Int} (hw : ∀ b, 0 ≤ w b ∧ w b ≤ B) (ha : 0 ≤ amt ∧ amt ≤ 270) : ∀ b, 0 ≤ giveW kd w p amt lord b ∧ giveW kd w p amt lord b ≤ B + 540 := by
  have h1 := hw p
  unfold giveW
  split
  · refine ud_r (B := B + 540) (ud_r (B := B + 540) (fun b => by have := hw b; omega) (by omega)) ?_
    unfold ud
    split
    · omega
    · have := hw lord.toNat; omega
  · exact ud_r (B := B + 540) (fun b => by have := hw b; omega) (by omega)
theorem wfold_r {so kd by_ hol obr : Nat → Int} {lord : Int} {w0 : Nat → Int} (hso : ∀ c, 0 ≤ so c ∧ so c ≤ 9) (hw : ∀ b, 0 ≤ w0 b ∧ w0 b ≤ 0) : ∀ (N : Nat) (b : Nat), 0 ≤ wfold so kd by_ hol obr lord w0 N b ∧ wfold so kd by_ hol obr lord w0 N b ≤ 1080 * N
  | 0, b => by have := hw b; unfold wfold; omega
  | N + 1, b => by
    have ih := wfold_r (kd := kd) (by_ := by_) (hol := hol) (obr := obr) (lord := lord) hso hw N
    have hs := hso N
    show 0 ≤ wstep so kd by_ hol obr lord (wfold so kd by_ hol obr lord w0 N) N b ∧ wstep so kd by_ hol obr lord (wfold so kd by_ hol obr lord w0 N) N b ≤ _
    unfold wstep
    split
    · have := ih b; omega
    · have := giveW_r (kd := kd) (lord := lord) (amt := 30 * so N) (p := (if obr N = -1 then by_ (hol N).toNat else obr N).toNat) (giveW_r (kd := kd) (lord := lord) (p := (by_ (hol N).toNat).toNat) (amt := 30 * so N) ih (by omega)) (by omega) b
      omega
theorem comW_r {w gts : Nat → Int} {wt B : Int} {P i : Nat} (hw : ∀ b, 0 ≤ w b ∧ w b ≤ B) (hg : ∀ b, b < P → 0 ≤ gts b) (hi : i ≤ P) (ht : 0 ≤ wt) : ∀ b, 0 ≤ comW w gts wt P i b ∧ comW w gts wt P i b ≤ B + wt := by
  intro b
  have h1 := hw b
  unfold comW
  split
  · rename_i h
    have hb : 0 ≤ gts b := hg b (by omega)
    have hle : gts b ≤ sumN gts P := by
      have : ∀ N : Nat, N ≤ P → b < N → gts b ≤ sumN gts N := by
        intro N
        induction N with
        | zero => intro _ h; omega
        | succ N ih =>
          intro hN hbN
          show gts b ≤ sumN gts N + gts N
          have h0 : 0 ≤ sumN gts N := by
            have := sumN_r (f := gts) (a := 0) (b := sumN gts N + 1000000) N
            have key : ∀ M : Nat, M ≤ P → 0 ≤ sumN gts M := by
              intro M
              induction M with
              | zero => intro _; exact Int.le_refl 0
              | succ M ihM =>
                intro hM
                show 0 ≤ sumN gts M + gts M
                have := ihM (by omega)
                have := hg M (by omega)
                omega
            exact key N (by omega)
          have := hg N (by omega)
          by_cases e : b = N
          · rw [e]; omega
          · have := ih (by omega) (by omega); omega
      exact this P (Nat.le_refl P) (by omega)
    have q0 : 0 ≤ wt * gts b / sumN gts P := Int.ediv_nonneg (Int.mul_nonneg ht hb) (by omega)
    have q1 : wt * gts b / sumN gts P ≤ wt := Int.ediv_le_of_le_mul h.2 (Int.mul_le_mul_of_nonneg_left hle ht)
    omega
  · omega
section Weigh
variable {l : Launch} {G : GG} {n : Nat} {ρ : Rho} {σ : Si}
theorem ud_if {g gts : Nat → Int} {i : Nat} : ud (fun j => if j < i then gts j else g j) i (gts i) = fun j => if j < i + 1 then gts j else g j := by
  funext j
  unfold ud
  by_cases h : j = i
  · rw [if_pos h, if_pos (by omega), h]
  · rw [if_neg h]
    show (if j < i then gts j else g j) = _
    by_cases h2 : j < i
    · rw [if_pos h2, if_pos (by omega)]
    · rw [if_neg h2, if_neg (by omega)]
theorem c_giveCommon (hs : Std n ρ) (hR : Rg σ) {P C O : Nat} (hc : ClmC σ P C O) (w : Nat → Int) (hw : ∀ b, 0 ≤ w b ∧ w b ≤ 100000) (wt day closing : Int) (ht : 0 ≤ wt ∧ wt ≤ 50000) (hd : R32 day) (hcl : R32 closing) : CtV l G 2 mX6_giveCommon n ρ (sr σ 30 w) [rf G 29, iv wt, iv day, iv closing] (fun σ' => ∃ g : Nat → Int, (∀ j, R32 (g j)) ∧ σ' = sr (sr σ 30 (comW w (fun p => gfold (σ 22) (σ 23) (σ 24) (σ 25) p day closing C) wt P P)) 33 g) := by
  obtain ⟨c1, c2, c3, c4, c5, c6, c7, c8⟩ := id hc
  have hg : ∀ p : Nat, 0 ≤ gfold (σ 22) (σ 23) (σ 24) (σ 25) p day closing C ∧ gfold (σ 22) (σ 23) (σ 24) (σ 25) p day closing C ≤ 50 := fun p => gfold_r C (fun i hi => (c7 i hi).2.2)
  have hcon : ∀ (w g : Nat → Int), (∀ j, R32 (w j)) → (∀ j, R32 (g j)) → ∀ p : Nat, p < 8 → RdI l G 1 mX4_gatesOf n ρ (sr (sr σ 30 w) 33 g) [rf G 19, iv p, iv day, iv closing] (gfold (σ 22) (σ 23) (σ 24) (σ 25) p day closing C) := fun w g hw hg p hp => c_gatesOf (σ := sr (sr σ 30 w) 33 g) hs ((hR.sr hw).sr hg) C c3 c4 (fun i hi => (c7 i hi).2) p day closing (by omega) hd hcl
  generalize hG : (fun p : Nat => gfold (σ 22) (σ 23) (σ 24) (σ 25) p day closing C) = gts
  have hG' : ∀ p : Nat, gfold (σ 22) (σ 23) (σ 24) (σ 25) p day closing C = gts p := fun p => by rw [← hG]
  simp only [hG'] at hcon hg
  have hw32 : ∀ j, R32 (w j) := fun j => by have := hw j; omega
  have hg32 : ∀ i j, R32 ((fun j => if j < i then gts j else σ 33 j) j) := fun i j => by
    show R32 (if j < i then gts j else σ 33 j)
    have := hg j
    split
    · omega
    · exact hR 33 (by decide) j
  have hall : 0 ≤ sumN gts P ∧ sumN gts P ≤ 400 := by
    have := sumN_r (f := gts) (a := 0) (b := 50) P (fun i _ => hg i)
    omega
  have hsum : sumN (fun j => if j < P then gts j else σ 33 j) P = sumN gts P := sumN_congr P (fun i hi => if_pos hi)
  have loop2 : ∀ (m i : Nat), i + m = P → 0 < sumN gts P → RW (KV l G 2 mX6_giveCommon n ρ (fun σ' => ∃ g : Nat → Int, (∀ j, R32 (g j)) ∧ σ' = sr (sr σ 30 (comW w gts wt P P)) 33 g)) (0, 0, n, ρ) (sr (sr σ 30 (comW w gts wt P i)) 33 (fun j => if j < P then gts j else σ 33 j)) 64 [rf G 29, iv wt, iv day, iv closing, iv (sumN gts P), iv i] [] := by
    intro m
    induction m with
    | zero =>
      intro i hi hp
      have e : i = P := by omega
      refine r_iload dX6_giveCommon_64 rfl ?_
      refine r_aloadk_n dX6_giveCommon_66 rfl ?_
      refine r_getr dX6_giveCommon_67 fl_X6_32 rfl rfl (hs.lt rfl) (hs.rf rfl) ?_
      refine r_geti dX6_giveCommon_70 fl_X6_97 rfl rfl (hs.lt rfl) ?_
      refine r_icmpge (tgt := 104) dX6_giveCommon_73 rfl (by omega) (by show R32 (σ 19 1); omega) (fun h73 => ?_) (fun h73 => ?_)
      · exact r_vret dX6_giveCommon_104 rfl ⟨rfl, _, hg32 P, by rw [e]⟩
      · exact absurd h73 (by show ¬ (i : Int) < σ 19 1; omega)
    | succ m ih =>
      intro i hi hp
      have hgi := hg i
      have hmul : 0 ≤ wt * gts i ∧ wt * gts i ≤ 50000 * 50 := ⟨Int.mul_nonneg ht.1 hgi.1, Int.mul_le_mul ht.2 hgi.2 hgi.1 (by omega)⟩
      refine r_iload dX6_giveCommon_64 rfl ?_
      refine r_aloadk_n dX6_giveCommon_66 rfl ?_
      refine r_getr dX6_giveCommon_67 fl_X6_32 rfl rfl (hs.lt rfl) (hs.rf rfl) ?_
      refine r_geti dX6_giveCommon_70 fl_X6_97 rfl rfl (hs.lt rfl) ?_
      refine r_icmpge (tgt := 104) dX6_giveCommon_73 rfl (by omega) (by show R32 (σ 19 1); omega) (fun h73 => ?_) (fun h73 => ?_)
      · exact absurd h73 (by show ¬ σ 19 1 ≤ (i : Int); omega)
      · refine r_aloadk_n dX6_giveCommon_76 rfl ?_
        refine r_getr dX6_giveCommon_77 fl_X6_9 rfl rfl (hs.lt rfl) (hs.rf rfl) ?_
        refine r_iload dX6_giveCommon_80 rfl ?_
        refine r_dup2 dX6_giveCommon_82 rfl rfl ?_
        refine r_iald dX6_giveCommon_83 rfl (hs.lt rfl) rfl (by omega) ?_
        rw [show sr (sr σ 30 (comW w gts wt P i)) 33 (fun j => if j < P then gts j else σ 33 j) 30 i = w i by show (if i < i ∧ 0 < sumN gts P then _ else w i) = w i; rw [if_neg (by omega)]]
        refine r_iload_n dX6_giveCommon_84 rfl ?_
        refine r_aloadk_n dX6_giveCommon_85 rfl ?_
        refine r_getr dX6_giveCommon_86 fl_X6_21 rfl rfl (hs.lt rfl) (hs.rf rfl) ?_
        refine r_iload dX6_giveCommon_89 rfl ?_
        refine r_iald dX6_giveCommon_91 rfl (hs.lt rfl) rfl (by omega) ?_
        rw [show sr (sr σ 30 (comW w gts wt P i)) 33 (fun j => if j < P then gts j else σ 33 j) 33 i = gts i by show (if i < P then gts i else σ 33 i) = gts i; rw [if_pos (by omega)]]
        refine r_imul dX6_giveCommon_92 ?_
        refine r_iload dX6_giveCommon_93 rfl ?_
        refine r_idiv dX6_giveCommon_95 (by omega) (by omega) ?_
        refine r_iadd dX6_giveCommon_96 ?_
        refine r_iast dX6_giveCommon_97 rfl (hs.lt rfl) rfl (by omega) ?_
        refine r_iinc dX6_giveCommon_98 (Nat.le_of_ble_eq_true rfl) rfl rfl s5 ?_
        refine r_goto (tgt := 64) dX6_giveCommon_101 rfl ?_
        rw [sr_comm (by omega), up_sr, sr_comm (by omega)]
        have e : ud (comW w gts wt P i) i (w i + wt * gts i / sumN gts P) = comW w gts wt P (i + 1) := by
          funext j
          unfold ud comW
          by_cases h : j = i
          · rw [if_pos h, if_pos ⟨by omega, hp⟩, h]
          · rw [if_neg h]
            by_cases h2 : j < i
            · rw [if_pos ⟨h2, hp⟩, if_pos ⟨by omega, hp⟩]
            · rw [if_neg (by omega), if_neg (by omega)]
        rw [e]
        exact ih (i + 1) (by omega) hp
  have loop1 : ∀ (m i : Nat) (x5 : Value), i + m = P → isJ x5 = false → RW (KV l G 2 mX6_giveCommon n ρ (fun σ' => ∃ g : Nat → Int, (∀ j, R32 (g j)) ∧ σ' = sr (sr σ 30 (comW w gts wt P P)) 33 g)) (0, 0, n, ρ) (sr (sr σ 30 w) 33 (fun j => if j < i then gts j else σ 33 j)) 3 [rf G 29, iv wt, iv day, iv closing, iv i, x5] [] := by
    intro m
    induction m with
    | zero =>
      intro i x5 hi hx
      have e : i = P := by omega
      subst e
      refine r_iload dX6_giveCommon_3 rfl ?_
      refine r_aloadk_n dX6_giveCommon_5 rfl ?_
      refine r_getr dX6_giveCommon_6 fl_X6_32 rfl rfl (hs.lt rfl) (hs.rf rfl) ?_
      refine r_geti dX6_giveCommon_9 fl_X6_97 rfl rfl (hs.lt rfl) ?_
      refine r_icmpge (tgt := 39) dX6_giveCommon_12 rfl (by omega) (by show R32 (σ 19 1); omega) (fun h12 => ?_) (fun h12 => ?_)
      · refine r_aloadk_n dX6_giveCommon_39 rfl ?_
        refine r_getr dX6_giveCommon_40 fl_X6_21 rfl rfl (hs.lt rfl) (hs.rf rfl) ?_
        refine r_aloadk_n dX6_giveCommon_43 rfl ?_
        refine r_getr dX6_giveCommon_44 fl_X6_32 rfl rfl (hs.lt rfl) (hs.rf rfl) ?_
        refine r_geti dX6_giveCommon_47 fl_X6_97 rfl rfl (hs.lt rfl) ?_
        rw [show sr (sr σ 30 w) 33 (fun j => if j < i then gts j else σ 33 j) 19 1 = (i : Int) from c1]
        refine q_callSr dX6_giveCommon_50 (c_total 33 8 (hs.lt rfl) rfl i c2) ml_X6_103 okX6_total rfl rfl (Nat.le_of_ble_eq_true rfl) (roomOK.of (by decide)) ⟨(Nat.le_of_ble_eq_true rfl), (Nat.le_of_ble_eq_true rfl)⟩ ?_
        rw [show sumN (sr (sr σ 30 w) 33 (fun j => if j < i then gts j else σ 33 j) 33) i = sumN gts i from hsum]
        refine r_istore dX6_giveCommon_53 (Nat.le_of_ble_eq_true rfl) rfl s4 ?_
        refine r_iload dX6_giveCommon_55 rfl ?_
        refine r_ifgt (tgt := 61) dX6_giveCommon_57 rfl (by omega) (fun h57 => ?_) (fun h57 => ?_)
        · refine r_iconst dX6_giveCommon_61 ?_
          refine r_istore dX6_giveCommon_62 (Nat.le_of_ble_eq_true rfl) rfl s5 ?_
          have e : w = comW w gts wt i 0 := by funext p; unfold comW; rw [if_neg (by omega)]
          have h := loop2 i 0 (by omega) h57
          rw [← e] at h
          exact h
        · exact r_vret dX6_giveCommon_60 rfl ⟨rfl, _, hg32 i, by
  have e : comW w gts wt i i = w := by funext p; unfold comW; rw [if_neg (by omega)]
  rw [e]⟩
      · exact absurd h12 (by show ¬ (i : Int) < σ 19 1; omega)
    | succ m ih =>
      intro i x5 hi hx
      refine r_iload dX6_giveCommon_3 rfl ?_
      refine r_aloadk_n dX6_giveCommon_5 rfl ?_
      refine r_getr dX6_giveCommon_6 fl_X6_32 rfl rfl (hs.lt rfl) (hs.rf rfl) ?_
      refine r_geti dX6_giveCommon_9 fl_X6_97 rfl rfl (hs.lt rfl) ?_
      refine r_icmpge (tgt := 39) dX6_giveCommon_12 rfl (by omega) (by show R32 (σ 19 1); omega) (fun h12 => ?_) (fun h12 => ?_)
      · exact absurd h12 (by show ¬ σ 19 1 ≤ (i : Int); omega)
      · refine r_aloadk_n dX6_giveCommon_15 rfl ?_
        refine r_getr dX6_giveCommon_16 fl_X6_21 rfl rfl (hs.lt rfl) (hs.rf rfl) ?_
        refine r_iload dX6_giveCommon_19 rfl ?_
        refine r_aloadk_n dX6_giveCommon_21 rfl ?_
        refine r_getr dX6_giveCommon_22 fl_X6_32 rfl rfl (hs.lt rfl) (hs.rf rfl) ?_
        refine r_iload dX6_giveCommon_25 rfl ?_
        refine r_iload_n dX6_giveCommon_27 rfl ?_
        refine r_iload_n dX6_giveCommon_28 rfl ?_
        refine q_callVr dX6_giveCommon_29 (hcon w _ hw32 (hg32 i) i (by omega)) ml_X6_100 okX4_gatesOf rfl rfl (hs.lt rfl) rfl rfl (Nat.le_of_ble_eq_true rfl) (roomOK.of (by decide)) ⟨(Nat.le_of_ble_eq_true rfl), (Nat.le_of_ble_eq_true rfl)⟩ ?_
        refine r_iast dX6_giveCommon_32 rfl (hs.lt rfl) rfl (by omega) ?_
        refine r_iinc dX6_giveCommon_33 (Nat.le_of_ble_eq_true rfl) rfl rfl s4 ?_
        refine r_goto (tgt := 3) dX6_giveCommon_36 rfl ?_
        rw [up_sr, ud_if]
        exact ih (i + 1) _ (by omega) hx
  refine Ct.of (L0 := [rf G 29, iv wt, iv day, iv closing, xx, xx]) (by decide +kernel) (Nat.le_of_ble_eq_true rfl) rfl ?_
  refine r_iconst dX6_giveCommon_0 ?_
  refine r_istore dX6_giveCommon_1 (Nat.le_of_ble_eq_true rfl) rfl s4 ?_
  have e : sr σ 30 w = sr (sr σ 30 w) 33 (fun j => if j < 0 then gts j else σ 33 j) := by
    have e2 : (fun j => if j < 0 then gts j else σ 33 j) = sr σ 30 w 33 := by funext j; rw [if_neg (by omega)]; rfl
    rw [e2, sr_self]
  rw [e]
  exact loop1 P 0 _ (by omega) rfl
end Weigh
