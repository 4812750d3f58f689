/-! MODEL: findDues, sum, has -/
/-- rows of reckoning alone are other than before -/
def MF (σ σ' : Si) : Prop := (∀ k, (k < 38 ∨ (38 < k ∧ k < 60) ∨ 64 < k) → σ' k = σ k) ∧ Rg σ' ∧ (∀ j, (j < 33 ∨ (33 < j ∧ j < 38) ∨ 42 < j) → σ' 38 j = σ 38 j)
theorem MF.trans {σ σ' σ'' : Si} (h : MF σ σ') (h' : MF σ' σ'') : MF σ σ'' := ⟨fun k hk => (h'.1 k hk).trans (h.1 k hk), h'.2.1, fun j hj => (h'.2.2 j hj).trans (h.2.2 j hj)⟩
theorem JM.mf {σ σ' : Si} {W H P C O : Nat} (h : JM σ W H P C O) (f : MF σ σ') : JM σ' W H P C O := by
  obtain ⟨hR, t0, g, j3, j4, j5, j6, j7, j8, j9, j10, j11, j12⟩ := h
  obtain ⟨f1, f2, f3⟩ := f
  unfold JM ClmM
  unfold ClmM at j6
  rw [f1 39 (by omega), f1 40 (by omega), f1 41 (by omega), f1 42 (by omega), f1 43 (by omega), f1 46 (by omega), f1 47 (by omega), f1 48 (by omega), f1 49 (by omega), f1 50 (by omega), f1 51 (by omega), f1 52 (by omega), f1 54 (by omega), f1 55 (by omega), f1 56 (by omega), f1 57 (by omega), f3 0 (by omega), f3 1 (by omega), f3 2 (by omega), f3 6 (by omega), f3 10 (by omega), f3 13 (by omega), f3 18 (by omega), f3 22 (by omega), f3 23 (by omega), f3 24 (by omega), f3 25 (by omega), f3 26 (by omega)]
  exact ⟨f2, t0, g, j3, j4, j5, j6, j7, j8, j9, j10, j11, j12⟩
def weiM (σ : Si) (N P C O : Nat) (day cl : Int) : Nat → Int := weiS (σ 39) (σ 40) (σ 41) (σ 45) (σ 47) (σ 48) (σ 49) (σ 50) (σ 51) (σ 52) (σ 53) zF N P C O day cl
def dueM (σ : Si) (N P C O : Nat) (day cl : Int) : Nat → Int := dueS (σ 39) (σ 40) (σ 41) (σ 45) (σ 47) (σ 48) (σ 49) (σ 50) (σ 51) (σ 52) (σ 53) zF zF zF N P C O day cl (σ 38 25) (σ 38 24)
def valM (σ : Si) (N : Nat) : Int := valS (σ 39) (σ 40) (σ 41) N
theorem weiM_mf {σ σ' : Si} {N P C O : Nat} {day cl : Int} (f : MF σ σ') : weiM σ' N P C O day cl = weiM σ N P C O day cl := by
  unfold weiM
  rw [f.1 39 (by omega), f.1 40 (by omega), f.1 41 (by omega), f.1 45 (by omega), f.1 47 (by omega), f.1 48 (by omega), f.1 49 (by omega), f.1 50 (by omega), f.1 51 (by omega), f.1 52 (by omega), f.1 53 (by omega)]
theorem dueM_mf {σ σ' : Si} {N P C O : Nat} {day cl : Int} (f : MF σ σ') : dueM σ' N P C O day cl = dueM σ N P C O day cl := by
  unfold dueM
  rw [f.1 39 (by omega), f.1 40 (by omega), f.1 41 (by omega), f.1 45 (by omega), f.1 47 (by omega), f.1 48 (by omega), f.1 49 (by omega), f.1 50 (by omega), f.1 51 (by omega), f.1 52 (by omega), f.1 53 (by omega), f.2.2 25 (by omega), f.2.2 24 (by omega)]
theorem partS_by {much : Int} {by_ by' : Nat → Int} {P : Nat} (h : ∀ p, p < P → by_ p = by' p) : partS much by_ zF zF P = partS much by' zF zF P := by
  have e0 : sumN by_ P = sumN by' P := sumN_congr P h
  have e1 : pqI much (sumN by' P) by_ zF P = pqI much (sumN by' P) by' zF P := by
    funext p
    unfold pqI
    split
    · rw [h p (by assumption)]
    · rfl
  have e2 : prI much (sumN by' P) by_ zF P = prI much (sumN by' P) by' zF P := by
    funext p
    unfold prI
    split
    · rw [h p (by assumption)]
    · rfl
  have e3 : sumN (fun p => much * by_ p / sumN by' P) P = sumN (fun p => much * by' p / sumN by' P) P := sumN_congr P (fun p hp => by rw [h p hp])
  unfold partS
  rw [e0, e1, e2, e3]
theorem up_38 {σ : Si} {f w : Nat → Int} {j : Nat} {z : Int} : up (sr (sr σ 38 f) 60 w) 38 j z = sr (sr σ 38 (ud f j z)) 60 w := by rw [sr_comm (by omega), up_sr, sr_comm (by omega)]
/-- what the closing is, where the late ones count too -/
def ClP (σ : Si) (C : Nat) (op cl : Int) : Prop := ∀ i, i < C → ((¬ op = 0 ∨ σ 50 i ≤ σ 38 22) ↔ σ 50 i ≤ cl)
section Model11
variable {l : Launch} {G : GG} {n : Nat} {ρ : Rho} {σ : Si} {W H P C O : Nat}
theorem weiM_r (hJ : JM σ W H P C O) (day cl : Int) (j : Nat) : 0 ≤ weiM σ (W * H) P C O day cl j ∧ weiM σ (W * H) P C O day cl j ≤ 200000 := by
  obtain ⟨hR, t0, g, j3, j4, j5, j6, j7, j8, j9, j10, j11, j12⟩ := id hJ
  exact weiS_r j3 (WH_le g.2.2.1.2 g.2.2.2.2) (fun _ _ => rfl) (fun i hi => (j6.2.2.2.2.2.2.1 i hi).2.1.2) j
theorem dueM_r (hJ : JM σ W H P C O) (day cl : Int) (j : Nat) : 0 ≤ dueM σ (W * H) P C O day cl j ∧ dueM σ (W * H) P C O day cl j ≤ 2000 := by
  obtain ⟨hR, t0, g, j3, j4, j5, j6, j7, j8, j9, j10, j11, j12⟩ := id hJ
  exact dueS_r j6.2.1 j3 (WH_le g.2.2.1.2 g.2.2.2.2) (fun i hi => (j6.2.2.2.2.2.2.1 i hi).2.1.2) j7.2.2.2.1.1 j7.2.2.1 j
set_option maxHeartbeats 8000000 in
theorem m_findDuesa (hs : Std n ρ) (hJ : JM σ W H P C O) (op cl : Int) (hop : op = 0 ∨ op = 1) (hcl : ClP σ C op cl) (day : Int) (hd : R32 day) : CtV l G 5 mX9_findDues n ρ σ [rf G 38, iv day, iv op, rf G 61] (fun σ' => MF σ σ' ∧ σ' 38 33 = op ∧ (∀ p, p < P → σ' 60 p = weiM σ (W * H) P C O day cl p) ∧ (∀ p, p < P → σ' 61 p = dueM σ (W * H) P C O day cl p) ∧ σ' 62 = σ 62 ∧ σ' 38 38 = valM σ (W * H) ∧ σ' 38 39 = min (valM σ (W * H)) (σ 38 25) ∧ σ' 38 40 = titS (σ 45) P (valM σ (W * H)) (σ 38 25) (σ 38 24) ∧ σ' 38 41 = valM σ (W * H) - min (valM σ (W * H)) (σ 38 25) - titS (σ 45) P (valM σ (W * H)) (σ 38 25) (σ 38 24) ∧ σ' 38 42 = sumN (weiM σ (W * H) P C O day cl) P) := by
  obtain ⟨hR, t0, g, j3, j4, j5, j6, j7, j8, j9, j10, j11, j12⟩ := id hJ
  have hle := WH_le g.2.2.1.2 g.2.2.2.2
  obtain ⟨c1, c2, c3, c4, c5, c6, c7, c8⟩ := id j6
  have hv := valS_r (so := σ 39) (us := σ 40) (rd := σ 41) (N := W * H) j3
  have hti := titS_r (kd := σ 45) (P := P) (v := valM σ (W * H)) (sold := σ 38 25) (tithe := σ 38 24) hv.1 j7.2.2.2.1.1 j7.2.2.1
  have hwM := weiM_r hJ day cl
  have hl := fstN_r (kindF (σ 45) 3) P
  have hrr := fstN_r (kindF (σ 45) 4) P
  have hwf : ∀ p, p < P → comW (weiF (σ 39) (σ 40) (σ 41) (σ 45) (σ 47) (σ 48) (σ 49) (σ 50) (σ 51) (σ 52) (σ 53) (σ 60) P C O day cl (W * H)) (fun p => gfold (σ 47) (σ 48) (σ 49) (σ 50) p day cl C) (60 * comS (σ 39) (σ 40) (σ 41) (W * H)) P P p = weiM σ (W * H) P C O day cl p := by
    intro p hp
    have h1 := wfold_cg (so := σ 39) (kd := σ 45) (by_ := σ 47) (hol := fun c => hold (σ 40) (σ 41) (σ 48) (σ 49) (σ 50) C c day cl) (obr := obrS (σ 40) (σ 41) (σ 47) (σ 48) (σ 49) (σ 50) (σ 51) (σ 52) (σ 53) C O day cl) (lord := fstN (kindF (σ 45) 3) P) (w0 := wP0 P (σ 60)) (w0' := w00 zF) (P := P) hl (fun c => by
      have h := hold_r (σ 40) (σ 41) (σ 48) (σ 49) (σ 50) C c day cl
      by_cases q : hold (σ 40) (σ 41) (σ 48) (σ 49) (σ 50) C c day cl = -1
      · exact Or.inl q
      · exact Or.inr (c7 _ (by omega)).1) (fun c => by
      have h := fstN_r (objF (σ 40) (σ 41) (σ 47) (σ 48) (σ 49) (σ 50) (σ 51) (σ 52) (σ 53) C c day cl) O
      unfold obrS
      split
      · omega
      · have := c8 (fstN (objF (σ 40) (σ 41) (σ 47) (σ 48) (σ 49) (σ 50) (σ 51) (σ 52) (σ 53) C c day cl) O).toNat (by omega)
        omega) (fun b hb => by unfold wP0; rw [if_pos hb, w00_zz]; rfl) (W * H) p hp
    unfold weiM weiS comW weiF
    rw [h1]
  have hw60 : ∀ b, R32 (comW (weiF (σ 39) (σ 40) (σ 41) (σ 45) (σ 47) (σ 48) (σ 49) (σ 50) (σ 51) (σ 52) (σ 53) (σ 60) P C O day cl (W * H)) (fun p => gfold (σ 47) (σ 48) (σ 49) (σ 50) p day cl C) (60 * comS (σ 39) (σ 40) (σ 41) (W * H)) P P b) := by
    intro b
    rcases Nat.lt_or_ge b P with q | q
    · rw [hwf b q]; have := hwM b; omega
    · unfold comW
      rw [if_neg (by omega)]
      unfold weiF
      rw [wfold_out (P := P) hl (fun c => by
        have h := hold_r (σ 40) (σ 41) (σ 48) (σ 49) (σ 50) C c day cl
        by_cases q : hold (σ 40) (σ 41) (σ 48) (σ 49) (σ 50) C c day cl = -1
        · exact Or.inl q
        · exact Or.inr (c7 _ (by omega)).1) (fun c => by
        have h := fstN_r (objF (σ 40) (σ 41) (σ 47) (σ 48) (σ 49) (σ 50) (σ 51) (σ 52) (σ 53) C c day cl) O
        unfold obrS
        split
        · omega
        · have := c8 (fstN (objF (σ 40) (σ 41) (σ 47) (σ 48) (σ 49) (σ 50) (σ 51) (σ 52) (σ 53) C c day cl) O).toNat (by omega)
          omega) q]
      unfold wP0
      rw [if_neg (by omega)]
      exact hR 60 (by decide) b
  have kw := m_findWeights (l := l) (G := G) (σ := sr σ 38 (ud (σ 38) 33 op)) (W := W) (H := H) (P := P) (C := C) (O := O) hs (hR.sr (ud_R (hR 38 (by decide)) (by omega))) g j3 j5 j6 cl hcl day hd
  generalize hWf : comW (weiF (σ 39) (σ 40) (σ 41) (σ 45) (σ 47) (σ 48) (σ 49) (σ 50) (σ 51) (σ 52) (σ 53) (σ 60) P C O day cl (W * H)) (fun p => gfold (σ 47) (σ 48) (σ 49) (σ 50) p day cl C) (60 * comS (σ 39) (σ 40) (σ 41) (W * H)) P P = wf at hwf hw60
  have hsum : sumN wf P = sumN (weiM σ (W * H) P C O day cl) P := sumN_congr P hwf
  have hsr := sumN_r (f := weiM σ (W * H) P C O day cl) (a := 0) (b := 200000) P (fun i _ => hwM i)
  rw [← hsum] at hsr
  have hv : 0 ≤ valM σ (W * H) ∧ valM σ (W * H) ≤ 9 * (W * H : Nat) := hv
  have hdue : dueM σ (W * H) P C O day cl = (if fstN (kindF (σ 45) 4) P = -1 then partS (valM σ (W * H) - min (valM σ (W * H)) (σ 38 25) - titS (σ 45) P (valM σ (W * H)) (σ 38 25) (σ 38 24)) wf zF zF P else ud (partS (valM σ (W * H) - min (valM σ (W * H)) (σ 38 25) - titS (σ 45) P (valM σ (W * H)) (σ 38 25) (σ 38 24)) wf zF zF P) (fstN (kindF (σ 45) 4) P).toNat (partS (valM σ (W * H) - min (valM σ (W * H)) (σ 38 25) - titS (σ 45) P (valM σ (W * H)) (σ 38 25) (σ 38 24)) wf zF zF P (fstN (kindF (σ 45) 4) P).toNat + titS (σ 45) P (valM σ (W * H)) (σ 38 25) (σ 38 24))) := by
    rw [partS_by hwf]; rfl
  have htd : ¬ fstN (kindF (σ 45) 4) P = -1 → titS (σ 45) P (valM σ (W * H)) (σ 38 25) (σ 38 24) = (valM σ (W * H) - min (valM σ (W * H)) (σ 38 25)) * σ 38 24 / 100 := fun q => if_neg q
  have htd0 : fstN (kindF (σ 45) 4) P = -1 → titS (σ 45) P (valM σ (W * H)) (σ 38 25) (σ 38 24) = 0 := fun q => if_pos q
  have hdr := dueM_r hJ day cl
  have hjm : 0 ≤ (valM σ (W * H) - min (valM σ (W * H)) (σ 38 25)) * σ 38 24 ∧ (valM σ (W * H) - min (valM σ (W * H)) (σ 38 25)) * σ 38 24 ≤ 720 * 50 := ⟨Int.mul_nonneg (by omega) (by omega), Int.mul_le_mul (by omega) (by omega) (by omega) (by omega)⟩
  generalize hQ : (fun (σ' : Si) => MF σ σ' ∧ σ' 38 33 = op ∧ (∀ p, p < P → σ' 60 p = weiM σ (W * H) P C O day cl p) ∧ (∀ p, p < P → σ' 61 p = dueM σ (W * H) P C O day cl p) ∧ σ' 62 = σ 62 ∧ σ' 38 38 = valM σ (W * H) ∧ σ' 38 39 = min (valM σ (W * H)) (σ 38 25) ∧ σ' 38 40 = titS (σ 45) P (valM σ (W * H)) (σ 38 25) (σ 38 24) ∧ σ' 38 41 = valM σ (W * H) - min (valM σ (W * H)) (σ 38 25) - titS (σ 45) P (valM σ (W * H)) (σ 38 25) (σ 38 24) ∧ σ' 38 42 = sumN (weiM σ (W * H) P C O day cl) P) = Q
  rw [← hsum] at hQ
  generalize titS (σ 45) P (valM σ (W * H)) (σ 38 25) (σ 38 24) = tt at hti hdue htd htd0 hQ
  generalize hVV : valM σ (W * H) = vv at hv hti hdue htd hQ hjm
  generalize hS : sumN wf P = sm at hQ hsr
  generalize hRC : fstN (kindF (σ 45) 4) P = rc at hrr hdue htd htd0
  have hfin : ∀ q had : Nat → Int, (∀ j, R32 (q j)) → (∀ j, R32 (had j)) → (∀ p, p < P → q p = dueM σ (W * H) P C O day cl p) → Q (sr (sr (sr (sr σ 38 (ud (ud (ud (ud (ud (ud (σ 38) 33 op) 38 vv) 42 sm) 39 (min vv (σ 38 25))) 40 tt) 41 (vv - min vv (σ 38 25) - tt))) 60 wf) 61 q) 64 had) := by
    intro q had hq hh hqd
    rw [← hQ]
    refine ⟨⟨fun k hk => ?_, ?_, fun j hj => ?_⟩, rfl, hwf, hqd, rfl, rfl, rfl, rfl, rfl, rfl⟩
    · rw [sr_ne (by omega), sr_ne (by omega), sr_ne (by omega), sr_ne (by omega)]
    · exact (((hR.sr (ud_R (ud_R (ud_R (ud_R (ud_R (ud_R (hR 38 (by decide)) (by omega)) (by omega)) (by omega)) (by omega)) (by omega)) (by omega))).sr hw60).sr hq).sr hh
    · show ud (ud (ud (ud (ud (ud (σ 38) 33 op) 38 vv) 42 sm) 39 (min vv (σ 38 25))) 40 tt) 41 (vv - min vv (σ 38 25) - tt) j = σ 38 j
      rw [ud_ne (by omega), ud_ne (by omega), ud_ne (by omega), ud_ne (by omega), ud_ne (by omega), ud_ne (by omega)]
  have hRs : Rg (sr (sr σ 38 (ud (ud (ud (ud (ud (ud (σ 38) 33 op) 38 vv) 42 sm) 39 (min vv (σ 38 25))) 40 tt) 41 (vv - min vv (σ 38 25) - tt))) 60 wf) := (hR.sr (ud_R (ud_R (ud_R (ud_R (ud_R (ud_R (hR 38 (by decide)) (by omega)) (by omega)) (by omega)) (by omega)) (by omega)) (by omega))).sr hw60
  have kp := m_parta (l := l) (G := G) (σ := sr (sr σ 38 (ud (ud (ud (ud (ud (ud (σ 38) 33 op) 38 vv) 42 sm) 39 (min vv (σ 38 25))) 40 tt) 41 (vv - min vv (σ 38 25) - tt))) 60 wf) (P := P) hs hRs c1 c2 (vv - min vv (σ 38 25) - tt) (by omega) (fun p hp => by show 0 ≤ wf p ∧ wf p ≤ 200000; rw [hwf p hp]; exact hwM p)
  have L74 : RW (KV l G 5 mX9_findDues n ρ Q) (0, 0, n, ρ) (sr (sr σ 38 (ud (ud (ud (ud (ud (σ 38) 33 op) 38 vv) 42 sm) 39 (min vv (σ 38 25))) 40 tt)) 60 wf) 74 [rf G 38, iv day, iv op, rf G 61, iv rc] [] := by
    refine r_aloadk_n dX9_findDues_74 rfl ?_
    refine r_aloadk_n dX9_findDues_75 rfl ?_
    refine r_geti dX9_findDues_76 fl_X9_211 rfl rfl (hs.lt rfl) ?_
    refine r_aloadk_n dX9_findDues_79 rfl ?_
    refine r_geti dX9_findDues_80 fl_X9_233 rfl rfl (hs.lt rfl) ?_
    refine show RW _ _ _ _ _ (iv (min vv (σ 38 25)) :: iv vv :: _) from ?_
    refine r_isub dX9_findDues_83 ?_
    refine r_aloadk_n dX9_findDues_84 rfl ?_
    refine r_geti dX9_findDues_85 fl_X9_236 rfl rfl (hs.lt rfl) ?_
    refine show RW _ _ _ _ _ (iv tt :: _) from ?_
    refine r_isub dX9_findDues_88 ?_
    refine r_puti dX9_findDues_89 fl_X9_239 rfl (hs.lt rfl) ?_
    rw [up_38]
    refine r_aloadk_n dX9_findDues_92 rfl ?_
    refine r_aloadk_n dX9_findDues_93 rfl ?_
    refine r_geti dX9_findDues_94 fl_X9_239 rfl rfl (hs.lt rfl) ?_
    refine show RW _ _ _ _ _ (iv (vv - min vv (σ 38 25) - tt) :: _) from ?_
    refine r_aloadk_n dX9_findDues_97 rfl ?_
    refine r_getr dX9_findDues_98 fl_X9_90 rfl rfl (hs.lt rfl) (hs.rf rfl) ?_
    refine r_aloadk_n dX9_findDues_101 rfl ?_
    refine q_callVv dX9_findDues_102 (kp) ml_X9_242 okX9_part rfl rfl (hs.lt rfl) rfl rfl (Nat.le_of_ble_eq_true rfl) (roomOK.of (by decide)) ⟨(Nat.le_of_ble_eq_true rfl), (Nat.le_of_ble_eq_true rfl)⟩ (fun σ1 hq1 => ?_)
    obtain ⟨q, had, hq, hh, hqd, rfl⟩ := hq1
    have hqd : ∀ p, p < P → q p = partS (vv - min vv (σ 38 25) - tt) wf zF zF P p := hqd
    refine r_iload dX9_findDues_105 rfl ?_
    refine r_iconst dX9_findDues_107 ?_
    refine r_icmpeq (tgt := 122) dX9_findDues_108 rfl (by omega) (by omega) (fun h108 => ?_) (fun h108 => ?_)
    · try rw [sr_comm (by omega), up_sr, sr_comm (by omega)]
      exact r_vret dX9_findDues_122 rfl ⟨rfl, by
  by_cases z : rc = -1
  · first
    | exact hfin q had hq hh (fun p hp => by rw [hqd p hp, hdue, if_pos z])
    | exact absurd z h108
  · first
    | exact absurd h108 z
    | (refine hfin (ud q rc.toNat (q rc.toNat + tt)) had (ud_R hq ?_) hh (fun p hp => ?_)
       · have h1 := hdr rc.toNat
         rw [hdue, if_neg z, ud_at, ← hqd _ (by omega)] at h1
         omega
       · rw [hdue, if_neg z, ← hqd _ (show rc.toNat < P by omega)]
         unfold ud
         split
         · rfl
         · exact hqd p hp)⟩
    · refine r_aloadk_n dX9_findDues_111 rfl ?_
      refine r_iload dX9_findDues_112 rfl ?_
      refine r_dup2 dX9_findDues_114 rfl rfl ?_
      refine r_iald dX9_findDues_115 rfl (hs.lt rfl) (c := rc.toNat) (by omega) (by omega) ?_
      refine r_aloadk_n dX9_findDues_116 rfl ?_
      refine r_geti dX9_findDues_117 fl_X9_236 rfl rfl (hs.lt rfl) ?_
      refine show RW _ _ _ _ _ (iv tt :: iv (q rc.toNat) :: _) from ?_
      refine r_iadd dX9_findDues_120 ?_
      refine r_iast dX9_findDues_121 rfl (hs.lt rfl) (c := rc.toNat) (by omega) (by omega) ?_
      try rw [sr_comm (by omega), up_sr, sr_comm (by omega)]
      exact r_vret dX9_findDues_122 rfl ⟨rfl, by
  by_cases z : rc = -1
  · first
    | exact hfin q had hq hh (fun p hp => by rw [hqd p hp, hdue, if_pos z])
    | exact absurd z h108
  · first
    | exact absurd h108 z
    | (refine hfin (ud q rc.toNat (q rc.toNat + tt)) had (ud_R hq ?_) hh (fun p hp => ?_)
       · have h1 := hdr rc.toNat
         rw [hdue, if_neg z, ud_at, ← hqd _ (by omega)] at h1
         omega
       · rw [hdue, if_neg z, ← hqd _ (show rc.toNat < P by omega)]
         unfold ud
         split
         · rfl
         · exact hqd p hp)⟩
  have L43 : RW (KV l G 5 mX9_findDues n ρ Q) (0, 0, n, ρ) (sr (sr σ 38 (ud (ud (ud (ud (σ 38) 33 op) 38 vv) 42 sm) 39 (min vv (σ 38 25)))) 60 wf) 43 [rf G 38, iv day, iv op, rf G 61, iv rc] [] := by
    refine r_aloadk_n dX9_findDues_43 rfl ?_
    refine r_iload dX9_findDues_44 rfl ?_
    refine r_iconst dX9_findDues_46 ?_
    refine r_icmpne (tgt := 54) dX9_findDues_47 rfl (by omega) (by omega) (fun h47 => ?_) (fun h47 => ?_)
    · refine r_aloadk_n dX9_findDues_54 rfl ?_
      refine r_geti dX9_findDues_55 fl_X9_211 rfl rfl (hs.lt rfl) ?_
      refine r_aloadk_n dX9_findDues_58 rfl ?_
      refine r_geti dX9_findDues_59 fl_X9_233 rfl rfl (hs.lt rfl) ?_
      refine show RW _ _ _ _ _ (iv (min vv (σ 38 25)) :: iv vv :: _) from ?_
      refine r_isub dX9_findDues_62 ?_
      refine r_aloadk_n dX9_findDues_63 rfl ?_
      refine r_geti dX9_findDues_64 fl_X9_188 rfl rfl (hs.lt rfl) ?_
      refine show RW _ _ _ _ _ (iv (σ 38 24) :: _) from ?_
      refine r_imul dX9_findDues_67 ?_
      refine r_bipush dX9_findDues_68 ?_
      refine r_idiv dX9_findDues_70 (by omega) (by omega) ?_
      refine r_puti dX9_findDues_71 fl_X9_236 rfl (hs.lt rfl) ?_
      rw [up_38]
      first
      | (rw [← htd h47]; exact L74)
      | (have e := htd0 h47
         rw [e] at L74
         exact L74)
    · refine r_iconst dX9_findDues_50 ?_
      refine r_goto (tgt := 71) dX9_findDues_51 rfl ?_
      refine r_puti dX9_findDues_71 fl_X9_236 rfl (hs.lt rfl) ?_
      rw [up_38]
      first
      | (rw [← htd h47]; exact L74)
      | (have e := htd0 h47
         rw [e] at L74
         exact L74)
  have kf : RdI l G 0 mX9_firstOf n ρ (sr (sr σ 38 (ud (ud (ud (σ 38) 33 op) 38 vv) 42 sm)) 60 wf) [rf G 38, iv 4] rc := by
    have h := m_firstOf (l := l) (G := G) (σ := sr (sr σ 38 (ud (ud (ud (σ 38) 33 op) 38 vv) 42 sm)) 60 wf) hs ((hR.sr (ud_R (ud_R (ud_R (hR 38 (by decide)) (by omega)) (by omega)) (by omega))).sr hw60) P c1 c2 4 (by omega)
    rw [← hRC]
    exact h
  have L10 : RW (KV l G 5 mX9_findDues n ρ Q) (0, 0, n, ρ) (sr (sr σ 38 (ud (ud (ud (σ 38) 33 op) 38 vv) 42 sm)) 60 wf) 10 [rf G 38, iv day, iv op, rf G 61, xx] [] := by
    refine r_aloadk_n dX9_findDues_10 rfl ?_
    refine r_iconst dX9_findDues_11 ?_
    refine q_callVr dX9_findDues_12 (kf) ml_X9_208 okX9_firstOf rfl rfl (hs.lt rfl) rfl rfl (Nat.le_of_ble_eq_true rfl) (roomOK.of (by decide)) ⟨(Nat.le_of_ble_eq_true rfl), (Nat.le_of_ble_eq_true rfl)⟩ ?_
    refine r_istore dX9_findDues_15 (Nat.le_of_ble_eq_true rfl) rfl s4 ?_
    refine r_aloadk_n dX9_findDues_17 rfl ?_
    refine r_aloadk_n dX9_findDues_18 rfl ?_
    refine r_geti dX9_findDues_19 fl_X9_191 rfl rfl (hs.lt rfl) ?_
    refine show RW _ _ _ _ _ (iv (σ 38 25) :: _) from ?_
    refine r_aloadk_n dX9_findDues_22 rfl ?_
    refine r_geti dX9_findDues_23 fl_X9_211 rfl rfl (hs.lt rfl) ?_
    refine show RW _ _ _ _ _ (iv vv :: _) from ?_
    refine r_icmpge (tgt := 36) dX9_findDues_26 rfl (by omega) (by omega) (fun h26 => ?_) (fun h26 => ?_)
    · refine r_aloadk_n dX9_findDues_36 rfl ?_
      refine r_geti dX9_findDues_37 fl_X9_211 rfl rfl (hs.lt rfl) ?_
      refine r_puti dX9_findDues_40 fl_X9_233 rfl (hs.lt rfl) ?_
      rw [up_38]
      first
      | (rw [show min vv (σ 38 25) = σ 38 25 by omega] at L43; exact L43)
      | (rw [show min vv (σ 38 25) = vv by omega] at L43; exact L43)
    · refine r_aloadk_n dX9_findDues_29 rfl ?_
      refine r_geti dX9_findDues_30 fl_X9_191 rfl rfl (hs.lt rfl) ?_
      refine show RW _ _ _ _ _ (iv (σ 38 25) :: _) from ?_
      refine r_goto (tgt := 40) dX9_findDues_33 rfl ?_
      refine r_puti dX9_findDues_40 fl_X9_233 rfl (hs.lt rfl) ?_
      rw [up_38]
      first
      | (rw [show min vv (σ 38 25) = σ 38 25 by omega] at L43; exact L43)
      | (rw [show min vv (σ 38 25) = vv by omega] at L43; exact L43)
  refine Ct.of (L0 := [rf G 38, iv day, iv op, rf G 61, xx]) (by decide +kernel) (Nat.le_of_ble_eq_true rfl) rfl ?_
  refine r_aloadk_n dX9_findDues_0 rfl ?_
  refine r_iload_n dX9_findDues_1 rfl ?_
  refine r_putz dX9_findDues_2 fl_X9_194 hop rfl (hs.lt rfl) ?_
  rw [up_eq_sr]
  refine r_aloadk_n dX9_findDues_5 rfl ?_
  refine r_iload_n dX9_findDues_6 rfl ?_
  refine q_callVv dX9_findDues_7 (kw) ml_X9_230 okX9_findWeights rfl rfl (hs.lt rfl) rfl rfl (Nat.le_of_ble_eq_true rfl) (roomOK.of (by decide)) ⟨(Nat.le_of_ble_eq_true rfl), (Nat.le_of_ble_eq_true rfl)⟩ (fun σ1 hq1 => ?_)
  obtain ⟨wf', h1, rfl⟩ := hq1
  have e : wf' = wf := h1.trans hWf
  rw [sr_sr, e]
  rw [← hVV, ← hS] at L10
  exact L10
set_option maxHeartbeats 8000000 in
theorem m_findDuesb (hs : Std n ρ) (hJ : JM σ W H P C O) (op cl : Int) (hop : op = 0 ∨ op = 1) (hcl : ClP σ C op cl) (day : Int) (hd : R32 day) : CtV l G 5 mX9_findDues n ρ σ [rf G 38, iv day, iv op, rf G 62] (fun σ' => MF σ σ' ∧ σ' 38 33 = op ∧ (∀ p, p < P → σ' 60 p = weiM σ (W * H) P C O day cl p) ∧ (∀ p, p < P → σ' 62 p = dueM σ (W * H) P C O day cl p) ∧ σ' 61 = σ 61 ∧ σ' 38 38 = valM σ (W * H) ∧ σ' 38 39 = min (valM σ (W * H)) (σ 38 25) ∧ σ' 38 40 = titS (σ 45) P (valM σ (W * H)) (σ 38 25) (σ 38 24) ∧ σ' 38 41 = valM σ (W * H) - min (valM σ (W * H)) (σ 38 25) - titS (σ 45) P (valM σ (W * H)) (σ 38 25) (σ 38 24) ∧ σ' 38 42 = sumN (weiM σ (W * H) P C O day cl) P) := by
  obtain ⟨hR, t0, g, j3, j4, j5, j6, j7, j8, j9, j10, j11, j12⟩ := id hJ
  have hle := WH_le g.2.2.1.2 g.2.2.2.2
  obtain ⟨c1, c2, c3, c4, c5, c6, c7, c8⟩ := id j6
  have hv := valS_r (so := σ 39) (us := σ 40) (rd := σ 41) (N := W * H) j3
  have hti := titS_r (kd := σ 45) (P := P) (v := valM σ (W * H)) (sold := σ 38 25) (tithe := σ 38 24) hv.1 j7.2.2.2.1.1 j7.2.2.1
  have hwM := weiM_r hJ day cl
  have hl := fstN_r (kindF (σ 45) 3) P
  have hrr := fstN_r (kindF (σ 45) 4) P
  have hwf : ∀ p, p < P → comW (weiF (σ 39) (σ 40) (σ 41) (σ 45) (σ 47) (σ 48) (σ 49) (σ 50) (σ 51) (σ 52) (σ 53) (σ 60) P C O day cl (W * H)) (fun p => gfold (σ 47) (σ 48) (σ 49) (σ 50) p day cl C) (60 * comS (σ 39) (σ 40) (σ 41) (W * H)) P P p = weiM σ (W * H) P C O day cl p := by
    intro p hp
    have h1 := wfold_cg (so := σ 39) (kd := σ 45) (by_ := σ 47) (hol := fun c => hold (σ 40) (σ 41) (σ 48) (σ 49) (σ 50) C c day cl) (obr := obrS (σ 40) (σ 41) (σ 47) (σ 48) (σ 49) (σ 50) (σ 51) (σ 52) (σ 53) C O day cl) (lord := fstN (kindF (σ 45) 3) P) (w0 := wP0 P (σ 60)) (w0' := w00 zF) (P := P) hl (fun c => by
      have h := hold_r (σ 40) (σ 41) (σ 48) (σ 49) (σ 50) C c day cl
      by_cases q : hold (σ 40) (σ 41) (σ 48) (σ 49) (σ 50) C c day cl = -1
      · exact Or.inl q
      · exact Or.inr (c7 _ (by omega)).1) (fun c => by
      have h := fstN_r (objF (σ 40) (σ 41) (σ 47) (σ 48) (σ 49) (σ 50) (σ 51) (σ 52) (σ 53) C c day cl) O
      unfold obrS
      split
      · omega
      · have := c8 (fstN (objF (σ 40) (σ 41) (σ 47) (σ 48) (σ 49) (σ 50) (σ 51) (σ 52) (σ 53) C c day cl) O).toNat (by omega)
        omega) (fun b hb => by unfold wP0; rw [if_pos hb, w00_zz]; rfl) (W * H) p hp
    unfold weiM weiS comW weiF
    rw [h1]
  have hw60 : ∀ b, R32 (comW (weiF (σ 39) (σ 40) (σ 41) (σ 45) (σ 47) (σ 48) (σ 49) (σ 50) (σ 51) (σ 52) (σ 53) (σ 60) P C O day cl (W * H)) (fun p => gfold (σ 47) (σ 48) (σ 49) (σ 50) p day cl C) (60 * comS (σ 39) (σ 40) (σ 41) (W * H)) P P b) := by
    intro b
    rcases Nat.lt_or_ge b P with q | q
    · rw [hwf b q]; have := hwM b; omega
    · unfold comW
      rw [if_neg (by omega)]
      unfold weiF
      rw [wfold_out (P := P) hl (fun c => by
        have h := hold_r (σ 40) (σ 41) (σ 48) (σ 49) (σ 50) C c day cl
        by_cases q : hold (σ 40) (σ 41) (σ 48) (σ 49) (σ 50) C c day cl = -1
        · exact Or.inl q
        · exact Or.inr (c7 _ (by omega)).1) (fun c => by
        have h := fstN_r (objF (σ 40) (σ 41) (σ 47) (σ 48) (σ 49) (σ 50) (σ 51) (σ 52) (σ 53) C c day cl) O
        unfold obrS
        split
        · omega
        · have := c8 (fstN (objF (σ 40) (σ 41) (σ 47) (σ 48) (σ 49) (σ 50) (σ 51) (σ 52) (σ 53) C c day cl) O).toNat (by omega)
          omega) q]
      unfold wP0
      rw [if_neg (by omega)]
      exact hR 60 (by decide) b
  have kw := m_findWeights (l := l) (G := G) (σ := sr σ 38 (ud (σ 38) 33 op)) (W := W) (H := H) (P := P) (C := C) (O := O) hs (hR.sr (ud_R (hR 38 (by decide)) (by omega))) g j3 j5 j6 cl hcl day hd
  generalize hWf : comW (weiF (σ 39) (σ 40) (σ 41) (σ 45) (σ 47) (σ 48) (σ 49) (σ 50) (σ 51) (σ 52) (σ 53) (σ 60) P C O day cl (W * H)) (fun p => gfold (σ 47) (σ 48) (σ 49) (σ 50) p day cl C) (60 * comS (σ 39) (σ 40) (σ 41) (W * H)) P P = wf at hwf hw60
  have hsum : sumN wf P = sumN (weiM σ (W * H) P C O day cl) P := sumN_congr P hwf
  have hsr := sumN_r (f := weiM σ (W * H) P C O day cl) (a := 0) (b := 200000) P (fun i _ => hwM i)
  rw [← hsum] at hsr
  have hv : 0 ≤ valM σ (W * H) ∧ valM σ (W * H) ≤ 9 * (W * H : Nat) := hv
  have hdue : dueM σ (W * H) P C O day cl = (if fstN (kindF (σ 45) 4) P = -1 then partS (valM σ (W * H) - min (valM σ (W * H)) (σ 38 25) - titS (σ 45) P (valM σ (W * H)) (σ 38 25) (σ 38 24)) wf zF zF P else ud (partS (valM σ (W * H) - min (valM σ (W * H)) (σ 38 25) - titS (σ 45) P (valM σ (W * H)) (σ 38 25) (σ 38 24)) wf zF zF P) (fstN (kindF (σ 45) 4) P).toNat (partS (valM σ (W * H) - min (valM σ (W * H)) (σ 38 25) - titS (σ 45) P (valM σ (W * H)) (σ 38 25) (σ 38 24)) wf zF zF P (fstN (kindF (σ 45) 4) P).toNat + titS (σ 45) P (valM σ (W * H)) (σ 38 25) (σ 38 24))) := by
    rw [partS_by hwf]; rfl
  have htd : ¬ fstN (kindF (σ 45) 4) P = -1 → titS (σ 45) P (valM σ (W * H)) (σ 38 25) (σ 38 24) = (valM σ (W * H) - min (valM σ (W * H)) (σ 38 25)) * σ 38 24 / 100 := fun q => if_neg q
  have htd0 : fstN (kindF (σ 45) 4) P = -1 → titS (σ 45) P (valM σ (W * H)) (σ 38 25) (σ 38 24) = 0 := fun q => if_pos q
  have hdr := dueM_r hJ day cl
  have hjm : 0 ≤ (valM σ (W * H) - min (valM σ (W * H)) (σ 38 25)) * σ 38 24 ∧ (valM σ (W * H) - min (valM σ (W * H)) (σ 38 25)) * σ 38 24 ≤ 720 * 50 := ⟨Int.mul_nonneg (by omega) (by omega), Int.mul_le_mul (by omega) (by omega) (by omega) (by omega)⟩
  generalize hQ : (fun (σ' : Si) => MF σ σ' ∧ σ' 38 33 = op ∧ (∀ p, p < P → σ' 60 p = weiM σ (W * H) P C O day cl p) ∧ (∀ p, p < P → σ' 62 p = dueM σ (W * H) P C O day cl p) ∧ σ' 61 = σ 61 ∧ σ' 38 38 = valM σ (W * H) ∧ σ' 38 39 = min (valM σ (W * H)) (σ 38 25) ∧ σ' 38 40 = titS (σ 45) P (valM σ (W * H)) (σ 38 25) (σ 38 24) ∧ σ' 38 41 = valM σ (W * H) - min (valM σ (W * H)) (σ 38 25) - titS (σ 45) P (valM σ (W * H)) (σ 38 25) (σ 38 24) ∧ σ' 38 42 = sumN (weiM σ (W * H) P C O day cl) P) = Q
  rw [← hsum] at hQ
  generalize titS (σ 45) P (valM σ (W * H)) (σ 38 25) (σ 38 24) = tt at hti hdue htd htd0 hQ
  generalize hVV : valM σ (W * H) = vv at hv hti hdue htd hQ hjm
  generalize hS : sumN wf P = sm at hQ hsr
  generalize hRC : fstN (kindF (σ 45) 4) P = rc at hrr hdue htd htd0
  have hfin : ∀ q had : Nat → Int, (∀ j, R32 (q j)) → (∀ j, R32 (had j)) → (∀ p, p < P → q p = dueM σ (W * H) P C O day cl p) → Q (sr (sr (sr (sr σ 38 (ud (ud (ud (ud (ud (ud (σ 38) 33 op) 38 vv) 42 sm) 39 (min vv (σ 38 25))) 40 tt) 41 (vv - min vv (σ 38 25) - tt))) 60 wf) 62 q) 64 had) := by
    intro q had hq hh hqd
    rw [← hQ]
    refine ⟨⟨fun k hk => ?_, ?_, fun j hj => ?_⟩, rfl, hwf, hqd, rfl, rfl, rfl, rfl, rfl, rfl⟩
    · rw [sr_ne (by omega), sr_ne (by omega), sr_ne (by omega), sr_ne (by omega)]
    · exact (((hR.sr (ud_R (ud_R (ud_R (ud_R (ud_R (ud_R (hR 38 (by decide)) (by omega)) (by omega)) (by omega)) (by omega)) (by omega)) (by omega))).sr hw60).sr hq).sr hh
    · show ud (ud (ud (ud (ud (ud (σ 38) 33 op) 38 vv) 42 sm) 39 (min vv (σ 38 25))) 40 tt) 41 (vv - min vv (σ 38 25) - tt) j = σ 38 j
      rw [ud_ne (by omega), ud_ne (by omega), ud_ne (by omega), ud_ne (by omega), ud_ne (by omega), ud_ne (by omega)]
  have hRs : Rg (sr (sr σ 38 (ud (ud (ud (ud (ud (ud (σ 38) 33 op) 38 vv) 42 sm) 39 (min vv (σ 38 25))) 40 tt) 41 (vv - min vv (σ 38 25) - tt))) 60 wf) := (hR.sr (ud_R (ud_R (ud_R (ud_R (ud_R (ud_R (hR 38 (by decide)) (by omega)) (by omega)) (by omega)) (by omega)) (by omega)) (by omega))).sr hw60
  have kp := m_partb (l := l) (G := G) (σ := sr (sr σ 38 (ud (ud (ud (ud (ud (ud (σ 38) 33 op) 38 vv) 42 sm) 39 (min vv (σ 38 25))) 40 tt) 41 (vv - min vv (σ 38 25) - tt))) 60 wf) (P := P) hs hRs c1 c2 (vv - min vv (σ 38 25) - tt) (by omega) (fun p hp => by show 0 ≤ wf p ∧ wf p ≤ 200000; rw [hwf p hp]; exact hwM p)
  have L74 : RW (KV l G 5 mX9_findDues n ρ Q) (0, 0, n, ρ) (sr (sr σ 38 (ud (ud (ud (ud (ud (σ 38) 33 op) 38 vv) 42 sm) 39 (min vv (σ 38 25))) 40 tt)) 60 wf) 74 [rf G 38, iv day, iv op, rf G 62, iv rc] [] := by
    refine r_aloadk_n dX9_findDues_74 rfl ?_
    refine r_aloadk_n dX9_findDues_75 rfl ?_
    refine r_geti dX9_findDues_76 fl_X9_211 rfl rfl (hs.lt rfl) ?_
    refine r_aloadk_n dX9_findDues_79 rfl ?_
    refine r_geti dX9_findDues_80 fl_X9_233 rfl rfl (hs.lt rfl) ?_
    refine show RW _ _ _ _ _ (iv (min vv (σ 38 25)) :: iv vv :: _) from ?_
    refine r_isub dX9_findDues_83 ?_
    refine r_aloadk_n dX9_findDues_84 rfl ?_
    refine r_geti dX9_findDues_85 fl_X9_236 rfl rfl (hs.lt rfl) ?_
    refine show RW _ _ _ _ _ (iv tt :: _) from ?_
    refine r_isub dX9_findDues_88 ?_
    refine r_puti dX9_findDues_89 fl_X9_239 rfl (hs.lt rfl) ?_
    rw [up_38]
    refine r_aloadk_n dX9_findDues_92 rfl ?_
    refine r_aloadk_n dX9_findDues_93 rfl ?_
    refine r_geti dX9_findDues_94 fl_X9_239 rfl rfl (hs.lt rfl) ?_
    refine show RW _ _ _ _ _ (iv (vv - min vv (σ 38 25) - tt) :: _) from ?_
    refine r_aloadk_n dX9_findDues_97 rfl ?_
    refine r_getr dX9_findDues_98 fl_X9_90 rfl rfl (hs.lt rfl) (hs.rf rfl) ?_
    refine r_aloadk_n dX9_findDues_101 rfl ?_
    refine q_callVv dX9_findDues_102 (kp) ml_X9_242 okX9_part rfl rfl (hs.lt rfl) rfl rfl (Nat.le_of_ble_eq_true rfl) (roomOK.of (by decide)) ⟨(Nat.le_of_ble_eq_true rfl), (Nat.le_of_ble_eq_true rfl)⟩ (fun σ1 hq1 => ?_)
    obtain ⟨q, had, hq, hh, hqd, rfl⟩ := hq1
    have hqd : ∀ p, p < P → q p = partS (vv - min vv (σ 38 25) - tt) wf zF zF P p := hqd
    refine r_iload dX9_findDues_105 rfl ?_
    refine r_iconst dX9_findDues_107 ?_
    refine r_icmpeq (tgt := 122) dX9_findDues_108 rfl (by omega) (by omega) (fun h108 => ?_) (fun h108 => ?_)
    · try rw [sr_comm (by omega), up_sr, sr_comm (by omega)]
      exact r_vret dX9_findDues_122 rfl ⟨rfl, by
  by_cases z : rc = -1
  · first
    | exact hfin q had hq hh (fun p hp => by rw [hqd p hp, hdue, if_pos z])
    | exact absurd z h108
  · first
    | exact absurd h108 z
    | (refine hfin (ud q rc.toNat (q rc.toNat + tt)) had (ud_R hq ?_) hh (fun p hp => ?_)
       · have h1 := hdr rc.toNat
         rw [hdue, if_neg z, ud_at, ← hqd _ (by omega)] at h1
         omega
       · rw [hdue, if_neg z, ← hqd _ (show rc.toNat < P by omega)]
         unfold ud
         split
         · rfl
         · exact hqd p hp)⟩
    · refine r_aloadk_n dX9_findDues_111 rfl ?_
      refine r_iload dX9_findDues_112 rfl ?_
      refine r_dup2 dX9_findDues_114 rfl rfl ?_
      refine r_iald dX9_findDues_115 rfl (hs.lt rfl) (c := rc.toNat) (by omega) (by omega) ?_
      refine r_aloadk_n dX9_findDues_116 rfl ?_
      refine r_geti dX9_findDues_117 fl_X9_236 rfl rfl (hs.lt rfl) ?_
      refine show RW _ _ _ _ _ (iv tt :: iv (q rc.toNat) :: _) from ?_
      refine r_iadd dX9_findDues_120 ?_
      refine r_iast dX9_findDues_121 rfl (hs.lt rfl) (c := rc.toNat) (by omega) (by omega) ?_
      try rw [sr_comm (by omega), up_sr, sr_comm (by omega)]
      exact r_vret dX9_findDues_122 rfl ⟨rfl, by
  by_cases z : rc = -1
  · first
    | exact hfin q had hq hh (fun p hp => by rw [hqd p hp, hdue, if_pos z])
    | exact absurd z h108
  · first
    | exact absurd h108 z
    | (refine hfin (ud q rc.toNat (q rc.toNat + tt)) had (ud_R hq ?_) hh (fun p hp => ?_)
       · have h1 := hdr rc.toNat
         rw [hdue, if_neg z, ud_at, ← hqd _ (by omega)] at h1
         omega
       · rw [hdue, if_neg z, ← hqd _ (show rc.toNat < P by omega)]
         unfold ud
         split
         · rfl
         · exact hqd p hp)⟩
  have L43 : RW (KV l G 5 mX9_findDues n ρ Q) (0, 0, n, ρ) (sr (sr σ 38 (ud (ud (ud (ud (σ 38) 33 op) 38 vv) 42 sm) 39 (min vv (σ 38 25)))) 60 wf) 43 [rf G 38, iv day, iv op, rf G 62, iv rc] [] := by
    refine r_aloadk_n dX9_findDues_43 rfl ?_
    refine r_iload dX9_findDues_44 rfl ?_
    refine r_iconst dX9_findDues_46 ?_
    refine r_icmpne (tgt := 54) dX9_findDues_47 rfl (by omega) (by omega) (fun h47 => ?_) (fun h47 => ?_)
    · refine r_aloadk_n dX9_findDues_54 rfl ?_
      refine r_geti dX9_findDues_55 fl_X9_211 rfl rfl (hs.lt rfl) ?_
      refine r_aloadk_n dX9_findDues_58 rfl ?_
      refine r_geti dX9_findDues_59 fl_X9_233 rfl rfl (hs.lt rfl) ?_
      refine show RW _ _ _ _ _ (iv (min vv (σ 38 25)) :: iv vv :: _) from ?_
      refine r_isub dX9_findDues_62 ?_
      refine r_aloadk_n dX9_findDues_63 rfl ?_
      refine r_geti dX9_findDues_64 fl_X9_188 rfl rfl (hs.lt rfl) ?_
      refine show RW _ _ _ _ _ (iv (σ 38 24) :: _) from ?_
      refine r_imul dX9_findDues_67 ?_
      refine r_bipush dX9_findDues_68 ?_
      refine r_idiv dX9_findDues_70 (by omega) (by omega) ?_
      refine r_puti dX9_findDues_71 fl_X9_236 rfl (hs.lt rfl) ?_
      rw [up_38]
      first
      | (rw [← htd h47]; exact L74)
      | (have e := htd0 h47
         rw [e] at L74
         exact L74)
    · refine r_iconst dX9_findDues_50 ?_
      refine r_goto (tgt := 71) dX9_findDues_51 rfl ?_
      refine r_puti dX9_findDues_71 fl_X9_236 rfl (hs.lt rfl) ?_
      rw [up_38]
      first
      | (rw [← htd h47]; exact L74)
      | (have e := htd0 h47
         rw [e] at L74
         exact L74)
  have kf : RdI l G 0 mX9_firstOf n ρ (sr (sr σ 38 (ud (ud (ud (σ 38) 33 op) 38 vv) 42 sm)) 60 wf) [rf G 38, iv 4] rc := by
    have h := m_firstOf (l := l) (G := G) (σ := sr (sr σ 38 (ud (ud (ud (σ 38) 33 op) 38 vv) 42 sm)) 60 wf) hs ((hR.sr (ud_R (ud_R (ud_R (hR 38 (by decide)) (by omega)) (by omega)) (by omega))).sr hw60) P c1 c2 4 (by omega)
    rw [← hRC]
    exact h
  have L10 : RW (KV l G 5 mX9_findDues n ρ Q) (0, 0, n, ρ) (sr (sr σ 38 (ud (ud (ud (σ 38) 33 op) 38 vv) 42 sm)) 60 wf) 10 [rf G 38, iv day, iv op, rf G 62, xx] [] := by
    refine r_aloadk_n dX9_findDues_10 rfl ?_
    refine r_iconst dX9_findDues_11 ?_
    refine q_callVr dX9_findDues_12 (kf) ml_X9_208 okX9_firstOf rfl rfl (hs.lt rfl) rfl rfl (Nat.le_of_ble_eq_true rfl) (roomOK.of (by decide)) ⟨(Nat.le_of_ble_eq_true rfl), (Nat.le_of_ble_eq_true rfl)⟩ ?_
    refine r_istore dX9_findDues_15 (Nat.le_of_ble_eq_true rfl) rfl s4 ?_
    refine r_aloadk_n dX9_findDues_17 rfl ?_
    refine r_aloadk_n dX9_findDues_18 rfl ?_
    refine r_geti dX9_findDues_19 fl_X9_191 rfl rfl (hs.lt rfl) ?_
    refine show RW _ _ _ _ _ (iv (σ 38 25) :: _) from ?_
    refine r_aloadk_n dX9_findDues_22 rfl ?_
    refine r_geti dX9_findDues_23 fl_X9_211 rfl rfl (hs.lt rfl) ?_
    refine show RW _ _ _ _ _ (iv vv :: _) from ?_
    refine r_icmpge (tgt := 36) dX9_findDues_26 rfl (by omega) (by omega) (fun h26 => ?_) (fun h26 => ?_)
    · refine r_aloadk_n dX9_findDues_36 rfl ?_
      refine r_geti dX9_findDues_37 fl_X9_211 rfl rfl (hs.lt rfl) ?_
      refine r_puti dX9_findDues_40 fl_X9_233 rfl (hs.lt rfl) ?_
      rw [up_38]
      first
      | (rw [show min vv (σ 38 25) = σ 38 25 by omega] at L43; exact L43)
      | (rw [show min vv (σ 38 25) = vv by omega] at L43; exact L43)
    · refine r_aloadk_n dX9_findDues_29 rfl ?_
      refine r_geti dX9_findDues_30 fl_X9_191 rfl rfl (hs.lt rfl) ?_
      refine show RW _ _ _ _ _ (iv (σ 38 25) :: _) from ?_
      refine r_goto (tgt := 40) dX9_findDues_33 rfl ?_
      refine r_puti dX9_findDues_40 fl_X9_233 rfl (hs.lt rfl) ?_
      rw [up_38]
      first
      | (rw [show min vv (σ 38 25) = σ 38 25 by omega] at L43; exact L43)
      | (rw [show min vv (σ 38 25) = vv by omega] at L43; exact L43)
  refine Ct.of (L0 := [rf G 38, iv day, iv op, rf G 62, xx]) (by decide +kernel) (Nat.le_of_ble_eq_true rfl) rfl ?_
  refine r_aloadk_n dX9_findDues_0 rfl ?_
  refine r_iload_n dX9_findDues_1 rfl ?_
  refine r_putz dX9_findDues_2 fl_X9_194 hop rfl (hs.lt rfl) ?_
  rw [up_eq_sr]
  refine r_aloadk_n dX9_findDues_5 rfl ?_
  refine r_iload_n dX9_findDues_6 rfl ?_
  refine q_callVv dX9_findDues_7 (kw) ml_X9_230 okX9_findWeights rfl rfl (hs.lt rfl) rfl rfl (Nat.le_of_ble_eq_true rfl) (roomOK.of (by decide)) ⟨(Nat.le_of_ble_eq_true rfl), (Nat.le_of_ble_eq_true rfl)⟩ (fun σ1 hq1 => ?_)
  obtain ⟨wf', h1, rfl⟩ := hq1
  have e : wf' = wf := h1.trans hWf
  rw [sr_sr, e]
  rw [← hVV, ← hS] at L10
  exact L10
end Model11
