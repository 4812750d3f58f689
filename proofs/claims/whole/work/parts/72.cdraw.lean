/-! draw: the class's -/
def CD (σ σ' : Si) : Prop := (∀ k, k < 73 → (k < 30 ∨ 34 < k) → k ≠ 36 → σ' k = σ k) ∧ Rg σ' ∧ (∀ b, 8 ≤ b → σ' 30 b = 0 ∧ σ' 31 b = 0 ∧ σ' 32 b = 0)
theorem srA_ok {so hm sh due : Nat → Int} {W H P : Nat} {L : List Tri} {sl still : Int} {tries : Nat} (hW : 2 ≤ W ∧ W ≤ 10) (hH : H ≤ 8) (hP8 : P ≤ 8) (hin : ∀ s, s < L.length → InL W H (atS L s)) (hho : ∀ p, p < P → 0 ≤ hm p ∧ hm p < (W * H : Nat)) (ht : tries ≤ 20000) : StOK L.length P due (srA so hm sh due W P L sl still tries) := by
  have hcr := coG_r (L := L) (hm := hm) (sh := sh) (still := still) hW hH hin hho
  have hok : StOK L.length P due (-1, fun _ => 0, tries, false) := ⟨by show -1 ≤ (-1 : Int) ∧ (-1 : Int) ≤ 10000; omega, ht, fun h => absurd h (by show ¬ (0 : Int) ≤ -1; omega)⟩
  exact srG_ok (P := P) (nS := L.length) (msk := fun s => mskT W (atS L s)) (fit := fitG so due W L sl) (co := coG W L hm sh still) (due := due) hcr P 0 0 0 (fun _ => 0) (-1, fun _ => 0, tries, false) (by omega) (by omega) (by omega) (fun q hq => absurd hq (Nat.not_lt_zero q)) hok
def PutC (due : Nat → Int) (P : Nat) (L : List Tri) (bp : Nat → Nat) (w w0 : Nat → Int) : Prop := (∀ p, p < 8 → w p = if p < P ∧ 0 < due p then ((shpT (atS L (bp p)) : Nat) : Int) else -1) ∧ ∀ p, 8 ≤ p → w p = w0 p
section CDraw
variable {l : Launch} {G : GG} {n : Nat} {ρ : Rho} {σ : Si} {W H P C O mc ms : Nat}
set_option maxHeartbeats 8000000 in
theorem c_draw60 (hs : Std n ρ) (hsD : StdD n ρ) (hJ : JC σ W H P C O) (x1 x2 x3 : Int) (h1 : R32 x1) (hx2 : 1 ≤ x2 ∧ x2 ≤ 20000) (hx3 : 0 ≤ x3 ∧ x3 ≤ 1) (due : Nat → Int) (hdue : due = dueC σ (W * H) P C O x1 (σ 1 0)) (L : List Tri) (hLL : L = sitesAl (σ 5) (σ 6) W H (W * H)) (S : St) (hS : S = srA (σ 4) (σ 21) (σ 36) due W P L (σ 1 4) x3 x2.toNat) (Q : Si → Option Value → Prop) (hQ : ∀ (σ' : Si) (z : Int), CD σ σ' → ((S.2.2.2 = true ∧ z = -6 ∧ σ' 36 = σ 36) ∨ (¬ S.2.2.2 = true ∧ S.1 < 0 ∧ z = -1 ∧ σ' 36 = σ 36) ∨ (¬ S.2.2.2 = true ∧ 0 ≤ S.1 ∧ z = S.1 ∧ PutC due P L S.2.1 (σ' 36) (σ 36))) → Q σ' (some (iv z))) : RW (KM l G 11 mX8_draw mc ms n ρ Q) (mc, ms, n, ρ) σ 60 [rf G 0, iv x1, iv x2, iv x3] [] := by
  obtain ⟨hR, j2, j3, j4, j5, j6, j7, j8, j9, j10, j11, j12, j13, j14⟩ := id hJ
  obtain ⟨c1, c2, c3, c4, c5, c6, c7, c8⟩ := id j6
  have hW : 0 < W := by have := j2.2.2.2.1; omega
  have hle := j2.le
  have hin : ∀ s, s < L.length → InL W H (atS L s) := fun s hs => by rw [hLL] at hs ⊢; exact al_in hW hs
  have hdr : ∀ p, 0 ≤ due p ∧ due p ≤ 2000 := fun p => by rw [hdue]; exact hJ.shr.due_r x1 (σ 1 0) p
  have hSok : StOK L.length P due S := by rw [hS]; exact srA_ok j2.2.2.2.1 j2.2.2.2.2.1.2 c2 hin j10 (by omega)
  refine r_aloadk_n dX8_draw_60 rfl ?_
  refine r_getr dX8_draw_61 fl_X8_48 rfl rfl (hs.lt rfl) (hs.rf rfl) ?_
  refine r_iload_n dX8_draw_64 rfl ?_
  refine r_aloadk_n dX8_draw_65 rfl ?_
  refine r_getr dX8_draw_66 fl_X8_7 rfl rfl (hs.lt rfl) (hs.rf rfl) ?_
  refine r_iconst dX8_draw_69 ?_
  refine r_iald dX8_draw_70 rfl (hs.lt rfl) (c := 0) rfl (Nat.le_of_ble_eq_true rfl) ?_
  refine q_callVv dX8_draw_71 (c_dues0 hs hJ.shr x1 (σ 1 0) h1 (by omega)) ml_X8_262 okX6_settleDues rfl rfl (hs.lt rfl) rfl rfl (Nat.le_of_ble_eq_true rfl) (roomOK.of (by decide)) ⟨Nat.le_refl _, Nat.le_refl _⟩ (fun σ1 hq1 => ?_)
  obtain ⟨f1, -, -, q31⟩ := hq1
  rw [← hdue] at q31
  have e36 := f1.1 36 (by omega)
  have kr := c_run (l := l) (G := G) (n := n) (ρ := ρ) (σ := σ1) (W := W) (H := H) (P := P) hs hsD f1.2.1 (by unfold Geo; rw [f1.1 2 (by omega), f1.1 7 (by omega), f1.1 8 (by omega)]; exact j2) (by rw [f1.1 4 (by omega)]; exact j3) (by rw [f1.1 19 (by omega)]; exact c1) c2 (by rw [f1.1 21 (by omega)]; exact j10) due (fun p hp => by rw [q31]) hdr (σ 1 4) x2 x3 j8.2.2.2.2 hx2 (by omega) L (by rw [f1.1 5 (by omega), f1.1 6 (by omega)]; exact hLL) S (by rw [f1.1 4 (by omega), f1.1 21 (by omega), e36]; exact hS)
  rw [e36] at kr
  refine r_aloadk_n dX8_draw_74 rfl ?_
  refine r_getr dX8_draw_75 fl_X8_61 rfl rfl (hs.lt rfl) (hsD.rf rfl) ?_
  refine r_aloadk_n dX8_draw_78 rfl ?_
  refine r_getr dX8_draw_79 fl_X8_48 rfl rfl (hs.lt rfl) (hs.rf rfl) ?_
  refine r_getr dX8_draw_82 fl_X8_265 rfl rfl (hs.lt rfl) (hs.rf rfl) ?_
  refine r_aloadk_n dX8_draw_85 rfl ?_
  refine r_getr dX8_draw_86 fl_X8_7 rfl rfl (hs.lt rfl) (hs.rf rfl) ?_
  refine r_iconst dX8_draw_89 ?_
  refine r_iald dX8_draw_90 rfl (hs.lt rfl) (c := 4) rfl (Nat.le_of_ble_eq_true rfl) ?_
  rw [f1.1 1 (by omega)]
  refine r_iload_n dX8_draw_91 rfl ?_
  refine r_iload_n dX8_draw_92 rfl ?_
  refine r_iconst dX8_draw_93 ?_
  refine r_icmpne (tgt := 101) dX8_draw_94 rfl (by omega) (by omega) (fun h94 => ?_) (fun h94 => ?_)
  · refine r_iconst dX8_draw_101 ?_
    first
    | rw [show iv 1 = iv x3 by congr 1; omega]
    | rw [show iv 0 = iv x3 by congr 1; omega]
    refine q_callVi dX8_draw_102 (kr) ml_X8_268 okX0_run rfl rfl (hsD.lt rfl) rfl rfl (Nat.le_of_ble_eq_true rfl) (roomOK.of (by decide)) ⟨Nat.le_refl _, Nat.le_refl _⟩ (fun σ2 z2 hq2 => ?_)
    obtain ⟨r1, r2⟩ := hq2
    have hcd : CD σ σ2 := by
      refine ⟨fun k hk hk2 hk3 => by rw [r1 k hk hk3]; exact f1.1 k hk2, fun k hk j => ?_, fun b hb => by rw [r1 30 (by decide) (by decide), r1 31 (by decide) (by decide), r1 32 (by decide) (by decide)]; exact f1.2.2 b hb⟩
      by_cases e : k = 36
      · subst e
        rcases r2 with ⟨-, -, q⟩ | ⟨-, -, -, q⟩ | ⟨-, q0, -, q1, q2⟩
        · rw [q]; exact hR 36 hk j
        · rw [q]; exact hR 36 hk j
        · by_cases h8 : j < 8
          · rw [q1 j h8]
            split
            · rename_i hc
              obtain ⟨t1, t2, t3, t4⟩ := hin _ (hSok.2.2 q0 j hc.1 hc.2)
              have n0 := Int.natCast_nonneg ((atS L (S.2.1 j)).1 / W)
              have hw := j2.2.2.2.1
              have hh := j2.2.2.2.2.1
              unfold shpT
              omega
            · omega
          · rw [q2 j (by omega)]; exact hR 36 hk j
      · rw [r1 k (by omega) e]; exact f1.2.1 k hk j
    exact r_ireti dX8_draw_105 rfl (hQ σ2 z2 hcd r2)
  · refine r_iconst dX8_draw_97 ?_
    refine r_goto (tgt := 102) dX8_draw_98 rfl ?_
    first
    | rw [show iv 1 = iv x3 by congr 1; omega]
    | rw [show iv 0 = iv x3 by congr 1; omega]
    refine q_callVi dX8_draw_102 (kr) ml_X8_268 okX0_run rfl rfl (hsD.lt rfl) rfl rfl (Nat.le_of_ble_eq_true rfl) (roomOK.of (by decide)) ⟨Nat.le_refl _, Nat.le_refl _⟩ (fun σ2 z2 hq2 => ?_)
    obtain ⟨r1, r2⟩ := hq2
    have hcd : CD σ σ2 := by
      refine ⟨fun k hk hk2 hk3 => by rw [r1 k hk hk3]; exact f1.1 k hk2, fun k hk j => ?_, fun b hb => by rw [r1 30 (by decide) (by decide), r1 31 (by decide) (by decide), r1 32 (by decide) (by decide)]; exact f1.2.2 b hb⟩
      by_cases e : k = 36
      · subst e
        rcases r2 with ⟨-, -, q⟩ | ⟨-, -, -, q⟩ | ⟨-, q0, -, q1, q2⟩
        · rw [q]; exact hR 36 hk j
        · rw [q]; exact hR 36 hk j
        · by_cases h8 : j < 8
          · rw [q1 j h8]
            split
            · rename_i hc
              obtain ⟨t1, t2, t3, t4⟩ := hin _ (hSok.2.2 q0 j hc.1 hc.2)
              have n0 := Int.natCast_nonneg ((atS L (S.2.1 j)).1 / W)
              have hw := j2.2.2.2.1
              have hh := j2.2.2.2.2.1
              unfold shpT
              omega
            · omega
          · rw [q2 j (by omega)]; exact hR 36 hk j
      · rw [r1 k (by omega) e]; exact f1.2.1 k hk j
    exact r_ireti dX8_draw_105 rfl (hQ σ2 z2 hcd r2)
set_option maxHeartbeats 8000000 in
theorem c_drawD (hs : Std n ρ) (hsD : StdD n ρ) (hJ : JC σ W H P C O) (x1 x2 x3 : Int) (h1 : R32 x1) (h2 : R32 x2) (h3 : R32 x3) (due : Nat → Int) (hdue : due = dueC σ (W * H) P C O x1 (σ 1 0)) (L : List Tri) (hLL : L = sitesAl (σ 5) (σ 6) W H (W * H)) (S : St) (hS : S = srA (σ 4) (σ 21) (σ 36) due W P L (σ 1 4) x3 x2.toNat) : CtI l G 11 mX8_draw n ρ σ [rf G 0, iv x1, iv x2, iv x3] (fun σ' z => (¬ ((0 ≤ x1 ∧ x1 ≤ 999) ∧ (1 ≤ x2 ∧ x2 ≤ 20000) ∧ (0 ≤ x3 ∧ x3 ≤ 1)) ∧ z = -3 ∧ σ' = σ) ∨ (((0 ≤ x1 ∧ x1 ≤ 999) ∧ (1 ≤ x2 ∧ x2 ≤ 20000) ∧ (0 ≤ x3 ∧ x3 ≤ 1)) ∧ CD σ σ' ∧ ((S.2.2.2 = true ∧ z = -6 ∧ σ' 36 = σ 36) ∨ (¬ S.2.2.2 = true ∧ S.1 < 0 ∧ z = -1 ∧ σ' 36 = σ 36) ∨ (¬ S.2.2.2 = true ∧ 0 ≤ S.1 ∧ z = S.1 ∧ PutC due P L S.2.1 (σ' 36) (σ 36))))) := by
  refine Ct.of (L0 := [rf G 0, iv x1, iv x2, iv x3]) (by decide +kernel) (Nat.le_of_ble_eq_true rfl) rfl ?_
  refine r_iload_n dX8_draw_0 rfl ?_
  refine q_callSr dX8_draw_1 (c_isDay x1 h1) ml_X8_153 okX8_isDay rfl rfl (Nat.le_of_ble_eq_true rfl) (roomOK.of (by decide)) ⟨(Nat.le_of_ble_eq_true rfl), (Nat.le_of_ble_eq_true rfl)⟩ ?_
  refine r_ifeqb (tgt := 27) dX8_draw_4 rfl (fun h4 => ?_) (fun h4 => ?_)
  · refine r_bipush dX8_draw_27 ?_
    exact r_ireti dX8_draw_29 rfl ⟨_, rfl, Or.inl ⟨by omega, rfl, rfl⟩⟩
  · refine r_iload_n dX8_draw_7 rfl ?_
    refine r_iconst dX8_draw_8 ?_
    refine r_sipush dX8_draw_9 ?_
    refine q_callSr dX8_draw_12 (c_isWithin x2 1 20000 h2 (by omega) (by omega)) ml_X8_65 okX8_isWithin rfl rfl (Nat.le_of_ble_eq_true rfl) (roomOK.of (by decide)) ⟨(Nat.le_of_ble_eq_true rfl), (Nat.le_of_ble_eq_true rfl)⟩ ?_
    refine r_ifeqb (tgt := 27) dX8_draw_15 rfl (fun h15 => ?_) (fun h15 => ?_)
    · refine r_bipush dX8_draw_27 ?_
      exact r_ireti dX8_draw_29 rfl ⟨_, rfl, Or.inl ⟨by omega, rfl, rfl⟩⟩
    · refine r_iload_n dX8_draw_18 rfl ?_
      refine r_iconst dX8_draw_19 ?_
      refine r_iconst dX8_draw_20 ?_
      refine q_callSr dX8_draw_21 (c_isWithin x3 0 1 h3 (by omega) (by omega)) ml_X8_65 okX8_isWithin rfl rfl (Nat.le_of_ble_eq_true rfl) (roomOK.of (by decide)) ⟨(Nat.le_of_ble_eq_true rfl), (Nat.le_of_ble_eq_true rfl)⟩ ?_
      refine r_ifneb (tgt := 30) dX8_draw_24 rfl (fun h24 => ?_) (fun h24 => ?_)
      · refine r_aloadk_n dX8_draw_30 rfl ?_
        refine r_getr dX8_draw_31 fl_X8_61 rfl rfl (hs.lt rfl) (hsD.rf rfl) ?_
        refine r_nonnull (tgt := 60) dX8_draw_34 rfl ?_
        exact c_draw60 hs hsD hJ x1 x2 x3 h1 (by omega) (by omega) due hdue L hLL S hS _ (fun σ' z a b => ⟨z, rfl, Or.inr ⟨⟨by omega, by omega, by omega⟩, a, b⟩⟩)
      · refine r_bipush dX8_draw_27 ?_
        exact r_ireti dX8_draw_29 rfl ⟨_, rfl, Or.inl ⟨by omega, rfl, rfl⟩⟩
/-- the first draw of a desk that makes its Drawing -/
theorem c_drawN (hz : ∀ k, 73 ≤ k → ∀ j, σ k j = 0) (hJ : JC σ W H P C O) (x1 x2 x3 : Int) (h1 : R32 x1) (h2 : R32 x2) (h3 : R32 x3) (hok : (0 ≤ x1 ∧ x1 ≤ 999) ∧ (1 ≤ x2 ∧ x2 ≤ 20000) ∧ (0 ≤ x3 ∧ x3 ≤ 1)) (due : Nat → Int) (hdue : due = dueC σ (W * H) P C O x1 (σ 1 0)) (L : List Tri) (hLL : L = sitesAl (σ 5) (σ 6) W H (W * H)) (S : St) (hS : S = srA (σ 4) (σ 21) (σ 36) due W P L (σ 1 4) x3 x2.toNat) : Ct l G 11 mX8_draw 19 23827 73 rho2 σ [rf G 0, iv x1, iv x2, iv x3] 92 rho3 (fun σ' v => ∃ z, v = some (iv z) ∧ CD σ σ' ∧ ((S.2.2.2 = true ∧ z = -6 ∧ σ' 36 = σ 36) ∨ (¬ S.2.2.2 = true ∧ S.1 < 0 ∧ z = -1 ∧ σ' 36 = σ 36) ∨ (¬ S.2.2.2 = true ∧ 0 ≤ S.1 ∧ z = S.1 ∧ PutC due P L S.2.1 (σ' 36) (σ 36)))) := by
  have hs := std2
  refine Ct.of (L0 := [rf G 0, iv x1, iv x2, iv x3]) (by decide +kernel) (Nat.le_of_ble_eq_true rfl) rfl ?_
  refine r_iload_n dX8_draw_0 rfl ?_
  refine q_callSr dX8_draw_1 (c_isDay x1 h1) ml_X8_153 okX8_isDay rfl rfl (Nat.le_of_ble_eq_true rfl) (roomOK.of (by decide)) ⟨(Nat.le_of_ble_eq_true rfl), (Nat.le_of_ble_eq_true rfl)⟩ ?_
  refine r_ifeqb (tgt := 27) dX8_draw_4 rfl (fun h4 => ?_) (fun h4 => ?_)
  · omega
  · refine r_iload_n dX8_draw_7 rfl ?_
    refine r_iconst dX8_draw_8 ?_
    refine r_sipush dX8_draw_9 ?_
    refine q_callSr dX8_draw_12 (c_isWithin x2 1 20000 h2 (by omega) (by omega)) ml_X8_65 okX8_isWithin rfl rfl (Nat.le_of_ble_eq_true rfl) (roomOK.of (by decide)) ⟨(Nat.le_of_ble_eq_true rfl), (Nat.le_of_ble_eq_true rfl)⟩ ?_
    refine r_ifeqb (tgt := 27) dX8_draw_15 rfl (fun h15 => ?_) (fun h15 => ?_)
    · omega
    · refine r_iload_n dX8_draw_18 rfl ?_
      refine r_iconst dX8_draw_19 ?_
      refine r_iconst dX8_draw_20 ?_
      refine q_callSr dX8_draw_21 (c_isWithin x3 0 1 h3 (by omega) (by omega)) ml_X8_65 okX8_isWithin rfl rfl (Nat.le_of_ble_eq_true rfl) (roomOK.of (by decide)) ⟨(Nat.le_of_ble_eq_true rfl), (Nat.le_of_ble_eq_true rfl)⟩ ?_
      refine r_ifneb (tgt := 30) dX8_draw_24 rfl (fun h24 => ?_) (fun h24 => ?_)
      · refine r_aloadk_n dX8_draw_30 rfl ?_
        refine r_getn dX8_draw_31 fl_X8_61 rfl rfl (Nat.le_of_ble_eq_true rfl) rfl ?_
        refine r_nonnullN dX8_draw_34 ?_
        refine r_aloadk_n dX8_draw_37 rfl ?_
        refine r_new (t := 0) dX8_draw_38 rfl cl_X8_257 in_X0 ini_X0 rfl (hz 73 (by decide)) (fun j => rfl) df_X0 (show 0 + 1 ≤ 19 by decide) (show 0 + 19 ≤ 23827 by decide) ?_
        refine show RW _ (1, 19, 74, rho2) _ _ _ _ from ?_
        refine r_dup dX8_draw_41 rfl ?_
        refine r_aloadk_n dX8_draw_42 rfl ?_
        refine r_getr (r := 2) dX8_draw_43 fl_X8_16 rfl rfl (Nat.le_of_ble_eq_true rfl) rfl ?_
        refine r_aloadk_n dX8_draw_46 rfl ?_
        refine r_getr (r := 19) dX8_draw_47 fl_X8_39 rfl rfl (Nat.le_of_ble_eq_true rfl) rfl ?_
        refine r_aloadk_n dX8_draw_50 rfl ?_
        refine r_getr (r := 35) dX8_draw_51 fl_X8_57 rfl rfl (Nat.le_of_ble_eq_true rfl) rfl ?_
        refine r_callI dX8_draw_54 (i_X0 (by decide) (fun k hk => hz k (by omega))) rfl ml_X8_259 okX0_init rfl rfl (Nat.le_of_ble_eq_true rfl) (roomOK.of (by decide)) ⟨(show 1 + 18 ≤ 19 by decide), (show 19 + 23808 ≤ 23827 by decide)⟩ (fun σ1 v1 hq1 => ?_)
        obtain ⟨rfl, rfl⟩ := hq1
        refine show RW _ (19, 23827, 92, (rX0 rho2)) _ _ _ _ from ?_
        refine r_putr (r := 73) (ty := .object "AwardDesk$Drawing") dX8_draw_57 fl_X8_61 rfl rfl (Nat.le_of_ble_eq_true rfl) (by decide +kernel) (fun _ => rfl) (fun _ => rfl) ?_
        refine show RW _ (19, 23827, 92, (upR (rX0 rho2) 0 7 (some 73))) _ _ _ _ from ?_
        refine show RW _ (19, 23827, 92, rho3) _ _ _ _ from ?_
        exact c_draw60 std3 stdD3 hJ x1 x2 x3 h1 (by omega) (by omega) due hdue L hLL S hS _ (fun σ' z a b => ⟨z, rfl, a, b⟩)
      · omega
end CDraw
