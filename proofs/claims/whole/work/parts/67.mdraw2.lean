/-! MODEL: draw -/
def fitG (so due : Nat → Int) (W : Nat) (L : List Tri) (sl : Int) (p s : Nat) : Bool := decide (worT so W (atS L s) - due p ≤ sl ∧ -(worT so W (atS L s) - due p) ≤ sl)
theorem fitG_t {so due : Nat → Int} {W : Nat} {L : List Tri} {sl : Int} {p s : Nat} : fitG so due W L sl p s = true ↔ (worT so W (atS L s) - due p ≤ sl ∧ -(worT so W (atS L s) - due p) ≤ sl) := by unfold fitG; exact decide_eq_true_iff
def coG (W : Nat) (L : List Tri) (hm sh : Nat → Int) (still : Int) (p s : Nat) : Int := stepsS W (hm p).toNat (shpT (atS L s)) + if still = 1 ∧ ¬ sh p = (shpT (atS L s) : Nat) then 1000 else 0
/-- the search from its start -/
def srA (so hm sh due : Nat → Int) (W P : Nat) (L : List Tri) (sl still : Int) (tries : Nat) : St := srG L.length (fun s => mskT W (atS L s)) (fitG so due W L sl) (coG W L hm sh still) due P 0 0 0 (fun _ => 0) (-1, fun _ => 0, tries, false)
theorem al_in {us rd : Nat → Int} {W H s : Nat} (hW : 0 < W) (h : s < (sitesAl us rd W H (W * H)).length) : InL W H (atS (sitesAl us rd W H (W * H)) s) := by
  obtain ⟨a1, a2, a3, a4⟩ := sitesAl_in (W * H) _ (atS_mem h)
  generalize atS (sitesAl us rd W H (W * H)) s = t at a1 a2 a3 a4 ⊢
  have b1 := Nat.mod_lt t.1 hW
  have b2 : t.1 / W < H := Nat.div_lt_of_lt_mul a1
  exact ⟨a1, ⟨a2.1, by omega⟩, a3, by omega⟩
theorem al_len {us rd : Nat → Int} {W H : Nat} (hW : W ≤ 10) (hH : H ≤ 8) : (sitesAl us rd W H (W * H)).length ≤ 1980 := Nat.le_trans (sitesAl_len _) (capS_all W (by omega) H (by omega))
theorem in_msk {W H : Nat} {t : Tri} (hW : 0 < W) (hle : W * H ≤ 80) (h : InL W H t) : mskT W t < 2 ^ 80 := msk_lt (h := t.2.2) hW hle h.2.1.2 h.2.2.2 t.2.2 (Nat.le_refl _)
theorem in_wor {so : Nat → Int} {W H : Nat} {t : Tri} (hso : ∀ c, 0 ≤ so c ∧ so c ≤ 9) (hW : W ≤ 10) (hH : H ≤ 8) (h : InL W H t) : 0 ≤ worT so W t ∧ worT so W t ≤ 1000 := by
  obtain ⟨a1, a2, a3, a4⟩ := h
  have := worR_r (so := so) (W := W) (c := t.1) (w := t.2.1) hso (by omega) t.2.2
  have n0 := Int.natCast_nonneg (t.1 / W)
  unfold worT
  omega
theorem coG_r {W H P : Nat} {L : List Tri} {hm sh : Nat → Int} {still : Int} (hW : 2 ≤ W ∧ W ≤ 10) (hH : H ≤ 8) (hin : ∀ s, s < L.length → InL W H (atS L s)) (hho : ∀ p, p < P → 0 ≤ hm p ∧ hm p < (W * H : Nat)) : ∀ p s, p < P → s < L.length → 0 ≤ coG W L hm sh still p s ∧ coG W L hm sh still p s ≤ 1100 := by
  intro p s hp hs
  have h1 := hho p hp
  have := stepsT_r (hm := (hm p).toNat) hW hH (hin s hs) (by omega)
  unfold coG
  split <;> omega
def mP (X : Si) (w4 w5 w6 : Nat → Int) : Si := sr (sr (sr X 54 w4) 55 w5) 56 w6
section MDraw2
variable {l : Launch} {G : GG} {n : Nat} {ρ : Rho} {σ : Si} {W H P C O : Nat}
theorem mP_4 {X : Si} {w4 w5 w6 : Nat → Int} {j : Nat} {z : Int} : up (mP X w4 w5 w6) 54 j z = mP X (ud w4 j z) w5 w6 := by
  funext a c
  unfold mP sr up ud
  by_cases e : a = 54
  · subst e; simp
  · simp [e]
theorem mP_5 {X : Si} {w4 w5 w6 : Nat → Int} {j : Nat} {z : Int} : up (mP X w4 w5 w6) 55 j z = mP X w4 (ud w5 j z) w6 := by
  funext a c
  unfold mP sr up ud
  by_cases e : a = 55
  · subst e; simp
  · simp [e]
theorem mP_6 {X : Si} {w4 w5 w6 : Nat → Int} {j : Nat} {z : Int} : up (mP X w4 w5 w6) 56 j z = mP X w4 w5 (ud w6 j z) := by
  funext a c
  unfold mP sr up ud
  by_cases e : a = 56
  · subst e; simp
  · simp [e]
theorem mP_self {X : Si} : mP X (X 54) (X 55) (X 56) = X := by
  unfold mP
  rw [sr_self, sr_self, sr_self]
theorem mS_mk {X : Si} {a b c d : Int} : up (up (up (up X 38 53 a) 38 54 b) 38 55 c) 38 56 d = mS (up X 38 56 d) a b c (X 71) (X 72) := by
  funext x y
  unfold mS sr up ud
  by_cases e : x = 38
  · subst e
    by_cases e1 : y = 56
    · subst e1; simp
    · by_cases e2 : y = 55
      · subst e2; simp
      · by_cases e3 : y = 54
        · subst e3; simp
        · by_cases e4 : y = 53
          · subst e4; simp
          · simp [e1, e2, e3, e4]
  · by_cases e1 : x = 72
    · subst e1; simp
    · by_cases e2 : x = 71
      · subst e2; simp
      · simp [e, e1, e2]
/-- the plots that the search puts -/
def PutM (due : Nat → Int) (P : Nat) (L : List Tri) (bp : Nat → Nat) (w4 w5 w6 : Nat → Int) (i : Nat) : Prop := ∀ p, p < i → p < P → (due p ≤ 0 → w5 p = 0) ∧ (0 < due p → w4 p = (atS L (bp p)).1 ∧ w5 p = (atS L (bp p)).2.1 ∧ w6 p = (atS L (bp p)).2.2)
set_option maxHeartbeats 8000000 in
theorem m_draw78 (hs : Std n ρ) {τ : Si} (hR : Rg τ) (g : GeoM τ W H) (hpl : PlM τ W H P) (hP : τ 38 10 = P) (hP8 : P ≤ 8) {L : List Tri} (hL : L.length ≤ 1980) (hin : ∀ s, s < L.length → InL W H (atS L s)) (hn : τ 38 44 = L.length) {so due : Nat → Int} (hrw : RowsM so W L (τ 65) (τ 66) (τ 67) (τ 68) (τ 69) (τ 70)) (hso : ∀ c, 0 ≤ so c ∧ so c ≤ 9) (hd : ∀ p, p < P → τ 61 p = due p) (hdr : ∀ p, 0 ≤ due p ∧ due p ≤ 2000) (hsl : 0 ≤ τ 38 26 ∧ τ 38 26 ≤ 50) (hho : ∀ p, p < P → 0 ≤ τ 46 p ∧ τ 46 p < (W * H : Nat)) (hst : τ 38 56 = 0 ∨ τ 38 56 = 1) (x1 x2 x3 : Int) (hx2 : 1 ≤ x2 ∧ x2 ≤ 20000) (S : St) (hS : S = srA so (τ 46) (shM τ) due W P L (τ 38 26) (τ 38 56) x2.toNat) (Q : Si → Int → Prop)
    (hQ : ∀ (b lf sp z : Int) (f g w4 w5 w6 : Nat → Int), R32 b → R32 lf → R32 sp → (∀ j, R32 (w4 j)) → (∀ j, R32 (w5 j)) → (∀ j, R32 (w6 j)) → ((S.2.2.2 = true ∧ z = -6 ∧ w4 = τ 54 ∧ w5 = τ 55 ∧ w6 = τ 56) ∨ (¬ S.2.2.2 = true ∧ S.1 < 0 ∧ z = -1 ∧ w4 = τ 54 ∧ w5 = τ 55 ∧ w6 = τ 56) ∨ (¬ S.2.2.2 = true ∧ 0 ≤ S.1 ∧ z = S.1 ∧ PutM due P L S.2.1 w4 w5 w6 P)) → Q (mP (mS τ b lf sp f g) w4 w5 w6) z) :
    RW (KI l G 11 mX9_draw n ρ Q) (0, 0, n, ρ) (mS τ (-1) x2 0 (τ 71) (τ 72)) 78 [rf G 38, iv x1, iv x2, iv x3, xx, xx] [] := by
  have hW : 0 < W := by have := g.2.2.1; omega
  have hle := WH_le g.2.2.1.2 g.2.2.2.2
  have hcr := coG_r (L := L) (hm := τ 46) (sh := shM τ) (still := τ 38 56) g.2.2.1 g.2.2.2.2 hin hho
  have e2 : ((x2.toNat : Nat) : Int) = x2 := by omega
  have hok : StOK L.length P due (-1, fun _ => 0, x2.toNat, false) := ⟨by show -1 ≤ (-1 : Int) ∧ (-1 : Int) ≤ 10000; omega, by show x2.toNat ≤ 20000; omega, fun h => absurd h (by show ¬ (0 : Int) ≤ -1; omega)⟩
  have kk := m_drawFrom (l := l) (G := G) (n := n) (ρ := ρ) (σ := τ) (P := P) (nS := L.length) (msk := fun s => mskT W (atS L s)) (fit := fitG so due W L (τ 38 26)) (co := coG W L (τ 46) (shM τ) (τ 38 56)) (due := due) hs hR hP hP8 hn (by omega) hd hdr hsl
    (fun s hs1 => ⟨(hrw.1 s hs1).2.2.2.2.1, (hrw.1 s hs1).2.2.2.2.2, in_msk hW hle (hin s hs1)⟩)
    (fun p s hp hs1 => by rw [(hrw.1 s hs1).2.2.2.1]; exact fitG_t)
    (fun s hs1 => by rw [(hrw.1 s hs1).2.2.2.1]; exact in_wor hso g.2.2.1.2 g.2.2.2.2 (hin s hs1))
    hcr
    (fun b lf sp f g1 hb hlf hsp p s hp hs1 => by
      have h1 := hho p hp
      have := m_costOf (l := l) (G := G) (n := n) (ρ := ρ) (σ := mS τ b lf sp f g1) (W := W) (H := H) (P := P) hs (mS_Rg hR hb hlf hsp) g hpl hP8 p s (τ 46 p).toNat hp (atS L s) (by omega) (hrw.1 s hs1).1 (hrw.1 s hs1).2.1 (hrw.1 s hs1).2.2.1 (hin s hs1) (by show τ 46 p = _; omega) (by omega) hst
      exact this)
    P 0 0 0 (fun _ => 0) (-1, fun _ => 0, x2.toNat, false) (τ 71) (τ 72) (by omega) (by decide) (by omega) (by omega) (fun q hq => absurd hq (Nat.not_lt_zero q)) hok (fun h => absurd h (by show ¬ (0 : Int) ≤ -1; omega)) (fun q hq => absurd hq (Nat.not_lt_zero q))
  have hSok := srG_ok (P := P) (nS := L.length) (msk := fun s => mskT W (atS L s)) (fit := fitG so due W L (τ 38 26)) (co := coG W L (τ 46) (shM τ) (τ 38 56)) (due := due) hcr P 0 0 0 (fun _ => 0) (-1, fun _ => 0, x2.toNat, false) (by omega) (by omega) (by omega) (fun q hq => absurd hq (Nat.not_lt_zero q)) hok
  rw [show srG L.length (fun s => mskT W (atS L s)) (fitG so due W L (τ 38 26)) (coG W L (τ 46) (shM τ) (τ 38 56)) due P 0 0 0 (fun _ => 0) (-1, fun _ => 0, x2.toNat, false) = S from hS.symm] at kk hSok
  rw [Nat.zero_mod, Nat.zero_div, show (((-1, fun _ => 0, x2.toNat, false) : St).2.2.1 : Int) = x2 from e2, show bi (((-1, fun _ => 0, x2.toNat, false) : St).2.2.2 = true) = 0 from bi_f (show ¬ false = true by decide)] at kk
  clear hS
  have hb01 := bi_01 (S.2.2.2 = true)
  have hS1 := hSok.1
  have hS2 := hSok.2.1
  have fin : ∀ (b lf sp : Int) (f g1 : Nat → Int), R32 b → R32 lf → R32 sp → b = S.1 → ¬ S.2.2.2 = true → 0 ≤ S.1 → (∀ q, q < P → g1 q = tq due S.2.1 q) → ∀ (m i : Nat) (w4 w5 w6 : Nat → Int) (x5 : Value), i + m = P → (∀ j, R32 (w4 j)) → (∀ j, R32 (w5 j)) → (∀ j, R32 (w6 j)) → PutM due P L S.2.1 w4 w5 w6 i → RW (KI l G 11 mX9_draw n ρ Q) (0, 0, n, ρ) (mP (mS τ b lf sp f g1) w4 w5 w6) 108 [rf G 38, iv x1, iv x2, iv x3, iv i, x5] [] := by
    intro b lf sp f g1 hb hlf hsp hbS hnsp hS0 hg1 m
    induction m with
    | zero =>
      intro i w4 w5 w6 x5 hi r4 r5 r6 hput
      have e : i = P := by omega
      subst e
      refine r_iload dX9_draw_108 rfl ?_
      refine r_aloadk_n dX9_draw_110 rfl ?_
      refine r_geti dX9_draw_111 fl_X9_139 rfl rfl (hs.lt rfl) ?_
      refine show RW _ _ _ _ _ (iv (τ 38 10) :: _) from ?_
      refine r_icmpge (tgt := 204) dX9_draw_114 rfl (by omega) (by omega) (fun h114 => ?_) (fun h114 => ?_)
      · refine r_aloadk_n dX9_draw_204 rfl ?_
        refine r_geti dX9_draw_205 fl_X9_285 rfl rfl (hs.lt rfl) ?_
        refine show RW _ _ _ _ _ (iv b :: _) from ?_
        exact r_ireti dX9_draw_208 rfl ⟨_, rfl, hQ b lf sp b f g1 w4 w5 w6 hb hlf hsp r4 r5 r6 (Or.inr (Or.inr ⟨hnsp, hS0, hbS, hput⟩))⟩
      · omega
    | succ m ih =>
      intro i w4 w5 w6 x5 hi r4 r5 r6 hput
      have hiP : i < P := by omega
      have hdi := hdr i
      have hgi := hg1 i hiP
      unfold tq at hgi
      by_cases hdu : due i ≤ 0
      · rw [if_pos hdu] at hgi
        refine r_iload dX9_draw_108 rfl ?_
        refine r_aloadk_n dX9_draw_110 rfl ?_
        refine r_geti dX9_draw_111 fl_X9_139 rfl rfl (hs.lt rfl) ?_
        refine show RW _ _ _ _ _ (iv (τ 38 10) :: _) from ?_
        refine r_icmpge (tgt := 204) dX9_draw_114 rfl (by omega) (by omega) (fun h114 => ?_) (fun h114 => ?_)
        · omega
        · refine r_aloadk_n dX9_draw_117 rfl ?_
          refine r_getr dX9_draw_118 fl_X9_127 rfl rfl (hs.lt rfl) (hs.rf rfl) ?_
          refine r_iload dX9_draw_121 rfl ?_
          refine r_iald dX9_draw_123 rfl (hs.lt rfl) rfl (by omega) ?_
          refine show RW _ _ _ _ _ (iv (g1 i) :: _) from ?_
          rw [hgi]
          refine r_istore dX9_draw_124 (Nat.le_of_ble_eq_true rfl) rfl s5 ?_
          refine r_aloadk_n dX9_draw_126 rfl ?_
          refine r_getr dX9_draw_127 fl_X9_75 rfl rfl (hs.lt rfl) (hs.rf rfl) ?_
          refine r_iload dX9_draw_130 rfl ?_
          refine r_iload dX9_draw_132 rfl ?_
          refine r_iconst dX9_draw_134 ?_
          refine r_icmpne (tgt := 142) dX9_draw_135 rfl (by omega) (by omega) (fun h135 => ?_) (fun h135 => ?_)
          · omega
          · refine r_iconst dX9_draw_138 ?_
            refine r_goto (tgt := 149) dX9_draw_139 rfl ?_
            refine r_iast dX9_draw_149 rfl (hs.lt rfl) rfl (by omega) ?_
            rw [mP_5]
            refine r_aloadk_n dX9_draw_150 rfl ?_
            refine r_getr dX9_draw_151 fl_X9_78 rfl rfl (hs.lt rfl) (hs.rf rfl) ?_
            refine r_iload dX9_draw_154 rfl ?_
            refine r_iload dX9_draw_156 rfl ?_
            refine r_iconst dX9_draw_158 ?_
            refine r_icmpne (tgt := 166) dX9_draw_159 rfl (by omega) (by omega) (fun h159 => ?_) (fun h159 => ?_)
            · omega
            · refine r_iconst dX9_draw_162 ?_
              refine r_goto (tgt := 173) dX9_draw_163 rfl ?_
              refine r_iast dX9_draw_173 rfl (hs.lt rfl) rfl (by omega) ?_
              rw [mP_6]
              refine r_aloadk_n dX9_draw_174 rfl ?_
              refine r_getr dX9_draw_175 fl_X9_72 rfl rfl (hs.lt rfl) (hs.rf rfl) ?_
              refine r_iload dX9_draw_178 rfl ?_
              refine r_iload dX9_draw_180 rfl ?_
              refine r_iconst dX9_draw_182 ?_
              refine r_icmpne (tgt := 190) dX9_draw_183 rfl (by omega) (by omega) (fun h183 => ?_) (fun h183 => ?_)
              · omega
              · refine r_iconst dX9_draw_186 ?_
                refine r_goto (tgt := 197) dX9_draw_187 rfl ?_
                refine r_iast dX9_draw_197 rfl (hs.lt rfl) rfl (by omega) ?_
                rw [mP_4]
                refine r_iinc dX9_draw_198 (Nat.le_of_ble_eq_true rfl) rfl rfl s4 ?_
                refine r_goto (tgt := 108) dX9_draw_201 rfl ?_
                refine ih (i + 1) _ _ _ _ (by omega) (ud_R r4 (by omega)) (ud_R r5 (by omega)) (ud_R r6 (by omega)) (fun p hp hpP => ?_)
                by_cases e : p = i
                · rw [e]; exact ⟨fun _ => ud_at, fun h => by omega⟩
                · rw [ud_ne e, ud_ne e, ud_ne e]; exact hput p (by omega) hpP
      · rw [if_neg hdu] at hgi
        have hsL := hSok.2.2 hS0 i hiP (by omega)
        obtain ⟨q1, q2, q3, -, -, -⟩ := hrw.1 _ hsL
        obtain ⟨t1, t2, t3, t4⟩ := hin _ hsL
        have n0 := Int.natCast_nonneg ((atS L (S.2.1 i)).1 / W)
        generalize hs1 : S.2.1 i = s at hgi hsL q1 q2 q3 t1 t2 t3 t4
        have c1 := hrw.2.1 s
        have c2 := hrw.2.2.1 s
        have c3 := hrw.2.2.2.1 s
        refine r_iload dX9_draw_108 rfl ?_
        refine r_aloadk_n dX9_draw_110 rfl ?_
        refine r_geti dX9_draw_111 fl_X9_139 rfl rfl (hs.lt rfl) ?_
        refine show RW _ _ _ _ _ (iv (τ 38 10) :: _) from ?_
        refine r_icmpge (tgt := 204) dX9_draw_114 rfl (by omega) (by omega) (fun h114 => ?_) (fun h114 => ?_)
        · omega
        · refine r_aloadk_n dX9_draw_117 rfl ?_
          refine r_getr dX9_draw_118 fl_X9_127 rfl rfl (hs.lt rfl) (hs.rf rfl) ?_
          refine r_iload dX9_draw_121 rfl ?_
          refine r_iald dX9_draw_123 rfl (hs.lt rfl) rfl (by omega) ?_
          refine show RW _ _ _ _ _ (iv (g1 i) :: _) from ?_
          rw [hgi]
          refine r_istore dX9_draw_124 (Nat.le_of_ble_eq_true rfl) rfl s5 ?_
          refine r_aloadk_n dX9_draw_126 rfl ?_
          refine r_getr dX9_draw_127 fl_X9_75 rfl rfl (hs.lt rfl) (hs.rf rfl) ?_
          refine r_iload dX9_draw_130 rfl ?_
          refine r_iload dX9_draw_132 rfl ?_
          refine r_iconst dX9_draw_134 ?_
          refine r_icmpne (tgt := 142) dX9_draw_135 rfl (by omega) (by omega) (fun h135 => ?_) (fun h135 => ?_)
          · refine r_aloadk_n dX9_draw_142 rfl ?_
            refine r_getr dX9_draw_143 fl_X9_108 rfl rfl (hs.lt rfl) (hs.rf rfl) ?_
            refine r_iload dX9_draw_146 rfl ?_
            refine r_iald dX9_draw_148 rfl (hs.lt rfl) rfl (by omega) ?_
            refine show RW _ _ _ _ _ (iv (τ 66 s) :: _) from ?_
            refine r_iast dX9_draw_149 rfl (hs.lt rfl) rfl (by omega) ?_
            rw [mP_5]
            refine r_aloadk_n dX9_draw_150 rfl ?_
            refine r_getr dX9_draw_151 fl_X9_78 rfl rfl (hs.lt rfl) (hs.rf rfl) ?_
            refine r_iload dX9_draw_154 rfl ?_
            refine r_iload dX9_draw_156 rfl ?_
            refine r_iconst dX9_draw_158 ?_
            refine r_icmpne (tgt := 166) dX9_draw_159 rfl (by omega) (by omega) (fun h159 => ?_) (fun h159 => ?_)
            · refine r_aloadk_n dX9_draw_166 rfl ?_
              refine r_getr dX9_draw_167 fl_X9_111 rfl rfl (hs.lt rfl) (hs.rf rfl) ?_
              refine r_iload dX9_draw_170 rfl ?_
              refine r_iald dX9_draw_172 rfl (hs.lt rfl) rfl (by omega) ?_
              refine show RW _ _ _ _ _ (iv (τ 67 s) :: _) from ?_
              refine r_iast dX9_draw_173 rfl (hs.lt rfl) rfl (by omega) ?_
              rw [mP_6]
              refine r_aloadk_n dX9_draw_174 rfl ?_
              refine r_getr dX9_draw_175 fl_X9_72 rfl rfl (hs.lt rfl) (hs.rf rfl) ?_
              refine r_iload dX9_draw_178 rfl ?_
              refine r_iload dX9_draw_180 rfl ?_
              refine r_iconst dX9_draw_182 ?_
              refine r_icmpne (tgt := 190) dX9_draw_183 rfl (by omega) (by omega) (fun h183 => ?_) (fun h183 => ?_)
              · refine r_aloadk_n dX9_draw_190 rfl ?_
                refine r_getr dX9_draw_191 fl_X9_105 rfl rfl (hs.lt rfl) (hs.rf rfl) ?_
                refine r_iload dX9_draw_194 rfl ?_
                refine r_iald dX9_draw_196 rfl (hs.lt rfl) rfl (by omega) ?_
                refine show RW _ _ _ _ _ (iv (τ 65 s) :: _) from ?_
                refine r_iast dX9_draw_197 rfl (hs.lt rfl) rfl (by omega) ?_
                rw [mP_4]
                refine r_iinc dX9_draw_198 (Nat.le_of_ble_eq_true rfl) rfl rfl s4 ?_
                refine r_goto (tgt := 108) dX9_draw_201 rfl ?_
                refine ih (i + 1) _ _ _ _ (by omega) (ud_R r4 c1) (ud_R r5 c2) (ud_R r6 c3) (fun p hp hpP => ?_)
                by_cases e : p = i
                · rw [e, hs1]; exact ⟨fun h => absurd h hdu, fun _ => ⟨ud_at.trans q1, ud_at.trans q2, ud_at.trans q3⟩⟩
                · rw [ud_ne e, ud_ne e, ud_ne e]; exact hput p (by omega) hpP
              · omega
            · omega
          · omega
  refine r_aloadk_n dX9_draw_78 rfl ?_
  refine r_iconst dX9_draw_79 ?_
  refine r_lconst0 dX9_draw_80 ?_
  refine r_lconst0 dX9_draw_81 ?_
  refine r_iconst dX9_draw_82 ?_
  refine q_callVv dX9_draw_83 (kk) ml_X9_288 okX9_drawFrom rfl rfl (hs.lt rfl) rfl rfl (Nat.le_of_ble_eq_true rfl) (roomOK.of (by omega)) ⟨(Nat.le_of_ble_eq_true rfl), (Nat.le_of_ble_eq_true rfl)⟩ (fun σ1 hq1 => ?_)
  obtain ⟨f', g', hb', -, rfl⟩ := hq1
  refine r_aloadk_n dX9_draw_86 rfl ?_
  refine r_geti dX9_draw_87 fl_X9_292 rfl rfl (hs.lt rfl) ?_
  refine show RW _ _ _ _ _ (iv (bi (S.2.2.2 = true)) :: _) from ?_
  refine r_ifeq (tgt := 96) dX9_draw_90 rfl (by omega) (fun h90 => ?_) (fun h90 => ?_)
  · have hsp : ¬ S.2.2.2 = true := fun q => by rw [bi_t q] at h90; exact absurd h90 (by decide)
    refine r_aloadk_n dX9_draw_96 rfl ?_
    refine r_geti dX9_draw_97 fl_X9_285 rfl rfl (hs.lt rfl) ?_
    refine show RW _ _ _ _ _ (iv S.1 :: _) from ?_
    refine r_ifge (tgt := 105) dX9_draw_100 rfl (by omega) (fun h100 => ?_) (fun h100 => ?_)
    · refine r_iconst dX9_draw_105 ?_
      refine r_istore dX9_draw_106 (Nat.le_of_ble_eq_true rfl) rfl s4 ?_
      have z := fin S.1 S.2.2.1 (bi (S.2.2.2 = true)) f' g' (by omega) (by omega) (by omega) rfl hsp h100 (hb' h100) P 0 (τ 54) (τ 55) (τ 56) xx (by omega) (hR 54 (by decide)) (hR 55 (by decide)) (hR 56 (by decide)) (fun p hp => absurd hp (Nat.not_lt_zero p))
      rw [show mP (mS τ S.1 S.2.2.1 (bi (S.2.2.2 = true)) f' g') (τ 54) (τ 55) (τ 56) = mS τ S.1 S.2.2.1 (bi (S.2.2.2 = true)) f' g' from mP_self] at z
      exact z
    · refine r_iconst dX9_draw_103 ?_
      exact r_ireti dX9_draw_104 rfl ⟨_, rfl, by have z := hQ S.1 S.2.2.1 (bi (S.2.2.2 = true)) (-1) f' g' (τ 54) (τ 55) (τ 56) (by omega) (by omega) (by omega) (hR 54 (by decide)) (hR 55 (by decide)) (hR 56 (by decide)) (Or.inr (Or.inl ⟨hsp, h100, rfl, rfl, rfl, rfl⟩)); rw [show mP (mS τ S.1 S.2.2.1 (bi (S.2.2.2 = true)) f' g') (τ 54) (τ 55) (τ 56) = mS τ S.1 S.2.2.1 (bi (S.2.2.2 = true)) f' g' from mP_self] at z; exact z⟩
  · have hsp : S.2.2.2 = true := Classical.byContradiction (fun q => h90 (bi_f q))
    refine r_bipush dX9_draw_93 ?_
    exact r_ireti dX9_draw_95 rfl ⟨_, rfl, by have z := hQ S.1 S.2.2.1 (bi (S.2.2.2 = true)) (-6) f' g' (τ 54) (τ 55) (τ 56) (by omega) (by omega) (by omega) (hR 54 (by decide)) (hR 55 (by decide)) (hR 56 (by decide)) (Or.inl ⟨hsp, rfl, rfl, rfl, rfl⟩); rw [show mP (mS τ S.1 S.2.2.1 (bi (S.2.2.2 = true)) f' g') (τ 54) (τ 55) (τ 56) = mS τ S.1 S.2.2.1 (bi (S.2.2.2 = true)) f' g' from mP_self] at z; exact z⟩
end MDraw2
