/-! DRAWING: findChoices, findTakers -/
def fcn (ft : Nat → Bool) : Nat → Nat
  | 0 => 0
  | s + 1 => if ft s = true then fcn ft s + 1 else fcn ft s
theorem fcn_t {ft : Nat → Bool} {s : Nat} (h : ft s = true) : fcn ft (s + 1) = fcn ft s + 1 := if_pos h
theorem fcn_f {ft : Nat → Bool} {s : Nat} (h : ¬ ft s = true) : fcn ft (s + 1) = fcn ft s := if_neg h
theorem fcn_le {ft : Nat → Bool} : ∀ s : Nat, fcn ft s ≤ s
  | 0 => Nat.le_refl _
  | s + 1 => by
    have := fcn_le (ft := ft) s
    unfold fcn
    split <;> omega
theorem fcn_up {ft : Nat → Bool} {s : Nat} : ∀ t : Nat, s ≤ t → fcn ft s ≤ fcn ft t
  | 0, h => by rw [show s = 0 by omega]; exact Nat.le_refl _
  | t + 1, h => by
    by_cases e : s = t + 1
    · rw [e]; exact Nat.le_refl _
    · have := fcn_up (ft := ft) (s := s) t (by omega)
      have h2 : fcn ft t ≤ fcn ft (t + 1) := by
        by_cases q : ft t = true
        · rw [fcn_t q]; omega
        · rw [fcn_f q]; exact Nat.le_refl _
      omega
theorem fcn_lt {ft : Nat → Bool} {s t : Nat} (h : s < t) (hs : ft s = true) : fcn ft s < fcn ft t := by
  have h1 := fcn_t hs
  have h2 := fcn_up (ft := ft) (s := s + 1) t (by omega)
  omega
/-- the choices of a taker: its fit sites in order, with their costs -/
def ChOK (ft : Nat → Bool) (c1 : Nat → Int) (nS : Nat) (fr : Nat → Int) (cnt least : Int) : Prop :=
  cnt = (fcn ft nS : Nat) ∧ (∀ s, s < nS → ft s = true → fr (fcn ft s) = (((c1 s).toNat * 2 ^ 11 + s : Nat) : Int) ∧ least ≤ c1 s) ∧ 0 ≤ least ∧ least ≤ 1000000000
def dC (σ : Si) (v : Nat) (fr a b : Nat → Int) : Si := sr (sr (sr σ (79 + v) fr) 87 a) 88 b
section Choices
variable {l : Launch} {G : GG} {n : Nat} {ρ : Rho} {σ : Si} {W H P C O : Nat}
theorem dC_lo {v k : Nat} {fr a b : Nat → Int} (hv : v < 8) (h : k < 79) : dC σ v fr a b k = σ k := by
  unfold dC
  rw [sr_ne (show k ≠ 88 by omega), sr_ne (show k ≠ 87 by omega), sr_ne (show k ≠ 79 + v by omega)]
theorem dC_fr {v k : Nat} {fr a b : Nat → Int} (h1 : k ≠ 79 + v) (h2 : k ≠ 87) (h3 : k ≠ 88) : dC σ v fr a b k = σ k := by
  unfold dC
  rw [sr_ne h3, sr_ne h2, sr_ne h1]
theorem dC_87 {v : Nat} {fr a b : Nat → Int} : dC σ v fr a b 87 = a := rfl
theorem dC_88 {v : Nat} {fr a b : Nat → Int} : dC σ v fr a b 88 = b := rfl
theorem dC_row {v : Nat} {fr a b : Nat → Int} (hv : v < 8) : dC σ v fr a b (79 + v) = fr := by
  unfold dC
  rw [sr_ne (show 79 + v ≠ 88 by omega), sr_ne (show 79 + v ≠ 87 by omega)]
  exact if_pos rfl
theorem dC_self {v : Nat} : dC σ v (σ (79 + v)) (σ 87) (σ 88) = σ := by
  unfold dC
  rw [sr_self, sr_self, sr_self]
theorem dC_u0 {v c : Nat} {fr a b : Nat → Int} {z : Int} (hv : v < 8) : up (dC σ v fr a b) (79 + v) c z = dC σ v (ud fr c z) a b := by
  funext x y
  unfold dC sr up ud
  by_cases e : x = 79 + v
  · subst e
    simp [show ¬ 79 + v = 88 by omega, show ¬ 79 + v = 87 by omega]
  · simp [e]
theorem dC_u1 {v c : Nat} {fr a b : Nat → Int} {z : Int} : up (dC σ v fr a b) 87 c z = dC σ v fr (ud a c z) b := by
  funext x y
  unfold dC sr up ud
  by_cases e : x = 87
  · subst e
    simp
  · simp [e]
theorem dC_u2 {v c : Nat} {fr a b : Nat → Int} {z : Int} : up (dC σ v fr a b) 88 c z = dC σ v fr a (ud b c z) := by
  funext x y
  unfold dC sr up ud
  by_cases e : x = 88
  · subst e
    simp
  · simp [e]
theorem dC_Rg {v : Nat} {fr a b : Nat → Int} (hv : v < 8) (h : Rg σ) : Rg (dC σ v fr a b) := by
  intro k hk j
  rw [dC_lo hv (by omega)]
  exact h k hk j
theorem ud_ud {f : Nat → Int} {j : Nat} {y z : Int} : ud (ud f j y) j z = ud f j z := by
  funext b
  unfold ud
  split <;> rfl
theorem ref78 : ∀ v, v < 8 → srefD 78 v = some (79 + v) := by decide
theorem shp79 : ∀ v, v < 8 → shp (79 + v) = (100, 1980) := by decide
theorem abs_le2 {a b : Int} : (if 0 ≤ a then a else -a) ≤ b ↔ (a ≤ b ∧ -a ≤ b) := by split <;> omega
set_option maxHeartbeats 8000000 in
theorem c_findChoices (hs : Std n ρ) (hsD : StdD n ρ) (hR : Rg σ) (g : Geo σ W H) (v p hm nS : Nat) (hv : v < 8) (hp : p < 8) (h89 : σ 89 v = p) (hho : σ 21 p = hm) (hhm : hm < W * H) (hn : σ 73 3 = nS) (hn2 : nS ≤ 1980) (tf : Nat → Tri) (htf : ∀ s, s < nS → σ 74 s = (shpT (tf s) : Nat) ∧ InL W H (tf s)) (hwr : ∀ s, s < nS → 0 ≤ σ 75 s ∧ σ 75 s ≤ 1000) (du sl still : Int) (hdu : 0 ≤ du ∧ du ≤ 2000) (hsl : 0 ≤ sl ∧ sl ≤ 50) (hst : still = 0 ∨ still = 1) (ft : Nat → Bool) (c1 : Nat → Int) (hft : ∀ s, s < nS → (ft s = true ↔ (σ 75 s - du ≤ sl ∧ -(σ 75 s - du) ≤ sl))) (hc1 : ∀ s, s < nS → c1 s = stepsS W hm (shpT (tf s)) + if still = 1 ∧ ¬ σ 36 p = (shpT (tf s) : Nat) then 1000 else 0) : CtV l G 3 mX0_findChoices n ρ σ [rf G 73, iv v, iv du, iv sl, iv still] (fun σ' => ∃ (fr : Nat → Int) (cnt least : Int), ChOK ft c1 nS fr cnt least ∧ σ' = dC σ v fr (ud (σ 87) v cnt) (ud (σ 88) v least)) := by
  have hle := g.le
  have hW := g.2.2.2.1
  have hH8 := g.2.2.2.2.1.2
  generalize hQ : (fun (σ' : Si) => ∃ (fr : Nat → Int) (cnt least : Int), ChOK ft c1 nS fr cnt least ∧ σ' = dC σ v fr (ud (σ 87) v cnt) (ud (σ 88) v least)) = Q
  have lp : ∀ (m s : Nat) (x9 : Value) (fr : Nat → Int) (least : Int), s + m = nS → (∀ s', s' < s → ft s' = true → fr (fcn ft s') = (((c1 s').toNat * 2 ^ 11 + s' : Nat) : Int) ∧ least ≤ c1 s') → (0 ≤ least ∧ least ≤ 1000000000) → RW (KV l G 3 mX0_findChoices n ρ Q) (0, 0, n, ρ) (dC σ v fr (ud (σ 87) v (fcn ft s : Nat)) (ud (σ 88) v least)) 50 [rf G 73, iv v, iv du, iv sl, iv still, iv p, iv hm, iv (σ 36 p), iv s, x9] [] := by
    intro m
    induction m with
    | zero =>
      intro s x9 fr least hsm hin hlr
      have e : s = nS := by omega
      subst e
      refine r_iload dX0_findChoices_50 rfl ?_
      refine r_aloadk_n dX0_findChoices_52 rfl ?_
      refine r_geti dX0_findChoices_53 fl_X0_111 rfl rfl (hsD.lt rfl) ?_
      rw [dC_lo hv (show 73 < 79 by decide)]
      refine r_icmpge (tgt := 173) dX0_findChoices_56 rfl (by omega) (by omega) (fun h56 => ?_) (fun h56 => ?_)
      · exact r_vret dX0_findChoices_173 rfl ⟨rfl, by rw [← hQ]; exact ⟨fr, _, least, ⟨rfl, hin, hlr.1, hlr.2⟩, rfl⟩⟩
      · omega
    | succ m ih =>
      intro s x9 fr least hsm hin hlr
      have hsn : s < nS := by omega
      obtain ⟨h74, hT⟩ := htf s hsn
      have hw := hwr s hsn
      have hf := hft s hsn
      have hc := hc1 s hsn
      obtain ⟨t1, t2, t3, t4⟩ := id hT
      have n0 := Int.natCast_nonneg ((tf s).1 / W)
      have hsr := stepsT_r hW hH8 hT hhm
      obtain ⟨d1, d2, d3⟩ := shpT_div (t := tf s) (by omega) (by omega)
      have hfl := fcn_le (ft := ft) s
      have hc0 : 0 ≤ c1 s ∧ c1 s ≤ 1100 := by rw [hc]; split <;> omega
      have nx := fun x9 fr least => ih (s + 1) x9 fr least (by omega)
      have L119 : ft s = true → RW (KV l G 3 mX0_findChoices n ρ Q) (0, 0, n, ρ) (dC σ v fr (ud (σ 87) v (fcn ft s : Nat)) (ud (σ 88) v least)) 119 [rf G 73, iv v, iv du, iv sl, iv still, iv p, iv hm, iv (σ 36 p), iv s, iv (c1 s)] [] := by
        intro hfs
        rw [fcn_t hfs] at nx
        have hfe := fun s' (h : s' < s) (hq : ft s' = true) => fcn_lt h hq
        obtain ⟨cN, hcN⟩ : ∃ a : Nat, c1 s = a := ⟨(c1 s).toNat, by omega⟩
        have hfin : ∀ s', s' < s + 1 → ft s' = true → (ud fr (fcn ft s) ((cN * 2 ^ 11 + s : Nat) : Int)) (fcn ft s') = (((c1 s').toNat * 2 ^ 11 + s' : Nat) : Int) ∧ min least (c1 s) ≤ c1 s' := by
          intro s' h1 h2
          by_cases e : s' = s
          · subst e
            rw [ud_at, hcN, Int.toNat_natCast]
            exact ⟨rfl, by omega⟩
          · have h3 := hfe s' (by omega) h2
            have h4 := hin s' (by omega) h2
            rw [ud_ne (by omega)]
            exact ⟨h4.1, by omega⟩
        have nx2 := nx (iv (c1 s)) _ _ hfin (by omega)
        rw [hcN] at nx2 ⊢
        refine r_aloadk_n dX0_findChoices_119 rfl ?_
        refine r_getr dX0_findChoices_120 fl_X0_27 rfl rfl (hsD.lt rfl) (hsD.rf rfl) ?_
        refine r_iload_n dX0_findChoices_123 rfl ?_
        refine r_aald dX0_findChoices_124 rfl (hsD.lt rfl) (c := v) rfl hv (hsD.rf (ref78 v hv)) ?_
        refine r_aloadk_n dX0_findChoices_125 rfl ?_
        refine r_getr dX0_findChoices_126 fl_X0_30 rfl rfl (hsD.lt rfl) (hsD.rf rfl) ?_
        refine r_iload_n dX0_findChoices_129 rfl ?_
        refine r_iald dX0_findChoices_130 rfl (hsD.lt rfl) rfl (by omega) ?_
        rw [dC_87, ud_at]
        refine r_iload dX0_findChoices_131 rfl ?_
        refine r_bipush dX0_findChoices_133 ?_
        refine r_ishl (b := 11) dX0_findChoices_135 (by decide) ?_
        rw [show iv ((cN : Int) * 2 ^ 11) = iv ((cN * 2 ^ 11 : Nat) : Int) by congr 1]
        refine r_iload dX0_findChoices_136 rfl ?_
        refine r_ior (a := cN) (b := s) (k := 11) dX0_findChoices_138 (by omega) ?_
        refine r_iast dX0_findChoices_139 (shp79 v hv) (Nat.lt_of_lt_of_le (by omega : 79 + v < 92) hsD.1) rfl (by omega) ?_
        rw [dC_u0 hv]
        refine r_aloadk_n dX0_findChoices_140 rfl ?_
        refine r_getr dX0_findChoices_141 fl_X0_30 rfl rfl (hsD.lt rfl) (hsD.rf rfl) ?_
        refine r_iload_n dX0_findChoices_144 rfl ?_
        refine r_dup2 dX0_findChoices_145 rfl rfl ?_
        refine r_iald dX0_findChoices_146 rfl (hsD.lt rfl) rfl (by omega) ?_
        rw [dC_87, ud_at]
        refine r_iconst dX0_findChoices_147 ?_
        refine r_iadd dX0_findChoices_148 ?_
        refine r_iast dX0_findChoices_149 rfl (hsD.lt rfl) rfl (by omega) ?_
        rw [dC_u1, ud_ud]
        refine r_aloadk_n dX0_findChoices_150 rfl ?_
        refine r_getr dX0_findChoices_151 fl_X0_33 rfl rfl (hsD.lt rfl) (hsD.rf rfl) ?_
        refine r_iload_n dX0_findChoices_154 rfl ?_
        refine r_aloadk_n dX0_findChoices_155 rfl ?_
        refine r_getr dX0_findChoices_156 fl_X0_33 rfl rfl (hsD.lt rfl) (hsD.rf rfl) ?_
        refine r_iload_n dX0_findChoices_159 rfl ?_
        refine r_iald dX0_findChoices_160 rfl (hsD.lt rfl) rfl (by omega) ?_
        rw [dC_88, ud_at]
        refine r_iload dX0_findChoices_161 rfl ?_
        refine r_mmin dX0_findChoices_163 ml_X0_164 (by omega) (by omega) (Nat.le_of_ble_eq_true rfl) (Nat.le_of_ble_eq_true rfl) ⟨(Nat.le_of_ble_eq_true rfl), (Nat.le_of_ble_eq_true rfl)⟩ ?_
        refine r_iast dX0_findChoices_166 rfl (hsD.lt rfl) rfl (by omega) ?_
        rw [dC_u2, ud_ud]
        refine r_iinc dX0_findChoices_167 (Nat.le_of_ble_eq_true rfl) rfl rfl s8 ?_
        refine r_goto (tgt := 50) dX0_findChoices_170 rfl ?_
        exact nx2
      refine r_iload dX0_findChoices_50 rfl ?_
      refine r_aloadk_n dX0_findChoices_52 rfl ?_
      refine r_geti dX0_findChoices_53 fl_X0_111 rfl rfl (hsD.lt rfl) ?_
      rw [dC_lo hv (show 73 < 79 by decide)]
      refine r_icmpge (tgt := 173) dX0_findChoices_56 rfl (by omega) (by omega) (fun h56 => ?_) (fun h56 => ?_)
      · omega
      · refine r_aloadk_n dX0_findChoices_59 rfl ?_
        refine r_getr dX0_findChoices_60 fl_X0_15 rfl rfl (hsD.lt rfl) (hsD.rf rfl) ?_
        refine r_iload dX0_findChoices_63 rfl ?_
        refine r_iald dX0_findChoices_65 rfl (hsD.lt rfl) rfl (by omega) ?_
        rw [dC_lo hv (show 75 < 79 by decide)]
        refine r_iload_n dX0_findChoices_66 rfl ?_
        refine r_isub dX0_findChoices_67 ?_
        refine r_mabs dX0_findChoices_68 ml_X0_154 (by omega) (Nat.le_of_ble_eq_true rfl) (Nat.le_of_ble_eq_true rfl) ⟨(Nat.le_of_ble_eq_true rfl), (Nat.le_of_ble_eq_true rfl)⟩ ?_
        refine r_iload_n dX0_findChoices_71 rfl ?_
        refine r_icmple (tgt := 78) dX0_findChoices_72 rfl (by split <;> omega) (by omega) (fun h72 => ?_) (fun h72 => ?_)
        · refine r_aloadk_n dX0_findChoices_78 rfl ?_
          refine r_getr dX0_findChoices_79 fl_X0_45 rfl rfl (hsD.lt rfl) (hsD.rf rfl) ?_
          refine r_iload dX0_findChoices_82 rfl ?_
          refine r_aloadk_n dX0_findChoices_84 rfl ?_
          refine r_getr dX0_findChoices_85 fl_X0_11 rfl rfl (hsD.lt rfl) (hsD.rf rfl) ?_
          refine r_iload dX0_findChoices_88 rfl ?_
          refine r_iald dX0_findChoices_90 rfl (hsD.lt rfl) rfl (by omega) ?_
          rw [dC_lo hv (show 74 < 79 by decide), h74]
          refine q_callVr dX0_findChoices_91 (c_stepsTo (σ := dC σ v fr (ud (σ 87) v (fcn ft s : Nat)) (ud (σ 88) v least)) hs (dC_Rg hv hR) (W := W) (H := H) (by unfold Geo; rw [dC_lo hv (show 2 < 79 by decide), dC_lo hv (show 7 < 79 by decide), dC_lo hv (show 8 < 79 by decide)]; exact g) hm (shpT (tf s)) hhm (by omega) (by omega)) ml_X0_160 okX1_stepsTo rfl rfl (hsD.lt rfl) rfl rfl (Nat.le_of_ble_eq_true rfl) (roomOK.of (by decide)) ⟨(Nat.le_of_ble_eq_true rfl), (Nat.le_of_ble_eq_true rfl)⟩ ?_
          refine r_istore dX0_findChoices_94 (Nat.le_of_ble_eq_true rfl) rfl s9 ?_
          refine r_iload dX0_findChoices_96 rfl ?_
          refine r_ifeq (tgt := 119) dX0_findChoices_98 rfl (by omega) (fun h98 => ?_) (fun h98 => ?_)
          · have hfs : ft s = true := hf.mpr (abs_le2.mp h72)
            have L := L119 hfs
            rw [hc] at L
            first
            | (rw [if_neg (show ¬ (still = 1 ∧ ¬ σ 36 p = (shpT (tf s) : Nat)) by omega), Int.add_zero] at L; exact L)
            | (rw [if_pos (show (still = 1 ∧ ¬ σ 36 p = (shpT (tf s) : Nat)) by omega)] at L; exact L)
          · refine r_aloadk_n dX0_findChoices_101 rfl ?_
            refine r_getr dX0_findChoices_102 fl_X0_11 rfl rfl (hsD.lt rfl) (hsD.rf rfl) ?_
            refine r_iload dX0_findChoices_105 rfl ?_
            refine r_iald dX0_findChoices_107 rfl (hsD.lt rfl) rfl (by omega) ?_
            rw [dC_lo hv (show 74 < 79 by decide), h74]
            refine r_iload dX0_findChoices_108 rfl ?_
            refine r_icmpeq (tgt := 119) dX0_findChoices_110 rfl (by omega) (hR 36 (by decide) p) (fun h110 => ?_) (fun h110 => ?_)
            · have hfs : ft s = true := hf.mpr (abs_le2.mp h72)
              have L := L119 hfs
              rw [hc] at L
              first
              | (rw [if_neg (show ¬ (still = 1 ∧ ¬ σ 36 p = (shpT (tf s) : Nat)) by omega), Int.add_zero] at L; exact L)
              | (rw [if_pos (show (still = 1 ∧ ¬ σ 36 p = (shpT (tf s) : Nat)) by omega)] at L; exact L)
            · refine r_iincW dX0_findChoices_113 (Nat.le_of_ble_eq_true rfl) rfl rfl s9 ?_
              have hfs : ft s = true := hf.mpr (abs_le2.mp h72)
              have L := L119 hfs
              rw [hc] at L
              first
              | (rw [if_neg (show ¬ (still = 1 ∧ ¬ σ 36 p = (shpT (tf s) : Nat)) by omega), Int.add_zero] at L; exact L)
              | (rw [if_pos (show (still = 1 ∧ ¬ σ 36 p = (shpT (tf s) : Nat)) by omega)] at L; exact L)
        · refine r_goto (tgt := 167) dX0_findChoices_75 rfl ?_
          refine r_iinc dX0_findChoices_167 (Nat.le_of_ble_eq_true rfl) rfl rfl s8 ?_
          refine r_goto (tgt := 50) dX0_findChoices_170 rfl ?_
          have hfs : ¬ ft s = true := fun q => by have := abs_le2.mpr (hf.mp q); omega
          rw [fcn_f hfs] at nx
          exact nx _ fr least (fun s' h1 h2 => by
            by_cases e : s' = s
            · rw [e] at h2; exact absurd h2 hfs
            · exact hin s' (by omega) h2) hlr
  refine Ct.of (L0 := [rf G 73, iv v, iv du, iv sl, iv still, xx, xx, xx, xx, xx]) (by decide +kernel) (Nat.le_of_ble_eq_true rfl) rfl ?_
  refine r_aloadk_n dX0_findChoices_0 rfl ?_
  refine r_getr dX0_findChoices_1 fl_X0_36 rfl rfl (hsD.lt rfl) (hsD.rf rfl) ?_
  refine r_iload_n dX0_findChoices_4 rfl ?_
  refine r_iald dX0_findChoices_5 rfl (hsD.lt rfl) rfl (by omega) ?_
  rw [h89]
  refine r_istore dX0_findChoices_6 (Nat.le_of_ble_eq_true rfl) rfl s5 ?_
  refine r_aloadk_n dX0_findChoices_8 rfl ?_
  refine r_getr dX0_findChoices_9 fl_X0_49 rfl rfl (hsD.lt rfl) (hsD.rf rfl) ?_
  refine r_getr dX0_findChoices_12 fl_X0_151 rfl rfl (hsD.lt rfl) (hs.rf rfl) ?_
  refine r_iload dX0_findChoices_15 rfl ?_
  refine r_iald dX0_findChoices_17 rfl (hsD.lt rfl) rfl (by omega) ?_
  rw [hho]
  refine r_istore dX0_findChoices_18 (Nat.le_of_ble_eq_true rfl) rfl s6 ?_
  refine r_aloadk_n dX0_findChoices_20 rfl ?_
  refine r_getr dX0_findChoices_21 fl_X0_53 rfl rfl (hsD.lt rfl) (hsD.rf rfl) ?_
  refine r_getr dX0_findChoices_24 fl_X0_83 rfl rfl (hsD.lt rfl) (hs.rf rfl) ?_
  refine r_iload dX0_findChoices_27 rfl ?_
  refine r_iald dX0_findChoices_29 rfl (hsD.lt rfl) rfl (by omega) ?_
  refine r_istore dX0_findChoices_30 (Nat.le_of_ble_eq_true rfl) rfl s7 ?_
  refine r_aloadk_n dX0_findChoices_32 rfl ?_
  refine r_getr dX0_findChoices_33 fl_X0_30 rfl rfl (hsD.lt rfl) (hsD.rf rfl) ?_
  refine r_iload_n dX0_findChoices_36 rfl ?_
  refine r_iconst dX0_findChoices_37 ?_
  refine r_iast dX0_findChoices_38 rfl (hsD.lt rfl) rfl (by omega) ?_
  refine r_aloadk_n dX0_findChoices_39 rfl ?_
  refine r_getr dX0_findChoices_40 fl_X0_33 rfl rfl (hsD.lt rfl) (hsD.rf rfl) ?_
  refine r_iload_n dX0_findChoices_43 rfl ?_
  refine r_ldc dX0_findChoices_44 k_X0_71 ?_
  refine r_iast dX0_findChoices_46 rfl (hsD.lt rfl) rfl (by omega) ?_
  refine r_iconst dX0_findChoices_47 ?_
  refine r_istore dX0_findChoices_48 (Nat.le_of_ble_eq_true rfl) rfl s8 ?_
  have z := lp nS 0 xx (σ (79 + v)) 1000000000 (by omega) (fun s' h => absurd h (Nat.not_lt_zero s')) (by omega)
  have e : up (up σ 87 v 0) 88 v 1000000000 = dC σ v (σ (79 + v)) (ud (σ 87) v 0) (ud (σ 88) v 1000000000) := by rw [← dC_u2, ← dC_u1, dC_self]
  rw [e]
  exact z
set_option maxHeartbeats 8000000 in
theorem c_findTakers (hs : Std n ρ) (hsD : StdD n ρ) (hR : Rg σ) (g : Geo σ W H) (nS : Nat) (hP : σ 19 1 = P) (hP8 : P ≤ 8) (hho : ∀ p, p < P → 0 ≤ σ 21 p ∧ σ 21 p < (W * H : Nat)) (hn : σ 73 3 = nS) (hn2 : nS ≤ 1980) (tf : Nat → Tri) (htf : ∀ s, s < nS → σ 74 s = (shpT (tf s) : Nat) ∧ InL W H (tf s)) (hwr : ∀ s, s < nS → 0 ≤ σ 75 s ∧ σ 75 s ≤ 1000) (due : Nat → Int) (hdd : ∀ p, p < P → σ 31 p = due p) (hdr : ∀ p, 0 ≤ due p ∧ due p ≤ 2000) (sl still : Int) (hsl : 0 ≤ sl ∧ sl ≤ 50) (hst : still = 0 ∨ still = 1) (fit : Nat → Nat → Bool) (co : Nat → Nat → Int) (hft : ∀ p s, p < P → s < nS → (fit p s = true ↔ (σ 75 s - due p ≤ sl ∧ -(σ 75 s - due p) ≤ sl))) (hco : ∀ p s, p < P → s < nS → co p s = stepsS W (σ 21 p).toNat (shpT (tf s)) + if still = 1 ∧ ¬ σ 36 p = (shpT (tf s) : Nat) then 1000 else 0) : CtV l G 4 mX0_findTakers n ρ σ [rf G 73, rf G 31, iv sl, iv still] (fun τ => (∀ k, (k < 73 ∨ (73 < k ∧ k < 79)) → τ k = σ k) ∧ (∀ j, j ≠ 4 → τ 73 j = σ 73 j) ∧ τ 73 4 = (fcn (fun p => decide (0 < due p)) P : Nat) ∧ ∀ p, p < P → 0 < due p → τ 89 (fcn (fun p => decide (0 < due p)) p) = p ∧ ChOK (fit p) (co p) nS (τ (79 + fcn (fun p => decide (0 < due p)) p)) (τ 87 (fcn (fun p => decide (0 < due p)) p)) (τ 88 (fcn (fun p => decide (0 < due p)) p))) := by
  generalize hct : fcn (fun p => decide (0 < due p)) = cT
  have hct1 : ∀ p, 0 < due p → cT (p + 1) = cT p + 1 := fun p h => by rw [← hct]; exact fcn_t (decide_eq_true h)
  have hct2 : ∀ p, ¬ 0 < due p → cT (p + 1) = cT p := fun p h => by rw [← hct]; exact fcn_f (by rw [decide_eq_true_iff]; exact h)
  have hct3 : ∀ p, cT p ≤ p := fun p => by rw [← hct]; exact fcn_le p
  have hct4 : ∀ p q, p < q → 0 < due p → cT p < cT q := fun p q h h2 => by rw [← hct]; exact fcn_lt h (decide_eq_true h2)
  generalize hQ : (fun (τ : Si) => (∀ k, (k < 73 ∨ (73 < k ∧ k < 79)) → τ k = σ k) ∧ (∀ j, j ≠ 4 → τ 73 j = σ 73 j) ∧ τ 73 4 = (cT P : Nat) ∧ ∀ p, p < P → 0 < due p → τ 89 (cT p) = p ∧ ChOK (fit p) (co p) nS (τ (79 + cT p)) (τ 87 (cT p)) (τ 88 (cT p))) = Q
  have lp : ∀ (m i : Nat) (τ : Si), i + m = P → (∀ k, (k < 73 ∨ (73 < k ∧ k < 79)) → τ k = σ k) → (∀ j, j ≠ 4 → τ 73 j = σ 73 j) → τ 73 4 = (cT i : Nat) → (∀ p, p < i → 0 < due p → τ 89 (cT p) = p ∧ ChOK (fit p) (co p) nS (τ (79 + cT p)) (τ 87 (cT p)) (τ 88 (cT p))) → RW (KV l G 4 mX0_findTakers n ρ Q) (0, 0, n, ρ) τ 8 [rf G 73, rf G 31, iv sl, iv still, iv i] [] := by
    intro m
    induction m with
    | zero =>
      intro i τ hi f1 f2 f3 f4
      have e : i = P := by omega
      subst e
      refine r_iload dX0_findTakers_8 rfl ?_
      refine r_aloadk_n dX0_findTakers_10 rfl ?_
      refine r_getr dX0_findTakers_11 fl_X0_49 rfl rfl (hsD.lt rfl) (hsD.rf rfl) ?_
      refine r_geti dX0_findTakers_14 fl_X0_142 rfl rfl (hsD.lt rfl) ?_
      rw [f1 19 (by omega)]
      refine r_icmpge (tgt := 71) dX0_findTakers_17 rfl (by omega) (by omega) (fun h17 => ?_) (fun h17 => ?_)
      · exact r_vret dX0_findTakers_71 rfl ⟨rfl, by rw [← hQ]; exact ⟨f1, f2, f3, f4⟩⟩
      · omega
    | succ m ih =>
      intro i τ hi f1 f2 f3 f4
      have hiP : i < P := by omega
      have hdi := hdr i
      have hc3 := hct3 i
      have hhi := hho i hiP
      by_cases hdu : 0 < due i
      · have hc1 := hct1 i hdu
        obtain ⟨hm, hhm⟩ : ∃ a : Nat, σ 21 i = a := ⟨(σ 21 i).toNat, by omega⟩
        have hlo : ∀ k, (k < 73 ∨ (73 < k ∧ k < 79)) → up τ 89 (cT i) i k = σ k := fun k hk => by rw [← f1 k hk]; exact up_row (by omega)
        have h73 : up τ 89 (cT i) i 73 = τ 73 := up_row (by decide)
        have hco' := fun s hs => hco i s hiP hs
        rw [hhm, Int.toNat_natCast] at hco'
        have ka := c_findChoices (l := l) (G := G) (n := n) (ρ := ρ) (σ := up τ 89 (cT i) i) (W := W) (H := H) hs hsD (fun k hk j => by rw [hlo k (by omega)]; exact hR k hk j) (by unfold Geo; rw [hlo 2 (by omega), hlo 7 (by omega), hlo 8 (by omega)]; exact g) (cT i) i hm nS (by omega) (by omega) (if_pos ⟨rfl, rfl⟩) (by rw [hlo 21 (by omega)]; exact hhm) (by omega) (by rw [h73, f2 3 (by decide)]; exact hn) hn2 tf (by rw [hlo 74 (by omega)]; exact htf) (by rw [hlo 75 (by omega)]; exact hwr) (due i) sl still hdi hsl hst (fit i) (co i) (by rw [hlo 75 (by omega)]; exact fun s hs => hft i s hiP hs) (by rw [hlo 36 (by omega)]; exact hco')
        refine r_iload dX0_findTakers_8 rfl ?_
        refine r_aloadk_n dX0_findTakers_10 rfl ?_
        refine r_getr dX0_findTakers_11 fl_X0_49 rfl rfl (hsD.lt rfl) (hsD.rf rfl) ?_
        refine r_geti dX0_findTakers_14 fl_X0_142 rfl rfl (hsD.lt rfl) ?_
        rw [f1 19 (by omega)]
        refine r_icmpge (tgt := 71) dX0_findTakers_17 rfl (by omega) (by omega) (fun h17 => ?_) (fun h17 => ?_)
        · omega
        · refine r_aloadk_n dX0_findTakers_20 rfl ?_
          refine r_iload dX0_findTakers_21 rfl ?_
          refine r_iald dX0_findTakers_23 rfl (hsD.lt rfl) rfl (by omega) ?_
          rw [f1 31 (by omega), hdd i hiP]
          refine r_ifgt (tgt := 30) dX0_findTakers_24 rfl (by omega) (fun h24 => ?_) (fun h24 => ?_)
          · refine r_aloadk_n dX0_findTakers_30 rfl ?_
            refine r_getr dX0_findTakers_31 fl_X0_36 rfl rfl (hsD.lt rfl) (hsD.rf rfl) ?_
            refine r_aloadk_n dX0_findTakers_34 rfl ?_
            refine r_geti dX0_findTakers_35 fl_X0_92 rfl rfl (hsD.lt rfl) ?_
            rw [f3]
            refine r_iload dX0_findTakers_38 rfl ?_
            refine r_iast dX0_findTakers_40 rfl (hsD.lt rfl) rfl (by omega) ?_
            refine r_aloadk_n dX0_findTakers_41 rfl ?_
            refine r_aloadk_n dX0_findTakers_42 rfl ?_
            refine r_geti dX0_findTakers_43 fl_X0_92 rfl rfl (hsD.lt rfl) ?_
            rw [h73, f3]
            refine r_aloadk_n dX0_findTakers_46 rfl ?_
            refine r_iload dX0_findTakers_47 rfl ?_
            refine r_iald dX0_findTakers_49 rfl (hsD.lt rfl) rfl (by omega) ?_
            rw [hlo 31 (by omega), hdd i hiP]
            refine r_iload_n dX0_findTakers_50 rfl ?_
            refine r_iload_n dX0_findTakers_51 rfl ?_
            refine q_callVv dX0_findTakers_52 (ka) ml_X0_147 okX0_findChoices rfl rfl (hsD.lt rfl) rfl rfl (Nat.le_of_ble_eq_true rfl) (roomOK.of (by decide)) ⟨(Nat.le_of_ble_eq_true rfl), (Nat.le_of_ble_eq_true rfl)⟩ (fun σ1 hq1 => ?_)
            obtain ⟨fr, cnt, least, hch, rfl⟩ := hq1
            have h73b : dC (up τ 89 (cT i) i) (cT i) fr (ud ((up τ 89 (cT i) i) 87) (cT i) cnt) (ud ((up τ 89 (cT i) i) 88) (cT i) least) 73 = τ 73 := by rw [dC_lo (by omega) (by decide)]; exact h73
            have hrow : ∀ k, k ≠ 79 + cT i → k ≠ 87 → k ≠ 88 → k ≠ 89 → k ≠ 73 → up (dC (up τ 89 (cT i) i) (cT i) fr (ud ((up τ 89 (cT i) i) 87) (cT i) cnt) (ud ((up τ 89 (cT i) i) 88) (cT i) least)) 73 4 (cT i + 1) k = τ k := fun k a1 a2 a3 a4 a5 => by rw [up_row a5, dC_fr a1 a2 a3, up_row a4]
            refine r_aloadk_n dX0_findTakers_55 rfl ?_
            refine r_dup dX0_findTakers_56 rfl ?_
            refine r_geti dX0_findTakers_57 fl_X0_92 rfl rfl (hsD.lt rfl) ?_
            rw [h73b, f3]
            refine r_iconst dX0_findTakers_60 ?_
            refine r_iadd dX0_findTakers_61 ?_
            refine r_puti dX0_findTakers_62 fl_X0_92 rfl (hsD.lt rfl) ?_
            refine r_iinc dX0_findTakers_65 (Nat.le_of_ble_eq_true rfl) rfl rfl s4 ?_
            refine r_goto (tgt := 8) dX0_findTakers_68 rfl ?_
            refine ih (i + 1) _ (by omega) (fun k hk => ?_) (fun j hj => ?_) ?_ (fun p hp hdp => ?_)
            · rw [hrow k (by omega) (by omega) (by omega) (by omega) (by omega)]; exact f1 k hk
            · rw [show (up (dC (up τ 89 (cT i) i) (cT i) fr (ud ((up τ 89 (cT i) i) 87) (cT i) cnt) (ud ((up τ 89 (cT i) i) 88) (cT i) least)) 73 4 (cT i + 1)) 73 j = (dC (up τ 89 (cT i) i) (cT i) fr (ud ((up τ 89 (cT i) i) 87) (cT i) cnt) (ud ((up τ 89 (cT i) i) 88) (cT i) least)) 73 j from if_neg (fun q => hj q.2), h73b]; exact f2 j hj
            · rw [hc1]; exact (if_pos ⟨rfl, rfl⟩)
            · by_cases e : p = i
              · subst e
                rw [up_row (show 89 ≠ 73 by decide), dC_fr (by omega) (by decide) (by decide), up_row (show 79 + cT p ≠ 73 by omega), dC_row (by omega), up_row (show 87 ≠ 73 by decide), dC_87, ud_at, up_row (show 88 ≠ 73 by decide), dC_88, ud_at]
                exact ⟨if_pos ⟨rfl, rfl⟩, hch⟩
              · have hlt := hct4 p i (by omega) hdp
                have old := f4 p (by omega) hdp
                rw [up_row (show 89 ≠ 73 by decide), dC_fr (by omega) (by decide) (by decide), hrow (79 + cT p) (by omega) (by omega) (by omega) (by omega) (by omega), up_row (show 87 ≠ 73 by decide), dC_87, ud_ne (by omega), up_row (show 88 ≠ 73 by decide), dC_88, ud_ne (by omega), up_row (show 87 ≠ 89 by decide), up_row (show 88 ≠ 89 by decide), show up τ 89 (cT i) i 89 (cT p) = τ 89 (cT p) from if_neg (fun q => by omega)]
                exact old
          · omega
      · have hc2 := hct2 i hdu
        have hd0 : due i = 0 := by omega
        refine r_iload dX0_findTakers_8 rfl ?_
        refine r_aloadk_n dX0_findTakers_10 rfl ?_
        refine r_getr dX0_findTakers_11 fl_X0_49 rfl rfl (hsD.lt rfl) (hsD.rf rfl) ?_
        refine r_geti dX0_findTakers_14 fl_X0_142 rfl rfl (hsD.lt rfl) ?_
        rw [f1 19 (by omega)]
        refine r_icmpge (tgt := 71) dX0_findTakers_17 rfl (by omega) (by omega) (fun h17 => ?_) (fun h17 => ?_)
        · omega
        · refine r_aloadk_n dX0_findTakers_20 rfl ?_
          refine r_iload dX0_findTakers_21 rfl ?_
          refine r_iald dX0_findTakers_23 rfl (hsD.lt rfl) rfl (by omega) ?_
          rw [f1 31 (by omega), hdd i hiP]
          refine r_ifgt (tgt := 30) dX0_findTakers_24 rfl (by omega) (fun h24 => ?_) (fun h24 => ?_)
          · omega
          · refine r_goto (tgt := 65) dX0_findTakers_27 rfl ?_
            refine r_iinc dX0_findTakers_65 (Nat.le_of_ble_eq_true rfl) rfl rfl s4 ?_
            refine r_goto (tgt := 8) dX0_findTakers_68 rfl ?_
            refine ih (i + 1) τ (by omega) f1 f2 (by rw [hc2]; exact f3) (fun p hp hdp => ?_)
            by_cases e : p = i
            · rw [e] at hdp; exact absurd hdp hdu
            · exact f4 p (by omega) hdp
  refine Ct.of (L0 := [rf G 73, rf G 31, iv sl, iv still, xx]) (by decide +kernel) (Nat.le_of_ble_eq_true rfl) rfl ?_
  refine r_aloadk_n dX0_findTakers_0 rfl ?_
  refine r_iconst dX0_findTakers_1 ?_
  refine r_puti dX0_findTakers_2 fl_X0_92 rfl (hsD.lt rfl) ?_
  refine r_iconst dX0_findTakers_5 ?_
  refine r_istore dX0_findTakers_6 (Nat.le_of_ble_eq_true rfl) rfl s4 ?_
  refine lp P 0 _ (by omega) (fun k hk => up_row (by omega)) (fun j hj => if_neg (fun q => hj q.2)) ?_ (fun p hp => absurd hp (Nat.not_lt_zero p))
  rw [show cT 0 = 0 by rw [← hct]; rfl]
  exact if_pos ⟨rfl, rfl⟩
end Choices
