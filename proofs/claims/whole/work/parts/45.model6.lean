/-! MODEL: road -/
def itW (pre : Nat → Nat) (to : Nat) : Nat → Nat
  | 0 => to
  | i + 1 => pre (itW pre to i)
section Model6
variable {l : Launch} {G : GG} {n : Nat} {ρ : Rho} {σ : Si} {W H P C O : Nat}
set_option maxHeartbeats 4000000 in
theorem m_road (hs : Std n ρ) (hJ : JM σ W H P C O) (x1 x2 : Int) (h1 : R32 x1) (h2 : R32 x2) : CtI l G 2 mX9_road n ρ σ [rf G 38, iv x1, iv x2] (fun σ' z => (¬ ((0 ≤ x1 ∧ x1 < (W * H : Nat)) ∧ (0 ≤ x2 ∧ x2 < (W * H : Nat)) ∧ ¬ x1 = x2) ∧ z = -3 ∧ σ' = σ) ∨ (((0 ≤ x1 ∧ x1 < (W * H : Nat)) ∧ (0 ≤ x2 ∧ x2 < (W * H : Nat)) ∧ ¬ x1 = x2) ∧ (σ 40 x1.toNat = 2 ∨ σ 40 x2.toNat = 2) ∧ z = -4 ∧ σ' = σ) ∨ (((0 ≤ x1 ∧ x1 < (W * H : Nat)) ∧ (0 ≤ x2 ∧ x2 < (W * H : Nat)) ∧ ¬ x1 = x2) ∧ ¬ (σ 40 x1.toNat = 2 ∨ σ 40 x2.toNat = 2) ∧ ∃ D wy : Nat → Int, (∀ j, R32 (D j)) ∧ (∀ j, R32 (wy j)) ∧ Sol (σ 40) (prS (σ 39) (σ 41)) W H x1.toNat D ∧ ((D x2.toNat = FARV ∧ z = -4 ∧ σ' = sr σ 58 D) ∨ (D x2.toNat < FARV ∧ ∃ rd : Nat → Int, (rd, z) = roadGo (fun c => (befS D (prS (σ 39) (σ 41)) W H c).toNat) x1.toNat (W * H) x2.toNat (σ 41) 0 ∧ (∀ c, 0 ≤ rd c ∧ rd c ≤ 1) ∧ 0 ≤ z ∧ z ≤ 80 ∧ σ' = up (sr (sr (sr σ 58 D) 59 wy) 41 rd) 38 6 (σ 38 6 + 10 * z))))) := by
  obtain ⟨hR, t0, g, j3, j4, j5, j6, j7, j8, j9, j10, j11, j12⟩ := id hJ
  have hle := WH_le g.2.2.1.2 g.2.2.2.2
  have hW : 0 < W := by have := g.2.2.1; omega
  have hpr := prS_r (so := σ 39) (rd := σ 41) j3
  generalize hQ : (fun (σ' : Si) (z : Int) => (¬ ((0 ≤ x1 ∧ x1 < (W * H : Nat)) ∧ (0 ≤ x2 ∧ x2 < (W * H : Nat)) ∧ ¬ x1 = x2) ∧ z = -3 ∧ σ' = σ) ∨ (((0 ≤ x1 ∧ x1 < (W * H : Nat)) ∧ (0 ≤ x2 ∧ x2 < (W * H : Nat)) ∧ ¬ x1 = x2) ∧ (σ 40 x1.toNat = 2 ∨ σ 40 x2.toNat = 2) ∧ z = -4 ∧ σ' = σ) ∨ (((0 ≤ x1 ∧ x1 < (W * H : Nat)) ∧ (0 ≤ x2 ∧ x2 < (W * H : Nat)) ∧ ¬ x1 = x2) ∧ ¬ (σ 40 x1.toNat = 2 ∨ σ 40 x2.toNat = 2) ∧ ∃ D wy : Nat → Int, (∀ j, R32 (D j)) ∧ (∀ j, R32 (wy j)) ∧ Sol (σ 40) (prS (σ 39) (σ 41)) W H x1.toNat D ∧ ((D x2.toNat = FARV ∧ z = -4 ∧ σ' = sr σ 58 D) ∨ (D x2.toNat < FARV ∧ ∃ rd : Nat → Int, (rd, z) = roadGo (fun c => (befS D (prS (σ 39) (σ 41)) W H c).toNat) x1.toNat (W * H) x2.toNat (σ 41) 0 ∧ (∀ c, 0 ≤ rd c ∧ rd c ≤ 1) ∧ 0 ≤ z ∧ z ≤ 80 ∧ σ' = up (sr (sr (sr σ 58 D) 59 wy) 41 rd) 38 6 (σ 38 6 + 10 * z))))) = Q
  have mk : ∀ (fr to : Nat) (D wy : Nat → Int) (T : (Nat → Int) × Int) (K : Nat) (it : Nat → Nat) (pre : Nat → Nat), (∀ i, it (i + 1) = pre (it i)) → K < W * H → it K = fr → (∀ i, i < K → it i ≠ fr) → (∀ i, i ≤ K → it i < W * H ∧ wy i = it i) → (∀ rd z, (rd, z) = T → (∀ c, 0 ≤ rd c ∧ rd c ≤ 1) → 0 ≤ z → z ≤ 80 → Q (up (sr (sr (sr σ 58 D) 59 wy) 41 rd) 38 6 (σ 38 6 + 10 * z)) z) → ∀ (m i : Nat) (rd : Nat → Int) (came y4 y5 : Int), i + m = K + 1 → (i ≤ K → roadGo pre fr (W * H - i) (it i) rd came = T) → (i = K + 1 → (rd, came) = T) → (∀ c, 0 ≤ rd c ∧ rd c ≤ 1) → 0 ≤ came → came ≤ i → RW (KI l G 2 mX9_road n ρ Q) (0, 0, n, ρ) (sr (sr (sr σ 58 D) 59 wy) 41 rd) 135 [rf G 38, iv fr, iv to, iv (K + 1 : Nat), iv y4, iv y5, iv came, iv i] [] := by
    intro fr to D wy T K it pre hit hK hKf hne hall hfin m
    induction m with
    | zero =>
      intro i rd came y4 y5 hi hgo hgo2 hrd h0 hc
      have e : i = K + 1 := by omega
      subst e
      refine r_iload dX9_road_135 rfl ?_
      refine r_iload_n dX9_road_137 rfl ?_
      refine r_icmpge (tgt := 185) dX9_road_138 rfl (by omega) (by omega) (fun h138 => ?_) (fun h138 => ?_)
      · refine r_aloadk_n dX9_road_185 rfl ?_
        refine r_dup dX9_road_186 rfl ?_
        refine r_geti dX9_road_187 fl_X9_136 rfl rfl (hs.lt rfl) ?_
        refine r_bipush dX9_road_190 ?_
        refine r_iload dX9_road_192 rfl ?_
        refine r_imul dX9_road_194 ?_
        refine r_iadd dX9_road_195 ?_
        refine r_puti dX9_road_196 fl_X9_136 rfl (hs.lt rfl) ?_
        refine r_iload dX9_road_199 rfl ?_
        exact r_ireti dX9_road_201 rfl ⟨_, rfl, hfin rd came (hgo2 rfl) hrd h0 (by omega)⟩
      · omega
    | succ m ih =>
      intro i rd came y4 y5 hi hgo hgo2 hrd h0 hc
      have hal := hall i (by omega)
      have hgo := hgo (by omega)
      rw [show W * H - i = (W * H - (i + 1)) + 1 by omega] at hgo
      have hgo : (if it i = fr then (ud rd (it i) 1, came + bi (¬ rd (it i) = 1)) else roadGo pre fr (W * H - (i + 1)) (pre (it i)) (ud rd (it i) 1) (came + bi (¬ rd (it i) = 1))) = T := hgo
      have hri := hrd (it i)
      have hrd' : ∀ c, 0 ≤ ud rd (it i) 1 c ∧ ud rd (it i) 1 c ≤ 1 := fun c => by have := hrd c; unfold ud; split <;> omega
      have fin : ∀ z : Int, z = came + bi (¬ rd (it i) = 1) → RW (KI l G 2 mX9_road n ρ Q) (0, 0, n, ρ) (sr (sr (sr σ 58 D) 59 wy) 41 (ud rd (it i) 1)) 135 [rf G 38, iv fr, iv to, iv (K + 1 : Nat), iv y4, iv y5, iv z, iv (i + 1 : Nat)] [] := by
        intro z hz
        have hb := bi_01 (¬ rd (it i) = 1)
        rw [← hz] at hgo
        refine ih (i + 1) _ z _ _ (by omega) (fun hik => ?_) (fun hik => ?_) hrd' (by omega) (by omega)
        · rw [if_neg (hne i (by omega)), ← hit] at hgo
          exact hgo
        · rw [if_pos (by rw [show i = K by omega]; exact hKf)] at hgo
          exact hgo
      refine r_iload dX9_road_135 rfl ?_
      refine r_iload_n dX9_road_137 rfl ?_
      refine r_icmpge (tgt := 185) dX9_road_138 rfl (by omega) (by omega) (fun h138 => ?_) (fun h138 => ?_)
      · omega
      · refine r_iload dX9_road_141 rfl ?_
        refine r_aloadk_n dX9_road_143 rfl ?_
        refine r_getr dX9_road_144 fl_X9_23 rfl rfl (hs.lt rfl) (hs.rf rfl) ?_
        refine r_aloadk_n dX9_road_147 rfl ?_
        refine r_getr dX9_road_148 fl_X9_87 rfl rfl (hs.lt rfl) (hs.rf rfl) ?_
        refine r_iload dX9_road_151 rfl ?_
        refine r_iald dX9_road_153 rfl (hs.lt rfl) rfl (by omega) ?_
        rw [show sr (sr (sr σ 58 D) 59 wy) 41 rd 59 i = (it i : Int) from hal.2]
        refine r_zald dX9_road_154 rfl (hs.lt rfl) rfl (by omega) ?_
        refine r_ifeq (tgt := 162) dX9_road_155 rfl (by show R32 (rd (it i)); omega) (fun h155 => ?_) (fun h155 => ?_)
        · refine r_iconst dX9_road_162 ?_
          refine r_iadd dX9_road_163 ?_
          refine r_istore dX9_road_164 (Nat.le_of_ble_eq_true rfl) rfl s6 ?_
          refine r_aloadk_n dX9_road_166 rfl ?_
          refine r_getr dX9_road_167 fl_X9_23 rfl rfl (hs.lt rfl) (hs.rf rfl) ?_
          refine r_aloadk_n dX9_road_170 rfl ?_
          refine r_getr dX9_road_171 fl_X9_87 rfl rfl (hs.lt rfl) (hs.rf rfl) ?_
          refine r_iload dX9_road_174 rfl ?_
          refine r_iald dX9_road_176 rfl (hs.lt rfl) rfl (by omega) ?_
          rw [show sr (sr (sr σ 58 D) 59 wy) 41 rd 59 i = (it i : Int) from hal.2]
          refine r_iconst dX9_road_177 ?_
          refine r_zast dX9_road_178 rfl (hs.lt rfl) rfl (by omega) (by omega) ?_
          refine r_iinc dX9_road_179 (Nat.le_of_ble_eq_true rfl) rfl rfl s7 ?_
          refine r_goto (tgt := 135) dX9_road_182 rfl ?_
          rw [up_sr]
          first
          | exact fin _ (by have h155' : rd (it i) = 0 := h155; rw [bi_t (by omega)])
          | exact fin _ (by have h155' : ¬ rd (it i) = 0 := h155; rw [bi_f (by omega)])
        · refine r_iconst dX9_road_158 ?_
          refine r_goto (tgt := 163) dX9_road_159 rfl ?_
          refine r_iadd dX9_road_163 ?_
          refine r_istore dX9_road_164 (Nat.le_of_ble_eq_true rfl) rfl s6 ?_
          refine r_aloadk_n dX9_road_166 rfl ?_
          refine r_getr dX9_road_167 fl_X9_23 rfl rfl (hs.lt rfl) (hs.rf rfl) ?_
          refine r_aloadk_n dX9_road_170 rfl ?_
          refine r_getr dX9_road_171 fl_X9_87 rfl rfl (hs.lt rfl) (hs.rf rfl) ?_
          refine r_iload dX9_road_174 rfl ?_
          refine r_iald dX9_road_176 rfl (hs.lt rfl) rfl (by omega) ?_
          rw [show sr (sr (sr σ 58 D) 59 wy) 41 rd 59 i = (it i : Int) from hal.2]
          refine r_iconst dX9_road_177 ?_
          refine r_zast dX9_road_178 rfl (hs.lt rfl) rfl (by omega) (by omega) ?_
          refine r_iinc dX9_road_179 (Nat.le_of_ble_eq_true rfl) rfl rfl s7 ?_
          refine r_goto (tgt := 135) dX9_road_182 rfl ?_
          rw [up_sr]
          first
          | exact fin _ (by have h155' : rd (it i) = 0 := h155; rw [bi_t (by omega)])
          | exact fin _ (by have h155' : ¬ rd (it i) = 0 := h155; rw [bi_f (by omega)])
  have wl : ∀ (fr to : Nat) (D : Nat → Int), fr < W * H → to < W * H → (∀ j, R32 (D j)) → Sol (σ 40) (prS (σ 39) (σ 41)) W H fr D → D to < FARV → (∀ (wy rd : Nat → Int) z, (∀ j, R32 (wy j)) → (rd, z) = roadGo (fun c => (befS D (prS (σ 39) (σ 41)) W H c).toNat) fr (W * H) to (σ 41) 0 → (∀ c, 0 ≤ rd c ∧ rd c ≤ 1) → 0 ≤ z → z ≤ 80 → Q (up (sr (sr (sr σ 58 D) 59 wy) 41 rd) 38 6 (σ 38 6 + 10 * z)) z) → ∀ (r k : Nat) (wy : Nat → Int), (∀ j, R32 (wy j)) → (∀ i, i ≤ k → itW (fun c => (befS D (prS (σ 39) (σ 41)) W H c).toNat) to i < W * H) → (∀ i, i < k → wy i = itW (fun c => (befS D (prS (σ 39) (σ 41)) W H c).toNat) to i ∧ itW (fun c => (befS D (prS (σ 39) (σ 41)) W H c).toNat) to i ≠ fr) → D (itW (fun c => (befS D (prS (σ 39) (σ 41)) W H c).toNat) to k) < FARV → rankS D (W * H) (itW (fun c => (befS D (prS (σ 39) (σ 41)) W H c).toNat) to k) < r → k + rankS D (W * H) (itW (fun c => (befS D (prS (σ 39) (σ 41)) W H c).toNat) to k) < (W * H : Nat) → RW (KI l G 2 mX9_road n ρ Q) (0, 0, n, ρ) (sr (sr σ 58 D) 59 wy) 79 [rf G 38, iv fr, iv to, iv k, iv (itW (fun c => (befS D (prS (σ 39) (σ 41)) W H c).toNat) to k), iv 1, xx, xx] [] := by
    intro fr to D hfr hto hD hSol hDt hfin r
    generalize hit : itW (fun c => (befS D (prS (σ 39) (σ 41)) W H c).toNat) to = it
    have it0 : it 0 = to := by rw [← hit]; rfl
    have itS : ∀ i, it (i + 1) = (befS D (prS (σ 39) (σ 41)) W H (it i)).toNat := fun i => by rw [← hit]; rfl
    induction r with
    | zero =>
      intro k wy hwy hN hk hF hr
      have := rank_N (D := D) (hN k (by omega))
      omega
    | succ r ih =>
      intro k wy hwy hN hk hF hr hkr
      have hck := hN k (Nat.le_refl _)
      have hrk := rank_N (D := D) hck
      have hwy' : ∀ j, R32 (ud wy k (it k) j) := ud_R hwy (by omega)
      have hk' : ∀ i, i < k + 1 → ud wy k (it k) i = it i := fun i hi => by
        by_cases q : i = k
        · rw [q, ud_at]
        · rw [ud_ne q]; exact (hk i (by omega)).1
      have L0 : it k = fr → RW (KI l G 2 mX9_road n ρ Q) (0, 0, n, ρ) (sr (sr σ 58 D) 59 (ud wy k (it k))) 79 [rf G 38, iv fr, iv to, iv (k + 1 : Nat), iv (it k), iv 0, xx, xx] [] := by
        intro e98
        refine r_iload dX9_road_79 rfl ?_
        refine r_ifeq (tgt := 129) dX9_road_81 rfl (by first | exact hR _ (Nat.le_of_ble_eq_true rfl) _ | omega) (fun h81 => ?_) (fun h81 => ?_)
        · refine r_iconst dX9_road_129 ?_
          refine r_istore dX9_road_130 (Nat.le_of_ble_eq_true rfl) rfl s6 ?_
          refine r_iconst dX9_road_132 ?_
          refine r_istore dX9_road_133 (Nat.le_of_ble_eq_true rfl) rfl s7 ?_
          have h := mk fr to D (ud wy k (it k)) (roadGo (fun c => (befS D (prS (σ 39) (σ 41)) W H c).toNat) fr (W * H) to (σ 41) 0) k it _ itS (by omega) e98 (fun i hi => (hk i hi).2) (fun i hi => ⟨hN i hi, hk' i (by omega)⟩) (fun rd z hT h1 h2 h3 => hfin _ rd z hwy' hT h1 h2 h3) (k + 1) 0 (σ 41) 0 (it k) 0 (by omega) (fun _ => by rw [it0]; rfl) (fun q => by omega) j5 (by omega) (by omega)
          rw [show sr (sr (sr σ 58 D) 59 (ud wy k (it k))) 41 (σ 41) = sr (sr σ 58 D) 59 (ud wy k (it k)) from sr_self (σ := sr (sr σ 58 D) 59 (ud wy k (it k))) (k := 41)] at h
          exact h
        · exact absurd rfl h81
      refine r_iload dX9_road_79 rfl ?_
      refine r_ifeq (tgt := 129) dX9_road_81 rfl (by first | exact hR _ (Nat.le_of_ble_eq_true rfl) _ | omega) (fun h81 => ?_) (fun h81 => ?_)
      · omega
      · refine r_aloadk_n dX9_road_84 rfl ?_
        refine r_getr dX9_road_85 fl_X9_87 rfl rfl (hs.lt rfl) (hs.rf rfl) ?_
        refine r_iload_n dX9_road_88 rfl ?_
        refine r_iload dX9_road_89 rfl ?_
        refine r_iast dX9_road_91 rfl (hs.lt rfl) rfl (by omega) ?_
        rw [up_sr]
        refine r_iinc dX9_road_92 (Nat.le_of_ble_eq_true rfl) rfl rfl s3 ?_
        refine r_iload dX9_road_95 rfl ?_
        refine r_iload_n dX9_road_97 rfl ?_
        refine r_icmpeq (tgt := 105) dX9_road_98 rfl (by omega) (by omega) (fun h98 => ?_) (fun h98 => ?_)
        · have e98 : it k = fr := by omega
          refine r_iconst dX9_road_105 ?_
          refine r_istore dX9_road_106 (Nat.le_of_ble_eq_true rfl) rfl s5 ?_
          refine r_iload dX9_road_108 rfl ?_
          refine r_ifeq (tgt := 122) dX9_road_110 rfl (by first | exact hR _ (Nat.le_of_ble_eq_true rfl) _ | omega) (fun h110 => ?_) (fun h110 => absurd h110 (by decide))
          refine r_iload dX9_road_122 rfl ?_
          refine r_istore dX9_road_124 (Nat.le_of_ble_eq_true rfl) rfl s4 ?_
          refine r_goto (tgt := 79) dX9_road_126 rfl ?_
          first
          | exact L0 e98
          | (refine ih (k + 1) _ hwy' (fun i hi => ?_) (fun i hi => ⟨hk' i hi, ?_⟩) (by rw [e2]; exact hb4) (by rw [e2]; omega) (by rw [e2]; omega)
             · by_cases q : i = k + 1
               · rw [q, e2]; exact hb2
               · exact hN i (by omega)
             · by_cases q : i = k
               · rw [q]; exact e98
               · exact (hk i (by omega)).2)
        · have e98 : it k ≠ fr := by omega
          obtain ⟨b, hb1, hb2, hb3, hb4⟩ := hSol.pre hW (fun c => (hpr c).1) hck hF e98
          have hpc := hpr (it k)
          have hrb := rank_lt (D := D) (N := W * H) (b := b) (c := it k) hb2 (by omega)
          have hrb0 := rank_N (D := D) hb2
          have e2 : it (k + 1) = b := by rw [itS, hb1, Int.toNat_natCast]
          have kcf : RdI l G 1 mX9_cameFrom n ρ (sr (sr σ 58 D) 59 (ud wy k (it k))) [rf G 38, iv (it k)] (it (k + 1) : Nat) := by
            have h := m_cameFrom (l := l) (G := G) (σ := sr (sr σ 58 D) 59 (ud wy k (it k))) hs ((hR.sr hD).sr hwy') g j3 j5 fr (it k) hck hSol hF e98
            rw [show (sr (sr σ 58 D) 59 (ud wy k (it k))) 58 = D from rfl, show (sr (sr σ 58 D) 59 (ud wy k (it k))) 39 = σ 39 from rfl, show (sr (sr σ 58 D) 59 (ud wy k (it k))) 41 = σ 41 from rfl, hb1, ← e2] at h
            exact h
          refine r_iconst dX9_road_101 ?_
          refine r_goto (tgt := 106) dX9_road_102 rfl ?_
          refine r_istore dX9_road_106 (Nat.le_of_ble_eq_true rfl) rfl s5 ?_
          refine r_iload dX9_road_108 rfl ?_
          refine r_ifeq (tgt := 122) dX9_road_110 rfl (by first | exact hR _ (Nat.le_of_ble_eq_true rfl) _ | omega) (fun h110 => absurd h110 (by decide)) (fun h110 => ?_)
          refine r_aloadk_n dX9_road_113 rfl ?_
          refine r_iload dX9_road_114 rfl ?_
          refine q_callVr dX9_road_116 (kcf) ml_X9_179 okX9_cameFrom rfl rfl (hs.lt rfl) rfl rfl (Nat.le_of_ble_eq_true rfl) (roomOK.of (by decide)) ⟨(Nat.le_of_ble_eq_true rfl), (Nat.le_of_ble_eq_true rfl)⟩ ?_
          refine r_goto (tgt := 124) dX9_road_119 rfl ?_
          refine r_istore dX9_road_124 (Nat.le_of_ble_eq_true rfl) rfl s4 ?_
          refine r_goto (tgt := 79) dX9_road_126 rfl ?_
          first
          | exact L0 e98
          | (refine ih (k + 1) _ hwy' (fun i hi => ?_) (fun i hi => ⟨hk' i hi, ?_⟩) (by rw [e2]; exact hb4) (by rw [e2]; omega) (by rw [e2]; omega)
             · by_cases q : i = k + 1
               · rw [q, e2]; exact hb2
               · exact hN i (by omega)
             · by_cases q : i = k
               · rw [q]; exact e98
               · exact (hk i (by omega)).2)
  refine Ct.of (L0 := [rf G 38, iv x1, iv x2, xx, xx, xx, xx, xx]) (by decide +kernel) (Nat.le_of_ble_eq_true rfl) rfl ?_
  refine r_aloadk_n dX9_road_0 rfl ?_
  refine r_iconst dX9_road_1 ?_
  refine r_puti dX9_road_2 fl_X9_133 rfl (hs.lt rfl) ?_
  rw [up_id t0]
  refine r_aloadk_n dX9_road_5 rfl ?_
  refine r_iload_n dX9_road_6 rfl ?_
  refine q_callVr dX9_road_7 (m_isCell hs g x1 h1) ml_X9_156 okX9_isCell rfl rfl (hs.lt rfl) rfl rfl (Nat.le_of_ble_eq_true rfl) (roomOK.of (by decide)) ⟨(Nat.le_of_ble_eq_true rfl), (Nat.le_of_ble_eq_true rfl)⟩ ?_
  refine r_ifeqb (tgt := 26) dX9_road_10 rfl (fun h10 => ?_) (fun h10 => ?_)
  · refine r_bipush dX9_road_26 ?_
    exact r_ireti dX9_road_28 rfl ⟨_, rfl, by rw [← hQ]; exact Or.inl ⟨by omega, rfl, rfl⟩⟩
  · refine r_aloadk_n dX9_road_13 rfl ?_
    refine r_iload_n dX9_road_14 rfl ?_
    refine q_callVr dX9_road_15 (m_isCell hs g x2 h2) ml_X9_156 okX9_isCell rfl rfl (hs.lt rfl) rfl rfl (Nat.le_of_ble_eq_true rfl) (roomOK.of (by decide)) ⟨(Nat.le_of_ble_eq_true rfl), (Nat.le_of_ble_eq_true rfl)⟩ ?_
    refine r_ifeqb (tgt := 26) dX9_road_18 rfl (fun h18 => ?_) (fun h18 => ?_)
    · refine r_bipush dX9_road_26 ?_
      exact r_ireti dX9_road_28 rfl ⟨_, rfl, by rw [← hQ]; exact Or.inl ⟨by omega, rfl, rfl⟩⟩
    · refine r_iload_n dX9_road_21 rfl ?_
      refine r_iload_n dX9_road_22 rfl ?_
      refine r_icmpne (tgt := 29) dX9_road_23 rfl (by first | exact hR _ (Nat.le_of_ble_eq_true rfl) _ | omega) (by first | exact hR _ (Nat.le_of_ble_eq_true rfl) _ | omega) (fun h23 => ?_) (fun h23 => ?_)
      · obtain ⟨a, ha⟩ : ∃ a : Nat, x1 = a := ⟨x1.toNat, by omega⟩
        obtain ⟨b, hb⟩ : ∃ b : Nat, x2 = b := ⟨x2.toNat, by omega⟩
        subst ha
        subst hb
        refine r_aloadk_n dX9_road_29 rfl ?_
        refine r_getr dX9_road_30 fl_X9_20 rfl rfl (hs.lt rfl) (hs.rf rfl) ?_
        refine r_iload_n dX9_road_33 rfl ?_
        refine r_iald dX9_road_34 rfl (hs.lt rfl) rfl (by omega) ?_
        refine r_iconst dX9_road_35 ?_
        refine r_icmpeq (tgt := 49) dX9_road_36 rfl (by first | exact hR _ (Nat.le_of_ble_eq_true rfl) _ | omega) (by first | exact hR _ (Nat.le_of_ble_eq_true rfl) _ | omega) (fun h36 => ?_) (fun h36 => ?_)
        · refine r_bipush dX9_road_49 ?_
          exact r_ireti dX9_road_51 rfl ⟨_, rfl, by rw [← hQ]; exact Or.inr (Or.inl ⟨⟨h10, h18, h23⟩, by first | exact Or.inl h36 | exact Or.inr h46, rfl, rfl⟩)⟩
        · refine r_aloadk_n dX9_road_39 rfl ?_
          refine r_getr dX9_road_40 fl_X9_20 rfl rfl (hs.lt rfl) (hs.rf rfl) ?_
          refine r_iload_n dX9_road_43 rfl ?_
          refine r_iald dX9_road_44 rfl (hs.lt rfl) rfl (by omega) ?_
          refine r_iconst dX9_road_45 ?_
          refine r_icmpne (tgt := 52) dX9_road_46 rfl (by first | exact hR _ (Nat.le_of_ble_eq_true rfl) _ | omega) (by first | exact hR _ (Nat.le_of_ble_eq_true rfl) _ | omega) (fun h46 => ?_) (fun h46 => ?_)
          · refine r_aloadk_n dX9_road_52 rfl ?_
            refine r_iload_n dX9_road_53 rfl ?_
            refine q_callVv dX9_road_54 (m_findPrices hs hR g j3 j5 a (by omega) h36) ml_X9_175 okX9_findPrices rfl rfl (hs.lt rfl) rfl rfl (Nat.le_of_ble_eq_true rfl) (roomOK.of (by decide)) ⟨(Nat.le_of_ble_eq_true rfl), (Nat.le_of_ble_eq_true rfl)⟩ (fun σ1 hq1 => ?_)
            obtain ⟨D, hD, hSol, rfl⟩ := hq1
            have hDt := hSol.2.1 b (by omega)
            refine r_aloadk_n dX9_road_57 rfl ?_
            refine r_getr dX9_road_58 fl_X9_84 rfl rfl (hs.lt rfl) (hs.rf rfl) ?_
            refine r_iload_n dX9_road_61 rfl ?_
            refine r_iald dX9_road_62 rfl (hs.lt rfl) rfl (by omega) ?_
            refine r_ldc dX9_road_63 k_X9_171 ?_
            refine r_icmpne (tgt := 71) dX9_road_65 rfl (hD b) (by omega) (fun h65 => ?_) (fun h65 => ?_)
            · have h65' : ¬ D b = FARV := h65
              refine r_iconst dX9_road_71 ?_
              refine r_istore_n dX9_road_72 (Nat.le_of_ble_eq_true rfl) rfl s3 ?_
              refine r_iload_n dX9_road_73 rfl ?_
              refine r_istore dX9_road_74 (Nat.le_of_ble_eq_true rfl) rfl s4 ?_
              refine r_iconst dX9_road_76 ?_
              refine r_istore dX9_road_77 (Nat.le_of_ble_eq_true rfl) rfl s5 ?_
              have hrt := rank_N (D := D) (show b < W * H by omega)
              have h := wl a b D (by omega) (by omega) hD hSol (by omega) (fun wy rd z hwy hT q1 q2 q3 => by rw [← hQ]; exact Or.inr (Or.inr ⟨⟨h10, h18, h23⟩, (fun q => q.elim h36 h46), D, wy, hD, hwy, hSol, Or.inr ⟨show D b < FARV by omega, rd, hT, q1, q2, q3, rfl⟩⟩)) (W * H) 0 (σ 59) (hR 59 (by decide)) (fun i hi => by rw [show i = 0 by omega]; show b < W * H; omega) (fun i hi => by omega) (show D b < FARV by omega) (show rankS D (W * H) b < _ by omega) (show ((0 : Nat) : Int) + rankS D (W * H) b < _ by omega)
              rw [show sr (sr σ 58 D) 59 (σ 59) = sr σ 58 D from sr_self (σ := sr σ 58 D) (k := 59)] at h
              exact h
            · refine r_bipush dX9_road_68 ?_
              exact r_ireti dX9_road_70 rfl ⟨_, rfl, by rw [← hQ]; exact Or.inr (Or.inr ⟨⟨h10, h18, h23⟩, (fun q => q.elim h36 h46), D, D, hD, hD, hSol, Or.inl ⟨h65, rfl, rfl⟩⟩)⟩
          · refine r_bipush dX9_road_49 ?_
            exact r_ireti dX9_road_51 rfl ⟨_, rfl, by rw [← hQ]; exact Or.inr (Or.inl ⟨⟨h10, h18, h23⟩, by first | exact Or.inl h36 | exact Or.inr h46, rfl, rfl⟩)⟩
      · refine r_bipush dX9_road_26 ?_
        exact r_ireti dX9_road_28 rfl ⟨_, rfl, by rw [← hQ]; exact Or.inl ⟨by omega, rfl, rfl⟩⟩
end Model6
