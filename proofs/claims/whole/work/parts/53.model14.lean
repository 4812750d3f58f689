/-! MODEL: goodOf, good, farOf, hedgeOf, plot, fine, count -/
theorem npF_t {W : Nat} {us rd : Nat → Int} {s c : Nat} : npF W us rd s c = true ↔ (inS W s c ∧ ¬ (¬ us c = 2 ∧ rd c = 0)) := by unfold npF; exact decide_eq_true_iff
theorem ahF_t {W : Nat} {sh : Nat → Int} {s p c : Nat} : ahF W sh s p c = true ↔ (inS W s c ∧ anyN (aheadF W sh c) p = true) := by unfold ahF; exact decide_eq_true_iff
theorem brF_t {W H : Nat} {rd : Nat → Int} {s c : Nat} : brF W H rd s c = true ↔ (inS W s c ∧ anyN (besF rd W H c) 4 = true) := by unfold brF; exact decide_eq_true_iff
theorem any_s {f : Nat → Bool} {i : Nat} : anyN f (i + 1) = true ↔ anyN f i = true ∨ f i = true := by
  show (anyN f i || f i) = true ↔ _
  rw [Bool.or_eq_true]
theorem any_f {f : Nat → Bool} {i : Nat} : anyN f (i + 1) = false ↔ anyN f i = false ∧ ¬ f i = true := by
  show (anyN f i || f i) = false ↔ _
  rw [Bool.or_eq_false_iff, Bool.not_eq_true]
theorem bi_1 {P : Prop} [Decidable P] : bi P = 1 ↔ P := ⟨fun h => Classical.byContradiction (fun q => by rw [bi_f q] at h; omega), fun h => bi_t h⟩
theorem bi_0 {P : Prop} [Decidable P] : bi P = 0 ↔ ¬ P := ⟨fun h q => by rw [bi_t q] at h; omega, fun h => bi_f h⟩
theorem ite_iff {P Q : Prop} [Decidable P] [Decidable Q] {a b : Int} (h : P ↔ Q) : (if P then a else b) = (if Q then a else b) := by
  by_cases q : P
  · rw [if_pos q, if_pos (h.mp q)]
  · rw [if_neg q, if_neg (fun z => q (h.mpr z))]
section Model14
variable {l : Launch} {G : GG} {n : Nat} {ρ : Rho} {σ : Si} {W H P C O : Nat}
set_option maxHeartbeats 8000000 in
theorem m_goodOf (hs : Std n ρ) (hR : Rg σ) (g : GeoM σ W H) (hpl : PlM σ W H P) (hP8 : P ≤ 8) (hso : ∀ c, 0 ≤ σ 39 c ∧ σ 39 c ≤ 9) (hrd : ∀ c, 0 ≤ σ 41 c ∧ σ 41 c ≤ 1) (p s : Nat) (hp : p < P) (h0 : ¬ σ 55 p = 0) (hsh : shM σ p = s) (due : Int) (hdu : 0 ≤ due ∧ due < 1000000) (hsl : 0 ≤ σ 38 26 ∧ σ 38 26 ≤ 50) : RdI l G 3 mX9_goodOf n ρ σ [rf G 38, iv p, iv due] (fauS W H (σ 39) (σ 40) (σ 41) (shM σ) s p due (σ 38 26)) := by
  have hle := WH_le g.2.2.1.2 g.2.2.2.2
  obtain ⟨g1, g2, g3, g4⟩ := id g
  have hwr := worS_r (W := W) (so := σ 39) (s := s) (N := W * H) hso
  obtain ⟨a, w, v, ea, ew, ev, ha, hw, hv, hsh', q1, q2, q3⟩ := hpl.get hp hle h0
  have es : 256 * a + 16 * w + v = s := by rw [hsh] at hsh'; omega
  rw [es] at q1 q2 q3
  have p5 := Nat.mod_lt a (show 0 < W by omega)
  have p6 : a / W < H := Nat.div_lt_of_lt_mul ha
  have hins : insideS W H s ↔ (a % W + w ≤ W ∧ a / W + v ≤ H) := by unfold insideS; rw [q1, q2, q3]
  generalize hax : a % W = ax at p5 hins
  generalize hay : a / W = ay at p6 hins
  have loop : ∀ (m i : Nat) (wi pl ah rd : Int), i + m = W * H → wi = bi (insideS W H s) → pl = bi (anyN (npF W (σ 40) (σ 41) s) i = false) → ah = bi (anyN (ahF W (shM σ) s p) i = true) → rd = bi (anyN (brF W H (σ 41) s) i = true) → RW (KI l G 3 mX9_goodOf n ρ (fun σ' z => σ' = σ ∧ z = fauS W H (σ 39) (σ 40) (σ 41) (shM σ) s p due (σ 38 26))) (0, 0, n, ρ) σ 68 [rf G 38, iv p, iv due, iv wi, iv pl, iv ah, iv rd, iv i] [] := by
    intro m
    induction m with
    | zero =>
      intro i wi pl ah rd hi hwi hpl' hah hrd'
      have e : i = W * H := by omega
      subst e
      have r0 := bi_01 (insideS W H s)
      have r1 := bi_01 (anyN (npF W (σ 40) (σ 41) s) (W * H) = false)
      have r2 := bi_01 (anyN (ahF W (shM σ) s p) (W * H) = true)
      have r3 := bi_01 (anyN (brF W H (σ 41) s) (W * H) = true)
      have i0 : ¬ insideS W H s ↔ wi = 0 := by rw [hwi, bi_0]
      have i1 : anyN (npF W (σ 40) (σ 41) s) (W * H) = true ↔ pl = 0 := by rw [hpl', bi_0, Bool.not_eq_false]
      have i2 : anyN (ahF W (shM σ) s p) (W * H) = true ↔ ¬ ah = 0 := by rw [hah, bi_0, Classical.not_not]
      have i3 : anyN (brF W H (σ 41) s) (W * H) = true ↔ ¬ rd = 0 := by rw [hrd', bi_0, Classical.not_not]
      have ef : fauS W H (σ 39) (σ 40) (σ 41) (shM σ) s p due (σ 38 26) = (if wi = 0 then 1 else if pl = 0 then 1 else if ¬ ah = 0 then 2 else if σ 38 26 < (if 0 ≤ worS W (σ 39) s (W * H) - due then worS W (σ 39) s (W * H) - due else -(worS W (σ 39) s (W * H) - due)) then 3 else if ¬ rd = 0 then 0 else 4) := by
        unfold fauS
        rw [ite_iff i0, ite_iff i1, ite_iff i2, ite_iff i3]
      rw [ef]
      refine r_iload dX9_goodOf_68 rfl ?_
      refine r_aloadk_n dX9_goodOf_70 rfl ?_
      refine q_callVr dX9_goodOf_71 (m_cells hs g) ml_X9_148 okX9_cells rfl rfl (hs.lt rfl) rfl rfl (Nat.le_of_ble_eq_true rfl) (roomOK.of (by decide)) ⟨(Nat.le_of_ble_eq_true rfl), (Nat.le_of_ble_eq_true rfl)⟩ ?_
      refine r_icmpge (tgt := 157) dX9_goodOf_74 rfl (by omega) (by omega) (fun h74 => ?_) (fun h74 => ?_)
      · refine r_aloadk_n dX9_goodOf_157 rfl ?_
        refine r_iload_n dX9_goodOf_158 rfl ?_
        refine q_callVr dX9_goodOf_159 (m_worthOf hs hR g hpl hP8 hso p s hp hsh) ml_X9_259 okX9_worthOf rfl rfl (hs.lt rfl) rfl rfl (Nat.le_of_ble_eq_true rfl) (roomOK.of (by decide)) ⟨(Nat.le_of_ble_eq_true rfl), (Nat.le_of_ble_eq_true rfl)⟩ ?_
        refine r_iload_n dX9_goodOf_162 rfl ?_
        refine r_isub dX9_goodOf_163 ?_
        refine r_istore dX9_goodOf_164 (Nat.le_of_ble_eq_true rfl) rfl s7 ?_
        refine r_iload_n dX9_goodOf_166 rfl ?_
        refine r_ifeq (tgt := 175) dX9_goodOf_167 rfl (by omega) (fun h167 => ?_) (fun h167 => ?_)
        · refine r_iconst dX9_goodOf_175 ?_
          refine r_goto (tgt := 221) dX9_goodOf_176 rfl ?_
          exact r_ireti dX9_goodOf_221 rfl ⟨_, rfl, rfl, by (repeat' split) <;> omega⟩
        · refine r_iload dX9_goodOf_170 rfl ?_
          refine r_ifne (tgt := 179) dX9_goodOf_172 rfl (by omega) (fun h172 => ?_) (fun h172 => ?_)
          · refine r_iload dX9_goodOf_179 rfl ?_
            refine r_ifeq (tgt := 188) dX9_goodOf_181 rfl (by omega) (fun h181 => ?_) (fun h181 => ?_)
            · refine r_iload dX9_goodOf_188 rfl ?_
              refine r_aloadk_n dX9_goodOf_190 rfl ?_
              refine r_geti dX9_goodOf_191 fl_X9_69 rfl rfl (hs.lt rfl) ?_
              refine r_icmpgt (tgt := 207) dX9_goodOf_194 rfl (by omega) (by omega) (fun h194 => ?_) (fun h194 => ?_)
              · refine r_iconst dX9_goodOf_207 ?_
                refine r_goto (tgt := 221) dX9_goodOf_208 rfl ?_
                exact r_ireti dX9_goodOf_221 rfl ⟨_, rfl, rfl, by (repeat' split) <;> omega⟩
              · refine r_iload dX9_goodOf_197 rfl ?_
                refine r_ineg dX9_goodOf_199 ?_
                refine r_aloadk_n dX9_goodOf_200 rfl ?_
                refine r_geti dX9_goodOf_201 fl_X9_69 rfl rfl (hs.lt rfl) ?_
                refine r_icmple (tgt := 211) dX9_goodOf_204 rfl (by omega) (by omega) (fun h204 => ?_) (fun h204 => ?_)
                · refine r_iload dX9_goodOf_211 rfl ?_
                  refine r_ifeq (tgt := 220) dX9_goodOf_213 rfl (by omega) (fun h213 => ?_) (fun h213 => ?_)
                  · refine r_iconst dX9_goodOf_220 ?_
                    exact r_ireti dX9_goodOf_221 rfl ⟨_, rfl, rfl, by (repeat' split) <;> omega⟩
                  · refine r_iconst dX9_goodOf_216 ?_
                    refine r_goto (tgt := 221) dX9_goodOf_217 rfl ?_
                    exact r_ireti dX9_goodOf_221 rfl ⟨_, rfl, rfl, by (repeat' split) <;> omega⟩
                · refine r_iconst dX9_goodOf_207 ?_
                  refine r_goto (tgt := 221) dX9_goodOf_208 rfl ?_
                  exact r_ireti dX9_goodOf_221 rfl ⟨_, rfl, rfl, by (repeat' split) <;> omega⟩
            · refine r_iconst dX9_goodOf_184 ?_
              refine r_goto (tgt := 221) dX9_goodOf_185 rfl ?_
              exact r_ireti dX9_goodOf_221 rfl ⟨_, rfl, rfl, by (repeat' split) <;> omega⟩
          · refine r_iconst dX9_goodOf_175 ?_
            refine r_goto (tgt := 221) dX9_goodOf_176 rfl ?_
            exact r_ireti dX9_goodOf_221 rfl ⟨_, rfl, rfl, by (repeat' split) <;> omega⟩
      · omega
    | succ m ih =>
      intro i wi pl ah rd hi hwi hpl' hah hrd'
      have r1 := bi_01 (anyN (npF W (σ 40) (σ 41) s) i = false)
      have r2 := bi_01 (anyN (ahF W (shM σ) s p) i = true)
      have r3 := bi_01 (anyN (brF W H (σ 41) s) i = true)
      have nx : ∀ pl' ah' rd' : Int, (pl' = bi (anyN (npF W (σ 40) (σ 41) s) (i + 1) = false)) → (ah' = bi (anyN (ahF W (shM σ) s p) (i + 1) = true)) → (rd' = bi (anyN (brF W H (σ 41) s) (i + 1) = true)) → RW (KI l G 3 mX9_goodOf n ρ (fun σ' z => σ' = σ ∧ z = fauS W H (σ 39) (σ 40) (σ 41) (shM σ) s p due (σ 38 26))) (0, 0, n, ρ) σ 68 [rf G 38, iv p, iv due, iv wi, iv pl', iv ah', iv rd', iv (i + 1 : Nat)] [] := fun pl' ah' rd' e1 e2 e3 => ih (i + 1) wi pl' ah' rd' (by omega) hwi e1 e2 e3
      have L130 : inS W s i → ∀ pl' ah' : Int, (pl' = bi (anyN (npF W (σ 40) (σ 41) s) (i + 1) = false)) → (ah' = bi (anyN (ahF W (shM σ) s p) (i + 1) = true)) → RW (KI l G 3 mX9_goodOf n ρ (fun σ' z => σ' = σ ∧ z = fauS W H (σ 39) (σ 40) (σ 41) (shM σ) s p due (σ 38 26))) (0, 0, n, ρ) σ 130 [rf G 38, iv p, iv due, iv wi, iv pl', iv ah', iv rd, iv i] [] := by
        intro hin pl' ah' e1 e2
        refine r_iload dX9_goodOf_130 rfl ?_
        refine r_ifne (tgt := 144) dX9_goodOf_132 rfl (by omega) (fun h132 => ?_) (fun h132 => ?_)
        · refine r_iconst dX9_goodOf_144 ?_
          refine r_goto (tgt := 149) dX9_goodOf_145 rfl ?_
          refine r_istore dX9_goodOf_149 (Nat.le_of_ble_eq_true rfl) rfl s6 ?_
          refine r_iinc dX9_goodOf_151 (Nat.le_of_ble_eq_true rfl) rfl rfl s7 ?_
          refine r_goto (tgt := 68) dX9_goodOf_154 rfl ?_
          refine nx _ _ _ e1 e2 ?_
          rw [bi_iff any_s, bi_iff (show (anyN (brF W H (σ 41) s) i = true ∨ brF W H (σ 41) s i = true) ↔ (rd = 1 ∨ anyN (besF (σ 41) W H i) 4 = true) by rw [brF_t, hrd', bi_1]; exact ⟨fun q => q.elim Or.inl (fun q => Or.inr q.2), fun q => q.elim Or.inl (fun q => Or.inr ⟨hin, q⟩)⟩)]
          first
          | exact (bi_t (Or.inl (by omega))).symm
          | exact (bi_t (Or.inr h141)).symm
          | exact (bi_f (fun q => q.elim (fun q => by omega) h141)).symm
        · refine r_aloadk_n dX9_goodOf_135 rfl ?_
          refine r_iload dX9_goodOf_136 rfl ?_
          refine q_callVr dX9_goodOf_138 (m_isByRoad hs hR g hrd i (by omega)) ml_X9_256 okX9_isByRoad rfl rfl (hs.lt rfl) rfl rfl (Nat.le_of_ble_eq_true rfl) (roomOK.of (by decide)) ⟨(Nat.le_of_ble_eq_true rfl), (Nat.le_of_ble_eq_true rfl)⟩ ?_
          refine r_ifeqb (tgt := 148) dX9_goodOf_141 rfl (fun h141 => ?_) (fun h141 => ?_)
          · refine r_iconst dX9_goodOf_148 ?_
            refine r_istore dX9_goodOf_149 (Nat.le_of_ble_eq_true rfl) rfl s6 ?_
            refine r_iinc dX9_goodOf_151 (Nat.le_of_ble_eq_true rfl) rfl rfl s7 ?_
            refine r_goto (tgt := 68) dX9_goodOf_154 rfl ?_
            refine nx _ _ _ e1 e2 ?_
            rw [bi_iff any_s, bi_iff (show (anyN (brF W H (σ 41) s) i = true ∨ brF W H (σ 41) s i = true) ↔ (rd = 1 ∨ anyN (besF (σ 41) W H i) 4 = true) by rw [brF_t, hrd', bi_1]; exact ⟨fun q => q.elim Or.inl (fun q => Or.inr q.2), fun q => q.elim Or.inl (fun q => Or.inr ⟨hin, q⟩)⟩)]
            first
            | exact (bi_t (Or.inl (by omega))).symm
            | exact (bi_t (Or.inr h141)).symm
            | exact (bi_f (fun q => q.elim (fun q => by omega) h141)).symm
          · refine r_iconst dX9_goodOf_144 ?_
            refine r_goto (tgt := 149) dX9_goodOf_145 rfl ?_
            refine r_istore dX9_goodOf_149 (Nat.le_of_ble_eq_true rfl) rfl s6 ?_
            refine r_iinc dX9_goodOf_151 (Nat.le_of_ble_eq_true rfl) rfl rfl s7 ?_
            refine r_goto (tgt := 68) dX9_goodOf_154 rfl ?_
            refine nx _ _ _ e1 e2 ?_
            rw [bi_iff any_s, bi_iff (show (anyN (brF W H (σ 41) s) i = true ∨ brF W H (σ 41) s i = true) ↔ (rd = 1 ∨ anyN (besF (σ 41) W H i) 4 = true) by rw [brF_t, hrd', bi_1]; exact ⟨fun q => q.elim Or.inl (fun q => Or.inr q.2), fun q => q.elim Or.inl (fun q => Or.inr ⟨hin, q⟩)⟩)]
            first
            | exact (bi_t (Or.inl (by omega))).symm
            | exact (bi_t (Or.inr h141)).symm
            | exact (bi_f (fun q => q.elim (fun q => by omega) h141)).symm
      have L108 : inS W s i → ∀ pl' : Int, (pl' = bi (anyN (npF W (σ 40) (σ 41) s) (i + 1) = false)) → RW (KI l G 3 mX9_goodOf n ρ (fun σ' z => σ' = σ ∧ z = fauS W H (σ 39) (σ 40) (σ 41) (shM σ) s p due (σ 38 26))) (0, 0, n, ρ) σ 108 [rf G 38, iv p, iv due, iv wi, iv pl', iv ah, iv rd, iv i] [] := by
        intro hin pl' e1
        refine r_iload dX9_goodOf_108 rfl ?_
        refine r_ifne (tgt := 123) dX9_goodOf_110 rfl (by omega) (fun h110 => ?_) (fun h110 => ?_)
        · refine r_iconst dX9_goodOf_123 ?_
          refine r_goto (tgt := 128) dX9_goodOf_124 rfl ?_
          refine r_istore dX9_goodOf_128 (Nat.le_of_ble_eq_true rfl) rfl s5 ?_
          refine L130 hin _ _ e1 ?_
          rw [bi_iff any_s, bi_iff (show (anyN (ahF W (shM σ) s p) i = true ∨ ahF W (shM σ) s p i = true) ↔ (ah = 1 ∨ anyN (aheadF W (shM σ) i) p = true) by rw [ahF_t, hah, bi_1]; exact ⟨fun q => q.elim Or.inl (fun q => Or.inr q.2), fun q => q.elim Or.inl (fun q => Or.inr ⟨hin, q⟩)⟩)]
          first
          | exact (bi_t (Or.inl (by omega))).symm
          | exact (bi_t (Or.inr h120)).symm
          | exact (bi_f (fun q => q.elim (fun q => by omega) h120)).symm
        · refine r_aloadk_n dX9_goodOf_113 rfl ?_
          refine r_iload_n dX9_goodOf_114 rfl ?_
          refine r_iload dX9_goodOf_115 rfl ?_
          refine q_callVr dX9_goodOf_117 (m_isAhead hs hR g hpl hP8 p i hp (by omega)) ml_X9_253 okX9_isAhead rfl rfl (hs.lt rfl) rfl rfl (Nat.le_of_ble_eq_true rfl) (roomOK.of (by decide)) ⟨(Nat.le_of_ble_eq_true rfl), (Nat.le_of_ble_eq_true rfl)⟩ ?_
          refine r_ifeqb (tgt := 127) dX9_goodOf_120 rfl (fun h120 => ?_) (fun h120 => ?_)
          · refine r_iconst dX9_goodOf_127 ?_
            refine r_istore dX9_goodOf_128 (Nat.le_of_ble_eq_true rfl) rfl s5 ?_
            refine L130 hin _ _ e1 ?_
            rw [bi_iff any_s, bi_iff (show (anyN (ahF W (shM σ) s p) i = true ∨ ahF W (shM σ) s p i = true) ↔ (ah = 1 ∨ anyN (aheadF W (shM σ) i) p = true) by rw [ahF_t, hah, bi_1]; exact ⟨fun q => q.elim Or.inl (fun q => Or.inr q.2), fun q => q.elim Or.inl (fun q => Or.inr ⟨hin, q⟩)⟩)]
            first
            | exact (bi_t (Or.inl (by omega))).symm
            | exact (bi_t (Or.inr h120)).symm
            | exact (bi_f (fun q => q.elim (fun q => by omega) h120)).symm
          · refine r_iconst dX9_goodOf_123 ?_
            refine r_goto (tgt := 128) dX9_goodOf_124 rfl ?_
            refine r_istore dX9_goodOf_128 (Nat.le_of_ble_eq_true rfl) rfl s5 ?_
            refine L130 hin _ _ e1 ?_
            rw [bi_iff any_s, bi_iff (show (anyN (ahF W (shM σ) s p) i = true ∨ ahF W (shM σ) s p i = true) ↔ (ah = 1 ∨ anyN (aheadF W (shM σ) i) p = true) by rw [ahF_t, hah, bi_1]; exact ⟨fun q => q.elim Or.inl (fun q => Or.inr q.2), fun q => q.elim Or.inl (fun q => Or.inr ⟨hin, q⟩)⟩)]
            first
            | exact (bi_t (Or.inl (by omega))).symm
            | exact (bi_t (Or.inr h120)).symm
            | exact (bi_f (fun q => q.elim (fun q => by omega) h120)).symm
      refine r_iload dX9_goodOf_68 rfl ?_
      refine r_aloadk_n dX9_goodOf_70 rfl ?_
      refine q_callVr dX9_goodOf_71 (m_cells hs g) ml_X9_148 okX9_cells rfl rfl (hs.lt rfl) rfl rfl (Nat.le_of_ble_eq_true rfl) (roomOK.of (by decide)) ⟨(Nat.le_of_ble_eq_true rfl), (Nat.le_of_ble_eq_true rfl)⟩ ?_
      refine r_icmpge (tgt := 157) dX9_goodOf_74 rfl (by omega) (by omega) (fun h74 => ?_) (fun h74 => ?_)
      · omega
      · refine r_aloadk_n dX9_goodOf_77 rfl ?_
        refine r_iload_n dX9_goodOf_78 rfl ?_
        refine r_iload dX9_goodOf_79 rfl ?_
        refine q_callVr dX9_goodOf_81 (m_isIn hs hR g hpl hP8 p i hp (by omega)) ml_X9_250 okX9_isIn rfl rfl (hs.lt rfl) rfl rfl (Nat.le_of_ble_eq_true rfl) (roomOK.of (by decide)) ⟨(Nat.le_of_ble_eq_true rfl), (Nat.le_of_ble_eq_true rfl)⟩ ?_
        refine r_ifeqb (tgt := 151) dX9_goodOf_84 rfl (fun h84 => ?_) (fun h84 => ?_)
        · have hin : ¬ inS W s i := fun q => h84 ((aheadM hsh).mpr q)
          refine r_iinc dX9_goodOf_151 (Nat.le_of_ble_eq_true rfl) rfl rfl s7 ?_
          refine r_goto (tgt := 68) dX9_goodOf_154 rfl ?_
          refine nx _ _ _ ?_ ?_ ?_
          · rw [hpl']; exact bi_iff (by rw [any_f]; exact ⟨fun q => ⟨q, fun z => hin (npF_t.mp z).1⟩, fun q => q.1⟩)
          · rw [hah]; exact bi_iff (by rw [any_s]; exact ⟨Or.inl, fun q => q.elim id (fun z => absurd (ahF_t.mp z).1 hin)⟩)
          · rw [hrd']; exact bi_iff (by rw [any_s]; exact ⟨Or.inl, fun q => q.elim id (fun z => absurd (brF_t.mp z).1 hin)⟩)
        · have hin : inS W s i := (aheadM hsh).mp h84
          refine r_iload dX9_goodOf_87 rfl ?_
          refine r_ifeq (tgt := 105) dX9_goodOf_89 rfl (by omega) (fun h89 => ?_) (fun h89 => ?_)
          · refine r_iconst dX9_goodOf_105 ?_
            refine r_istore dX9_goodOf_106 (Nat.le_of_ble_eq_true rfl) rfl s4 ?_
            refine L108 hin _ ?_
            rw [bi_iff any_f, bi_iff (show (anyN (npF W (σ 40) (σ 41) s) i = false ∧ ¬ npF W (σ 40) (σ 41) s i = true) ↔ (pl = 1 ∧ (¬ σ 40 i = 2 ∧ σ 41 i = 0)) by rw [npF_t, hpl', bi_1]; exact ⟨fun q => ⟨q.1, Classical.byContradiction (fun z => q.2 ⟨hin, z⟩)⟩, fun q => ⟨q.1, fun z => z.2 q.2⟩⟩)]
            first
            | exact (bi_f (fun q => by omega)).symm
            | exact (bi_t ⟨by omega, h98⟩).symm
            | exact (bi_f (fun q => h98 q.2)).symm
          · refine r_aloadk_n dX9_goodOf_92 rfl ?_
            refine r_iload dX9_goodOf_93 rfl ?_
            refine q_callVr dX9_goodOf_95 (m_isPlain hs hR i (by omega)) ml_X9_214 okX9_isPlain rfl rfl (hs.lt rfl) rfl rfl (Nat.le_of_ble_eq_true rfl) (roomOK.of (by decide)) ⟨(Nat.le_of_ble_eq_true rfl), (Nat.le_of_ble_eq_true rfl)⟩ ?_
            refine r_ifeqb (tgt := 105) dX9_goodOf_98 rfl (fun h98 => ?_) (fun h98 => ?_)
            · refine r_iconst dX9_goodOf_105 ?_
              refine r_istore dX9_goodOf_106 (Nat.le_of_ble_eq_true rfl) rfl s4 ?_
              refine L108 hin _ ?_
              rw [bi_iff any_f, bi_iff (show (anyN (npF W (σ 40) (σ 41) s) i = false ∧ ¬ npF W (σ 40) (σ 41) s i = true) ↔ (pl = 1 ∧ (¬ σ 40 i = 2 ∧ σ 41 i = 0)) by rw [npF_t, hpl', bi_1]; exact ⟨fun q => ⟨q.1, Classical.byContradiction (fun z => q.2 ⟨hin, z⟩)⟩, fun q => ⟨q.1, fun z => z.2 q.2⟩⟩)]
              first
              | exact (bi_f (fun q => by omega)).symm
              | exact (bi_t ⟨by omega, h98⟩).symm
              | exact (bi_f (fun q => h98 q.2)).symm
            · refine r_iconst dX9_goodOf_101 ?_
              refine r_goto (tgt := 106) dX9_goodOf_102 rfl ?_
              refine r_istore dX9_goodOf_106 (Nat.le_of_ble_eq_true rfl) rfl s4 ?_
              refine L108 hin _ ?_
              rw [bi_iff any_f, bi_iff (show (anyN (npF W (σ 40) (σ 41) s) i = false ∧ ¬ npF W (σ 40) (σ 41) s i = true) ↔ (pl = 1 ∧ (¬ σ 40 i = 2 ∧ σ 41 i = 0)) by rw [npF_t, hpl', bi_1]; exact ⟨fun q => ⟨q.1, Classical.byContradiction (fun z => q.2 ⟨hin, z⟩)⟩, fun q => ⟨q.1, fun z => z.2 q.2⟩⟩)]
              first
              | exact (bi_f (fun q => by omega)).symm
              | exact (bi_t ⟨by omega, h98⟩).symm
              | exact (bi_f (fun q => h98 q.2)).symm
  have L55 : ∀ wi : Int, wi = bi (insideS W H s) → RW (KI l G 3 mX9_goodOf n ρ (fun σ' z => σ' = σ ∧ z = fauS W H (σ 39) (σ 40) (σ 41) (shM σ) s p due (σ 38 26))) (0, 0, n, ρ) σ 55 [rf G 38, iv p, iv due, xx, xx, xx, xx, xx] [iv wi] := by
    intro wi hwi
    refine r_istore_n dX9_goodOf_55 (Nat.le_of_ble_eq_true rfl) rfl s3 ?_
    refine r_iconst dX9_goodOf_56 ?_
    refine r_istore dX9_goodOf_57 (Nat.le_of_ble_eq_true rfl) rfl s4 ?_
    refine r_iconst dX9_goodOf_59 ?_
    refine r_istore dX9_goodOf_60 (Nat.le_of_ble_eq_true rfl) rfl s5 ?_
    refine r_iconst dX9_goodOf_62 ?_
    refine r_istore dX9_goodOf_63 (Nat.le_of_ble_eq_true rfl) rfl s6 ?_
    refine r_iconst dX9_goodOf_65 ?_
    refine r_istore dX9_goodOf_66 (Nat.le_of_ble_eq_true rfl) rfl s7 ?_
    exact loop (W * H) 0 wi 1 0 0 (by omega) hwi rfl rfl rfl
  refine Ct.of (L0 := [rf G 38, iv p, iv due, xx, xx, xx, xx, xx]) (by decide +kernel) (Nat.le_of_ble_eq_true rfl) rfl ?_
  refine r_aloadk_n dX9_goodOf_0 rfl ?_
  refine r_getr dX9_goodOf_1 fl_X9_72 rfl rfl (hs.lt rfl) (hs.rf rfl) ?_
  refine r_iload_n dX9_goodOf_4 rfl ?_
  refine r_iald dX9_goodOf_5 rfl (hs.lt rfl) rfl (by omega) ?_
  refine r_aloadk_n dX9_goodOf_6 rfl ?_
  refine r_geti dX9_goodOf_7 fl_X9_7 rfl rfl (hs.lt rfl) ?_
  refine r_irem dX9_goodOf_10 (by omega) (by omega) ?_
  rw [show iv (σ 54 p % σ 38 1) = iv (ax : Int) by rw [g1, ea, ← hax]; rfl]
  refine r_aloadk_n dX9_goodOf_11 rfl ?_
  refine r_getr dX9_goodOf_12 fl_X9_75 rfl rfl (hs.lt rfl) (hs.rf rfl) ?_
  refine r_iload_n dX9_goodOf_15 rfl ?_
  refine r_iald dX9_goodOf_16 rfl (hs.lt rfl) rfl (by omega) ?_
  refine r_iadd dX9_goodOf_17 ?_
  refine r_aloadk_n dX9_goodOf_18 rfl ?_
  refine r_geti dX9_goodOf_19 fl_X9_7 rfl rfl (hs.lt rfl) ?_
  refine r_icmpgt (tgt := 54) dX9_goodOf_22 rfl (by omega) (by omega) (fun h22 => ?_) (fun h22 => ?_)
  · refine r_iconst dX9_goodOf_54 ?_
    refine L55 _ ?_
    rw [bi_iff hins]
    unfold bi
    split <;> omega
  · refine r_aloadk_n dX9_goodOf_25 rfl ?_
    refine r_getr dX9_goodOf_26 fl_X9_72 rfl rfl (hs.lt rfl) (hs.rf rfl) ?_
    refine r_iload_n dX9_goodOf_29 rfl ?_
    refine r_iald dX9_goodOf_30 rfl (hs.lt rfl) rfl (by omega) ?_
    refine r_aloadk_n dX9_goodOf_31 rfl ?_
    refine r_geti dX9_goodOf_32 fl_X9_7 rfl rfl (hs.lt rfl) ?_
    refine r_idiv dX9_goodOf_35 (by omega) (by omega) ?_
    rw [show iv (σ 54 p / σ 38 1) = iv (ay : Int) by rw [g1, ea, ← hay]; rfl]
    refine r_aloadk_n dX9_goodOf_36 rfl ?_
    refine r_getr dX9_goodOf_37 fl_X9_78 rfl rfl (hs.lt rfl) (hs.rf rfl) ?_
    refine r_iload_n dX9_goodOf_40 rfl ?_
    refine r_iald dX9_goodOf_41 rfl (hs.lt rfl) rfl (by omega) ?_
    refine r_iadd dX9_goodOf_42 ?_
    refine r_aloadk_n dX9_goodOf_43 rfl ?_
    refine r_geti dX9_goodOf_44 fl_X9_13 rfl rfl (hs.lt rfl) ?_
    refine r_icmpgt (tgt := 54) dX9_goodOf_47 rfl (by omega) (by omega) (fun h47 => ?_) (fun h47 => ?_)
    · refine r_iconst dX9_goodOf_54 ?_
      refine L55 _ ?_
      rw [bi_iff hins]
      unfold bi
      split <;> omega
    · refine r_iconst dX9_goodOf_50 ?_
      refine r_goto (tgt := 55) dX9_goodOf_51 rfl ?_
      refine L55 _ ?_
      rw [bi_iff hins]
      unfold bi
      split <;> omega
theorem m_good (hs : Std n ρ) (hJ : JM σ W H P C O) (x1 x2 : Int) (h1 : R32 x1) (h2 : R32 x2) : CtI l G 6 mX9_good n ρ σ [rf G 38, iv x1, iv x2] (fun σ' z => (¬ ((0 ≤ x1 ∧ x1 < (P : Int)) ∧ (0 ≤ x2 ∧ x2 ≤ 999)) ∧ z = -3 ∧ σ' = σ) ∨ (((0 ≤ x1 ∧ x1 < (P : Int)) ∧ (0 ≤ x2 ∧ x2 ≤ 999)) ∧ shM σ x1.toNat = -1 ∧ z = -1 ∧ σ' = σ) ∨ (((0 ≤ x1 ∧ x1 < (P : Int)) ∧ (0 ≤ x2 ∧ x2 ≤ 999)) ∧ ¬ shM σ x1.toNat = -1 ∧ MF σ σ' ∧ z = fauS W H (σ 39) (σ 40) (σ 41) (shM σ) (shM σ x1.toNat).toNat x1.toNat (dueM σ (W * H) P C O x2 (σ 38 22) x1.toNat) (σ 38 26))) := by
  obtain ⟨hR, t0, g, j3, j4, j5, j6, j7, j8, j9, j10, j11, j12⟩ := id hJ
  obtain ⟨c1, c2, c3, c4, c5, c6, c7, c8⟩ := id j6
  have hle := WH_le g.2.2.1.2 g.2.2.2.2
  have hd2 := dueM_r hJ x2 (σ 38 22)
  refine Ct.of (L0 := [rf G 38, iv x1, iv x2]) (by decide +kernel) (Nat.le_of_ble_eq_true rfl) rfl ?_
  refine r_aloadk_n dX9_good_0 rfl ?_
  refine r_iconst dX9_good_1 ?_
  refine r_puti dX9_good_2 fl_X9_133 rfl (hs.lt rfl) ?_
  rw [up_id t0]
  refine r_aloadk_n dX9_good_5 rfl ?_
  refine r_iload_n dX9_good_6 rfl ?_
  refine q_callVr dX9_good_7 (m_isPerson hs c1 c2 x1 h1) ml_X9_182 okX9_isPerson rfl rfl (hs.lt rfl) rfl rfl (Nat.le_of_ble_eq_true rfl) (roomOK.of (by decide)) ⟨(Nat.le_of_ble_eq_true rfl), (Nat.le_of_ble_eq_true rfl)⟩ ?_
  refine r_ifeqb (tgt := 20) dX9_good_10 rfl (fun h10 => ?_) (fun h10 => ?_)
  · refine r_bipush dX9_good_20 ?_
    exact r_ireti dX9_good_22 rfl ⟨_, rfl, Or.inl ⟨by omega, rfl, rfl⟩⟩
  · refine r_iload_n dX9_good_13 rfl ?_
    refine q_callSr dX9_good_14 (m_isDay x2 h2) ml_X9_185 okX9_isDay rfl rfl (Nat.le_of_ble_eq_true rfl) (roomOK.of (by decide)) ⟨(Nat.le_of_ble_eq_true rfl), (Nat.le_of_ble_eq_true rfl)⟩ ?_
    refine r_ifneb (tgt := 23) dX9_good_17 rfl (fun h17 => ?_) (fun h17 => ?_)
    · obtain ⟨p, rfl⟩ : ∃ a : Nat, x1 = a := ⟨x1.toNat, by omega⟩
      have hp : p < P := by omega
      refine r_aloadk_n dX9_good_23 rfl ?_
      refine r_getr dX9_good_24 fl_X9_75 rfl rfl (hs.lt rfl) (hs.rf rfl) ?_
      refine r_iload_n dX9_good_27 rfl ?_
      refine r_iald dX9_good_28 rfl (hs.lt rfl) rfl (by omega) ?_
      refine r_ifne (tgt := 34) dX9_good_29 rfl (by first | exact hR _ (Nat.le_of_ble_eq_true rfl) _ | omega) (fun h29 => ?_) (fun h29 => ?_)
      · refine r_aloadk_n dX9_good_34 rfl ?_
        refine r_iload_n dX9_good_35 rfl ?_
        refine r_iconst dX9_good_36 ?_
        refine r_aloadk_n dX9_good_37 rfl ?_
        refine r_getr dX9_good_38 fl_X9_93 rfl rfl (hs.lt rfl) (hs.rf rfl) ?_
        refine q_callVv dX9_good_41 (m_findDuesa hs hJ 0 (σ 38 22) (Or.inl rfl) ClP.zero x2 h2) ml_X9_246 okX9_findDues rfl rfl (hs.lt rfl) rfl rfl (Nat.le_of_ble_eq_true rfl) (roomOK.of (by decide)) ⟨(Nat.le_of_ble_eq_true rfl), (Nat.le_of_ble_eq_true rfl)⟩ (fun σ1 hq1 => ?_)
        obtain ⟨f1, q1, q2, q3, q4, q5, q6, q7, q8, q9⟩ := hq1
        have hJ1 := hJ.mf f1
        obtain ⟨hR', t0', g', j3', j4', j5', j6', j7', j8', j9', j10', j11', j12'⟩ := id hJ1
        obtain ⟨s, hsx⟩ : ∃ s : Nat, shM σ p = s := by
          obtain ⟨a, w, v, -, -, -, -, -, -, hs, -⟩ := PlM.get j10 hp hle h29
          exact ⟨_, hs⟩
        have esh : shM σ1 = shM σ := by unfold shM; rw [f1.1 54 (by omega), f1.1 55 (by omega), f1.1 56 (by omega)]
        have hdp := hd2 p
        refine r_aloadk_n dX9_good_44 rfl ?_
        refine r_iload_n dX9_good_45 rfl ?_
        refine r_aloadk_n dX9_good_46 rfl ?_
        refine r_getr dX9_good_47 fl_X9_93 rfl rfl (hs.lt rfl) (hs.rf rfl) ?_
        refine r_iload_n dX9_good_50 rfl ?_
        refine r_iald dX9_good_51 rfl (hs.lt rfl) rfl (by omega) ?_
        rw [q3 p hp]
        refine q_callVr dX9_good_52 (m_goodOf (σ := σ1) hs hR' g' j10' c2 j3' j5' p s hp (by rw [f1.1 55 (by omega)]; exact h29) (by rw [esh]; exact hsx) _ (by omega) j7'.2.2.2.2) ml_X9_262 okX9_goodOf rfl rfl (hs.lt rfl) rfl rfl (Nat.le_of_ble_eq_true rfl) (roomOK.of (by decide)) ⟨(Nat.le_of_ble_eq_true rfl), (Nat.le_of_ble_eq_true rfl)⟩ ?_
        exact r_ireti dX9_good_55 rfl ⟨_, rfl, Or.inr (Or.inr ⟨⟨h10, h17⟩, fun q => h29 ((shM_0 j10 hp hle).mp q), f1, by rw [esh, f1.1 39 (by omega), f1.1 40 (by omega), f1.1 41 (by omega), f1.2.2 26 (by omega), Int.toNat_natCast, hsx, Int.toNat_natCast]⟩)⟩
      · refine r_iconst dX9_good_32 ?_
        exact r_ireti dX9_good_33 rfl ⟨_, rfl, Or.inr (Or.inl ⟨⟨h10, h17⟩, (shM_0 j10 hp hle).mpr h29, rfl, rfl⟩)⟩
    · refine r_bipush dX9_good_20 ?_
      exact r_ireti dX9_good_22 rfl ⟨_, rfl, Or.inl ⟨by omega, rfl, rfl⟩⟩
end Model14
