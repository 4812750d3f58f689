/-! MODEL: addRect, findRects -/
section Rects
variable {l : Launch} {G : GG} {n : Nat} {ρ : Rho} {σ : Si} {W H P C O : Nat}
set_option maxHeartbeats 8000000 in
theorem m_addRect (hs : Std n ρ) (hR : Rg σ) (g : GeoM σ W H) (hso : ∀ c, 0 ≤ σ 39 c ∧ σ 39 c ≤ 9) (hrd : ∀ c, 0 ≤ σ 41 c ∧ σ 41 c ≤ 1) (c w h len : Nat) (hc : c < W * H) (hw : c % W + w ≤ W) (hh : c / W + h ≤ H) (hl : σ 38 44 = len) (hlen : len < 2000) : CtV l G 2 mX9_addRect n ρ σ [rf G 38, iv c, iv w, iv h] (fun σ' => (okR (σ 40) (σ 41) W H c w h ∧ σ' = up (up (up (up (up (up (up σ 65 len c) 66 len w) 67 len h) 68 len (worR (σ 39) W c w h)) 69 len (mskR W c w h % 2 ^ 40 : Nat)) 70 len (mskR W c w h / 2 ^ 40 : Nat)) 38 44 (len + 1)) ∨ (¬ okR (σ 40) (σ 41) W H c w h ∧ σ' = σ)) := by
  have hle := WH_le g.2.2.1.2 g.2.2.2.2
  have hW : 0 < W := by have := g.2.2.1; omega
  have hW10 := g.2.2.1.2
  have hH8 := g.2.2.2.2
  have g1 := g.1
  have hw10 : w ≤ 10 := by omega
  have hh8 : h ≤ 8 := Nat.le_trans (Nat.le_add_left h (c / W)) (Nat.le_trans hh hH8)
  generalize hQ : (fun (σ' : Si) => (okR (σ 40) (σ 41) W H c w h ∧ σ' = up (up (up (up (up (up (up σ 65 len c) 66 len w) 67 len h) 68 len (worR (σ 39) W c w h)) 69 len (mskR W c w h % 2 ^ 40 : Nat)) 70 len (mskR W c w h / 2 ^ 40 : Nat)) 38 44 (len + 1)) ∨ (¬ okR (σ 40) (σ 41) W H c w h ∧ σ' = σ)) = Q
  have outer : ∀ (m y : Nat) (x12 x13 : Value), y + m = h → isJ x12 = false → RW (KV l G 2 mX9_addRect n ρ Q) (0, 0, n, ρ) σ 18 [rf G 38, iv c, iv w, iv h, iv (worR (σ 39) W c w y), iv (bi (anyR (npB (σ 40) (σ 41)) W c w y = false)), iv (bi (anyR (beB (σ 41) W H) W c w y = true)), jl (mskR W c w y % 2 ^ 40 : Nat), xx, jl (mskR W c w y / 2 ^ 40 : Nat), xx, iv y, x12, x13] [] := by
    intro m
    induction m with
    | zero =>
      intro y x12 x13 hy hx12
      have e : y = h := by omega
      subst e
      have b1 := bi_01 (anyR (npB (σ 40) (σ 41)) W c w y = false)
      have b2 := bi_01 (anyR (beB (σ 41) W H) W c w y = true)
      have e1 : ∀ X : Si, X 38 44 = (len : Int) → iv (X 38 44) = iv (len : Int) := fun X h => by rw [h]
      refine r_iload dX9_addRect_18 rfl ?_
      refine r_iload_n dX9_addRect_20 rfl ?_
      refine r_icmpge (tgt := 156) dX9_addRect_21 rfl (by omega) (by omega) (fun h21 => ?_) (fun h21 => ?_)
      · refine r_iload dX9_addRect_156 rfl ?_
        refine r_ifeq (tgt := 239) dX9_addRect_158 rfl (by omega) (fun h158 => ?_) (fun h158 => ?_)
        · exact r_vret dX9_addRect_239 rfl ⟨rfl, by
  rw [← hQ]
  first
  | exact Or.inl ⟨⟨Classical.byContradiction (fun q => h158 (bi_f q)), Classical.byContradiction (fun q => h163 (bi_f q))⟩, rfl⟩
  | exact Or.inr ⟨fun q => by rw [bi_t q.1] at h158; exact absurd h158 (by decide), rfl⟩
  | exact Or.inr ⟨fun q => by rw [bi_t q.2] at h163; exact absurd h163 (by decide), rfl⟩⟩
        · refine r_iload dX9_addRect_161 rfl ?_
          refine r_ifeq (tgt := 239) dX9_addRect_163 rfl (by omega) (fun h163 => ?_) (fun h163 => ?_)
          · exact r_vret dX9_addRect_239 rfl ⟨rfl, by
  rw [← hQ]
  first
  | exact Or.inl ⟨⟨Classical.byContradiction (fun q => h158 (bi_f q)), Classical.byContradiction (fun q => h163 (bi_f q))⟩, rfl⟩
  | exact Or.inr ⟨fun q => by rw [bi_t q.1] at h158; exact absurd h158 (by decide), rfl⟩
  | exact Or.inr ⟨fun q => by rw [bi_t q.2] at h163; exact absurd h163 (by decide), rfl⟩⟩
          · refine r_aloadk_n dX9_addRect_166 rfl ?_
            refine r_getr dX9_addRect_167 fl_X9_105 rfl rfl (hs.lt rfl) (hs.rf rfl) ?_
            refine r_aloadk_n dX9_addRect_170 rfl ?_
            refine r_geti dX9_addRect_171 fl_X9_271 rfl rfl (hs.lt rfl) ?_
            refine show RW _ _ _ _ _ (iv (σ 38 44) :: _) from ?_
            rw [hl]
            refine r_iload_n dX9_addRect_174 rfl ?_
            refine r_iast dX9_addRect_175 rfl (hs.lt rfl) rfl (by omega) ?_
            refine r_aloadk_n dX9_addRect_176 rfl ?_
            refine r_getr dX9_addRect_177 fl_X9_108 rfl rfl (hs.lt rfl) (hs.rf rfl) ?_
            refine r_aloadk_n dX9_addRect_180 rfl ?_
            refine r_geti dX9_addRect_181 fl_X9_271 rfl rfl (hs.lt rfl) ?_
            refine show RW _ _ _ _ _ (iv (σ 38 44) :: _) from ?_
            rw [hl]
            refine r_iload_n dX9_addRect_184 rfl ?_
            refine r_iast dX9_addRect_185 rfl (hs.lt rfl) rfl (by omega) ?_
            refine r_aloadk_n dX9_addRect_186 rfl ?_
            refine r_getr dX9_addRect_187 fl_X9_111 rfl rfl (hs.lt rfl) (hs.rf rfl) ?_
            refine r_aloadk_n dX9_addRect_190 rfl ?_
            refine r_geti dX9_addRect_191 fl_X9_271 rfl rfl (hs.lt rfl) ?_
            refine show RW _ _ _ _ _ (iv (σ 38 44) :: _) from ?_
            rw [hl]
            refine r_iload_n dX9_addRect_194 rfl ?_
            refine r_iast dX9_addRect_195 rfl (hs.lt rfl) rfl (by omega) ?_
            refine r_aloadk_n dX9_addRect_196 rfl ?_
            refine r_getr dX9_addRect_197 fl_X9_114 rfl rfl (hs.lt rfl) (hs.rf rfl) ?_
            refine r_aloadk_n dX9_addRect_200 rfl ?_
            refine r_geti dX9_addRect_201 fl_X9_271 rfl rfl (hs.lt rfl) ?_
            refine show RW _ _ _ _ _ (iv (σ 38 44) :: _) from ?_
            rw [hl]
            refine r_iload dX9_addRect_204 rfl ?_
            refine r_iast dX9_addRect_206 rfl (hs.lt rfl) rfl (by omega) ?_
            refine r_aloadk_n dX9_addRect_207 rfl ?_
            refine r_getr dX9_addRect_208 fl_X9_117 rfl rfl (hs.lt rfl) (hs.rf rfl) ?_
            refine r_aloadk_n dX9_addRect_211 rfl ?_
            refine r_geti dX9_addRect_212 fl_X9_271 rfl rfl (hs.lt rfl) ?_
            refine show RW _ _ _ _ _ (iv (σ 38 44) :: _) from ?_
            rw [hl]
            refine r_lload dX9_addRect_215 rfl ?_
            refine r_last dX9_addRect_217 rfl (hs.lt rfl) rfl (by omega) ?_
            refine r_aloadk_n dX9_addRect_218 rfl ?_
            refine r_getr dX9_addRect_219 fl_X9_121 rfl rfl (hs.lt rfl) (hs.rf rfl) ?_
            refine r_aloadk_n dX9_addRect_222 rfl ?_
            refine r_geti dX9_addRect_223 fl_X9_271 rfl rfl (hs.lt rfl) ?_
            refine show RW _ _ _ _ _ (iv (σ 38 44) :: _) from ?_
            rw [hl]
            refine r_lload dX9_addRect_226 rfl ?_
            refine r_last dX9_addRect_228 rfl (hs.lt rfl) rfl (by omega) ?_
            refine r_aloadk_n dX9_addRect_229 rfl ?_
            refine r_dup dX9_addRect_230 rfl ?_
            refine r_geti dX9_addRect_231 fl_X9_271 rfl rfl (hs.lt rfl) ?_
            refine show RW _ _ _ _ _ (iv (σ 38 44) :: _) from ?_
            rw [hl]
            refine r_iconst dX9_addRect_234 ?_
            refine r_iadd dX9_addRect_235 ?_
            refine r_puti dX9_addRect_236 fl_X9_271 rfl (hs.lt rfl) ?_
            exact r_vret dX9_addRect_239 rfl ⟨rfl, by
  rw [← hQ]
  first
  | exact Or.inl ⟨⟨Classical.byContradiction (fun q => h158 (bi_f q)), Classical.byContradiction (fun q => h163 (bi_f q))⟩, rfl⟩
  | exact Or.inr ⟨fun q => by rw [bi_t q.1] at h158; exact absurd h158 (by decide), rfl⟩
  | exact Or.inr ⟨fun q => by rw [bi_t q.2] at h163; exact absurd h163 (by decide), rfl⟩⟩
      · omega
    | succ m ih =>
      intro y x12 x13 hy hx12
      have hyh : y < h := by omega
      have inner : ∀ (m2 x : Nat) (x13 : Value), x + m2 = w → RW (KV l G 2 mX9_addRect n ρ Q) (0, 0, n, ρ) σ 27 [rf G 38, iv c, iv w, iv h, iv (rowS (σ 39) (worR (σ 39) W c w y) (c + W * y) x), iv (bi (rowB (npB (σ 40) (σ 41)) (anyR (npB (σ 40) (σ 41)) W c w y) (c + W * y) x = false)), iv (bi (rowB (beB (σ 41) W H) (anyR (beB (σ 41) W H) W c w y) (c + W * y) x = true)), jl (bitsRow (mskR W c w y) (c + W * y) x % 2 ^ 40 : Nat), xx, jl (bitsRow (mskR W c w y) (c + W * y) x / 2 ^ 40 : Nat), xx, iv y, iv x, x13] [] := by
        intro m2
        induction m2 with
        | zero =>
          intro x x13 hx
          have e : x = w := by omega
          subst e
          refine r_iload dX9_addRect_27 rfl ?_
          refine r_iload_n dX9_addRect_29 rfl ?_
          refine r_icmpge (tgt := 150) dX9_addRect_30 rfl (by omega) (by omega) (fun h30 => ?_) (fun h30 => ?_)
          · refine r_iinc dX9_addRect_150 (Nat.le_of_ble_eq_true rfl) rfl rfl s11 ?_
            refine r_goto (tgt := 18) dX9_addRect_153 rfl ?_
            exact ih (y + 1) _ _ (by omega) rfl
          · omega
        | succ m2 ih2 =>
          intro x x13 hx
          have hkl := cell_in (x := x) (y := y) hW hw hh hyh (by omega)
          have nx := ih2 (x + 1) (iv ((c + W * y + x : Nat) : Int)) (by omega)
          rw [bits_lo, bits_hi] at nx
          have es : rowS (σ 39) (worR (σ 39) W c w y) (c + W * y) (x + 1) = rowS (σ 39) (worR (σ 39) W c w y) (c + W * y) x + σ 39 (c + W * y + x) := rfl
          have en : ∀ f b, rowB f b (c + W * y) (x + 1) = (rowB f b (c + W * y) x || f (c + W * y + x)) := fun f b => rfl
          rw [es, en, en] at nx
          generalize hk : c + W * y + x = k at hkl nx
          generalize rowS (σ 39) (worR (σ 39) W c w y) (c + W * y) x = wo at nx ⊢
          generalize rowB (npB (σ 40) (σ 41)) (anyR (npB (σ 40) (σ 41)) W c w y) (c + W * y) x = pl at nx ⊢
          generalize rowB (beB (σ 41) W H) (anyR (beB (σ 41) W H) W c w y) (c + W * y) x = rr at nx ⊢
          generalize bitsRow (mskR W c w y) (c + W * y) x % 2 ^ 40 = lo at nx ⊢
          generalize bitsRow (mskR W c w y) (c + W * y) x / 2 ^ 40 = hi at nx ⊢
          have b1 := bi_01 (pl = false)
          have b2 := bi_01 (rr = true)
          have L101 : ∀ p' r' : Int, p' = bi ((pl || npB (σ 40) (σ 41) k) = false) → r' = bi ((rr || beB (σ 41) W H k) = true) → RW (KV l G 2 mX9_addRect n ρ Q) (0, 0, n, ρ) σ 101 [rf G 38, iv c, iv w, iv h, iv (wo + σ 39 k), iv p', iv r', jl (lo : Nat), xx, jl (hi : Nat), xx, iv y, iv x, iv k] [] := by
            intro p' r' hp' hr'
            rw [← hp', ← hr'] at nx
            by_cases hk40 : k < 40
            · rw [if_pos hk40, if_pos hk40] at nx
              refine r_lload dX9_addRect_101 rfl ?_
              refine r_iload dX9_addRect_103 rfl ?_
              refine r_bipush dX9_addRect_105 ?_
              refine r_icmpge (tgt := 117) dX9_addRect_107 rfl (by omega) (by omega) (fun h107 => ?_) (fun h107 => ?_)
              · omega
              · refine r_lconst1 dX9_addRect_110 ?_
                refine r_iload dX9_addRect_111 rfl ?_
                refine r_lshl1 (c := k) dX9_addRect_113 (by omega) ?_
                refine r_goto (tgt := 118) dX9_addRect_114 rfl ?_
                refine r_lor (a := lo) (b := 2 ^ k) dX9_addRect_118 ?_
                refine r_lstore dX9_addRect_119 (Nat.le_of_ble_eq_true rfl) rfl w7 ?_
                refine r_lload dX9_addRect_121 rfl ?_
                refine r_iload dX9_addRect_123 rfl ?_
                refine r_bipush dX9_addRect_125 ?_
                refine r_icmpge (tgt := 134) dX9_addRect_127 rfl (by omega) (by omega) (fun h127 => ?_) (fun h127 => ?_)
                · omega
                · refine r_lconst0 dX9_addRect_130 ?_
                  refine r_goto (tgt := 141) dX9_addRect_131 rfl ?_
                  refine r_lor (a := hi) (b := 0) dX9_addRect_141 ?_
                  refine r_lstore dX9_addRect_142 (Nat.le_of_ble_eq_true rfl) rfl w9 ?_
                  refine r_iinc dX9_addRect_144 (Nat.le_of_ble_eq_true rfl) rfl rfl s12 ?_
                  refine r_goto (tgt := 27) dX9_addRect_147 rfl ?_
                  exact nx
            · rw [if_neg hk40, if_neg hk40] at nx
              refine r_lload dX9_addRect_101 rfl ?_
              refine r_iload dX9_addRect_103 rfl ?_
              refine r_bipush dX9_addRect_105 ?_
              refine r_icmpge (tgt := 117) dX9_addRect_107 rfl (by omega) (by omega) (fun h107 => ?_) (fun h107 => ?_)
              · refine r_lconst0 dX9_addRect_117 ?_
                refine r_lor (a := lo) (b := 0) dX9_addRect_118 ?_
                refine r_lstore dX9_addRect_119 (Nat.le_of_ble_eq_true rfl) rfl w7 ?_
                refine r_lload dX9_addRect_121 rfl ?_
                refine r_iload dX9_addRect_123 rfl ?_
                refine r_bipush dX9_addRect_125 ?_
                refine r_icmpge (tgt := 134) dX9_addRect_127 rfl (by omega) (by omega) (fun h127 => ?_) (fun h127 => ?_)
                · refine r_lconst1 dX9_addRect_134 ?_
                  refine r_iload dX9_addRect_135 rfl ?_
                  refine r_bipush dX9_addRect_137 ?_
                  refine r_isub dX9_addRect_139 ?_
                  rw [show iv ((k : Int) - 40) = iv ((k - 40 : Nat) : Int) by congr 1; omega]
                  refine r_lshl1 (c := k - 40) dX9_addRect_140 (by omega) ?_
                  refine r_lor (a := hi) (b := 2 ^ (k - 40)) dX9_addRect_141 ?_
                  refine r_lstore dX9_addRect_142 (Nat.le_of_ble_eq_true rfl) rfl w9 ?_
                  refine r_iinc dX9_addRect_144 (Nat.le_of_ble_eq_true rfl) rfl rfl s12 ?_
                  refine r_goto (tgt := 27) dX9_addRect_147 rfl ?_
                  exact nx
                · omega
              · omega
          have L80 : ∀ p' : Int, p' = bi ((pl || npB (σ 40) (σ 41) k) = false) → RW (KV l G 2 mX9_addRect n ρ Q) (0, 0, n, ρ) σ 80 [rf G 38, iv c, iv w, iv h, iv (wo + σ 39 k), iv p', iv (bi (rr = true)), jl (lo : Nat), xx, jl (hi : Nat), xx, iv y, iv x, iv k] [] := by
            intro p' hp'
            refine r_iload dX9_addRect_80 rfl ?_
            refine r_ifne (tgt := 94) dX9_addRect_82 rfl (by omega) (fun h82 => ?_) (fun h82 => ?_)
            · refine r_iconst dX9_addRect_94 ?_
              refine r_goto (tgt := 99) dX9_addRect_95 rfl ?_
              refine r_istore dX9_addRect_99 (Nat.le_of_ble_eq_true rfl) rfl s6 ?_
              refine L101 _ _ hp' ?_
              rw [bi_iff (show (rr || beB (σ 41) W H k) = true ↔ (rr = true ∨ anyN (besF (σ 41) W H k) 4 = true) by rw [Bool.or_eq_true]; exact Iff.rfl)]
              first
              | exact (bi_t (Or.inl (Classical.byContradiction (fun q => h82 (bi_f q))))).symm
              | exact (bi_t (Or.inr h91)).symm
              | exact (bi_f (fun q => q.elim (fun q => by rw [bi_t q] at h82; exact absurd h82 (by decide)) h91)).symm
            · refine r_aloadk_n dX9_addRect_85 rfl ?_
              refine r_iload dX9_addRect_86 rfl ?_
              refine q_callVr dX9_addRect_88 (m_isByRoad hs hR g hrd k hkl) ml_X9_256 okX9_isByRoad rfl rfl (hs.lt rfl) rfl rfl (Nat.le_of_ble_eq_true rfl) (roomOK.of (by decide)) ⟨(Nat.le_of_ble_eq_true rfl), (Nat.le_of_ble_eq_true rfl)⟩ ?_
              refine r_ifeqb (tgt := 98) dX9_addRect_91 rfl (fun h91 => ?_) (fun h91 => ?_)
              · refine r_iconst dX9_addRect_98 ?_
                refine r_istore dX9_addRect_99 (Nat.le_of_ble_eq_true rfl) rfl s6 ?_
                refine L101 _ _ hp' ?_
                rw [bi_iff (show (rr || beB (σ 41) W H k) = true ↔ (rr = true ∨ anyN (besF (σ 41) W H k) 4 = true) by rw [Bool.or_eq_true]; exact Iff.rfl)]
                first
                | exact (bi_t (Or.inl (Classical.byContradiction (fun q => h82 (bi_f q))))).symm
                | exact (bi_t (Or.inr h91)).symm
                | exact (bi_f (fun q => q.elim (fun q => by rw [bi_t q] at h82; exact absurd h82 (by decide)) h91)).symm
              · refine r_iconst dX9_addRect_94 ?_
                refine r_goto (tgt := 99) dX9_addRect_95 rfl ?_
                refine r_istore dX9_addRect_99 (Nat.le_of_ble_eq_true rfl) rfl s6 ?_
                refine L101 _ _ hp' ?_
                rw [bi_iff (show (rr || beB (σ 41) W H k) = true ↔ (rr = true ∨ anyN (besF (σ 41) W H k) 4 = true) by rw [Bool.or_eq_true]; exact Iff.rfl)]
                first
                | exact (bi_t (Or.inl (Classical.byContradiction (fun q => h82 (bi_f q))))).symm
                | exact (bi_t (Or.inr h91)).symm
                | exact (bi_f (fun q => q.elim (fun q => by rw [bi_t q] at h82; exact absurd h82 (by decide)) h91)).symm
          refine r_iload dX9_addRect_27 rfl ?_
          refine r_iload_n dX9_addRect_29 rfl ?_
          refine r_icmpge (tgt := 150) dX9_addRect_30 rfl (by omega) (by omega) (fun h30 => ?_) (fun h30 => ?_)
          · omega
          · refine r_iload_n dX9_addRect_33 rfl ?_
            refine r_aloadk_n dX9_addRect_34 rfl ?_
            refine r_geti dX9_addRect_35 fl_X9_7 rfl rfl (hs.lt rfl) ?_
            refine r_iload dX9_addRect_38 rfl ?_
            refine r_imul dX9_addRect_40 ?_
            refine r_iadd dX9_addRect_41 ?_
            refine r_iload dX9_addRect_42 rfl ?_
            refine r_iadd dX9_addRect_44 ?_
            rw [show iv ((c : Int) + σ 38 1 * (y : Int) + (x : Int)) = iv (k : Int) by congr 1; rw [g1, ← hk]; push_cast; rfl]
            refine r_istore dX9_addRect_45 (Nat.le_of_ble_eq_true rfl) rfl s13 ?_
            refine r_iload dX9_addRect_47 rfl ?_
            refine r_aloadk_n dX9_addRect_49 rfl ?_
            refine r_getr dX9_addRect_50 fl_X9_16 rfl rfl (hs.lt rfl) (hs.rf rfl) ?_
            refine r_iload dX9_addRect_53 rfl ?_
            refine r_iald dX9_addRect_55 rfl (hs.lt rfl) rfl (by omega) ?_
            refine r_iadd dX9_addRect_56 ?_
            refine r_istore dX9_addRect_57 (Nat.le_of_ble_eq_true rfl) rfl s4 ?_
            refine r_iload dX9_addRect_59 rfl ?_
            refine r_ifeq (tgt := 77) dX9_addRect_61 rfl (by omega) (fun h61 => ?_) (fun h61 => ?_)
            · refine r_iconst dX9_addRect_77 ?_
              refine r_istore dX9_addRect_78 (Nat.le_of_ble_eq_true rfl) rfl s5 ?_
              refine L80 _ ?_
              rw [bi_iff (show (pl || npB (σ 40) (σ 41) k) = false ↔ (pl = false ∧ (¬ σ 40 k = 2 ∧ σ 41 k = 0)) by rw [Bool.or_eq_false_iff, Bool.eq_false_iff (b := npB (σ 40) (σ 41) k), ne_eq, npB_t, Classical.not_not])]
              first
              | exact (bi_f (fun q => by rw [bi_t q.1] at h61; exact absurd h61 (by decide))).symm
              | exact (bi_t ⟨Classical.byContradiction (fun q => h61 (bi_f q)), h70⟩).symm
              | exact (bi_f (fun q => h70 q.2)).symm
            · refine r_aloadk_n dX9_addRect_64 rfl ?_
              refine r_iload dX9_addRect_65 rfl ?_
              refine q_callVr dX9_addRect_67 (m_isPlain hs hR k (by omega)) ml_X9_214 okX9_isPlain rfl rfl (hs.lt rfl) rfl rfl (Nat.le_of_ble_eq_true rfl) (roomOK.of (by decide)) ⟨(Nat.le_of_ble_eq_true rfl), (Nat.le_of_ble_eq_true rfl)⟩ ?_
              refine r_ifeqb (tgt := 77) dX9_addRect_70 rfl (fun h70 => ?_) (fun h70 => ?_)
              · refine r_iconst dX9_addRect_77 ?_
                refine r_istore dX9_addRect_78 (Nat.le_of_ble_eq_true rfl) rfl s5 ?_
                refine L80 _ ?_
                rw [bi_iff (show (pl || npB (σ 40) (σ 41) k) = false ↔ (pl = false ∧ (¬ σ 40 k = 2 ∧ σ 41 k = 0)) by rw [Bool.or_eq_false_iff, Bool.eq_false_iff (b := npB (σ 40) (σ 41) k), ne_eq, npB_t, Classical.not_not])]
                first
                | exact (bi_f (fun q => by rw [bi_t q.1] at h61; exact absurd h61 (by decide))).symm
                | exact (bi_t ⟨Classical.byContradiction (fun q => h61 (bi_f q)), h70⟩).symm
                | exact (bi_f (fun q => h70 q.2)).symm
              · refine r_iconst dX9_addRect_73 ?_
                refine r_goto (tgt := 78) dX9_addRect_74 rfl ?_
                refine r_istore dX9_addRect_78 (Nat.le_of_ble_eq_true rfl) rfl s5 ?_
                refine L80 _ ?_
                rw [bi_iff (show (pl || npB (σ 40) (σ 41) k) = false ↔ (pl = false ∧ (¬ σ 40 k = 2 ∧ σ 41 k = 0)) by rw [Bool.or_eq_false_iff, Bool.eq_false_iff (b := npB (σ 40) (σ 41) k), ne_eq, npB_t, Classical.not_not])]
                first
                | exact (bi_f (fun q => by rw [bi_t q.1] at h61; exact absurd h61 (by decide))).symm
                | exact (bi_t ⟨Classical.byContradiction (fun q => h61 (bi_f q)), h70⟩).symm
                | exact (bi_f (fun q => h70 q.2)).symm
      refine r_iload dX9_addRect_18 rfl ?_
      refine r_iload_n dX9_addRect_20 rfl ?_
      refine r_icmpge (tgt := 156) dX9_addRect_21 rfl (by omega) (by omega) (fun h21 => ?_) (fun h21 => ?_)
      · omega
      · refine r_iconst dX9_addRect_24 ?_
        refine r_istore dX9_addRect_25 (Nat.le_of_ble_eq_true rfl) rfl s12 ?_
        exact inner w 0 _ (by omega)
  refine Ct.of (L0 := [rf G 38, iv c, iv w, iv h, xx, xx, xx, xx, xx, xx, xx, xx, xx, xx]) (by decide +kernel) (Nat.le_of_ble_eq_true rfl) rfl ?_
  refine r_iconst dX9_addRect_0 ?_
  refine r_istore dX9_addRect_1 (Nat.le_of_ble_eq_true rfl) rfl s4 ?_
  refine r_iconst dX9_addRect_3 ?_
  refine r_istore dX9_addRect_4 (Nat.le_of_ble_eq_true rfl) rfl s5 ?_
  refine r_iconst dX9_addRect_6 ?_
  refine r_istore dX9_addRect_7 (Nat.le_of_ble_eq_true rfl) rfl s6 ?_
  refine r_lconst0 dX9_addRect_9 ?_
  refine r_lstore dX9_addRect_10 (Nat.le_of_ble_eq_true rfl) rfl w7 ?_
  refine r_lconst0 dX9_addRect_12 ?_
  refine r_lstore dX9_addRect_13 (Nat.le_of_ble_eq_true rfl) rfl w9 ?_
  refine r_iconst dX9_addRect_15 ?_
  refine r_istore dX9_addRect_16 (Nat.le_of_ble_eq_true rfl) rfl s11 ?_
  have z := outer h 0 xx xx (by omega) rfl
  rw [show mskR W c w 0 = 0 from rfl, Nat.zero_mod, Nat.zero_div] at z
  exact z
def mR (σ : Si) (nn : Int) (f1 f2 f3 f4 f5 f6 : Nat → Int) : Si := sr (sr (sr (sr (sr (sr (sr σ 38 (ud (σ 38) 44 nn)) 65 f1) 66 f2) 67 f3) 68 f4) 69 f5) 70 f6
theorem mR_up {nn v1 v2 v3 v4 v5 v6 m2 : Int} {f1 f2 f3 f4 f5 f6 : Nat → Int} {j : Nat} : up (up (up (up (up (up (up (mR σ nn f1 f2 f3 f4 f5 f6) 65 j v1) 66 j v2) 67 j v3) 68 j v4) 69 j v5) 70 j v6) 38 44 m2 = mR σ m2 (ud f1 j v1) (ud f2 j v2) (ud f3 j v3) (ud f4 j v4) (ud f5 j v5) (ud f6 j v6) := by
  funext a b
  unfold mR sr up ud
  by_cases e38 : a = 38
  · subst e38
    by_cases e44 : b = 44
    · simp [e44]
    · simp [e44]
  · by_cases e65 : a = 65
    · subst e65; simp
    · by_cases e66 : a = 66
      · subst e66; simp
      · by_cases e67 : a = 67
        · subst e67; simp
        · by_cases e68 : a = 68
          · subst e68; simp
          · by_cases e69 : a = 69
            · subst e69; simp
            · by_cases e70 : a = 70
              · subst e70; simp
              · simp [e38, e65, e66, e67, e68, e69, e70]
theorem sr_eq {τ : Si} {a : Nat} {v : Nat → Int} (h : v = τ a) : sr τ a v = τ := by rw [h, sr_self]
theorem mR_self {nn : Int} : mR σ nn (σ 65) (σ 66) (σ 67) (σ 68) (σ 69) (σ 70) = sr σ 38 (ud (σ 38) 44 nn) := by
  unfold mR
  rw [sr_eq (τ := sr σ 38 (ud (σ 38) 44 nn)) (a := 65) (v := σ 65) rfl, sr_eq (τ := sr σ 38 (ud (σ 38) 44 nn)) (a := 66) (v := σ 66) rfl, sr_eq (τ := sr σ 38 (ud (σ 38) 44 nn)) (a := 67) (v := σ 67) rfl, sr_eq (τ := sr σ 38 (ud (σ 38) 44 nn)) (a := 68) (v := σ 68) rfl, sr_eq (τ := sr σ 38 (ud (σ 38) 44 nn)) (a := 69) (v := σ 69) rfl, sr_eq (τ := sr σ 38 (ud (σ 38) 44 nn)) (a := 70) (v := σ 70) rfl]
/-- the model's rows of sites -/
def RowsM (so : Nat → Int) (W : Nat) (L : List Tri) (f1 f2 f3 f4 f5 f6 : Nat → Int) : Prop :=
  (∀ s, s < L.length → f1 s = (atS L s).1 ∧ f2 s = (atS L s).2.1 ∧ f3 s = (atS L s).2.2 ∧ f4 s = worT so W (atS L s) ∧ f5 s = (mskT W (atS L s) % 2 ^ 40 : Nat) ∧ f6 s = (mskT W (atS L s) / 2 ^ 40 : Nat)) ∧ (∀ j, R32 (f1 j)) ∧ (∀ j, R32 (f2 j)) ∧ (∀ j, R32 (f3 j)) ∧ (∀ j, R32 (f4 j))
theorem RowsM.add {so : Nat → Int} {W : Nat} {L : List Tri} {f1 f2 f3 f4 f5 f6 : Nat → Int} (h : RowsM so W L f1 f2 f3 f4 f5 f6) (t : Tri) (h1 : t.1 < 1000) (h2 : t.2.1 < 1000) (h3 : t.2.2 < 1000) (h4 : R32 (worT so W t)) : RowsM so W (L ++ [t]) (ud f1 L.length t.1) (ud f2 L.length t.2.1) (ud f3 L.length t.2.2) (ud f4 L.length (worT so W t)) (ud f5 L.length (mskT W t % 2 ^ 40 : Nat)) (ud f6 L.length (mskT W t / 2 ^ 40 : Nat)) := by
  obtain ⟨ha, r1, r2, r3, r4⟩ := h
  refine ⟨fun s hs => ?_, ud_R r1 (by omega), ud_R r2 (by omega), ud_R r3 (by omega), ud_R r4 h4⟩
  rw [List.length_append] at hs
  by_cases e : s = L.length
  · have ea : atS (L ++ [t]) s = t := by rw [e]; exact at_len
    rw [ea, e]
    simp only [ud_at]
    exact ⟨trivial, trivial, trivial, trivial, trivial, trivial⟩
  · have hs' : s < L.length := by have : [t].length = 1 := rfl; omega
    have ea : atS (L ++ [t]) s = atS L s := at_lt hs'
    rw [ea, ud_ne e, ud_ne e, ud_ne e, ud_ne e, ud_ne e, ud_ne e]
    exact ha s hs'
set_option maxHeartbeats 8000000 in
theorem m_findRects (hs : Std n ρ) (hR : Rg σ) (g : GeoM σ W H) (hso : ∀ c, 0 ≤ σ 39 c ∧ σ 39 c ≤ 9) (hrd : ∀ c, 0 ≤ σ 41 c ∧ σ 41 c ≤ 1) : CtV l G 3 mX9_findRects n ρ σ [rf G 38] (fun σ' => ∃ f1 f2 f3 f4 f5 f6 : Nat → Int, RowsM (σ 39) W (sitesAl (σ 40) (σ 41) W H (W * H)) f1 f2 f3 f4 f5 f6 ∧ σ' = mR σ (sitesAl (σ 40) (σ 41) W H (W * H)).length f1 f2 f3 f4 f5 f6) := by
  have hle := WH_le g.2.2.1.2 g.2.2.2.2
  have hW : 0 < W := by have := g.2.2.1; omega
  have hW10 := g.2.2.1.2
  have hH8 := g.2.2.2.2
  have g1 := g.1
  have g2 := g.2.1
  generalize hQ : (fun (σ' : Si) => ∃ f1 f2 f3 f4 f5 f6 : Nat → Int, RowsM (σ 39) W (sitesAl (σ 40) (σ 41) W H (W * H)) f1 f2 f3 f4 f5 f6 ∧ σ' = mR σ (sitesAl (σ 40) (σ 41) W H (W * H)).length f1 f2 f3 f4 f5 f6) = Q
  have hRs : ∀ (nn : Int) (f1 f2 f3 f4 f5 f6 : Nat → Int), R32 nn → (∀ j, R32 (f1 j)) → (∀ j, R32 (f2 j)) → (∀ j, R32 (f3 j)) → (∀ j, R32 (f4 j)) → Rg (mR σ nn f1 f2 f3 f4 f5 f6) := by
    intro nn f1 f2 f3 f4 f5 f6 hn r1 r2 r3 r4 k hk j
    unfold mR
    rw [sr_ne (show k ≠ 70 by omega), sr_ne (show k ≠ 69 by omega)]
    exact (((((hR.sr (ud_R (hR 38 (by decide)) hn)).sr r1).sr r2).sr r3).sr r4) k hk j
  have cl : ∀ (m c : Nat) (x2 x3 : Value) (f1 f2 f3 f4 f5 f6 : Nat → Int), c + m = W * H → isJ x2 = false → isJ x3 = false → RowsM (σ 39) W (sitesAl (σ 40) (σ 41) W H c) f1 f2 f3 f4 f5 f6 → RW (KV l G 3 mX9_findRects n ρ Q) (0, 0, n, ρ) (mR σ (sitesAl (σ 40) (σ 41) W H c).length f1 f2 f3 f4 f5 f6) 7 [rf G 38, iv c, x2, x3] [] := by
    intro m
    induction m with
    | zero =>
      intro c x2 x3 f1 f2 f3 f4 f5 f6 hc hx2 hx3 hrow
      have e : c = W * H := by omega
      subst e
      refine r_iload_n dX9_findRects_7 rfl ?_
      refine r_aloadk_n dX9_findRects_8 rfl ?_
      refine q_callVr dX9_findRects_9 (m_cells (σ := mR σ _ f1 f2 f3 f4 f5 f6) hs g) ml_X9_148 okX9_cells rfl rfl (hs.lt rfl) rfl rfl (Nat.le_of_ble_eq_true rfl) (roomOK.of (by decide)) ⟨(Nat.le_of_ble_eq_true rfl), (Nat.le_of_ble_eq_true rfl)⟩ ?_
      refine r_icmpge (tgt := 74) dX9_findRects_12 rfl (by omega) (by omega) (fun h12 => ?_) (fun h12 => ?_)
      · exact r_vret dX9_findRects_74 rfl ⟨rfl, by rw [← hQ]; exact ⟨f1, f2, f3, f4, f5, f6, hrow, rfl⟩⟩
      · omega
    | succ m ih =>
      intro c x2 x3 f1 f2 f3 f4 f5 f6 hc hx2 hx3 hrow
      have hcl : c < W * H := by omega
      have cm := Nat.mod_lt c hW
      have cd : c / W < H := Nat.div_lt_of_lt_mul hcl
      have cn := Int.natCast_nonneg (c / W)
      have hroom := fun w t hw ht => sites_room (us := σ 40) (rd := σ 41) (W := W) (H := H) (c := c) (w := w) (t := t) (by omega) (by omega) hcl hw ht
      have eal : sitesAl (σ 40) (σ 41) W H (c + 1) = sitesAl (σ 40) (σ 41) W H c ++ sitesWd (σ 40) (σ 41) W H c (W - c % W) := rfl
      have wl : ∀ (m2 w : Nat) (x3 : Value) (f1 f2 f3 f4 f5 f6 : Nat → Int), w + m2 = W - c % W → isJ x3 = false → RowsM (σ 39) W (sitesAl (σ 40) (σ 41) W H c ++ sitesWd (σ 40) (σ 41) W H c w) f1 f2 f3 f4 f5 f6 → RW (KV l G 3 mX9_findRects n ρ Q) (0, 0, n, ρ) (mR σ (sitesAl (σ 40) (σ 41) W H c ++ sitesWd (σ 40) (σ 41) W H c w).length f1 f2 f3 f4 f5 f6) 17 [rf G 38, iv c, iv (w + 1 : Nat), x3] [] := by
        intro m2
        induction m2 with
        | zero =>
          intro w x3 f1 f2 f3 f4 f5 f6 hw hx3 hrow
          have e : w = W - c % W := by omega
          subst e
          rw [← eal] at hrow ⊢
          refine r_iload_n dX9_findRects_17 rfl ?_
          refine r_aloadk_n dX9_findRects_18 rfl ?_
          refine r_geti dX9_findRects_19 fl_X9_7 rfl rfl (hs.lt rfl) ?_
          refine show RW _ _ _ _ _ (iv (σ 38 1) :: _) from ?_
          refine r_irem dX9_findRects_22 (by omega) (by omega) ?_
          rw [show iv ((c : Int) % σ 38 1) = iv ((c % W : Nat) : Int) by rw [g1]; rfl]
          refine r_iload_n dX9_findRects_23 rfl ?_
          refine r_iadd dX9_findRects_24 ?_
          refine r_aloadk_n dX9_findRects_25 rfl ?_
          refine r_geti dX9_findRects_26 fl_X9_7 rfl rfl (hs.lt rfl) ?_
          refine show RW _ _ _ _ _ (iv (σ 38 1) :: _) from ?_
          refine r_icmpgt (tgt := 68) dX9_findRects_29 rfl (by omega) (by omega) (fun h29 => ?_) (fun h29 => ?_)
          · refine r_iinc dX9_findRects_68 (Nat.le_of_ble_eq_true rfl) rfl rfl s1 ?_
            refine r_goto (tgt := 7) dX9_findRects_71 rfl ?_
            exact ih (c + 1) _ _ f1 f2 f3 f4 f5 f6 (by omega) rfl hx3 hrow
          · omega
        | succ m2 ihw =>
          intro w x3 f1 f2 f3 f4 f5 f6 hw hx3 hrow
          have ewd : sitesAl (σ 40) (σ 41) W H c ++ sitesWd (σ 40) (σ 41) W H c (w + 1) = sitesAl (σ 40) (σ 41) W H c ++ sitesWd (σ 40) (σ 41) W H c w ++ sitesDn (σ 40) (σ 41) W H c (w + 1) (H - c / W) := by rw [List.append_assoc]; rfl
          have hl : ∀ (m3 t : Nat) (f1 f2 f3 f4 f5 f6 : Nat → Int), t + m3 = H - c / W → RowsM (σ 39) W (sitesAl (σ 40) (σ 41) W H c ++ sitesWd (σ 40) (σ 41) W H c w ++ sitesDn (σ 40) (σ 41) W H c (w + 1) t) f1 f2 f3 f4 f5 f6 → RW (KV l G 3 mX9_findRects n ρ Q) (0, 0, n, ρ) (mR σ (sitesAl (σ 40) (σ 41) W H c ++ sitesWd (σ 40) (σ 41) W H c w ++ sitesDn (σ 40) (σ 41) W H c (w + 1) t).length f1 f2 f3 f4 f5 f6) 34 [rf G 38, iv c, iv (w + 1 : Nat), iv (t + 1 : Nat)] [] := by
            intro m3
            induction m3 with
            | zero =>
              intro t f1 f2 f3 f4 f5 f6 ht hrow
              have e : t = H - c / W := by omega
              subst e
              rw [← ewd] at hrow ⊢
              refine r_iload_n dX9_findRects_34 rfl ?_
              refine r_aloadk_n dX9_findRects_35 rfl ?_
              refine r_geti dX9_findRects_36 fl_X9_7 rfl rfl (hs.lt rfl) ?_
              refine show RW _ _ _ _ _ (iv (σ 38 1) :: _) from ?_
              refine r_idiv dX9_findRects_39 (by omega) (by omega) ?_
              rw [show iv ((c : Int) / σ 38 1) = iv ((c / W : Nat) : Int) by rw [g1]; rfl]
              refine r_iload_n dX9_findRects_40 rfl ?_
              refine r_iadd dX9_findRects_41 ?_
              refine r_aloadk_n dX9_findRects_42 rfl ?_
              refine r_geti dX9_findRects_43 fl_X9_13 rfl rfl (hs.lt rfl) ?_
              refine show RW _ _ _ _ _ (iv (σ 38 2) :: _) from ?_
              refine r_icmpgt (tgt := 62) dX9_findRects_46 rfl (by omega) (by omega) (fun h46 => ?_) (fun h46 => ?_)
              · refine r_iinc dX9_findRects_62 (Nat.le_of_ble_eq_true rfl) rfl rfl s2 ?_
                refine r_goto (tgt := 17) dX9_findRects_65 rfl ?_
                exact ihw (w + 1) _ f1 f2 f3 f4 f5 f6 (by omega) rfl hrow
              · omega
            | succ m3 ihh =>
              intro t f1 f2 f3 f4 f5 f6 ht hrow
              have hrm := hroom w t (by omega) (by omega)
              have hlr := hrow
              obtain ⟨-, r1, r2, r3, r4⟩ := hlr
              have hwr := worR_r (so := σ 39) (W := W) (c := c) (w := w + 1) hso (by omega) (t + 1)
              have hlen : (sitesAl (σ 40) (σ 41) W H c ++ sitesWd (σ 40) (σ 41) W H c w ++ sitesDn (σ 40) (σ 41) W H c (w + 1) t).length < 1980 := by rw [List.length_append, List.length_append]; exact hrm
              have edn : sitesDn (σ 40) (σ 41) W H c (w + 1) (t + 1) = if okR (σ 40) (σ 41) W H c (w + 1) (t + 1) then sitesDn (σ 40) (σ 41) W H c (w + 1) t ++ [(c, w + 1, t + 1)] else sitesDn (σ 40) (σ 41) W H c (w + 1) t := rfl
              generalize hLL : sitesAl (σ 40) (σ 41) W H c ++ sitesWd (σ 40) (σ 41) W H c w ++ sitesDn (σ 40) (σ 41) W H c (w + 1) t = LL at hrow hlen ⊢
              have ka : CtV l G 2 mX9_addRect n ρ (mR σ LL.length f1 f2 f3 f4 f5 f6) [rf G 38, iv c, iv (w + 1 : Nat), iv (t + 1 : Nat)] (fun σ' => (okR (σ 40) (σ 41) W H c (w + 1) (t + 1) ∧ σ' = up (up (up (up (up (up (up (mR σ LL.length f1 f2 f3 f4 f5 f6) 65 LL.length c) 66 LL.length (w + 1 : Nat)) 67 LL.length (t + 1 : Nat)) 68 LL.length (worR (σ 39) W c (w + 1) (t + 1))) 69 LL.length (mskR W c (w + 1) (t + 1) % 2 ^ 40 : Nat)) 70 LL.length (mskR W c (w + 1) (t + 1) / 2 ^ 40 : Nat)) 38 44 (LL.length + 1)) ∨ (¬ okR (σ 40) (σ 41) W H c (w + 1) (t + 1) ∧ σ' = mR σ LL.length f1 f2 f3 f4 f5 f6)) := m_addRect (l := l) (G := G) (n := n) (ρ := ρ) (W := W) (H := H) (σ := mR σ LL.length f1 f2 f3 f4 f5 f6) hs (hRs _ _ _ _ _ _ _ (by omega) r1 r2 r3 r4) g hso hrd c (w + 1) (t + 1) LL.length hcl (by omega) (by omega) rfl (by omega)
              have nx := ihh (t + 1)
              have fin : ∀ σ1 : Si, RW (KV l G 3 mX9_findRects n ρ Q) (0, 0, n, ρ) σ1 34 [rf G 38, iv c, iv (w + 1 : Nat), iv (t + 1 + 1 : Nat)] [] → RW (KV l G 3 mX9_findRects n ρ Q) (0, 0, n, ρ) σ1 56 [rf G 38, iv c, iv (w + 1 : Nat), iv (t + 1 : Nat)] [] := by
                intro σ1 h1
                refine r_iinc dX9_findRects_56 (Nat.le_of_ble_eq_true rfl) rfl rfl s3 ?_
                refine r_goto (tgt := 34) dX9_findRects_59 rfl ?_
                exact h1
              refine r_iload_n dX9_findRects_34 rfl ?_
              refine r_aloadk_n dX9_findRects_35 rfl ?_
              refine r_geti dX9_findRects_36 fl_X9_7 rfl rfl (hs.lt rfl) ?_
              refine show RW _ _ _ _ _ (iv (σ 38 1) :: _) from ?_
              refine r_idiv dX9_findRects_39 (by omega) (by omega) ?_
              rw [show iv ((c : Int) / σ 38 1) = iv ((c / W : Nat) : Int) by rw [g1]; rfl]
              refine r_iload_n dX9_findRects_40 rfl ?_
              refine r_iadd dX9_findRects_41 ?_
              refine r_aloadk_n dX9_findRects_42 rfl ?_
              refine r_geti dX9_findRects_43 fl_X9_13 rfl rfl (hs.lt rfl) ?_
              refine show RW _ _ _ _ _ (iv (σ 38 2) :: _) from ?_
              refine r_icmpgt (tgt := 62) dX9_findRects_46 rfl (by omega) (by omega) (fun h46 => ?_) (fun h46 => ?_)
              · omega
              · refine r_aloadk_n dX9_findRects_49 rfl ?_
                refine r_iload_n dX9_findRects_50 rfl ?_
                refine r_iload_n dX9_findRects_51 rfl ?_
                refine r_iload_n dX9_findRects_52 rfl ?_
                refine q_callVv dX9_findRects_53 (ka) ml_X9_274 okX9_addRect rfl rfl (hs.lt rfl) rfl rfl (Nat.le_of_ble_eq_true rfl) (roomOK.of (by decide)) ⟨(Nat.le_of_ble_eq_true rfl), (Nat.le_of_ble_eq_true rfl)⟩ (fun σ1 hq1 => ?_)
                refine fin σ1 ?_
                rcases hq1 with ⟨hok, rfl⟩ | ⟨hok, rfl⟩
                · rw [edn, if_pos hok, ← List.append_assoc, hLL] at nx
                  have el : ((LL ++ [(c, w + 1, t + 1)]).length : Int) = (LL.length : Int) + 1 := by rw [List.length_append]; rfl
                  rw [el] at nx
                  rw [mR_up]
                  exact nx _ _ _ _ _ _ (by omega) (hrow.add (c, w + 1, t + 1) (by show c < 1000; omega) (by show w + 1 < 1000; omega) (by show t + 1 < 1000; omega) (by show R32 (worR (σ 39) W c (w + 1) (t + 1)); omega))
                · rw [edn, if_neg hok, hLL] at nx
                  exact nx _ _ _ _ _ _ (by omega) hrow
          have h0 := hl (H - c / W) 0 f1 f2 f3 f4 f5 f6 (by omega)
          rw [show sitesDn (σ 40) (σ 41) W H c (w + 1) 0 = [] from rfl, List.append_nil] at h0
          have h1 := h0 hrow
          refine r_iload_n dX9_findRects_17 rfl ?_
          refine r_aloadk_n dX9_findRects_18 rfl ?_
          refine r_geti dX9_findRects_19 fl_X9_7 rfl rfl (hs.lt rfl) ?_
          refine show RW _ _ _ _ _ (iv (σ 38 1) :: _) from ?_
          refine r_irem dX9_findRects_22 (by omega) (by omega) ?_
          rw [show iv ((c : Int) % σ 38 1) = iv ((c % W : Nat) : Int) by rw [g1]; rfl]
          refine r_iload_n dX9_findRects_23 rfl ?_
          refine r_iadd dX9_findRects_24 ?_
          refine r_aloadk_n dX9_findRects_25 rfl ?_
          refine r_geti dX9_findRects_26 fl_X9_7 rfl rfl (hs.lt rfl) ?_
          refine show RW _ _ _ _ _ (iv (σ 38 1) :: _) from ?_
          refine r_icmpgt (tgt := 68) dX9_findRects_29 rfl (by omega) (by omega) (fun h29 => ?_) (fun h29 => ?_)
          · omega
          · refine r_iconst dX9_findRects_32 ?_
            refine r_istore_n dX9_findRects_33 (Nat.le_of_ble_eq_true rfl) rfl s3 ?_
            exact h1
      have h0 := wl (W - c % W) 0 x3 f1 f2 f3 f4 f5 f6 (by omega) hx3
      rw [show sitesWd (σ 40) (σ 41) W H c 0 = [] from rfl, List.append_nil] at h0
      have h1 := h0 hrow
      refine r_iload_n dX9_findRects_7 rfl ?_
      refine r_aloadk_n dX9_findRects_8 rfl ?_
      refine q_callVr dX9_findRects_9 (m_cells (σ := mR σ _ f1 f2 f3 f4 f5 f6) hs g) ml_X9_148 okX9_cells rfl rfl (hs.lt rfl) rfl rfl (Nat.le_of_ble_eq_true rfl) (roomOK.of (by decide)) ⟨(Nat.le_of_ble_eq_true rfl), (Nat.le_of_ble_eq_true rfl)⟩ ?_
      refine r_icmpge (tgt := 74) dX9_findRects_12 rfl (by omega) (by omega) (fun h12 => ?_) (fun h12 => ?_)
      · omega
      · refine r_iconst dX9_findRects_15 ?_
        refine r_istore_n dX9_findRects_16 (Nat.le_of_ble_eq_true rfl) rfl s2 ?_
        exact h1
  refine Ct.of (L0 := [rf G 38, xx, xx, xx]) (by decide +kernel) (Nat.le_of_ble_eq_true rfl) rfl ?_
  refine r_aloadk_n dX9_findRects_0 rfl ?_
  refine r_iconst dX9_findRects_1 ?_
  refine r_puti dX9_findRects_2 fl_X9_271 rfl (hs.lt rfl) ?_
  refine r_iconst dX9_findRects_5 ?_
  refine r_istore_n dX9_findRects_6 (Nat.le_of_ble_eq_true rfl) rfl s1 ?_
  have h := cl (W * H) 0 xx xx (σ 65) (σ 66) (σ 67) (σ 68) (σ 69) (σ 70) (by omega) rfl rfl ⟨fun s hs => absurd hs (Nat.not_lt_zero s), hR 65 (by decide), hR 66 (by decide), hR 67 (by decide), hR 68 (by decide)⟩
  rw [mR_self, show sitesAl (σ 40) (σ 41) W H 0 = [] from rfl] at h
  rw [up_eq_sr]
  exact h
end Rects
