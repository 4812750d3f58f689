/-! DRAWING: putFrom -/
def dS (σ : Si) (tries best sp : Int) (f g : Nat → Int) : Si := sr (sr (sr σ 73 (ud (ud (ud (σ 73) 5 tries) 7 best) 8 sp)) 90 f) 91 g
def bC (b : Int) : Int := if b < 0 then 1000000000 else b
theorem bC_lt {b c : Int} (hc : c ≤ 100000) : c < bC b ↔ (b < 0 ∨ c < b) := by
  unfold bC
  split <;> omega
section Put
variable {l : Launch} {G : GG} {n : Nat} {ρ : Rho} {σ : Si} {W H P C O : Nat}
theorem dS_t {b lf sp z : Int} {f g : Nat → Int} : up (dS σ lf b sp f g) 73 5 z = dS σ z b sp f g := by
  funext a c
  unfold dS sr up ud
  by_cases e : a = 73
  · subst e
    by_cases e1 : c = 5
    · simp [e1]
    · simp [e1]
  · simp [e]
theorem dS_b {b lf sp z : Int} {f g : Nat → Int} : up (dS σ lf b sp f g) 73 7 z = dS σ lf z sp f g := by
  funext a c
  unfold dS sr up ud
  by_cases e : a = 73
  · subst e
    by_cases e1 : c = 7
    · simp [e1]
    · simp [e1]
  · simp [e]
theorem dS_s {b lf sp z : Int} {f g : Nat → Int} : up (dS σ lf b sp f g) 73 8 z = dS σ lf b z f g := by
  funext a c
  unfold dS sr up ud
  by_cases e : a = 73
  · subst e
    by_cases e1 : c = 8
    · simp [e1]
    · simp [e1]
  · simp [e]
theorem dS_f {b lf sp z : Int} {f g : Nat → Int} {j : Nat} : up (dS σ lf b sp f g) 90 j z = dS σ lf b sp (ud f j z) g := by
  funext a c
  unfold dS sr up ud
  by_cases e : a = 90
  · subst e; simp
  · simp [e]
theorem dS_cp {b lf sp : Int} {f g : Nat → Int} : cpy (dS σ lf b sp f g) 90 91 0 0 8 = dS σ lf b sp f (fun x => if x < 8 then f x else g x) := by
  funext a c
  unfold cpy
  by_cases e : a = 91
  · subst e
    by_cases e1 : c < 8
    · rw [if_pos ⟨rfl, Nat.zero_le _, by omega⟩]
      show f (0 + (c - 0)) = if c < 8 then f c else g c
      rw [if_pos e1, Nat.zero_add, Nat.sub_zero]
    · rw [if_neg (fun q => by omega)]
      show g c = if c < 8 then f c else g c
      rw [if_neg e1]
  · rw [if_neg (fun q => e q.1)]
    unfold dS sr
    simp [e]
theorem dS_lo {b lf sp : Int} {f g : Nat → Int} {k : Nat} (h1 : k ≠ 73) (h2 : k ≠ 90) (h3 : k ≠ 91) : dS σ lf b sp f g k = σ k := by
  unfold dS
  rw [sr_ne h3, sr_ne h2, sr_ne h1]
variable {nS : Nat} {msk : Nat → Nat} {fit : Nat → Nat → Bool} {co : Nat → Nat → Int} {due : Nat → Int} {cT : Nat → Nat}
set_option maxHeartbeats 16000000 in
theorem c_putFrom (hs : Std n ρ) (hsD : StdD n ρ) (hP8 : P ≤ 8) (hn2 : nS ≤ 1980) (hct1 : ∀ p, 0 < due p → cT (p + 1) = cT p + 1) (hct2 : ∀ p, ¬ 0 < due p → cT (p + 1) = cT p) (hct3 : ∀ p, cT p ≤ p) (hct4 : ∀ p q, p < q → 0 < due p → cT p < cT q) (h4 : σ 73 4 = (cT P : Nat)) (most : Int) (h6 : σ 73 6 = most) (hmo : 0 ≤ most ∧ most ≤ 20000) (hdr : ∀ p, 0 ≤ due p ∧ due p ≤ 2000) (hmk : ∀ s, s < nS → σ 76 s = (msk s % 2 ^ 64 : Nat) ∧ σ 77 s = (msk s / 2 ^ 64 : Nat) ∧ msk s < 2 ^ 80) (hcr : ∀ p s, p < P → s < nS → 0 ≤ co p s ∧ co p s ≤ 1100)
    (hch : ∀ p, p < P → 0 < due p → ChOK (fit p) (co p) nS (σ (79 + cT p)) (σ 87 (cT p)) (σ 88 (cT p))) :
    ∀ (k d p U : Nat) (cost : Int) (tr : Nat → Nat) (st : St) (f g : Nat → Int), 1 + k ≤ d → p + k = P → U < 2 ^ 80 → 0 ≤ cost → cost + 1100 * k ≤ 10000 → (∀ q, q < p → 0 < due q → tr q < nS) → StOK nS P due st → (0 ≤ st.1 → ∀ q, q < P → 0 < due q → g (cT q) = (st.2.1 q : Nat)) → (∀ q, q < p → 0 < due q → f (cT q) = (tr q : Nat)) → CtV l G d mX0_putFrom n ρ (dS σ (most - st.2.2.1) (bC st.1) (bi (st.2.2.2 = true)) f g) [rf G 73, iv (cT p : Nat), jl (U % 2 ^ 64 : Nat), jl (U / 2 ^ 64 : Nat), iv cost] (fun σ' => ∃ f' g' : Nat → Int, (0 ≤ (srG nS msk fit co due k p U cost tr st).1 → ∀ q, q < P → 0 < due q → g' (cT q) = ((srG nS msk fit co due k p U cost tr st).2.1 q : Nat)) ∧ (∀ v, v < cT p → f' v = f v) ∧ σ' = dS σ (most - (srG nS msk fit co due k p U cost tr st).2.2.1) (bC (srG nS msk fit co due k p U cost tr st).1) (bi ((srG nS msk fit co due k p U cost tr st).2.2.2 = true)) f' g') := by
  intro k
  induction k with
  | zero =>
    intro d p U cost tr st f g hd0 hp hU hc0 hc1 htr hst hg hf
    have ep : p = P := by omega
    subst ep
    have hx : srG nS msk fit co due 0 p U cost tr st = (cost, tr, st.2.2) := rfl
    have hb : bC cost = cost := if_neg (by omega)
    have hc3 := hct3 p
    have hpost : ∃ f' g' : Nat → Int, (0 ≤ (srG nS msk fit co due 0 p U cost tr st).1 → ∀ q, q < p → 0 < due q → g' (cT q) = ((srG nS msk fit co due 0 p U cost tr st).2.1 q : Nat)) ∧ (∀ v, v < cT p → f' v = f v) ∧ dS σ (most - st.2.2.1) cost (bi (st.2.2.2 = true)) f (fun x => if x < 8 then f x else g x) = dS σ (most - (srG nS msk fit co due 0 p U cost tr st).2.2.1) (bC (srG nS msk fit co due 0 p U cost tr st).1) (bi ((srG nS msk fit co due 0 p U cost tr st).2.2.2 = true)) f' g' := by
      rw [hx]
      refine ⟨f, fun x => if x < 8 then f x else g x, fun _ q hq hd => ?_, fun _ _ => rfl, ?_⟩
      · show (if cT q < 8 then f (cT q) else g (cT q)) = (tr q : Nat)
        rw [if_pos (by have := hct3 q; omega)]
        exact hf q hq hd
      · show dS σ (most - st.2.2.1) cost (bi (st.2.2.2 = true)) f _ = dS σ (most - st.2.2.1) (bC cost) (bi (st.2.2.2 = true)) f _
        rw [hb]
    generalize bi (st.2.2.2 = true) = sp at hpost ⊢
    generalize most - ((st.2.2.1 : Nat) : Int) = lf at hpost ⊢
    refine Ct.of (L0 := [rf G 73, iv (cT p : Nat), jl (U % 2 ^ 64 : Nat), xx, jl (U / 2 ^ 64 : Nat), xx, iv cost, xx, xx, xx, xx]) (by decide +kernel) (Nat.le_of_ble_eq_true rfl) rfl ?_
    refine r_iload_n dX0_putFrom_0 rfl ?_
    refine r_aloadk_n dX0_putFrom_1 rfl ?_
    refine r_geti dX0_putFrom_2 fl_X0_92 rfl rfl (hsD.lt rfl) ?_
    refine show RW _ _ _ _ _ (iv (σ 73 4) :: _) from ?_
    rw [h4]
    refine r_icmpge (tgt := 14) dX0_putFrom_5 rfl (by omega) (by omega) (fun h5 => ?_) (fun h5 => ?_)
    · refine r_aloadk_n dX0_putFrom_14 rfl ?_
      refine r_iload dX0_putFrom_15 rfl ?_
      refine r_puti dX0_putFrom_17 fl_X0_72 rfl (hsD.lt rfl) ?_
      rw [dS_b]
      refine r_aloadk_n dX0_putFrom_20 rfl ?_
      refine r_getr dX0_putFrom_21 fl_X0_39 rfl rfl (hsD.lt rfl) (hsD.rf rfl) ?_
      refine r_iconst dX0_putFrom_24 ?_
      refine r_aloadk_n dX0_putFrom_25 rfl ?_
      refine r_getr dX0_putFrom_26 fl_X0_42 rfl rfl (hsD.lt rfl) (hsD.rf rfl) ?_
      refine r_iconst dX0_putFrom_29 ?_
      refine r_bipush dX0_putFrom_30 ?_
      refine r_copy (sp := 0) (dp := 0) (n := 8) dX0_putFrom_32 ml_X0_167 cp_nat cp_st cp_ini rfl rfl (hsD.lt rfl) (hsD.lt rfl) (Nat.le_of_ble_eq_true rfl) (Nat.le_of_ble_eq_true rfl) (show 1 ≤ d by omega) (Nat.le_trans cp_lo (show 100 ≤ 100 * d by omega)) ?_
      rw [dS_cp]
      exact r_vret dX0_putFrom_35 rfl ⟨rfl, hpost⟩
    · omega
  | succ k ih =>
    intro d p U cost tr st f g hd0 hp hU hc0 hc1 htr hst hg hf
    have hpP : p < P := by omega
    have hdp := hdr p
    have hU40 : U % 2 ^ 64 < 2 ^ 64 := Nat.mod_lt _ (Nat.two_pow_pos 64)
    have hU41 : U / 2 ^ 64 < 2 ^ 64 := by omega
    by_cases hdu : due p ≤ 0
    · rw [srG_sk hdu]
      have kk := ih d (p + 1) U cost tr st f g (by omega) (by omega) hU hc0 (by omega) (fun q hq hq2 => by
        by_cases e : q = p
        · rw [e] at hq2; omega
        · exact htr q (by omega) hq2) hst hg (fun q hq hd => by
        by_cases e : q = p
        · rw [e] at hd; omega
        · exact hf q (by omega) hd)
      rw [hct2 p (by omega)] at kk
      exact kk
    · have hdu0 : 0 < due p := by omega
      rw [srG_lp hdu0]
      have hok := lpS_ok (msk := msk) (fit := fit) (U := U) hcr hp hc0 hc1 htr hst
      have hc3 := hct3 p
      have hc4 := hct4 p P hpP hdu0
      have hcP := hct3 P
      have hc1e := hct1 p hdu0
      obtain ⟨ch1, ch2, ch3, ch4⟩ := hch p hpP hdu0
      have hv8 : cT p < 8 := by omega
      generalize hv : cT p = v at *
      generalize hQ : (fun (σ' : Si) => ∃ f' g' : Nat → Int, (0 ≤ (lpS nS msk fit co due k p U cost tr st nS).1 → ∀ q, q < P → 0 < due q → g' (cT q) = ((lpS nS msk fit co due k p U cost tr st nS).2.1 q : Nat)) ∧ (∀ u, u < v → f' u = f u) ∧ σ' = dS σ (most - (lpS nS msk fit co due k p U cost tr st nS).2.2.1) (bC (lpS nS msk fit co due k p U cost tr st nS).1) (bi ((lpS nS msk fit co due k p U cost tr st nS).2.2.2 = true)) f' g') = Q
      have lp : ∀ (m s : Nat) (fl gl : Nat → Int) (x9 x10 : Value), s + m = nS → isJ x9 = false → (0 ≤ (lpS nS msk fit co due k p U cost tr st s).1 → ∀ q, q < P → 0 < due q → gl (cT q) = ((lpS nS msk fit co due k p U cost tr st s).2.1 q : Nat)) → (∀ u, u < v → fl u = f u) → RW (KV l G d mX0_putFrom n ρ Q) (0, 0, n, ρ) (dS σ (most - (lpS nS msk fit co due k p U cost tr st s).2.2.1) (bC (lpS nS msk fit co due k p U cost tr st s).1) (bi ((lpS nS msk fit co due k p U cost tr st s).2.2.2 = true)) fl gl) 47 [rf G 73, iv (v : Nat), jl (U % 2 ^ 64 : Nat), xx, jl (U / 2 ^ 64 : Nat), xx, iv cost, rf G (79 + v), iv (fcn (fit p) s : Nat), x9, x10] [] := by
        intro m
        induction m with
        | zero =>
          intro s fl gl x9 x10 hj hx9 hgl hfl
          have e : s = nS := by omega
          subst e
          have hfl2 := fcn_le (ft := fit p) s
          refine r_iload dX0_putFrom_47 rfl ?_
          refine r_aloadk_n dX0_putFrom_49 rfl ?_
          refine r_getr dX0_putFrom_50 fl_X0_30 rfl rfl (hsD.lt rfl) (hsD.rf rfl) ?_
          refine r_iload_n dX0_putFrom_53 rfl ?_
          refine r_iald dX0_putFrom_54 rfl (hsD.lt rfl) rfl (by omega) ?_
          refine show RW _ _ _ _ _ (iv (σ 87 v) :: _) from ?_
          rw [ch1]
          refine r_icmpge (tgt := 215) dX0_putFrom_55 rfl (by omega) (by omega) (fun h55 => ?_) (fun h55 => ?_)
          · exact r_vret dX0_putFrom_215 rfl ⟨rfl, by rw [← hQ]; exact ⟨fl, gl, hgl, hfl, rfl⟩⟩
          · omega
        | succ m ihl =>
          intro s fl gl x9 x10 hj hx9 hgl hfl
          have hsn : s < nS := by omega
          have nx := fun fl gl x9 x10 => ihl (s + 1) fl gl x9 x10 (by omega)
          have hok1 := hok s (by omega)
          have stp := lpS_stop (nS := nS) (msk := msk) (fit := fit) (co := co) (due := due) (k := k) (p := p) (U := U) (cost := cost) (tr := tr) (st := st) (i := s) (by omega)
          have stp2 := lpS_stop (nS := nS) (msk := msk) (fit := fit) (co := co) (due := due) (k := k) (p := p) (U := U) (cost := cost) (tr := tr) (st := st) (i := s + 1) (by omega)
          rw [lpS_1] at nx stp2
          generalize lpS nS msk fit co due k p U cost tr st s = st1 at hgl nx hok1 stp stp2 ⊢
          by_cases hft : fit p s = true
          · rw [fcn_t hft] at nx
            obtain ⟨hrow, hle⟩ := ch2 s hsn hft
            have hfn := fcn_lt hsn hft
            have hfs := fcn_le (ft := fit p) s
            have hfs2 := fcn_le (ft := fit p) nS
            generalize hii : fcn (fit p) s = i at hrow hfn nx hfs ⊢
            have hc1' := hcr p s hpP hsn
            obtain ⟨cN, hcN⟩ : ∃ a : Nat, co p s = a := ⟨(co p s).toNat, by omega⟩
            rw [hcN, Int.toNat_natCast] at hrow
            generalize hlf : most - ((st1.2.2.1 : Nat) : Int) = lf at nx ⊢
            have hlr : -20000 ≤ lf ∧ lf ≤ 20000 := by have := hok1.2.1; omega
            have hb1 := hok1.1
            have hbc : bC st1.1 = 1000000000 ∧ st1.1 < 0 ∨ bC st1.1 = st1.1 ∧ 0 ≤ st1.1 := by unfold bC; split <;> omega
            obtain ⟨hm1, hm2, hm3⟩ := hmk s hsn
            by_cases hsp : st1.2.2.2 = true
            · rw [bi_t hsp]
              have hexit : Q (dS σ lf (bC st1.1) 1 fl gl) := by
                rw [← hQ, stp (Or.inl hsp), ← bi_t hsp, ← hlf]
                exact ⟨fl, gl, hgl, hfl, rfl⟩
              refine r_iload dX0_putFrom_47 rfl ?_
              refine r_aloadk_n dX0_putFrom_49 rfl ?_
              refine r_getr dX0_putFrom_50 fl_X0_30 rfl rfl (hsD.lt rfl) (hsD.rf rfl) ?_
              refine r_iload_n dX0_putFrom_53 rfl ?_
              refine r_iald dX0_putFrom_54 rfl (hsD.lt rfl) rfl (by omega) ?_
              refine show RW _ _ _ _ _ (iv (σ 87 v) :: _) from ?_
              rw [ch1]
              refine r_icmpge (tgt := 215) dX0_putFrom_55 rfl (by omega) (by omega) (fun h55 => ?_) (fun h55 => ?_)
              · omega
              · refine r_aloadk_n dX0_putFrom_58 rfl ?_
                refine r_geti dX0_putFrom_59 fl_X0_75 rfl rfl (hsD.lt rfl) ?_
                refine show RW _ _ _ _ _ (iv 1 :: _) from ?_
                refine r_ifne (tgt := 215) dX0_putFrom_62 rfl (by omega) (fun h62 => ?_) (fun h62 => ?_)
                · exact r_vret dX0_putFrom_215 rfl ⟨rfl, hexit⟩
                · omega
            · rw [bi_f hsp]
              have hsp0 : st1.2.2.2 = false := by rw [← Bool.not_eq_true]; exact hsp
              have hexit : (∀ s', s ≤ s' → s' < nS → fit p s' = true → ¬ (st1.1 < 0 ∨ cost + co p s' < st1.1)) → Q (dS σ lf (bC st1.1) 0 fl gl) := by
                intro hq
                rw [← hQ, stp (Or.inr hq), ← hlf, bi_f hsp]
                exact ⟨fl, gl, hgl, hfl, rfl⟩
              have hz := and_split 64 U (msk s)
              have ha1 : U % 2 ^ 64 &&& msk s % 2 ^ 64 < 18446744073709551616 := by have := Nat.and_lt_two_pow (U % 2 ^ 64) (show msk s % 2 ^ 64 < 2 ^ 64 from Nat.mod_lt _ (Nat.two_pow_pos 64)); omega
              have ha2 : U / 2 ^ 64 &&& msk s / 2 ^ 64 < 18446744073709551616 := by have := Nat.and_lt_two_pow (U / 2 ^ 64) (show msk s / 2 ^ 64 < 2 ^ 64 by omega); omega
              have Lno : ¬ (fit p s = true ∧ U &&& msk s = 0 ∧ (st1.1 < 0 ∨ cost + co p s < st1.1)) → RW (KV l G d mX0_putFrom n ρ Q) (0, 0, n, ρ) (dS σ lf (bC st1.1) 0 fl gl) 209 [rf G 73, iv (v : Nat), jl (U % 2 ^ 64 : Nat), xx, jl (U / 2 ^ 64 : Nat), xx, iv cost, rf G (79 + v), iv (i : Nat), iv (s : Nat), iv (cost + cN)] [] := by
                intro hno
                have nx1 := nx fl gl (iv (s : Nat)) (iv (cost + cN)) rfl
                rw [stepS_no hno, hlf, bi_f hsp] at nx1
                have nx2 := nx1 hgl hfl
                refine r_iinc dX0_putFrom_209 (Nat.le_of_ble_eq_true rfl) rfl rfl s8 ?_
                refine r_goto (tgt := 47) dX0_putFrom_212 rfl ?_
                exact nx2
              have Lyes : (fit p s = true ∧ U &&& msk s = 0 ∧ (st1.1 < 0 ∨ cost + co p s < st1.1)) → RW (KV l G d mX0_putFrom n ρ Q) (0, 0, n, ρ) (dS σ lf (bC st1.1) 0 fl gl) 146 [rf G 73, iv (v : Nat), jl (U % 2 ^ 64 : Nat), xx, jl (U / 2 ^ 64 : Nat), xx, iv cost, rf G (79 + v), iv (i : Nat), iv (s : Nat), iv (cost + cN)] [] := by
                intro hyes
                by_cases hl0 : st1.2.2.1 = 0
                · rw [stepS_z hsp0 hyes hl0] at stp2
                  have hend : Q (dS σ lf (bC st1.1) 1 fl gl) := by
                    rw [← hQ, stp2 (Or.inl rfl), ← hlf, hl0]
                    exact ⟨fl, gl, hgl, hfl, rfl⟩
                  refine r_aloadk_n dX0_putFrom_146 rfl ?_
                  refine r_geti dX0_putFrom_147 fl_X0_64 rfl rfl (hsD.lt rfl) ?_
                  refine show RW _ _ _ _ _ (iv lf :: _) from ?_
                  refine r_aloadk_n dX0_putFrom_150 rfl ?_
                  refine r_geti dX0_putFrom_151 fl_X0_68 rfl rfl (hsD.lt rfl) ?_
                  refine show RW _ _ _ _ _ (iv (σ 73 6) :: _) from ?_
                  rw [h6]
                  refine r_icmplt (tgt := 163) dX0_putFrom_154 rfl (by omega) (by omega) (fun h154 => ?_) (fun h154 => ?_)
                  · omega
                  · refine r_aloadk_n dX0_putFrom_157 rfl ?_
                    refine r_iconst dX0_putFrom_158 ?_
                    refine r_putz dX0_putFrom_159 fl_X0_75 (by omega) rfl (hsD.lt rfl) ?_
                    rw [dS_s]
                    exact r_vret dX0_putFrom_162 rfl ⟨rfl, hend⟩
                · have hlm : lf + 1 = most - ((st1.2.2.1 - 1 : Nat) : Int) := by omega
                  rw [stepS_go hsp0 hyes hl0] at nx
                  have kk := ih (d - 1) (p + 1) (U ||| msk s) (cost + co p s) (udN tr p s) (st1.1, st1.2.1, st1.2.2.1 - 1, st1.2.2.2) (ud fl v s) gl (by omega) (by omega) (Nat.or_lt_two_pow hU hm3) (by omega) (by omega) (fun q hq hq2 => by
                    by_cases e : q = p
                    · rw [e, udN_at]; exact hsn
                    · rw [udN_ne e]; exact htr q (by omega) hq2) ⟨hok1.1, by have := hok1.2.1; show st1.2.2.1 - 1 ≤ 20000; omega, hok1.2.2⟩ hgl (fun q hq hd => by
                    by_cases e : q = p
                    · rw [e, hv, ud_at, udN_at]
                    · have hlt := hct4 q p (by omega) hd
                      rw [hv] at hlt
                      rw [ud_ne (by omega), hfl _ hlt, udN_ne e]
                      exact hf q (by omega) hd)
                  rw [show bi ((st1.1, st1.2.1, st1.2.2.1 - 1, st1.2.2.2).2.2.2 = true) = 0 from bi_f hsp, Nat.or_mod_two_pow, Nat.or_div_two_pow, show most - (((st1.1, st1.2.1, st1.2.2.1 - 1, st1.2.2.2) : St).2.2.1 : Int) = lf + 1 from hlm.symm, hc1e] at kk
                  rw [hcN] at kk nx
                  generalize srG nS msk fit co due k (p + 1) (U ||| msk s) (cost + (cN : Int)) (udN tr p s) (st1.1, st1.2.1, st1.2.2.1 - 1, st1.2.2.2) = RS at kk nx
                  refine r_aloadk_n dX0_putFrom_146 rfl ?_
                  refine r_geti dX0_putFrom_147 fl_X0_64 rfl rfl (hsD.lt rfl) ?_
                  refine show RW _ _ _ _ _ (iv lf :: _) from ?_
                  refine r_aloadk_n dX0_putFrom_150 rfl ?_
                  refine r_geti dX0_putFrom_151 fl_X0_68 rfl rfl (hsD.lt rfl) ?_
                  refine show RW _ _ _ _ _ (iv (σ 73 6) :: _) from ?_
                  rw [h6]
                  refine r_icmplt (tgt := 163) dX0_putFrom_154 rfl (by omega) (by omega) (fun h154 => ?_) (fun h154 => ?_)
                  · refine r_aloadk_n dX0_putFrom_163 rfl ?_
                    refine r_dup dX0_putFrom_164 rfl ?_
                    refine r_geti dX0_putFrom_165 fl_X0_64 rfl rfl (hsD.lt rfl) ?_
                    refine show RW _ _ _ _ _ (iv lf :: _) from ?_
                    refine r_iconst dX0_putFrom_168 ?_
                    refine r_iadd dX0_putFrom_169 ?_
                    refine r_puti dX0_putFrom_170 fl_X0_64 rfl (hsD.lt rfl) ?_
                    rw [dS_t]
                    refine r_aloadk_n dX0_putFrom_173 rfl ?_
                    refine r_getr dX0_putFrom_174 fl_X0_39 rfl rfl (hsD.lt rfl) (hsD.rf rfl) ?_
                    refine r_iload_n dX0_putFrom_177 rfl ?_
                    refine r_iload dX0_putFrom_178 rfl ?_
                    refine r_iast dX0_putFrom_180 rfl (hsD.lt rfl) rfl (by omega) ?_
                    rw [dS_f]
                    refine r_aloadk_n dX0_putFrom_181 rfl ?_
                    refine r_iload_n dX0_putFrom_182 rfl ?_
                    refine r_iconst dX0_putFrom_183 ?_
                    refine r_iadd dX0_putFrom_184 ?_
                    refine r_lload_n dX0_putFrom_185 rfl ?_
                    refine r_aloadk_n dX0_putFrom_186 rfl ?_
                    refine r_getr dX0_putFrom_187 fl_X0_18 rfl rfl (hsD.lt rfl) (hsD.rf rfl) ?_
                    refine r_iload dX0_putFrom_190 rfl ?_
                    refine r_lald dX0_putFrom_192 rfl (hsD.lt rfl) rfl (by omega) ?_
                    refine show RW _ _ _ _ _ (jl (σ 76 s) :: _) from ?_
                    rw [hm1]
                    refine r_lor (a := U % 2 ^ 64) (b := msk s % 2 ^ 64) dX0_putFrom_193 ?_
                    refine r_lload dX0_putFrom_194 rfl ?_
                    refine r_aloadk_n dX0_putFrom_196 rfl ?_
                    refine r_getr dX0_putFrom_197 fl_X0_22 rfl rfl (hsD.lt rfl) (hsD.rf rfl) ?_
                    refine r_iload dX0_putFrom_200 rfl ?_
                    refine r_lald dX0_putFrom_202 rfl (hsD.lt rfl) rfl (by omega) ?_
                    refine show RW _ _ _ _ _ (jl (σ 77 s) :: _) from ?_
                    rw [hm2]
                    refine r_lor (a := U / 2 ^ 64) (b := msk s / 2 ^ 64) dX0_putFrom_203 ?_
                    refine r_iload dX0_putFrom_204 rfl ?_
                    refine q_callVv dX0_putFrom_206 (kk) ml_X0_79 okX0_putFrom rfl rfl (hsD.lt rfl) rfl rfl (Nat.le_of_ble_eq_true rfl) (roomOK.of (by omega)) ⟨(Nat.le_of_ble_eq_true rfl), (Nat.le_of_ble_eq_true rfl)⟩ (fun σ1 hq1 => ?_)
                    obtain ⟨f', g', q1, q2, rfl⟩ := hq1
                    refine r_iinc dX0_putFrom_209 (Nat.le_of_ble_eq_true rfl) rfl rfl s8 ?_
                    refine r_goto (tgt := 47) dX0_putFrom_212 rfl ?_
                    exact nx f' g' _ _ rfl q1 (fun u hu => by rw [q2 u (by omega), ud_ne (by omega)]; exact hfl u hu)
                  · omega
              refine r_iload dX0_putFrom_47 rfl ?_
              refine r_aloadk_n dX0_putFrom_49 rfl ?_
              refine r_getr dX0_putFrom_50 fl_X0_30 rfl rfl (hsD.lt rfl) (hsD.rf rfl) ?_
              refine r_iload_n dX0_putFrom_53 rfl ?_
              refine r_iald dX0_putFrom_54 rfl (hsD.lt rfl) rfl (by omega) ?_
              refine show RW _ _ _ _ _ (iv (σ 87 v) :: _) from ?_
              rw [ch1]
              refine r_icmpge (tgt := 215) dX0_putFrom_55 rfl (by omega) (by omega) (fun h55 => ?_) (fun h55 => ?_)
              · omega
              · refine r_aloadk_n dX0_putFrom_58 rfl ?_
                refine r_geti dX0_putFrom_59 fl_X0_75 rfl rfl (hsD.lt rfl) ?_
                refine show RW _ _ _ _ _ (iv 0 :: _) from ?_
                refine r_ifne (tgt := 215) dX0_putFrom_62 rfl (by omega) (fun h62 => ?_) (fun h62 => ?_)
                · omega
                · refine r_aloadk_n dX0_putFrom_65 rfl ?_
                  refine r_getr dX0_putFrom_66 fl_X0_33 rfl rfl (hsD.lt rfl) (hsD.rf rfl) ?_
                  refine r_iload_n dX0_putFrom_69 rfl ?_
                  refine r_iald dX0_putFrom_70 rfl (hsD.lt rfl) rfl (by omega) ?_
                  refine show RW _ _ _ _ _ (iv (σ 88 v) :: _) from ?_
                  refine r_aloadk_n dX0_putFrom_71 rfl ?_
                  refine r_geti dX0_putFrom_72 fl_X0_72 rfl rfl (hsD.lt rfl) ?_
                  refine show RW _ _ _ _ _ (iv (bC st1.1) :: _) from ?_
                  refine r_iload dX0_putFrom_75 rfl ?_
                  refine r_isub dX0_putFrom_77 ?_
                  refine r_icmpge (tgt := 215) dX0_putFrom_78 rfl (by omega) (by omega) (fun h78 => ?_) (fun h78 => ?_)
                  · exact r_vret dX0_putFrom_215 rfl ⟨rfl, hexit (fun s' a1 a2 a3 => by
  have b1 := (ch2 s' a2 a3).2
  have b2 := hcr p s' hpP a2
  omega)⟩
                  · refine r_aloadk dX0_putFrom_81 rfl ?_
                    refine r_iload dX0_putFrom_83 rfl ?_
                    refine r_iald dX0_putFrom_85 (shp79 v hv8) (Nat.lt_of_lt_of_le (by omega : 79 + v < 92) hsD.1) rfl (by omega) ?_
                    rw [dS_lo (show 79 + v ≠ 73 by omega) (show 79 + v ≠ 90 by omega) (show 79 + v ≠ 91 by omega), hrow]
                    refine r_sipush dX0_putFrom_86 ?_
                    refine r_iandm (a := cN * 2 ^ 11 + s) (k := 11) dX0_putFrom_89 ?_
                    rw [show (cN * 2 ^ 11 + s) % 2 ^ 11 = s by omega]
                    refine r_istore dX0_putFrom_90 (Nat.le_of_ble_eq_true rfl) rfl s9 ?_
                    refine r_iload dX0_putFrom_92 rfl ?_
                    refine r_aloadk dX0_putFrom_94 rfl ?_
                    refine r_iload dX0_putFrom_96 rfl ?_
                    refine r_iald dX0_putFrom_98 (shp79 v hv8) (Nat.lt_of_lt_of_le (by omega : 79 + v < 92) hsD.1) rfl (by omega) ?_
                    rw [dS_lo (show 79 + v ≠ 73 by omega) (show 79 + v ≠ 90 by omega) (show 79 + v ≠ 91 by omega), hrow]
                    refine r_bipush dX0_putFrom_99 ?_
                    refine r_ishr (b := 11) dX0_putFrom_101 (by omega) (by decide) ?_
                    rw [show iv (((cN * 2 ^ 11 + s : Nat) : Int) / 2 ^ 11) = iv (cN : Int) by congr 1; omega]
                    refine r_iadd dX0_putFrom_102 ?_
                    refine r_istore dX0_putFrom_103 (Nat.le_of_ble_eq_true rfl) rfl s10 ?_
                    refine r_iload dX0_putFrom_105 rfl ?_
                    refine r_aloadk_n dX0_putFrom_107 rfl ?_
                    refine r_geti dX0_putFrom_108 fl_X0_72 rfl rfl (hsD.lt rfl) ?_
                    refine show RW _ _ _ _ _ (iv (bC st1.1) :: _) from ?_
                    refine r_icmpge (tgt := 209) dX0_putFrom_111 rfl (by omega) (by omega) (fun h111 => ?_) (fun h111 => ?_)
                    · refine Lno ?_
                      first
                      | exact fun q => by have := q.2.2; rw [hcN] at this; omega
                      | exact fun q => h125 (he1.mpr (hz.mp q.2.1).1)
                      | exact fun q => h140 (he2.mpr (hz.mp q.2.1).2)
                    · refine r_lload_n dX0_putFrom_114 rfl ?_
                      refine r_aloadk_n dX0_putFrom_115 rfl ?_
                      refine r_getr dX0_putFrom_116 fl_X0_18 rfl rfl (hsD.lt rfl) (hsD.rf rfl) ?_
                      refine r_iload dX0_putFrom_119 rfl ?_
                      refine r_lald dX0_putFrom_121 rfl (hsD.lt rfl) rfl (by omega) ?_
                      refine show RW _ _ _ _ _ (jl (σ 76 s) :: _) from ?_
                      rw [hm1]
                      refine r_land (a := U % 2 ^ 64) (b := msk s % 2 ^ 64) dX0_putFrom_122 ?_
                      refine r_lconst0 dX0_putFrom_123 ?_
                      refine r_lcmp0 (m := U % 2 ^ 64 &&& msk s % 2 ^ 64) dX0_putFrom_124 ha1 (fun z1 hz1 he1 => ?_)
                      refine r_ifne (tgt := 209) dX0_putFrom_125 rfl hz1 (fun h125 => ?_) (fun h125 => ?_)
                      · refine Lno ?_
                        first
                        | exact fun q => by have := q.2.2; rw [hcN] at this; omega
                        | exact fun q => h125 (he1.mpr (hz.mp q.2.1).1)
                        | exact fun q => h140 (he2.mpr (hz.mp q.2.1).2)
                      · refine r_lload dX0_putFrom_128 rfl ?_
                        refine r_aloadk_n dX0_putFrom_130 rfl ?_
                        refine r_getr dX0_putFrom_131 fl_X0_22 rfl rfl (hsD.lt rfl) (hsD.rf rfl) ?_
                        refine r_iload dX0_putFrom_134 rfl ?_
                        refine r_lald dX0_putFrom_136 rfl (hsD.lt rfl) rfl (by omega) ?_
                        refine show RW _ _ _ _ _ (jl (σ 77 s) :: _) from ?_
                        rw [hm2]
                        refine r_land (a := U / 2 ^ 64) (b := msk s / 2 ^ 64) dX0_putFrom_137 ?_
                        refine r_lconst0 dX0_putFrom_138 ?_
                        refine r_lcmp0 (m := U / 2 ^ 64 &&& msk s / 2 ^ 64) dX0_putFrom_139 ha2 (fun z2 hz2 he2 => ?_)
                        refine r_ifeq (tgt := 146) dX0_putFrom_140 rfl hz2 (fun h140 => ?_) (fun h140 => ?_)
                        · refine Lyes ⟨hft, hz.mpr ⟨he1.mp h125, he2.mp h140⟩, by rw [hcN]; omega⟩
                        · refine r_goto (tgt := 209) dX0_putFrom_143 rfl ?_
                          refine Lno ?_
                          first
                          | exact fun q => by have := q.2.2; rw [hcN] at this; omega
                          | exact fun q => h125 (he1.mpr (hz.mp q.2.1).1)
                          | exact fun q => h140 (he2.mpr (hz.mp q.2.1).2)
          · rw [fcn_f hft] at nx
            have nx1 := nx fl gl x9 x10 hx9
            rw [stepS_no (fun q => hft q.1)] at nx1
            exact nx1 hgl hfl
      refine Ct.of (L0 := [rf G 73, iv (v : Nat), jl (U % 2 ^ 64 : Nat), xx, jl (U / 2 ^ 64 : Nat), xx, iv cost, xx, xx, xx, xx]) (by decide +kernel) (Nat.le_of_ble_eq_true rfl) rfl ?_
      refine r_iload_n dX0_putFrom_0 rfl ?_
      refine r_aloadk_n dX0_putFrom_1 rfl ?_
      refine r_geti dX0_putFrom_2 fl_X0_92 rfl rfl (hsD.lt rfl) ?_
      refine show RW _ _ _ _ _ (iv (σ 73 4) :: _) from ?_
      rw [h4]
      refine r_icmpge (tgt := 14) dX0_putFrom_5 rfl (by omega) (by omega) (fun h5 => ?_) (fun h5 => ?_)
      · omega
      · refine r_iload_n dX0_putFrom_8 rfl ?_
        refine r_bipush dX0_putFrom_9 ?_
        refine r_icmplt (tgt := 36) dX0_putFrom_11 rfl (by omega) (by omega) (fun h11 => ?_) (fun h11 => ?_)
        · refine r_aloadk_n dX0_putFrom_36 rfl ?_
          refine r_getr dX0_putFrom_37 fl_X0_27 rfl rfl (hsD.lt rfl) (hsD.rf rfl) ?_
          refine r_iload_n dX0_putFrom_40 rfl ?_
          refine r_aald dX0_putFrom_41 rfl (hsD.lt rfl) (c := v) rfl hv8 (hsD.rf (ref78 v hv8)) ?_
          refine r_astore dX0_putFrom_42 (Nat.le_of_ble_eq_true rfl) rfl s7 ?_
          refine r_iconst dX0_putFrom_44 ?_
          refine r_istore dX0_putFrom_45 (Nat.le_of_ble_eq_true rfl) rfl s8 ?_
          exact lp nS 0 f g _ _ (by omega) rfl hg (fun _ _ => rfl)
        · omega
end Put
