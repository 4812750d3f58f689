/-! MODEL: part -/
def bstF (had rem : Nat → Int) : Nat → Int
  | 0 => -1
  | i + 1 => if had i = 0 ∧ (bstF had rem i = -1 ∨ rem (bstF had rem i).toNat < rem i) then (i : Int) else bstF had rem i
theorem bstF_arg {had rem r : Nat → Int} : ∀ N : Nat, (∀ p, p < N → (had p = 0 ∨ had p = 1) ∧ 0 ≤ rem p ∧ r p = if had p = 0 then rem p else -1) → (bstF had rem N = -1 ∧ ∀ p, p < N → had p = 1) ∨ (bstF had rem N = (argmax r N : Nat) ∧ had (argmax r N) = 0 ∧ argmax r N < N)
  | 0, _ => Or.inl ⟨rfl, fun p hp => by omega⟩
  | N + 1, h => by
    have ih := bstF_arg (r := r) N (fun p hp => h p (by omega))
    obtain ⟨h1, h2, h3⟩ := h N (by omega)
    have ea : argmax r (N + 1) = if r (argmax r N) < r N then N else argmax r N := rfl
    have eb : bstF had rem (N + 1) = if had N = 0 ∧ (bstF had rem N = -1 ∨ rem (bstF had rem N).toNat < rem N) then (N : Int) else bstF had rem N := rfl
    rcases ih with ⟨i1, i2⟩ | ⟨i1, i2, i3⟩
    · by_cases q : had N = 0
      · refine Or.inr ?_
        have e : argmax r (N + 1) = N := by
          rw [ea]
          rcases Nat.eq_zero_or_pos N with z | z
          · subst z
            show (if r 0 < r 0 then 0 else 0) = 0
            split <;> rfl
          · have hl := argmax_lt r N z
            have hr := (h (argmax r N) (by omega)).2.2
            rw [i2 _ hl, if_neg (by omega)] at hr
            rw [if_pos (by rw [hr, h3, if_pos q]; omega)]
        rw [e, eb, if_pos ⟨q, Or.inl i1⟩]
        exact ⟨rfl, q, by omega⟩
      · refine Or.inl ⟨?_, fun p hp => ?_⟩
        · rw [eb, if_neg (fun z => q z.1)]; exact i1
        · by_cases e : p = N
          · rw [e]; omega
          · exact i2 p (by omega)
    · refine Or.inr ?_
      have hr := (h (argmax r N) (by omega)).2.2
      rw [i2, if_pos rfl] at hr
      have h4 := (h (argmax r N) (by omega)).2.1
      by_cases q : had N = 0 ∧ rem (argmax r N) < rem N
      · rw [eb, if_pos ⟨q.1, Or.inr (by rw [i1, Int.toNat_natCast]; exact q.2)⟩, ea, if_pos (by rw [hr, h3, if_pos q.1]; exact q.2)]
        exact ⟨rfl, q.1, by omega⟩
      · rw [eb, if_neg (fun z => q ⟨z.1, by
          rcases z.2 with y | y
          · omega
          · rw [i1, Int.toNat_natCast] at y; exact y⟩), ea, if_neg (fun z => q (by
            rw [hr, h3] at z
            by_cases w : had N = 0
            · rw [if_pos w] at z; exact ⟨w, z⟩
            · rw [if_neg w] at z; omega))]
        exact ⟨i1, i2, by omega⟩
theorem partGo_cq {P : Nat} (hP : 0 < P) : ∀ (k : Nat) (q q' r : Nat → Int) (left : Int), (∀ p, p < P → q p = q' p) → ∀ p, p < P → partGo P k q r left p = partGo P k q' r left p
  | 0, _, _, _, _, h => h
  | k + 1, q, q', r, left, h => by
    unfold partGo
    split
    · exact h
    · refine partGo_cq hP k _ _ _ _ (ud_cg h ?_)
      rw [h _ (argmax_lt r P hP)]
theorem rem_sum {much all : Int} {by_ : Nat → Int} : ∀ N : Nat, much * sumN by_ N = all * sumN (fun p => much * by_ p / all) N + sumN (fun p => much * by_ p % all) N
  | 0 => by show much * 0 = all * 0 + 0; omega
  | N + 1 => by
    have ih := rem_sum (much := much) (all := all) (by_ := by_) N
    show much * (sumN by_ N + by_ N) = all * (sumN (fun p => much * by_ p / all) N + much * by_ N / all) + (sumN (fun p => much * by_ p % all) N + much * by_ N % all)
    have h := Int.mul_ediv_add_emod (much * by_ N) all
    rw [Int.mul_add, Int.mul_add, ih]
    omega
theorem left_r {much : Int} {by_ : Nat → Int} {P : Nat} (ha : 0 < sumN by_ P) : 0 ≤ much - sumN (fun p => much * by_ p / sumN by_ P) P ∧ much - sumN (fun p => much * by_ p / sumN by_ P) P ≤ P := by
  have h := rem_sum (much := much) (all := sumN by_ P) (by_ := by_) P
  generalize sumN by_ P = all at ha h ⊢
  have hr := sumN_r (f := fun p => much * by_ p % all) (a := 0) (b := all) P (fun i _ => ⟨Int.emod_nonneg _ (by omega), Int.le_of_lt (Int.emod_lt_of_pos _ ha)⟩)
  generalize sumN (fun p => much * by_ p / all) P = qs at h ⊢
  generalize sumN (fun p => much * by_ p % all) P = rs at h hr
  have e : (much - qs) * all = rs := by rw [Int.sub_mul, h, Int.mul_comm qs all]; omega
  constructor
  · exact Int.le_of_mul_le_mul_right (a := all) (by rw [e]; omega) ha
  · exact Int.le_of_mul_le_mul_right (a := all) (by rw [e, Int.mul_comm (P : Int) all]; exact hr.2) ha
def ifW (g w : Nat → Int) (i : Nat) : Nat → Int := fun p => if p < i then g p else w p
theorem ifW_ud {g w : Nat → Int} {i : Nat} : ud (ifW g w i) i (g i) = ifW g w (i + 1) := ud_if
theorem ifW_0 {g w : Nat → Int} : ifW g w 0 = w := by funext p; unfold ifW; rw [if_neg (by omega)]
section Model10
variable {l : Launch} {G : GG} {n : Nat} {ρ : Rho} {σ : Si} {W H P C O : Nat}
set_option maxHeartbeats 8000000 in
theorem m_parta (hs : Std n ρ) (hR : Rg σ) (hP : σ 38 10 = P) (hP8 : P ≤ 8) (much : Int) (hmu : 0 ≤ much ∧ much ≤ 1000000) (hb : ∀ p, p < P → 0 ≤ σ 60 p ∧ σ 60 p ≤ 200000) : CtV l G 0 mX9_part n ρ σ [rf G 38, iv much, rf G 60, rf G 61] (fun σ' => ∃ q had : Nat → Int, (∀ j, R32 (q j)) ∧ (∀ j, R32 (had j)) ∧ (∀ p, p < P → q p = partS much (σ 60) zF zF P p) ∧ σ' = sr (sr σ 61 q) 64 had) := by
  have hall := le_sumN (f := σ 60) (P := P) (fun p hp => (hb p hp).1) P (Nat.le_refl P)
  have hall2 := sumN_r (f := σ 60) (a := 0) (b := 200000) P hb
  have hr61 : ∀ j, R32 (σ 61 j) := hR 61 (by decide)
  have hr64 : ∀ j, R32 (σ 64 j) := hR 64 (by decide)
  have hmul : ∀ p, p < P → 0 ≤ much * σ 60 p ∧ much * σ 60 p ≤ 1000000 * 200000 := fun p hp => ⟨Int.mul_nonneg hmu.1 (hb p hp).1, Int.mul_le_mul hmu.2 (hb p hp).2 (hb p hp).1 (by omega)⟩
  generalize hQ : (fun (σ' : Si) => ∃ q had : Nat → Int, (∀ j, R32 (q j)) ∧ (∀ j, R32 (had j)) ∧ (∀ p, p < P → q p = partS much (σ 60) zF zF P p) ∧ σ' = sr (sr σ 61 q) 64 had) = Q
  have hleft := fun ha => left_r (much := much) (by_ := σ 60) (P := P) ha
  have hpS : partS much (σ 60) zF zF P = if sumN (σ 60) P ≤ 0 then zF else partGo P P (pqI much (sumN (σ 60) P) (σ 60) zF P) (prI much (sumN (σ 60) P) (σ 60) zF P) (much - sumN (fun p => much * σ 60 p / sumN (σ 60) P) P) := by unfold partS; rw [w00_zz]
  generalize hA : sumN (σ 60) P = all at hall hall2 hleft hpS
  have L3 : ∀ (lf k : Nat) (q r had : Nat → Int) (x7 x8 : Value), 0 < all → lf ≤ k → k ≤ P → sumN had P = P - k → (∀ p, p < P → 0 ≤ q p ∧ q p ≤ 1000000 + P - k) → (∀ p, P ≤ p → q p = σ 61 p) → (∀ j, R32 (had j)) → (∀ p, p < P → had p = 0 ∨ had p = 1) → (∀ p, p < P → r p = if had p = 0 then much * σ 60 p % all else -1) → isJ x7 = false → isJ x8 = false → (∀ p, p < P → partGo P k q r lf p = partS much (σ 60) zF zF P p) → RW (KV l G 0 mX9_part n ρ Q) (0, 0, n, ρ) (sr (sr σ 61 q) 64 had) 107 [rf G 38, iv much, rf G 60, rf G 61, jl all, xx, iv lf, x7, x8] [] := by
    intro lf
    induction lf with
    | zero =>
      intro k q r had x7 x8 ha hk hkP hsum hq hqo hhr hh01 hrr hx7 hx8 hgo
      have hq32 : ∀ j, R32 (q j) := fun j => by
        rcases Nat.lt_or_ge j P with z | z
        · have := hq j z; omega
        · rw [hqo j z]; exact hr61 j
      have e : partGo P k q r ((0 : Nat) : Int) = q := by
        cases k with
        | zero => rfl
        | succ k => unfold partGo; rw [if_pos (by omega)]
      rw [e] at hgo
      refine r_iload dX9_part_107 rfl ?_
      refine r_ifle (tgt := 201) dX9_part_109 rfl (by omega) (fun h109 => ?_) (fun h109 => ?_)
      · exact r_vret dX9_part_201 rfl ⟨rfl, by rw [← hQ]; exact ⟨q, had, hq32, hhr, hgo, rfl⟩⟩
      · omega
    | succ lf ih =>
      intro k q r had x7 x8 ha hk hkP hsum hq hqo hhr hh01 hrr hx7 hx8 hgo
      obtain ⟨k, rfl⟩ : ∃ k', k = k' + 1 := ⟨k - 1, by omega⟩
      have hbf : ∀ i, i ≤ P → (bstF had (fun p => much * σ 60 p % all) i = -1 ∧ ∀ p, p < i → had p = 1) ∨ (bstF had (fun p => much * σ 60 p % all) i = (argmax r i : Nat) ∧ had (argmax r i) = 0 ∧ argmax r i < i) := fun i hi => bstF_arg i (fun p hp => ⟨hh01 p (by omega), Int.emod_nonneg _ (by omega), hrr p (by omega)⟩)
      have hin : ∀ (m i : Nat), i + m = P → RW (KV l G 0 mX9_part n ρ Q) (0, 0, n, ρ) (sr (sr σ 61 q) 64 had) 118 [rf G 38, iv much, rf G 60, rf G 61, jl all, xx, iv (lf + 1 : Nat), iv (bstF had (fun p => much * σ 60 p % all) i), iv i] [] := by
        intro m
        induction m with
        | zero =>
          intro i hi
          have e : i = P := by omega
          subst e
          rcases hbf i (Nat.le_refl i) with ⟨b1, b2⟩ | ⟨b1, b2, b3⟩
          · exfalso
            have h1 := sumN_r (f := had) (a := 1) (b := 1) i (fun p hp => by have := b2 p hp; omega)
            omega
          · have hqa := hq _ b3
            have hgo2 : ∀ p, p < i → partGo i k (ud q (argmax r i) (q (argmax r i) + 1)) (ud r (argmax r i) (-1)) (lf : Nat) p = partS much (σ 60) zF zF i p := by
              intro p hp
              have h := hgo p hp
              unfold partGo at h
              rw [if_neg (by omega), show ((lf + 1 : Nat) : Int) - 1 = (lf : Nat) by omega] at h
              exact h
            rw [b1]
            refine r_iload dX9_part_118 rfl ?_
            refine r_aloadk_n dX9_part_120 rfl ?_
            refine r_geti dX9_part_121 fl_X9_139 rfl rfl (hs.lt rfl) ?_
            refine r_icmpge (tgt := 179) dX9_part_124 rfl (by omega) (by show R32 (σ 38 10); omega) (fun h124 => ?_) (fun h124 => ?_)
            · refine r_aloadk_n dX9_part_179 rfl ?_
              refine r_iload dX9_part_180 rfl ?_
              refine r_dup2 dX9_part_182 rfl rfl ?_
              refine r_iald dX9_part_183 rfl (hs.lt rfl) rfl (by omega) ?_
              refine show RW _ _ _ _ _ (iv (q (argmax r i)) :: _) from ?_
              refine r_iconst dX9_part_184 ?_
              refine r_iadd dX9_part_185 ?_
              refine r_iast dX9_part_186 rfl (hs.lt rfl) rfl (by omega) ?_
              rw [sr_comm (by omega), up_sr, sr_comm (by omega)]
              refine r_aloadk_n dX9_part_187 rfl ?_
              refine r_getr dX9_part_188 fl_X9_102 rfl rfl (hs.lt rfl) (hs.rf rfl) ?_
              refine r_iload dX9_part_191 rfl ?_
              refine r_iconst dX9_part_193 ?_
              refine r_zast dX9_part_194 rfl (hs.lt rfl) rfl (by omega) (by omega) ?_
              rw [up_sr]
              refine r_iinc dX9_part_195 (Nat.le_of_ble_eq_true rfl) rfl rfl s6 ?_
              refine r_goto (tgt := 107) dX9_part_198 rfl ?_
              rw [show ((lf + 1 : Nat) : Int) + -1 = (lf : Nat) by omega]
              refine ih k _ (ud r (argmax r i) (-1)) (ud had (argmax r i) 1) (iv (argmax r i : Nat)) (iv i) ha (by omega) (by omega) ?_ (fun p hp => ?_) (fun p hp => ?_) (ud_R (z := 1) hhr (by omega)) (fun p hp => ?_) (fun p hp => ?_) rfl rfl hgo2
              · rw [sumN_ud, if_pos b3, hsum, b2]; omega
              · unfold ud
                have := hq p hp
                split <;> omega
              · rw [ud_ne (by omega)]; exact hqo p hp
              · unfold ud
                split
                · right; rfl
                · exact hh01 p hp
              · by_cases z : p = argmax r i
                · rw [z, ud_at, ud_at, if_neg (by omega)]
                · rw [ud_ne z, ud_ne z]; exact hrr p hp
            · exact absurd h124 (by show ¬ (i : Int) < σ 38 10; omega)
        | succ m ihm =>
          intro i hi
          have hmi := hmul i (by omega)
          have hbb := hbf i (by omega)
          have hh := hh01 i (by omega)
          have nx := ihm (i + 1) (by omega)
          have eb : bstF had (fun p => much * σ 60 p % all) (i + 1) = if had i = 0 ∧ (bstF had (fun p => much * σ 60 p % all) i = -1 ∨ much * σ 60 (bstF had (fun p => much * σ 60 p % all) i).toNat % all < much * σ 60 i % all) then (i : Int) else bstF had (fun p => much * σ 60 p % all) i := rfl
          rw [eb] at nx
          have hbr : -1 ≤ bstF had (fun p => much * σ 60 p % all) i ∧ bstF had (fun p => much * σ 60 p % all) i < i := by
            rcases hbb with b | b <;> omega
          generalize bstF had (fun p => much * σ 60 p % all) i = bst at hbr nx ⊢
          have key : ∀ z : Int, z = (if had i = 0 ∧ (bst = -1 ∨ much * σ 60 bst.toNat % all < much * σ 60 i % all) then (i : Int) else bst) → RW (KV l G 0 mX9_part n ρ Q) (0, 0, n, ρ) (sr (sr σ 61 q) 64 had) 118 [rf G 38, iv much, rf G 60, rf G 61, jl all, xx, iv (lf + 1 : Nat), iv z, iv (i + 1 : Nat)] [] := fun z hz => by rw [hz]; exact nx
          have r1 := Int.emod_nonneg (much * σ 60 i) (show all ≠ 0 by omega)
          have r2 := Int.emod_lt_of_pos (much * σ 60 i) ha
          have r3 := Int.emod_nonneg (much * σ 60 bst.toNat) (show all ≠ 0 by omega)
          have r4 := Int.emod_lt_of_pos (much * σ 60 bst.toNat) ha
          refine r_iload dX9_part_118 rfl ?_
          refine r_aloadk_n dX9_part_120 rfl ?_
          refine r_geti dX9_part_121 fl_X9_139 rfl rfl (hs.lt rfl) ?_
          refine r_icmpge (tgt := 179) dX9_part_124 rfl (by omega) (by show R32 (σ 38 10); omega) (fun h124 => ?_) (fun h124 => ?_)
          · exact absurd h124 (by show ¬ σ 38 10 ≤ (i : Int); omega)
          · refine r_aloadk_n dX9_part_127 rfl ?_
            refine r_getr dX9_part_128 fl_X9_102 rfl rfl (hs.lt rfl) (hs.rf rfl) ?_
            refine r_iload dX9_part_131 rfl ?_
            refine r_zald dX9_part_133 rfl (hs.lt rfl) rfl (by omega) ?_
            refine show RW _ _ _ _ _ (iv (had i) :: _) from ?_
            refine r_ifne (tgt := 173) dX9_part_134 rfl (by omega) (fun h134 => ?_) (fun h134 => ?_)
            · refine r_iinc dX9_part_173 (Nat.le_of_ble_eq_true rfl) rfl rfl s8 ?_
              refine r_goto (tgt := 118) dX9_part_176 rfl ?_
              refine key _ ?_
              split <;> omega
            · refine r_iload dX9_part_137 rfl ?_
              refine r_iconst dX9_part_139 ?_
              refine r_icmpeq (tgt := 169) dX9_part_140 rfl (by omega) (by omega) (fun h140 => ?_) (fun h140 => ?_)
              · refine r_iload dX9_part_169 rfl ?_
                refine r_istore dX9_part_171 (Nat.le_of_ble_eq_true rfl) rfl s7 ?_
                refine r_iinc dX9_part_173 (Nat.le_of_ble_eq_true rfl) rfl rfl s8 ?_
                refine r_goto (tgt := 118) dX9_part_176 rfl ?_
                refine key _ ?_
                split <;> omega
              · have hmb := hmul bst.toNat (by omega)
                refine r_iload_n dX9_part_143 rfl ?_
                refine r_i2l dX9_part_144 (by omega) ?_
                refine r_aloadk_n dX9_part_145 rfl ?_
                refine r_iload dX9_part_146 rfl ?_
                refine r_iald dX9_part_148 rfl (hs.lt rfl) rfl (by omega) ?_
                refine r_i2l dX9_part_149 (by show R32 (σ 60 i); have := hb i (by omega); omega) ?_
                refine r_lmul dX9_part_150 ?_
                refine show RW _ _ _ _ _ (jl (much * σ 60 i) :: _) from ?_
                refine r_lload dX9_part_151 rfl ?_
                refine r_lrem dX9_part_153 (by omega) (by omega) ?_
                refine r_iload_n dX9_part_154 rfl ?_
                refine r_i2l dX9_part_155 (by omega) ?_
                refine r_aloadk_n dX9_part_156 rfl ?_
                refine r_iload dX9_part_157 rfl ?_
                refine r_iald dX9_part_159 rfl (hs.lt rfl) (c := bst.toNat) (by omega) (by omega) ?_
                refine r_i2l dX9_part_160 (by show R32 (σ 60 bst.toNat); have := hb bst.toNat (by omega); omega) ?_
                refine r_lmul dX9_part_161 ?_
                refine show RW _ _ _ _ _ (jl (much * σ 60 bst.toNat) :: _) from ?_
                refine r_lload dX9_part_162 rfl ?_
                refine r_lrem dX9_part_164 (by omega) (by omega) ?_
                refine r_lcmp dX9_part_165 (by omega) (by omega) ?_
                refine r_ifle (tgt := 173) dX9_part_166 rfl (by split <;> (try split) <;> omega) (fun h166 => ?_) (fun h166 => ?_)
                · have h166' : much * σ 60 i % all ≤ much * σ 60 bst.toNat % all := by split at h166 <;> (try split at h166) <;> omega
                  refine r_iinc dX9_part_173 (Nat.le_of_ble_eq_true rfl) rfl rfl s8 ?_
                  refine r_goto (tgt := 118) dX9_part_176 rfl ?_
                  refine key _ ?_
                  split <;> omega
                · have h166' : much * σ 60 bst.toNat % all < much * σ 60 i % all := by split at h166 <;> (try split at h166) <;> omega
                  refine r_iload dX9_part_169 rfl ?_
                  refine r_istore dX9_part_171 (Nat.le_of_ble_eq_true rfl) rfl s7 ?_
                  refine r_iinc dX9_part_173 (Nat.le_of_ble_eq_true rfl) rfl rfl s8 ?_
                  refine r_goto (tgt := 118) dX9_part_176 rfl ?_
                  refine key _ ?_
                  split <;> omega
      refine r_iload dX9_part_107 rfl ?_
      refine r_ifle (tgt := 201) dX9_part_109 rfl (by omega) (fun h109 => ?_) (fun h109 => ?_)
      · omega
      · refine r_iconst dX9_part_112 ?_
        refine r_istore dX9_part_113 (Nat.le_of_ble_eq_true rfl) rfl s7 ?_
        refine r_iconst dX9_part_115 ?_
        refine r_istore dX9_part_116 (Nat.le_of_ble_eq_true rfl) rfl s8 ?_
        exact hin P 0 (by omega)
  have L2 : ∀ (quo : Nat → Int) (lf0 : Int), (∀ p, p < P → quo p = if all = 0 then 0 else much * σ 60 p / all) → lf0 = (if all = 0 then 0 else much) → ∀ (m i : Nat) (x8 : Value), i + m = P → isJ x8 = false → RW (KV l G 0 mX9_part n ρ Q) (0, 0, n, ρ) (sr (sr σ 61 (ifW quo (σ 61) i)) 64 (ifW zF (σ 64) i)) 48 [rf G 38, iv much, rf G 60, rf G 61, jl all, xx, iv (lf0 - sumN quo i), iv i, x8] [] := by
    intro quo lf0 hquo hlf0 m
    have hqr : ∀ p, p < P → 0 ≤ quo p ∧ quo p ≤ 1000000 := fun p hp => by
      rw [hquo p hp]
      split
      · omega
      · have := quo_r hmu.1 (hb p hp).1 (show 0 < all by omega) (hall.2 p hp); omega
    have hqR : ∀ i, i ≤ P → ∀ j, R32 (ifW quo (σ 61) i j) := fun i hi j => by
      unfold ifW
      split
      · have := hqr j (by omega); omega
      · exact hr61 j
    have hhR : ∀ i j, R32 (ifW zF (σ 64) i j) := fun i j => by
      unfold ifW zF
      split
      · omega
      · exact hr64 j
    induction m with
    | zero =>
      intro i x8 hi hx8
      have e : i = P := by omega
      subst e
      have key : ∃ lf : Nat, lf0 - sumN quo i = lf ∧ ((all = 0 ∧ lf = 0) ∨ (0 < all ∧ lf ≤ i ∧ (lf : Int) = much - sumN (fun p => much * σ 60 p / all) i)) := by
        by_cases z : all = 0
        · refine ⟨0, ?_, Or.inl ⟨z, rfl⟩⟩
          have h := sumN_r (f := quo) (a := 0) (b := 0) i (fun p hp => by rw [hquo p hp, if_pos z]; omega)
          rw [hlf0, if_pos z]
          omega
        · have h1 := hleft (by omega)
          have h2 : sumN quo i = sumN (fun p => much * σ 60 p / all) i := sumN_congr i (fun p hp => by rw [hquo p hp, if_neg z])
          rw [hlf0, if_neg z, h2]
          exact ⟨(much - sumN (fun p => much * σ 60 p / all) i).toNat, by omega, Or.inr ⟨by omega, by omega, by omega⟩⟩
      obtain ⟨lf, e1, key⟩ := key
      rw [e1]
      rcases key with ⟨z, rfl⟩ | ⟨z1, z2, z3⟩
      · have hu : True := trivial
        refine r_iload dX9_part_48 rfl ?_
        refine r_aloadk_n dX9_part_50 rfl ?_
        refine r_geti dX9_part_51 fl_X9_139 rfl rfl (hs.lt rfl) ?_
        refine r_icmpge (tgt := 107) dX9_part_54 rfl (by omega) (by show R32 (σ 38 10); omega) (fun h54 => ?_) (fun h54 => ?_)
        · refine r_iload dX9_part_107 rfl ?_
          refine r_ifle (tgt := 201) dX9_part_109 rfl (by omega) (fun h109 => ?_) (fun h109 => ?_)
          · exact r_vret dX9_part_201 rfl ⟨rfl, by rw [← hQ]; exact ⟨_, _, hqR i (Nat.le_refl i), hhR i, fun p hp => by rw [hpS, if_pos (by omega)]; unfold ifW zF; rw [if_pos hp, hquo p hp, if_pos z], rfl⟩⟩
          · exact absurd h109 (by decide)
        · exact absurd h54 (by show ¬ (i : Int) < σ 38 10; omega)
      · have hu : True := trivial
        refine r_iload dX9_part_48 rfl ?_
        refine r_aloadk_n dX9_part_50 rfl ?_
        refine r_geti dX9_part_51 fl_X9_139 rfl rfl (hs.lt rfl) ?_
        refine r_icmpge (tgt := 107) dX9_part_54 rfl (by omega) (by show R32 (σ 38 10); omega) (fun h54 => ?_) (fun h54 => ?_)
        · refine L3 lf i _ (prI much all (σ 60) zF i) _ _ _ z1 z2 (Nat.le_refl i) ?_ (fun p hp => ?_) (fun p hp => ?_) (hhR i) (fun p hp => ?_) (fun p hp => ?_) rfl hx8 (fun p hp => ?_)
          · have h := sumN_r (f := ifW zF (σ 64) i) (a := 0) (b := 0) i (fun p hp => by unfold ifW zF; rw [if_pos hp]; omega)
            omega
          · unfold ifW; rw [if_pos hp]; have := hqr p hp; omega
          · unfold ifW; rw [if_neg (by omega)]
          · unfold ifW zF; rw [if_pos hp]; left; rfl
          · unfold ifW zF prI; rw [if_pos hp, if_pos hp, if_pos rfl]
          · have hi0 : 0 < i := by omega
            rw [hpS, if_neg (by omega), ← z3]
            refine partGo_cq hi0 i _ _ _ _ (fun p hp => ?_) p hp
            unfold ifW pqI
            rw [if_pos hp, if_pos hp, hquo p hp, if_neg (by omega)]
        · exact absurd h54 (by show ¬ (i : Int) < σ 38 10; omega)
    | succ m ih =>
      intro i x8 hi hx8
      have hmi := hmul i (by omega)
      have hqi := hquo i (by omega)
      have hqri := hqr i (by omega)
      have nx := ih (i + 1) x8 (by omega) hx8
      rw [← ifW_ud, ← ifW_ud, show sumN quo (i + 1) = sumN quo i + quo i from rfl, ← Int.sub_sub] at nx
      have L83 : ∀ z : Int, z = quo i → RW (KV l G 0 mX9_part n ρ Q) (0, 0, n, ρ) (sr (sr σ 61 (ifW quo (σ 61) i)) 64 (ifW zF (σ 64) i)) 83 [rf G 38, iv much, rf G 60, rf G 61, jl all, xx, iv (lf0 - sumN quo i), iv i, x8] [iv z, iv i, rf G 61] := by
        intro z hz
        subst hz
        refine r_iast dX9_part_83 rfl (hs.lt rfl) rfl (by omega) ?_
        rw [sr_comm (by omega), up_sr, sr_comm (by omega)]
        refine r_iload dX9_part_84 rfl ?_
        refine r_aloadk_n dX9_part_86 rfl ?_
        refine r_iload dX9_part_87 rfl ?_
        refine r_iald dX9_part_89 rfl (hs.lt rfl) rfl (by omega) ?_
        refine show RW _ _ _ _ _ (iv (ud (ifW quo (σ 61) i) i (quo i) i) :: _) from ?_
        rw [ud_at]
        refine r_isub dX9_part_90 ?_
        refine r_istore dX9_part_91 (Nat.le_of_ble_eq_true rfl) rfl s6 ?_
        refine r_aloadk_n dX9_part_93 rfl ?_
        refine r_getr dX9_part_94 fl_X9_102 rfl rfl (hs.lt rfl) (hs.rf rfl) ?_
        refine r_iload dX9_part_97 rfl ?_
        refine r_iconst dX9_part_99 ?_
        refine r_zast dX9_part_100 rfl (hs.lt rfl) rfl (by omega) (by omega) ?_
        refine r_iinc dX9_part_101 (Nat.le_of_ble_eq_true rfl) rfl rfl s7 ?_
        refine r_goto (tgt := 48) dX9_part_104 rfl ?_
        rw [up_sr]
        exact nx
      refine r_iload dX9_part_48 rfl ?_
      refine r_aloadk_n dX9_part_50 rfl ?_
      refine r_geti dX9_part_51 fl_X9_139 rfl rfl (hs.lt rfl) ?_
      refine r_icmpge (tgt := 107) dX9_part_54 rfl (by omega) (by show R32 (σ 38 10); omega) (fun h54 => ?_) (fun h54 => ?_)
      · exact absurd h54 (by show ¬ σ 38 10 ≤ (i : Int); omega)
      · refine r_aloadk_n dX9_part_57 rfl ?_
        refine r_iload dX9_part_58 rfl ?_
        refine r_lload dX9_part_60 rfl ?_
        refine r_lconst0 dX9_part_62 ?_
        refine r_lcmp dX9_part_63 (by omega) (by omega) ?_
        refine r_ifne (tgt := 71) dX9_part_64 rfl (by split <;> (try split) <;> omega) (fun h64 => ?_) (fun h64 => ?_)
        · have hnz : ¬ all = 0 := by split at h64 <;> (try split at h64) <;> omega
          rw [if_neg hnz] at hqi
          refine r_iload_n dX9_part_71 rfl ?_
          refine r_i2l dX9_part_72 (by omega) ?_
          refine r_aloadk_n dX9_part_73 rfl ?_
          refine r_iload dX9_part_74 rfl ?_
          refine r_iald dX9_part_76 rfl (hs.lt rfl) rfl (by omega) ?_
          refine r_i2l dX9_part_77 (by show R32 (σ 60 i); have := hb i (by omega); omega) ?_
          refine r_lmul dX9_part_78 ?_
          refine show RW _ _ _ _ _ (jl (much * σ 60 i) :: _) from ?_
          refine r_lload dX9_part_79 rfl ?_
          refine r_ldiv dX9_part_81 (by omega) (by omega) ?_
          refine r_l2i dX9_part_82 (by omega) ?_
          exact L83 _ hqi.symm
        · have hz0 : all = 0 := by split at h64 <;> (try split at h64) <;> omega
          rw [if_pos hz0] at hqi
          refine r_iconst dX9_part_67 ?_
          refine r_goto (tgt := 83) dX9_part_68 rfl ?_
          exact L83 _ hqi.symm
  have L1 : ∀ (m i : Nat), i + m = P → RW (KV l G 0 mX9_part n ρ Q) (0, 0, n, ρ) σ 6 [rf G 38, iv much, rf G 60, rf G 61, jl (sumN (σ 60) i), xx, iv i, xx, xx] [] := by
    intro m
    induction m with
    | zero =>
      intro i hi
      have e : i = P := by omega
      subst e
      rw [hA]
      have L48 : ∀ lf0 : Int, lf0 = (if all = 0 then 0 else much) → RW (KV l G 0 mX9_part n ρ Q) (0, 0, n, ρ) σ 43 [rf G 38, iv much, rf G 60, rf G 61, jl all, xx, iv i, xx, xx] [iv lf0] := by
        intro lf0 hlf0
        have h := L2 (fun p => if all = 0 then 0 else much * σ 60 p / all) lf0 (fun p _ => rfl) hlf0 i 0 xx (by omega) rfl
        rw [ifW_0, ifW_0, show sumN (fun p => if all = 0 then 0 else much * σ 60 p / all) 0 = 0 from rfl, Int.sub_zero, show sr (sr σ 61 (σ 61)) 64 (σ 64) = σ by rw [sr_self, sr_self]] at h
        refine r_istore dX9_part_43 (Nat.le_of_ble_eq_true rfl) rfl s6 ?_
        refine r_iconst dX9_part_45 ?_
        refine r_istore dX9_part_46 (Nat.le_of_ble_eq_true rfl) rfl s7 ?_
        exact h
      refine r_iload dX9_part_6 rfl ?_
      refine r_aloadk_n dX9_part_8 rfl ?_
      refine r_geti dX9_part_9 fl_X9_139 rfl rfl (hs.lt rfl) ?_
      refine r_icmpge (tgt := 31) dX9_part_12 rfl (by first | exact hR _ (Nat.le_of_ble_eq_true rfl) _ | omega) (by first | exact hR _ (Nat.le_of_ble_eq_true rfl) _ | omega) (fun h12 => ?_) (fun h12 => ?_)
      · refine r_lload dX9_part_31 rfl ?_
        refine r_lconst0 dX9_part_33 ?_
        refine r_lcmp dX9_part_34 (by omega) (by omega) ?_
        refine r_ifne (tgt := 42) dX9_part_35 rfl (by split <;> (try split) <;> omega) (fun h35 => ?_) (fun h35 => ?_)
        · have hz0 : ¬ all = 0 := by split at h35 <;> (try split at h35) <;> omega
          refine r_iload_n dX9_part_42 rfl ?_
          refine L48 _ ?_
          split <;> omega
        · have hz0 : all = 0 := by split at h35 <;> (try split at h35) <;> omega
          refine r_iconst dX9_part_38 ?_
          refine r_goto (tgt := 43) dX9_part_39 rfl ?_
          refine L48 _ ?_
          split <;> omega
      · omega
    | succ m ih =>
      intro i hi
      refine r_iload dX9_part_6 rfl ?_
      refine r_aloadk_n dX9_part_8 rfl ?_
      refine r_geti dX9_part_9 fl_X9_139 rfl rfl (hs.lt rfl) ?_
      refine r_icmpge (tgt := 31) dX9_part_12 rfl (by first | exact hR _ (Nat.le_of_ble_eq_true rfl) _ | omega) (by first | exact hR _ (Nat.le_of_ble_eq_true rfl) _ | omega) (fun h12 => ?_) (fun h12 => ?_)
      · omega
      · refine r_lload dX9_part_15 rfl ?_
        refine r_aloadk_n dX9_part_17 rfl ?_
        refine r_iload dX9_part_18 rfl ?_
        refine r_iald dX9_part_20 rfl (hs.lt rfl) rfl (by omega) ?_
        refine r_i2l dX9_part_21 (hR 60 (by decide) _) ?_
        refine r_ladd dX9_part_22 ?_
        refine r_lstore dX9_part_23 (Nat.le_of_ble_eq_true rfl) rfl w4 ?_
        refine r_iinc dX9_part_25 (Nat.le_of_ble_eq_true rfl) rfl rfl s6 ?_
        refine r_goto (tgt := 6) dX9_part_28 rfl ?_
        exact ih (i + 1) (by omega)
  refine Ct.of (L0 := [rf G 38, iv much, rf G 60, rf G 61, xx, xx, xx, xx, xx]) (by decide +kernel) (Nat.le_of_ble_eq_true rfl) rfl ?_
  refine r_lconst0 dX9_part_0 ?_
  refine r_lstore dX9_part_1 (Nat.le_of_ble_eq_true rfl) rfl w4 ?_
  refine r_iconst dX9_part_3 ?_
  refine r_istore dX9_part_4 (Nat.le_of_ble_eq_true rfl) rfl s6 ?_
  exact L1 P 0 (by omega)
set_option maxHeartbeats 8000000 in
theorem m_partb (hs : Std n ρ) (hR : Rg σ) (hP : σ 38 10 = P) (hP8 : P ≤ 8) (much : Int) (hmu : 0 ≤ much ∧ much ≤ 1000000) (hb : ∀ p, p < P → 0 ≤ σ 60 p ∧ σ 60 p ≤ 200000) : CtV l G 0 mX9_part n ρ σ [rf G 38, iv much, rf G 60, rf G 62] (fun σ' => ∃ q had : Nat → Int, (∀ j, R32 (q j)) ∧ (∀ j, R32 (had j)) ∧ (∀ p, p < P → q p = partS much (σ 60) zF zF P p) ∧ σ' = sr (sr σ 62 q) 64 had) := by
  have hall := le_sumN (f := σ 60) (P := P) (fun p hp => (hb p hp).1) P (Nat.le_refl P)
  have hall2 := sumN_r (f := σ 60) (a := 0) (b := 200000) P hb
  have hr61 : ∀ j, R32 (σ 62 j) := hR 62 (by decide)
  have hr64 : ∀ j, R32 (σ 64 j) := hR 64 (by decide)
  have hmul : ∀ p, p < P → 0 ≤ much * σ 60 p ∧ much * σ 60 p ≤ 1000000 * 200000 := fun p hp => ⟨Int.mul_nonneg hmu.1 (hb p hp).1, Int.mul_le_mul hmu.2 (hb p hp).2 (hb p hp).1 (by omega)⟩
  generalize hQ : (fun (σ' : Si) => ∃ q had : Nat → Int, (∀ j, R32 (q j)) ∧ (∀ j, R32 (had j)) ∧ (∀ p, p < P → q p = partS much (σ 60) zF zF P p) ∧ σ' = sr (sr σ 62 q) 64 had) = Q
  have hleft := fun ha => left_r (much := much) (by_ := σ 60) (P := P) ha
  have hpS : partS much (σ 60) zF zF P = if sumN (σ 60) P ≤ 0 then zF else partGo P P (pqI much (sumN (σ 60) P) (σ 60) zF P) (prI much (sumN (σ 60) P) (σ 60) zF P) (much - sumN (fun p => much * σ 60 p / sumN (σ 60) P) P) := by unfold partS; rw [w00_zz]
  generalize hA : sumN (σ 60) P = all at hall hall2 hleft hpS
  have L3 : ∀ (lf k : Nat) (q r had : Nat → Int) (x7 x8 : Value), 0 < all → lf ≤ k → k ≤ P → sumN had P = P - k → (∀ p, p < P → 0 ≤ q p ∧ q p ≤ 1000000 + P - k) → (∀ p, P ≤ p → q p = σ 62 p) → (∀ j, R32 (had j)) → (∀ p, p < P → had p = 0 ∨ had p = 1) → (∀ p, p < P → r p = if had p = 0 then much * σ 60 p % all else -1) → isJ x7 = false → isJ x8 = false → (∀ p, p < P → partGo P k q r lf p = partS much (σ 60) zF zF P p) → RW (KV l G 0 mX9_part n ρ Q) (0, 0, n, ρ) (sr (sr σ 62 q) 64 had) 107 [rf G 38, iv much, rf G 60, rf G 62, jl all, xx, iv lf, x7, x8] [] := by
    intro lf
    induction lf with
    | zero =>
      intro k q r had x7 x8 ha hk hkP hsum hq hqo hhr hh01 hrr hx7 hx8 hgo
      have hq32 : ∀ j, R32 (q j) := fun j => by
        rcases Nat.lt_or_ge j P with z | z
        · have := hq j z; omega
        · rw [hqo j z]; exact hr61 j
      have e : partGo P k q r ((0 : Nat) : Int) = q := by
        cases k with
        | zero => rfl
        | succ k => unfold partGo; rw [if_pos (by omega)]
      rw [e] at hgo
      refine r_iload dX9_part_107 rfl ?_
      refine r_ifle (tgt := 201) dX9_part_109 rfl (by omega) (fun h109 => ?_) (fun h109 => ?_)
      · exact r_vret dX9_part_201 rfl ⟨rfl, by rw [← hQ]; exact ⟨q, had, hq32, hhr, hgo, rfl⟩⟩
      · omega
    | succ lf ih =>
      intro k q r had x7 x8 ha hk hkP hsum hq hqo hhr hh01 hrr hx7 hx8 hgo
      obtain ⟨k, rfl⟩ : ∃ k', k = k' + 1 := ⟨k - 1, by omega⟩
      have hbf : ∀ i, i ≤ P → (bstF had (fun p => much * σ 60 p % all) i = -1 ∧ ∀ p, p < i → had p = 1) ∨ (bstF had (fun p => much * σ 60 p % all) i = (argmax r i : Nat) ∧ had (argmax r i) = 0 ∧ argmax r i < i) := fun i hi => bstF_arg i (fun p hp => ⟨hh01 p (by omega), Int.emod_nonneg _ (by omega), hrr p (by omega)⟩)
      have hin : ∀ (m i : Nat), i + m = P → RW (KV l G 0 mX9_part n ρ Q) (0, 0, n, ρ) (sr (sr σ 62 q) 64 had) 118 [rf G 38, iv much, rf G 60, rf G 62, jl all, xx, iv (lf + 1 : Nat), iv (bstF had (fun p => much * σ 60 p % all) i), iv i] [] := by
        intro m
        induction m with
        | zero =>
          intro i hi
          have e : i = P := by omega
          subst e
          rcases hbf i (Nat.le_refl i) with ⟨b1, b2⟩ | ⟨b1, b2, b3⟩
          · exfalso
            have h1 := sumN_r (f := had) (a := 1) (b := 1) i (fun p hp => by have := b2 p hp; omega)
            omega
          · have hqa := hq _ b3
            have hgo2 : ∀ p, p < i → partGo i k (ud q (argmax r i) (q (argmax r i) + 1)) (ud r (argmax r i) (-1)) (lf : Nat) p = partS much (σ 60) zF zF i p := by
              intro p hp
              have h := hgo p hp
              unfold partGo at h
              rw [if_neg (by omega), show ((lf + 1 : Nat) : Int) - 1 = (lf : Nat) by omega] at h
              exact h
            rw [b1]
            refine r_iload dX9_part_118 rfl ?_
            refine r_aloadk_n dX9_part_120 rfl ?_
            refine r_geti dX9_part_121 fl_X9_139 rfl rfl (hs.lt rfl) ?_
            refine r_icmpge (tgt := 179) dX9_part_124 rfl (by omega) (by show R32 (σ 38 10); omega) (fun h124 => ?_) (fun h124 => ?_)
            · refine r_aloadk_n dX9_part_179 rfl ?_
              refine r_iload dX9_part_180 rfl ?_
              refine r_dup2 dX9_part_182 rfl rfl ?_
              refine r_iald dX9_part_183 rfl (hs.lt rfl) rfl (by omega) ?_
              refine show RW _ _ _ _ _ (iv (q (argmax r i)) :: _) from ?_
              refine r_iconst dX9_part_184 ?_
              refine r_iadd dX9_part_185 ?_
              refine r_iast dX9_part_186 rfl (hs.lt rfl) rfl (by omega) ?_
              rw [sr_comm (by omega), up_sr, sr_comm (by omega)]
              refine r_aloadk_n dX9_part_187 rfl ?_
              refine r_getr dX9_part_188 fl_X9_102 rfl rfl (hs.lt rfl) (hs.rf rfl) ?_
              refine r_iload dX9_part_191 rfl ?_
              refine r_iconst dX9_part_193 ?_
              refine r_zast dX9_part_194 rfl (hs.lt rfl) rfl (by omega) (by omega) ?_
              rw [up_sr]
              refine r_iinc dX9_part_195 (Nat.le_of_ble_eq_true rfl) rfl rfl s6 ?_
              refine r_goto (tgt := 107) dX9_part_198 rfl ?_
              rw [show ((lf + 1 : Nat) : Int) + -1 = (lf : Nat) by omega]
              refine ih k _ (ud r (argmax r i) (-1)) (ud had (argmax r i) 1) (iv (argmax r i : Nat)) (iv i) ha (by omega) (by omega) ?_ (fun p hp => ?_) (fun p hp => ?_) (ud_R (z := 1) hhr (by omega)) (fun p hp => ?_) (fun p hp => ?_) rfl rfl hgo2
              · rw [sumN_ud, if_pos b3, hsum, b2]; omega
              · unfold ud
                have := hq p hp
                split <;> omega
              · rw [ud_ne (by omega)]; exact hqo p hp
              · unfold ud
                split
                · right; rfl
                · exact hh01 p hp
              · by_cases z : p = argmax r i
                · rw [z, ud_at, ud_at, if_neg (by omega)]
                · rw [ud_ne z, ud_ne z]; exact hrr p hp
            · exact absurd h124 (by show ¬ (i : Int) < σ 38 10; omega)
        | succ m ihm =>
          intro i hi
          have hmi := hmul i (by omega)
          have hbb := hbf i (by omega)
          have hh := hh01 i (by omega)
          have nx := ihm (i + 1) (by omega)
          have eb : bstF had (fun p => much * σ 60 p % all) (i + 1) = if had i = 0 ∧ (bstF had (fun p => much * σ 60 p % all) i = -1 ∨ much * σ 60 (bstF had (fun p => much * σ 60 p % all) i).toNat % all < much * σ 60 i % all) then (i : Int) else bstF had (fun p => much * σ 60 p % all) i := rfl
          rw [eb] at nx
          have hbr : -1 ≤ bstF had (fun p => much * σ 60 p % all) i ∧ bstF had (fun p => much * σ 60 p % all) i < i := by
            rcases hbb with b | b <;> omega
          generalize bstF had (fun p => much * σ 60 p % all) i = bst at hbr nx ⊢
          have key : ∀ z : Int, z = (if had i = 0 ∧ (bst = -1 ∨ much * σ 60 bst.toNat % all < much * σ 60 i % all) then (i : Int) else bst) → RW (KV l G 0 mX9_part n ρ Q) (0, 0, n, ρ) (sr (sr σ 62 q) 64 had) 118 [rf G 38, iv much, rf G 60, rf G 62, jl all, xx, iv (lf + 1 : Nat), iv z, iv (i + 1 : Nat)] [] := fun z hz => by rw [hz]; exact nx
          have r1 := Int.emod_nonneg (much * σ 60 i) (show all ≠ 0 by omega)
          have r2 := Int.emod_lt_of_pos (much * σ 60 i) ha
          have r3 := Int.emod_nonneg (much * σ 60 bst.toNat) (show all ≠ 0 by omega)
          have r4 := Int.emod_lt_of_pos (much * σ 60 bst.toNat) ha
          refine r_iload dX9_part_118 rfl ?_
          refine r_aloadk_n dX9_part_120 rfl ?_
          refine r_geti dX9_part_121 fl_X9_139 rfl rfl (hs.lt rfl) ?_
          refine r_icmpge (tgt := 179) dX9_part_124 rfl (by omega) (by show R32 (σ 38 10); omega) (fun h124 => ?_) (fun h124 => ?_)
          · exact absurd h124 (by show ¬ σ 38 10 ≤ (i : Int); omega)
          · refine r_aloadk_n dX9_part_127 rfl ?_
            refine r_getr dX9_part_128 fl_X9_102 rfl rfl (hs.lt rfl) (hs.rf rfl) ?_
            refine r_iload dX9_part_131 rfl ?_
            refine r_zald dX9_part_133 rfl (hs.lt rfl) rfl (by omega) ?_
            refine show RW _ _ _ _ _ (iv (had i) :: _) from ?_
            refine r_ifne (tgt := 173) dX9_part_134 rfl (by omega) (fun h134 => ?_) (fun h134 => ?_)
            · refine r_iinc dX9_part_173 (Nat.le_of_ble_eq_true rfl) rfl rfl s8 ?_
              refine r_goto (tgt := 118) dX9_part_176 rfl ?_
              refine key _ ?_
              split <;> omega
            · refine r_iload dX9_part_137 rfl ?_
              refine r_iconst dX9_part_139 ?_
              refine r_icmpeq (tgt := 169) dX9_part_140 rfl (by omega) (by omega) (fun h140 => ?_) (fun h140 => ?_)
              · refine r_iload dX9_part_169 rfl ?_
                refine r_istore dX9_part_171 (Nat.le_of_ble_eq_true rfl) rfl s7 ?_
                refine r_iinc dX9_part_173 (Nat.le_of_ble_eq_true rfl) rfl rfl s8 ?_
                refine r_goto (tgt := 118) dX9_part_176 rfl ?_
                refine key _ ?_
                split <;> omega
              · have hmb := hmul bst.toNat (by omega)
                refine r_iload_n dX9_part_143 rfl ?_
                refine r_i2l dX9_part_144 (by omega) ?_
                refine r_aloadk_n dX9_part_145 rfl ?_
                refine r_iload dX9_part_146 rfl ?_
                refine r_iald dX9_part_148 rfl (hs.lt rfl) rfl (by omega) ?_
                refine r_i2l dX9_part_149 (by show R32 (σ 60 i); have := hb i (by omega); omega) ?_
                refine r_lmul dX9_part_150 ?_
                refine show RW _ _ _ _ _ (jl (much * σ 60 i) :: _) from ?_
                refine r_lload dX9_part_151 rfl ?_
                refine r_lrem dX9_part_153 (by omega) (by omega) ?_
                refine r_iload_n dX9_part_154 rfl ?_
                refine r_i2l dX9_part_155 (by omega) ?_
                refine r_aloadk_n dX9_part_156 rfl ?_
                refine r_iload dX9_part_157 rfl ?_
                refine r_iald dX9_part_159 rfl (hs.lt rfl) (c := bst.toNat) (by omega) (by omega) ?_
                refine r_i2l dX9_part_160 (by show R32 (σ 60 bst.toNat); have := hb bst.toNat (by omega); omega) ?_
                refine r_lmul dX9_part_161 ?_
                refine show RW _ _ _ _ _ (jl (much * σ 60 bst.toNat) :: _) from ?_
                refine r_lload dX9_part_162 rfl ?_
                refine r_lrem dX9_part_164 (by omega) (by omega) ?_
                refine r_lcmp dX9_part_165 (by omega) (by omega) ?_
                refine r_ifle (tgt := 173) dX9_part_166 rfl (by split <;> (try split) <;> omega) (fun h166 => ?_) (fun h166 => ?_)
                · have h166' : much * σ 60 i % all ≤ much * σ 60 bst.toNat % all := by split at h166 <;> (try split at h166) <;> omega
                  refine r_iinc dX9_part_173 (Nat.le_of_ble_eq_true rfl) rfl rfl s8 ?_
                  refine r_goto (tgt := 118) dX9_part_176 rfl ?_
                  refine key _ ?_
                  split <;> omega
                · have h166' : much * σ 60 bst.toNat % all < much * σ 60 i % all := by split at h166 <;> (try split at h166) <;> omega
                  refine r_iload dX9_part_169 rfl ?_
                  refine r_istore dX9_part_171 (Nat.le_of_ble_eq_true rfl) rfl s7 ?_
                  refine r_iinc dX9_part_173 (Nat.le_of_ble_eq_true rfl) rfl rfl s8 ?_
                  refine r_goto (tgt := 118) dX9_part_176 rfl ?_
                  refine key _ ?_
                  split <;> omega
      refine r_iload dX9_part_107 rfl ?_
      refine r_ifle (tgt := 201) dX9_part_109 rfl (by omega) (fun h109 => ?_) (fun h109 => ?_)
      · omega
      · refine r_iconst dX9_part_112 ?_
        refine r_istore dX9_part_113 (Nat.le_of_ble_eq_true rfl) rfl s7 ?_
        refine r_iconst dX9_part_115 ?_
        refine r_istore dX9_part_116 (Nat.le_of_ble_eq_true rfl) rfl s8 ?_
        exact hin P 0 (by omega)
  have L2 : ∀ (quo : Nat → Int) (lf0 : Int), (∀ p, p < P → quo p = if all = 0 then 0 else much * σ 60 p / all) → lf0 = (if all = 0 then 0 else much) → ∀ (m i : Nat) (x8 : Value), i + m = P → isJ x8 = false → RW (KV l G 0 mX9_part n ρ Q) (0, 0, n, ρ) (sr (sr σ 62 (ifW quo (σ 62) i)) 64 (ifW zF (σ 64) i)) 48 [rf G 38, iv much, rf G 60, rf G 62, jl all, xx, iv (lf0 - sumN quo i), iv i, x8] [] := by
    intro quo lf0 hquo hlf0 m
    have hqr : ∀ p, p < P → 0 ≤ quo p ∧ quo p ≤ 1000000 := fun p hp => by
      rw [hquo p hp]
      split
      · omega
      · have := quo_r hmu.1 (hb p hp).1 (show 0 < all by omega) (hall.2 p hp); omega
    have hqR : ∀ i, i ≤ P → ∀ j, R32 (ifW quo (σ 62) i j) := fun i hi j => by
      unfold ifW
      split
      · have := hqr j (by omega); omega
      · exact hr61 j
    have hhR : ∀ i j, R32 (ifW zF (σ 64) i j) := fun i j => by
      unfold ifW zF
      split
      · omega
      · exact hr64 j
    induction m with
    | zero =>
      intro i x8 hi hx8
      have e : i = P := by omega
      subst e
      have key : ∃ lf : Nat, lf0 - sumN quo i = lf ∧ ((all = 0 ∧ lf = 0) ∨ (0 < all ∧ lf ≤ i ∧ (lf : Int) = much - sumN (fun p => much * σ 60 p / all) i)) := by
        by_cases z : all = 0
        · refine ⟨0, ?_, Or.inl ⟨z, rfl⟩⟩
          have h := sumN_r (f := quo) (a := 0) (b := 0) i (fun p hp => by rw [hquo p hp, if_pos z]; omega)
          rw [hlf0, if_pos z]
          omega
        · have h1 := hleft (by omega)
          have h2 : sumN quo i = sumN (fun p => much * σ 60 p / all) i := sumN_congr i (fun p hp => by rw [hquo p hp, if_neg z])
          rw [hlf0, if_neg z, h2]
          exact ⟨(much - sumN (fun p => much * σ 60 p / all) i).toNat, by omega, Or.inr ⟨by omega, by omega, by omega⟩⟩
      obtain ⟨lf, e1, key⟩ := key
      rw [e1]
      rcases key with ⟨z, rfl⟩ | ⟨z1, z2, z3⟩
      · have hu : True := trivial
        refine r_iload dX9_part_48 rfl ?_
        refine r_aloadk_n dX9_part_50 rfl ?_
        refine r_geti dX9_part_51 fl_X9_139 rfl rfl (hs.lt rfl) ?_
        refine r_icmpge (tgt := 107) dX9_part_54 rfl (by omega) (by show R32 (σ 38 10); omega) (fun h54 => ?_) (fun h54 => ?_)
        · refine r_iload dX9_part_107 rfl ?_
          refine r_ifle (tgt := 201) dX9_part_109 rfl (by omega) (fun h109 => ?_) (fun h109 => ?_)
          · exact r_vret dX9_part_201 rfl ⟨rfl, by rw [← hQ]; exact ⟨_, _, hqR i (Nat.le_refl i), hhR i, fun p hp => by rw [hpS, if_pos (by omega)]; unfold ifW zF; rw [if_pos hp, hquo p hp, if_pos z], rfl⟩⟩
          · exact absurd h109 (by decide)
        · exact absurd h54 (by show ¬ (i : Int) < σ 38 10; omega)
      · have hu : True := trivial
        refine r_iload dX9_part_48 rfl ?_
        refine r_aloadk_n dX9_part_50 rfl ?_
        refine r_geti dX9_part_51 fl_X9_139 rfl rfl (hs.lt rfl) ?_
        refine r_icmpge (tgt := 107) dX9_part_54 rfl (by omega) (by show R32 (σ 38 10); omega) (fun h54 => ?_) (fun h54 => ?_)
        · refine L3 lf i _ (prI much all (σ 60) zF i) _ _ _ z1 z2 (Nat.le_refl i) ?_ (fun p hp => ?_) (fun p hp => ?_) (hhR i) (fun p hp => ?_) (fun p hp => ?_) rfl hx8 (fun p hp => ?_)
          · have h := sumN_r (f := ifW zF (σ 64) i) (a := 0) (b := 0) i (fun p hp => by unfold ifW zF; rw [if_pos hp]; omega)
            omega
          · unfold ifW; rw [if_pos hp]; have := hqr p hp; omega
          · unfold ifW; rw [if_neg (by omega)]
          · unfold ifW zF; rw [if_pos hp]; left; rfl
          · unfold ifW zF prI; rw [if_pos hp, if_pos hp, if_pos rfl]
          · have hi0 : 0 < i := by omega
            rw [hpS, if_neg (by omega), ← z3]
            refine partGo_cq hi0 i _ _ _ _ (fun p hp => ?_) p hp
            unfold ifW pqI
            rw [if_pos hp, if_pos hp, hquo p hp, if_neg (by omega)]
        · exact absurd h54 (by show ¬ (i : Int) < σ 38 10; omega)
    | succ m ih =>
      intro i x8 hi hx8
      have hmi := hmul i (by omega)
      have hqi := hquo i (by omega)
      have hqri := hqr i (by omega)
      have nx := ih (i + 1) x8 (by omega) hx8
      rw [← ifW_ud, ← ifW_ud, show sumN quo (i + 1) = sumN quo i + quo i from rfl, ← Int.sub_sub] at nx
      have L83 : ∀ z : Int, z = quo i → RW (KV l G 0 mX9_part n ρ Q) (0, 0, n, ρ) (sr (sr σ 62 (ifW quo (σ 62) i)) 64 (ifW zF (σ 64) i)) 83 [rf G 38, iv much, rf G 60, rf G 62, jl all, xx, iv (lf0 - sumN quo i), iv i, x8] [iv z, iv i, rf G 62] := by
        intro z hz
        subst hz
        refine r_iast dX9_part_83 rfl (hs.lt rfl) rfl (by omega) ?_
        rw [sr_comm (by omega), up_sr, sr_comm (by omega)]
        refine r_iload dX9_part_84 rfl ?_
        refine r_aloadk_n dX9_part_86 rfl ?_
        refine r_iload dX9_part_87 rfl ?_
        refine r_iald dX9_part_89 rfl (hs.lt rfl) rfl (by omega) ?_
        refine show RW _ _ _ _ _ (iv (ud (ifW quo (σ 62) i) i (quo i) i) :: _) from ?_
        rw [ud_at]
        refine r_isub dX9_part_90 ?_
        refine r_istore dX9_part_91 (Nat.le_of_ble_eq_true rfl) rfl s6 ?_
        refine r_aloadk_n dX9_part_93 rfl ?_
        refine r_getr dX9_part_94 fl_X9_102 rfl rfl (hs.lt rfl) (hs.rf rfl) ?_
        refine r_iload dX9_part_97 rfl ?_
        refine r_iconst dX9_part_99 ?_
        refine r_zast dX9_part_100 rfl (hs.lt rfl) rfl (by omega) (by omega) ?_
        refine r_iinc dX9_part_101 (Nat.le_of_ble_eq_true rfl) rfl rfl s7 ?_
        refine r_goto (tgt := 48) dX9_part_104 rfl ?_
        rw [up_sr]
        exact nx
      refine r_iload dX9_part_48 rfl ?_
      refine r_aloadk_n dX9_part_50 rfl ?_
      refine r_geti dX9_part_51 fl_X9_139 rfl rfl (hs.lt rfl) ?_
      refine r_icmpge (tgt := 107) dX9_part_54 rfl (by omega) (by show R32 (σ 38 10); omega) (fun h54 => ?_) (fun h54 => ?_)
      · exact absurd h54 (by show ¬ σ 38 10 ≤ (i : Int); omega)
      · refine r_aloadk_n dX9_part_57 rfl ?_
        refine r_iload dX9_part_58 rfl ?_
        refine r_lload dX9_part_60 rfl ?_
        refine r_lconst0 dX9_part_62 ?_
        refine r_lcmp dX9_part_63 (by omega) (by omega) ?_
        refine r_ifne (tgt := 71) dX9_part_64 rfl (by split <;> (try split) <;> omega) (fun h64 => ?_) (fun h64 => ?_)
        · have hnz : ¬ all = 0 := by split at h64 <;> (try split at h64) <;> omega
          rw [if_neg hnz] at hqi
          refine r_iload_n dX9_part_71 rfl ?_
          refine r_i2l dX9_part_72 (by omega) ?_
          refine r_aloadk_n dX9_part_73 rfl ?_
          refine r_iload dX9_part_74 rfl ?_
          refine r_iald dX9_part_76 rfl (hs.lt rfl) rfl (by omega) ?_
          refine r_i2l dX9_part_77 (by show R32 (σ 60 i); have := hb i (by omega); omega) ?_
          refine r_lmul dX9_part_78 ?_
          refine show RW _ _ _ _ _ (jl (much * σ 60 i) :: _) from ?_
          refine r_lload dX9_part_79 rfl ?_
          refine r_ldiv dX9_part_81 (by omega) (by omega) ?_
          refine r_l2i dX9_part_82 (by omega) ?_
          exact L83 _ hqi.symm
        · have hz0 : all = 0 := by split at h64 <;> (try split at h64) <;> omega
          rw [if_pos hz0] at hqi
          refine r_iconst dX9_part_67 ?_
          refine r_goto (tgt := 83) dX9_part_68 rfl ?_
          exact L83 _ hqi.symm
  have L1 : ∀ (m i : Nat), i + m = P → RW (KV l G 0 mX9_part n ρ Q) (0, 0, n, ρ) σ 6 [rf G 38, iv much, rf G 60, rf G 62, jl (sumN (σ 60) i), xx, iv i, xx, xx] [] := by
    intro m
    induction m with
    | zero =>
      intro i hi
      have e : i = P := by omega
      subst e
      rw [hA]
      have L48 : ∀ lf0 : Int, lf0 = (if all = 0 then 0 else much) → RW (KV l G 0 mX9_part n ρ Q) (0, 0, n, ρ) σ 43 [rf G 38, iv much, rf G 60, rf G 62, jl all, xx, iv i, xx, xx] [iv lf0] := by
        intro lf0 hlf0
        have h := L2 (fun p => if all = 0 then 0 else much * σ 60 p / all) lf0 (fun p _ => rfl) hlf0 i 0 xx (by omega) rfl
        rw [ifW_0, ifW_0, show sumN (fun p => if all = 0 then 0 else much * σ 60 p / all) 0 = 0 from rfl, Int.sub_zero, show sr (sr σ 62 (σ 62)) 64 (σ 64) = σ by rw [sr_self, sr_self]] at h
        refine r_istore dX9_part_43 (Nat.le_of_ble_eq_true rfl) rfl s6 ?_
        refine r_iconst dX9_part_45 ?_
        refine r_istore dX9_part_46 (Nat.le_of_ble_eq_true rfl) rfl s7 ?_
        exact h
      refine r_iload dX9_part_6 rfl ?_
      refine r_aloadk_n dX9_part_8 rfl ?_
      refine r_geti dX9_part_9 fl_X9_139 rfl rfl (hs.lt rfl) ?_
      refine r_icmpge (tgt := 31) dX9_part_12 rfl (by first | exact hR _ (Nat.le_of_ble_eq_true rfl) _ | omega) (by first | exact hR _ (Nat.le_of_ble_eq_true rfl) _ | omega) (fun h12 => ?_) (fun h12 => ?_)
      · refine r_lload dX9_part_31 rfl ?_
        refine r_lconst0 dX9_part_33 ?_
        refine r_lcmp dX9_part_34 (by omega) (by omega) ?_
        refine r_ifne (tgt := 42) dX9_part_35 rfl (by split <;> (try split) <;> omega) (fun h35 => ?_) (fun h35 => ?_)
        · have hz0 : ¬ all = 0 := by split at h35 <;> (try split at h35) <;> omega
          refine r_iload_n dX9_part_42 rfl ?_
          refine L48 _ ?_
          split <;> omega
        · have hz0 : all = 0 := by split at h35 <;> (try split at h35) <;> omega
          refine r_iconst dX9_part_38 ?_
          refine r_goto (tgt := 43) dX9_part_39 rfl ?_
          refine L48 _ ?_
          split <;> omega
      · omega
    | succ m ih =>
      intro i hi
      refine r_iload dX9_part_6 rfl ?_
      refine r_aloadk_n dX9_part_8 rfl ?_
      refine r_geti dX9_part_9 fl_X9_139 rfl rfl (hs.lt rfl) ?_
      refine r_icmpge (tgt := 31) dX9_part_12 rfl (by first | exact hR _ (Nat.le_of_ble_eq_true rfl) _ | omega) (by first | exact hR _ (Nat.le_of_ble_eq_true rfl) _ | omega) (fun h12 => ?_) (fun h12 => ?_)
      · omega
      · refine r_lload dX9_part_15 rfl ?_
        refine r_aloadk_n dX9_part_17 rfl ?_
        refine r_iload dX9_part_18 rfl ?_
        refine r_iald dX9_part_20 rfl (hs.lt rfl) rfl (by omega) ?_
        refine r_i2l dX9_part_21 (hR 60 (by decide) _) ?_
        refine r_ladd dX9_part_22 ?_
        refine r_lstore dX9_part_23 (Nat.le_of_ble_eq_true rfl) rfl w4 ?_
        refine r_iinc dX9_part_25 (Nat.le_of_ble_eq_true rfl) rfl rfl s6 ?_
        refine r_goto (tgt := 6) dX9_part_28 rfl ?_
        exact ih (i + 1) (by omega)
  refine Ct.of (L0 := [rf G 38, iv much, rf G 60, rf G 62, xx, xx, xx, xx, xx]) (by decide +kernel) (Nat.le_of_ble_eq_true rfl) rfl ?_
  refine r_lconst0 dX9_part_0 ?_
  refine r_lstore dX9_part_1 (Nat.le_of_ble_eq_true rfl) rfl w4 ?_
  refine r_iconst dX9_part_3 ?_
  refine r_istore dX9_part_4 (Nat.le_of_ble_eq_true rfl) rfl s6 ?_
  exact L1 P 0 (by omega)
set_option maxHeartbeats 8000000 in
theorem m_partc (hs : Std n ρ) (hR : Rg σ) (hP : σ 38 10 = P) (hP8 : P ≤ 8) (much : Int) (hmu : 0 ≤ much ∧ much ≤ 1000000) (hb : ∀ p, p < P → 0 ≤ σ 61 p ∧ σ 61 p ≤ 200000) : CtV l G 0 mX9_part n ρ σ [rf G 38, iv much, rf G 61, rf G 63] (fun σ' => ∃ q had : Nat → Int, (∀ j, R32 (q j)) ∧ (∀ j, R32 (had j)) ∧ (∀ p, p < P → q p = partS much (σ 61) zF zF P p) ∧ σ' = sr (sr σ 63 q) 64 had) := by
  have hall := le_sumN (f := σ 61) (P := P) (fun p hp => (hb p hp).1) P (Nat.le_refl P)
  have hall2 := sumN_r (f := σ 61) (a := 0) (b := 200000) P hb
  have hr61 : ∀ j, R32 (σ 63 j) := hR 63 (by decide)
  have hr64 : ∀ j, R32 (σ 64 j) := hR 64 (by decide)
  have hmul : ∀ p, p < P → 0 ≤ much * σ 61 p ∧ much * σ 61 p ≤ 1000000 * 200000 := fun p hp => ⟨Int.mul_nonneg hmu.1 (hb p hp).1, Int.mul_le_mul hmu.2 (hb p hp).2 (hb p hp).1 (by omega)⟩
  generalize hQ : (fun (σ' : Si) => ∃ q had : Nat → Int, (∀ j, R32 (q j)) ∧ (∀ j, R32 (had j)) ∧ (∀ p, p < P → q p = partS much (σ 61) zF zF P p) ∧ σ' = sr (sr σ 63 q) 64 had) = Q
  have hleft := fun ha => left_r (much := much) (by_ := σ 61) (P := P) ha
  have hpS : partS much (σ 61) zF zF P = if sumN (σ 61) P ≤ 0 then zF else partGo P P (pqI much (sumN (σ 61) P) (σ 61) zF P) (prI much (sumN (σ 61) P) (σ 61) zF P) (much - sumN (fun p => much * σ 61 p / sumN (σ 61) P) P) := by unfold partS; rw [w00_zz]
  generalize hA : sumN (σ 61) P = all at hall hall2 hleft hpS
  have L3 : ∀ (lf k : Nat) (q r had : Nat → Int) (x7 x8 : Value), 0 < all → lf ≤ k → k ≤ P → sumN had P = P - k → (∀ p, p < P → 0 ≤ q p ∧ q p ≤ 1000000 + P - k) → (∀ p, P ≤ p → q p = σ 63 p) → (∀ j, R32 (had j)) → (∀ p, p < P → had p = 0 ∨ had p = 1) → (∀ p, p < P → r p = if had p = 0 then much * σ 61 p % all else -1) → isJ x7 = false → isJ x8 = false → (∀ p, p < P → partGo P k q r lf p = partS much (σ 61) zF zF P p) → RW (KV l G 0 mX9_part n ρ Q) (0, 0, n, ρ) (sr (sr σ 63 q) 64 had) 107 [rf G 38, iv much, rf G 61, rf G 63, jl all, xx, iv lf, x7, x8] [] := by
    intro lf
    induction lf with
    | zero =>
      intro k q r had x7 x8 ha hk hkP hsum hq hqo hhr hh01 hrr hx7 hx8 hgo
      have hq32 : ∀ j, R32 (q j) := fun j => by
        rcases Nat.lt_or_ge j P with z | z
        · have := hq j z; omega
        · rw [hqo j z]; exact hr61 j
      have e : partGo P k q r ((0 : Nat) : Int) = q := by
        cases k with
        | zero => rfl
        | succ k => unfold partGo; rw [if_pos (by omega)]
      rw [e] at hgo
      refine r_iload dX9_part_107 rfl ?_
      refine r_ifle (tgt := 201) dX9_part_109 rfl (by omega) (fun h109 => ?_) (fun h109 => ?_)
      · exact r_vret dX9_part_201 rfl ⟨rfl, by rw [← hQ]; exact ⟨q, had, hq32, hhr, hgo, rfl⟩⟩
      · omega
    | succ lf ih =>
      intro k q r had x7 x8 ha hk hkP hsum hq hqo hhr hh01 hrr hx7 hx8 hgo
      obtain ⟨k, rfl⟩ : ∃ k', k = k' + 1 := ⟨k - 1, by omega⟩
      have hbf : ∀ i, i ≤ P → (bstF had (fun p => much * σ 61 p % all) i = -1 ∧ ∀ p, p < i → had p = 1) ∨ (bstF had (fun p => much * σ 61 p % all) i = (argmax r i : Nat) ∧ had (argmax r i) = 0 ∧ argmax r i < i) := fun i hi => bstF_arg i (fun p hp => ⟨hh01 p (by omega), Int.emod_nonneg _ (by omega), hrr p (by omega)⟩)
      have hin : ∀ (m i : Nat), i + m = P → RW (KV l G 0 mX9_part n ρ Q) (0, 0, n, ρ) (sr (sr σ 63 q) 64 had) 118 [rf G 38, iv much, rf G 61, rf G 63, jl all, xx, iv (lf + 1 : Nat), iv (bstF had (fun p => much * σ 61 p % all) i), iv i] [] := by
        intro m
        induction m with
        | zero =>
          intro i hi
          have e : i = P := by omega
          subst e
          rcases hbf i (Nat.le_refl i) with ⟨b1, b2⟩ | ⟨b1, b2, b3⟩
          · exfalso
            have h1 := sumN_r (f := had) (a := 1) (b := 1) i (fun p hp => by have := b2 p hp; omega)
            omega
          · have hqa := hq _ b3
            have hgo2 : ∀ p, p < i → partGo i k (ud q (argmax r i) (q (argmax r i) + 1)) (ud r (argmax r i) (-1)) (lf : Nat) p = partS much (σ 61) zF zF i p := by
              intro p hp
              have h := hgo p hp
              unfold partGo at h
              rw [if_neg (by omega), show ((lf + 1 : Nat) : Int) - 1 = (lf : Nat) by omega] at h
              exact h
            rw [b1]
            refine r_iload dX9_part_118 rfl ?_
            refine r_aloadk_n dX9_part_120 rfl ?_
            refine r_geti dX9_part_121 fl_X9_139 rfl rfl (hs.lt rfl) ?_
            refine r_icmpge (tgt := 179) dX9_part_124 rfl (by omega) (by show R32 (σ 38 10); omega) (fun h124 => ?_) (fun h124 => ?_)
            · refine r_aloadk_n dX9_part_179 rfl ?_
              refine r_iload dX9_part_180 rfl ?_
              refine r_dup2 dX9_part_182 rfl rfl ?_
              refine r_iald dX9_part_183 rfl (hs.lt rfl) rfl (by omega) ?_
              refine show RW _ _ _ _ _ (iv (q (argmax r i)) :: _) from ?_
              refine r_iconst dX9_part_184 ?_
              refine r_iadd dX9_part_185 ?_
              refine r_iast dX9_part_186 rfl (hs.lt rfl) rfl (by omega) ?_
              rw [sr_comm (by omega), up_sr, sr_comm (by omega)]
              refine r_aloadk_n dX9_part_187 rfl ?_
              refine r_getr dX9_part_188 fl_X9_102 rfl rfl (hs.lt rfl) (hs.rf rfl) ?_
              refine r_iload dX9_part_191 rfl ?_
              refine r_iconst dX9_part_193 ?_
              refine r_zast dX9_part_194 rfl (hs.lt rfl) rfl (by omega) (by omega) ?_
              rw [up_sr]
              refine r_iinc dX9_part_195 (Nat.le_of_ble_eq_true rfl) rfl rfl s6 ?_
              refine r_goto (tgt := 107) dX9_part_198 rfl ?_
              rw [show ((lf + 1 : Nat) : Int) + -1 = (lf : Nat) by omega]
              refine ih k _ (ud r (argmax r i) (-1)) (ud had (argmax r i) 1) (iv (argmax r i : Nat)) (iv i) ha (by omega) (by omega) ?_ (fun p hp => ?_) (fun p hp => ?_) (ud_R (z := 1) hhr (by omega)) (fun p hp => ?_) (fun p hp => ?_) rfl rfl hgo2
              · rw [sumN_ud, if_pos b3, hsum, b2]; omega
              · unfold ud
                have := hq p hp
                split <;> omega
              · rw [ud_ne (by omega)]; exact hqo p hp
              · unfold ud
                split
                · right; rfl
                · exact hh01 p hp
              · by_cases z : p = argmax r i
                · rw [z, ud_at, ud_at, if_neg (by omega)]
                · rw [ud_ne z, ud_ne z]; exact hrr p hp
            · exact absurd h124 (by show ¬ (i : Int) < σ 38 10; omega)
        | succ m ihm =>
          intro i hi
          have hmi := hmul i (by omega)
          have hbb := hbf i (by omega)
          have hh := hh01 i (by omega)
          have nx := ihm (i + 1) (by omega)
          have eb : bstF had (fun p => much * σ 61 p % all) (i + 1) = if had i = 0 ∧ (bstF had (fun p => much * σ 61 p % all) i = -1 ∨ much * σ 61 (bstF had (fun p => much * σ 61 p % all) i).toNat % all < much * σ 61 i % all) then (i : Int) else bstF had (fun p => much * σ 61 p % all) i := rfl
          rw [eb] at nx
          have hbr : -1 ≤ bstF had (fun p => much * σ 61 p % all) i ∧ bstF had (fun p => much * σ 61 p % all) i < i := by
            rcases hbb with b | b <;> omega
          generalize bstF had (fun p => much * σ 61 p % all) i = bst at hbr nx ⊢
          have key : ∀ z : Int, z = (if had i = 0 ∧ (bst = -1 ∨ much * σ 61 bst.toNat % all < much * σ 61 i % all) then (i : Int) else bst) → RW (KV l G 0 mX9_part n ρ Q) (0, 0, n, ρ) (sr (sr σ 63 q) 64 had) 118 [rf G 38, iv much, rf G 61, rf G 63, jl all, xx, iv (lf + 1 : Nat), iv z, iv (i + 1 : Nat)] [] := fun z hz => by rw [hz]; exact nx
          have r1 := Int.emod_nonneg (much * σ 61 i) (show all ≠ 0 by omega)
          have r2 := Int.emod_lt_of_pos (much * σ 61 i) ha
          have r3 := Int.emod_nonneg (much * σ 61 bst.toNat) (show all ≠ 0 by omega)
          have r4 := Int.emod_lt_of_pos (much * σ 61 bst.toNat) ha
          refine r_iload dX9_part_118 rfl ?_
          refine r_aloadk_n dX9_part_120 rfl ?_
          refine r_geti dX9_part_121 fl_X9_139 rfl rfl (hs.lt rfl) ?_
          refine r_icmpge (tgt := 179) dX9_part_124 rfl (by omega) (by show R32 (σ 38 10); omega) (fun h124 => ?_) (fun h124 => ?_)
          · exact absurd h124 (by show ¬ σ 38 10 ≤ (i : Int); omega)
          · refine r_aloadk_n dX9_part_127 rfl ?_
            refine r_getr dX9_part_128 fl_X9_102 rfl rfl (hs.lt rfl) (hs.rf rfl) ?_
            refine r_iload dX9_part_131 rfl ?_
            refine r_zald dX9_part_133 rfl (hs.lt rfl) rfl (by omega) ?_
            refine show RW _ _ _ _ _ (iv (had i) :: _) from ?_
            refine r_ifne (tgt := 173) dX9_part_134 rfl (by omega) (fun h134 => ?_) (fun h134 => ?_)
            · refine r_iinc dX9_part_173 (Nat.le_of_ble_eq_true rfl) rfl rfl s8 ?_
              refine r_goto (tgt := 118) dX9_part_176 rfl ?_
              refine key _ ?_
              split <;> omega
            · refine r_iload dX9_part_137 rfl ?_
              refine r_iconst dX9_part_139 ?_
              refine r_icmpeq (tgt := 169) dX9_part_140 rfl (by omega) (by omega) (fun h140 => ?_) (fun h140 => ?_)
              · refine r_iload dX9_part_169 rfl ?_
                refine r_istore dX9_part_171 (Nat.le_of_ble_eq_true rfl) rfl s7 ?_
                refine r_iinc dX9_part_173 (Nat.le_of_ble_eq_true rfl) rfl rfl s8 ?_
                refine r_goto (tgt := 118) dX9_part_176 rfl ?_
                refine key _ ?_
                split <;> omega
              · have hmb := hmul bst.toNat (by omega)
                refine r_iload_n dX9_part_143 rfl ?_
                refine r_i2l dX9_part_144 (by omega) ?_
                refine r_aloadk_n dX9_part_145 rfl ?_
                refine r_iload dX9_part_146 rfl ?_
                refine r_iald dX9_part_148 rfl (hs.lt rfl) rfl (by omega) ?_
                refine r_i2l dX9_part_149 (by show R32 (σ 61 i); have := hb i (by omega); omega) ?_
                refine r_lmul dX9_part_150 ?_
                refine show RW _ _ _ _ _ (jl (much * σ 61 i) :: _) from ?_
                refine r_lload dX9_part_151 rfl ?_
                refine r_lrem dX9_part_153 (by omega) (by omega) ?_
                refine r_iload_n dX9_part_154 rfl ?_
                refine r_i2l dX9_part_155 (by omega) ?_
                refine r_aloadk_n dX9_part_156 rfl ?_
                refine r_iload dX9_part_157 rfl ?_
                refine r_iald dX9_part_159 rfl (hs.lt rfl) (c := bst.toNat) (by omega) (by omega) ?_
                refine r_i2l dX9_part_160 (by show R32 (σ 61 bst.toNat); have := hb bst.toNat (by omega); omega) ?_
                refine r_lmul dX9_part_161 ?_
                refine show RW _ _ _ _ _ (jl (much * σ 61 bst.toNat) :: _) from ?_
                refine r_lload dX9_part_162 rfl ?_
                refine r_lrem dX9_part_164 (by omega) (by omega) ?_
                refine r_lcmp dX9_part_165 (by omega) (by omega) ?_
                refine r_ifle (tgt := 173) dX9_part_166 rfl (by split <;> (try split) <;> omega) (fun h166 => ?_) (fun h166 => ?_)
                · have h166' : much * σ 61 i % all ≤ much * σ 61 bst.toNat % all := by split at h166 <;> (try split at h166) <;> omega
                  refine r_iinc dX9_part_173 (Nat.le_of_ble_eq_true rfl) rfl rfl s8 ?_
                  refine r_goto (tgt := 118) dX9_part_176 rfl ?_
                  refine key _ ?_
                  split <;> omega
                · have h166' : much * σ 61 bst.toNat % all < much * σ 61 i % all := by split at h166 <;> (try split at h166) <;> omega
                  refine r_iload dX9_part_169 rfl ?_
                  refine r_istore dX9_part_171 (Nat.le_of_ble_eq_true rfl) rfl s7 ?_
                  refine r_iinc dX9_part_173 (Nat.le_of_ble_eq_true rfl) rfl rfl s8 ?_
                  refine r_goto (tgt := 118) dX9_part_176 rfl ?_
                  refine key _ ?_
                  split <;> omega
      refine r_iload dX9_part_107 rfl ?_
      refine r_ifle (tgt := 201) dX9_part_109 rfl (by omega) (fun h109 => ?_) (fun h109 => ?_)
      · omega
      · refine r_iconst dX9_part_112 ?_
        refine r_istore dX9_part_113 (Nat.le_of_ble_eq_true rfl) rfl s7 ?_
        refine r_iconst dX9_part_115 ?_
        refine r_istore dX9_part_116 (Nat.le_of_ble_eq_true rfl) rfl s8 ?_
        exact hin P 0 (by omega)
  have L2 : ∀ (quo : Nat → Int) (lf0 : Int), (∀ p, p < P → quo p = if all = 0 then 0 else much * σ 61 p / all) → lf0 = (if all = 0 then 0 else much) → ∀ (m i : Nat) (x8 : Value), i + m = P → isJ x8 = false → RW (KV l G 0 mX9_part n ρ Q) (0, 0, n, ρ) (sr (sr σ 63 (ifW quo (σ 63) i)) 64 (ifW zF (σ 64) i)) 48 [rf G 38, iv much, rf G 61, rf G 63, jl all, xx, iv (lf0 - sumN quo i), iv i, x8] [] := by
    intro quo lf0 hquo hlf0 m
    have hqr : ∀ p, p < P → 0 ≤ quo p ∧ quo p ≤ 1000000 := fun p hp => by
      rw [hquo p hp]
      split
      · omega
      · have := quo_r hmu.1 (hb p hp).1 (show 0 < all by omega) (hall.2 p hp); omega
    have hqR : ∀ i, i ≤ P → ∀ j, R32 (ifW quo (σ 63) i j) := fun i hi j => by
      unfold ifW
      split
      · have := hqr j (by omega); omega
      · exact hr61 j
    have hhR : ∀ i j, R32 (ifW zF (σ 64) i j) := fun i j => by
      unfold ifW zF
      split
      · omega
      · exact hr64 j
    induction m with
    | zero =>
      intro i x8 hi hx8
      have e : i = P := by omega
      subst e
      have key : ∃ lf : Nat, lf0 - sumN quo i = lf ∧ ((all = 0 ∧ lf = 0) ∨ (0 < all ∧ lf ≤ i ∧ (lf : Int) = much - sumN (fun p => much * σ 61 p / all) i)) := by
        by_cases z : all = 0
        · refine ⟨0, ?_, Or.inl ⟨z, rfl⟩⟩
          have h := sumN_r (f := quo) (a := 0) (b := 0) i (fun p hp => by rw [hquo p hp, if_pos z]; omega)
          rw [hlf0, if_pos z]
          omega
        · have h1 := hleft (by omega)
          have h2 : sumN quo i = sumN (fun p => much * σ 61 p / all) i := sumN_congr i (fun p hp => by rw [hquo p hp, if_neg z])
          rw [hlf0, if_neg z, h2]
          exact ⟨(much - sumN (fun p => much * σ 61 p / all) i).toNat, by omega, Or.inr ⟨by omega, by omega, by omega⟩⟩
      obtain ⟨lf, e1, key⟩ := key
      rw [e1]
      rcases key with ⟨z, rfl⟩ | ⟨z1, z2, z3⟩
      · have hu : True := trivial
        refine r_iload dX9_part_48 rfl ?_
        refine r_aloadk_n dX9_part_50 rfl ?_
        refine r_geti dX9_part_51 fl_X9_139 rfl rfl (hs.lt rfl) ?_
        refine r_icmpge (tgt := 107) dX9_part_54 rfl (by omega) (by show R32 (σ 38 10); omega) (fun h54 => ?_) (fun h54 => ?_)
        · refine r_iload dX9_part_107 rfl ?_
          refine r_ifle (tgt := 201) dX9_part_109 rfl (by omega) (fun h109 => ?_) (fun h109 => ?_)
          · exact r_vret dX9_part_201 rfl ⟨rfl, by rw [← hQ]; exact ⟨_, _, hqR i (Nat.le_refl i), hhR i, fun p hp => by rw [hpS, if_pos (by omega)]; unfold ifW zF; rw [if_pos hp, hquo p hp, if_pos z], rfl⟩⟩
          · exact absurd h109 (by decide)
        · exact absurd h54 (by show ¬ (i : Int) < σ 38 10; omega)
      · have hu : True := trivial
        refine r_iload dX9_part_48 rfl ?_
        refine r_aloadk_n dX9_part_50 rfl ?_
        refine r_geti dX9_part_51 fl_X9_139 rfl rfl (hs.lt rfl) ?_
        refine r_icmpge (tgt := 107) dX9_part_54 rfl (by omega) (by show R32 (σ 38 10); omega) (fun h54 => ?_) (fun h54 => ?_)
        · refine L3 lf i _ (prI much all (σ 61) zF i) _ _ _ z1 z2 (Nat.le_refl i) ?_ (fun p hp => ?_) (fun p hp => ?_) (hhR i) (fun p hp => ?_) (fun p hp => ?_) rfl hx8 (fun p hp => ?_)
          · have h := sumN_r (f := ifW zF (σ 64) i) (a := 0) (b := 0) i (fun p hp => by unfold ifW zF; rw [if_pos hp]; omega)
            omega
          · unfold ifW; rw [if_pos hp]; have := hqr p hp; omega
          · unfold ifW; rw [if_neg (by omega)]
          · unfold ifW zF; rw [if_pos hp]; left; rfl
          · unfold ifW zF prI; rw [if_pos hp, if_pos hp, if_pos rfl]
          · have hi0 : 0 < i := by omega
            rw [hpS, if_neg (by omega), ← z3]
            refine partGo_cq hi0 i _ _ _ _ (fun p hp => ?_) p hp
            unfold ifW pqI
            rw [if_pos hp, if_pos hp, hquo p hp, if_neg (by omega)]
        · exact absurd h54 (by show ¬ (i : Int) < σ 38 10; omega)
    | succ m ih =>
      intro i x8 hi hx8
      have hmi := hmul i (by omega)
      have hqi := hquo i (by omega)
      have hqri := hqr i (by omega)
      have nx := ih (i + 1) x8 (by omega) hx8
      rw [← ifW_ud, ← ifW_ud, show sumN quo (i + 1) = sumN quo i + quo i from rfl, ← Int.sub_sub] at nx
      have L83 : ∀ z : Int, z = quo i → RW (KV l G 0 mX9_part n ρ Q) (0, 0, n, ρ) (sr (sr σ 63 (ifW quo (σ 63) i)) 64 (ifW zF (σ 64) i)) 83 [rf G 38, iv much, rf G 61, rf G 63, jl all, xx, iv (lf0 - sumN quo i), iv i, x8] [iv z, iv i, rf G 63] := by
        intro z hz
        subst hz
        refine r_iast dX9_part_83 rfl (hs.lt rfl) rfl (by omega) ?_
        rw [sr_comm (by omega), up_sr, sr_comm (by omega)]
        refine r_iload dX9_part_84 rfl ?_
        refine r_aloadk_n dX9_part_86 rfl ?_
        refine r_iload dX9_part_87 rfl ?_
        refine r_iald dX9_part_89 rfl (hs.lt rfl) rfl (by omega) ?_
        refine show RW _ _ _ _ _ (iv (ud (ifW quo (σ 63) i) i (quo i) i) :: _) from ?_
        rw [ud_at]
        refine r_isub dX9_part_90 ?_
        refine r_istore dX9_part_91 (Nat.le_of_ble_eq_true rfl) rfl s6 ?_
        refine r_aloadk_n dX9_part_93 rfl ?_
        refine r_getr dX9_part_94 fl_X9_102 rfl rfl (hs.lt rfl) (hs.rf rfl) ?_
        refine r_iload dX9_part_97 rfl ?_
        refine r_iconst dX9_part_99 ?_
        refine r_zast dX9_part_100 rfl (hs.lt rfl) rfl (by omega) (by omega) ?_
        refine r_iinc dX9_part_101 (Nat.le_of_ble_eq_true rfl) rfl rfl s7 ?_
        refine r_goto (tgt := 48) dX9_part_104 rfl ?_
        rw [up_sr]
        exact nx
      refine r_iload dX9_part_48 rfl ?_
      refine r_aloadk_n dX9_part_50 rfl ?_
      refine r_geti dX9_part_51 fl_X9_139 rfl rfl (hs.lt rfl) ?_
      refine r_icmpge (tgt := 107) dX9_part_54 rfl (by omega) (by show R32 (σ 38 10); omega) (fun h54 => ?_) (fun h54 => ?_)
      · exact absurd h54 (by show ¬ σ 38 10 ≤ (i : Int); omega)
      · refine r_aloadk_n dX9_part_57 rfl ?_
        refine r_iload dX9_part_58 rfl ?_
        refine r_lload dX9_part_60 rfl ?_
        refine r_lconst0 dX9_part_62 ?_
        refine r_lcmp dX9_part_63 (by omega) (by omega) ?_
        refine r_ifne (tgt := 71) dX9_part_64 rfl (by split <;> (try split) <;> omega) (fun h64 => ?_) (fun h64 => ?_)
        · have hnz : ¬ all = 0 := by split at h64 <;> (try split at h64) <;> omega
          rw [if_neg hnz] at hqi
          refine r_iload_n dX9_part_71 rfl ?_
          refine r_i2l dX9_part_72 (by omega) ?_
          refine r_aloadk_n dX9_part_73 rfl ?_
          refine r_iload dX9_part_74 rfl ?_
          refine r_iald dX9_part_76 rfl (hs.lt rfl) rfl (by omega) ?_
          refine r_i2l dX9_part_77 (by show R32 (σ 61 i); have := hb i (by omega); omega) ?_
          refine r_lmul dX9_part_78 ?_
          refine show RW _ _ _ _ _ (jl (much * σ 61 i) :: _) from ?_
          refine r_lload dX9_part_79 rfl ?_
          refine r_ldiv dX9_part_81 (by omega) (by omega) ?_
          refine r_l2i dX9_part_82 (by omega) ?_
          exact L83 _ hqi.symm
        · have hz0 : all = 0 := by split at h64 <;> (try split at h64) <;> omega
          rw [if_pos hz0] at hqi
          refine r_iconst dX9_part_67 ?_
          refine r_goto (tgt := 83) dX9_part_68 rfl ?_
          exact L83 _ hqi.symm
  have L1 : ∀ (m i : Nat), i + m = P → RW (KV l G 0 mX9_part n ρ Q) (0, 0, n, ρ) σ 6 [rf G 38, iv much, rf G 61, rf G 63, jl (sumN (σ 61) i), xx, iv i, xx, xx] [] := by
    intro m
    induction m with
    | zero =>
      intro i hi
      have e : i = P := by omega
      subst e
      rw [hA]
      have L48 : ∀ lf0 : Int, lf0 = (if all = 0 then 0 else much) → RW (KV l G 0 mX9_part n ρ Q) (0, 0, n, ρ) σ 43 [rf G 38, iv much, rf G 61, rf G 63, jl all, xx, iv i, xx, xx] [iv lf0] := by
        intro lf0 hlf0
        have h := L2 (fun p => if all = 0 then 0 else much * σ 61 p / all) lf0 (fun p _ => rfl) hlf0 i 0 xx (by omega) rfl
        rw [ifW_0, ifW_0, show sumN (fun p => if all = 0 then 0 else much * σ 61 p / all) 0 = 0 from rfl, Int.sub_zero, show sr (sr σ 63 (σ 63)) 64 (σ 64) = σ by rw [sr_self, sr_self]] at h
        refine r_istore dX9_part_43 (Nat.le_of_ble_eq_true rfl) rfl s6 ?_
        refine r_iconst dX9_part_45 ?_
        refine r_istore dX9_part_46 (Nat.le_of_ble_eq_true rfl) rfl s7 ?_
        exact h
      refine r_iload dX9_part_6 rfl ?_
      refine r_aloadk_n dX9_part_8 rfl ?_
      refine r_geti dX9_part_9 fl_X9_139 rfl rfl (hs.lt rfl) ?_
      refine r_icmpge (tgt := 31) dX9_part_12 rfl (by first | exact hR _ (Nat.le_of_ble_eq_true rfl) _ | omega) (by first | exact hR _ (Nat.le_of_ble_eq_true rfl) _ | omega) (fun h12 => ?_) (fun h12 => ?_)
      · refine r_lload dX9_part_31 rfl ?_
        refine r_lconst0 dX9_part_33 ?_
        refine r_lcmp dX9_part_34 (by omega) (by omega) ?_
        refine r_ifne (tgt := 42) dX9_part_35 rfl (by split <;> (try split) <;> omega) (fun h35 => ?_) (fun h35 => ?_)
        · have hz0 : ¬ all = 0 := by split at h35 <;> (try split at h35) <;> omega
          refine r_iload_n dX9_part_42 rfl ?_
          refine L48 _ ?_
          split <;> omega
        · have hz0 : all = 0 := by split at h35 <;> (try split at h35) <;> omega
          refine r_iconst dX9_part_38 ?_
          refine r_goto (tgt := 43) dX9_part_39 rfl ?_
          refine L48 _ ?_
          split <;> omega
      · omega
    | succ m ih =>
      intro i hi
      refine r_iload dX9_part_6 rfl ?_
      refine r_aloadk_n dX9_part_8 rfl ?_
      refine r_geti dX9_part_9 fl_X9_139 rfl rfl (hs.lt rfl) ?_
      refine r_icmpge (tgt := 31) dX9_part_12 rfl (by first | exact hR _ (Nat.le_of_ble_eq_true rfl) _ | omega) (by first | exact hR _ (Nat.le_of_ble_eq_true rfl) _ | omega) (fun h12 => ?_) (fun h12 => ?_)
      · omega
      · refine r_lload dX9_part_15 rfl ?_
        refine r_aloadk_n dX9_part_17 rfl ?_
        refine r_iload dX9_part_18 rfl ?_
        refine r_iald dX9_part_20 rfl (hs.lt rfl) rfl (by omega) ?_
        refine r_i2l dX9_part_21 (hR 61 (by decide) _) ?_
        refine r_ladd dX9_part_22 ?_
        refine r_lstore dX9_part_23 (Nat.le_of_ble_eq_true rfl) rfl w4 ?_
        refine r_iinc dX9_part_25 (Nat.le_of_ble_eq_true rfl) rfl rfl s6 ?_
        refine r_goto (tgt := 6) dX9_part_28 rfl ?_
        exact ih (i + 1) (by omega)
  refine Ct.of (L0 := [rf G 38, iv much, rf G 61, rf G 63, xx, xx, xx, xx, xx]) (by decide +kernel) (Nat.le_of_ble_eq_true rfl) rfl ?_
  refine r_lconst0 dX9_part_0 ?_
  refine r_lstore dX9_part_1 (Nat.le_of_ble_eq_true rfl) rfl w4 ?_
  refine r_iconst dX9_part_3 ?_
  refine r_istore dX9_part_4 (Nat.le_of_ble_eq_true rfl) rfl s6 ?_
  exact L1 P 0 (by omega)
end Model10
