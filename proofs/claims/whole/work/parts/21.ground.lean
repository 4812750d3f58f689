/-! CLASS: Arrays.fill, Shape, Ground -/
def sumN (f : Nat → Int) : Nat → Int
  | 0 => 0
  | i + 1 => sumN f i + f i
def anyN (f : Nat → Bool) : Nat → Bool
  | 0 => false
  | i + 1 => anyN f i || f i
theorem sumN_r {f : Nat → Int} {a b : Int} : ∀ N : Nat, (∀ i, i < N → a ≤ f i ∧ f i ≤ b) → a * N ≤ sumN f N ∧ sumN f N ≤ b * N
  | 0, _ => by simp [sumN]
  | N + 1, h => by
    have h1 := sumN_r N (fun i hi => h i (by omega))
    have h2 := h N (by omega)
    show a * ((N : Int) + 1) ≤ sumN f N + f N ∧ sumN f N + f N ≤ b * ((N : Int) + 1)
    rw [Int.mul_add, Int.mul_add]
    omega
theorem sumN_congr {f g : Nat → Int} : ∀ N : Nat, (∀ i, i < N → f i = g i) → sumN f N = sumN g N
  | 0, _ => rfl
  | N + 1, h => by
    show sumN f N + f N = sumN g N + g N
    rw [sumN_congr N (fun i hi => h i (by omega)), h N (by omega)]
theorem anyN_iff {f : Nat → Bool} : ∀ N : Nat, anyN f N = true ↔ ∃ i, i < N ∧ f i = true
  | 0 => by simp [anyN]
  | N + 1 => by
    show (anyN f N || f N) = true ↔ _
    rw [Bool.or_eq_true, anyN_iff N]
    constructor
    · rintro (⟨i, h1, h2⟩ | h)
      · exact ⟨i, by omega, h2⟩
      · exact ⟨N, by omega, h⟩
    · rintro ⟨i, h1, h2⟩
      by_cases e : i = N
      · exact Or.inr (e ▸ h2)
      · exact Or.inl ⟨i, by omega, h2⟩
theorem r_tabAt {K : Kx} {φ : Ph} {σ : Si} {pc : Nat} {L st : List Value} {dflt lo hi : Int} {offs : Array Int} {len : Nat} {x c off : Int} {tgt : Nat} (hd : decode K.2.2.1.2.1 pc = .ok (.tableswitch dflt lo hi offs, len)) (hx : R32 x) (hc : x = c) (h1 : ¬ c < lo) (h2 : ¬ hi < c) (ho : offs[(c - lo).toNat]? = some off) (ht : (pc : Int) + off = (tgt : Int)) (k : RW K φ σ tgt L st) : RW K φ σ pc L (iv x :: st) := by
  subst hc
  exact r_tabIn hd hx h1 h2 ho ht k
/-- row k, its first N places z -/
def filR (σ : Si) (k N : Nat) (z : Int) : Si := fun a b => if a = k ∧ b < N then z else σ a b
theorem filR_row {σ : Si} {k N a : Nat} {z : Int} (h : a ≠ k) : filR σ k N z a = σ a := funext fun b => if_neg (fun q => h q.1)
theorem filR_in {σ : Si} {k N b : Nat} {z : Int} (h : b < N) : filR σ k N z k b = z := if_pos ⟨rfl, h⟩
theorem filR_0 {σ : Si} {k : Nat} {z : Int} : filR σ k 0 z = σ := funext fun a => funext fun b => if_neg (fun q => by omega)
theorem filR_succ {σ : Si} {k i : Nat} {z : Int} : up (filR σ k i z) k i z = filR σ k (i + 1) z := by
  funext a b
  unfold up filR
  by_cases h1 : a = k
  · by_cases h2 : b = i
    · rw [if_pos ⟨h1, h2⟩, if_pos ⟨h1, by omega⟩]
    · rw [if_neg (fun q => h2 q.2)]
      by_cases h3 : b < i
      · rw [if_pos ⟨h1, h3⟩, if_pos ⟨h1, by omega⟩]
      · rw [if_neg (fun q => h3 q.2), if_neg (fun q => h3 (by omega))]
  · rw [if_neg (fun q => h1 q.1), if_neg (fun q => h1 q.1), if_neg (fun q => h1 q.1)]
section Ground
variable {l : Launch} {G : GG} {n : Nat} {ρ : Rho} {σ : Si}
theorem c_fill (k N : Nat) (hk : k < n) (hsk : shp k = (100, N)) (z : Int) : CtV l G 0 mJ7_fill_53178 n ρ σ [rf G k, iv z] (fun σ' => σ' = filR σ k N z) := by
  have hN := shp_small hsk
  have loop : ∀ (m i : Nat), i + m = N → RW (KV l G 0 mJ7_fill_53178 n ρ (fun σ' => σ' = filR σ k N z)) (0, 0, n, ρ) (filR σ k i z) 5 [rf G k, iv z, iv i, iv N] [] := by
    intro m
    induction m with
    | zero =>
      intro i hi
      refine r_iload_n dJ7_fill_53178_5 rfl ?_
      refine r_iload_n dJ7_fill_53178_6 rfl ?_
      refine r_icmpge (tgt := 20) dJ7_fill_53178_7 rfl (by omega) (by omega) (fun h7 => ?_) (fun h7 => ?_)
      · exact r_vret dJ7_fill_53178_20 rfl ⟨rfl, by rw [show i = N by omega]⟩
      · omega
    | succ m ih =>
      intro i hi
      refine r_iload_n dJ7_fill_53178_5 rfl ?_
      refine r_iload_n dJ7_fill_53178_6 rfl ?_
      refine r_icmpge (tgt := 20) dJ7_fill_53178_7 rfl (by omega) (by omega) (fun h7 => ?_) (fun h7 => ?_)
      · omega
      · refine r_aloadk_n dJ7_fill_53178_10 rfl ?_
        refine r_iload_n dJ7_fill_53178_11 rfl ?_
        refine r_iload_n dJ7_fill_53178_12 rfl ?_
        refine r_iast dJ7_fill_53178_13 hsk (hk) rfl (by omega) ?_
        refine r_iinc dJ7_fill_53178_14 (Nat.le_of_ble_eq_true rfl) rfl rfl s2 ?_
        refine r_goto (tgt := 5) dJ7_fill_53178_17 rfl ?_
        rw [filR_succ]; exact ih (i + 1) (by omega)
  refine Ct.of (L0 := [rf G k, iv z, xx, xx]) (by decide +kernel) (Nat.le_of_ble_eq_true rfl) rfl ?_
  refine r_iconst dJ7_fill_53178_0 ?_
  refine r_istore_n dJ7_fill_53178_1 (Nat.le_of_ble_eq_true rfl) rfl s2 ?_
  refine r_aloadk_n dJ7_fill_53178_2 rfl ?_
  refine r_alen dJ7_fill_53178_3 hsk (hk) ?_
  refine r_istore_n dJ7_fill_53178_4 (Nat.le_of_ble_eq_true rfl) rfl s3 ?_
  have h := loop N 0 (by omega)
  rw [filR_0] at h
  exact h
theorem c_shOf (f w h : Nat) (hf : f < 80) (hw : w < 16) (hh : h < 16) : RdI l G 0 mX5_of n ρ σ [iv f, iv w, iv h] ((256 * f + 16 * w + h : Nat) : Int) := by
  refine Ct.of (L0 := [iv f, iv w, iv h]) (by decide +kernel) (Nat.le_of_ble_eq_true rfl) rfl ?_
  refine r_iload_n dX5_of_0 rfl ?_
  refine r_bipush dX5_of_1 ?_
  refine r_ishl (b := 8) dX5_of_3 (by decide) ?_
  refine r_iload_n dX5_of_4 rfl ?_
  refine r_iconst dX5_of_5 ?_
  refine r_ishl (b := 4) dX5_of_6 (by decide) ?_
  rw [show ((f : Int) * 2 ^ 8) = ((f * 2 ^ 8 : Nat) : Int) by omega, show ((w : Int) * 2 ^ 4) = ((w * 2 ^ 4 : Nat) : Int) by omega]
  refine r_ior dX5_of_7 (by omega) ?_
  refine r_iload_n dX5_of_8 rfl ?_
  rw [show f * 2 ^ 8 + w * 2 ^ 4 = (f * 16 + w) * 2 ^ 4 by omega]
  refine r_ior dX5_of_9 (by omega) ?_
  exact r_ireti dX5_of_10 rfl ⟨_, rfl, rfl, by omega⟩
theorem c_shFirst (s : Nat) (h : s < 65536) : RdI l G 0 mX5_firstOf n ρ σ [iv s] ((s / 256 : Nat) : Int) := by
  refine Ct.of (L0 := [iv s]) (by decide +kernel) (Nat.le_of_ble_eq_true rfl) rfl ?_
  refine r_iload_n dX5_firstOf_0 rfl ?_
  refine r_bipush dX5_firstOf_1 ?_
  refine r_ishr (b := 8) dX5_firstOf_3 (by omega) (by decide) ?_
  exact r_ireti dX5_firstOf_4 rfl ⟨_, rfl, rfl, by omega⟩
theorem c_shWide (s : Nat) (h : s < 65536) : RdI l G 0 mX5_wideOf n ρ σ [iv s] ((s / 16 % 16 : Nat) : Int) := by
  refine Ct.of (L0 := [iv s]) (by decide +kernel) (Nat.le_of_ble_eq_true rfl) rfl ?_
  refine r_iload_n dX5_wideOf_0 rfl ?_
  refine r_iconst dX5_wideOf_1 ?_
  refine r_ishr (b := 4) dX5_wideOf_2 (by omega) (by decide) ?_
  refine r_bipush dX5_wideOf_3 ?_
  rw [show ((s : Int) / 2 ^ 4) = ((s / 16 : Nat) : Int) by omega]
  refine r_iandm (k := 4) dX5_wideOf_5 ?_
  exact r_ireti dX5_wideOf_6 rfl ⟨_, rfl, rfl, by omega⟩
theorem c_shHigh (s : Nat) (h : s < 65536) : RdI l G 0 mX5_highOf n ρ σ [iv s] ((s % 16 : Nat) : Int) := by
  refine Ct.of (L0 := [iv s]) (by decide +kernel) (Nat.le_of_ble_eq_true rfl) rfl ?_
  refine r_iload_n dX5_highOf_0 rfl ?_
  refine r_bipush dX5_highOf_1 ?_
  refine r_iandm (k := 4) dX5_highOf_3 ?_
  exact r_ireti dX5_highOf_4 rfl ⟨_, rfl, rfl, by omega⟩
theorem c_isCell (hs : Std n ρ) (hR : Rg σ) (c : Int) (hc : R32 c) : RdI l G 0 mX1_isCell n ρ σ [rf G 2, iv c] (bi (0 ≤ c ∧ c < σ 2 2)) := by
  have hq := hR 2 (by decide) 2
  refine Ct.of (L0 := [rf G 2, iv c]) (by decide +kernel) (Nat.le_of_ble_eq_true rfl) rfl ?_
  refine r_iload_n dX1_isCell_0 rfl ?_
  refine r_iflt (tgt := 16) dX1_isCell_1 rfl (by omega) (fun h1 => ?_) (fun h1 => ?_)
  · refine r_iconst dX1_isCell_16 ?_
    exact r_iretz dX1_isCell_17 rfl (by omega) ⟨_, rfl, rfl, by unfold bi; split <;> omega⟩
  · refine r_iload_n dX1_isCell_4 rfl ?_
    refine r_aloadk_n dX1_isCell_5 rfl ?_
    refine r_geti dX1_isCell_6 fl_X1_34 rfl rfl (hs.lt rfl) ?_
    refine r_icmpge (tgt := 16) dX1_isCell_9 rfl (by omega) (by omega) (fun h9 => ?_) (fun h9 => ?_)
    · refine r_iconst dX1_isCell_16 ?_
      exact r_iretz dX1_isCell_17 rfl (by omega) ⟨_, rfl, rfl, by unfold bi; split <;> omega⟩
    · refine r_iconst dX1_isCell_12 ?_
      refine r_goto (tgt := 17) dX1_isCell_13 rfl ?_
      exact r_iretz dX1_isCell_17 rfl (by omega) ⟨_, rfl, rfl, by unfold bi; split <;> omega⟩
theorem c_isClose (hs : Std n ρ) (hR : Rg σ) (c : Nat) (hc : c < 80) : RdI l G 0 mX1_isClose n ρ σ [rf G 2, iv c] (bi (σ 5 c = 2)) := by
  refine Ct.of (L0 := [rf G 2, iv c]) (by decide +kernel) (Nat.le_of_ble_eq_true rfl) rfl ?_
  refine r_aloadk_n dX1_isClose_0 rfl ?_
  refine r_getr dX1_isClose_1 fl_X1_11 rfl rfl (hs.lt rfl) (hs.rf rfl) ?_
  refine r_iconst dX1_isClose_4 ?_
  refine r_aald dX1_isClose_5 rfl (hs.lt rfl) (c := 1) rfl (Nat.le_of_ble_eq_true rfl) (hs.rf rfl) ?_
  refine r_iload_n dX1_isClose_6 rfl ?_
  refine r_iald dX1_isClose_7 rfl (hs.lt rfl) rfl (by omega) ?_
  refine r_iconst dX1_isClose_8 ?_
  refine r_icmpne (tgt := 16) dX1_isClose_9 rfl (by first | exact hR _ (Nat.le_of_ble_eq_true rfl) _ | omega) (by first | exact hR _ (Nat.le_of_ble_eq_true rfl) _ | omega) (fun h9 => ?_) (fun h9 => ?_)
  · refine r_iconst dX1_isClose_16 ?_
    exact r_iretz dX1_isClose_17 rfl (by omega) ⟨_, rfl, rfl, by unfold bi; split <;> omega⟩
  · refine r_iconst dX1_isClose_12 ?_
    refine r_goto (tgt := 17) dX1_isClose_13 rfl ?_
    exact r_iretz dX1_isClose_17 rfl (by omega) ⟨_, rfl, rfl, by unfold bi; split <;> omega⟩
theorem c_isRoad (hs : Std n ρ) (hR : Rg σ) (c : Nat) (hc : c < 80) : RdI l G 0 mX1_isRoad n ρ σ [rf G 2, iv c] (bi (σ 6 c = 1)) := by
  refine Ct.of (L0 := [rf G 2, iv c]) (by decide +kernel) (Nat.le_of_ble_eq_true rfl) rfl ?_
  refine r_aloadk_n dX1_isRoad_0 rfl ?_
  refine r_getr dX1_isRoad_1 fl_X1_11 rfl rfl (hs.lt rfl) (hs.rf rfl) ?_
  refine r_iconst dX1_isRoad_4 ?_
  refine r_aald dX1_isRoad_5 rfl (hs.lt rfl) (c := 2) rfl (Nat.le_of_ble_eq_true rfl) (hs.rf rfl) ?_
  refine r_iload_n dX1_isRoad_6 rfl ?_
  refine r_iald dX1_isRoad_7 rfl (hs.lt rfl) rfl (by omega) ?_
  refine r_iconst dX1_isRoad_8 ?_
  refine r_icmpne (tgt := 16) dX1_isRoad_9 rfl (by first | exact hR _ (Nat.le_of_ble_eq_true rfl) _ | omega) (by first | exact hR _ (Nat.le_of_ble_eq_true rfl) _ | omega) (fun h9 => ?_) (fun h9 => ?_)
  · refine r_iconst dX1_isRoad_16 ?_
    exact r_iretz dX1_isRoad_17 rfl (by omega) ⟨_, rfl, rfl, by unfold bi; split <;> omega⟩
  · refine r_iconst dX1_isRoad_12 ?_
    refine r_goto (tgt := 17) dX1_isRoad_13 rfl ?_
    exact r_iretz dX1_isRoad_17 rfl (by omega) ⟨_, rfl, rfl, by unfold bi; split <;> omega⟩
theorem c_isPlain (hs : Std n ρ) (hR : Rg σ) (c : Nat) (hc : c < 80) : RdI l G 0 mX1_isPlain n ρ σ [rf G 2, iv c] (bi (¬ σ 5 c = 2 ∧ σ 6 c = 0)) := by
  refine Ct.of (L0 := [rf G 2, iv c]) (by decide +kernel) (Nat.le_of_ble_eq_true rfl) rfl ?_
  refine r_aloadk_n dX1_isPlain_0 rfl ?_
  refine r_getr dX1_isPlain_1 fl_X1_11 rfl rfl (hs.lt rfl) (hs.rf rfl) ?_
  refine r_iconst dX1_isPlain_4 ?_
  refine r_aald dX1_isPlain_5 rfl (hs.lt rfl) (c := 1) rfl (Nat.le_of_ble_eq_true rfl) (hs.rf rfl) ?_
  refine r_iload_n dX1_isPlain_6 rfl ?_
  refine r_iald dX1_isPlain_7 rfl (hs.lt rfl) rfl (by omega) ?_
  refine r_iconst dX1_isPlain_8 ?_
  refine r_icmpeq (tgt := 27) dX1_isPlain_9 rfl (by first | exact hR _ (Nat.le_of_ble_eq_true rfl) _ | omega) (by first | exact hR _ (Nat.le_of_ble_eq_true rfl) _ | omega) (fun h9 => ?_) (fun h9 => ?_)
  · refine r_iconst dX1_isPlain_27 ?_
    exact r_iretz dX1_isPlain_28 rfl (by omega) ⟨_, rfl, rfl, by unfold bi; split <;> omega⟩
  · refine r_aloadk_n dX1_isPlain_12 rfl ?_
    refine r_getr dX1_isPlain_13 fl_X1_11 rfl rfl (hs.lt rfl) (hs.rf rfl) ?_
    refine r_iconst dX1_isPlain_16 ?_
    refine r_aald dX1_isPlain_17 rfl (hs.lt rfl) (c := 2) rfl (Nat.le_of_ble_eq_true rfl) (hs.rf rfl) ?_
    refine r_iload_n dX1_isPlain_18 rfl ?_
    refine r_iald dX1_isPlain_19 rfl (hs.lt rfl) rfl (by omega) ?_
    refine r_ifne (tgt := 27) dX1_isPlain_20 rfl (by first | exact hR _ (Nat.le_of_ble_eq_true rfl) _ | omega) (fun h20 => ?_) (fun h20 => ?_)
    · refine r_iconst dX1_isPlain_27 ?_
      exact r_iretz dX1_isPlain_28 rfl (by omega) ⟨_, rfl, rfl, by unfold bi; split <;> omega⟩
    · refine r_iconst dX1_isPlain_23 ?_
      refine r_goto (tgt := 28) dX1_isPlain_24 rfl ?_
      exact r_iretz dX1_isPlain_28 rfl (by omega) ⟨_, rfl, rfl, by unfold bi; split <;> omega⟩
/-- the land's size, and where each cell lies -/
def Geo (σ : Si) (W H : Nat) : Prop := σ 2 0 = W ∧ σ 2 1 = H ∧ σ 2 2 = (W * H : Nat) ∧ (2 ≤ W ∧ W ≤ 10) ∧ (2 ≤ H ∧ H ≤ 8) ∧ ∀ c, c < W * H → σ 7 c = (c % W : Nat) ∧ σ 8 c = (c / W : Nat)
theorem WH_le {W H : Nat} (hW : W ≤ 10) (hH : H ≤ 8) : W * H ≤ 80 := Nat.mul_le_mul hW hH
theorem Geo.le {W H : Nat} (g : Geo σ W H) : W * H ≤ 80 := WH_le g.2.2.2.1.2 g.2.2.2.2.1.2
/-- the cell beside: above, left, right, below -/
def nb (W H c : Nat) : Nat → Int
  | 0 => if 0 < c / W then (c : Int) - W else -1
  | 1 => if 0 < c % W then (c : Int) - 1 else -1
  | 2 => if c % W + 1 < W then (c : Int) + 1 else -1
  | _ => if c / W + 1 < H then (c : Int) + W else -1
theorem nb0 {W H c : Nat} : nb W H c 0 = if 0 < c / W then (c : Int) - W else -1 := rfl
theorem nb1 {W H c : Nat} : nb W H c 1 = if 0 < c % W then (c : Int) - 1 else -1 := rfl
theorem nb2 {W H c : Nat} : nb W H c 2 = if c % W + 1 < W then (c : Int) + 1 else -1 := rfl
theorem nb3 {W H c : Nat} : nb W H c 3 = if c / W + 1 < H then (c : Int) + W else -1 := rfl
theorem nb_r {W H c : Nat} (hc : c < W * H) (hW : 0 < W) (s : Nat) : nb W H c s = -1 ∨ (0 ≤ nb W H c s ∧ nb W H c s < (W * H : Nat)) := by
  have e := Nat.div_add_mod c W
  have m := Nat.mod_lt c hW
  have q : c / W < H := Nat.div_lt_of_lt_mul hc
  unfold nb
  split
  · split
    · rename_i h
      have : W * 1 ≤ W * (c / W) := Nat.mul_le_mul_left W h
      right; omega
    · left; rfl
  · split
    · right; omega
    · left; rfl
  · split
    · have : W * (c / W + 1) ≤ W * H := Nat.mul_le_mul_left W q
      rw [Nat.mul_add] at this
      right; omega
    · left; rfl
  · split
    · rename_i h
      have : W * (c / W + 2) ≤ W * H := Nat.mul_le_mul_left W (by omega)
      rw [Nat.mul_add] at this
      right; omega
    · left; rfl
theorem c_beside (hs : Std n ρ) (hR : Rg σ) {W H : Nat} (g : Geo σ W H) (c side : Nat) (hc : c < W * H) (hsd : side < 4) : RdI l G 0 mX1_beside n ρ σ [rf G 2, iv c, iv side] (nb W H c side) := by
  obtain ⟨g0, g1, g2, g3, g4, g5⟩ := id g
  have hle := g.le
  obtain ⟨e7, e8⟩ := g5 c hc
  refine Ct.of (L0 := [rf G 2, iv c, iv side]) (by decide +kernel) (Nat.le_of_ble_eq_true rfl) rfl ?_
  refine r_iload_n dX1_beside_0 rfl ?_
  by_cases h1_0 : (side : Int) = 0
  · refine r_tabAt (c := 0) (tgt := 28) dX1_beside_1 (by first | exact hR _ (Nat.le_of_ble_eq_true rfl) _ | omega) h1_0 (by decide) (by decide) rfl rfl ?_
    refine r_aloadk_n dX1_beside_28 rfl ?_
    refine r_getr dX1_beside_29 fl_X1_20 rfl rfl (hs.lt rfl) (hs.rf rfl) ?_
    refine r_iload_n dX1_beside_32 rfl ?_
    refine r_iald dX1_beside_33 rfl (hs.lt rfl) rfl (by omega) ?_
    refine r_ifle (tgt := 46) dX1_beside_34 rfl (by first | exact hR _ (Nat.le_of_ble_eq_true rfl) _ | omega) (fun h34 => ?_) (fun h34 => ?_)
    · refine r_iconst dX1_beside_46 ?_
      exact r_ireti dX1_beside_47 rfl ⟨_, rfl, rfl, by rw [show side = 0 by omega, nb0]; split <;> omega⟩
    · refine r_iload_n dX1_beside_37 rfl ?_
      refine r_aloadk_n dX1_beside_38 rfl ?_
      refine r_geti dX1_beside_39 fl_X1_27 rfl rfl (hs.lt rfl) ?_
      refine r_isub dX1_beside_42 ?_
      refine r_goto (tgt := 47) dX1_beside_43 rfl ?_
      exact r_ireti dX1_beside_47 rfl ⟨_, rfl, rfl, by rw [show side = 0 by omega, nb0]; split <;> omega⟩
  by_cases h1_1 : (side : Int) = 1
  · refine r_tabAt (c := 1) (tgt := 48) dX1_beside_1 (by first | exact hR _ (Nat.le_of_ble_eq_true rfl) _ | omega) h1_1 (by decide) (by decide) rfl rfl ?_
    refine r_aloadk_n dX1_beside_48 rfl ?_
    refine r_getr dX1_beside_49 fl_X1_16 rfl rfl (hs.lt rfl) (hs.rf rfl) ?_
    refine r_iload_n dX1_beside_52 rfl ?_
    refine r_iald dX1_beside_53 rfl (hs.lt rfl) rfl (by omega) ?_
    refine r_ifle (tgt := 63) dX1_beside_54 rfl (by first | exact hR _ (Nat.le_of_ble_eq_true rfl) _ | omega) (fun h54 => ?_) (fun h54 => ?_)
    · refine r_iconst dX1_beside_63 ?_
      exact r_ireti dX1_beside_64 rfl ⟨_, rfl, rfl, by rw [show side = 1 by omega, nb1]; split <;> omega⟩
    · refine r_iload_n dX1_beside_57 rfl ?_
      refine r_iconst dX1_beside_58 ?_
      refine r_isub dX1_beside_59 ?_
      refine r_goto (tgt := 64) dX1_beside_60 rfl ?_
      exact r_ireti dX1_beside_64 rfl ⟨_, rfl, rfl, by rw [show side = 1 by omega, nb1]; split <;> omega⟩
  by_cases h1_2 : (side : Int) = 2
  · refine r_tabAt (c := 2) (tgt := 65) dX1_beside_1 (by first | exact hR _ (Nat.le_of_ble_eq_true rfl) _ | omega) h1_2 (by decide) (by decide) rfl rfl ?_
    refine r_aloadk_n dX1_beside_65 rfl ?_
    refine r_getr dX1_beside_66 fl_X1_16 rfl rfl (hs.lt rfl) (hs.rf rfl) ?_
    refine r_iload_n dX1_beside_69 rfl ?_
    refine r_iald dX1_beside_70 rfl (hs.lt rfl) rfl (by omega) ?_
    refine r_aloadk_n dX1_beside_71 rfl ?_
    refine r_geti dX1_beside_72 fl_X1_27 rfl rfl (hs.lt rfl) ?_
    refine r_iconst dX1_beside_75 ?_
    refine r_isub dX1_beside_76 ?_
    refine r_icmpge (tgt := 86) dX1_beside_77 rfl (by first | exact hR _ (Nat.le_of_ble_eq_true rfl) _ | omega) (by first | exact hR _ (Nat.le_of_ble_eq_true rfl) _ | omega) (fun h77 => ?_) (fun h77 => ?_)
    · refine r_iconst dX1_beside_86 ?_
      exact r_ireti dX1_beside_87 rfl ⟨_, rfl, rfl, by rw [show side = 2 by omega, nb2]; split <;> omega⟩
    · refine r_iload_n dX1_beside_80 rfl ?_
      refine r_iconst dX1_beside_81 ?_
      refine r_iadd dX1_beside_82 ?_
      refine r_goto (tgt := 87) dX1_beside_83 rfl ?_
      exact r_ireti dX1_beside_87 rfl ⟨_, rfl, rfl, by rw [show side = 2 by omega, nb2]; split <;> omega⟩
  refine r_tabOut (tgt := 88) dX1_beside_1 (by first | exact hR _ (Nat.le_of_ble_eq_true rfl) _ | omega) (by omega) rfl ?_
  refine r_aloadk_n dX1_beside_88 rfl ?_
  refine r_getr dX1_beside_89 fl_X1_20 rfl rfl (hs.lt rfl) (hs.rf rfl) ?_
  refine r_iload_n dX1_beside_92 rfl ?_
  refine r_iald dX1_beside_93 rfl (hs.lt rfl) rfl (by omega) ?_
  refine r_aloadk_n dX1_beside_94 rfl ?_
  refine r_geti dX1_beside_95 fl_X1_31 rfl rfl (hs.lt rfl) ?_
  refine r_iconst dX1_beside_98 ?_
  refine r_isub dX1_beside_99 ?_
  refine r_icmpge (tgt := 112) dX1_beside_100 rfl (by first | exact hR _ (Nat.le_of_ble_eq_true rfl) _ | omega) (by first | exact hR _ (Nat.le_of_ble_eq_true rfl) _ | omega) (fun h100 => ?_) (fun h100 => ?_)
  · refine r_iconst dX1_beside_112 ?_
    exact r_ireti dX1_beside_113 rfl ⟨_, rfl, rfl, by rw [show side = 3 by omega, nb3]; split <;> omega⟩
  · refine r_iload_n dX1_beside_103 rfl ?_
    refine r_aloadk_n dX1_beside_104 rfl ?_
    refine r_geti dX1_beside_105 fl_X1_27 rfl rfl (hs.lt rfl) ?_
    refine r_iadd dX1_beside_108 ?_
    refine r_goto (tgt := 113) dX1_beside_109 rfl ?_
    exact r_ireti dX1_beside_113 rfl ⟨_, rfl, rfl, by rw [show side = 3 by omega, nb3]; split <;> omega⟩
end Ground
