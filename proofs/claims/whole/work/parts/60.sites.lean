/-! DRAW: rectangles as bits; the list of sites -/
def bitsRow (m a : Nat) : Nat → Nat
  | 0 => m
  | x + 1 => bitsRow m a x ||| 2 ^ (a + x)
def mskR (W c w : Nat) : Nat → Nat
  | 0 => 0
  | h + 1 => bitsRow (mskR W c w h) (c + W * h) w
def rowS (so : Nat → Int) (z : Int) (a : Nat) : Nat → Int
  | 0 => z
  | x + 1 => rowS so z a x + so (a + x)
def worR (so : Nat → Int) (W c w : Nat) : Nat → Int
  | 0 => 0
  | h + 1 => rowS so (worR so W c w h) (c + W * h) w
def rowB (f : Nat → Bool) (b : Bool) (a : Nat) : Nat → Bool
  | 0 => b
  | x + 1 => rowB f b a x || f (a + x)
def anyR (f : Nat → Bool) (W c w : Nat) : Nat → Bool
  | 0 => false
  | h + 1 => rowB f (anyR f W c w h) (c + W * h) w
theorem bits_lt {m a : Nat} (hm : m < 2 ^ 80) : ∀ x : Nat, a + x ≤ 80 → bitsRow m a x < 2 ^ 80
  | 0, _ => hm
  | x + 1, h => Nat.or_lt_two_pow (bits_lt hm x (by omega)) (Nat.pow_lt_pow_right (by omega) (by omega))
/-- the cells of a rectangle on the land are cells -/
theorem cell_in {W H c w h y x : Nat} (hW : 0 < W) (hw : c % W + w ≤ W) (hh : c / W + h ≤ H) (hy : y < h) (hx : x < w) : c + W * y + x < W * H := by
  have e := Nat.div_add_mod c W
  have h1 : W * (c / W + y + 1) ≤ W * H := Nat.mul_le_mul_left W (by omega)
  rw [Nat.mul_add, Nat.mul_add, Nat.mul_one] at h1
  omega
theorem cell_le {W H c w h y : Nat} (hW : 0 < W) (hw : c % W + w ≤ W) (hh : c / W + h ≤ H) (hy : y < h) : c + W * y + w ≤ W * H := by
  have e := Nat.div_add_mod c W
  have h1 : W * (c / W + y + 1) ≤ W * H := Nat.mul_le_mul_left W (by omega)
  rw [Nat.mul_add, Nat.mul_add, Nat.mul_one] at h1
  omega
theorem msk_lt {W H c w h : Nat} (hW : 0 < W) (hle : W * H ≤ 80) (hw : c % W + w ≤ W) (hh : c / W + h ≤ H) : ∀ t : Nat, t ≤ h → mskR W c w t < 2 ^ 80
  | 0, _ => by unfold mskR; exact Nat.two_pow_pos 80
  | t + 1, ht => bits_lt (msk_lt hW hle hw hh t (by omega)) w (by have := cell_le (y := t) hW hw hh (by omega); omega)
theorem rowB_t {f : Nat → Bool} {a : Nat} : ∀ x : Nat, rowB f true a x = true
  | 0 => rfl
  | x + 1 => by unfold rowB; rw [rowB_t x]; rfl
theorem rowB_up {f : Nat → Bool} {b : Bool} {a x : Nat} (h : rowB f b a x = true) : ∀ x' : Nat, x ≤ x' → rowB f b a x' = true
  | 0, h' => by rw [show x = 0 by omega] at h; exact h
  | x' + 1, h' => by
    by_cases e : x = x' + 1
    · rw [← e]; exact h
    · unfold rowB; rw [rowB_up h x' (by omega)]; rfl
theorem anyR_up {f : Nat → Bool} {W c w h : Nat} (hx : anyR f W c w h = true) : ∀ h' : Nat, h ≤ h' → anyR f W c w h' = true
  | 0, h' => by rw [show h = 0 by omega] at hx; exact hx
  | h' + 1, hh => by
    by_cases e : h = h' + 1
    · rw [← e]; exact hx
    · unfold anyR; rw [anyR_up hx h' (by omega)]; exact rowB_t w
/-- a look at the bits of the cells by a road tells whether a rectangle is by one -/
theorem bits_and {f : Nat → Bool} {R m a : Nat} {b : Bool} (hm : m &&& R = 0 ↔ b = false) : ∀ x : Nat, (∀ i, i < x → R.testBit (a + i) = f (a + i)) → (bitsRow m a x &&& R = 0 ↔ rowB f b a x = false)
  | 0, _ => hm
  | x + 1, h => by
    have ih := bits_and (a := a) hm x (fun i hi => h i (by omega))
    have hx := h x (by omega)
    unfold bitsRow rowB
    rw [Nat.and_or_distrib_right, Nat.or_eq_zero_iff, Bool.or_eq_false_iff, ih, ← hx]
    have key : 2 ^ (a + x) &&& R = 0 ↔ R.testBit (a + x) = false := by
      constructor
      · intro q
        have := congrArg (fun z => Nat.testBit z (a + x)) q
        simp only [Nat.testBit_and, Nat.testBit_two_pow, decide_true, Bool.true_and, Nat.zero_testBit] at this
        exact this
      · intro q
        refine Nat.eq_of_testBit_eq (fun i => ?_)
        rw [Nat.testBit_and, Nat.testBit_two_pow, Nat.zero_testBit]
        by_cases e : a + x = i
        · rw [← e, q, Bool.and_false]
        · rw [decide_eq_false e, Bool.false_and]
    rw [key]
theorem msk_and {f : Nat → Bool} {W c w R : Nat} : ∀ h : Nat, (∀ y, y < h → ∀ x, x < w → R.testBit (c + W * y + x) = f (c + W * y + x)) → (mskR W c w h &&& R = 0 ↔ anyR f W c w h = false)
  | 0, _ => by unfold mskR anyR; rw [Nat.zero_and]; exact ⟨fun _ => rfl, fun _ => rfl⟩
  | h + 1, hf => by
    unfold mskR anyR
    exact bits_and (msk_and h (fun y hy x hx => hf y (by omega) x hx)) w (fun i hi => hf h (by omega) i hi)
/-- the bits of all cells that are so -/
def maskN (f : Nat → Bool) : Nat → Nat
  | 0 => 0
  | i + 1 => if f i = true then maskN f i ||| 2 ^ i else maskN f i
theorem maskN_bit {f : Nat → Bool} : ∀ (N i : Nat), (maskN f N).testBit i = (decide (i < N) && f i)
  | 0, i => by unfold maskN; rw [Nat.zero_testBit, decide_eq_false (by omega), Bool.false_and]
  | N + 1, i => by
    have ih := maskN_bit (f := f) N i
    unfold maskN
    split
    · rename_i h
      rw [Nat.testBit_or, ih, Nat.testBit_two_pow]
      by_cases e : N = i
      · subst e; rw [decide_eq_true rfl, Bool.or_true, decide_eq_true (show N < N + 1 by omega), h]; rfl
      · rw [decide_eq_false e, Bool.or_false]
        by_cases l : i < N
        · rw [decide_eq_true l, decide_eq_true (show i < N + 1 by omega)]
        · rw [decide_eq_false l, decide_eq_false (show ¬ i < N + 1 by omega)]
    · rename_i h
      rw [ih]
      by_cases e : N = i
      · subst e; rw [Bool.eq_false_iff.mpr h, Bool.and_false, Bool.and_false]
      · by_cases l : i < N
        · rw [decide_eq_true l, decide_eq_true (show i < N + 1 by omega)]
        · rw [decide_eq_false l, decide_eq_false (show ¬ i < N + 1 by omega)]
theorem maskN_lt {f : Nat → Bool} : ∀ N : Nat, N ≤ 80 → maskN f N < 2 ^ 80
  | 0, _ => by unfold maskN; exact Nat.two_pow_pos 80
  | N + 1, h => by
    unfold maskN
    split
    · exact Nat.or_lt_two_pow (maskN_lt N (by omega)) (Nat.pow_lt_pow_right (by omega) (by omega))
    · exact maskN_lt N (by omega)
/-- one look at a number, or two at its halves -/
theorem and_split (k a b : Nat) : a &&& b = 0 ↔ (a % 2 ^ k &&& b % 2 ^ k = 0 ∧ a / 2 ^ k &&& b / 2 ^ k = 0) := by
  rw [← Nat.and_mod_two_pow, ← Nat.and_div_two_pow]
  constructor
  · intro h; rw [h]; exact ⟨Nat.zero_mod _, Nat.zero_div _⟩
  · intro h
    have := Nat.div_add_mod (a &&& b) (2 ^ k)
    rw [h.1, h.2] at this
    omega
theorem bit_lo (k c : Nat) : 2 ^ c % 2 ^ k = if c < k then 2 ^ c else 0 := by
  split
  · rename_i h; exact Nat.mod_eq_of_lt (Nat.pow_lt_pow_right (by omega) h)
  · rename_i h; exact Nat.mod_eq_zero_of_dvd (Nat.pow_dvd_pow 2 (by omega))
theorem bit_hi (k c : Nat) : 2 ^ c / 2 ^ k = if c < k then 0 else 2 ^ (c - k) := by
  split
  · rename_i h; exact Nat.div_eq_of_lt (Nat.pow_lt_pow_right (by omega) h)
  · rename_i h; exact Nat.pow_div (by omega) (by omega)
theorem bits_lo (k m a x : Nat) : bitsRow m a (x + 1) % 2 ^ k = (bitsRow m a x % 2 ^ k) ||| (if a + x < k then 2 ^ (a + x) else 0) := by
  show (bitsRow m a x ||| 2 ^ (a + x)) % 2 ^ k = _
  rw [Nat.or_mod_two_pow, bit_lo]
theorem bits_hi (k m a x : Nat) : bitsRow m a (x + 1) / 2 ^ k = (bitsRow m a x / 2 ^ k) ||| (if a + x < k then 0 else 2 ^ (a + x - k)) := by
  show (bitsRow m a x ||| 2 ^ (a + x)) / 2 ^ k = _
  rw [Nat.or_div_two_pow, bit_hi]
theorem rowS_r {so : Nat → Int} {z : Int} {a : Nat} (h : ∀ c, 0 ≤ so c ∧ so c ≤ 9) : ∀ x : Nat, z ≤ rowS so z a x ∧ rowS so z a x ≤ z + 9 * x
  | 0 => by unfold rowS; omega
  | x + 1 => by
    have := rowS_r (z := z) (a := a) h x
    have := h (a + x)
    unfold rowS
    omega
theorem worR_r {so : Nat → Int} {W c w : Nat} (h : ∀ c, 0 ≤ so c ∧ so c ≤ 9) (hw : w ≤ 10) : ∀ t : Nat, 0 ≤ worR so W c w t ∧ worR so W c w t ≤ 90 * t
  | 0 => by unfold worR; omega
  | t + 1 => by
    have h1 := worR_r (W := W) (c := c) h hw t
    have h2 := rowS_r (z := worR so W c w t) (a := c + W * t) h w
    unfold worR
    omega
def npB (us rd : Nat → Int) (k : Nat) : Bool := decide (¬ (¬ us k = 2 ∧ rd k = 0))
def beB (rd : Nat → Int) (W H k : Nat) : Bool := anyN (besF rd W H k) 4
theorem npB_t {us rd : Nat → Int} {k : Nat} : npB us rd k = true ↔ ¬ (¬ us k = 2 ∧ rd k = 0) := by unfold npB; exact decide_eq_true_iff
/-- a rectangle on which one may draw -/
abbrev okR (us rd : Nat → Int) (W H c w h : Nat) : Prop := anyR (npB us rd) W c w h = false ∧ anyR (beB rd W H) W c w h = true
def sitesDn (us rd : Nat → Int) (W H c w : Nat) : Nat → List (Nat × Nat × Nat)
  | 0 => []
  | t + 1 => if okR us rd W H c w (t + 1) then sitesDn us rd W H c w t ++ [(c, w, t + 1)] else sitesDn us rd W H c w t
def sitesWd (us rd : Nat → Int) (W H c : Nat) : Nat → List (Nat × Nat × Nat)
  | 0 => []
  | w + 1 => sitesWd us rd W H c w ++ sitesDn us rd W H c (w + 1) (H - c / W)
def sitesAl (us rd : Nat → Int) (W H : Nat) : Nat → List (Nat × Nat × Nat)
  | 0 => []
  | c + 1 => sitesAl us rd W H c ++ sitesWd us rd W H c (W - c % W)
theorem sitesDn_np {us rd : Nat → Int} {W H c w t : Nat} (h : anyR (npB us rd) W c w (t + 1) = true) : ∀ t' : Nat, t ≤ t' → sitesDn us rd W H c w t' = sitesDn us rd W H c w t
  | 0, h' => by rw [show t = 0 by omega]
  | t' + 1, h' => by
    by_cases e : t = t' + 1
    · rw [e]
    · have ih := sitesDn_np (H := H) h t' (by omega)
      have h2 := anyR_up h (t' + 1) (by omega)
      show (if okR us rd W H c w (t' + 1) then _ else _) = _
      rw [if_neg (fun q => by rw [q.1] at h2; cases h2), ih]
theorem sitesDn_len {us rd : Nat → Int} {W H c w : Nat} : ∀ t : Nat, (sitesDn us rd W H c w t).length ≤ t
  | 0 => Nat.le_refl 0
  | t + 1 => by
    have := sitesDn_len (us := us) (rd := rd) (W := W) (H := H) (c := c) (w := w) t
    unfold sitesDn
    split
    · rw [List.length_append]; show _ + 1 ≤ _; omega
    · omega
theorem sitesWd_len {us rd : Nat → Int} {W H c : Nat} : ∀ w : Nat, (sitesWd us rd W H c w).length ≤ w * (H - c / W)
  | 0 => by unfold sitesWd; exact Nat.zero_le _
  | w + 1 => by
    have h1 := sitesWd_len (us := us) (rd := rd) (W := W) (H := H) (c := c) w
    have h2 := sitesDn_len (us := us) (rd := rd) (W := W) (H := H) (c := c) (w := w + 1) (H - c / W)
    unfold sitesWd
    rw [List.length_append, Nat.add_mul, Nat.one_mul]
    omega
def capS (W H : Nat) : Nat → Nat
  | 0 => 0
  | c + 1 => capS W H c + (W - c % W) * (H - c / W)
theorem capS_all : ∀ W, W < 11 → ∀ H, H < 9 → capS W H (W * H) ≤ 1980 := by decide +kernel
theorem capS_up {W H i : Nat} : ∀ j : Nat, i ≤ j → capS W H i ≤ capS W H j
  | 0, h => by rw [show i = 0 by omega]; exact Nat.le_refl _
  | j + 1, h => by
    by_cases e : i = j + 1
    · rw [e]; exact Nat.le_refl _
    · exact Nat.le_trans (capS_up j (by omega)) (Nat.le_add_right _ _)
theorem sitesAl_len {us rd : Nat → Int} {W H : Nat} : ∀ c : Nat, (sitesAl us rd W H c).length ≤ capS W H c
  | 0 => Nat.le_refl 0
  | c + 1 => by
    have h1 := sitesAl_len (us := us) (rd := rd) (W := W) (H := H) c
    have h2 := sitesWd_len (us := us) (rd := rd) (W := W) (H := H) (c := c) (W - c % W)
    unfold sitesAl capS
    rw [List.length_append]
    omega
/-- all that is ahead of a rectangle in the list, and the list with it, has room -/
theorem sites_room {us rd : Nat → Int} {W H c w t : Nat} (hW : W < 11) (hH : H < 9) (hc : c < W * H) (hw : c % W + (w + 1) ≤ W) (ht : c / W + (t + 1) ≤ H) : (sitesAl us rd W H c).length + (sitesWd us rd W H c w).length + (sitesDn us rd W H c (w + 1) t).length < 1980 := by
  have h1 := sitesAl_len (us := us) (rd := rd) (W := W) (H := H) c
  have h2 := sitesWd_len (us := us) (rd := rd) (W := W) (H := H) (c := c) w
  have h3 := sitesDn_len (us := us) (rd := rd) (W := W) (H := H) (c := c) (w := w + 1) t
  have h4 := capS_all W hW H hH
  have h5 := capS_up (W := W) (H := H) (i := c + 1) (W * H) (by omega)
  have h6 : capS W H (c + 1) = capS W H c + (W - c % W) * (H - c / W) := rfl
  have h7 : (w + 1) * (H - c / W) ≤ (W - c % W) * (H - c / W) := Nat.mul_le_mul_right _ (by omega)
  rw [Nat.add_mul, Nat.one_mul] at h7
  omega
theorem at_lt {α : Type} {L : List α} {d t : α} {s : Nat} (h : s < L.length) : (L ++ [t]).getD s d = L.getD s d := by
  rw [List.getD_eq_getElem?_getD, List.getD_eq_getElem?_getD, List.getElem?_append_left h]
theorem at_len {α : Type} {L : List α} {d t : α} : (L ++ [t]).getD L.length d = t := by
  rw [List.getD_eq_getElem?_getD, List.getElem?_append_right (Nat.le_refl _), Nat.sub_self]
  rfl
abbrev Tri : Type := Nat × Nat × Nat
def atS (L : List Tri) (s : Nat) : Tri := L.getD s (0, 0, 0)
/-- where a site of the list lies -/
theorem sitesDn_in {us rd : Nat → Int} {W H c w : Nat} : ∀ (t : Nat) (x : Tri), x ∈ sitesDn us rd W H c w t → x.1 = c ∧ x.2.1 = w ∧ 1 ≤ x.2.2 ∧ x.2.2 ≤ t
  | 0, x, h => by cases h
  | t + 1, x, h => by
    unfold sitesDn at h
    split at h
    · rcases List.mem_append.mp h with q | q
      · have := sitesDn_in t x q; omega
      · rw [List.mem_singleton] at q; subst q; exact ⟨rfl, rfl, by show 1 ≤ t + 1; omega, Nat.le_refl _⟩
    · have := sitesDn_in t x h; omega
theorem sitesWd_in {us rd : Nat → Int} {W H c : Nat} : ∀ (w : Nat) (x : Tri), x ∈ sitesWd us rd W H c w → x.1 = c ∧ (1 ≤ x.2.1 ∧ x.2.1 ≤ w) ∧ 1 ≤ x.2.2 ∧ x.2.2 ≤ H - c / W
  | 0, x, h => by cases h
  | w + 1, x, h => by
    unfold sitesWd at h
    rcases List.mem_append.mp h with q | q
    · have := sitesWd_in w x q; omega
    · have := sitesDn_in _ x q; omega
theorem sitesAl_in {us rd : Nat → Int} {W H : Nat} : ∀ (c : Nat) (x : Tri), x ∈ sitesAl us rd W H c → x.1 < c ∧ (1 ≤ x.2.1 ∧ x.2.1 ≤ W - x.1 % W) ∧ 1 ≤ x.2.2 ∧ x.2.2 ≤ H - x.1 / W
  | 0, x, h => by cases h
  | c + 1, x, h => by
    unfold sitesAl at h
    rcases List.mem_append.mp h with q | q
    · have := sitesAl_in c x q; omega
    · obtain ⟨e, h1, h2⟩ := sitesWd_in _ x q
      rw [e]
      omega
theorem atS_mem {L : List Tri} {s : Nat} (h : s < L.length) : atS L s ∈ L := by
  unfold atS
  rw [List.getD_eq_getElem?_getD, List.getElem?_eq_getElem h]
  exact List.getElem_mem h
def shpT (t : Tri) : Nat := 256 * t.1 + 16 * t.2.1 + t.2.2
def mskT (W : Nat) (t : Tri) : Nat := mskR W t.1 t.2.1 t.2.2
def worT (so : Nat → Int) (W : Nat) (t : Tri) : Int := worR so W t.1 t.2.1 t.2.2
