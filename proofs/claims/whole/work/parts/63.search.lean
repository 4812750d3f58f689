/-! DRAW: the search, pure -/
section Search
abbrev St : Type := Int × (Nat → Nat) × Nat × Bool
def foldS (f : Nat → St → St) : Nat → St → St
  | 0, st => st
  | j + 1, st => f j (foldS f j st)
def udN (f : Nat → Nat) (p s : Nat) : Nat → Nat := fun q => if q = p then s else f q
theorem udN_at {f : Nat → Nat} {p s : Nat} : udN f p s p = s := if_pos rfl
theorem udN_ne {f : Nat → Nat} {p s q : Nat} (h : q ≠ p) : udN f p s q = f q := if_neg h
def stepS (msk : Nat → Nat) (ft : Nat → Bool) (co : Nat → Int) (U : Nat) (cost : Int) (rec : Nat → St → St) (s : Nat) (st : St) : St :=
  if st.2.2.2 = true then st
  else if ft s = true ∧ U &&& msk s = 0 ∧ (st.1 < 0 ∨ cost + co s < st.1) then
    (if st.2.2.1 = 0 then (st.1, st.2.1, 0, true) else rec s (st.1, st.2.1, st.2.2.1 - 1, st.2.2.2))
  else st
def srG (nS : Nat) (msk : Nat → Nat) (fit : Nat → Nat → Bool) (co : Nat → Nat → Int) (due : Nat → Int) : Nat → Nat → Nat → Int → (Nat → Nat) → St → St
  | 0, _, _, cost, tr, st => (cost, tr, st.2.2)
  | k + 1, p, U, cost, tr, st => if due p ≤ 0 then srG nS msk fit co due k (p + 1) U cost tr st else foldS (stepS msk (fit p) (co p) U cost (fun s st' => srG nS msk fit co due k (p + 1) (U ||| msk s) (cost + co p s) (udN tr p s) st')) nS st
variable {nS P : Nat} {msk : Nat → Nat} {fit : Nat → Nat → Bool} {co : Nat → Nat → Int} {due : Nat → Int}
theorem stepS_sp {ft : Nat → Bool} {c1 : Nat → Int} {U : Nat} {cost : Int} {rec : Nat → St → St} {s : Nat} {st : St} (h : st.2.2.2 = true) : stepS msk ft c1 U cost rec s st = st := if_pos h
theorem stepS_no {ft : Nat → Bool} {c1 : Nat → Int} {U : Nat} {cost : Int} {rec : Nat → St → St} {s : Nat} {st : St} (h : ¬ (ft s = true ∧ U &&& msk s = 0 ∧ (st.1 < 0 ∨ cost + c1 s < st.1))) : stepS msk ft c1 U cost rec s st = st := by
  unfold stepS
  rw [if_neg h]
  split <;> rfl
theorem stepS_z {ft : Nat → Bool} {c1 : Nat → Int} {U : Nat} {cost : Int} {rec : Nat → St → St} {s : Nat} {st : St} (h0 : st.2.2.2 = false) (h : ft s = true ∧ U &&& msk s = 0 ∧ (st.1 < 0 ∨ cost + c1 s < st.1)) (hl : st.2.2.1 = 0) : stepS msk ft c1 U cost rec s st = (st.1, st.2.1, 0, true) := by
  unfold stepS
  rw [if_neg (by rw [h0]; decide), if_pos h, if_pos hl]
theorem stepS_go {ft : Nat → Bool} {c1 : Nat → Int} {U : Nat} {cost : Int} {rec : Nat → St → St} {s : Nat} {st : St} (h0 : st.2.2.2 = false) (h : ft s = true ∧ U &&& msk s = 0 ∧ (st.1 < 0 ∨ cost + c1 s < st.1)) (hl : ¬ st.2.2.1 = 0) : stepS msk ft c1 U cost rec s st = rec s (st.1, st.2.1, st.2.2.1 - 1, st.2.2.2) := by
  unfold stepS
  rw [if_neg (by rw [h0]; decide), if_pos h, if_neg hl]
theorem foldS_stop {f : Nat → St → St} {st : St} {i : Nat} : ∀ N : Nat, i ≤ N → (∀ j, i ≤ j → j < N → f j (foldS f i st) = foldS f i st) → foldS f N st = foldS f i st
  | 0, h, _ => by rw [show i = 0 by omega]
  | N + 1, h, hf => by
    by_cases e : i = N + 1
    · rw [e]
    · show f N (foldS f N st) = _
      rw [foldS_stop N (by omega) (fun j h1 h2 => hf j h1 (by omega))]
      exact hf N (by omega) (by omega)
def StOK (nS P : Nat) (due : Nat → Int) (st : St) : Prop := (-1 ≤ st.1 ∧ st.1 ≤ 10000) ∧ st.2.2.1 ≤ 20000 ∧ (0 ≤ st.1 → ∀ q, q < P → 0 < due q → st.2.1 q < nS)
theorem foldS_ok {f : Nat → St → St} {st : St} {N : Nat} (hf : ∀ s st', s < N → StOK nS P due st' → StOK nS P due (f s st')) (h : StOK nS P due st) : ∀ j : Nat, j ≤ N → StOK nS P due (foldS f j st)
  | 0, _ => h
  | j + 1, hj => hf j _ (by omega) (foldS_ok hf h j (by omega))
theorem stepS_ok {ft : Nat → Bool} {c1 : Nat → Int} {U : Nat} {cost : Int} {rec : Nat → St → St} {s : Nat} {st : St} (hr : ∀ st', StOK nS P due st' → StOK nS P due (rec s st')) (h : StOK nS P due st) : StOK nS P due (stepS msk ft c1 U cost rec s st) := by
  unfold stepS
  split
  · exact h
  · split
    · split
      · exact ⟨h.1, Nat.zero_le _, h.2.2⟩
      · exact hr _ ⟨h.1, by have := h.2.1; show st.2.2.1 - 1 ≤ 20000; omega, h.2.2⟩
    · exact h
theorem srG_ok (hco : ∀ p s, p < P → s < nS → 0 ≤ co p s ∧ co p s ≤ 1100) : ∀ (k p U : Nat) (cost : Int) (tr : Nat → Nat) (st : St), p + k = P → 0 ≤ cost → cost + 1100 * k ≤ 10000 → (∀ q, q < p → 0 < due q → tr q < nS) → StOK nS P due st → StOK nS P due (srG nS msk fit co due k p U cost tr st) := by
  intro k
  induction k with
  | zero =>
    intro p U cost tr st hp h0 h1 htr hst
    exact ⟨⟨by show -1 ≤ cost; omega, by show cost ≤ 10000; omega⟩, hst.2.1, fun _ q hq hd => htr q (by omega) hd⟩
  | succ k ih =>
    intro p U cost tr st hp h0 h1 htr hst
    unfold srG
    split
    · rename_i hd
      exact ih (p + 1) U cost tr st (by omega) h0 (by omega) (fun q hq hd2 => by
        by_cases e : q = p
        · rw [e] at hd2; omega
        · exact htr q (by omega) hd2) hst
    · refine foldS_ok (N := nS) (fun s st' hs hst' => stepS_ok (fun st2 hst2 => ?_) hst') hst nS (Nat.le_refl _)
      have := hco p s (by omega) hs
      exact ih (p + 1) _ _ _ st2 (by omega) (by omega) (by omega) (fun q hq hd2 => by
        by_cases e : q = p
        · rw [e, udN_at]; exact hs
        · rw [udN_ne e]; exact htr q (by omega) hd2) hst2
/-- the state within the loop over the sites -/
def lpS (nS : Nat) (msk : Nat → Nat) (fit : Nat → Nat → Bool) (co : Nat → Nat → Int) (due : Nat → Int) (k p U : Nat) (cost : Int) (tr : Nat → Nat) (st : St) (j : Nat) : St := foldS (stepS msk (fit p) (co p) U cost (fun s st' => srG nS msk fit co due k (p + 1) (U ||| msk s) (cost + co p s) (udN tr p s) st')) j st
theorem srG_lp {k p U : Nat} {cost : Int} {tr : Nat → Nat} {st : St} (h : 0 < due p) : srG nS msk fit co due (k + 1) p U cost tr st = lpS nS msk fit co due k p U cost tr st nS := by
  rw [srG, if_neg (by omega)]; rfl
theorem srG_sk {k p U : Nat} {cost : Int} {tr : Nat → Nat} {st : St} (h : due p ≤ 0) : srG nS msk fit co due (k + 1) p U cost tr st = srG nS msk fit co due k (p + 1) U cost tr st := by
  rw [srG, if_pos h]
theorem lpS_ok (hco : ∀ p s, p < P → s < nS → 0 ≤ co p s ∧ co p s ≤ 1100) {k p U : Nat} {cost : Int} {tr : Nat → Nat} {st : St} (hp : p + (k + 1) = P) (h0 : 0 ≤ cost) (h1 : cost + 1100 * ((k + 1 : Nat) : Int) ≤ 10000) (htr : ∀ q, q < p → 0 < due q → tr q < nS) (hst : StOK nS P due st) (j : Nat) (hj : j ≤ nS) : StOK nS P due (lpS nS msk fit co due k p U cost tr st j) := by
  refine foldS_ok (N := nS) (fun s st' hs hst' => stepS_ok (fun st2 hst2 => ?_) hst') hst j hj
  have := hco p s (by omega) hs
  exact srG_ok hco k (p + 1) _ _ _ st2 (by omega) (by omega) (by omega) (fun q hq hd2 => by
    by_cases e : q = p
    · rw [e, udN_at]; exact hs
    · rw [udN_ne e]; exact htr q (by omega) hd2) hst2
theorem lpS_1 {k p U : Nat} {cost : Int} {tr : Nat → Nat} {st : St} {j : Nat} : lpS nS msk fit co due k p U cost tr st (j + 1) = stepS msk (fit p) (co p) U cost (fun s st' => srG nS msk fit co due k (p + 1) (U ||| msk s) (cost + co p s) (udN tr p s) st') j (lpS nS msk fit co due k p U cost tr st j) := rfl
theorem lpS_stop {k p U : Nat} {cost : Int} {tr : Nat → Nat} {st : St} {i : Nat} (hi : i ≤ nS) (h : (lpS nS msk fit co due k p U cost tr st i).2.2.2 = true ∨ ∀ s, i ≤ s → s < nS → fit p s = true → ¬ ((lpS nS msk fit co due k p U cost tr st i).1 < 0 ∨ cost + co p s < (lpS nS msk fit co due k p U cost tr st i).1)) : lpS nS msk fit co due k p U cost tr st nS = lpS nS msk fit co due k p U cost tr st i := by
  unfold lpS at h ⊢
  refine foldS_stop nS hi (fun j h1 h2 => ?_)
  rcases h with h | h
  · exact stepS_sp h
  · exact stepS_no (fun q => h j h1 h2 q.1 q.2.2)
end Search
