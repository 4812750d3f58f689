/-! The two sides beside each other: read, road, draw -/
def cQ_read (σ : Si) (W H s : Nat) (σ' : Si) (z : Int) : Prop := (¬ (0 ≤ (s : Int) ∧ (s : Int) ≤ 2) ∧ z = -3 ∧ σ' = σ) ∨ ((0 ≤ (s : Int) ∧ (s : Int) ≤ 2) ∧ σ 18 s = -1 ∧ z = -11 ∧ σ' = σ) ∨ ((0 ≤ (s : Int) ∧ (s : Int) ≤ 2) ∧ ¬ σ 18 s = -1 ∧ ((anyN (badF (σ (14 + s))) (min (σ 18 s) (W * H : Nat)).toNat = true ∧ z = -4 ∧ σ' = σ) ∨ (anyN (badF (σ (14 + s))) (min (σ 18 s) (W * H : Nat)).toNat = false ∧ z = min (σ 18 s) (W * H : Nat) ∧ σ' = sr σ 4 (cpW (σ (14 + s)) (σ 4) 0 0 (min (σ 18 s) (W * H : Nat)).toNat))))
def mQ_read (σ : Si) (W H s : Nat) (σ' : Si) (z : Int) : Prop := (σ 42 s < 0 ∧ z = -11 ∧ σ' = σ) ∨ (0 ≤ σ 42 s ∧ ((anyN (badF (fun j => σ 44 (80 * s + j))) (min (σ 43 s) (W * H : Nat)).toNat = true ∧ z = -4 ∧ σ' = σ) ∨ (anyN (badF (fun j => σ 44 (80 * s + j))) (min (σ 43 s) (W * H : Nat)).toNat = false ∧ z = min (σ 43 s) (W * H : Nat) ∧ σ' = sr σ 39 (cpW (fun j => σ 44 (80 * s + j)) (σ 39) 0 0 (min (σ 43 s) (W * H : Nat)).toNat))))
section Steps4
variable {σ σ1 σ2 : Si} {W H P C O : Nat} {B : Int}
theorem cf_read (h : JC σ W H P C O) {s : Nat} (hs : s < 3) {z1 : Int} (h1 : cQ_read σ W H s σ1 z1) : CF σ σ1 := by
  rcases h1 with ⟨a, b, c⟩ | ⟨a, b, c, d⟩ | ⟨a, b, ⟨c, d, e⟩ | ⟨c, d, rfl⟩⟩
  · rw [c]; exact CF.id h
  · rw [d]; exact CF.id h
  · rw [e]; exact CF.id h
  · refine ⟨fun k hk => sr_ne (by omega), h.1.sr (fun b => ?_)⟩
    unfold cpW
    split
    · exact h.1 (14 + s) (by omega) _
    · exact h.1 4 (by decide) _
set_option maxHeartbeats 2000000 in
theorem st_read (h : JJ σ W H P C O B) {s : Nat} (hs : s < 3) {z1 z2 : Int} (h1 : cQ_read σ W H s σ1 z1) (h2 : mQ_read σ1 W H s σ2 z2) : ST σ1 σ2 z1 z2 B := by
  have hcf := cf_read h.1 hs h1
  have th := h.2.2.1.there h.2.1 s hs
  have f39 := hcf.1 39 (by omega)
  have f42 := hcf.1 42 (by omega)
  have f43 := hcf.1 43 (by omega)
  have f44 := hcf.1 44 (by omega)
  have hle := h.1.2.1.le
  obtain ⟨e1, e2, e3, e4, e5, e6, e7, e8⟩ := id h.2.2.1
  unfold mQ_read at h2
  rw [f39, f42, f43, f44] at h2
  rcases h1 with ⟨a, b, c⟩ | ⟨a, b, c, d⟩ | ⟨a, b, hr⟩
  · omega
  · subst d
    rcases h2 with ⟨a2, b2, c2⟩ | ⟨a2, hr2⟩
    · rw [c2]; exact h.st (c.trans b2.symm)
    · exact absurd (th.mp b) (by omega)
  · rcases h2 with ⟨a2, b2, c2⟩ | ⟨a2, hr2⟩
    · exact absurd (th.mpr a2) b
    · have hl := h.2.2.1.len s hs a2
      rw [hl] at hr
      generalize hM : (min (σ 43 s) (W * H : Nat)).toNat = M at hr hr2
      have hM80 : M ≤ 80 := by omega
      have hbad : anyN (badF (σ (14 + s))) M = anyN (badF (fun j => σ 44 (80 * s + j))) M := anyN_cg M (fun i hi => by unfold badF; rw [(e8 s hs).2.2 i (by omega)])
      rcases hr with ⟨c, d, e⟩ | ⟨c, d, rfl⟩
      · subst e
        rcases hr2 with ⟨c2, d2, e2⟩ | ⟨c2, d2, e2⟩
        · rw [e2]; exact h.st (d.trans d2.symm)
        · rw [← hbad, c] at c2; exact absurd c2 (by decide)
      · rcases hr2 with ⟨c2, d2, e2⟩ | ⟨c2, d2, rfl⟩
        · rw [← hbad, c] at c2; exact absurd c2 (by decide)
        · have hgood : ∀ i, i < M → 0 ≤ σ (14 + s) i ∧ σ (14 + s) i ≤ 9 := fun i hi => Classical.byContradiction (fun q => by
            have := (anyN_iff M).mpr ⟨i, hi, badF_t.mpr q⟩
            rw [c] at this
            exact absurd this (by decide))
          have heq : cpW (σ (14 + s)) (σ 4) 0 0 M = cpW (fun j => σ 44 (80 * s + j)) (σ 39) 0 0 M := by
            funext b
            unfold cpW
            by_cases q : 0 ≤ b ∧ b < 0 + M
            · rw [if_pos q, if_pos q]; exact (e8 s hs).2.2 _ (by omega)
            · rw [if_neg q, if_neg q, e1.1]
          have hrg : ∀ b, 0 ≤ cpW (σ (14 + s)) (σ 4) 0 0 M b ∧ cpW (σ (14 + s)) (σ 4) 0 0 M b ≤ 9 := fun b => by
            unfold cpW
            split
            · exact hgood _ (by omega)
            · exact h.1.2.2.1 b
          have hR2 := hcf.2.sr (k := 39) (w := cpW (fun j => σ 44 (80 * s + j)) (σ 39) 0 0 M) (fun b => by rw [← heq]; have := hrg b; omega)
          generalize cpW (σ (14 + s)) (σ 4) 0 0 M = w at *
          generalize cpW (fun j => σ 44 (80 * s + j)) (σ 39) 0 0 M = w' at *
          subst heq
          obtain ⟨⟨-, j2, j3, j4, j5, j6, j7, j8, j9, j10, j11, j12, j13, j14⟩, ⟨-, t0, m2, m3, m4, m5, m6, m7, m8, m9, m10, m11, m12⟩, -, hb⟩ := h
          exact ⟨d.trans d2.symm, fun k hk => sr_ne (by omega), W, H, P, C, O, ⟨hR2, j2, hrg, j4, j5, j6, j7, j8, j9, j10, j11, j12, j13, j14⟩, ⟨hR2, t0, m2, hrg, m4, m5, m6, m7, m8, m9, m10, m11, m12⟩, ⟨⟨rfl, e1.2⟩, e2, e3, e4, e5, e6, e7, lt3 (e8 0 (by omega)) (e8 1 (by omega)) (e8 2 (by omega))⟩, by show σ 2 3 ≤ B + 800; omega⟩
theorem roadGo_cg {pre pre2 : Nat → Nat} {fr N : Nat} (h : ∀ c, c < N → pre c = pre2 c ∧ pre c < N) : ∀ (k c : Nat) (rd : Nat → Int) (laid : Int), c < N → roadGo pre fr k c rd laid = roadGo pre2 fr k c rd laid
  | 0, _, _, _, _ => rfl
  | k + 1, c, rd, laid, hc => by
    unfold roadGo
    split
    · rfl
    · rw [← (h c hc).1]
      exact roadGo_cg h k (pre c) _ _ (h c hc).2
theorem befS_cg {D D2 pr : Nat → Int} (hW : 0 < W) (h : ∀ c, c < W * H → D c = D2 c) (c : Nat) (hc : c < W * H) : befS D pr W H c = befS D2 pr W H c ∧ (befS D pr W H c).toNat < W * H := by
  have e : befF D pr W H c = befF D2 pr W H c := by
    funext s
    unfold befF
    by_cases q : nb W H c s = -1
    · rw [decide_eq_false (fun u => u.1 q), decide_eq_false (fun u => u.1 q)]
    · have r : nb W H c s = -1 ∨ (0 ≤ nb W H c s ∧ nb W H c s < (W * H : Nat)) := nb_r hc hW s
      rw [h c hc, h (nb W H c s).toNat (by omega)]
  have r := nb_r hc hW (fstN (befF D pr W H c) 4).toNat
  refine ⟨by unfold befS; rw [e], ?_⟩
  unfold befS
  split
  · show (-1 : Int).toNat < W * H
    omega
  · omega
theorem cf_road (h : JC σ W H P C O) (hB : σ 2 3 ≤ 890000) {x1 x2 z1 : Int} (h1 : cQ_road σ W H P C O x1 x2 σ1 z1) : CF σ σ1 := by
  have j9 := h.2.2.2.2.2.2.2.2.1
  rcases h1 with ⟨a, b, c⟩ | ⟨a, b, c, d⟩ | ⟨a, b, D, S, rD, rS, hsol, ⟨c, d, rfl⟩ | ⟨c, rd, hrd, hr1, z0, z8, rfl⟩⟩
  · rw [c]; exact CF.id h
  · rw [d]; exact CF.id h
  · exact ⟨fun k hk => by rw [sr_ne (by omega), sr_ne (by omega)], (h.1.sr rD).sr rS⟩
  · exact ⟨fun k hk => by rw [up_row (by omega), sr_ne (by omega), sr_ne (by omega), sr_ne (by omega)], (((h.1.sr rD).sr rS).sr (fun b => by have := hr1 b; omega)).up (by omega)⟩
set_option maxHeartbeats 2000000 in
theorem st_road (h : JJ σ W H P C O B) (hB : B ≤ 890000) {x1 x2 z1 z2 : Int} (h1 : cQ_road σ W H P C O x1 x2 σ1 z1) (h2 : mQ_road σ1 W H P C O x1 x2 σ2 z2) : ST σ1 σ2 z1 z2 B := by
  have hb0 := h.2.2.2
  have hcf := cf_road h.1 (by omega) h1
  have hg := h.1.2.1.2.2.1
  have hW : 0 < W := by have := h.1.2.1.2.2.2.1; omega
  obtain ⟨e1, e2, e3, e4, e5, e6, e7, e8⟩ := id h.2.2.1
  have f38 := hcf.1 38 (by omega)
  unfold cQ_road at h1
  rw [hg] at h1
  unfold mQ_road at h2
  rw [f38, hcf.1 39 (by omega), hcf.1 40 (by omega), hcf.1 41 (by omega), ← e1.1, ← e1.2.1, ← e1.2.2] at h2
  rcases h1 with ⟨a, b, c⟩ | ⟨a, b, c, d⟩ | ⟨a, b, D, S, rD, rS, hsol, hr⟩
  · subst c
    rcases h2 with ⟨a2, b2, c2⟩ | ⟨a2, b2, c2, d2⟩ | ⟨a2, b2, hr2⟩
    · rw [c2]; exact h.st (b.trans b2.symm)
    · exact absurd a2 a
    · exact absurd a2 a
  · subst d
    rcases h2 with ⟨a2, b2, c2⟩ | ⟨a2, b2, c2, d2⟩ | ⟨a2, b2, hr2⟩
    · exact absurd a a2
    · rw [d2]; exact h.st (c.trans c2.symm)
    · exact absurd b b2
  · rcases h2 with ⟨a2, b2, c2⟩ | ⟨a2, b2, c2, d2⟩ | ⟨a2, b2, D2, wy, rD2, rwy, hsol2, hr2⟩
    · exact absurd a a2
    · exact absurd b2 b
    · have huq := fun c hc => Sol.uniq (D := D) (D' := D2) hW (fun c => (prS_r (so := σ 4) (rd := σ 6) h.1.2.2.1 c).1) hsol hsol2 c hc
      have hx2 : x2.toNat < W * H := by omega
      have hD := huq x2.toNat hx2
      have j13 := h.1.2.2.2.2.2.2.2.2.2.2.2.2.1
      have m12 := h.2.1.2.2.2.2.2.2.2.2.2.2.2.2
      rcases hr with ⟨c, d, rfl⟩ | ⟨c, rd, hrd, hr1, z0, z8, rfl⟩
      · rcases hr2 with ⟨c2, d2, rfl⟩ | ⟨c2, rd2, hrd2, hr12, z02, z82, rfl⟩
        · refine ⟨d.trans d2.symm, fun k hk => sr_ne (by omega), W, H, P, C, O, h.sv (hcf.2.sr rD2) (fun k hk => by rw [sr_ne (by omega), sr_ne (by omega), sr_ne (by omega)]) j13 m12 (lt3 (e8 0 (by omega)) (e8 1 (by omega)) (e8 2 (by omega)))⟩
        · omega
      · rcases hr2 with ⟨c2, d2, rfl⟩ | ⟨c2, rd2, hrd2, hr12, z02, z82, rfl⟩
        · omega
        · have hgo := roadGo_cg (N := W * H) (fr := x1.toNat) (pre := fun c => (befS D (prS (σ 4) (σ 6)) W H c).toNat) (pre2 := fun c => (befS D2 (prS (σ 4) (σ 6)) W H c).toNat) (fun c hc => ⟨by show (befS D (prS (σ 4) (σ 6)) W H c).toNat = _; rw [(befS_cg hW huq c hc).1], (befS_cg hW huq c hc).2⟩) (W * H) x2.toNat (σ 6) 0 hx2
          rw [← hrd, ← hrd2] at hgo
          have hz : z1 = z2 := congrArg (fun q => q.2) hgo
          have hrr : rd = rd2 := congrArg (fun q => q.1) hgo
          subst hz
          subst hrr
          have hR2 := (((hcf.2.sr (k := 58) rD2).sr (k := 59) rwy).sr (k := 41) (w := rd) (fun b => by have := hr12 b; omega)).up (k := 38) (j := 6) (z := σ 38 6 + 10 * z1) (by have := h.2.1.2.2.2.2.2.2.2.2.1; omega)
          obtain ⟨⟨-, j2, j3, j4, j5, j6, j7, j8, j9, j10, j11, j12, -, j14⟩, ⟨-, t0, m2, m3, m4, m5, m6, m7, m8, m9, m10, m11, -⟩, -, hb⟩ := h
          refine ⟨rfl, fun k hk => by rw [up_row (by omega), sr_ne (by omega), sr_ne (by omega), sr_ne (by omega)], W, H, P, C, O, ⟨hR2, j2, j3, j4, hr1, j6, j7, j8, ⟨by show 0 ≤ σ 2 3 + 10 * z1; omega, by show σ 2 3 + 10 * z1 ≤ 900000; omega⟩, j10, j11, j12, j13, j14⟩, ⟨hR2, t0, m2, m3, m4, hr12, m6, m7, ⟨by show 0 ≤ σ 38 6 + 10 * z1; omega, by show σ 38 6 + 10 * z1 ≤ 900000; omega⟩, m9, m10, m11, m12⟩, ⟨⟨e1.1, e1.2.1, rfl⟩, e2, e3, e4, e5, fun j hj => ?_, by show σ 2 3 + 10 * z1 = σ 38 6 + 10 * z1; rw [e7], lt3 (e8 0 (by omega)) (e8 1 (by omega)) (e8 2 (by omega))⟩, by show σ 2 3 + 10 * z1 ≤ B + 800; omega⟩
          rw [up_ne (show 22 + j ≠ 6 by omega)]
          exact e6 j hj
theorem srG_cg {nS : Nat} {msk : Nat → Nat} {fit : Nat → Nat → Bool} {co co' : Nat → Nat → Int} {due : Nat → Int} (h : ∀ p, p < P → co p = co' p) : ∀ (k p U : Nat) (cost : Int) (tr : Nat → Nat) (st : St), p + k = P → srG nS msk fit co due k p U cost tr st = srG nS msk fit co' due k p U cost tr st := by
  intro k
  induction k with
  | zero => intro p U cost tr st hp; rfl
  | succ k ih =>
    intro p U cost tr st hp
    unfold srG
    rw [h p (by omega), ih (p + 1) U cost tr st (by omega)]
    have e : (fun s st' => srG nS msk fit co due k (p + 1) (U ||| msk s) (cost + co' p s) (udN tr p s) st') = (fun s st' => srG nS msk fit co' due k (p + 1) (U ||| msk s) (cost + co' p s) (udN tr p s) st') := by
      funext s st'
      exact ih (p + 1) _ _ _ _ (by omega)
    rw [e]
theorem srA_cg {so hm sh sh' due : Nat → Int} {L : List Tri} {sl still : Int} {tries : Nat} (h : ∀ p, p < P → sh p = sh' p) : srA so hm sh due W P L sl still tries = srA so hm sh' due W P L sl still tries := by
  unfold srA
  exact srG_cg (fun p hp => by funext s; unfold coG; rw [h p hp]) P 0 0 0 _ _ (by omega)
/-- what a draw of the class leaves -/
def cQ_draw (σ : Si) (W H P C O : Nat) (x1 x2 x3 : Int) (σ' : Si) (z : Int) : Prop := (¬ ((0 ≤ x1 ∧ x1 ≤ 999) ∧ (1 ≤ x2 ∧ x2 ≤ 20000) ∧ (0 ≤ x3 ∧ x3 ≤ 1)) ∧ z = -3 ∧ σ' = σ) ∨ (((0 ≤ x1 ∧ x1 ≤ 999) ∧ (1 ≤ x2 ∧ x2 ≤ 20000) ∧ (0 ≤ x3 ∧ x3 ≤ 1)) ∧ CD σ σ' ∧ ∃ (due : Nat → Int) (L : List Tri) (S : St), due = dueC σ (W * H) P C O x1 (σ 1 0) ∧ L = sitesAl (σ 5) (σ 6) W H (W * H) ∧ S = srA (σ 4) (σ 21) (σ 36) due W P L (σ 1 4) x3 x2.toNat ∧ ((S.2.2.2 = true ∧ z = -6 ∧ σ' 36 = σ 36) ∨ (¬ S.2.2.2 = true ∧ S.1 < 0 ∧ z = -1 ∧ σ' 36 = σ 36) ∨ (¬ S.2.2.2 = true ∧ 0 ≤ S.1 ∧ z = S.1 ∧ PutC due P L S.2.1 (σ' 36) (σ 36))))
def mQ_draw (σ : Si) (W H P C O : Nat) (x1 x2 x3 : Int) (σ' : Si) (z : Int) : Prop := (¬ ((0 ≤ x1 ∧ x1 ≤ 999) ∧ (1 ≤ x2 ∧ x2 ≤ 20000) ∧ (0 ≤ x3 ∧ x3 ≤ 1)) ∧ z = -3 ∧ σ' = σ) ∨ (((0 ≤ x1 ∧ x1 ≤ 999) ∧ (1 ≤ x2 ∧ x2 ≤ 20000) ∧ (0 ≤ x3 ∧ x3 ≤ 1)) ∧ MD σ σ' ∧ ∃ S : St, S = srA (σ 39) (σ 46) (shM σ) (dueM σ (W * H) P C O x1 (σ 38 22)) W P (sitesAl (σ 40) (σ 41) W H (W * H)) (σ 38 26) x3 x2.toNat ∧ ((S.2.2.2 = true ∧ z = -6 ∧ σ' 54 = σ 54 ∧ σ' 55 = σ 55 ∧ σ' 56 = σ 56) ∨ (¬ S.2.2.2 = true ∧ S.1 < 0 ∧ z = -1 ∧ σ' 54 = σ 54 ∧ σ' 55 = σ 55 ∧ σ' 56 = σ 56) ∨ (¬ S.2.2.2 = true ∧ 0 ≤ S.1 ∧ z = S.1 ∧ PutM (dueM σ (W * H) P C O x1 (σ 38 22)) P (sitesAl (σ 40) (σ 41) W H (W * H)) S.2.1 (σ' 54) (σ' 55) (σ' 56) P)))
theorem cf_draw (h : JJ σ W H P C O B) {x1 x2 x3 z1 : Int} (h1 : cQ_draw σ W H P C O x1 x2 x3 σ1 z1) : (∀ k, 38 ≤ k → k < 73 → σ1 k = σ k) ∧ Rg σ1 := by
  rcases h1 with ⟨a, b, c⟩ | ⟨a, b, -⟩
  · rw [c]; exact ⟨fun _ _ _ => rfl, h.1.1⟩
  · exact ⟨fun k h1 h2 => b.1 k h2 (by omega) (by omega), b.2.1⟩
set_option maxHeartbeats 4000000 in
theorem st_draw (h : JJ σ W H P C O B) {x1 x2 x3 z1 z2 : Int} (h1 : cQ_draw σ W H P C O x1 x2 x3 σ1 z1) (h2 : mQ_draw σ1 W H P C O x1 x2 x3 σ2 z2) : ST σ1 σ2 z1 z2 B := by
  obtain ⟨f, hR1⟩ := cf_draw h h1
  have hsh := shM_fr f
  have hdm : dueM σ1 (W * H) P C O x1 (σ1 38 22) = dueC σ (W * H) P C O x1 (σ 1 0) := by
    rw [due_eq h]
    unfold dueM
    rw [f 38 (by omega) (by omega), f 39 (by omega) (by omega), f 40 (by omega) (by omega), f 41 (by omega) (by omega), f 45 (by omega) (by omega), f 47 (by omega) (by omega), f 48 (by omega) (by omega), f 49 (by omega) (by omega), f 50 (by omega) (by omega), f 51 (by omega) (by omega), f 52 (by omega) (by omega), f 53 (by omega) (by omega)]
  obtain ⟨e1, e2, e3, e4, e5, e6, e7, e8⟩ := id h.2.2.1
  unfold mQ_draw at h2
  rw [hdm, hsh, f 39 (by omega) (by omega), f 40 (by omega) (by omega), f 41 (by omega) (by omega), f 46 (by omega) (by omega), f 54 (by omega) (by omega), f 55 (by omega) (by omega), f 56 (by omega) (by omega), f 38 (by omega) (by omega), ← e1.1, ← e1.2.1, ← e1.2.2, ← e2.2, ← e6 4 (by omega)] at h2
  rcases h1 with ⟨a, b, c⟩ | ⟨a, cd, due, L, S, hdue, hLL, hS, hr⟩
  · subst c
    rcases h2 with ⟨a2, b2, c2⟩ | ⟨a2, -⟩
    · rw [c2]; exact h.st (b.trans b2.symm)
    · exact absurd a2 a
  · rcases h2 with ⟨a2, b2, c2⟩ | ⟨a2, md, S2, hS2, hr2⟩
    · exact absurd a a2
    · rw [← hdue, ← hLL] at hS2 hr2
      rw [← srA_cg (sh := σ 36) (sh' := shM σ) (fun p hp => (e5 p hp).1), ← hS] at hS2
      subst hS2
      have hj2 := h.1.2.1
      have hW : 0 < W := by have := hj2.2.2.2.1; omega
      have hle := hj2.le
      have hin : ∀ s, s < L.length → InL W H (atS L s) := fun s hs => by rw [hLL] at hs ⊢; exact al_in hW hs
      have hP8 : P ≤ 8 := h.1.2.2.2.2.2.1.2.1
      have hSok : StOK L.length P due S2 := by rw [hS]; exact srA_ok hj2.2.2.2.1 hj2.2.2.2.2.1.2 hP8 hin h.1.2.2.2.2.2.2.2.2.2.1 (by omega)
      have k73 : ∀ k, 73 ≤ k → σ2 k = σ1 k := fun k hk => md.1 k (by omega)
      have lo : ∀ k, k < 38 → (k < 30 ∨ 34 < k) → k ≠ 36 → σ2 k = σ k := fun k q1 q2 q3 => by rw [md.1 k (by omega)]; exact cd.1 k (by omega) q2 q3
      have hz3 : ∀ b, 8 ≤ b → σ2 30 b = 0 ∧ σ2 31 b = 0 ∧ σ2 32 b = 0 := fun b hb => by rw [md.1 30 (by omega), md.1 31 (by omega), md.1 32 (by omega)]; exact cd.2.2 b hb
      have hi : ∀ k, 38 < k → k < 58 → k ≠ 54 → k ≠ 55 → k ≠ 56 → σ2 k = σ k := fun k q1 q2 q3 q4 q5 => by rw [md.1 k (by omega)]; exact f k (by omega) (by omega)
      have f8 : ∀ j, j < 33 → σ2 38 j = σ 38 j := fun j hj => by rw [md.2.2 j (by omega), f 38 (by omega) (by omega)]
      have h36 : σ2 36 = σ1 36 := md.1 36 (by omega)
      have keep : σ2 36 = σ 36 → σ2 54 = σ 54 → σ2 55 = σ 55 → σ2 56 = σ 56 → JJ σ2 W H P C O (B + 800) := by
        intro q1 q2 q3 q4
        have lo2 : ∀ k, k < 38 → (k < 30 ∨ 34 < k) → σ2 k = σ k := fun k u1 u2 => by
          by_cases q : k = 36
          · rw [q, q1]
          · exact lo k u1 u2 q
        have hi2 : ∀ k, 38 < k → k < 58 → σ2 k = σ k := fun k u1 u2 => by
          by_cases q : k = 54
          · rw [q, q2]
          · by_cases q' : k = 55
            · rw [q', q3]
            · by_cases q'' : k = 56
              · rw [q'', q4]
              · exact hi k u1 u2 q q' q''
        refine ⟨h.1.fr lo2 md.2.1 hz3, ?_, h.2.2.1.fr (fun k hk => by
          by_cases q : k < 38
          · exact lo2 k q (by omega)
          · exact hi2 k (by omega) (by omega)) f8, by rw [lo2 2 (by omega) (by omega)]; have := h.2.2.2; omega⟩
        obtain ⟨-, t0, m2, m3, m4, m5, m6, m7, m8, m9, m10, m11, m12⟩ := h.2.1
        unfold JM ClmM
        unfold ClmM at m6
        rw [hi2 39 (by omega) (by omega), hi2 40 (by omega) (by omega), hi2 41 (by omega) (by omega), hi2 42 (by omega) (by omega), hi2 43 (by omega) (by omega), hi2 46 (by omega) (by omega), hi2 47 (by omega) (by omega), hi2 48 (by omega) (by omega), hi2 49 (by omega) (by omega), hi2 50 (by omega) (by omega), hi2 51 (by omega) (by omega), hi2 52 (by omega) (by omega), q2, q3, q4, hi2 57 (by omega) (by omega), f8 0 (by omega), f8 1 (by omega), f8 2 (by omega), f8 6 (by omega), f8 10 (by omega), f8 13 (by omega), f8 18 (by omega), f8 22 (by omega), f8 23 (by omega), f8 24 (by omega), f8 25 (by omega), f8 26 (by omega)]
        exact ⟨md.2.1, t0, m2, m3, m4, m5, m6, m7, m8, m9, m10, m11, m12⟩
      rcases hr with ⟨r1, r2, r3⟩ | ⟨r1, r2, r3, r4⟩ | ⟨r1, r2, r3, r4, r5⟩
      · rcases hr2 with ⟨s1, s2, s3, s4, s5⟩ | ⟨s1, -⟩ | ⟨s1, -⟩
        · exact ⟨r2.trans s2.symm, k73, W, H, P, C, O, keep (h36.trans r3) s3 s4 s5⟩
        · exact absurd r1 s1
        · exact absurd r1 s1
      · rcases hr2 with ⟨s1, -⟩ | ⟨s1, s2, s3, s4, s5, s6⟩ | ⟨s1, s2, -⟩
        · exact absurd s1 r1
        · exact ⟨r3.trans s3.symm, k73, W, H, P, C, O, keep (h36.trans r4) s4 s5 s6⟩
        · omega
      · rcases hr2 with ⟨s1, -⟩ | ⟨s1, s2, -⟩ | ⟨s1, s2, s3, s4⟩
        · exact absurd s1 r1
        · omega
        · refine ⟨r3.trans s3.symm, k73, W, H, P, C, O, ?_⟩
          rw [← h36] at r4 r5
          have tin : ∀ p, p < P → 0 < due p → InL W H (atS L (S2.2.1 p)) := fun p hp hd => hin _ (hSok.2.2 r2 p hp hd)
          have hw := hj2.2.2.2.1
          have hh := hj2.2.2.2.2.1
          obtain ⟨⟨-, j2, j3, j4, j5, j6, j7, j8, j9, j10, j11, j12, j13, j14⟩, ⟨-, t0, m2, m3, m4, m5, m6, m7, m8, m9, m10, m11, m12⟩, -, hb⟩ := h
          have rng : ∀ p, p < P → 0 < due p → (1 ≤ (atS L (S2.2.1 p)).2.1 ∧ (atS L (S2.2.1 p)).2.1 ≤ 10) ∧ (1 ≤ (atS L (S2.2.1 p)).2.2 ∧ (atS L (S2.2.1 p)).2.2 ≤ 8) ∧ (atS L (S2.2.1 p)).1 < W * H := fun p hp hd => by
            obtain ⟨t1, t2, t3, t4⟩ := tin p hp hd
            have n0 := Int.natCast_nonneg ((atS L (S2.2.1 p)).1 / W)
            exact ⟨by omega, by omega, t1⟩
          refine ⟨?_, ?_, ?_, by rw [lo 2 (by omega) (by omega) (by omega)]; omega⟩
          · unfold JC Geo ClmC
            unfold Geo at j2
            unfold ClmC at j6
            rw [lo 1 (by omega) (by omega) (by omega), lo 2 (by omega) (by omega) (by omega), lo 4 (by omega) (by omega) (by omega), lo 5 (by omega) (by omega) (by omega), lo 6 (by omega) (by omega) (by omega), lo 7 (by omega) (by omega) (by omega), lo 8 (by omega) (by omega) (by omega), lo 18 (by omega) (by omega) (by omega), lo 19 (by omega) (by omega) (by omega), lo 21 (by omega) (by omega) (by omega), lo 22 (by omega) (by omega) (by omega), lo 23 (by omega) (by omega) (by omega), lo 26 (by omega) (by omega) (by omega), lo 27 (by omega) (by omega) (by omega), lo 37 (by omega) (by omega) (by omega)]
            refine ⟨md.2.1, j2, j3, j4, j5, j6, hz3, j8, j9, j10, fun p hp => ?_, fun p hp h8 => ⟨?_, (j12 p hp h8).2⟩, j13, j14⟩
            · rw [r4 p hp]
              split
              · rename_i hc
                have hr := rng p hc.1 hc.2
                have hdv := (shpT_div (t := atS L (S2.2.1 p)) (by omega) (by omega)).1
                refine Or.inr ⟨by omega, ?_, ?_⟩
                · unfold shpT; omega
                · rw [Int.toNat_natCast, hdv]; exact hr.2.2
              · exact Or.inl rfl
            · rw [r4 p h8, if_neg (fun q => by omega)]
          · unfold JM ClmM
            unfold ClmM at m6
            rw [hi 39 (by omega) (by omega) (by omega) (by omega) (by omega), hi 40 (by omega) (by omega) (by omega) (by omega) (by omega), hi 41 (by omega) (by omega) (by omega) (by omega) (by omega), hi 42 (by omega) (by omega) (by omega) (by omega) (by omega), hi 43 (by omega) (by omega) (by omega) (by omega) (by omega), hi 46 (by omega) (by omega) (by omega) (by omega) (by omega), hi 47 (by omega) (by omega) (by omega) (by omega) (by omega), hi 48 (by omega) (by omega) (by omega) (by omega) (by omega), hi 49 (by omega) (by omega) (by omega) (by omega) (by omega), hi 50 (by omega) (by omega) (by omega) (by omega) (by omega), hi 51 (by omega) (by omega) (by omega) (by omega) (by omega), hi 52 (by omega) (by omega) (by omega) (by omega) (by omega), hi 57 (by omega) (by omega) (by omega) (by omega) (by omega), f8 0 (by omega), f8 1 (by omega), f8 2 (by omega), f8 6 (by omega), f8 10 (by omega), f8 13 (by omega), f8 18 (by omega), f8 22 (by omega), f8 23 (by omega), f8 24 (by omega), f8 25 (by omega), f8 26 (by omega)]
            refine ⟨md.2.1, t0, m2, m3, m4, m5, m6, m7, m8, m9, fun p hp => ?_, m11, m12⟩
            by_cases hd : 0 < due p
            · obtain ⟨q1, q2, q3⟩ := (s4 p hp hp).2 hd
              have hr := rng p hp hd
              rw [q1, q2, q3]
              exact Or.inr ⟨by omega, by omega, by omega⟩
            · exact Or.inl ((s4 p hp hp).1 (by omega))
          · unfold EQ
            have eln : lnM σ2 = lnM σ := by unfold lnM; rw [hi 42 (by omega) (by omega) (by omega) (by omega) (by omega), hi 43 (by omega) (by omega) (by omega) (by omega) (by omega)]
            rw [eln, lo 1 (by omega) (by omega) (by omega), lo 2 (by omega) (by omega) (by omega), lo 4 (by omega) (by omega) (by omega), lo 5 (by omega) (by omega) (by omega), lo 6 (by omega) (by omega) (by omega), lo 17 (by omega) (by omega) (by omega), lo 18 (by omega) (by omega) (by omega), lo 20 (by omega) (by omega) (by omega), lo 21 (by omega) (by omega) (by omega), lo 22 (by omega) (by omega) (by omega), lo 23 (by omega) (by omega) (by omega), lo 24 (by omega) (by omega) (by omega), lo 25 (by omega) (by omega) (by omega), lo 26 (by omega) (by omega) (by omega), lo 27 (by omega) (by omega) (by omega), lo 28 (by omega) (by omega) (by omega), lo 37 (by omega) (by omega) (by omega), hi 39 (by omega) (by omega) (by omega) (by omega) (by omega), hi 40 (by omega) (by omega) (by omega) (by omega) (by omega), hi 41 (by omega) (by omega) (by omega) (by omega) (by omega), hi 42 (by omega) (by omega) (by omega) (by omega) (by omega), hi 44 (by omega) (by omega) (by omega) (by omega) (by omega), hi 45 (by omega) (by omega) (by omega) (by omega) (by omega), hi 46 (by omega) (by omega) (by omega) (by omega) (by omega), hi 47 (by omega) (by omega) (by omega) (by omega) (by omega), hi 48 (by omega) (by omega) (by omega) (by omega) (by omega), hi 49 (by omega) (by omega) (by omega) (by omega) (by omega), hi 50 (by omega) (by omega) (by omega) (by omega) (by omega), hi 51 (by omega) (by omega) (by omega) (by omega) (by omega), hi 52 (by omega) (by omega) (by omega) (by omega) (by omega), hi 53 (by omega) (by omega) (by omega) (by omega) (by omega), hi 57 (by omega) (by omega) (by omega) (by omega) (by omega), f8 6 (by omega)]
            refine ⟨e1, e2, e3, e4, fun p hp => ⟨?_, (e5 p hp).2⟩, fun j hj => by rw [f8 (22 + j) (by omega)]; exact e6 j hj, e7, fun s hs => by rw [lo (14 + s) (by omega) (by omega) (by omega)]; exact e8 s hs⟩
            rw [r4 p (by omega)]
            unfold shM
            by_cases hd : 0 < due p
            · obtain ⟨q1, q2, q3⟩ := (s4 p hp hp).2 hd
              have hr := rng p hp hd
              rw [if_pos ⟨hp, hd⟩, q1, q2, q3, if_neg (by omega)]
              unfold shpT
              omega
            · rw [if_neg (fun q => hd q.2), (s4 p hp hp).1 (by omega), if_pos rfl]
end Steps4
