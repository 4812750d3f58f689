/-! The two sides beside each other: what is equal; readers and reckoning -/
def EQ (σ : Si) (P : Nat) : Prop := (σ 4 = σ 39 ∧ σ 5 = σ 40 ∧ σ 6 = σ 41) ∧ (σ 20 = σ 45 ∧ σ 21 = σ 46) ∧ (σ 22 = σ 47 ∧ σ 23 = σ 48 ∧ σ 24 = σ 49 ∧ σ 25 = σ 50) ∧ (σ 26 = σ 51 ∧ σ 27 = σ 52 ∧ σ 28 = σ 53) ∧ (∀ p, p < P → σ 36 p = shM σ p ∧ σ 37 p = σ 57 p) ∧ (∀ j, j < 5 → σ 1 j = σ 38 (22 + j)) ∧ σ 2 3 = σ 38 6 ∧ (∀ s, s < 3 → σ 18 s = lnM σ s ∧ (0 ≤ σ 42 s → σ 17 s = σ 42 s) ∧ ∀ j, j < 80 → σ (14 + s) j = σ 44 (80 * s + j))
def JJ (σ : Si) (W H P C O : Nat) (B : Int) : Prop := JC σ W H P C O ∧ JM σ W H P C O ∧ EQ σ P ∧ σ 2 3 ≤ B
/-- what a call of the class leaves of the model's rows -/
def CF (σ σ1 : Si) : Prop := (∀ k, 38 ≤ k → σ1 k = σ k) ∧ Rg σ1
theorem lt3 {p : Nat → Prop} (h0 : p 0) (h1 : p 1) (h2 : p 2) : ∀ s, s < 3 → p s := fun s hs => by
  rcases (show s = 0 ∨ s = 1 ∨ s = 2 by omega) with rfl | rfl | rfl
  · exact h0
  · exact h1
  · exact h2
section Eq
variable {σ σ1 σ2 : Si} {W H P C O : Nat} {B : Int}
theorem JM.cf (h : JM σ W H P C O) (f : ∀ k, 38 ≤ k → k < 73 → σ1 k = σ k) (hR : Rg σ1) : JM σ1 W H P C O := by
  obtain ⟨-, t0, g, j3, j4, j5, j6, j7, j8, j9, j10, j11, j12⟩ := h
  unfold JM ClmM
  unfold ClmM at j6
  rw [f 38 (by omega) (by omega), f 39 (by omega) (by omega), f 40 (by omega) (by omega), f 41 (by omega) (by omega), f 42 (by omega) (by omega), f 43 (by omega) (by omega), f 46 (by omega) (by omega), f 47 (by omega) (by omega), f 48 (by omega) (by omega), f 49 (by omega) (by omega), f 50 (by omega) (by omega), f 51 (by omega) (by omega), f 52 (by omega) (by omega), f 54 (by omega) (by omega), f 55 (by omega) (by omega), f 56 (by omega) (by omega), f 57 (by omega) (by omega)]
  exact ⟨hR, t0, g, j3, j4, j5, j6, j7, j8, j9, j10, j11, j12⟩
theorem JC.fr (h : JC σ W H P C O) (f : ∀ k, k < 38 → (k < 30 ∨ 34 < k) → σ1 k = σ k) (hR : Rg σ1) (hz : ∀ b, 8 ≤ b → σ1 30 b = 0 ∧ σ1 31 b = 0 ∧ σ1 32 b = 0) : JC σ1 W H P C O := by
  obtain ⟨-, j2, j3, j4, j5, j6, -, j8, j9, j10, j11, j12, j13, j14⟩ := h
  unfold JC Geo ClmC
  unfold Geo at j2
  unfold ClmC at j6
  rw [f 1 (by omega) (by omega), f 2 (by omega) (by omega), f 4 (by omega) (by omega), f 5 (by omega) (by omega), f 6 (by omega) (by omega), f 7 (by omega) (by omega), f 8 (by omega) (by omega), f 18 (by omega) (by omega), f 19 (by omega) (by omega), f 21 (by omega) (by omega), f 22 (by omega) (by omega), f 23 (by omega) (by omega), f 26 (by omega) (by omega), f 27 (by omega) (by omega), f 36 (by omega) (by omega), f 37 (by omega) (by omega)]
  exact ⟨hR, j2, j3, j4, j5, j6, hz, j8, j9, j10, j11, j12, j13, j14⟩
theorem EQ.fr (h : EQ σ P) (f : ∀ k, (k < 30 ∨ (34 < k ∧ k < 38) ∨ (38 < k ∧ k < 58)) → σ1 k = σ k) (f8 : ∀ j, j < 33 → σ1 38 j = σ 38 j) : EQ σ1 P := by
  obtain ⟨e1, e2, e3, e4, e5, e6, e7, e8⟩ := h
  have esh : shM σ1 = shM σ := by unfold shM; rw [f 54 (by omega), f 55 (by omega), f 56 (by omega)]
  have eln : lnM σ1 = lnM σ := by unfold lnM; rw [f 42 (by omega), f 43 (by omega)]
  unfold EQ
  rw [esh, eln, f 1 (by omega), f 2 (by omega), f 4 (by omega), f 5 (by omega), f 6 (by omega), f 17 (by omega), f 18 (by omega), f 20 (by omega), f 21 (by omega), f 22 (by omega), f 23 (by omega), f 24 (by omega), f 25 (by omega), f 26 (by omega), f 27 (by omega), f 28 (by omega), f 36 (by omega), f 37 (by omega), f 39 (by omega), f 40 (by omega), f 41 (by omega), f 42 (by omega), f 44 (by omega), f 45 (by omega), f 46 (by omega), f 47 (by omega), f 48 (by omega), f 49 (by omega), f 50 (by omega), f 51 (by omega), f 52 (by omega), f 53 (by omega), f 57 (by omega), f8 6 (by omega)]
  exact ⟨e1, e2, e3, e4, e5, fun j hj => by rw [f8 (22 + j) (by omega)]; exact e6 j hj, e7, fun s hs => by rw [f (14 + s) (by omega)]; exact e8 s hs⟩
theorem EQ.row (e : EQ σ P) (i : Nat) (hi : i < 3) : σ (4 + i) = σ (39 + i) := by
  rcases (show i = 0 ∨ i = 1 ∨ i = 2 by omega) with rfl | rfl | rfl
  · exact e.1.1
  · exact e.1.2.1
  · exact e.1.2.2
theorem JJ.more (h : JJ σ W H P C O B) : JJ σ W H P C O (B + 800) := ⟨h.1, h.2.1, h.2.2.1, by have := h.2.2.2; omega⟩
/-- a reckoning on both sides -/
theorem JJ.rk (h : JJ σ W H P C O B) (f : ShrF σ σ1) (m : MF σ1 σ2) : JJ σ2 W H P C O (B + 800) := by
  obtain ⟨hc, hm, he, hb⟩ := h
  have r : ∀ k, (k < 30 ∨ (34 < k ∧ k < 38) ∨ (38 < k ∧ k < 58)) → σ2 k = σ k := fun k hk => by rw [m.1 k (by omega), f.1 k (by omega)]
  refine ⟨hc.fr (fun k h1 h2 => r k (by omega)) m.2.1 (fun b hb => by rw [m.1 30 (by omega), m.1 31 (by omega), m.1 32 (by omega)]; exact f.2.2 b hb), (hm.cf (fun k h1 h2 => f.1 k (by omega)) f.2.1).mf m, he.fr r (fun j hj => by rw [m.2.2 j (by omega), f.1 38 (by omega)]), ?_⟩
  rw [r 2 (by omega)]
  omega
theorem ShrF.rf (h : JC σ W H P C O) : ShrF σ σ := ⟨fun _ _ => rfl, h.1, h.2.2.2.2.2.2.1⟩
theorem JJ.mf (h : JJ σ W H P C O B) (m : MF σ σ2) : JJ σ2 W H P C O (B + 800) := h.rk (ShrF.rf h.1) m
theorem JJ.cf (h : JJ σ W H P C O B) (f : CF σ σ1) : JM σ1 W H P C O := h.2.1.cf (fun k h1 _ => f.1 k h1) f.2
theorem ShrF.cf (f : ShrF σ σ1) : CF σ σ1 := ⟨fun k hk => f.1 k (by omega), f.2.1⟩
theorem CF.id (h : JC σ W H P C O) : CF σ σ := ⟨fun _ _ => rfl, h.1⟩
theorem anyN_cg {f g : Nat → Bool} : ∀ N : Nat, (∀ i, i < N → f i = g i) → anyN f N = anyN g N
  | 0, _ => rfl
  | N + 1, h => by
    show (anyN f N || f N) = (anyN g N || g N)
    rw [anyN_cg N (fun i hi => h i (by omega)), h N (by omega)]
theorem ahd_cg {sh sh' : Nat → Int} {c p : Nat} (h : ∀ q, q < p → sh q = sh' q) : anyN (aheadF W sh c) p = anyN (aheadF W sh' c) p := anyN_cg p (fun i hi => by unfold aheadF; rw [h i hi])
theorem hedC_cg {sh sh' : Nat → Int} {s p : Nat} (h : ∀ q, q < p → sh q = sh' q) : hedC W H sh s p = hedC W H sh' s p := by
  funext c
  unfold hedC
  rw [ahd_cg h]
  have e : hedF W H sh s p c = hedF W H sh' s p c := by
    funext side
    unfold hedF
    rw [ahd_cg h]
  rw [e]
theorem ahF_cg {sh sh' : Nat → Int} {s p : Nat} (h : ∀ q, q < p → sh q = sh' q) : ahF W sh s p = ahF W sh' s p := by
  funext c
  unfold ahF
  rw [ahd_cg h]
theorem eq_told (h : JJ σ W H P C O B) (x1 x2 : Int) : cE_told σ W H P C O x1 x2 = mE_told σ W H P C O x1 x2 := by
  unfold cE_told mE_told
  rw [h.1.2.1.2.2.1]
  by_cases hc : (0 ≤ x1 ∧ x1 < (W * H : Nat)) ∧ (0 ≤ x2 ∧ x2 ≤ 2)
  · rw [if_pos hc, if_pos hc, h.2.2.1.row x2.toNat (by omega)]
  · rw [if_neg hc, if_neg hc]
theorem eq_isOf (h : JJ σ W H P C O B) (x1 x2 : Int) : cE_isOf σ W H P C O x1 x2 = mE_isOf σ W H P C O x1 x2 := by
  unfold cE_isOf mE_isOf
  rw [h.2.2.1.2.1.1]
theorem eq_plot (h : JJ σ W H P C O B) (x1 x2 : Int) : cE_plot σ W H P C O x1 x2 = mE_plot σ W H P C O x1 x2 := by
  obtain ⟨-, -, ⟨e1, e2, e3, e4, e5, e6, e7, e8⟩, -⟩ := h
  unfold cE_plot mE_plot
  by_cases hc : (0 ≤ x1 ∧ x1 < (P : Int)) ∧ (0 ≤ x2 ∧ x2 ≤ 5)
  · have hp := (e5 x1.toNat (by omega)).1
    rw [if_pos hc, if_pos hc, hp]
    unfold plotS
    rw [e1.1, e2.2, hedC_cg (fun q hq => (e5 q (by omega)).1)]
  · rw [if_neg hc, if_neg hc]
theorem eq_fine (h : JJ σ W H P C O B) (x1 x2 : Int) : cE_fine σ W H P C O x1 x2 = mE_fine σ W H P C O x1 x2 := by
  obtain ⟨-, -, ⟨e1, e2, e3, e4, e5, e6, e7, e8⟩, -⟩ := h
  unfold cE_fine mE_fine
  by_cases hc : (0 ≤ x1 ∧ x1 < (P : Int)) ∧ (0 ≤ x2 ∧ x2 ≤ 999)
  · obtain ⟨hp, hp2⟩ := e5 x1.toNat (by omega)
    rw [if_pos hc, if_pos hc, hp, hp2, hedC_cg (fun q hq => (e5 q (by omega)).1), e6 1 (by omega)]
  · rw [if_neg hc, if_neg hc]
theorem eq_count (h : JJ σ W H P C O B) (x1 : Int) : cE_count σ W H P C O x1 = mE_count σ W H P C O x1 := by
  obtain ⟨-, -, ⟨e1, e2, e3, e4, e5, e6, e7, e8⟩, -⟩ := h
  unfold cE_count mE_count countS
  rw [e1.2.2, e3.2.2.2, e6 0 (by omega), sumN_congr (f := fun p => bi (¬ σ 36 p = -1)) (g := fun p => bi (¬ shM σ p = -1)) P (fun p hp => by rw [(e5 p hp).1]), sumN_congr (f := fun s => bi (¬ σ 18 s = -1)) (g := fun s => bi (¬ lnM σ s = -1)) 3 (fun s hs => by rw [(e8 s hs).1])]
theorem st_upheld (h : JJ σ W H P C O B) (x1 z2 : Int) (h2 : mQ_upheld σ W H P C O x1 σ2 z2) : cE_upheld σ W H P C O x1 = z2 ∧ (∀ k, 73 ≤ k → σ2 k = σ k) ∧ JJ σ2 W H P C O (B + 800) := by
  obtain ⟨e1, e2, e3, e4, e5, e6, e7, e8⟩ := h.2.2.1
  unfold cE_upheld
  rcases h2 with ⟨a, b, c⟩ | ⟨a, b, c⟩
  · rw [if_neg a, b, c]; exact ⟨rfl, fun _ _ => rfl, h.more⟩
  · rw [if_pos a, b]
    refine ⟨?_, fun k hk => c.1 k (by omega), h.mf c⟩
    unfold uphC
    rw [e1.2.1, e1.2.2, e3.1, e3.2.1, e3.2.2.1, e3.2.2.2, e4.1, e4.2.1, e4.2.2, e6 0 (by omega)]
theorem st_holder (h : JJ σ W H P C O B) (x1 x2 z2 : Int) (h2 : mQ_holder σ W H P C O x1 x2 σ2 z2) : cE_holder σ W H P C O x1 x2 = z2 ∧ (∀ k, 73 ≤ k → σ2 k = σ k) ∧ JJ σ2 W H P C O (B + 800) := by
  obtain ⟨e1, e2, e3, e4, e5, e6, e7, e8⟩ := h.2.2.1
  unfold cE_holder
  rw [h.1.2.1.2.2.1]
  rcases h2 with ⟨a, b, c⟩ | ⟨a, b, c⟩
  · rw [if_neg a, b, c]; exact ⟨rfl, fun _ _ => rfl, h.more⟩
  · rw [if_pos a, b]
    refine ⟨?_, fun k hk => c.1 k (by omega), h.mf c⟩
    rw [e1.2.1, e1.2.2, e3.2.1, e3.2.2.1, e3.2.2.2, e6 0 (by omega)]
theorem cf_sum (h : JC σ W H P C O) {x1 x2 z1 : Int} (h1 : cQ_sum σ W H P C O x1 x2 σ1 z1) : CF σ σ1 := by
  rcases h1 with ⟨a, b, c⟩ | ⟨a, b, c⟩
  · rw [c]; exact CF.id h
  · exact b.cf
theorem st_sum (h : JJ σ W H P C O B) {x1 x2 z1 z2 : Int} (h1 : cQ_sum σ W H P C O x1 x2 σ1 z1) (h2 : mQ_sum σ1 W H P C O x1 x2 σ2 z2) : z1 = z2 ∧ (∀ k, 73 ≤ k → σ2 k = σ1 k) ∧ JJ σ2 W H P C O (B + 800) := by
  obtain ⟨e1, e2, e3, e4, e5, e6, e7, e8⟩ := h.2.2.1
  rcases h1 with ⟨a, b, c⟩ | ⟨a, b, c⟩
  · subst c
    rcases h2 with ⟨a2, b2, c2⟩ | ⟨a2, b2, c2⟩
    · rw [b, b2, c2]; exact ⟨rfl, fun _ _ => rfl, h.more⟩
    · exact absurd a2 a
  · rcases h2 with ⟨a2, b2, c2⟩ | ⟨a2, b2, c2⟩
    · exact absurd a a2
    · refine ⟨?_, fun k hk => b2.1 k (by omega), h.rk b b2⟩
      rw [c, c2, b.1 38 (by omega), b.1 39 (by omega), b.1 40 (by omega), b.1 41 (by omega), b.1 45 (by omega), b.1 47 (by omega), b.1 48 (by omega), b.1 49 (by omega), b.1 50 (by omega), b.1 51 (by omega), b.1 52 (by omega), b.1 53 (by omega), e1.1, e1.2.1, e1.2.2, e2.1, e3.1, e3.2.1, e3.2.2.1, e3.2.2.2, e4.1, e4.2.1, e4.2.2, e6 0 (by omega), e6 2 (by omega), e6 3 (by omega), e7]
theorem cf_has (h : JC σ W H P C O) {x1 x2 x3 z1 : Int} (h1 : cQ_has σ W H P C O x1 x2 x3 σ1 z1) : CF σ σ1 := by
  rcases h1 with ⟨a, b, c⟩ | ⟨a, b, c⟩
  · rw [c]; exact CF.id h
  · exact b.cf
theorem st_has (h : JJ σ W H P C O B) {x1 x2 x3 z1 z2 : Int} (h1 : cQ_has σ W H P C O x1 x2 x3 σ1 z1) (h2 : mQ_has σ1 W H P C O x1 x2 x3 σ2 z2) : z1 = z2 ∧ (∀ k, 73 ≤ k → σ2 k = σ1 k) ∧ JJ σ2 W H P C O (B + 800) := by
  obtain ⟨e1, e2, e3, e4, e5, e6, e7, e8⟩ := h.2.2.1
  rcases h1 with ⟨a, b, c⟩ | ⟨a, b, c⟩
  · subst c
    rcases h2 with ⟨a2, b2, c2⟩ | ⟨a2, b2, c2⟩
    · rw [b, b2, c2]; exact ⟨rfl, fun _ _ => rfl, h.more⟩
    · exact absurd a2 a
  · rcases h2 with ⟨a2, b2, c2⟩ | ⟨a2, b2, c2⟩
    · exact absurd a a2
    · refine ⟨?_, fun k hk => b2.1 k (by omega), h.rk b b2⟩
      rw [c, c2, b.1 38 (by omega), b.1 39 (by omega), b.1 40 (by omega), b.1 41 (by omega), b.1 45 (by omega), b.1 47 (by omega), b.1 48 (by omega), b.1 49 (by omega), b.1 50 (by omega), b.1 51 (by omega), b.1 52 (by omega), b.1 53 (by omega), e1.1, e1.2.1, e1.2.2, e2.1, e3.1, e3.2.1, e3.2.2.1, e3.2.2.2, e4.1, e4.2.1, e4.2.2, e6 0 (by omega), e6 2 (by omega), e6 3 (by omega), e7]
theorem cf_good (h : JC σ W H P C O) {x1 x2 z1 : Int} (h1 : cQ_good σ W H P C O x1 x2 σ1 z1) : CF σ σ1 := by
  rcases h1 with ⟨a, b, c⟩ | ⟨a, b, c, d⟩ | ⟨a, b, c, d⟩
  · rw [c]; exact CF.id h
  · rw [d]; exact CF.id h
  · exact c.cf
theorem due_eq (h : JJ σ W H P C O B) (day : Int) : dueC σ (W * H) P C O day (σ 1 0) = dueM σ (W * H) P C O day (σ 38 22) := by
  obtain ⟨e1, e2, e3, e4, e5, e6, e7, e8⟩ := h.2.2.1
  unfold dueC dueM
  rw [e1.1, e1.2.1, e1.2.2, e2.1, e3.1, e3.2.1, e3.2.2.1, e3.2.2.2, e4.1, e4.2.1, e4.2.2, e6 0 (by omega), e6 2 (by omega), e6 3 (by omega)]
theorem shM_fr (f : ∀ k, 38 ≤ k → k < 73 → σ1 k = σ k) : shM σ1 = shM σ := by unfold shM; rw [f 54 (by omega) (by omega), f 55 (by omega) (by omega), f 56 (by omega) (by omega)]
theorem st_good (h : JJ σ W H P C O B) {x1 x2 z1 z2 : Int} (h1 : cQ_good σ W H P C O x1 x2 σ1 z1) (h2 : mQ_good σ1 W H P C O x1 x2 σ2 z2) : z1 = z2 ∧ (∀ k, 73 ≤ k → σ2 k = σ1 k) ∧ JJ σ2 W H P C O (B + 800) := by
  have hcf := cf_good h.1 h1
  have hsh := shM_fr (fun k h1 _ => hcf.1 k h1)
  obtain ⟨e1, e2, e3, e4, e5, e6, e7, e8⟩ := id h.2.2.1
  have hin : ((0 ≤ x1 ∧ x1 < (P : Int)) ∧ (0 ≤ x2 ∧ x2 ≤ 999)) → σ 36 x1.toNat = shM σ x1.toNat := fun q => (e5 _ (by omega)).1
  unfold mQ_good at h2
  rw [hsh] at h2
  rcases h1 with ⟨a, b, c⟩ | ⟨a, b, c, d⟩ | ⟨a, b, c, d⟩
  · subst c
    rcases h2 with ⟨a2, b2, c2⟩ | ⟨a2, b2, c2, d2⟩ | ⟨a2, b2, c2, d2⟩
    · rw [b, b2, c2]; exact ⟨rfl, fun _ _ => rfl, h.more⟩
    · exact absurd a2 a
    · exact absurd a2 a
  · subst d
    rcases h2 with ⟨a2, b2, c2⟩ | ⟨a2, b2, c2, d2⟩ | ⟨a2, b2, c2, d2⟩
    · exact absurd a a2
    · rw [c, c2, d2]; exact ⟨rfl, fun _ _ => rfl, h.more⟩
    · exact absurd ((hin a).symm.trans b) b2
  · rcases h2 with ⟨a2, b2, c2⟩ | ⟨a2, b2, c2, d2⟩ | ⟨a2, b2, c2, d2⟩
    · exact absurd a a2
    · exact absurd ((hin a).trans b2) b
    · refine ⟨?_, fun k hk => c2.1 k (by omega), h.rk c c2⟩
      have hdu : dueM σ1 (W * H) P C O x2 (σ1 38 22) = dueM σ (W * H) P C O x2 (σ 38 22) := by
        unfold dueM
        rw [c.1 38 (by omega), c.1 39 (by omega), c.1 40 (by omega), c.1 41 (by omega), c.1 45 (by omega), c.1 47 (by omega), c.1 48 (by omega), c.1 49 (by omega), c.1 50 (by omega), c.1 51 (by omega), c.1 52 (by omega), c.1 53 (by omega)]
      rw [d, d2, hdu, due_eq h, c.1 38 (by omega), c.1 39 (by omega), c.1 40 (by omega), c.1 41 (by omega), hin a, e1.1, e1.2.1, e1.2.2, e6 4 (by omega)]
      unfold fauS
      rw [ahF_cg (sh := σ 36) (sh' := shM σ) (fun q hq => (e5 q (by omega)).1)]
end Eq
