/-! The two sides beside each other: surveys, the road, draw -/
def SV (σ : Si) : Prop := ∀ s, s < 3 → σ 18 s = lnM σ s ∧ (0 ≤ σ 42 s → σ 17 s = σ 42 s) ∧ ∀ j, j < 80 → σ (14 + s) j = σ 44 (80 * s + j)
section Steps3
variable {σ σ1 σ2 : Si} {W H P C O : Nat} {B : Int}
theorem JJ.sv (h : JJ σ W H P C O B) (hR : Rg σ2) (f : ∀ k, (k < 9 ∨ (18 < k ∧ k < 42) ∨ (44 < k ∧ k < 58)) → σ2 k = σ k) (h18 : ∀ s, s < 3 → -1 ≤ σ2 18 s ∧ σ2 18 s ≤ 80) (h42 : ∀ s, s < 3 → (-1 ≤ σ2 42 s ∧ σ2 42 s ≤ 2) ∧ (0 ≤ σ2 43 s ∧ σ2 43 s ≤ 80)) (h8 : SV σ2) : JJ σ2 W H P C O (B + 800) := by
  obtain ⟨⟨-, j2, j3, j4, j5, j6, j7, j8, j9, j10, j11, j12, -, j14⟩, ⟨-, t0, m2, m3, m4, m5, m6, m7, m8, m9, m10, m11, -⟩, ⟨e1, e2, e3, e4, e5, e6, e7, -⟩, hb⟩ := h
  have esh : shM σ2 = shM σ := by unfold shM; rw [f 54 (by omega), f 55 (by omega), f 56 (by omega)]
  unfold Geo at j2
  unfold ClmC at j6
  unfold ClmM at m6
  refine ⟨?_, ?_, ?_, by rw [f 2 (by omega)]; omega⟩
  · unfold JC Geo ClmC
    rw [f 1 (by omega), f 2 (by omega), f 4 (by omega), f 5 (by omega), f 6 (by omega), f 7 (by omega), f 8 (by omega), f 19 (by omega), f 21 (by omega), f 22 (by omega), f 23 (by omega), f 26 (by omega), f 27 (by omega), f 30 (by omega), f 31 (by omega), f 32 (by omega), f 36 (by omega), f 37 (by omega)]
    exact ⟨hR, j2, j3, j4, j5, j6, j7, j8, j9, j10, j11, j12, h18, j14⟩
  · unfold JM ClmM
    rw [f 38 (by omega), f 39 (by omega), f 40 (by omega), f 41 (by omega), f 46 (by omega), f 47 (by omega), f 48 (by omega), f 49 (by omega), f 50 (by omega), f 51 (by omega), f 52 (by omega), f 54 (by omega), f 55 (by omega), f 56 (by omega), f 57 (by omega)]
    exact ⟨hR, t0, m2, m3, m4, m5, m6, m7, m8, m9, m10, m11, h42⟩
  · unfold EQ
    rw [esh, f 1 (by omega), f 2 (by omega), f 4 (by omega), f 5 (by omega), f 6 (by omega), f 20 (by omega), f 21 (by omega), f 22 (by omega), f 23 (by omega), f 24 (by omega), f 25 (by omega), f 26 (by omega), f 27 (by omega), f 28 (by omega), f 36 (by omega), f 37 (by omega), f 38 (by omega), f 39 (by omega), f 40 (by omega), f 41 (by omega), f 45 (by omega), f 46 (by omega), f 47 (by omega), f 48 (by omega), f 49 (by omega), f 50 (by omega), f 51 (by omega), f 52 (by omega), f 53 (by omega), f 57 (by omega)]
    exact ⟨e1, e2, e3, e4, e5, e6, e7, h8⟩
theorem EQ.there (e : EQ σ P) (m : JM σ W H P C O) (s : Nat) (hs : s < 3) : σ 18 s = -1 ↔ σ 42 s < 0 := by
  have h := (e.2.2.2.2.2.2.2 s hs).1
  have := (m.2.2.2.2.2.2.2.2.2.2.2.2 s hs).2
  unfold lnM at h
  split at h <;> omega
theorem EQ.len (e : EQ σ P) (s : Nat) (hs : s < 3) (h0 : 0 ≤ σ 42 s) : σ 18 s = σ 43 s := by
  have h := (e.2.2.2.2.2.2.2 s hs).1
  unfold lnM at h
  rw [if_neg (by omega)] at h
  exact h
theorem cf_survey (h : JC σ W H P C O) {x1 x2 x3 z1 : Int} (hx2 : R32 x2) (hx3 : R32 x3) (h1 : cQ_survey σ W H P C O x1 x2 x3 σ1 z1) : CF σ σ1 := by
  rcases h1 with ⟨a, b, c⟩ | ⟨a, b, c, d⟩ | ⟨a, b, c, rfl⟩
  · rw [c]; exact CF.id h
  · rw [d]; exact CF.id h
  · exact ⟨fun k hk => by rw [sr_ne (by omega), sr_ne (by omega), sr_ne (by omega)], ((h.1.sr (ud_R (h.1 17 (by decide)) hx2)).sr (ud_R (h.1 18 (by decide)) hx3)).sr (filW_R (h.1 (14 + x1.toNat) (by omega)) (by omega))⟩
set_option maxHeartbeats 2000000 in
theorem st_survey (h : JJ σ W H P C O B) {x1 x2 x3 z1 z2 : Int} (hx2 : R32 x2) (hx3 : R32 x3) (h1 : cQ_survey σ W H P C O x1 x2 x3 σ1 z1) (h2 : mQ_survey σ1 W H P C O x1 x2 x3 σ2 z2) : ST σ1 σ2 z1 z2 B := by
  have hcf := cf_survey h.1 hx2 hx3 h1
  rcases h1 with ⟨a, b, c⟩ | ⟨a, b, c, d⟩ | ⟨a, b, c, rfl⟩
  · subst c
    rcases h2 with ⟨a2, b2, c2⟩ | ⟨a2, b2, c2, d2⟩ | ⟨a2, b2, c2, d2⟩
    · rw [c2]; exact h.st (b.trans b2.symm)
    · exact absurd a2 a
    · exact absurd a2 a
  · subst d
    rcases h2 with ⟨a2, b2, c2⟩ | ⟨a2, b2, c2, d2⟩ | ⟨a2, b2, c2, d2⟩
    · exact absurd a a2
    · rw [d2]; exact h.st (c.trans c2.symm)
    · omega
  · rcases h2 with ⟨a2, b2, c2⟩ | ⟨a2, b2, c2, d2⟩ | ⟨a2, b2, c2, rfl⟩
    · exact absurd a a2
    · omega
    · generalize hs : x1.toNat = s at *
      have hs3 : s < 3 := by omega
      generalize hX : sr (sr (sr σ 17 (ud (σ 17) s x2)) 18 (ud (σ 18) s x3)) (14 + s) (filW (σ (14 + s)) 80 0) = X at *
      have f42 := hcf.1 42 (by omega)
      have f43 := hcf.1 43 (by omega)
      have f44 := hcf.1 44 (by omega)
      rw [f42, f43, f44]
      have hX17 : X 17 = ud (σ 17) s x2 := by rw [← hX, sr_ne (by omega), sr_ne (by omega), sr_at]
      have hX18 : X 18 = ud (σ 18) s x3 := by rw [← hX, sr_ne (by omega), sr_at]
      have hXs : X (14 + s) = filW (σ (14 + s)) 80 0 := by rw [← hX, sr_at]
      have hXo : ∀ k, k ≠ 17 → k ≠ 18 → k ≠ 14 + s → X k = σ k := fun k q1 q2 q3 => by rw [← hX, sr_ne q3, sr_ne q2, sr_ne q1]
      obtain ⟨e1, e2, e3, e4, e5, e6, e7, e8⟩ := id h.2.2.1
      have m12 := h.2.1.2.2.2.2.2.2.2.2.2.2.2.2
      have j13 := h.1.2.2.2.2.2.2.2.2.2.2.2.2.1
      have hR44 : ∀ b, R32 ((fun b => if 80 * s ≤ b ∧ b < 80 * s + 80 then 0 else σ 44 b) b) := fun b => by
        show R32 (if 80 * s ≤ b ∧ b < 80 * s + 80 then 0 else σ 44 b)
        split
        · omega
        · exact h.1.1 44 (by decide) b
      refine ⟨c.trans c2.symm, fun k hk => by rw [sr_ne (by omega), sr_ne (by omega), sr_ne (by omega)], W, H, P, C, O, h.sv (((hcf.2.sr (ud_R (h.1.1 42 (by decide)) hx2)).sr (ud_R (h.1.1 43 (by decide)) hx3)).sr hR44) (fun k hk => by rw [sr_ne (by omega), sr_ne (by omega), sr_ne (by omega)]; exact hXo k (by omega) (by omega) (by omega)) (fun t ht => ?_) (fun t ht => ?_) (fun t ht => ?_)⟩
      · rw [sr_ne (by omega), sr_ne (by omega), sr_ne (by omega), hX18]
        by_cases q : t = s
        · rw [q, ud_at]; omega
        · rw [ud_ne q]; exact j13 t ht
      · rw [sr_ne (show 42 ≠ 44 by decide), sr_ne (show 42 ≠ 43 by decide), sr_at, sr_ne (show 43 ≠ 44 by decide), sr_at]
        by_cases q : t = s
        · rw [q, ud_at, ud_at]; omega
        · rw [ud_ne q, ud_ne q]; exact m12 t ht
      · have hl : ∀ Y : Si, lnM (sr (sr (sr Y 42 (ud (σ 42) s x2)) 43 (ud (σ 43) s x3)) 44 (fun b => if 80 * s ≤ b ∧ b < 80 * s + 80 then 0 else σ 44 b)) t = if ud (σ 42) s x2 t < 0 then -1 else ud (σ 43) s x3 t := fun Y => rfl
        rw [hl, sr_ne (show 18 ≠ 44 by decide), sr_ne (show 18 ≠ 43 by decide), sr_ne (show 18 ≠ 42 by decide), sr_ne (show 42 ≠ 44 by decide), sr_ne (show 42 ≠ 43 by decide), sr_at, sr_ne (show 17 ≠ 44 by decide), sr_ne (show 17 ≠ 43 by decide), sr_ne (show 17 ≠ 42 by decide), hX17, hX18, sr_ne (show 14 + t ≠ 44 by omega), sr_ne (show 14 + t ≠ 43 by omega), sr_ne (show 14 + t ≠ 42 by omega), sr_at]
        by_cases q : t = s
        · subst q
          rw [ud_at, ud_at, ud_at, ud_at, if_neg (by omega)]
          refine ⟨rfl, fun _ => rfl, fun j hj => ?_⟩
          rw [hXs, filW_in hj, if_pos (by omega)]
        · rw [ud_ne q, ud_ne q, ud_ne q, ud_ne q, hXo (14 + t) (by omega) (by omega) (by omega)]
          refine ⟨(e8 t ht).1, (e8 t ht).2.1, fun j hj => ?_⟩
          rw [if_neg (by omega)]
          exact (e8 t ht).2.2 j hj
theorem cf_lose (h : JC σ W H P C O) {x1 z1 : Int} (h1 : cQ_lose σ W H P C O x1 σ1 z1) : CF σ σ1 := by
  rcases h1 with ⟨a, b, c⟩ | ⟨a, b, c, d⟩ | ⟨a, b, c, rfl⟩
  · rw [c]; exact CF.id h
  · rw [d]; exact CF.id h
  · exact ⟨fun k hk => up_row (by omega), h.1.up (by omega)⟩
set_option maxHeartbeats 2000000 in
theorem st_lose (h : JJ σ W H P C O B) {x1 z1 z2 : Int} (h1 : cQ_lose σ W H P C O x1 σ1 z1) (h2 : mQ_lose σ1 W H P C O x1 σ2 z2) : ST σ1 σ2 z1 z2 B := by
  have hcf := cf_lose h.1 h1
  have th := h.2.2.1.there h.2.1
  have f42 := hcf.1 42 (by omega)
  have f43 := hcf.1 43 (by omega)
  unfold mQ_lose at h2
  rw [f42, f43] at h2
  rcases h1 with ⟨a, b, c⟩ | ⟨a, b, c, d⟩ | ⟨a, b, c, rfl⟩
  · subst c
    rcases h2 with ⟨a2, b2, c2⟩ | ⟨a2, b2, c2, d2⟩ | ⟨a2, b2, c2, d2⟩
    · rw [c2]; exact h.st (b.trans b2.symm)
    · exact absurd a2 a
    · exact absurd a2 a
  · subst d
    have t1 := (th x1.toNat (by omega)).mp b
    rcases h2 with ⟨a2, b2, c2⟩ | ⟨a2, b2, c2, d2⟩ | ⟨a2, b2, c2, d2⟩
    · exact absurd a a2
    · rw [d2]; exact h.st (c.trans c2.symm)
    · omega
  · have t1 : ¬ σ 42 x1.toNat < 0 := fun q => b ((th x1.toNat (by omega)).mpr q)
    rcases h2 with ⟨a2, b2, c2⟩ | ⟨a2, b2, c2, d2⟩ | ⟨a2, b2, c2, rfl⟩
    · exact absurd a a2
    · omega
    · generalize hs : x1.toNat = s at *
      have hs3 : s < 3 := by omega
      obtain ⟨e1, e2, e3, e4, e5, e6, e7, e8⟩ := id h.2.2.1
      have m12 := h.2.1.2.2.2.2.2.2.2.2.2.2.2.2
      have j13 := h.1.2.2.2.2.2.2.2.2.2.2.2.2.1
      refine ⟨by rw [c, c2]; exact h.2.2.1.len s hs3 b2, fun k hk => up_row (by omega), W, H, P, C, O, h.sv (hcf.2.up (by omega)) (fun k hk => by rw [up_row (by omega), up_row (by omega)]) (fun t ht => ?_) (fun t ht => ?_) (fun t ht => ?_)⟩
      · rw [up_row (by omega), up_at]
        split
        · omega
        · exact j13 t ht
      · rw [up_at, up_row (show 43 ≠ 42 by decide), up_row (show 43 ≠ 18 by decide), up_row (show 42 ≠ 18 by decide)]
        refine ⟨?_, (m12 t ht).2⟩
        split
        · omega
        · exact (m12 t ht).1
      · have hl : lnM (up (up σ 18 s (-1)) 42 s (-1)) t = if (if t = s then -1 else σ 42 t) < 0 then -1 else σ 43 t := by
          show (if up (up σ 18 s (-1)) 42 s (-1) 42 t < 0 then -1 else up (up σ 18 s (-1)) 42 s (-1) 43 t) = _
          rw [up_at, up_row (show 43 ≠ 42 by decide), up_row (show 43 ≠ 18 by decide), up_row (show 42 ≠ 18 by decide)]
        rw [hl, up_row (show 18 ≠ 42 by decide), up_at, up_at, up_row (show 42 ≠ 18 by decide), up_row (show 17 ≠ 42 by decide), up_row (show 17 ≠ 18 by decide), up_row (show 14 + t ≠ 42 by omega), up_row (show 14 + t ≠ 18 by omega), up_row (show 44 ≠ 42 by decide), up_row (show 44 ≠ 18 by decide)]
        by_cases q : t = s
        · rw [if_pos q, if_pos q, if_pos (by omega)]
          exact ⟨rfl, fun q => absurd q (by omega), (e8 t ht).2.2⟩
        · rw [if_neg q, if_neg q]
          exact e8 t ht
theorem cf_mark (h : JC σ W H P C O) {x1 x2 x3 z1 : Int} (hx3 : R32 x3) (h1 : cQ_mark σ W H P C O x1 x2 x3 σ1 z1) : CF σ σ1 := by
  rcases h1 with ⟨a, b, c⟩ | ⟨a, b, c, d⟩ | ⟨a, b, c, d, e⟩ | ⟨a, b, c, d, rfl⟩
  · rw [c]; exact CF.id h
  · rw [d]; exact CF.id h
  · rw [e]; exact CF.id h
  · exact ⟨fun k hk => up_row (by omega), h.1.up (cutS_r _ _ hx3)⟩
set_option maxHeartbeats 2000000 in
theorem st_mark (h : JJ σ W H P C O B) {x1 x2 x3 z1 z2 : Int} (hx3 : R32 x3) (h1 : cQ_mark σ W H P C O x1 x2 x3 σ1 z1) (h2 : mQ_mark σ1 W H P C O x1 x2 x3 σ2 z2) : ST σ1 σ2 z1 z2 B := by
  have hcf := cf_mark h.1 hx3 h1
  have th := h.2.2.1.there h.2.1
  have f42 := hcf.1 42 (by omega)
  have f43 := hcf.1 43 (by omega)
  have f44 := hcf.1 44 (by omega)
  unfold mQ_mark at h2
  rw [f42, f43, f44] at h2
  have hlen : (0 ≤ x1 ∧ x1 ≤ 2) → ¬ σ 18 x1.toNat = -1 → 0 ≤ σ 42 x1.toNat ∧ σ 18 x1.toNat = σ 43 x1.toNat := fun a b => by
    have t1 : 0 ≤ σ 42 x1.toNat := by
      have : ¬ σ 42 x1.toNat < 0 := fun q => b ((th x1.toNat (by omega)).mpr q)
      omega
    exact ⟨t1, h.2.2.1.len _ (by omega) t1⟩
  rcases h1 with ⟨a, b, c⟩ | ⟨a, b, c, d⟩ | ⟨a, b, c, d, e⟩ | ⟨a, b, c, d, rfl⟩
  · subst c
    rcases h2 with ⟨a2, b2, c2⟩ | ⟨a2, b2, c2, d2⟩ | ⟨a2, b2, c2, d2, e2⟩ | ⟨a2, b2, c2, d2, e2⟩
    · rw [c2]; exact h.st (b.trans b2.symm)
    · exact absurd a2 a
    · exact absurd a2 a
    · exact absurd a2 a
  · subst d
    have t1 := (th x1.toNat (by omega)).mp b
    rcases h2 with ⟨a2, b2, c2⟩ | ⟨a2, b2, c2, d2⟩ | ⟨a2, b2, c2, d2, e2⟩ | ⟨a2, b2, c2, d2, e2⟩
    · exact absurd a a2
    · rw [d2]; exact h.st (c.trans c2.symm)
    · omega
    · omega
  · subst e
    obtain ⟨t1, t2⟩ := hlen a b
    rw [t2] at c
    rcases h2 with ⟨a2, b2, c2⟩ | ⟨a2, b2, c2, d2⟩ | ⟨a2, b2, c2, d2, e2⟩ | ⟨a2, b2, c2, d2, e2⟩
    · exact absurd a a2
    · omega
    · rw [e2]; exact h.st (d.trans d2.symm)
    · exact absurd c2 c
  · obtain ⟨t1, t2⟩ := hlen a b
    rw [t2] at c
    rcases h2 with ⟨a2, b2, c2⟩ | ⟨a2, b2, c2, d2⟩ | ⟨a2, b2, c2, d2, e2⟩ | ⟨a2, b2, c2, d2, rfl⟩
    · exact absurd a a2
    · omega
    · exact absurd c c2
    · generalize hs : x1.toNat = s at *
      have hs3 : s < 3 := by omega
      obtain ⟨e1, e2, e3, e4, e5, e6, e7, e8⟩ := id h.2.2.1
      have m12 := h.2.1.2.2.2.2.2.2.2.2.2.2.2.2
      have j13 := h.1.2.2.2.2.2.2.2.2.2.2.2.2.1
      have hj80 : x2.toNat < 80 := by have := (m12 s hs3).2; omega
      rw [(e8 s hs3).2.1 t1] at hcf ⊢
      refine ⟨by rw [d, d2]; exact (e8 s hs3).2.2 _ hj80, fun k hk => up_row (by omega), W, H, P, C, O, h.sv (hcf.2.up (cutS_r _ _ hx3)) (fun k hk => by rw [up_row (by omega), up_row (by omega)]) (fun t ht => ?_) (fun t ht => ?_) (fun t ht => ?_)⟩
      · rw [up_row (by omega), up_row (by omega)]; exact j13 t ht
      · rw [up_row (by omega), up_row (by omega), up_row (by omega), up_row (by omega)]; exact m12 t ht
      · have hl : lnM (up (up σ (14 + s) x2.toNat (cutS (σ 42 s) x3)) 44 (80 * s + x2.toNat) (cutS (σ 42 s) x3)) t = lnM σ t := by
          unfold lnM
          rw [up_row (show 42 ≠ 44 by decide), up_row (show 42 ≠ 14 + s by omega), up_row (show 43 ≠ 44 by decide), up_row (show 43 ≠ 14 + s by omega)]
        rw [hl, up_row (show 18 ≠ 44 by decide), up_row (show 18 ≠ 14 + s by omega), up_row (show 42 ≠ 44 by decide), up_row (show 42 ≠ 14 + s by omega), up_row (show 17 ≠ 44 by decide), up_row (show 17 ≠ 14 + s by omega), up_row (show 14 + t ≠ 44 by omega)]
        refine ⟨(e8 t ht).1, (e8 t ht).2.1, fun j hj => ?_⟩
        rw [up_at, up_row (show 44 ≠ 14 + s by omega)]
        by_cases q : t = s
        · subst q
          rw [up_at]
          by_cases q2 : j = x2.toNat
          · rw [if_pos q2, if_pos (by omega)]
          · rw [if_neg q2, if_neg (by omega)]; exact (e8 t ht).2.2 j hj
        · rw [up_row (by omega), if_neg (by omega)]; exact (e8 t ht).2.2 j hj
theorem cf_copy (h : JC σ W H P C O) {x1 x2 x3 x4 x5 z1 : Int} (h1 : cQ_copy σ W H P C O x1 x2 x3 x4 x5 σ1 z1) : CF σ σ1 := by
  rcases h1 with ⟨a, b, c⟩ | ⟨a, b, c, d⟩ | ⟨a, b, ⟨c, d, e⟩ | ⟨c, ⟨d, e, f⟩ | ⟨d, e, rfl⟩⟩⟩
  · rw [c]; exact CF.id h
  · rw [d]; exact CF.id h
  · rw [e]; exact CF.id h
  · rw [f]; exact CF.id h
  · refine ⟨fun k hk => sr_ne (by omega), h.1.sr (fun b => ?_)⟩
    unfold cpW
    split
    · exact h.1 (14 + x1.toNat) (by omega) _
    · exact h.1 (14 + x3.toNat) (by omega) _
set_option maxHeartbeats 2000000 in
theorem st_copy (h : JJ σ W H P C O B) {x1 x2 x3 x4 x5 z1 z2 : Int} (h1 : cQ_copy σ W H P C O x1 x2 x3 x4 x5 σ1 z1) (h2 : mQ_copy σ1 W H P C O x1 x2 x3 x4 x5 σ2 z2) : ST σ1 σ2 z1 z2 B := by
  have hcf := cf_copy h.1 h1
  have th := h.2.2.1.there h.2.1
  have f42 := hcf.1 42 (by omega)
  have f43 := hcf.1 43 (by omega)
  have f44 := hcf.1 44 (by omega)
  obtain ⟨e1, e2, e3, e4, e5, e6, e7, e8⟩ := id h.2.2.1
  have m12 := h.2.1.2.2.2.2.2.2.2.2.2.2.2.2
  have j13 := h.1.2.2.2.2.2.2.2.2.2.2.2.2.1
  unfold mQ_copy at h2
  rw [f42, f43, f44] at h2
  have hth : ((0 ≤ x1 ∧ x1 ≤ 2) ∧ (0 ≤ x3 ∧ x3 ≤ 2)) → ((σ 18 x1.toNat = -1 ∨ σ 18 x3.toNat = -1) ↔ (σ 42 x1.toNat < 0 ∨ σ 42 x3.toNat < 0)) := fun a => by
    rw [th x1.toNat (by omega), th x3.toNat (by omega)]
  have hlen : ((0 ≤ x1 ∧ x1 ≤ 2) ∧ (0 ≤ x3 ∧ x3 ≤ 2)) → ¬ (σ 42 x1.toNat < 0 ∨ σ 42 x3.toNat < 0) → σ 18 x1.toNat = σ 43 x1.toNat ∧ σ 18 x3.toNat = σ 43 x3.toNat ∧ σ 17 x1.toNat = σ 42 x1.toNat ∧ σ 17 x3.toNat = σ 42 x3.toNat := fun a b => ⟨h.2.2.1.len _ (by omega) (by omega), h.2.2.1.len _ (by omega) (by omega), (e8 _ (by omega)).2.1 (by omega), (e8 _ (by omega)).2.1 (by omega)⟩
  rcases h1 with ⟨a, b, c⟩ | ⟨a, b, c, d⟩ | ⟨a, b, hr⟩
  · subst c
    rcases h2 with ⟨a2, b2, c2⟩ | ⟨a2, b2, c2, d2⟩ | ⟨a2, b2, hr2⟩
    · rw [c2]; exact h.st (b.trans b2.symm)
    · exact absurd a2 a
    · exact absurd a2 a
  · subst d
    rcases h2 with ⟨a2, b2, c2⟩ | ⟨a2, b2, c2, d2⟩ | ⟨a2, b2, hr2⟩
    · exact absurd a a2
    · rw [d2]; exact h.st (c.trans c2.symm)
    · exact absurd ((hth a).mp b) b2
  · rcases h2 with ⟨a2, b2, c2⟩ | ⟨a2, b2, c2, d2⟩ | ⟨a2, b2, hr2⟩
    · exact absurd a a2
    · exact absurd ((hth a).mpr b2) b
    · obtain ⟨l1, l2, l3, l4⟩ := hlen a b2
      rw [l1, l2, l3, l4] at hr
      rcases hr with ⟨c, d, e⟩ | ⟨c, ⟨d, e, f⟩ | ⟨d, e, rfl⟩⟩
      · subst e
        rcases hr2 with ⟨c2, d2, e2⟩ | ⟨c2, hr2⟩
        · rw [e2]; exact h.st (d.trans d2.symm)
        · exact absurd c2 c
      · subst f
        rcases hr2 with ⟨c2, d2, e2⟩ | ⟨c2, ⟨d2, e2, f2⟩ | ⟨d2, e2, f2⟩⟩
        · exact absurd c c2
        · rw [f2]; exact h.st (e.trans e2.symm)
        · exact absurd d2 d
      · rcases hr2 with ⟨c2, d2, e2⟩ | ⟨c2, ⟨d2, e2, f2⟩ | ⟨d2, e2, rfl⟩⟩
        · exact absurd c c2
        · exact absurd d d2
        · generalize hs : x1.toNat = s at *
          generalize ht0 : x3.toNat = u at *
          have hs3 : s < 3 := by omega
          have hu3 : u < 3 := by omega
          have ms := (m12 s hs3).2
          have mu := (m12 u hu3).2
          have hR44 : ∀ b, R32 (cpW (σ 44) (σ 44) (80 * s + x2.toNat) (80 * u + x4.toNat) x5.toNat b) := fun b => by
            unfold cpW
            split
            · exact h.1.1 44 (by decide) _
            · exact h.1.1 44 (by decide) _
          refine ⟨e.trans e2.symm, fun k hk => sr_ne (by omega), W, H, P, C, O, h.sv (hcf.2.sr hR44) (fun k hk => by rw [sr_ne (by omega), sr_ne (by omega)]) (fun t ht => ?_) (fun t ht => ?_) (fun t ht => ?_)⟩
          · rw [sr_ne (by omega), sr_ne (by omega)]; exact j13 t ht
          · rw [sr_ne (by omega), sr_ne (by omega), sr_ne (by omega), sr_ne (by omega)]; exact m12 t ht
          · have hl : ∀ w w' : Nat → Int, lnM (sr (sr σ (14 + u) w) 44 w') t = lnM σ t := fun w w' => by
              unfold lnM
              rw [sr_ne (show 42 ≠ 44 by decide), sr_ne (show 42 ≠ 14 + u by omega), sr_ne (show 43 ≠ 44 by decide), sr_ne (show 43 ≠ 14 + u by omega)]
            rw [hl, sr_ne (show 18 ≠ 44 by decide), sr_ne (show 18 ≠ 14 + u by omega), sr_ne (show 42 ≠ 44 by decide), sr_ne (show 42 ≠ 14 + u by omega), sr_ne (show 17 ≠ 44 by decide), sr_ne (show 17 ≠ 14 + u by omega), sr_ne (show 14 + t ≠ 44 by omega), sr_at]
            refine ⟨(e8 t ht).1, (e8 t ht).2.1, fun j hj => ?_⟩
            by_cases q : t = u
            · subst q
              rw [sr_at]
              unfold cpW
              by_cases q2 : x4.toNat ≤ j ∧ j < x4.toNat + x5.toNat
              · rw [if_pos q2, if_pos (by omega), (e8 s hs3).2.2 _ (by omega)]
                congr 1
                omega
              · rw [if_neg q2, if_neg (by omega)]; exact (e8 t ht).2.2 j hj
            · rw [sr_ne (by omega)]
              unfold cpW
              rw [if_neg (by omega)]; exact (e8 t ht).2.2 j hj
end Steps3
