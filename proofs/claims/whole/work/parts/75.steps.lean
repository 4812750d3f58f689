/-! The two sides beside each other: what changes -/
section Steps
variable {σ σ1 σ2 : Si} {W H P C O : Nat} {B : Int}
theorem sr_at {X : Si} {k : Nat} {w : Nat → Int} : sr X k w k = w := if_pos rfl
theorem ud_in {w : Nat → Int} {j : Nat} {z lo hi : Int} (hw : ∀ c, lo ≤ w c ∧ w c ≤ hi) (hz : lo ≤ z ∧ z ≤ hi) : ∀ c, lo ≤ ud w j z c ∧ ud w j z c ≤ hi := fun c => by
  unfold ud
  split
  · exact hz
  · exact hw c
theorem filW_in {w : Nat → Int} {N b : Nat} {z : Int} (h : b < N) : filW w N z b = z := if_pos h
theorem fil_in {w : Nat → Int} {N : Nat} {z lo hi : Int} (hw : ∀ c, lo ≤ w c ∧ w c ≤ hi) (hz : lo ≤ z ∧ z ≤ hi) : ∀ c, lo ≤ filW w N z c ∧ filW w N z c ≤ hi := fun c => by
  unfold filW
  split
  · exact hz
  · exact hw c
/-- the end of a step -/
def ST (σ1 σ2 : Si) (z1 z2 B : Int) : Prop := z1 = z2 ∧ (∀ k, 73 ≤ k → σ2 k = σ1 k) ∧ ∃ W H P C O : Nat, JJ σ2 W H P C O (B + 800)
theorem JJ.st (h : JJ σ W H P C O B) {z1 z2 : Int} (e : z1 = z2) : ST σ σ z1 z2 B := ⟨e, fun _ _ => rfl, W, H, P, C, O, h.more⟩
theorem landC_Rg (hR : Rg σ) {w h : Nat} (hw : 2 ≤ w ∧ w ≤ 10) (hh : 2 ≤ h ∧ h ≤ 8) {c7 c8 : Nat → Int} (r7 : ∀ j, R32 (c7 j)) (r8 : ∀ j, R32 (c8 j)) : Rg (sr (sr (sr (landS σ w h c7 c8) 19 (ud (ud (ud (σ 19) 1 0) 2 0) 3 0)) 36 (filW (σ 36) 8 (-1))) 37 (filW (σ 37) 8 (-1))) := by
  have hle := WH_le hw.2 hh.2
  unfold landS
  exact ((((((((hR.sr (ud_R (ud_R (ud_R (ud_R (hR 2 (by decide)) (by omega)) (by omega)) (by omega)) (by omega))).sr (filW_R (hR 4 (by decide)) (by omega))).sr (filW_R (hR 5 (by decide)) (by omega))).sr (filW_R (hR 6 (by decide)) (by omega))).sr r7).sr r8).sr (ud_R (ud_R (ud_R (hR 19 (by decide)) (by omega)) (by omega)) (by omega))).sr (filW_R (hR 36 (by decide)) (by omega))).sr (filW_R (hR 37 (by decide)) (by omega))
theorem cf_land (h : JC σ W H P C O) {x1 x2 z1 : Int} (h1 : cQ_land σ W H P C O x1 x2 σ1 z1) : CF σ σ1 := by
  rcases h1 with ⟨a, b, c⟩ | ⟨a, b, c7, c8, r7, r8, hc, rfl⟩
  · rw [c]; exact CF.id h
  · refine ⟨fun k hk => ?_, landC_Rg h.1 (by omega) (by omega) r7 r8⟩
    unfold landS
    rw [sr_ne (by omega), sr_ne (by omega), sr_ne (by omega), sr_ne (by omega), sr_ne (by omega), sr_ne (by omega), sr_ne (by omega), sr_ne (by omega), sr_ne (by omega)]
theorem clr_Rg (hR : Rg σ) : Rg (clrS σ) := (((hR.sr (filW_R (hR 39 (by decide)) (by omega))).sr (filW_R (hR 40 (by decide)) (by omega))).sr (filW_R (hR 41 (by decide)) (by omega))).sr (ud_R (ud_R (ud_R (ud_R (hR 38 (by decide)) (by omega)) (by omega)) (by omega)) (by omega))
set_option maxHeartbeats 2000000 in
theorem st_land (h : JJ σ W H P C O B) (hB : 0 ≤ B) {x1 x2 z1 z2 : Int} (hx1 : R32 x1) (hx2 : R32 x2) (h1 : cQ_land σ W H P C O x1 x2 σ1 z1) (h2 : mQ_land σ1 W H P C O x1 x2 σ2 z2) : ST σ1 σ2 z1 z2 B := by
  have hcf := cf_land h.1 h1
  rcases h1 with ⟨a, b, c⟩ | ⟨a, b, c7, c8, r7, r8, hc, rfl⟩
  · subst c
    rcases h2 with ⟨a2, b2, c2⟩ | ⟨a2, b2, c2⟩
    · rw [c2]; exact h.st (b.trans b2.symm)
    · exact absurd a2 a
  · rcases h2 with ⟨a2, b2, c2⟩ | ⟨a2, b2, rfl⟩
    · exact absurd a a2
    · obtain ⟨⟨-, -, j3, j4, j5, -, j7, j8, -, -, -, -, j13, -⟩, ⟨-, t0, -, m3, m4, m5, -, m7, -, -, -, -, m12⟩, ⟨e1, e2, e3, e4, e5, e6, e7, e8⟩, hb⟩ := h
      have hR2 := clr_Rg (hcf.2.sr (k := 38) (ud_R (ud_R (hcf.2 38 (by decide)) (z := x1) (j := 1) hx1) (z := x2) (j := 2) hx2))
      refine ⟨b.trans b2.symm, fun k hk => ?_, x1.toNat, x2.toNat, 0, 0, 0, ⟨hR2, ⟨rfl, rfl, rfl, by omega, by omega, hc⟩, fil_in j3 (by omega), fil_in j4 (by omega), fil_in j5 (by omega), ⟨rfl, by omega, rfl, by omega, rfl, by omega, fun i hi => absurd hi (Nat.not_lt_zero i), fun i hi => absurd hi (Nat.not_lt_zero i)⟩, j7, j8, ⟨by show (0 : Int) ≤ 0; omega, by show (0 : Int) ≤ 900000; omega⟩, fun p hp => absurd hp (Nat.not_lt_zero p), fun p hp => Or.inl (filW_in hp), fun p _ hp => ⟨filW_in hp, filW_in hp⟩, j13, fun p hp => by show -1 ≤ filW (σ 37) 8 (-1) p ∧ filW (σ 37) 8 (-1) p ≤ 999; rw [filW_in hp]; omega⟩, ⟨hR2, t0, ⟨by show x1 = _; omega, by show x2 = _; omega, by omega, by omega⟩, fil_in m3 (by omega), fil_in m4 (by omega), fil_in m5 (by omega), ⟨rfl, by omega, rfl, by omega, rfl, by omega, fun i hi => absurd hi (Nat.not_lt_zero i), fun i hi => absurd hi (Nat.not_lt_zero i)⟩, m7, ⟨by show (0 : Int) ≤ 0; omega, by show (0 : Int) ≤ 900000; omega⟩, fun p hp => absurd hp (Nat.not_lt_zero p), fun p hp => absurd hp (Nat.not_lt_zero p), fun p hp => absurd hp (Nat.not_lt_zero p), m12⟩, ⟨⟨congrArg (fun f => filW f 80 1) e1.1, congrArg (fun f => filW f 80 0) e1.2.1, congrArg (fun f => filW f 80 0) e1.2.2⟩, e2, e3, e4, fun p hp => absurd hp (Nat.not_lt_zero p), fun j hj => ?_, rfl, ?_⟩, by show (0 : Int) ≤ B + 800; omega⟩
      · unfold clrS
        rw [sr_ne (by omega), sr_ne (by omega), sr_ne (by omega), sr_ne (by omega), sr_ne (by omega)]
      · show σ 1 j = ud (ud (ud (ud (ud (ud (σ 38) 1 x1) 2 x2) 6 0) 10 0) 13 0) 18 0 (22 + j)
        rw [ud_ne (by omega), ud_ne (by omega), ud_ne (by omega), ud_ne (by omega), ud_ne (by omega), ud_ne (by omega)]
        exact e6 j hj
      · exact lt3 (e8 0 (by omega)) (e8 1 (by omega)) (e8 2 (by omega))
theorem cf_cell (h : JC σ W H P C O) {x1 x2 x3 z1 : Int} (hx3 : R32 x3) (h1 : cQ_cell σ W H P C O x1 x2 x3 σ1 z1) : CF σ σ1 := by
  rcases h1 with ⟨a, b, c⟩ | ⟨a, b, rfl⟩
  · rw [c]; exact CF.id h
  · exact ⟨fun k hk => up_row (by omega), h.1.up hx3⟩
set_option maxHeartbeats 2000000 in
theorem st_cell (h : JJ σ W H P C O B) {x1 x2 x3 z1 z2 : Int} (hx3 : R32 x3) (h1 : cQ_cell σ W H P C O x1 x2 x3 σ1 z1) (h2 : mQ_cell σ1 W H P C O x1 x2 x3 σ2 z2) : ST σ1 σ2 z1 z2 B := by
  have hcf := cf_cell h.1 hx3 h1
  have hg := h.1.2.1.2.2.1
  rcases h1 with ⟨a, b, c⟩ | ⟨a, b, rfl⟩
  · subst c
    rw [hg] at a
    rcases h2 with ⟨a2, b2, c2⟩ | ⟨a2, b2, c2⟩
    · rw [c2]; exact h.st (b.trans b2.symm)
    · exact absurd a2 a
  · rw [hg] at a
    rcases h2 with ⟨a2, b2, c2⟩ | ⟨a2, b2, rfl⟩
    · exact absurd a a2
    · have hz : z1 = z2 := by rw [b, b2, hcf.1 (39 + x2.toNat) (by omega), h.2.2.1.row x2.toNat (by omega)]
      have hR2 : Rg (up (up σ (4 + x2.toNat) x1.toNat x3) (39 + x2.toNat) x1.toNat x3) := hcf.2.up hx3
      obtain ⟨⟨-, j2, j3, j4, j5, j6, j7, j8, j9, j10, j11, j12, j13, j14⟩, ⟨-, t0, m2, m3, m4, m5, m6, m7, m8, m9, m10, m11, m12⟩, ⟨e1, e2, e3, e4, e5, e6, e7, e8⟩, hb⟩ := h
      refine ⟨hz, fun k hk => up_row (by omega), W, H, P, C, O, ?_⟩
      obtain ⟨-, -, ⟨a3, a4⟩⟩ := a
      rcases (show x2 = 0 ∨ x2 = 1 ∨ x2 = 2 by omega) with rfl | rfl | rfl
      · have e : up (up σ (4 + (0 : Int).toNat) x1.toNat x3) (39 + (0 : Int).toNat) x1.toNat x3 = sr (sr σ 4 (ud (σ 4) x1.toNat x3)) 39 (ud (σ 39) x1.toNat x3) := by rw [up_eq_sr, up_eq_sr]; rfl
        rw [e] at hR2 ⊢
        have hm : 0 ≤ x3 ∧ x3 ≤ 9 := ⟨a3, a4⟩
        exact ⟨⟨hR2, j2, ud_in j3 hm, j4, j5, j6, j7, j8, j9, j10, j11, j12, j13, j14⟩, ⟨hR2, t0, m2, ud_in m3 hm, m4, m5, m6, m7, m8, m9, m10, m11, m12⟩, ⟨⟨congrArg (fun f => ud f x1.toNat x3) e1.1, e1.2⟩, e2, e3, e4, e5, e6, e7, lt3 (e8 0 (by omega)) (e8 1 (by omega)) (e8 2 (by omega))⟩, by show σ 2 3 ≤ B + 800; omega⟩
      · have e : up (up σ (4 + (1 : Int).toNat) x1.toNat x3) (39 + (1 : Int).toNat) x1.toNat x3 = sr (sr σ 5 (ud (σ 5) x1.toNat x3)) 40 (ud (σ 40) x1.toNat x3) := by rw [up_eq_sr, up_eq_sr]; rfl
        rw [e] at hR2 ⊢
        have hm : 0 ≤ x3 ∧ x3 ≤ 2 := ⟨a3, a4⟩
        exact ⟨⟨hR2, j2, j3, ud_in j4 hm, j5, j6, j7, j8, j9, j10, j11, j12, j13, j14⟩, ⟨hR2, t0, m2, m3, ud_in m4 hm, m5, m6, m7, m8, m9, m10, m11, m12⟩, ⟨⟨e1.1, congrArg (fun f => ud f x1.toNat x3) e1.2.1, e1.2.2⟩, e2, e3, e4, e5, e6, e7, lt3 (e8 0 (by omega)) (e8 1 (by omega)) (e8 2 (by omega))⟩, by show σ 2 3 ≤ B + 800; omega⟩
      · have e : up (up σ (4 + (2 : Int).toNat) x1.toNat x3) (39 + (2 : Int).toNat) x1.toNat x3 = sr (sr σ 6 (ud (σ 6) x1.toNat x3)) 41 (ud (σ 41) x1.toNat x3) := by rw [up_eq_sr, up_eq_sr]; rfl
        rw [e] at hR2 ⊢
        have hm : 0 ≤ x3 ∧ x3 ≤ 1 := ⟨a3, a4⟩
        exact ⟨⟨hR2, j2, j3, j4, ud_in j5 hm, j6, j7, j8, j9, j10, j11, j12, j13, j14⟩, ⟨hR2, t0, m2, m3, m4, ud_in m5 hm, m6, m7, m8, m9, m10, m11, m12⟩, ⟨⟨e1.1, e1.2.1, congrArg (fun f => ud f x1.toNat x3) e1.2.2⟩, e2, e3, e4, e5, e6, e7, lt3 (e8 0 (by omega)) (e8 1 (by omega)) (e8 2 (by omega))⟩, by show σ 2 3 ≤ B + 800; omega⟩
theorem cf_claimant (h : JC σ W H P C O) {x1 x2 z1 : Int} (hx1 : R32 x1) (hx2 : R32 x2) (h1 : cQ_claimant σ W H P C O x1 x2 σ1 z1) : CF σ σ1 := by
  have h8 := h.2.2.2.2.2.1.2.1
  rcases h1 with ⟨a, b, c⟩ | ⟨a, b, c, d⟩ | ⟨a, b, c, rfl⟩
  · rw [c]; exact CF.id h
  · rw [d]; exact CF.id h
  · exact ⟨fun k hk => by rw [sr_ne (by omega), sr_ne (by omega), sr_ne (by omega)], ((h.1.sr (ud_R (h.1 20 (by decide)) hx1)).sr (ud_R (h.1 21 (by decide)) hx2)).sr (ud_R (h.1 19 (by decide)) (by omega))⟩
set_option maxHeartbeats 2000000 in
theorem st_claimant (h : JJ σ W H P C O B) {x1 x2 z1 z2 : Int} (hx1 : R32 x1) (hx2 : R32 x2) (h1 : cQ_claimant σ W H P C O x1 x2 σ1 z1) (h2 : mQ_claimant σ1 W H P C O x1 x2 σ2 z2) : ST σ1 σ2 z1 z2 B := by
  have hcf := cf_claimant h.1 hx1 hx2 h1
  have hg := h.1.2.1.2.2.1
  have h8 := h.1.2.2.2.2.2.1.2.1
  unfold cQ_claimant at h1
  rw [hg] at h1
  rcases h1 with ⟨a, b, c⟩ | ⟨a, b, c, d⟩ | ⟨a, b, c, rfl⟩
  · subst c
    rcases h2 with ⟨a2, b2, c2⟩ | ⟨a2, b2, c2, d2⟩ | ⟨a2, b2, c2, d2⟩
    · rw [c2]; exact h.st (b.trans b2.symm)
    · exact absurd a2 a
    · exact absurd a2 a
  · subst d
    rcases h2 with ⟨a2, b2, c2⟩ | ⟨a2, b2, c2, d2⟩ | ⟨a2, b2, c2, d2⟩
    · exact absurd a a2
    · rw [d2]; exact h.st (c.trans c2.symm)
    · exact absurd b2 b
  · rcases h2 with ⟨a2, b2, c2⟩ | ⟨a2, b2, c2, d2⟩ | ⟨a2, b2, c2, rfl⟩
    · exact absurd a a2
    · exact absurd b b2
    · have hR2 := ((((hcf.2.sr (k := 45) (ud_R (hcf.2 45 (by decide)) (j := P) hx1)).sr (k := 46) (ud_R (hcf.2 46 (by decide)) (j := P) hx2)).sr (k := 55) (ud_R (hcf.2 55 (by decide)) (j := P) (z := 0) (by omega))).sr (k := 57) (ud_R (hcf.2 57 (by decide)) (j := P) (z := -1) (by omega))).sr (k := 38) (ud_R (hcf.2 38 (by decide)) (j := 10) (z := P + 1) (by omega))
      obtain ⟨⟨-, j2, j3, j4, j5, j6, j7, j8, j9, j10, j11, j12, j13, j14⟩, ⟨-, t0, m2, m3, m4, m5, m6, m7, m8, m9, m10, m11, m12⟩, ⟨e1, e2, e3, e4, e5, e6, e7, e8⟩, hb⟩ := h
      obtain ⟨k1, k2, k3, k4, k5, k6, k7, k8⟩ := j6
      obtain ⟨n1, n2, n3, n4, n5, n6, n7, n8⟩ := m6
      have nn := j12 P (Nat.le_refl _) b
      refine ⟨c.trans c2.symm, fun k hk => by rw [sr_ne (by omega), sr_ne (by omega), sr_ne (by omega), sr_ne (by omega), sr_ne (by omega)], W, H, P + 1, C, O, ⟨hR2, j2, j3, j4, j5, ⟨rfl, by omega, k3, k4, k5, k6, k7, k8⟩, j7, j8, j9, fun p hp => ?_, j11, fun p hp => j12 p (by omega), j13, j14⟩, ⟨hR2, t0, m2, m3, m4, m5, ⟨rfl, by omega, n3, n4, n5, n6, fun i hi => ⟨⟨(n7 i hi).1.1, ?_⟩, (n7 i hi).2⟩, fun o ho => ⟨⟨(n8 o ho).1.1, ?_⟩, (n8 o ho).2⟩⟩, m7, m8, fun p hp => ?_, fun p hp => ?_, fun p hp => ?_, m12⟩, ⟨e1, ⟨congrArg (fun f => ud f P x1) e2.1, congrArg (fun f => ud f P x2) e2.2⟩, e3, e4, fun p hp => ?_, fun j hj => ?_, e7, lt3 (e8 0 (by omega)) (e8 1 (by omega)) (e8 2 (by omega))⟩, by show σ 2 3 ≤ B + 800; omega⟩
      · show 0 ≤ ud (σ 21) P x2 p ∧ ud (σ 21) P x2 p < _
        by_cases e : p = P
        · rw [e, ud_at]; exact a.2
        · rw [ud_ne e]; exact j10 p (by omega)
      · have := (n7 i hi).1.2; show σ 47 i < ((P + 1 : Nat) : Int); omega
      · have := (n8 o ho).1.2; show σ 51 o < ((P + 1 : Nat) : Int); omega
      · show 0 ≤ ud (σ 46) P x2 p ∧ ud (σ 46) P x2 p < _
        by_cases e : p = P
        · rw [e, ud_at]; exact a.2
        · rw [ud_ne e]; exact m9 p (by omega)
      · show ud (σ 55) P 0 p = 0 ∨ ((1 ≤ ud (σ 55) P 0 p ∧ ud (σ 55) P 0 p ≤ 10) ∧ (1 ≤ σ 56 p ∧ σ 56 p ≤ 10) ∧ (0 ≤ σ 54 p ∧ σ 54 p < _))
        by_cases e : p = P
        · rw [e, ud_at]; exact Or.inl rfl
        · rw [ud_ne e]; exact m10 p (by omega)
      · show -1 ≤ ud (σ 57) P (-1) p ∧ ud (σ 57) P (-1) p ≤ 999
        by_cases e : p = P
        · rw [e, ud_at]; omega
        · rw [ud_ne e]; exact m11 p (by omega)
      · show σ 36 p = (if ud (σ 55) P 0 p = 0 then -1 else 256 * σ 54 p + 16 * ud (σ 55) P 0 p + σ 56 p) ∧ σ 37 p = ud (σ 57) P (-1) p
        by_cases e : p = P
        · rw [e, ud_at, ud_at, if_pos rfl]; exact nn
        · rw [ud_ne e, ud_ne e]; exact e5 p (by omega)
      · show σ 1 j = ud (σ 38) 10 (P + 1) (22 + j)
        rw [ud_ne (by omega)]; exact e6 j hj
end Steps
