/-! The two sides beside each other: claims, rules, plots -/
section Steps2
variable {σ σ1 σ2 : Si} {W H P C O : Nat} {B : Int}
theorem cf_claim (h : JC σ W H P C O) {x1 x2 x3 x4 z1 : Int} (hx1 : R32 x1) (hx2 : R32 x2) (hx3 : R32 x3) (hx4 : R32 x4) (h1 : cQ_claim σ W H P C O x1 x2 x3 x4 σ1 z1) : CF σ σ1 := by
  have h8 := h.2.2.2.2.2.1.2.2.2.1
  rcases h1 with ⟨a, b, c⟩ | ⟨a, b, c, d⟩ | ⟨a, b, c, rfl⟩
  · rw [c]; exact CF.id h
  · rw [d]; exact CF.id h
  · exact ⟨fun k hk => by rw [sr_ne (by omega), sr_ne (by omega), sr_ne (by omega), sr_ne (by omega), sr_ne (by omega)], ((((h.1.sr (ud_R (h.1 22 (by decide)) hx1)).sr (ud_R (h.1 23 (by decide)) hx2)).sr (ud_R (h.1 24 (by decide)) hx3)).sr (ud_R (h.1 25 (by decide)) hx4)).sr (ud_R (h.1 19 (by decide)) (by omega))⟩
set_option maxHeartbeats 2000000 in
theorem st_claim (h : JJ σ W H P C O B) {x1 x2 x3 x4 z1 z2 : Int} (hx1 : R32 x1) (hx2 : R32 x2) (hx3 : R32 x3) (hx4 : R32 x4) (h1 : cQ_claim σ W H P C O x1 x2 x3 x4 σ1 z1) (h2 : mQ_claim σ1 W H P C O x1 x2 x3 x4 σ2 z2) : ST σ1 σ2 z1 z2 B := by
  have hcf := cf_claim h.1 hx1 hx2 hx3 hx4 h1
  have hg := h.1.2.1.2.2.1
  have hle := h.1.2.1.le
  have h8 := h.1.2.2.2.2.2.1.2.2.2.1
  unfold cQ_claim at h1
  rw [hg] at h1
  rcases h1 with ⟨a, b, c⟩ | ⟨a, b, c, d⟩ | ⟨a, b, c, rfl⟩
  · subst c
    rcases h2 with ⟨a2, b2, c2⟩ | ⟨a2, b2, c2, d2⟩ | ⟨a2, b2, c2, d2⟩
    · rw [c2]; exact h.st (b.trans b2.symm)
    · exact absurd a2 a
    · exact absurd a2 a
  · subst d
    rcases h2 with ⟨a2, b2, c2⟩ | ⟨a2, b2, c2, d2⟩ | ⟨a2, b2, c2, d2⟩
    · exact absurd a a2
    · rw [d2]; exact h.st (c.trans c2.symm)
    · exact absurd b2 b
  · rcases h2 with ⟨a2, b2, c2⟩ | ⟨a2, b2, c2, d2⟩ | ⟨a2, b2, c2, rfl⟩
    · exact absurd a a2
    · exact absurd b b2
    · have hR2 := ((((hcf.2.sr (k := 47) (ud_R (hcf.2 47 (by decide)) (j := C) hx1)).sr (k := 48) (ud_R (hcf.2 48 (by decide)) (j := C) hx2)).sr (k := 49) (ud_R (hcf.2 49 (by decide)) (j := C) hx3)).sr (k := 50) (ud_R (hcf.2 50 (by decide)) (j := C) hx4)).sr (k := 38) (ud_R (hcf.2 38 (by decide)) (j := 13) (z := C + 1) (by omega))
      obtain ⟨⟨-, j2, j3, j4, j5, j6, j7, j8, j9, j10, j11, j12, j13, j14⟩, ⟨-, t0, m2, m3, m4, m5, m6, m7, m8, m9, m10, m11, m12⟩, ⟨e1, e2, e3, e4, e5, e6, e7, e8⟩, hb⟩ := h
      obtain ⟨k1, k2, k3, k4, k5, k6, k7, k8⟩ := j6
      obtain ⟨n1, n2, n3, n4, n5, n6, n7, n8⟩ := m6
      refine ⟨c.trans c2.symm, fun k hk => by rw [sr_ne (by omega), sr_ne (by omega), sr_ne (by omega), sr_ne (by omega), sr_ne (by omega)], W, H, P, C + 1, O, ⟨hR2, j2, j3, j4, j5, ⟨k1, k2, rfl, by omega, k5, k6, fun i hi => ?_, k8⟩, j7, j8, j9, j10, j11, j12, j13, j14⟩, ⟨hR2, t0, m2, m3, m4, m5, ⟨n1, n2, rfl, by omega, n5, n6, fun i hi => ?_, n8⟩, m7, m8, m9, m10, m11, m12⟩, ⟨e1, e2, ⟨congrArg (fun f => ud f C x1) e3.1, congrArg (fun f => ud f C x2) e3.2.1, congrArg (fun f => ud f C x3) e3.2.2.1, congrArg (fun f => ud f C x4) e3.2.2.2⟩, e4, e5, fun j hj => ?_, e7, lt3 (e8 0 (by omega)) (e8 1 (by omega)) (e8 2 (by omega))⟩, by show σ 2 3 ≤ B + 800; omega⟩
      · show (0 ≤ ud (σ 22) C x1 i ∧ ud (σ 22) C x1 i < 8) ∧ (0 ≤ ud (σ 23) C x2 i ∧ ud (σ 23) C x2 i ≤ 150)
        by_cases e : i = C
        · rw [e, ud_at, ud_at]; omega
        · rw [ud_ne e, ud_ne e]; exact k7 i (by omega)
      · show (0 ≤ ud (σ 47) C x1 i ∧ ud (σ 47) C x1 i < (P : Int)) ∧ (0 ≤ ud (σ 48) C x2 i ∧ ud (σ 48) C x2 i ≤ 150) ∧ (0 ≤ ud (σ 50) C x4 i ∧ ud (σ 50) C x4 i ≤ 999) ∧ 0 ≤ ud (σ 49) C x3 i
        by_cases e : i = C
        · rw [e, ud_at, ud_at, ud_at, ud_at]; omega
        · rw [ud_ne e, ud_ne e, ud_ne e, ud_ne e]; exact n7 i (by omega)
      · show σ 1 j = ud (σ 38) 13 (C + 1) (22 + j)
        rw [ud_ne (by omega)]; exact e6 j hj
theorem cf_withdraw (h : JC σ W H P C O) {z1 : Int} (h1 : cQ_withdraw σ W H P C O σ1 z1) : CF σ σ1 := by
  have h8 := h.2.2.2.2.2.1.2.2.2.1
  rcases h1 with ⟨a, b, c⟩ | ⟨a, b, rfl⟩
  · rw [c]; exact CF.id h
  · exact ⟨fun k hk => up_row (by omega), h.1.up (by omega)⟩
set_option maxHeartbeats 2000000 in
theorem st_withdraw (h : JJ σ W H P C O B) {z1 z2 : Int} (h1 : cQ_withdraw σ W H P C O σ1 z1) (h2 : mQ_withdraw σ1 W H P C O σ2 z2) : ST σ1 σ2 z1 z2 B := by
  have hcf := cf_withdraw h.1 h1
  have h8 := h.1.2.2.2.2.2.1.2.2.2.1
  rcases h1 with ⟨a, b, c⟩ | ⟨a, b, rfl⟩
  · subst c
    rcases h2 with ⟨a2, b2, c2⟩ | ⟨a2, b2, c2⟩
    · rw [c2]; exact h.st (b.trans b2.symm)
    · exact absurd a a2
  · rcases h2 with ⟨a2, b2, c2⟩ | ⟨a2, b2, rfl⟩
    · exact absurd a2 a
    · have hR2 : Rg (up (up σ 19 2 ((C : Int) - 1)) 38 13 ((C : Int) - 1)) := hcf.2.up (by omega)
      have e : up (up σ 19 2 ((C : Int) - 1)) 38 13 ((C : Int) - 1) = sr (sr σ 19 (ud (σ 19) 2 ((C : Int) - 1))) 38 (ud (σ 38) 13 ((C : Int) - 1)) := by rw [up_eq_sr, up_eq_sr]; rfl
      refine ⟨b.trans b2.symm, fun k hk => up_row (by omega), W, H, P, C - 1, O, ?_⟩
      rw [e] at hR2 ⊢
      obtain ⟨⟨-, j2, j3, j4, j5, j6, j7, j8, j9, j10, j11, j12, j13, j14⟩, ⟨-, t0, m2, m3, m4, m5, m6, m7, m8, m9, m10, m11, m12⟩, ⟨e1, e2, e3, e4, e5, e6, e7, e8⟩, hb⟩ := h
      obtain ⟨k1, k2, k3, k4, k5, k6, k7, k8⟩ := j6
      obtain ⟨n1, n2, n3, n4, n5, n6, n7, n8⟩ := m6
      refine ⟨⟨hR2, j2, j3, j4, j5, ⟨k1, k2, by show (C : Int) - 1 = ((C - 1 : Nat) : Int); omega, by omega, k5, k6, fun i hi => k7 i (by omega), k8⟩, j7, j8, j9, j10, j11, j12, j13, j14⟩, ⟨hR2, t0, m2, m3, m4, m5, ⟨n1, n2, by show (C : Int) - 1 = ((C - 1 : Nat) : Int); omega, by omega, n5, n6, fun i hi => n7 i (by omega), n8⟩, m7, m8, m9, m10, m11, m12⟩, ⟨e1, e2, e3, e4, e5, fun j hj => ?_, e7, lt3 (e8 0 (by omega)) (e8 1 (by omega)) (e8 2 (by omega))⟩, by show σ 2 3 ≤ B + 800; omega⟩
      show σ 1 j = ud (σ 38) 13 ((C : Int) - 1) (22 + j)
      rw [ud_ne (by omega)]; exact e6 j hj
theorem cf_rule (h : JC σ W H P C O) {x1 x2 z1 : Int} (hx2 : R32 x2) (h1 : cQ_rule σ W H P C O x1 x2 σ1 z1) : CF σ σ1 := by
  rcases h1 with ⟨a, b, c⟩ | ⟨a, b, rfl⟩
  · rw [c]; exact CF.id h
  · exact ⟨fun k hk => up_row (by omega), h.1.up hx2⟩
set_option maxHeartbeats 2000000 in
theorem st_rule (h : JJ σ W H P C O B) {x1 x2 z1 z2 : Int} (hx2 : R32 x2) (h1 : cQ_rule σ W H P C O x1 x2 σ1 z1) (h2 : mQ_rule σ1 W H P C O x1 x2 σ2 z2) : ST σ1 σ2 z1 z2 B := by
  have hcf := cf_rule h.1 hx2 h1
  rcases h1 with ⟨a, b, c⟩ | ⟨a, b, rfl⟩
  · subst c
    rcases h2 with ⟨a2, b2, c2⟩ | ⟨a2, b2, c2⟩
    · rw [c2]; exact h.st (b.trans b2.symm)
    · exact absurd a2 a
  · rcases h2 with ⟨a2, b2, c2⟩ | ⟨a2, b2, rfl⟩
    · exact absurd a a2
    · have hz : z1 = z2 := by rw [b, b2, hcf.1 38 (by omega), h.2.2.1.2.2.2.2.2.1 x1.toNat (by omega)]
      have hR2 : Rg (up (up σ 1 x1.toNat x2) 38 (22 + x1.toNat) x2) := hcf.2.up hx2
      have e : up (up σ 1 x1.toNat x2) 38 (22 + x1.toNat) x2 = sr (sr σ 1 (ud (σ 1) x1.toNat x2)) 38 (ud (σ 38) (22 + x1.toNat) x2) := by rw [up_eq_sr, up_eq_sr]; rfl
      refine ⟨hz, fun k hk => up_row (by omega), W, H, P, C, O, ?_⟩
      rw [e] at hR2 ⊢
      obtain ⟨⟨-, j2, j3, j4, j5, j6, j7, j8, j9, j10, j11, j12, j13, j14⟩, ⟨-, t0, m2, m3, m4, m5, m6, m7, m8, m9, m10, m11, m12⟩, ⟨e1, e2, e3, e4, e5, e6, e7, e8⟩, hb⟩ := h
      obtain ⟨n1, n2, n3, n4, n5, n6, n7, n8⟩ := m6
      have f38 : ∀ j, j < 22 → ud (σ 38) (22 + x1.toNat) x2 j = σ 38 j := fun j hj => ud_ne (by omega)
      have ee : ∀ j, j < 5 → ud (σ 1) x1.toNat x2 j = ud (σ 38) (22 + x1.toNat) x2 (22 + j) := fun j hj => by
        by_cases q : j = x1.toNat
        · rw [q, ud_at, ud_at]
        · rw [ud_ne q, ud_ne (by omega)]; exact e6 j hj
      have hr : (0 ≤ ud (σ 1) x1.toNat x2 0 ∧ ud (σ 1) x1.toNat x2 0 ≤ 999) ∧ (0 ≤ ud (σ 1) x1.toNat x2 1 ∧ ud (σ 1) x1.toNat x2 1 ≤ 999) ∧ (0 ≤ ud (σ 1) x1.toNat x2 2 ∧ ud (σ 1) x1.toNat x2 2 ≤ 50) ∧ (0 ≤ ud (σ 1) x1.toNat x2 3 ∧ ud (σ 1) x1.toNat x2 3 ≤ 1000) ∧ (0 ≤ ud (σ 1) x1.toNat x2 4 ∧ ud (σ 1) x1.toNat x2 4 ≤ 50) := by
        obtain ⟨⟨a1, a2⟩, a3, a4⟩ := a
        rcases (show x1 = 0 ∨ x1 = 1 ∨ x1 = 2 ∨ x1 = 3 ∨ x1 = 4 by omega) with rfl | rfl | rfl | rfl | rfl
        · exact ⟨⟨a3, a4⟩, j8.2⟩
        · exact ⟨j8.1, ⟨a3, a4⟩, j8.2.2⟩
        · exact ⟨j8.1, j8.2.1, ⟨a3, a4⟩, j8.2.2.2⟩
        · exact ⟨j8.1, j8.2.1, j8.2.2.1, ⟨a3, a4⟩, j8.2.2.2.2⟩
        · exact ⟨j8.1, j8.2.1, j8.2.2.1, j8.2.2.2.1, ⟨a3, a4⟩⟩
      refine ⟨⟨hR2, j2, j3, j4, j5, j6, j7, hr, j9, j10, j11, j12, j13, j14⟩, ⟨hR2, (f38 0 (by omega)).trans t0, ⟨(f38 1 (by omega)).trans m2.1, (f38 2 (by omega)).trans m2.2.1, m2.2.2⟩, m3, m4, m5, ⟨(f38 10 (by omega)).trans n1, n2, (f38 13 (by omega)).trans n3, n4, (f38 18 (by omega)).trans n5, n6, n7, n8⟩, ?_, ?_, m9, m10, m11, m12⟩, ⟨e1, e2, e3, e4, e5, ee, e7.trans (f38 6 (by omega)).symm, lt3 (e8 0 (by omega)) (e8 1 (by omega)) (e8 2 (by omega))⟩, by show σ 2 3 ≤ B + 800; omega⟩
      · rw [ee 0 (by omega), ee 1 (by omega), ee 2 (by omega), ee 3 (by omega), ee 4 (by omega)] at hr
        exact hr
      · show 0 ≤ ud (σ 38) (22 + x1.toNat) x2 6 ∧ ud (σ 38) (22 + x1.toNat) x2 6 ≤ 900000
        rw [f38 6 (by omega)]; exact m8
theorem cf_object (h : JC σ W H P C O) {x1 x2 x3 z1 : Int} (hx1 : R32 x1) (hx2 : R32 x2) (hx3 : R32 x3) (h1 : cQ_object σ W H P C O x1 x2 x3 σ1 z1) : CF σ σ1 := by
  have h8 := h.2.2.2.2.2.1.2.2.2.2.2.1
  rcases h1 with ⟨a, b, c⟩ | ⟨a, b, c, d⟩ | ⟨a, b, c, rfl⟩
  · rw [c]; exact CF.id h
  · rw [d]; exact CF.id h
  · exact ⟨fun k hk => by rw [sr_ne (by omega), sr_ne (by omega), sr_ne (by omega), sr_ne (by omega)], (((h.1.sr (ud_R (h.1 26 (by decide)) hx1)).sr (ud_R (h.1 27 (by decide)) hx2)).sr (ud_R (h.1 28 (by decide)) hx3)).sr (ud_R (h.1 19 (by decide)) (by omega))⟩
set_option maxHeartbeats 2000000 in
theorem st_object (h : JJ σ W H P C O B) {x1 x2 x3 z1 z2 : Int} (hx1 : R32 x1) (hx2 : R32 x2) (hx3 : R32 x3) (h1 : cQ_object σ W H P C O x1 x2 x3 σ1 z1) (h2 : mQ_object σ1 W H P C O x1 x2 x3 σ2 z2) : ST σ1 σ2 z1 z2 B := by
  have hcf := cf_object h.1 hx1 hx2 hx3 h1
  have hg := h.1.2.1.2.2.1
  have hle := h.1.2.1.le
  have h8 := h.1.2.2.2.2.2.1.2.2.2.2.2.1
  unfold cQ_object at h1
  rw [hg] at h1
  rcases h1 with ⟨a, b, c⟩ | ⟨a, b, c, d⟩ | ⟨a, b, c, rfl⟩
  · subst c
    rcases h2 with ⟨a2, b2, c2⟩ | ⟨a2, b2, c2, d2⟩ | ⟨a2, b2, c2, d2⟩
    · rw [c2]; exact h.st (b.trans b2.symm)
    · exact absurd a2 a
    · exact absurd a2 a
  · subst d
    rcases h2 with ⟨a2, b2, c2⟩ | ⟨a2, b2, c2, d2⟩ | ⟨a2, b2, c2, d2⟩
    · exact absurd a a2
    · rw [d2]; exact h.st (c.trans c2.symm)
    · exact absurd b2 b
  · rcases h2 with ⟨a2, b2, c2⟩ | ⟨a2, b2, c2, d2⟩ | ⟨a2, b2, c2, rfl⟩
    · exact absurd a a2
    · exact absurd b b2
    · have hR2 := (((hcf.2.sr (k := 51) (ud_R (hcf.2 51 (by decide)) (j := O) hx1)).sr (k := 52) (ud_R (hcf.2 52 (by decide)) (j := O) hx2)).sr (k := 53) (ud_R (hcf.2 53 (by decide)) (j := O) hx3)).sr (k := 38) (ud_R (hcf.2 38 (by decide)) (j := 18) (z := O + 1) (by omega))
      obtain ⟨⟨-, j2, j3, j4, j5, j6, j7, j8, j9, j10, j11, j12, j13, j14⟩, ⟨-, t0, m2, m3, m4, m5, m6, m7, m8, m9, m10, m11, m12⟩, ⟨e1, e2, e3, e4, e5, e6, e7, e8⟩, hb⟩ := h
      obtain ⟨k1, k2, k3, k4, k5, k6, k7, k8⟩ := j6
      obtain ⟨n1, n2, n3, n4, n5, n6, n7, n8⟩ := m6
      refine ⟨c.trans c2.symm, fun k hk => by rw [sr_ne (by omega), sr_ne (by omega), sr_ne (by omega), sr_ne (by omega)], W, H, P, C, O + 1, ⟨hR2, j2, j3, j4, j5, ⟨k1, k2, k3, k4, rfl, by omega, k7, fun i hi => ?_⟩, j7, j8, j9, j10, j11, j12, j13, j14⟩, ⟨hR2, t0, m2, m3, m4, m5, ⟨n1, n2, n3, n4, rfl, by omega, n7, fun i hi => ?_⟩, m7, m8, m9, m10, m11, m12⟩, ⟨e1, e2, e3, ⟨congrArg (fun f => ud f O x1) e4.1, congrArg (fun f => ud f O x2) e4.2.1, congrArg (fun f => ud f O x3) e4.2.2⟩, e5, fun j hj => ?_, e7, lt3 (e8 0 (by omega)) (e8 1 (by omega)) (e8 2 (by omega))⟩, by show σ 2 3 ≤ B + 800; omega⟩
      · show (0 ≤ ud (σ 26) O x1 i ∧ ud (σ 26) O x1 i < 8) ∧ (0 ≤ ud (σ 27) O x2 i ∧ ud (σ 27) O x2 i < 80)
        by_cases e : i = O
        · rw [e, ud_at, ud_at]; omega
        · rw [ud_ne e, ud_ne e]; exact k8 i (by omega)
      · show (0 ≤ ud (σ 51) O x1 i ∧ ud (σ 51) O x1 i < (P : Int)) ∧ (0 ≤ ud (σ 52) O x2 i ∧ ud (σ 52) O x2 i < 80)
        by_cases e : i = O
        · rw [e, ud_at, ud_at]; omega
        · rw [ud_ne e, ud_ne e]; exact n8 i (by omega)
      · show σ 1 j = ud (σ 38) 18 (O + 1) (22 + j)
        rw [ud_ne (by omega)]; exact e6 j hj
theorem cf_hedge (h : JC σ W H P C O) {x1 x2 z1 : Int} (hx2 : R32 x2) (h1 : cQ_hedge σ W H P C O x1 x2 σ1 z1) : CF σ σ1 := by
  rcases h1 with ⟨a, b, c⟩ | ⟨a, b, rfl⟩
  · rw [c]; exact CF.id h
  · exact ⟨fun k hk => up_row (by omega), h.1.up hx2⟩
set_option maxHeartbeats 2000000 in
theorem st_hedge (h : JJ σ W H P C O B) {x1 x2 z1 z2 : Int} (hx2 : R32 x2) (h1 : cQ_hedge σ W H P C O x1 x2 σ1 z1) (h2 : mQ_hedge σ1 W H P C O x1 x2 σ2 z2) : ST σ1 σ2 z1 z2 B := by
  have hcf := cf_hedge h.1 hx2 h1
  rcases h1 with ⟨a, b, c⟩ | ⟨a, b, rfl⟩
  · subst c
    rcases h2 with ⟨a2, b2, c2⟩ | ⟨a2, b2, c2⟩
    · rw [c2]; exact h.st (b.trans b2.symm)
    · exact absurd a2 a
  · rcases h2 with ⟨a2, b2, c2⟩ | ⟨a2, b2, rfl⟩
    · exact absurd a a2
    · have hz : z1 = z2 := by rw [b, b2, hcf.1 57 (by omega), (h.2.2.1.2.2.2.2.1 x1.toNat (by omega)).2]
      have hR2 : Rg (up (up σ 37 x1.toNat x2) 57 x1.toNat x2) := hcf.2.up hx2
      have e : up (up σ 37 x1.toNat x2) 57 x1.toNat x2 = sr (sr σ 37 (ud (σ 37) x1.toNat x2)) 57 (ud (σ 57) x1.toNat x2) := by rw [up_eq_sr, up_eq_sr]; rfl
      refine ⟨hz, fun k hk => up_row (by omega), W, H, P, C, O, ?_⟩
      rw [e] at hR2 ⊢
      obtain ⟨⟨-, j2, j3, j4, j5, j6, j7, j8, j9, j10, j11, j12, j13, j14⟩, ⟨-, t0, m2, m3, m4, m5, m6, m7, m8, m9, m10, m11, m12⟩, ⟨e1, e2, e3, e4, e5, e6, e7, e8⟩, hb⟩ := h
      refine ⟨⟨hR2, j2, j3, j4, j5, j6, j7, j8, j9, j10, j11, fun p hp h8 => ⟨(j12 p hp h8).1, (ud_ne (by omega)).trans (j12 p hp h8).2⟩, j13, fun p hp => ?_⟩, ⟨hR2, t0, m2, m3, m4, m5, m6, m7, m8, m9, m10, fun p hp => ?_, m12⟩, ⟨e1, e2, e3, e4, fun p hp => ⟨(e5 p hp).1, ?_⟩, e6, e7, lt3 (e8 0 (by omega)) (e8 1 (by omega)) (e8 2 (by omega))⟩, by show σ 2 3 ≤ B + 800; omega⟩
      · show -1 ≤ ud (σ 37) x1.toNat x2 p ∧ ud (σ 37) x1.toNat x2 p ≤ 999
        by_cases q : p = x1.toNat
        · rw [q, ud_at]; exact a.2
        · rw [ud_ne q]; exact j14 p hp
      · show -1 ≤ ud (σ 57) x1.toNat x2 p ∧ ud (σ 57) x1.toNat x2 p ≤ 999
        by_cases q : p = x1.toNat
        · rw [q, ud_at]; exact a.2
        · rw [ud_ne q]; exact m11 p hp
      · show ud (σ 37) x1.toNat x2 p = ud (σ 57) x1.toNat x2 p
        by_cases q : p = x1.toNat
        · rw [q, ud_at, ud_at]
        · rw [ud_ne q, ud_ne q]; exact (e5 p hp).2
theorem cf_take (h : JC σ W H P C O) {x1 z1 : Int} (h1 : cQ_take σ W H P C O x1 σ1 z1) : CF σ σ1 := by
  rcases h1 with ⟨a, b, c⟩ | ⟨a, b, rfl⟩
  · rw [c]; exact CF.id h
  · exact ⟨fun k hk => up_row (by omega), h.1.up (by omega)⟩
set_option maxHeartbeats 2000000 in
theorem st_take (h : JJ σ W H P C O B) {x1 z1 z2 : Int} (h1 : cQ_take σ W H P C O x1 σ1 z1) (h2 : mQ_take σ1 W H P C O x1 σ2 z2) : ST σ1 σ2 z1 z2 B := by
  have hcf := cf_take h.1 h1
  rcases h1 with ⟨a, b, c⟩ | ⟨a, b, rfl⟩
  · subst c
    rcases h2 with ⟨a2, b2, c2⟩ | ⟨a2, b2, c2⟩
    · rw [c2]; exact h.st (b.trans b2.symm)
    · exact absurd a2 a
  · rcases h2 with ⟨a2, b2, c2⟩ | ⟨a2, b2, rfl⟩
    · exact absurd a a2
    · have hR2 : Rg (up (up σ 36 x1.toNat (-1)) 55 x1.toNat 0) := hcf.2.up (by omega)
      have e : up (up σ 36 x1.toNat (-1)) 55 x1.toNat 0 = sr (sr σ 36 (ud (σ 36) x1.toNat (-1))) 55 (ud (σ 55) x1.toNat 0) := by rw [up_eq_sr, up_eq_sr]; rfl
      obtain ⟨⟨-, j2, j3, j4, j5, j6, j7, j8, j9, j10, j11, j12, j13, j14⟩, ⟨-, t0, m2, m3, m4, m5, m6, m7, m8, m9, m10, m11, m12⟩, ⟨e1, e2, e3, e4, e5, e6, e7, e8⟩, hb⟩ := h
      have hle := j2.le
      have hz : z1 = z2 := by
        rw [b, b2, (e5 x1.toNat (by omega)).1, hcf.1 55 (by omega)]
        have q := shM_0 (σ := σ) m10 (show x1.toNat < P by omega) hle
        have r := m10 x1.toNat (by omega)
        exact bi_iff ⟨fun u => by have : ¬ σ 55 x1.toNat = 0 := fun v => u (q.mpr v); omega, fun u v => by have := q.mp v; omega⟩
      refine ⟨hz, fun k hk => up_row (by omega), W, H, P, C, O, ?_⟩
      rw [e] at hR2 ⊢
      refine ⟨⟨hR2, j2, j3, j4, j5, j6, j7, j8, j9, j10, fun p hp => ?_, fun p hp h8 => ⟨(ud_ne (by omega)).trans (j12 p hp h8).1, (j12 p hp h8).2⟩, j13, j14⟩, ⟨hR2, t0, m2, m3, m4, m5, m6, m7, m8, m9, fun p hp => ?_, m11, m12⟩, ⟨e1, e2, e3, e4, fun p hp => ⟨?_, (e5 p hp).2⟩, e6, e7, lt3 (e8 0 (by omega)) (e8 1 (by omega)) (e8 2 (by omega))⟩, by show σ 2 3 ≤ B + 800; omega⟩
      · show ud (σ 36) x1.toNat (-1) p = -1 ∨ (0 ≤ ud (σ 36) x1.toNat (-1) p ∧ ud (σ 36) x1.toNat (-1) p < 65536 ∧ (ud (σ 36) x1.toNat (-1) p).toNat / 256 < W * H)
        by_cases q : p = x1.toNat
        · rw [q, ud_at]; exact Or.inl rfl
        · rw [ud_ne q]; exact j11 p hp
      · show ud (σ 55) x1.toNat 0 p = 0 ∨ ((1 ≤ ud (σ 55) x1.toNat 0 p ∧ ud (σ 55) x1.toNat 0 p ≤ 10) ∧ (1 ≤ σ 56 p ∧ σ 56 p ≤ 10) ∧ (0 ≤ σ 54 p ∧ σ 54 p < (W * H : Nat)))
        by_cases q : p = x1.toNat
        · rw [q, ud_at]; exact Or.inl rfl
        · rw [ud_ne q]; exact m10 p hp
      · show ud (σ 36) x1.toNat (-1) p = if ud (σ 55) x1.toNat 0 p = 0 then -1 else 256 * σ 54 p + 16 * ud (σ 55) x1.toNat 0 p + σ 56 p
        by_cases q : p = x1.toNat
        · rw [q, ud_at, ud_at, if_pos rfl]
        · rw [ud_ne q, ud_ne q]; exact (e5 p hp).1
theorem cf_allot (h : JC σ W H P C O) {x1 x2 x3 z1 : Int} (h1 : cQ_allot σ W H P C O x1 x2 x3 σ1 z1) : CF σ σ1 := by
  have hg := h.2.1.2.2.1
  have hle := h.2.1.le
  rcases h1 with ⟨a, b, c⟩ | ⟨a, b, rfl⟩
  · rw [c]; exact CF.id h
  · exact ⟨fun k hk => up_row (by omega), h.1.up (by omega)⟩
set_option maxHeartbeats 2000000 in
theorem st_allot (h : JJ σ W H P C O B) {x1 x2 x3 z1 z2 : Int} (hx2 : R32 x2) (h1 : cQ_allot σ W H P C O x1 x2 x3 σ1 z1) (h2 : mQ_allot σ1 W H P C O x1 x2 x3 σ2 z2) : ST σ1 σ2 z1 z2 B := by
  have hcf := cf_allot h.1 h1
  have hg := h.1.2.1.2.2.1
  have hle := h.1.2.1.le
  unfold cQ_allot at h1
  rw [hg] at h1
  rcases h1 with ⟨a, b, c⟩ | ⟨a, b, rfl⟩
  · subst c
    rcases h2 with ⟨a2, b2, c2⟩ | ⟨a2, b2, c2⟩
    · rw [c2]; exact h.st (b.trans b2.symm)
    · exact absurd a2 a
  · rcases h2 with ⟨a2, b2, c2⟩ | ⟨a2, b2, rfl⟩
    · exact absurd a a2
    · have hR2 := ((hcf.2.sr (k := 54) (ud_R (hcf.2 54 (by decide)) (j := x1.toNat) hx2)).sr (k := 55) (ud_R (hcf.2 55 (by decide)) (j := x1.toNat) (z := x3 / 11) (by omega))).sr (k := 56) (ud_R (hcf.2 56 (by decide)) (j := x1.toNat) (z := x3 % 11) (by omega))
      refine ⟨b.trans b2.symm, fun k hk => by rw [sr_ne (by omega), sr_ne (by omega), sr_ne (by omega)], W, H, P, C, O, ?_⟩
      rw [up_eq_sr] at hR2 ⊢
      obtain ⟨⟨-, j2, j3, j4, j5, j6, j7, j8, j9, j10, j11, j12, j13, j14⟩, ⟨-, t0, m2, m3, m4, m5, m6, m7, m8, m9, m10, m11, m12⟩, ⟨e1, e2, e3, e4, e5, e6, e7, e8⟩, hb⟩ := h
      refine ⟨⟨hR2, j2, j3, j4, j5, j6, j7, j8, j9, j10, fun p hp => ?_, fun p hp h8 => ⟨(ud_ne (by omega)).trans (j12 p hp h8).1, (j12 p hp h8).2⟩, j13, j14⟩, ⟨hR2, t0, m2, m3, m4, m5, m6, m7, m8, m9, fun p hp => ?_, m11, m12⟩, ⟨e1, e2, e3, e4, fun p hp => ⟨?_, (e5 p hp).2⟩, e6, e7, lt3 (e8 0 (by omega)) (e8 1 (by omega)) (e8 2 (by omega))⟩, by show σ 2 3 ≤ B + 800; omega⟩
      · show ud (σ 36) x1.toNat (256 * x2 + 16 * (x3 / 11) + x3 % 11) p = -1 ∨ (0 ≤ ud (σ 36) x1.toNat (256 * x2 + 16 * (x3 / 11) + x3 % 11) p ∧ ud (σ 36) x1.toNat (256 * x2 + 16 * (x3 / 11) + x3 % 11) p < 65536 ∧ (ud (σ 36) x1.toNat (256 * x2 + 16 * (x3 / 11) + x3 % 11) p).toNat / 256 < W * H)
        by_cases q : p = x1.toNat
        · rw [q, ud_at]; refine Or.inr ⟨by omega, by omega, by omega⟩
        · rw [ud_ne q]; exact j11 p hp
      · show ud (σ 55) x1.toNat (x3 / 11) p = 0 ∨ ((1 ≤ ud (σ 55) x1.toNat (x3 / 11) p ∧ ud (σ 55) x1.toNat (x3 / 11) p ≤ 10) ∧ (1 ≤ ud (σ 56) x1.toNat (x3 % 11) p ∧ ud (σ 56) x1.toNat (x3 % 11) p ≤ 10) ∧ (0 ≤ ud (σ 54) x1.toNat x2 p ∧ ud (σ 54) x1.toNat x2 p < (W * H : Nat)))
        by_cases q : p = x1.toNat
        · rw [q, ud_at, ud_at, ud_at]; exact Or.inr ⟨a.2.2.2.1, a.2.2.2.2, a.2.1⟩
        · rw [ud_ne q, ud_ne q, ud_ne q]; exact m10 p hp
      · show ud (σ 36) x1.toNat (256 * x2 + 16 * (x3 / 11) + x3 % 11) p = if ud (σ 55) x1.toNat (x3 / 11) p = 0 then -1 else 256 * ud (σ 54) x1.toNat x2 p + 16 * ud (σ 55) x1.toNat (x3 / 11) p + ud (σ 56) x1.toNat (x3 % 11) p
        by_cases q : p = x1.toNat
        · rw [q, ud_at, ud_at, ud_at, ud_at, if_neg (by omega)]
        · rw [ud_ne q, ud_ne q, ud_ne q, ud_ne q]; exact (e5 p hp).1
end Steps2
