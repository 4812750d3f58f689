/-! The desk and the model made -/
def rho0 : Rho := fun k j => if k = 3 ∧ j < 3 then some (3 + 1 + j) else if k = 13 ∧ j < 3 then some (13 + 1 + j) else if k = 78 ∧ j < 8 then some (78 + 1 + j) else none
def sZ : Si := fun _ _ => 0
def sA : Si := up (up (up (up (up sZ 1 0 500) 1 1 900) 1 2 0) 1 3 0) 1 4 2
def sB (c7 c8 : Nat → Int) : Si := up (up (up (landS sA 6 5 c7 c8) 18 0 (-1)) 18 1 (-1)) 18 2 (-1)
def sC (c7 c8 : Nat → Int) : Si := sr (sr (sB c7 c8) 36 (filW (sB c7 c8 36) 8 (-1))) 37 (filW (sB c7 c8 37) 8 (-1))
theorem sA_z : ∀ k, 2 ≤ k → ∀ j, sA k j = 0 := fun k hk j => by
  unfold sA
  rw [up_row (by omega), up_row (by omega), up_row (by omega), up_row (by omega), up_row (by omega)]
  rfl
theorem sZ_R : Rg sZ := fun k hk j => by show -2147483648 ≤ (0 : Int) ∧ (0 : Int) < 2147483648; omega
theorem sA_R : Rg sA := ((((sZ_R.up (by omega)).up (by omega)).up (by omega)).up (by omega)).up (by omega)
theorem land_z {c7 c8 : Nat → Int} : ∀ k, 9 ≤ k → ∀ j, landS sA 6 5 c7 c8 k j = 0 := fun k hk j => by
  unfold landS
  rw [sr_ne (by omega), sr_ne (by omega), sr_ne (by omega), sr_ne (by omega), sr_ne (by omega), sr_ne (by omega)]
  exact sA_z k (by omega) j
theorem sB_z {c7 c8 : Nat → Int} : ∀ k, 19 ≤ k → ∀ j, sB c7 c8 k j = 0 := fun k hk j => by
  unfold sB
  rw [up_row (by omega), up_row (by omega), up_row (by omega)]
  exact land_z k (by omega) j
section Make2
variable {l : Launch} {G : GG} {n : Nat} {ρ : Rho} {σ : Si}
def rho1 : Rho := (upR (upR (rX2 (upR (rX6 (upR (rX4 (upR (rX7 (upR (rX3 (upR (rX1 (upR rho0 0 0 (some 1))) 0 1 (some 2))) 0 2 (some 9))) 0 3 (some 12))) 0 4 (some 19))) 0 5 (some 29))) 0 6 (some 35)) 0 7 none)
set_option maxHeartbeats 8000000 in
theorem i_X8 : Ct l G 3 mX8_init 37 1147 1 rho0 sZ [rf G 0] 38 rho1 (fun σ' v => v = none ∧ ∃ c7 c8 : Nat → Int, (∀ j, R32 (c7 j)) ∧ (∀ j, R32 (c8 j)) ∧ (∀ c, c < 6 * 5 → c7 c = (c % 6 : Nat) ∧ c8 c = (c / 6 : Nat)) ∧ σ' = sC c7 c8) := by
  have hz : ∀ k, 1 ≤ k → ∀ j, sZ k j = 0 := fun _ _ _ => rfl
  refine Ct.of (L0 := [rf G 0]) (by decide +kernel) (Nat.le_of_ble_eq_true rfl) rfl ?_
  refine r_aloadk_n dX8_init_0 rfl ?_
  refine r_objInit dX8_init_1 ml_X8_1 oi_in oi_co (Nat.le_of_ble_eq_true rfl) (Nat.le_of_ble_eq_true rfl) ?_
  refine r_aloadk_n dX8_init_4 rfl ?_
  refine r_iconst dX8_init_5 ?_
  refine r_newi (N := 5) dX8_init_6 ac_int rfl (fun j => hz 1 (Nat.le_of_ble_eq_true rfl) j) (show 0 + 1 ≤ 37 by decide) (show 0 + 5 ≤ 1147 by decide) ?_
  refine show RW _ (1, 5, 2, rho0) _ _ _ _ from ?_
  refine r_dup dX8_init_8 rfl ?_
  refine r_iconst dX8_init_9 ?_
  refine r_sipush dX8_init_10 ?_
  refine r_iast dX8_init_13 rfl (Nat.le_of_ble_eq_true rfl) (c := 0) rfl (by decide) ?_
  refine r_dup dX8_init_14 rfl ?_
  refine r_iconst dX8_init_15 ?_
  refine r_sipush dX8_init_16 ?_
  refine r_iast dX8_init_19 rfl (Nat.le_of_ble_eq_true rfl) (c := 1) rfl (by decide) ?_
  refine r_dup dX8_init_20 rfl ?_
  refine r_iconst dX8_init_21 ?_
  refine r_iconst dX8_init_22 ?_
  refine r_iast dX8_init_23 rfl (Nat.le_of_ble_eq_true rfl) (c := 2) rfl (by decide) ?_
  refine r_dup dX8_init_24 rfl ?_
  refine r_iconst dX8_init_25 ?_
  refine r_iconst dX8_init_26 ?_
  refine r_iast dX8_init_27 rfl (Nat.le_of_ble_eq_true rfl) (c := 3) rfl (by decide) ?_
  refine r_dup dX8_init_28 rfl ?_
  refine r_iconst dX8_init_29 ?_
  refine r_iconst dX8_init_30 ?_
  refine r_iast dX8_init_31 rfl (Nat.le_of_ble_eq_true rfl) (c := 4) rfl (by decide) ?_
  refine show RW _ _ sA _ _ _ from ?_
  refine r_putrF (r := 1) (ty := .array .int) dX8_init_32 fl_X8_7 rfl (rfl) (fun C T N h => (congrArg (fun q => q.1) (Option.some.inj h)).symm) rfl (Nat.le_of_ble_eq_true rfl) (by decide +kernel) (fun _ => rfl) (fun _ => rfl) ?_
  refine show RW _ (1, 5, 2, (upR rho0 0 0 (some 1))) _ _ _ _ from ?_
  refine r_aloadk_n dX8_init_35 rfl ?_
  refine r_new (t := 1) dX8_init_36 rfl cl_X8_13 in_X1 ini_X1 rfl (sA_z 2 (by decide)) (fun j => rfl) df_X1 (show 1 + 1 ≤ 37 by decide) (show 5 + 7 ≤ 1147 by decide) ?_
  refine show RW _ (2, 12, 3, (upR rho0 0 0 (some 1))) _ _ _ _ from ?_
  refine r_dup dX8_init_39 rfl ?_
  refine r_callI dX8_init_40 (i_X1 (σ := sA) (by decide) (fun k hk => sA_z k (by omega)) sA_R) rfl ml_X8_15 okX1_init rfl rfl (Nat.le_of_ble_eq_true rfl) (roomOK.of (by decide)) ⟨(show 2 + 6 ≤ 37 by decide), (show 12 + 403 ≤ 1147 by decide)⟩ (fun σ1 v1 hq1 => ?_)
  obtain ⟨rfl, c7, c8, hr7, hr8, hc78, rfl⟩ := hq1
  refine show RW _ (8, 415, 9, (rX1 (upR rho0 0 0 (some 1)))) _ _ _ _ from ?_
  refine r_putrF (r := 2) (ty := .object "AwardDesk$Ground") dX8_init_43 fl_X8_16 rfl (rfl) (fun C T N h => (congrArg (fun q => q.1) (Option.some.inj h)).symm) rfl (Nat.le_of_ble_eq_true rfl) (by decide +kernel) (fun _ => rfl) (fun _ => rfl) ?_
  refine show RW _ (8, 415, 9, (upR (rX1 (upR rho0 0 0 (some 1))) 0 1 (some 2))) _ _ _ _ from ?_
  refine r_aloadk_n dX8_init_46 rfl ?_
  refine r_new (t := 3) dX8_init_47 rfl cl_X8_20 in_X3 ini_X3 rfl (land_z 9 (by decide)) (fun j => rfl) df_X3 (show 8 + 1 ≤ 37 by decide) (show 415 + 3 ≤ 1147 by decide) ?_
  refine show RW _ (9, 418, 10, (upR (rX1 (upR rho0 0 0 (some 1))) 0 1 (some 2))) _ _ _ _ from ?_
  refine r_dup dX8_init_50 rfl ?_
  refine r_aloadk_n dX8_init_51 rfl ?_
  refine r_getr (r := 2) dX8_init_52 fl_X8_16 rfl rfl (Nat.le_of_ble_eq_true rfl) rfl ?_
  refine r_callI dX8_init_55 (i_X3 (fun k hk => land_z k (by omega))) rfl ml_X8_22 okX3_init rfl rfl (Nat.le_of_ble_eq_true rfl) (roomOK.of (by decide)) ⟨(show 9 + 2 ≤ 37 by decide), (show 418 + 160 ≤ 1147 by decide)⟩ (fun σ1 v1 hq1 => ?_)
  obtain ⟨rfl, rfl⟩ := hq1
  refine show RW _ (11, 578, 12, (rX3 (upR (rX1 (upR rho0 0 0 (some 1))) 0 1 (some 2)))) _ _ _ _ from ?_
  refine r_putrF (r := 9) (ty := .object "AwardDesk$RoadMaker") dX8_init_58 fl_X8_25 rfl (rfl) (fun C T N h => (congrArg (fun q => q.1) (Option.some.inj h)).symm) rfl (Nat.le_of_ble_eq_true rfl) (by decide +kernel) (fun _ => rfl) (fun _ => rfl) ?_
  refine show RW _ (11, 578, 12, (upR (rX3 (upR (rX1 (upR rho0 0 0 (some 1))) 0 1 (some 2))) 0 2 (some 9))) _ _ _ _ from ?_
  refine r_aloadk_n dX8_init_61 rfl ?_
  refine r_new (t := 6) dX8_init_62 rfl cl_X8_29 in_X7 ini_X7 rfl (land_z 12 (by decide)) (fun j => rfl) df_X7 (show 11 + 1 ≤ 37 by decide) (show 578 + 3 ≤ 1147 by decide) ?_
  refine show RW _ (12, 581, 13, (upR (rX3 (upR (rX1 (upR rho0 0 0 (some 1))) 0 1 (some 2))) 0 2 (some 9))) _ _ _ _ from ?_
  refine r_dup dX8_init_65 rfl ?_
  refine r_callIN dX8_init_66 (i_X7 (by decide) (fun k hk => land_z k (by omega))) rfl rfl rfl okX7_init rfl rfl (Nat.le_of_ble_eq_true rfl) (roomOK.of (by decide)) ⟨(show 12 + 6 ≤ 37 by decide), (show 581 + 249 ≤ 1147 by decide)⟩ (fun σ1 v1 hq1 => ?_)
  obtain ⟨rfl, rfl⟩ := hq1
  refine show RW _ _ (sB c7 c8) _ _ _ from ?_
  refine show RW _ (18, 830, 19, (rX7 (upR (rX3 (upR (rX1 (upR rho0 0 0 (some 1))) 0 1 (some 2))) 0 2 (some 9)))) _ _ _ _ from ?_
  refine r_putrF (r := 12) (ty := .object "AwardDesk$SurveyBook") dX8_init_69 fl_X8_32 rfl (rfl) (fun C T N h => (congrArg (fun q => q.1) (Option.some.inj h)).symm) rfl (Nat.le_of_ble_eq_true rfl) (by decide +kernel) (fun _ => rfl) (fun _ => rfl) ?_
  refine show RW _ (18, 830, 19, (upR (rX7 (upR (rX3 (upR (rX1 (upR rho0 0 0 (some 1))) 0 1 (some 2))) 0 2 (some 9))) 0 3 (some 12))) _ _ _ _ from ?_
  refine r_aloadk_n dX8_init_72 rfl ?_
  refine r_new (t := 4) dX8_init_73 rfl cl_X8_36 in_X4 ini_X4 rfl (sB_z 19 (by decide)) (fun j => rfl) df_X4 (show 18 + 1 ≤ 37 by decide) (show 830 + 13 ≤ 1147 by decide) ?_
  refine show RW _ (19, 843, 20, (upR (rX7 (upR (rX3 (upR (rX1 (upR rho0 0 0 (some 1))) 0 1 (some 2))) 0 2 (some 9))) 0 3 (some 12))) _ _ _ _ from ?_
  refine r_dup dX8_init_76 rfl ?_
  refine r_aloadk_n dX8_init_77 rfl ?_
  refine r_getr (r := 2) dX8_init_78 fl_X8_16 rfl rfl (Nat.le_of_ble_eq_true rfl) rfl ?_
  refine r_callI dX8_init_81 (i_X4 (fun k hk => sB_z k (by omega))) rfl ml_X8_38 okX4_init rfl rfl (Nat.le_of_ble_eq_true rfl) (roomOK.of (by decide)) ⟨(show 19 + 9 ≤ 37 by decide), (show 843 + 236 ≤ 1147 by decide)⟩ (fun σ1 v1 hq1 => ?_)
  obtain ⟨rfl, rfl⟩ := hq1
  refine show RW _ (28, 1079, 29, (rX4 (upR (rX7 (upR (rX3 (upR (rX1 (upR rho0 0 0 (some 1))) 0 1 (some 2))) 0 2 (some 9))) 0 3 (some 12)))) _ _ _ _ from ?_
  refine r_putrF (r := 19) (ty := .object "AwardDesk$Roll") dX8_init_84 fl_X8_39 rfl (rfl) (fun C T N h => (congrArg (fun q => q.1) (Option.some.inj h)).symm) rfl (Nat.le_of_ble_eq_true rfl) (by decide +kernel) (fun _ => rfl) (fun _ => rfl) ?_
  refine show RW _ (28, 1079, 29, (upR (rX4 (upR (rX7 (upR (rX3 (upR (rX1 (upR rho0 0 0 (some 1))) 0 1 (some 2))) 0 2 (some 9))) 0 3 (some 12))) 0 4 (some 19))) _ _ _ _ from ?_
  refine r_aloadk_n dX8_init_87 rfl ?_
  refine r_new (t := 5) dX8_init_88 rfl cl_X8_43 in_X6 ini_X6 rfl (sB_z 29 (by decide)) (fun j => rfl) df_X6 (show 28 + 1 ≤ 37 by decide) (show 1079 + 8 ≤ 1147 by decide) ?_
  refine show RW _ (29, 1087, 30, (upR (rX4 (upR (rX7 (upR (rX3 (upR (rX1 (upR rho0 0 0 (some 1))) 0 1 (some 2))) 0 2 (some 9))) 0 3 (some 12))) 0 4 (some 19))) _ _ _ _ from ?_
  refine r_dup dX8_init_91 rfl ?_
  refine r_aloadk_n dX8_init_92 rfl ?_
  refine r_getr (r := 2) dX8_init_93 fl_X8_16 rfl rfl (Nat.le_of_ble_eq_true rfl) rfl ?_
  refine r_aloadk_n dX8_init_96 rfl ?_
  refine r_getr (r := 19) dX8_init_97 fl_X8_39 rfl rfl (Nat.le_of_ble_eq_true rfl) rfl ?_
  refine r_aloadk_n dX8_init_100 rfl ?_
  refine r_getr (r := 1) dX8_init_101 fl_X8_7 rfl rfl (Nat.le_of_ble_eq_true rfl) rfl ?_
  refine r_callI dX8_init_104 (i_X6 (fun k hk => sB_z k (by omega))) rfl ml_X8_45 okX6_init rfl rfl (Nat.le_of_ble_eq_true rfl) (roomOK.of (by decide)) ⟨(show 29 + 5 ≤ 37 by decide), (show 1087 + 40 ≤ 1147 by decide)⟩ (fun σ1 v1 hq1 => ?_)
  obtain ⟨rfl, rfl⟩ := hq1
  refine show RW _ (34, 1127, 35, (rX6 (upR (rX4 (upR (rX7 (upR (rX3 (upR (rX1 (upR rho0 0 0 (some 1))) 0 1 (some 2))) 0 2 (some 9))) 0 3 (some 12))) 0 4 (some 19)))) _ _ _ _ from ?_
  refine r_putrF (r := 29) (ty := .object "AwardDesk$Shares") dX8_init_107 fl_X8_48 rfl (rfl) (fun C T N h => (congrArg (fun q => q.1) (Option.some.inj h)).symm) rfl (Nat.le_of_ble_eq_true rfl) (by decide +kernel) (fun _ => rfl) (fun _ => rfl) ?_
  refine show RW _ (34, 1127, 35, (upR (rX6 (upR (rX4 (upR (rX7 (upR (rX3 (upR (rX1 (upR rho0 0 0 (some 1))) 0 1 (some 2))) 0 2 (some 9))) 0 3 (some 12))) 0 4 (some 19))) 0 5 (some 29))) _ _ _ _ from ?_
  refine r_aloadk_n dX8_init_110 rfl ?_
  refine r_new (t := 2) dX8_init_111 rfl cl_X8_52 in_X2 ini_X2 rfl (sB_z 35 (by decide)) (fun j => rfl) df_X2 (show 34 + 1 ≤ 37 by decide) (show 1127 + 4 ≤ 1147 by decide) ?_
  refine show RW _ (35, 1131, 36, (upR (rX6 (upR (rX4 (upR (rX7 (upR (rX3 (upR (rX1 (upR rho0 0 0 (some 1))) 0 1 (some 2))) 0 2 (some 9))) 0 3 (some 12))) 0 4 (some 19))) 0 5 (some 29))) _ _ _ _ from ?_
  refine r_dup dX8_init_114 rfl ?_
  refine r_aloadk_n dX8_init_115 rfl ?_
  refine r_getr (r := 2) dX8_init_116 fl_X8_16 rfl rfl (Nat.le_of_ble_eq_true rfl) rfl ?_
  refine r_aloadk_n dX8_init_119 rfl ?_
  refine r_getr (r := 19) dX8_init_120 fl_X8_39 rfl rfl (Nat.le_of_ble_eq_true rfl) rfl ?_
  refine r_callI dX8_init_123 (i_X2 (fun k hk => sB_z k (by omega))) rfl ml_X8_54 okX2_init rfl rfl (Nat.le_of_ble_eq_true rfl) (roomOK.of (by decide)) ⟨(show 35 + 2 ≤ 37 by decide), (show 1131 + 16 ≤ 1147 by decide)⟩ (fun σ1 v1 hq1 => ?_)
  obtain ⟨rfl, rfl⟩ := hq1
  refine show RW _ (37, 1147, 38, (rX2 (upR (rX6 (upR (rX4 (upR (rX7 (upR (rX3 (upR (rX1 (upR rho0 0 0 (some 1))) 0 1 (some 2))) 0 2 (some 9))) 0 3 (some 12))) 0 4 (some 19))) 0 5 (some 29)))) _ _ _ _ from ?_
  refine r_putrF (r := 35) (ty := .object "AwardDesk$PlotBook") dX8_init_126 fl_X8_57 rfl (rfl) (fun C T N h => (congrArg (fun q => q.1) (Option.some.inj h)).symm) rfl (Nat.le_of_ble_eq_true rfl) (by decide +kernel) (fun _ => rfl) (fun _ => rfl) ?_
  refine show RW _ (37, 1147, 38, (upR (rX2 (upR (rX6 (upR (rX4 (upR (rX7 (upR (rX3 (upR (rX1 (upR rho0 0 0 (some 1))) 0 1 (some 2))) 0 2 (some 9))) 0 3 (some 12))) 0 4 (some 19))) 0 5 (some 29))) 0 6 (some 35))) _ _ _ _ from ?_
  refine r_aloadk_n dX8_init_129 rfl ?_
  refine r_null dX8_init_130 ?_
  refine r_putn (ty := .object "AwardDesk$Drawing") dX8_init_131 fl_X8_61 rfl rfl (Nat.le_of_ble_eq_true rfl) (by decide +kernel) rfl rfl ?_
  refine show RW _ (37, 1147, 38, (upR (upR (rX2 (upR (rX6 (upR (rX4 (upR (rX7 (upR (rX3 (upR (rX1 (upR rho0 0 0 (some 1))) 0 1 (some 2))) 0 2 (some 9))) 0 3 (some 12))) 0 4 (some 19))) 0 5 (some 29))) 0 6 (some 35)) 0 7 none)) _ _ _ _ from ?_
  exact r_vret dX8_init_134 rfl ⟨rfl, c7, c8, hr7, hr8, hc78, rfl⟩
def rX9 (ρ : Rho) : Rho := (upR (upR (upR (upR (upR (upR (upR (upR (upR (upR (upR (upR (upR (upR (upR (upR (upR (upR (upR (upR (upR (upR (upR (upR (upR (upR (upR (upR (upR (upR (upR (upR (upR (upR ρ 38 3 (some 39)) 38 4 (some 40)) 38 5 (some 41)) 38 7 (some 42)) 38 8 (some 43)) 38 9 (some 44)) 38 11 (some 45)) 38 12 (some 46)) 38 14 (some 47)) 38 15 (some 48)) 38 16 (some 49)) 38 17 (some 50)) 38 19 (some 51)) 38 20 (some 52)) 38 21 (some 53)) 38 27 (some 54)) 38 28 (some 55)) 38 29 (some 56)) 38 30 (some 57)) 38 31 (some 58)) 38 32 (some 59)) 38 34 (some 60)) 38 35 (some 61)) 38 36 (some 62)) 38 37 (some 63)) 38 43 (some 64)) 38 45 (some 65)) 38 46 (some 66)) 38 47 (some 67)) 38 48 (some 68)) 38 49 (some 69)) 38 50 (some 70)) 38 51 (some 71)) 38 52 (some 72))
def rho2 : Rho := rX9 rho1
def sD (σ : Si) : Si := up (up (up (up (up (up (up (up σ 38 1 6) 38 2 5) 38 22 500) 38 23 900) 38 26 2) 42 0 (-1)) 42 1 (-1)) 42 2 (-1)
theorem sr38 : ∀ j, j < 60 → sref 38 j = none ∨ rho2 38 j = sref 38 j := by decide +kernel
set_option maxHeartbeats 16000000 in
theorem i_X9 (hz : ∀ k, 39 ≤ k → ∀ j, σ k j = 0) : Ct l G 1 mX9_init 34 12970 39 rho1 σ [rf G 38] 73 rho2 (fun σ' v => v = none ∧ σ' = clrS (sD σ)) := by
  have kc := m_clearLand (l := l) (G := G) (n := 73) (ρ := rho2) (σ := sD σ) (fun j r h _ => by
    rcases sr38 j (sref_hi h).2 with q | q
    · rw [h] at q; cases q
    · rw [q]; exact h) (by decide)
  refine Ct.of (L0 := [rf G 38, xx]) (by decide +kernel) (Nat.le_of_ble_eq_true rfl) rfl ?_
  refine r_aloadk_n dX9_init_0 rfl ?_
  refine r_objInit dX9_init_1 ml_X9_1 oi_in oi_co (Nat.le_of_ble_eq_true rfl) (Nat.le_of_ble_eq_true rfl) ?_
  refine r_aloadk_n dX9_init_4 rfl ?_
  refine r_bipush dX9_init_5 ?_
  refine r_puti dX9_init_7 fl_X9_7 rfl (Nat.le_of_ble_eq_true rfl) ?_
  refine r_aloadk_n dX9_init_10 rfl ?_
  refine r_iconst dX9_init_11 ?_
  refine r_puti dX9_init_12 fl_X9_13 rfl (Nat.le_of_ble_eq_true rfl) ?_
  refine r_aloadk_n dX9_init_15 rfl ?_
  refine r_bipush dX9_init_16 ?_
  refine r_newi (N := 80) dX9_init_18 ac_int rfl (fun j => hz 39 (Nat.le_of_ble_eq_true rfl) j) (show 0 + 1 ≤ 34 by decide) (show 0 + 80 ≤ 12970 by decide) ?_
  refine show RW _ (1, 80, 40, rho1) _ _ _ _ from ?_
  refine r_putrF (r := 39) (ty := .array .int) dX9_init_20 fl_X9_16 rfl (rfl) (fun C T N h => (congrArg (fun q => q.1) (Option.some.inj h)).symm) rfl (Nat.le_of_ble_eq_true rfl) (by decide +kernel) (fun _ => rfl) (fun _ => rfl) ?_
  refine show RW _ (1, 80, 40, (upR rho1 38 3 (some 39))) _ _ _ _ from ?_
  refine r_aloadk_n dX9_init_23 rfl ?_
  refine r_bipush dX9_init_24 ?_
  refine r_newi (N := 80) dX9_init_26 ac_int rfl (fun j => hz 40 (Nat.le_of_ble_eq_true rfl) j) (show 1 + 1 ≤ 34 by decide) (show 80 + 80 ≤ 12970 by decide) ?_
  refine show RW _ (2, 160, 41, (upR rho1 38 3 (some 39))) _ _ _ _ from ?_
  refine r_putrF (r := 40) (ty := .array .int) dX9_init_28 fl_X9_20 rfl (rfl) (fun C T N h => (congrArg (fun q => q.1) (Option.some.inj h)).symm) rfl (Nat.le_of_ble_eq_true rfl) (by decide +kernel) (fun _ => rfl) (fun _ => rfl) ?_
  refine show RW _ (2, 160, 41, (upR (upR rho1 38 3 (some 39)) 38 4 (some 40))) _ _ _ _ from ?_
  refine r_aloadk_n dX9_init_31 rfl ?_
  refine r_bipush dX9_init_32 ?_
  refine r_newz (N := 80) dX9_init_34 ac_boolean rfl (fun j => hz 41 (Nat.le_of_ble_eq_true rfl) j) (show 2 + 1 ≤ 34 by decide) (show 160 + 80 ≤ 12970 by decide) ?_
  refine show RW _ (3, 240, 42, (upR (upR rho1 38 3 (some 39)) 38 4 (some 40))) _ _ _ _ from ?_
  refine r_putrF (r := 41) (ty := .array .boolean) dX9_init_36 fl_X9_23 rfl (rfl) (fun C T N h => (congrArg (fun q => q.1) (Option.some.inj h)).symm) rfl (Nat.le_of_ble_eq_true rfl) (by decide +kernel) (fun _ => rfl) (fun _ => rfl) ?_
  refine show RW _ (3, 240, 42, (upR (upR (upR rho1 38 3 (some 39)) 38 4 (some 40)) 38 5 (some 41))) _ _ _ _ from ?_
  refine r_aloadk_n dX9_init_39 rfl ?_
  refine r_iconst dX9_init_40 ?_
  refine r_newi (N := 3) dX9_init_41 ac_int rfl (fun j => hz 42 (Nat.le_of_ble_eq_true rfl) j) (show 3 + 1 ≤ 34 by decide) (show 240 + 3 ≤ 12970 by decide) ?_
  refine show RW _ (4, 243, 43, (upR (upR (upR rho1 38 3 (some 39)) 38 4 (some 40)) 38 5 (some 41))) _ _ _ _ from ?_
  refine r_putrF (r := 42) (ty := .array .int) dX9_init_43 fl_X9_27 rfl (rfl) (fun C T N h => (congrArg (fun q => q.1) (Option.some.inj h)).symm) rfl (Nat.le_of_ble_eq_true rfl) (by decide +kernel) (fun _ => rfl) (fun _ => rfl) ?_
  refine show RW _ (4, 243, 43, (upR (upR (upR (upR rho1 38 3 (some 39)) 38 4 (some 40)) 38 5 (some 41)) 38 7 (some 42))) _ _ _ _ from ?_
  refine r_aloadk_n dX9_init_46 rfl ?_
  refine r_iconst dX9_init_47 ?_
  refine r_newi (N := 3) dX9_init_48 ac_int rfl (fun j => hz 43 (Nat.le_of_ble_eq_true rfl) j) (show 4 + 1 ≤ 34 by decide) (show 243 + 3 ≤ 12970 by decide) ?_
  refine show RW _ (5, 246, 44, (upR (upR (upR (upR rho1 38 3 (some 39)) 38 4 (some 40)) 38 5 (some 41)) 38 7 (some 42))) _ _ _ _ from ?_
  refine r_putrF (r := 43) (ty := .array .int) dX9_init_50 fl_X9_30 rfl (rfl) (fun C T N h => (congrArg (fun q => q.1) (Option.some.inj h)).symm) rfl (Nat.le_of_ble_eq_true rfl) (by decide +kernel) (fun _ => rfl) (fun _ => rfl) ?_
  refine show RW _ (5, 246, 44, (upR (upR (upR (upR (upR rho1 38 3 (some 39)) 38 4 (some 40)) 38 5 (some 41)) 38 7 (some 42)) 38 8 (some 43))) _ _ _ _ from ?_
  refine r_aloadk_n dX9_init_53 rfl ?_
  refine r_sipush dX9_init_54 ?_
  refine r_newi (N := 240) dX9_init_57 ac_int rfl (fun j => hz 44 (Nat.le_of_ble_eq_true rfl) j) (show 5 + 1 ≤ 34 by decide) (show 246 + 240 ≤ 12970 by decide) ?_
  refine show RW _ (6, 486, 45, (upR (upR (upR (upR (upR rho1 38 3 (some 39)) 38 4 (some 40)) 38 5 (some 41)) 38 7 (some 42)) 38 8 (some 43))) _ _ _ _ from ?_
  refine r_putrF (r := 44) (ty := .array .int) dX9_init_59 fl_X9_33 rfl (rfl) (fun C T N h => (congrArg (fun q => q.1) (Option.some.inj h)).symm) rfl (Nat.le_of_ble_eq_true rfl) (by decide +kernel) (fun _ => rfl) (fun _ => rfl) ?_
  refine show RW _ (6, 486, 45, (upR (upR (upR (upR (upR (upR rho1 38 3 (some 39)) 38 4 (some 40)) 38 5 (some 41)) 38 7 (some 42)) 38 8 (some 43)) 38 9 (some 44))) _ _ _ _ from ?_
  refine r_aloadk_n dX9_init_62 rfl ?_
  refine r_bipush dX9_init_63 ?_
  refine r_newi (N := 8) dX9_init_65 ac_int rfl (fun j => hz 45 (Nat.le_of_ble_eq_true rfl) j) (show 6 + 1 ≤ 34 by decide) (show 486 + 8 ≤ 12970 by decide) ?_
  refine show RW _ (7, 494, 46, (upR (upR (upR (upR (upR (upR rho1 38 3 (some 39)) 38 4 (some 40)) 38 5 (some 41)) 38 7 (some 42)) 38 8 (some 43)) 38 9 (some 44))) _ _ _ _ from ?_
  refine r_putrF (r := 45) (ty := .array .int) dX9_init_67 fl_X9_36 rfl (rfl) (fun C T N h => (congrArg (fun q => q.1) (Option.some.inj h)).symm) rfl (Nat.le_of_ble_eq_true rfl) (by decide +kernel) (fun _ => rfl) (fun _ => rfl) ?_
  refine show RW _ (7, 494, 46, (upR (upR (upR (upR (upR (upR (upR rho1 38 3 (some 39)) 38 4 (some 40)) 38 5 (some 41)) 38 7 (some 42)) 38 8 (some 43)) 38 9 (some 44)) 38 11 (some 45))) _ _ _ _ from ?_
  refine r_aloadk_n dX9_init_70 rfl ?_
  refine r_bipush dX9_init_71 ?_
  refine r_newi (N := 8) dX9_init_73 ac_int rfl (fun j => hz 46 (Nat.le_of_ble_eq_true rfl) j) (show 7 + 1 ≤ 34 by decide) (show 494 + 8 ≤ 12970 by decide) ?_
  refine show RW _ (8, 502, 47, (upR (upR (upR (upR (upR (upR (upR rho1 38 3 (some 39)) 38 4 (some 40)) 38 5 (some 41)) 38 7 (some 42)) 38 8 (some 43)) 38 9 (some 44)) 38 11 (some 45))) _ _ _ _ from ?_
  refine r_putrF (r := 46) (ty := .array .int) dX9_init_75 fl_X9_39 rfl (rfl) (fun C T N h => (congrArg (fun q => q.1) (Option.some.inj h)).symm) rfl (Nat.le_of_ble_eq_true rfl) (by decide +kernel) (fun _ => rfl) (fun _ => rfl) ?_
  refine show RW _ (8, 502, 47, (upR (upR (upR (upR (upR (upR (upR (upR rho1 38 3 (some 39)) 38 4 (some 40)) 38 5 (some 41)) 38 7 (some 42)) 38 8 (some 43)) 38 9 (some 44)) 38 11 (some 45)) 38 12 (some 46))) _ _ _ _ from ?_
  refine r_aloadk_n dX9_init_78 rfl ?_
  refine r_bipush dX9_init_79 ?_
  refine r_newi (N := 40) dX9_init_81 ac_int rfl (fun j => hz 47 (Nat.le_of_ble_eq_true rfl) j) (show 8 + 1 ≤ 34 by decide) (show 502 + 40 ≤ 12970 by decide) ?_
  refine show RW _ (9, 542, 48, (upR (upR (upR (upR (upR (upR (upR (upR rho1 38 3 (some 39)) 38 4 (some 40)) 38 5 (some 41)) 38 7 (some 42)) 38 8 (some 43)) 38 9 (some 44)) 38 11 (some 45)) 38 12 (some 46))) _ _ _ _ from ?_
  refine r_putrF (r := 47) (ty := .array .int) dX9_init_83 fl_X9_42 rfl (rfl) (fun C T N h => (congrArg (fun q => q.1) (Option.some.inj h)).symm) rfl (Nat.le_of_ble_eq_true rfl) (by decide +kernel) (fun _ => rfl) (fun _ => rfl) ?_
  refine show RW _ (9, 542, 48, (upR (upR (upR (upR (upR (upR (upR (upR (upR rho1 38 3 (some 39)) 38 4 (some 40)) 38 5 (some 41)) 38 7 (some 42)) 38 8 (some 43)) 38 9 (some 44)) 38 11 (some 45)) 38 12 (some 46)) 38 14 (some 47))) _ _ _ _ from ?_
  refine r_aloadk_n dX9_init_86 rfl ?_
  refine r_bipush dX9_init_87 ?_
  refine r_newi (N := 40) dX9_init_89 ac_int rfl (fun j => hz 48 (Nat.le_of_ble_eq_true rfl) j) (show 9 + 1 ≤ 34 by decide) (show 542 + 40 ≤ 12970 by decide) ?_
  refine show RW _ (10, 582, 49, (upR (upR (upR (upR (upR (upR (upR (upR (upR rho1 38 3 (some 39)) 38 4 (some 40)) 38 5 (some 41)) 38 7 (some 42)) 38 8 (some 43)) 38 9 (some 44)) 38 11 (some 45)) 38 12 (some 46)) 38 14 (some 47))) _ _ _ _ from ?_
  refine r_putrF (r := 48) (ty := .array .int) dX9_init_91 fl_X9_45 rfl (rfl) (fun C T N h => (congrArg (fun q => q.1) (Option.some.inj h)).symm) rfl (Nat.le_of_ble_eq_true rfl) (by decide +kernel) (fun _ => rfl) (fun _ => rfl) ?_
  refine show RW _ (10, 582, 49, (upR (upR (upR (upR (upR (upR (upR (upR (upR (upR rho1 38 3 (some 39)) 38 4 (some 40)) 38 5 (some 41)) 38 7 (some 42)) 38 8 (some 43)) 38 9 (some 44)) 38 11 (some 45)) 38 12 (some 46)) 38 14 (some 47)) 38 15 (some 48))) _ _ _ _ from ?_
  refine r_aloadk_n dX9_init_94 rfl ?_
  refine r_bipush dX9_init_95 ?_
  refine r_newi (N := 40) dX9_init_97 ac_int rfl (fun j => hz 49 (Nat.le_of_ble_eq_true rfl) j) (show 10 + 1 ≤ 34 by decide) (show 582 + 40 ≤ 12970 by decide) ?_
  refine show RW _ (11, 622, 50, (upR (upR (upR (upR (upR (upR (upR (upR (upR (upR rho1 38 3 (some 39)) 38 4 (some 40)) 38 5 (some 41)) 38 7 (some 42)) 38 8 (some 43)) 38 9 (some 44)) 38 11 (some 45)) 38 12 (some 46)) 38 14 (some 47)) 38 15 (some 48))) _ _ _ _ from ?_
  refine r_putrF (r := 49) (ty := .array .int) dX9_init_99 fl_X9_48 rfl (rfl) (fun C T N h => (congrArg (fun q => q.1) (Option.some.inj h)).symm) rfl (Nat.le_of_ble_eq_true rfl) (by decide +kernel) (fun _ => rfl) (fun _ => rfl) ?_
  refine show RW _ (11, 622, 50, (upR (upR (upR (upR (upR (upR (upR (upR (upR (upR (upR rho1 38 3 (some 39)) 38 4 (some 40)) 38 5 (some 41)) 38 7 (some 42)) 38 8 (some 43)) 38 9 (some 44)) 38 11 (some 45)) 38 12 (some 46)) 38 14 (some 47)) 38 15 (some 48)) 38 16 (some 49))) _ _ _ _ from ?_
  refine r_aloadk_n dX9_init_102 rfl ?_
  refine r_bipush dX9_init_103 ?_
  refine r_newi (N := 40) dX9_init_105 ac_int rfl (fun j => hz 50 (Nat.le_of_ble_eq_true rfl) j) (show 11 + 1 ≤ 34 by decide) (show 622 + 40 ≤ 12970 by decide) ?_
  refine show RW _ (12, 662, 51, (upR (upR (upR (upR (upR (upR (upR (upR (upR (upR (upR rho1 38 3 (some 39)) 38 4 (some 40)) 38 5 (some 41)) 38 7 (some 42)) 38 8 (some 43)) 38 9 (some 44)) 38 11 (some 45)) 38 12 (some 46)) 38 14 (some 47)) 38 15 (some 48)) 38 16 (some 49))) _ _ _ _ from ?_
  refine r_putrF (r := 50) (ty := .array .int) dX9_init_107 fl_X9_51 rfl (rfl) (fun C T N h => (congrArg (fun q => q.1) (Option.some.inj h)).symm) rfl (Nat.le_of_ble_eq_true rfl) (by decide +kernel) (fun _ => rfl) (fun _ => rfl) ?_
  refine show RW _ (12, 662, 51, (upR (upR (upR (upR (upR (upR (upR (upR (upR (upR (upR (upR rho1 38 3 (some 39)) 38 4 (some 40)) 38 5 (some 41)) 38 7 (some 42)) 38 8 (some 43)) 38 9 (some 44)) 38 11 (some 45)) 38 12 (some 46)) 38 14 (some 47)) 38 15 (some 48)) 38 16 (some 49)) 38 17 (some 50))) _ _ _ _ from ?_
  refine r_aloadk_n dX9_init_110 rfl ?_
  refine r_bipush dX9_init_111 ?_
  refine r_newi (N := 20) dX9_init_113 ac_int rfl (fun j => hz 51 (Nat.le_of_ble_eq_true rfl) j) (show 12 + 1 ≤ 34 by decide) (show 662 + 20 ≤ 12970 by decide) ?_
  refine show RW _ (13, 682, 52, (upR (upR (upR (upR (upR (upR (upR (upR (upR (upR (upR (upR rho1 38 3 (some 39)) 38 4 (some 40)) 38 5 (some 41)) 38 7 (some 42)) 38 8 (some 43)) 38 9 (some 44)) 38 11 (some 45)) 38 12 (some 46)) 38 14 (some 47)) 38 15 (some 48)) 38 16 (some 49)) 38 17 (some 50))) _ _ _ _ from ?_
  refine r_putrF (r := 51) (ty := .array .int) dX9_init_115 fl_X9_54 rfl (rfl) (fun C T N h => (congrArg (fun q => q.1) (Option.some.inj h)).symm) rfl (Nat.le_of_ble_eq_true rfl) (by decide +kernel) (fun _ => rfl) (fun _ => rfl) ?_
  refine show RW _ (13, 682, 52, (upR (upR (upR (upR (upR (upR (upR (upR (upR (upR (upR (upR (upR rho1 38 3 (some 39)) 38 4 (some 40)) 38 5 (some 41)) 38 7 (some 42)) 38 8 (some 43)) 38 9 (some 44)) 38 11 (some 45)) 38 12 (some 46)) 38 14 (some 47)) 38 15 (some 48)) 38 16 (some 49)) 38 17 (some 50)) 38 19 (some 51))) _ _ _ _ from ?_
  refine r_aloadk_n dX9_init_118 rfl ?_
  refine r_bipush dX9_init_119 ?_
  refine r_newi (N := 20) dX9_init_121 ac_int rfl (fun j => hz 52 (Nat.le_of_ble_eq_true rfl) j) (show 13 + 1 ≤ 34 by decide) (show 682 + 20 ≤ 12970 by decide) ?_
  refine show RW _ (14, 702, 53, (upR (upR (upR (upR (upR (upR (upR (upR (upR (upR (upR (upR (upR rho1 38 3 (some 39)) 38 4 (some 40)) 38 5 (some 41)) 38 7 (some 42)) 38 8 (some 43)) 38 9 (some 44)) 38 11 (some 45)) 38 12 (some 46)) 38 14 (some 47)) 38 15 (some 48)) 38 16 (some 49)) 38 17 (some 50)) 38 19 (some 51))) _ _ _ _ from ?_
  refine r_putrF (r := 52) (ty := .array .int) dX9_init_123 fl_X9_57 rfl (rfl) (fun C T N h => (congrArg (fun q => q.1) (Option.some.inj h)).symm) rfl (Nat.le_of_ble_eq_true rfl) (by decide +kernel) (fun _ => rfl) (fun _ => rfl) ?_
  refine show RW _ (14, 702, 53, (upR (upR (upR (upR (upR (upR (upR (upR (upR (upR (upR (upR (upR (upR rho1 38 3 (some 39)) 38 4 (some 40)) 38 5 (some 41)) 38 7 (some 42)) 38 8 (some 43)) 38 9 (some 44)) 38 11 (some 45)) 38 12 (some 46)) 38 14 (some 47)) 38 15 (some 48)) 38 16 (some 49)) 38 17 (some 50)) 38 19 (some 51)) 38 20 (some 52))) _ _ _ _ from ?_
  refine r_aloadk_n dX9_init_126 rfl ?_
  refine r_bipush dX9_init_127 ?_
  refine r_newi (N := 20) dX9_init_129 ac_int rfl (fun j => hz 53 (Nat.le_of_ble_eq_true rfl) j) (show 14 + 1 ≤ 34 by decide) (show 702 + 20 ≤ 12970 by decide) ?_
  refine show RW _ (15, 722, 54, (upR (upR (upR (upR (upR (upR (upR (upR (upR (upR (upR (upR (upR (upR rho1 38 3 (some 39)) 38 4 (some 40)) 38 5 (some 41)) 38 7 (some 42)) 38 8 (some 43)) 38 9 (some 44)) 38 11 (some 45)) 38 12 (some 46)) 38 14 (some 47)) 38 15 (some 48)) 38 16 (some 49)) 38 17 (some 50)) 38 19 (some 51)) 38 20 (some 52))) _ _ _ _ from ?_
  refine r_putrF (r := 53) (ty := .array .int) dX9_init_131 fl_X9_60 rfl (rfl) (fun C T N h => (congrArg (fun q => q.1) (Option.some.inj h)).symm) rfl (Nat.le_of_ble_eq_true rfl) (by decide +kernel) (fun _ => rfl) (fun _ => rfl) ?_
  refine show RW _ (15, 722, 54, (upR (upR (upR (upR (upR (upR (upR (upR (upR (upR (upR (upR (upR (upR (upR rho1 38 3 (some 39)) 38 4 (some 40)) 38 5 (some 41)) 38 7 (some 42)) 38 8 (some 43)) 38 9 (some 44)) 38 11 (some 45)) 38 12 (some 46)) 38 14 (some 47)) 38 15 (some 48)) 38 16 (some 49)) 38 17 (some 50)) 38 19 (some 51)) 38 20 (some 52)) 38 21 (some 53))) _ _ _ _ from ?_
  refine r_aloadk_n dX9_init_134 rfl ?_
  refine r_sipush dX9_init_135 ?_
  refine r_puti dX9_init_138 fl_X9_63 rfl (Nat.le_of_ble_eq_true rfl) ?_
  refine r_aloadk_n dX9_init_141 rfl ?_
  refine r_sipush dX9_init_142 ?_
  refine r_puti dX9_init_145 fl_X9_66 rfl (Nat.le_of_ble_eq_true rfl) ?_
  refine r_aloadk_n dX9_init_148 rfl ?_
  refine r_iconst dX9_init_149 ?_
  refine r_puti dX9_init_150 fl_X9_69 rfl (Nat.le_of_ble_eq_true rfl) ?_
  refine r_aloadk_n dX9_init_153 rfl ?_
  refine r_bipush dX9_init_154 ?_
  refine r_newi (N := 8) dX9_init_156 ac_int rfl (fun j => hz 54 (Nat.le_of_ble_eq_true rfl) j) (show 15 + 1 ≤ 34 by decide) (show 722 + 8 ≤ 12970 by decide) ?_
  refine show RW _ (16, 730, 55, (upR (upR (upR (upR (upR (upR (upR (upR (upR (upR (upR (upR (upR (upR (upR rho1 38 3 (some 39)) 38 4 (some 40)) 38 5 (some 41)) 38 7 (some 42)) 38 8 (some 43)) 38 9 (some 44)) 38 11 (some 45)) 38 12 (some 46)) 38 14 (some 47)) 38 15 (some 48)) 38 16 (some 49)) 38 17 (some 50)) 38 19 (some 51)) 38 20 (some 52)) 38 21 (some 53))) _ _ _ _ from ?_
  refine r_putrF (r := 54) (ty := .array .int) dX9_init_158 fl_X9_72 rfl (rfl) (fun C T N h => (congrArg (fun q => q.1) (Option.some.inj h)).symm) rfl (Nat.le_of_ble_eq_true rfl) (by decide +kernel) (fun _ => rfl) (fun _ => rfl) ?_
  refine show RW _ (16, 730, 55, (upR (upR (upR (upR (upR (upR (upR (upR (upR (upR (upR (upR (upR (upR (upR (upR rho1 38 3 (some 39)) 38 4 (some 40)) 38 5 (some 41)) 38 7 (some 42)) 38 8 (some 43)) 38 9 (some 44)) 38 11 (some 45)) 38 12 (some 46)) 38 14 (some 47)) 38 15 (some 48)) 38 16 (some 49)) 38 17 (some 50)) 38 19 (some 51)) 38 20 (some 52)) 38 21 (some 53)) 38 27 (some 54))) _ _ _ _ from ?_
  refine r_aloadk_n dX9_init_161 rfl ?_
  refine r_bipush dX9_init_162 ?_
  refine r_newi (N := 8) dX9_init_164 ac_int rfl (fun j => hz 55 (Nat.le_of_ble_eq_true rfl) j) (show 16 + 1 ≤ 34 by decide) (show 730 + 8 ≤ 12970 by decide) ?_
  refine show RW _ (17, 738, 56, (upR (upR (upR (upR (upR (upR (upR (upR (upR (upR (upR (upR (upR (upR (upR (upR rho1 38 3 (some 39)) 38 4 (some 40)) 38 5 (some 41)) 38 7 (some 42)) 38 8 (some 43)) 38 9 (some 44)) 38 11 (some 45)) 38 12 (some 46)) 38 14 (some 47)) 38 15 (some 48)) 38 16 (some 49)) 38 17 (some 50)) 38 19 (some 51)) 38 20 (some 52)) 38 21 (some 53)) 38 27 (some 54))) _ _ _ _ from ?_
  refine r_putrF (r := 55) (ty := .array .int) dX9_init_166 fl_X9_75 rfl (rfl) (fun C T N h => (congrArg (fun q => q.1) (Option.some.inj h)).symm) rfl (Nat.le_of_ble_eq_true rfl) (by decide +kernel) (fun _ => rfl) (fun _ => rfl) ?_
  refine show RW _ (17, 738, 56, (upR (upR (upR (upR (upR (upR (upR (upR (upR (upR (upR (upR (upR (upR (upR (upR (upR rho1 38 3 (some 39)) 38 4 (some 40)) 38 5 (some 41)) 38 7 (some 42)) 38 8 (some 43)) 38 9 (some 44)) 38 11 (some 45)) 38 12 (some 46)) 38 14 (some 47)) 38 15 (some 48)) 38 16 (some 49)) 38 17 (some 50)) 38 19 (some 51)) 38 20 (some 52)) 38 21 (some 53)) 38 27 (some 54)) 38 28 (some 55))) _ _ _ _ from ?_
  refine r_aloadk_n dX9_init_169 rfl ?_
  refine r_bipush dX9_init_170 ?_
  refine r_newi (N := 8) dX9_init_172 ac_int rfl (fun j => hz 56 (Nat.le_of_ble_eq_true rfl) j) (show 17 + 1 ≤ 34 by decide) (show 738 + 8 ≤ 12970 by decide) ?_
  refine show RW _ (18, 746, 57, (upR (upR (upR (upR (upR (upR (upR (upR (upR (upR (upR (upR (upR (upR (upR (upR (upR rho1 38 3 (some 39)) 38 4 (some 40)) 38 5 (some 41)) 38 7 (some 42)) 38 8 (some 43)) 38 9 (some 44)) 38 11 (some 45)) 38 12 (some 46)) 38 14 (some 47)) 38 15 (some 48)) 38 16 (some 49)) 38 17 (some 50)) 38 19 (some 51)) 38 20 (some 52)) 38 21 (some 53)) 38 27 (some 54)) 38 28 (some 55))) _ _ _ _ from ?_
  refine r_putrF (r := 56) (ty := .array .int) dX9_init_174 fl_X9_78 rfl (rfl) (fun C T N h => (congrArg (fun q => q.1) (Option.some.inj h)).symm) rfl (Nat.le_of_ble_eq_true rfl) (by decide +kernel) (fun _ => rfl) (fun _ => rfl) ?_
  refine show RW _ (18, 746, 57, (upR (upR (upR (upR (upR (upR (upR (upR (upR (upR (upR (upR (upR (upR (upR (upR (upR (upR rho1 38 3 (some 39)) 38 4 (some 40)) 38 5 (some 41)) 38 7 (some 42)) 38 8 (some 43)) 38 9 (some 44)) 38 11 (some 45)) 38 12 (some 46)) 38 14 (some 47)) 38 15 (some 48)) 38 16 (some 49)) 38 17 (some 50)) 38 19 (some 51)) 38 20 (some 52)) 38 21 (some 53)) 38 27 (some 54)) 38 28 (some 55)) 38 29 (some 56))) _ _ _ _ from ?_
  refine r_aloadk_n dX9_init_177 rfl ?_
  refine r_bipush dX9_init_178 ?_
  refine r_newi (N := 8) dX9_init_180 ac_int rfl (fun j => hz 57 (Nat.le_of_ble_eq_true rfl) j) (show 18 + 1 ≤ 34 by decide) (show 746 + 8 ≤ 12970 by decide) ?_
  refine show RW _ (19, 754, 58, (upR (upR (upR (upR (upR (upR (upR (upR (upR (upR (upR (upR (upR (upR (upR (upR (upR (upR rho1 38 3 (some 39)) 38 4 (some 40)) 38 5 (some 41)) 38 7 (some 42)) 38 8 (some 43)) 38 9 (some 44)) 38 11 (some 45)) 38 12 (some 46)) 38 14 (some 47)) 38 15 (some 48)) 38 16 (some 49)) 38 17 (some 50)) 38 19 (some 51)) 38 20 (some 52)) 38 21 (some 53)) 38 27 (some 54)) 38 28 (some 55)) 38 29 (some 56))) _ _ _ _ from ?_
  refine r_putrF (r := 57) (ty := .array .int) dX9_init_182 fl_X9_81 rfl (rfl) (fun C T N h => (congrArg (fun q => q.1) (Option.some.inj h)).symm) rfl (Nat.le_of_ble_eq_true rfl) (by decide +kernel) (fun _ => rfl) (fun _ => rfl) ?_
  refine show RW _ (19, 754, 58, (upR (upR (upR (upR (upR (upR (upR (upR (upR (upR (upR (upR (upR (upR (upR (upR (upR (upR (upR rho1 38 3 (some 39)) 38 4 (some 40)) 38 5 (some 41)) 38 7 (some 42)) 38 8 (some 43)) 38 9 (some 44)) 38 11 (some 45)) 38 12 (some 46)) 38 14 (some 47)) 38 15 (some 48)) 38 16 (some 49)) 38 17 (some 50)) 38 19 (some 51)) 38 20 (some 52)) 38 21 (some 53)) 38 27 (some 54)) 38 28 (some 55)) 38 29 (some 56)) 38 30 (some 57))) _ _ _ _ from ?_
  refine r_aloadk_n dX9_init_185 rfl ?_
  refine r_bipush dX9_init_186 ?_
  refine r_newi (N := 80) dX9_init_188 ac_int rfl (fun j => hz 58 (Nat.le_of_ble_eq_true rfl) j) (show 19 + 1 ≤ 34 by decide) (show 754 + 80 ≤ 12970 by decide) ?_
  refine show RW _ (20, 834, 59, (upR (upR (upR (upR (upR (upR (upR (upR (upR (upR (upR (upR (upR (upR (upR (upR (upR (upR (upR rho1 38 3 (some 39)) 38 4 (some 40)) 38 5 (some 41)) 38 7 (some 42)) 38 8 (some 43)) 38 9 (some 44)) 38 11 (some 45)) 38 12 (some 46)) 38 14 (some 47)) 38 15 (some 48)) 38 16 (some 49)) 38 17 (some 50)) 38 19 (some 51)) 38 20 (some 52)) 38 21 (some 53)) 38 27 (some 54)) 38 28 (some 55)) 38 29 (some 56)) 38 30 (some 57))) _ _ _ _ from ?_
  refine r_putrF (r := 58) (ty := .array .int) dX9_init_190 fl_X9_84 rfl (rfl) (fun C T N h => (congrArg (fun q => q.1) (Option.some.inj h)).symm) rfl (Nat.le_of_ble_eq_true rfl) (by decide +kernel) (fun _ => rfl) (fun _ => rfl) ?_
  refine show RW _ (20, 834, 59, (upR (upR (upR (upR (upR (upR (upR (upR (upR (upR (upR (upR (upR (upR (upR (upR (upR (upR (upR (upR rho1 38 3 (some 39)) 38 4 (some 40)) 38 5 (some 41)) 38 7 (some 42)) 38 8 (some 43)) 38 9 (some 44)) 38 11 (some 45)) 38 12 (some 46)) 38 14 (some 47)) 38 15 (some 48)) 38 16 (some 49)) 38 17 (some 50)) 38 19 (some 51)) 38 20 (some 52)) 38 21 (some 53)) 38 27 (some 54)) 38 28 (some 55)) 38 29 (some 56)) 38 30 (some 57)) 38 31 (some 58))) _ _ _ _ from ?_
  refine r_aloadk_n dX9_init_193 rfl ?_
  refine r_bipush dX9_init_194 ?_
  refine r_newi (N := 80) dX9_init_196 ac_int rfl (fun j => hz 59 (Nat.le_of_ble_eq_true rfl) j) (show 20 + 1 ≤ 34 by decide) (show 834 + 80 ≤ 12970 by decide) ?_
  refine show RW _ (21, 914, 60, (upR (upR (upR (upR (upR (upR (upR (upR (upR (upR (upR (upR (upR (upR (upR (upR (upR (upR (upR (upR rho1 38 3 (some 39)) 38 4 (some 40)) 38 5 (some 41)) 38 7 (some 42)) 38 8 (some 43)) 38 9 (some 44)) 38 11 (some 45)) 38 12 (some 46)) 38 14 (some 47)) 38 15 (some 48)) 38 16 (some 49)) 38 17 (some 50)) 38 19 (some 51)) 38 20 (some 52)) 38 21 (some 53)) 38 27 (some 54)) 38 28 (some 55)) 38 29 (some 56)) 38 30 (some 57)) 38 31 (some 58))) _ _ _ _ from ?_
  refine r_putrF (r := 59) (ty := .array .int) dX9_init_198 fl_X9_87 rfl (rfl) (fun C T N h => (congrArg (fun q => q.1) (Option.some.inj h)).symm) rfl (Nat.le_of_ble_eq_true rfl) (by decide +kernel) (fun _ => rfl) (fun _ => rfl) ?_
  refine show RW _ (21, 914, 60, (upR (upR (upR (upR (upR (upR (upR (upR (upR (upR (upR (upR (upR (upR (upR (upR (upR (upR (upR (upR (upR rho1 38 3 (some 39)) 38 4 (some 40)) 38 5 (some 41)) 38 7 (some 42)) 38 8 (some 43)) 38 9 (some 44)) 38 11 (some 45)) 38 12 (some 46)) 38 14 (some 47)) 38 15 (some 48)) 38 16 (some 49)) 38 17 (some 50)) 38 19 (some 51)) 38 20 (some 52)) 38 21 (some 53)) 38 27 (some 54)) 38 28 (some 55)) 38 29 (some 56)) 38 30 (some 57)) 38 31 (some 58)) 38 32 (some 59))) _ _ _ _ from ?_
  refine r_aloadk_n dX9_init_201 rfl ?_
  refine r_bipush dX9_init_202 ?_
  refine r_newi (N := 8) dX9_init_204 ac_int rfl (fun j => hz 60 (Nat.le_of_ble_eq_true rfl) j) (show 21 + 1 ≤ 34 by decide) (show 914 + 8 ≤ 12970 by decide) ?_
  refine show RW _ (22, 922, 61, (upR (upR (upR (upR (upR (upR (upR (upR (upR (upR (upR (upR (upR (upR (upR (upR (upR (upR (upR (upR (upR rho1 38 3 (some 39)) 38 4 (some 40)) 38 5 (some 41)) 38 7 (some 42)) 38 8 (some 43)) 38 9 (some 44)) 38 11 (some 45)) 38 12 (some 46)) 38 14 (some 47)) 38 15 (some 48)) 38 16 (some 49)) 38 17 (some 50)) 38 19 (some 51)) 38 20 (some 52)) 38 21 (some 53)) 38 27 (some 54)) 38 28 (some 55)) 38 29 (some 56)) 38 30 (some 57)) 38 31 (some 58)) 38 32 (some 59))) _ _ _ _ from ?_
  refine r_putrF (r := 60) (ty := .array .int) dX9_init_206 fl_X9_90 rfl (rfl) (fun C T N h => (congrArg (fun q => q.1) (Option.some.inj h)).symm) rfl (Nat.le_of_ble_eq_true rfl) (by decide +kernel) (fun _ => rfl) (fun _ => rfl) ?_
  refine show RW _ (22, 922, 61, (upR (upR (upR (upR (upR (upR (upR (upR (upR (upR (upR (upR (upR (upR (upR (upR (upR (upR (upR (upR (upR (upR rho1 38 3 (some 39)) 38 4 (some 40)) 38 5 (some 41)) 38 7 (some 42)) 38 8 (some 43)) 38 9 (some 44)) 38 11 (some 45)) 38 12 (some 46)) 38 14 (some 47)) 38 15 (some 48)) 38 16 (some 49)) 38 17 (some 50)) 38 19 (some 51)) 38 20 (some 52)) 38 21 (some 53)) 38 27 (some 54)) 38 28 (some 55)) 38 29 (some 56)) 38 30 (some 57)) 38 31 (some 58)) 38 32 (some 59)) 38 34 (some 60))) _ _ _ _ from ?_
  refine r_aloadk_n dX9_init_209 rfl ?_
  refine r_bipush dX9_init_210 ?_
  refine r_newi (N := 8) dX9_init_212 ac_int rfl (fun j => hz 61 (Nat.le_of_ble_eq_true rfl) j) (show 22 + 1 ≤ 34 by decide) (show 922 + 8 ≤ 12970 by decide) ?_
  refine show RW _ (23, 930, 62, (upR (upR (upR (upR (upR (upR (upR (upR (upR (upR (upR (upR (upR (upR (upR (upR (upR (upR (upR (upR (upR (upR rho1 38 3 (some 39)) 38 4 (some 40)) 38 5 (some 41)) 38 7 (some 42)) 38 8 (some 43)) 38 9 (some 44)) 38 11 (some 45)) 38 12 (some 46)) 38 14 (some 47)) 38 15 (some 48)) 38 16 (some 49)) 38 17 (some 50)) 38 19 (some 51)) 38 20 (some 52)) 38 21 (some 53)) 38 27 (some 54)) 38 28 (some 55)) 38 29 (some 56)) 38 30 (some 57)) 38 31 (some 58)) 38 32 (some 59)) 38 34 (some 60))) _ _ _ _ from ?_
  refine r_putrF (r := 61) (ty := .array .int) dX9_init_214 fl_X9_93 rfl (rfl) (fun C T N h => (congrArg (fun q => q.1) (Option.some.inj h)).symm) rfl (Nat.le_of_ble_eq_true rfl) (by decide +kernel) (fun _ => rfl) (fun _ => rfl) ?_
  refine show RW _ (23, 930, 62, (upR (upR (upR (upR (upR (upR (upR (upR (upR (upR (upR (upR (upR (upR (upR (upR (upR (upR (upR (upR (upR (upR (upR rho1 38 3 (some 39)) 38 4 (some 40)) 38 5 (some 41)) 38 7 (some 42)) 38 8 (some 43)) 38 9 (some 44)) 38 11 (some 45)) 38 12 (some 46)) 38 14 (some 47)) 38 15 (some 48)) 38 16 (some 49)) 38 17 (some 50)) 38 19 (some 51)) 38 20 (some 52)) 38 21 (some 53)) 38 27 (some 54)) 38 28 (some 55)) 38 29 (some 56)) 38 30 (some 57)) 38 31 (some 58)) 38 32 (some 59)) 38 34 (some 60)) 38 35 (some 61))) _ _ _ _ from ?_
  refine r_aloadk_n dX9_init_217 rfl ?_
  refine r_bipush dX9_init_218 ?_
  refine r_newi (N := 8) dX9_init_220 ac_int rfl (fun j => hz 62 (Nat.le_of_ble_eq_true rfl) j) (show 23 + 1 ≤ 34 by decide) (show 930 + 8 ≤ 12970 by decide) ?_
  refine show RW _ (24, 938, 63, (upR (upR (upR (upR (upR (upR (upR (upR (upR (upR (upR (upR (upR (upR (upR (upR (upR (upR (upR (upR (upR (upR (upR rho1 38 3 (some 39)) 38 4 (some 40)) 38 5 (some 41)) 38 7 (some 42)) 38 8 (some 43)) 38 9 (some 44)) 38 11 (some 45)) 38 12 (some 46)) 38 14 (some 47)) 38 15 (some 48)) 38 16 (some 49)) 38 17 (some 50)) 38 19 (some 51)) 38 20 (some 52)) 38 21 (some 53)) 38 27 (some 54)) 38 28 (some 55)) 38 29 (some 56)) 38 30 (some 57)) 38 31 (some 58)) 38 32 (some 59)) 38 34 (some 60)) 38 35 (some 61))) _ _ _ _ from ?_
  refine r_putrF (r := 62) (ty := .array .int) dX9_init_222 fl_X9_96 rfl (rfl) (fun C T N h => (congrArg (fun q => q.1) (Option.some.inj h)).symm) rfl (Nat.le_of_ble_eq_true rfl) (by decide +kernel) (fun _ => rfl) (fun _ => rfl) ?_
  refine show RW _ (24, 938, 63, (upR (upR (upR (upR (upR (upR (upR (upR (upR (upR (upR (upR (upR (upR (upR (upR (upR (upR (upR (upR (upR (upR (upR (upR rho1 38 3 (some 39)) 38 4 (some 40)) 38 5 (some 41)) 38 7 (some 42)) 38 8 (some 43)) 38 9 (some 44)) 38 11 (some 45)) 38 12 (some 46)) 38 14 (some 47)) 38 15 (some 48)) 38 16 (some 49)) 38 17 (some 50)) 38 19 (some 51)) 38 20 (some 52)) 38 21 (some 53)) 38 27 (some 54)) 38 28 (some 55)) 38 29 (some 56)) 38 30 (some 57)) 38 31 (some 58)) 38 32 (some 59)) 38 34 (some 60)) 38 35 (some 61)) 38 36 (some 62))) _ _ _ _ from ?_
  refine r_aloadk_n dX9_init_225 rfl ?_
  refine r_bipush dX9_init_226 ?_
  refine r_newi (N := 8) dX9_init_228 ac_int rfl (fun j => hz 63 (Nat.le_of_ble_eq_true rfl) j) (show 24 + 1 ≤ 34 by decide) (show 938 + 8 ≤ 12970 by decide) ?_
  refine show RW _ (25, 946, 64, (upR (upR (upR (upR (upR (upR (upR (upR (upR (upR (upR (upR (upR (upR (upR (upR (upR (upR (upR (upR (upR (upR (upR (upR rho1 38 3 (some 39)) 38 4 (some 40)) 38 5 (some 41)) 38 7 (some 42)) 38 8 (some 43)) 38 9 (some 44)) 38 11 (some 45)) 38 12 (some 46)) 38 14 (some 47)) 38 15 (some 48)) 38 16 (some 49)) 38 17 (some 50)) 38 19 (some 51)) 38 20 (some 52)) 38 21 (some 53)) 38 27 (some 54)) 38 28 (some 55)) 38 29 (some 56)) 38 30 (some 57)) 38 31 (some 58)) 38 32 (some 59)) 38 34 (some 60)) 38 35 (some 61)) 38 36 (some 62))) _ _ _ _ from ?_
  refine r_putrF (r := 63) (ty := .array .int) dX9_init_230 fl_X9_99 rfl (rfl) (fun C T N h => (congrArg (fun q => q.1) (Option.some.inj h)).symm) rfl (Nat.le_of_ble_eq_true rfl) (by decide +kernel) (fun _ => rfl) (fun _ => rfl) ?_
  refine show RW _ (25, 946, 64, (upR (upR (upR (upR (upR (upR (upR (upR (upR (upR (upR (upR (upR (upR (upR (upR (upR (upR (upR (upR (upR (upR (upR (upR (upR rho1 38 3 (some 39)) 38 4 (some 40)) 38 5 (some 41)) 38 7 (some 42)) 38 8 (some 43)) 38 9 (some 44)) 38 11 (some 45)) 38 12 (some 46)) 38 14 (some 47)) 38 15 (some 48)) 38 16 (some 49)) 38 17 (some 50)) 38 19 (some 51)) 38 20 (some 52)) 38 21 (some 53)) 38 27 (some 54)) 38 28 (some 55)) 38 29 (some 56)) 38 30 (some 57)) 38 31 (some 58)) 38 32 (some 59)) 38 34 (some 60)) 38 35 (some 61)) 38 36 (some 62)) 38 37 (some 63))) _ _ _ _ from ?_
  refine r_aloadk_n dX9_init_233 rfl ?_
  refine r_bipush dX9_init_234 ?_
  refine r_newz (N := 8) dX9_init_236 ac_boolean rfl (fun j => hz 64 (Nat.le_of_ble_eq_true rfl) j) (show 25 + 1 ≤ 34 by decide) (show 946 + 8 ≤ 12970 by decide) ?_
  refine show RW _ (26, 954, 65, (upR (upR (upR (upR (upR (upR (upR (upR (upR (upR (upR (upR (upR (upR (upR (upR (upR (upR (upR (upR (upR (upR (upR (upR (upR rho1 38 3 (some 39)) 38 4 (some 40)) 38 5 (some 41)) 38 7 (some 42)) 38 8 (some 43)) 38 9 (some 44)) 38 11 (some 45)) 38 12 (some 46)) 38 14 (some 47)) 38 15 (some 48)) 38 16 (some 49)) 38 17 (some 50)) 38 19 (some 51)) 38 20 (some 52)) 38 21 (some 53)) 38 27 (some 54)) 38 28 (some 55)) 38 29 (some 56)) 38 30 (some 57)) 38 31 (some 58)) 38 32 (some 59)) 38 34 (some 60)) 38 35 (some 61)) 38 36 (some 62)) 38 37 (some 63))) _ _ _ _ from ?_
  refine r_putrF (r := 64) (ty := .array .boolean) dX9_init_238 fl_X9_102 rfl (rfl) (fun C T N h => (congrArg (fun q => q.1) (Option.some.inj h)).symm) rfl (Nat.le_of_ble_eq_true rfl) (by decide +kernel) (fun _ => rfl) (fun _ => rfl) ?_
  refine show RW _ (26, 954, 65, (upR (upR (upR (upR (upR (upR (upR (upR (upR (upR (upR (upR (upR (upR (upR (upR (upR (upR (upR (upR (upR (upR (upR (upR (upR (upR rho1 38 3 (some 39)) 38 4 (some 40)) 38 5 (some 41)) 38 7 (some 42)) 38 8 (some 43)) 38 9 (some 44)) 38 11 (some 45)) 38 12 (some 46)) 38 14 (some 47)) 38 15 (some 48)) 38 16 (some 49)) 38 17 (some 50)) 38 19 (some 51)) 38 20 (some 52)) 38 21 (some 53)) 38 27 (some 54)) 38 28 (some 55)) 38 29 (some 56)) 38 30 (some 57)) 38 31 (some 58)) 38 32 (some 59)) 38 34 (some 60)) 38 35 (some 61)) 38 36 (some 62)) 38 37 (some 63)) 38 43 (some 64))) _ _ _ _ from ?_
  refine r_aloadk_n dX9_init_241 rfl ?_
  refine r_sipush dX9_init_242 ?_
  refine r_newi (N := 2000) dX9_init_245 ac_int rfl (fun j => hz 65 (Nat.le_of_ble_eq_true rfl) j) (show 26 + 1 ≤ 34 by decide) (show 954 + 2000 ≤ 12970 by decide) ?_
  refine show RW _ (27, 2954, 66, (upR (upR (upR (upR (upR (upR (upR (upR (upR (upR (upR (upR (upR (upR (upR (upR (upR (upR (upR (upR (upR (upR (upR (upR (upR (upR rho1 38 3 (some 39)) 38 4 (some 40)) 38 5 (some 41)) 38 7 (some 42)) 38 8 (some 43)) 38 9 (some 44)) 38 11 (some 45)) 38 12 (some 46)) 38 14 (some 47)) 38 15 (some 48)) 38 16 (some 49)) 38 17 (some 50)) 38 19 (some 51)) 38 20 (some 52)) 38 21 (some 53)) 38 27 (some 54)) 38 28 (some 55)) 38 29 (some 56)) 38 30 (some 57)) 38 31 (some 58)) 38 32 (some 59)) 38 34 (some 60)) 38 35 (some 61)) 38 36 (some 62)) 38 37 (some 63)) 38 43 (some 64))) _ _ _ _ from ?_
  refine r_putrF (r := 65) (ty := .array .int) dX9_init_247 fl_X9_105 rfl (rfl) (fun C T N h => (congrArg (fun q => q.1) (Option.some.inj h)).symm) rfl (Nat.le_of_ble_eq_true rfl) (by decide +kernel) (fun _ => rfl) (fun _ => rfl) ?_
  refine show RW _ (27, 2954, 66, (upR (upR (upR (upR (upR (upR (upR (upR (upR (upR (upR (upR (upR (upR (upR (upR (upR (upR (upR (upR (upR (upR (upR (upR (upR (upR (upR rho1 38 3 (some 39)) 38 4 (some 40)) 38 5 (some 41)) 38 7 (some 42)) 38 8 (some 43)) 38 9 (some 44)) 38 11 (some 45)) 38 12 (some 46)) 38 14 (some 47)) 38 15 (some 48)) 38 16 (some 49)) 38 17 (some 50)) 38 19 (some 51)) 38 20 (some 52)) 38 21 (some 53)) 38 27 (some 54)) 38 28 (some 55)) 38 29 (some 56)) 38 30 (some 57)) 38 31 (some 58)) 38 32 (some 59)) 38 34 (some 60)) 38 35 (some 61)) 38 36 (some 62)) 38 37 (some 63)) 38 43 (some 64)) 38 45 (some 65))) _ _ _ _ from ?_
  refine r_aloadk_n dX9_init_250 rfl ?_
  refine r_sipush dX9_init_251 ?_
  refine r_newi (N := 2000) dX9_init_254 ac_int rfl (fun j => hz 66 (Nat.le_of_ble_eq_true rfl) j) (show 27 + 1 ≤ 34 by decide) (show 2954 + 2000 ≤ 12970 by decide) ?_
  refine show RW _ (28, 4954, 67, (upR (upR (upR (upR (upR (upR (upR (upR (upR (upR (upR (upR (upR (upR (upR (upR (upR (upR (upR (upR (upR (upR (upR (upR (upR (upR (upR rho1 38 3 (some 39)) 38 4 (some 40)) 38 5 (some 41)) 38 7 (some 42)) 38 8 (some 43)) 38 9 (some 44)) 38 11 (some 45)) 38 12 (some 46)) 38 14 (some 47)) 38 15 (some 48)) 38 16 (some 49)) 38 17 (some 50)) 38 19 (some 51)) 38 20 (some 52)) 38 21 (some 53)) 38 27 (some 54)) 38 28 (some 55)) 38 29 (some 56)) 38 30 (some 57)) 38 31 (some 58)) 38 32 (some 59)) 38 34 (some 60)) 38 35 (some 61)) 38 36 (some 62)) 38 37 (some 63)) 38 43 (some 64)) 38 45 (some 65))) _ _ _ _ from ?_
  refine r_putrF (r := 66) (ty := .array .int) dX9_init_256 fl_X9_108 rfl (rfl) (fun C T N h => (congrArg (fun q => q.1) (Option.some.inj h)).symm) rfl (Nat.le_of_ble_eq_true rfl) (by decide +kernel) (fun _ => rfl) (fun _ => rfl) ?_
  refine show RW _ (28, 4954, 67, (upR (upR (upR (upR (upR (upR (upR (upR (upR (upR (upR (upR (upR (upR (upR (upR (upR (upR (upR (upR (upR (upR (upR (upR (upR (upR (upR (upR rho1 38 3 (some 39)) 38 4 (some 40)) 38 5 (some 41)) 38 7 (some 42)) 38 8 (some 43)) 38 9 (some 44)) 38 11 (some 45)) 38 12 (some 46)) 38 14 (some 47)) 38 15 (some 48)) 38 16 (some 49)) 38 17 (some 50)) 38 19 (some 51)) 38 20 (some 52)) 38 21 (some 53)) 38 27 (some 54)) 38 28 (some 55)) 38 29 (some 56)) 38 30 (some 57)) 38 31 (some 58)) 38 32 (some 59)) 38 34 (some 60)) 38 35 (some 61)) 38 36 (some 62)) 38 37 (some 63)) 38 43 (some 64)) 38 45 (some 65)) 38 46 (some 66))) _ _ _ _ from ?_
  refine r_aloadk_n dX9_init_259 rfl ?_
  refine r_sipush dX9_init_260 ?_
  refine r_newi (N := 2000) dX9_init_263 ac_int rfl (fun j => hz 67 (Nat.le_of_ble_eq_true rfl) j) (show 28 + 1 ≤ 34 by decide) (show 4954 + 2000 ≤ 12970 by decide) ?_
  refine show RW _ (29, 6954, 68, (upR (upR (upR (upR (upR (upR (upR (upR (upR (upR (upR (upR (upR (upR (upR (upR (upR (upR (upR (upR (upR (upR (upR (upR (upR (upR (upR (upR rho1 38 3 (some 39)) 38 4 (some 40)) 38 5 (some 41)) 38 7 (some 42)) 38 8 (some 43)) 38 9 (some 44)) 38 11 (some 45)) 38 12 (some 46)) 38 14 (some 47)) 38 15 (some 48)) 38 16 (some 49)) 38 17 (some 50)) 38 19 (some 51)) 38 20 (some 52)) 38 21 (some 53)) 38 27 (some 54)) 38 28 (some 55)) 38 29 (some 56)) 38 30 (some 57)) 38 31 (some 58)) 38 32 (some 59)) 38 34 (some 60)) 38 35 (some 61)) 38 36 (some 62)) 38 37 (some 63)) 38 43 (some 64)) 38 45 (some 65)) 38 46 (some 66))) _ _ _ _ from ?_
  refine r_putrF (r := 67) (ty := .array .int) dX9_init_265 fl_X9_111 rfl (rfl) (fun C T N h => (congrArg (fun q => q.1) (Option.some.inj h)).symm) rfl (Nat.le_of_ble_eq_true rfl) (by decide +kernel) (fun _ => rfl) (fun _ => rfl) ?_
  refine show RW _ (29, 6954, 68, (upR (upR (upR (upR (upR (upR (upR (upR (upR (upR (upR (upR (upR (upR (upR (upR (upR (upR (upR (upR (upR (upR (upR (upR (upR (upR (upR (upR (upR rho1 38 3 (some 39)) 38 4 (some 40)) 38 5 (some 41)) 38 7 (some 42)) 38 8 (some 43)) 38 9 (some 44)) 38 11 (some 45)) 38 12 (some 46)) 38 14 (some 47)) 38 15 (some 48)) 38 16 (some 49)) 38 17 (some 50)) 38 19 (some 51)) 38 20 (some 52)) 38 21 (some 53)) 38 27 (some 54)) 38 28 (some 55)) 38 29 (some 56)) 38 30 (some 57)) 38 31 (some 58)) 38 32 (some 59)) 38 34 (some 60)) 38 35 (some 61)) 38 36 (some 62)) 38 37 (some 63)) 38 43 (some 64)) 38 45 (some 65)) 38 46 (some 66)) 38 47 (some 67))) _ _ _ _ from ?_
  refine r_aloadk_n dX9_init_268 rfl ?_
  refine r_sipush dX9_init_269 ?_
  refine r_newi (N := 2000) dX9_init_272 ac_int rfl (fun j => hz 68 (Nat.le_of_ble_eq_true rfl) j) (show 29 + 1 ≤ 34 by decide) (show 6954 + 2000 ≤ 12970 by decide) ?_
  refine show RW _ (30, 8954, 69, (upR (upR (upR (upR (upR (upR (upR (upR (upR (upR (upR (upR (upR (upR (upR (upR (upR (upR (upR (upR (upR (upR (upR (upR (upR (upR (upR (upR (upR rho1 38 3 (some 39)) 38 4 (some 40)) 38 5 (some 41)) 38 7 (some 42)) 38 8 (some 43)) 38 9 (some 44)) 38 11 (some 45)) 38 12 (some 46)) 38 14 (some 47)) 38 15 (some 48)) 38 16 (some 49)) 38 17 (some 50)) 38 19 (some 51)) 38 20 (some 52)) 38 21 (some 53)) 38 27 (some 54)) 38 28 (some 55)) 38 29 (some 56)) 38 30 (some 57)) 38 31 (some 58)) 38 32 (some 59)) 38 34 (some 60)) 38 35 (some 61)) 38 36 (some 62)) 38 37 (some 63)) 38 43 (some 64)) 38 45 (some 65)) 38 46 (some 66)) 38 47 (some 67))) _ _ _ _ from ?_
  refine r_putrF (r := 68) (ty := .array .int) dX9_init_274 fl_X9_114 rfl (rfl) (fun C T N h => (congrArg (fun q => q.1) (Option.some.inj h)).symm) rfl (Nat.le_of_ble_eq_true rfl) (by decide +kernel) (fun _ => rfl) (fun _ => rfl) ?_
  refine show RW _ (30, 8954, 69, (upR (upR (upR (upR (upR (upR (upR (upR (upR (upR (upR (upR (upR (upR (upR (upR (upR (upR (upR (upR (upR (upR (upR (upR (upR (upR (upR (upR (upR (upR rho1 38 3 (some 39)) 38 4 (some 40)) 38 5 (some 41)) 38 7 (some 42)) 38 8 (some 43)) 38 9 (some 44)) 38 11 (some 45)) 38 12 (some 46)) 38 14 (some 47)) 38 15 (some 48)) 38 16 (some 49)) 38 17 (some 50)) 38 19 (some 51)) 38 20 (some 52)) 38 21 (some 53)) 38 27 (some 54)) 38 28 (some 55)) 38 29 (some 56)) 38 30 (some 57)) 38 31 (some 58)) 38 32 (some 59)) 38 34 (some 60)) 38 35 (some 61)) 38 36 (some 62)) 38 37 (some 63)) 38 43 (some 64)) 38 45 (some 65)) 38 46 (some 66)) 38 47 (some 67)) 38 48 (some 68))) _ _ _ _ from ?_
  refine r_aloadk_n dX9_init_277 rfl ?_
  refine r_sipush dX9_init_278 ?_
  refine r_newj (N := 2000) dX9_init_281 ac_long rfl (fun j => hz 69 (Nat.le_of_ble_eq_true rfl) j) (show 30 + 1 ≤ 34 by decide) (show 8954 + 2000 ≤ 12970 by decide) ?_
  refine show RW _ (31, 10954, 70, (upR (upR (upR (upR (upR (upR (upR (upR (upR (upR (upR (upR (upR (upR (upR (upR (upR (upR (upR (upR (upR (upR (upR (upR (upR (upR (upR (upR (upR (upR rho1 38 3 (some 39)) 38 4 (some 40)) 38 5 (some 41)) 38 7 (some 42)) 38 8 (some 43)) 38 9 (some 44)) 38 11 (some 45)) 38 12 (some 46)) 38 14 (some 47)) 38 15 (some 48)) 38 16 (some 49)) 38 17 (some 50)) 38 19 (some 51)) 38 20 (some 52)) 38 21 (some 53)) 38 27 (some 54)) 38 28 (some 55)) 38 29 (some 56)) 38 30 (some 57)) 38 31 (some 58)) 38 32 (some 59)) 38 34 (some 60)) 38 35 (some 61)) 38 36 (some 62)) 38 37 (some 63)) 38 43 (some 64)) 38 45 (some 65)) 38 46 (some 66)) 38 47 (some 67)) 38 48 (some 68))) _ _ _ _ from ?_
  refine r_putrF (r := 69) (ty := .array .long) dX9_init_283 fl_X9_117 rfl (rfl) (fun C T N h => (congrArg (fun q => q.1) (Option.some.inj h)).symm) rfl (Nat.le_of_ble_eq_true rfl) (by decide +kernel) (fun _ => rfl) (fun _ => rfl) ?_
  refine show RW _ (31, 10954, 70, (upR (upR (upR (upR (upR (upR (upR (upR (upR (upR (upR (upR (upR (upR (upR (upR (upR (upR (upR (upR (upR (upR (upR (upR (upR (upR (upR (upR (upR (upR (upR rho1 38 3 (some 39)) 38 4 (some 40)) 38 5 (some 41)) 38 7 (some 42)) 38 8 (some 43)) 38 9 (some 44)) 38 11 (some 45)) 38 12 (some 46)) 38 14 (some 47)) 38 15 (some 48)) 38 16 (some 49)) 38 17 (some 50)) 38 19 (some 51)) 38 20 (some 52)) 38 21 (some 53)) 38 27 (some 54)) 38 28 (some 55)) 38 29 (some 56)) 38 30 (some 57)) 38 31 (some 58)) 38 32 (some 59)) 38 34 (some 60)) 38 35 (some 61)) 38 36 (some 62)) 38 37 (some 63)) 38 43 (some 64)) 38 45 (some 65)) 38 46 (some 66)) 38 47 (some 67)) 38 48 (some 68)) 38 49 (some 69))) _ _ _ _ from ?_
  refine r_aloadk_n dX9_init_286 rfl ?_
  refine r_sipush dX9_init_287 ?_
  refine r_newj (N := 2000) dX9_init_290 ac_long rfl (fun j => hz 70 (Nat.le_of_ble_eq_true rfl) j) (show 31 + 1 ≤ 34 by decide) (show 10954 + 2000 ≤ 12970 by decide) ?_
  refine show RW _ (32, 12954, 71, (upR (upR (upR (upR (upR (upR (upR (upR (upR (upR (upR (upR (upR (upR (upR (upR (upR (upR (upR (upR (upR (upR (upR (upR (upR (upR (upR (upR (upR (upR (upR rho1 38 3 (some 39)) 38 4 (some 40)) 38 5 (some 41)) 38 7 (some 42)) 38 8 (some 43)) 38 9 (some 44)) 38 11 (some 45)) 38 12 (some 46)) 38 14 (some 47)) 38 15 (some 48)) 38 16 (some 49)) 38 17 (some 50)) 38 19 (some 51)) 38 20 (some 52)) 38 21 (some 53)) 38 27 (some 54)) 38 28 (some 55)) 38 29 (some 56)) 38 30 (some 57)) 38 31 (some 58)) 38 32 (some 59)) 38 34 (some 60)) 38 35 (some 61)) 38 36 (some 62)) 38 37 (some 63)) 38 43 (some 64)) 38 45 (some 65)) 38 46 (some 66)) 38 47 (some 67)) 38 48 (some 68)) 38 49 (some 69))) _ _ _ _ from ?_
  refine r_putrF (r := 70) (ty := .array .long) dX9_init_292 fl_X9_121 rfl (rfl) (fun C T N h => (congrArg (fun q => q.1) (Option.some.inj h)).symm) rfl (Nat.le_of_ble_eq_true rfl) (by decide +kernel) (fun _ => rfl) (fun _ => rfl) ?_
  refine show RW _ (32, 12954, 71, (upR (upR (upR (upR (upR (upR (upR (upR (upR (upR (upR (upR (upR (upR (upR (upR (upR (upR (upR (upR (upR (upR (upR (upR (upR (upR (upR (upR (upR (upR (upR (upR rho1 38 3 (some 39)) 38 4 (some 40)) 38 5 (some 41)) 38 7 (some 42)) 38 8 (some 43)) 38 9 (some 44)) 38 11 (some 45)) 38 12 (some 46)) 38 14 (some 47)) 38 15 (some 48)) 38 16 (some 49)) 38 17 (some 50)) 38 19 (some 51)) 38 20 (some 52)) 38 21 (some 53)) 38 27 (some 54)) 38 28 (some 55)) 38 29 (some 56)) 38 30 (some 57)) 38 31 (some 58)) 38 32 (some 59)) 38 34 (some 60)) 38 35 (some 61)) 38 36 (some 62)) 38 37 (some 63)) 38 43 (some 64)) 38 45 (some 65)) 38 46 (some 66)) 38 47 (some 67)) 38 48 (some 68)) 38 49 (some 69)) 38 50 (some 70))) _ _ _ _ from ?_
  refine r_aloadk_n dX9_init_295 rfl ?_
  refine r_bipush dX9_init_296 ?_
  refine r_newi (N := 8) dX9_init_298 ac_int rfl (fun j => hz 71 (Nat.le_of_ble_eq_true rfl) j) (show 32 + 1 ≤ 34 by decide) (show 12954 + 8 ≤ 12970 by decide) ?_
  refine show RW _ (33, 12962, 72, (upR (upR (upR (upR (upR (upR (upR (upR (upR (upR (upR (upR (upR (upR (upR (upR (upR (upR (upR (upR (upR (upR (upR (upR (upR (upR (upR (upR (upR (upR (upR (upR rho1 38 3 (some 39)) 38 4 (some 40)) 38 5 (some 41)) 38 7 (some 42)) 38 8 (some 43)) 38 9 (some 44)) 38 11 (some 45)) 38 12 (some 46)) 38 14 (some 47)) 38 15 (some 48)) 38 16 (some 49)) 38 17 (some 50)) 38 19 (some 51)) 38 20 (some 52)) 38 21 (some 53)) 38 27 (some 54)) 38 28 (some 55)) 38 29 (some 56)) 38 30 (some 57)) 38 31 (some 58)) 38 32 (some 59)) 38 34 (some 60)) 38 35 (some 61)) 38 36 (some 62)) 38 37 (some 63)) 38 43 (some 64)) 38 45 (some 65)) 38 46 (some 66)) 38 47 (some 67)) 38 48 (some 68)) 38 49 (some 69)) 38 50 (some 70))) _ _ _ _ from ?_
  refine r_putrF (r := 71) (ty := .array .int) dX9_init_300 fl_X9_124 rfl (rfl) (fun C T N h => (congrArg (fun q => q.1) (Option.some.inj h)).symm) rfl (Nat.le_of_ble_eq_true rfl) (by decide +kernel) (fun _ => rfl) (fun _ => rfl) ?_
  refine show RW _ (33, 12962, 72, (upR (upR (upR (upR (upR (upR (upR (upR (upR (upR (upR (upR (upR (upR (upR (upR (upR (upR (upR (upR (upR (upR (upR (upR (upR (upR (upR (upR (upR (upR (upR (upR (upR rho1 38 3 (some 39)) 38 4 (some 40)) 38 5 (some 41)) 38 7 (some 42)) 38 8 (some 43)) 38 9 (some 44)) 38 11 (some 45)) 38 12 (some 46)) 38 14 (some 47)) 38 15 (some 48)) 38 16 (some 49)) 38 17 (some 50)) 38 19 (some 51)) 38 20 (some 52)) 38 21 (some 53)) 38 27 (some 54)) 38 28 (some 55)) 38 29 (some 56)) 38 30 (some 57)) 38 31 (some 58)) 38 32 (some 59)) 38 34 (some 60)) 38 35 (some 61)) 38 36 (some 62)) 38 37 (some 63)) 38 43 (some 64)) 38 45 (some 65)) 38 46 (some 66)) 38 47 (some 67)) 38 48 (some 68)) 38 49 (some 69)) 38 50 (some 70)) 38 51 (some 71))) _ _ _ _ from ?_
  refine r_aloadk_n dX9_init_303 rfl ?_
  refine r_bipush dX9_init_304 ?_
  refine r_newi (N := 8) dX9_init_306 ac_int rfl (fun j => hz 72 (Nat.le_of_ble_eq_true rfl) j) (show 33 + 1 ≤ 34 by decide) (show 12962 + 8 ≤ 12970 by decide) ?_
  refine show RW _ (34, 12970, 73, (upR (upR (upR (upR (upR (upR (upR (upR (upR (upR (upR (upR (upR (upR (upR (upR (upR (upR (upR (upR (upR (upR (upR (upR (upR (upR (upR (upR (upR (upR (upR (upR (upR rho1 38 3 (some 39)) 38 4 (some 40)) 38 5 (some 41)) 38 7 (some 42)) 38 8 (some 43)) 38 9 (some 44)) 38 11 (some 45)) 38 12 (some 46)) 38 14 (some 47)) 38 15 (some 48)) 38 16 (some 49)) 38 17 (some 50)) 38 19 (some 51)) 38 20 (some 52)) 38 21 (some 53)) 38 27 (some 54)) 38 28 (some 55)) 38 29 (some 56)) 38 30 (some 57)) 38 31 (some 58)) 38 32 (some 59)) 38 34 (some 60)) 38 35 (some 61)) 38 36 (some 62)) 38 37 (some 63)) 38 43 (some 64)) 38 45 (some 65)) 38 46 (some 66)) 38 47 (some 67)) 38 48 (some 68)) 38 49 (some 69)) 38 50 (some 70)) 38 51 (some 71))) _ _ _ _ from ?_
  refine r_putrF (r := 72) (ty := .array .int) dX9_init_308 fl_X9_127 rfl (rfl) (fun C T N h => (congrArg (fun q => q.1) (Option.some.inj h)).symm) rfl (Nat.le_of_ble_eq_true rfl) (by decide +kernel) (fun _ => rfl) (fun _ => rfl) ?_
  refine show RW _ (34, 12970, 73, (upR (upR (upR (upR (upR (upR (upR (upR (upR (upR (upR (upR (upR (upR (upR (upR (upR (upR (upR (upR (upR (upR (upR (upR (upR (upR (upR (upR (upR (upR (upR (upR (upR (upR rho1 38 3 (some 39)) 38 4 (some 40)) 38 5 (some 41)) 38 7 (some 42)) 38 8 (some 43)) 38 9 (some 44)) 38 11 (some 45)) 38 12 (some 46)) 38 14 (some 47)) 38 15 (some 48)) 38 16 (some 49)) 38 17 (some 50)) 38 19 (some 51)) 38 20 (some 52)) 38 21 (some 53)) 38 27 (some 54)) 38 28 (some 55)) 38 29 (some 56)) 38 30 (some 57)) 38 31 (some 58)) 38 32 (some 59)) 38 34 (some 60)) 38 35 (some 61)) 38 36 (some 62)) 38 37 (some 63)) 38 43 (some 64)) 38 45 (some 65)) 38 46 (some 66)) 38 47 (some 67)) 38 48 (some 68)) 38 49 (some 69)) 38 50 (some 70)) 38 51 (some 71)) 38 52 (some 72))) _ _ _ _ from ?_
  refine r_iconst dX9_init_311 ?_
  refine r_istore_n dX9_init_312 (Nat.le_of_ble_eq_true rfl) rfl s1 ?_
  refine r_iload_n dX9_init_313 rfl ?_
  refine r_iconst dX9_init_314 ?_
  refine r_icmpge (tgt := 331) dX9_init_315 rfl (by omega) (by omega) (fun h315 => absurd h315 (by decide)) (fun h315 => ?_)
  refine r_aloadk_n dX9_init_318 rfl ?_
  refine r_getr (r := 42) dX9_init_319 fl_X9_27 rfl rfl (Nat.le_of_ble_eq_true rfl) rfl ?_
  refine r_iload_n dX9_init_322 rfl ?_
  refine r_iconst dX9_init_323 ?_
  refine r_iast dX9_init_324 rfl (Nat.le_of_ble_eq_true rfl) (Int.toNat_of_nonneg (by decide)).symm (by decide) ?_
  refine r_iinc dX9_init_325 (Nat.le_of_ble_eq_true rfl) rfl rfl s1 ?_
  refine r_goto (tgt := 313) dX9_init_328 (by omega) ?_
  refine r_iload_n dX9_init_313 rfl ?_
  refine r_iconst dX9_init_314 ?_
  refine r_icmpge (tgt := 331) dX9_init_315 rfl (by omega) (by omega) (fun h315 => absurd h315 (by decide)) (fun h315 => ?_)
  refine r_aloadk_n dX9_init_318 rfl ?_
  refine r_getr (r := 42) dX9_init_319 fl_X9_27 rfl rfl (Nat.le_of_ble_eq_true rfl) rfl ?_
  refine r_iload_n dX9_init_322 rfl ?_
  refine r_iconst dX9_init_323 ?_
  refine r_iast dX9_init_324 rfl (Nat.le_of_ble_eq_true rfl) (Int.toNat_of_nonneg (by decide)).symm (by decide) ?_
  refine r_iinc dX9_init_325 (Nat.le_of_ble_eq_true rfl) rfl rfl s1 ?_
  refine r_goto (tgt := 313) dX9_init_328 (by omega) ?_
  refine r_iload_n dX9_init_313 rfl ?_
  refine r_iconst dX9_init_314 ?_
  refine r_icmpge (tgt := 331) dX9_init_315 rfl (by omega) (by omega) (fun h315 => absurd h315 (by decide)) (fun h315 => ?_)
  refine r_aloadk_n dX9_init_318 rfl ?_
  refine r_getr (r := 42) dX9_init_319 fl_X9_27 rfl rfl (Nat.le_of_ble_eq_true rfl) rfl ?_
  refine r_iload_n dX9_init_322 rfl ?_
  refine r_iconst dX9_init_323 ?_
  refine r_iast dX9_init_324 rfl (Nat.le_of_ble_eq_true rfl) (Int.toNat_of_nonneg (by decide)).symm (by decide) ?_
  refine r_iinc dX9_init_325 (Nat.le_of_ble_eq_true rfl) rfl rfl s1 ?_
  refine r_goto (tgt := 313) dX9_init_328 (by omega) ?_
  refine r_iload_n dX9_init_313 rfl ?_
  refine r_iconst dX9_init_314 ?_
  refine r_icmpge (tgt := 331) dX9_init_315 rfl (by omega) (by omega) (fun h315 => ?_) (fun h315 => absurd h315 (by decide))
  refine show RW _ _ (sD σ) _ _ _ from ?_
  refine show RW _ (34, 12970, 73, rho2) _ _ _ _ from ?_
  refine r_aloadk_n dX9_init_331 rfl ?_
  refine q_callVv dX9_init_332 (kc) ml_X9_130 okX9_clearLand rfl rfl (Nat.le_of_ble_eq_true rfl) rfl rfl (Nat.le_of_ble_eq_true rfl) (roomOK.of (by decide)) ⟨(Nat.le_of_ble_eq_true rfl), (Nat.le_of_ble_eq_true rfl)⟩ (fun σ1 hq1 => ?_)
  exact r_vret dX9_init_335 rfl ⟨rfl, hq1⟩
theorem rho2_ok : ∀ k, k < 73 → ∀ j, j < 60 → sref k j = none ∨ rho2 k j = sref k j := by decide +kernel
theorem std2 : Std 73 rho2 := ⟨Nat.le_refl 73, fun k j r h => by
  obtain ⟨a, b⟩ := sref_hi h
  rcases rho2_ok k a j b with q | q
  · rw [h] at q; cases q
  · rw [q]; exact h⟩
/-- with the Drawing made -/
def rho3 : Rho := upR (rX0 rho2) 0 7 (some 73)
theorem rho3_ok : ∀ k, k < 73 → ∀ j, j < 60 → sref k j = none ∨ rho3 k j = sref k j := by decide +kernel
theorem std3 : Std 92 rho3 := ⟨by decide, fun k j r h => by
  obtain ⟨a, b⟩ := sref_hi h
  rcases rho3_ok k a j b with q | q
  · rw [h] at q; cases q
  · rw [q]; exact h⟩
theorem srD_len : ∀ k, k < 92 → (srD.getD k []).length ≤ 60 := by decide +kernel
theorem srefD_hi {k j r : Nat} (h : srefD k j = some r) : k < 92 ∧ j < 60 := by
  have hk : k < 92 := Classical.byContradiction (fun q => by
    unfold srefD at h
    rw [getD_out (L := srD) (i := k) (by have : srD.length ≤ 92 := by decide
                                         omega), getD_out (Nat.zero_le _)] at h
    cases h)
  refine ⟨hk, Classical.byContradiction (fun q => ?_)⟩
  have h2 := srD_len k hk
  unfold srefD at h
  rw [getD_out (by omega)] at h
  cases h
theorem rho3D_ok : ∀ k, k < 92 → ∀ j, j < 60 → srefD k j = none ∨ rho3 k j = srefD k j := by decide +kernel
theorem stdD3 : StdD 92 rho3 := ⟨by decide, fun k j r h => by
  obtain ⟨a, b⟩ := srefD_hi h
  rcases rho3D_ok k a j b with q | q
  · rw [h] at q; cases q
  · rw [q]; exact h⟩
end Make2
