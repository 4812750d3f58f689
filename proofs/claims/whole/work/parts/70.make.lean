/-! The constructors -/
def dfB (d : String) : Bool := match parseFieldDescriptor d with
  | some .int => isI d
  | some .boolean => isI d
  | some (.array _) => !isI d
  | some (.object _) => !isI d
  | _ => false
theorem dfB_ok {d : String} (h : dfB d = true) : ∀ ty, parseFieldDescriptor d = some ty → defaultValue ty = if isI d = true then iv 0 else .null := by
  intro ty hty
  unfold dfB at h
  rw [hty] at h
  cases ty with
  | int => rw [if_pos h]; rfl
  | boolean => rw [if_pos h]; rfl
  | array t => rw [if_neg (by rw [Bool.not_eq_true'] at h; rw [h]; decide)]; rfl
  | object t => rw [if_neg (by rw [Bool.not_eq_true'] at h; rw [h]; decide)]; rfl
  | _ => exact absurd (show false = true from h) (by decide)
theorem df_X0 : ∀ j, j < 19 → ∀ ty, parseFieldDescriptor (TX0 j).2.2.1 = some ty → defaultValue ty = if isI (TX0 j).2.2.1 = true then iv 0 else .null := fun j hj => dfB_ok ((by decide +kernel : ∀ j, j < 19 → dfB (TX0 j).2.2.1 = true) j hj)
theorem df_X1 : ∀ j, j < 7 → ∀ ty, parseFieldDescriptor (TX1 j).2.2.1 = some ty → defaultValue ty = if isI (TX1 j).2.2.1 = true then iv 0 else .null := fun j hj => dfB_ok ((by decide +kernel : ∀ j, j < 7 → dfB (TX1 j).2.2.1 = true) j hj)
theorem df_X2 : ∀ j, j < 4 → ∀ ty, parseFieldDescriptor (TX2 j).2.2.1 = some ty → defaultValue ty = if isI (TX2 j).2.2.1 = true then iv 0 else .null := fun j hj => dfB_ok ((by decide +kernel : ∀ j, j < 4 → dfB (TX2 j).2.2.1 = true) j hj)
theorem df_X3 : ∀ j, j < 3 → ∀ ty, parseFieldDescriptor (TX3 j).2.2.1 = some ty → defaultValue ty = if isI (TX3 j).2.2.1 = true then iv 0 else .null := fun j hj => dfB_ok ((by decide +kernel : ∀ j, j < 3 → dfB (TX3 j).2.2.1 = true) j hj)
theorem df_X4 : ∀ j, j < 13 → ∀ ty, parseFieldDescriptor (TX4 j).2.2.1 = some ty → defaultValue ty = if isI (TX4 j).2.2.1 = true then iv 0 else .null := fun j hj => dfB_ok ((by decide +kernel : ∀ j, j < 13 → dfB (TX4 j).2.2.1 = true) j hj)
theorem df_X6 : ∀ j, j < 8 → ∀ ty, parseFieldDescriptor (TX6 j).2.2.1 = some ty → defaultValue ty = if isI (TX6 j).2.2.1 = true then iv 0 else .null := fun j hj => dfB_ok ((by decide +kernel : ∀ j, j < 8 → dfB (TX6 j).2.2.1 = true) j hj)
theorem df_X7 : ∀ j, j < 3 → ∀ ty, parseFieldDescriptor (TX7 j).2.2.1 = some ty → defaultValue ty = if isI (TX7 j).2.2.1 = true then iv 0 else .null := fun j hj => dfB_ok ((by decide +kernel : ∀ j, j < 3 → dfB (TX7 j).2.2.1 = true) j hj)
theorem df_X8 : ∀ j, j < 8 → ∀ ty, parseFieldDescriptor (TX8 j).2.2.1 = some ty → defaultValue ty = if isI (TX8 j).2.2.1 = true then iv 0 else .null := fun j hj => dfB_ok ((by decide +kernel : ∀ j, j < 8 → dfB (TX8 j).2.2.1 = true) j hj)
theorem df_X9 : ∀ j, j < 57 → ∀ ty, parseFieldDescriptor (TX9 j).2.2.1 = some ty → defaultValue ty = if isI (TX9 j).2.2.1 = true then iv 0 else .null := fun j hj => dfB_ok ((by decide +kernel : ∀ j, j < 57 → dfB (TX9 j).2.2.1 = true) j hj)
theorem RWcast {K : Kx} {φ φ' : Ph} {σ : Si} {pc : Nat} {L st : List Value} (e : φ = φ') (k : RW K φ' σ pc L st) : RW K φ σ pc L st := by rw [e]; exact k
section Make
variable {l : Launch} {G : GG} {n : Nat} {ρ : Rho} {σ : Si}
def rX1 (ρ : Rho) : Rho := (upR (upR (upR ρ 2 4 (some 3)) 2 5 (some 7)) 2 6 (some 8))
def rX3 (ρ : Rho) : Rho := (upR (upR (upR ρ 9 1 (some 10)) 9 2 (some 11)) 9 0 (some 2))
def rX7 (ρ : Rho) : Rho := (upR (upR (upR ρ 12 0 (some 13)) 12 1 (some 17)) 12 2 (some 18))
def rX4 (ρ : Rho) : Rho := (upR (upR (upR (upR (upR (upR (upR (upR (upR (upR ρ 19 4 (some 20)) 19 5 (some 21)) 19 6 (some 22)) 19 7 (some 23)) 19 8 (some 24)) 19 9 (some 25)) 19 10 (some 26)) 19 11 (some 27)) 19 12 (some 28)) 19 0 (some 2))
def rX6 (ρ : Rho) : Rho := (upR (upR (upR (upR (upR (upR (upR (upR ρ 29 3 (some 30)) 29 4 (some 31)) 29 5 (some 32)) 29 6 (some 33)) 29 7 (some 34)) 29 0 (some 2)) 29 1 (some 19)) 29 2 (some 1))
def rX2 (ρ : Rho) : Rho := (upR (upR (upR (upR ρ 35 2 (some 36)) 35 3 (some 37)) 35 0 (some 2)) 35 1 (some 19))
set_option maxHeartbeats 4000000 in
theorem i_X3 (hz : ∀ k, 10 ≤ k → ∀ j, σ k j = 0) : Ct l G 1 mX3_init 2 160 10 ρ σ [rf G 9, rf G 2] 12 (rX3 ρ) (fun σ' v => v = none ∧ σ' = σ) := by
  refine Ct.of (L0 := [rf G 9, rf G 2]) (by decide +kernel) (Nat.le_of_ble_eq_true rfl) rfl ?_
  refine r_aloadk_n dX3_init_0 rfl ?_
  refine r_objInit dX3_init_1 ml_X3_3 oi_in oi_co (Nat.le_of_ble_eq_true rfl) (Nat.le_of_ble_eq_true rfl) ?_
  refine r_aloadk_n dX3_init_4 rfl ?_
  refine r_bipush dX3_init_5 ?_
  refine r_newi (N := 80) dX3_init_7 ac_int rfl (fun j => hz 10 (Nat.le_of_ble_eq_true rfl) j) (show 0 + 1 ≤ 2 by decide) (show 0 + 80 ≤ 160 by decide) ?_
  refine show RW _ (1, 80, 11, ρ) _ _ _ _ from ?_
  refine r_putrF (r := 10) (ty := .array .int) dX3_init_9 fl_X3_9 rfl (rfl) (fun C T N h => (congrArg (fun q => q.1) (Option.some.inj h)).symm) rfl (Nat.le_of_ble_eq_true rfl) (by decide +kernel) (fun _ => rfl) (fun _ => rfl) ?_
  refine show RW _ (1, 80, 11, (upR ρ 9 1 (some 10))) _ _ _ _ from ?_
  refine r_aloadk_n dX3_init_12 rfl ?_
  refine r_bipush dX3_init_13 ?_
  refine r_newz (N := 80) dX3_init_15 ac_boolean rfl (fun j => hz 11 (Nat.le_of_ble_eq_true rfl) j) (show 1 + 1 ≤ 2 by decide) (show 80 + 80 ≤ 160 by decide) ?_
  refine show RW _ (2, 160, 12, (upR ρ 9 1 (some 10))) _ _ _ _ from ?_
  refine r_putrF (r := 11) (ty := .array .boolean) dX3_init_17 fl_X3_15 rfl (rfl) (fun C T N h => (congrArg (fun q => q.1) (Option.some.inj h)).symm) rfl (Nat.le_of_ble_eq_true rfl) (by decide +kernel) (fun _ => rfl) (fun _ => rfl) ?_
  refine show RW _ (2, 160, 12, (upR (upR ρ 9 1 (some 10)) 9 2 (some 11))) _ _ _ _ from ?_
  refine r_aloadk_n dX3_init_20 rfl ?_
  refine r_aloadk_n dX3_init_21 rfl ?_
  refine r_putrF (r := 2) (ty := .object "AwardDesk$Ground") dX3_init_22 fl_X3_19 rfl (rfl) (fun C T N h => (congrArg (fun q => q.1) (Option.some.inj h)).symm) rfl (Nat.le_of_ble_eq_true rfl) (by decide +kernel) (fun _ => rfl) (fun _ => rfl) ?_
  refine show RW _ (2, 160, 12, (upR (upR (upR ρ 9 1 (some 10)) 9 2 (some 11)) 9 0 (some 2))) _ _ _ _ from ?_
  exact r_vret dX3_init_25 rfl ⟨rfl, rfl⟩
set_option maxHeartbeats 4000000 in
theorem i_X4 (hz : ∀ k, 20 ≤ k → ∀ j, σ k j = 0) : Ct l G 1 mX4_init 9 236 20 ρ σ [rf G 19, rf G 2] 29 (rX4 ρ) (fun σ' v => v = none ∧ σ' = σ) := by
  refine Ct.of (L0 := [rf G 19, rf G 2]) (by decide +kernel) (Nat.le_of_ble_eq_true rfl) rfl ?_
  refine r_aloadk_n dX4_init_0 rfl ?_
  refine r_objInit dX4_init_1 ml_X4_3 oi_in oi_co (Nat.le_of_ble_eq_true rfl) (Nat.le_of_ble_eq_true rfl) ?_
  refine r_aloadk_n dX4_init_4 rfl ?_
  refine r_bipush dX4_init_5 ?_
  refine r_newi (N := 8) dX4_init_7 ac_int rfl (fun j => hz 20 (Nat.le_of_ble_eq_true rfl) j) (show 0 + 1 ≤ 9 by decide) (show 0 + 8 ≤ 236 by decide) ?_
  refine show RW _ (1, 8, 21, ρ) _ _ _ _ from ?_
  refine r_putrF (r := 20) (ty := .array .int) dX4_init_9 fl_X4_9 rfl (rfl) (fun C T N h => (congrArg (fun q => q.1) (Option.some.inj h)).symm) rfl (Nat.le_of_ble_eq_true rfl) (by decide +kernel) (fun _ => rfl) (fun _ => rfl) ?_
  refine show RW _ (1, 8, 21, (upR ρ 19 4 (some 20))) _ _ _ _ from ?_
  refine r_aloadk_n dX4_init_12 rfl ?_
  refine r_bipush dX4_init_13 ?_
  refine r_newi (N := 8) dX4_init_15 ac_int rfl (fun j => hz 21 (Nat.le_of_ble_eq_true rfl) j) (show 1 + 1 ≤ 9 by decide) (show 8 + 8 ≤ 236 by decide) ?_
  refine show RW _ (2, 16, 22, (upR ρ 19 4 (some 20))) _ _ _ _ from ?_
  refine r_putrF (r := 21) (ty := .array .int) dX4_init_17 fl_X4_15 rfl (rfl) (fun C T N h => (congrArg (fun q => q.1) (Option.some.inj h)).symm) rfl (Nat.le_of_ble_eq_true rfl) (by decide +kernel) (fun _ => rfl) (fun _ => rfl) ?_
  refine show RW _ (2, 16, 22, (upR (upR ρ 19 4 (some 20)) 19 5 (some 21))) _ _ _ _ from ?_
  refine r_aloadk_n dX4_init_20 rfl ?_
  refine r_bipush dX4_init_21 ?_
  refine r_newi (N := 40) dX4_init_23 ac_int rfl (fun j => hz 22 (Nat.le_of_ble_eq_true rfl) j) (show 2 + 1 ≤ 9 by decide) (show 16 + 40 ≤ 236 by decide) ?_
  refine show RW _ (3, 56, 23, (upR (upR ρ 19 4 (some 20)) 19 5 (some 21))) _ _ _ _ from ?_
  refine r_putrF (r := 22) (ty := .array .int) dX4_init_25 fl_X4_18 rfl (rfl) (fun C T N h => (congrArg (fun q => q.1) (Option.some.inj h)).symm) rfl (Nat.le_of_ble_eq_true rfl) (by decide +kernel) (fun _ => rfl) (fun _ => rfl) ?_
  refine show RW _ (3, 56, 23, (upR (upR (upR ρ 19 4 (some 20)) 19 5 (some 21)) 19 6 (some 22))) _ _ _ _ from ?_
  refine r_aloadk_n dX4_init_28 rfl ?_
  refine r_bipush dX4_init_29 ?_
  refine r_newi (N := 40) dX4_init_31 ac_int rfl (fun j => hz 23 (Nat.le_of_ble_eq_true rfl) j) (show 3 + 1 ≤ 9 by decide) (show 56 + 40 ≤ 236 by decide) ?_
  refine show RW _ (4, 96, 24, (upR (upR (upR ρ 19 4 (some 20)) 19 5 (some 21)) 19 6 (some 22))) _ _ _ _ from ?_
  refine r_putrF (r := 23) (ty := .array .int) dX4_init_33 fl_X4_21 rfl (rfl) (fun C T N h => (congrArg (fun q => q.1) (Option.some.inj h)).symm) rfl (Nat.le_of_ble_eq_true rfl) (by decide +kernel) (fun _ => rfl) (fun _ => rfl) ?_
  refine show RW _ (4, 96, 24, (upR (upR (upR (upR ρ 19 4 (some 20)) 19 5 (some 21)) 19 6 (some 22)) 19 7 (some 23))) _ _ _ _ from ?_
  refine r_aloadk_n dX4_init_36 rfl ?_
  refine r_bipush dX4_init_37 ?_
  refine r_newi (N := 40) dX4_init_39 ac_int rfl (fun j => hz 24 (Nat.le_of_ble_eq_true rfl) j) (show 4 + 1 ≤ 9 by decide) (show 96 + 40 ≤ 236 by decide) ?_
  refine show RW _ (5, 136, 25, (upR (upR (upR (upR ρ 19 4 (some 20)) 19 5 (some 21)) 19 6 (some 22)) 19 7 (some 23))) _ _ _ _ from ?_
  refine r_putrF (r := 24) (ty := .array .int) dX4_init_41 fl_X4_24 rfl (rfl) (fun C T N h => (congrArg (fun q => q.1) (Option.some.inj h)).symm) rfl (Nat.le_of_ble_eq_true rfl) (by decide +kernel) (fun _ => rfl) (fun _ => rfl) ?_
  refine show RW _ (5, 136, 25, (upR (upR (upR (upR (upR ρ 19 4 (some 20)) 19 5 (some 21)) 19 6 (some 22)) 19 7 (some 23)) 19 8 (some 24))) _ _ _ _ from ?_
  refine r_aloadk_n dX4_init_44 rfl ?_
  refine r_bipush dX4_init_45 ?_
  refine r_newi (N := 40) dX4_init_47 ac_int rfl (fun j => hz 25 (Nat.le_of_ble_eq_true rfl) j) (show 5 + 1 ≤ 9 by decide) (show 136 + 40 ≤ 236 by decide) ?_
  refine show RW _ (6, 176, 26, (upR (upR (upR (upR (upR ρ 19 4 (some 20)) 19 5 (some 21)) 19 6 (some 22)) 19 7 (some 23)) 19 8 (some 24))) _ _ _ _ from ?_
  refine r_putrF (r := 25) (ty := .array .int) dX4_init_49 fl_X4_27 rfl (rfl) (fun C T N h => (congrArg (fun q => q.1) (Option.some.inj h)).symm) rfl (Nat.le_of_ble_eq_true rfl) (by decide +kernel) (fun _ => rfl) (fun _ => rfl) ?_
  refine show RW _ (6, 176, 26, (upR (upR (upR (upR (upR (upR ρ 19 4 (some 20)) 19 5 (some 21)) 19 6 (some 22)) 19 7 (some 23)) 19 8 (some 24)) 19 9 (some 25))) _ _ _ _ from ?_
  refine r_aloadk_n dX4_init_52 rfl ?_
  refine r_bipush dX4_init_53 ?_
  refine r_newi (N := 20) dX4_init_55 ac_int rfl (fun j => hz 26 (Nat.le_of_ble_eq_true rfl) j) (show 6 + 1 ≤ 9 by decide) (show 176 + 20 ≤ 236 by decide) ?_
  refine show RW _ (7, 196, 27, (upR (upR (upR (upR (upR (upR ρ 19 4 (some 20)) 19 5 (some 21)) 19 6 (some 22)) 19 7 (some 23)) 19 8 (some 24)) 19 9 (some 25))) _ _ _ _ from ?_
  refine r_putrF (r := 26) (ty := .array .int) dX4_init_57 fl_X4_30 rfl (rfl) (fun C T N h => (congrArg (fun q => q.1) (Option.some.inj h)).symm) rfl (Nat.le_of_ble_eq_true rfl) (by decide +kernel) (fun _ => rfl) (fun _ => rfl) ?_
  refine show RW _ (7, 196, 27, (upR (upR (upR (upR (upR (upR (upR ρ 19 4 (some 20)) 19 5 (some 21)) 19 6 (some 22)) 19 7 (some 23)) 19 8 (some 24)) 19 9 (some 25)) 19 10 (some 26))) _ _ _ _ from ?_
  refine r_aloadk_n dX4_init_60 rfl ?_
  refine r_bipush dX4_init_61 ?_
  refine r_newi (N := 20) dX4_init_63 ac_int rfl (fun j => hz 27 (Nat.le_of_ble_eq_true rfl) j) (show 7 + 1 ≤ 9 by decide) (show 196 + 20 ≤ 236 by decide) ?_
  refine show RW _ (8, 216, 28, (upR (upR (upR (upR (upR (upR (upR ρ 19 4 (some 20)) 19 5 (some 21)) 19 6 (some 22)) 19 7 (some 23)) 19 8 (some 24)) 19 9 (some 25)) 19 10 (some 26))) _ _ _ _ from ?_
  refine r_putrF (r := 27) (ty := .array .int) dX4_init_65 fl_X4_33 rfl (rfl) (fun C T N h => (congrArg (fun q => q.1) (Option.some.inj h)).symm) rfl (Nat.le_of_ble_eq_true rfl) (by decide +kernel) (fun _ => rfl) (fun _ => rfl) ?_
  refine show RW _ (8, 216, 28, (upR (upR (upR (upR (upR (upR (upR (upR ρ 19 4 (some 20)) 19 5 (some 21)) 19 6 (some 22)) 19 7 (some 23)) 19 8 (some 24)) 19 9 (some 25)) 19 10 (some 26)) 19 11 (some 27))) _ _ _ _ from ?_
  refine r_aloadk_n dX4_init_68 rfl ?_
  refine r_bipush dX4_init_69 ?_
  refine r_newi (N := 20) dX4_init_71 ac_int rfl (fun j => hz 28 (Nat.le_of_ble_eq_true rfl) j) (show 8 + 1 ≤ 9 by decide) (show 216 + 20 ≤ 236 by decide) ?_
  refine show RW _ (9, 236, 29, (upR (upR (upR (upR (upR (upR (upR (upR ρ 19 4 (some 20)) 19 5 (some 21)) 19 6 (some 22)) 19 7 (some 23)) 19 8 (some 24)) 19 9 (some 25)) 19 10 (some 26)) 19 11 (some 27))) _ _ _ _ from ?_
  refine r_putrF (r := 28) (ty := .array .int) dX4_init_73 fl_X4_36 rfl (rfl) (fun C T N h => (congrArg (fun q => q.1) (Option.some.inj h)).symm) rfl (Nat.le_of_ble_eq_true rfl) (by decide +kernel) (fun _ => rfl) (fun _ => rfl) ?_
  refine show RW _ (9, 236, 29, (upR (upR (upR (upR (upR (upR (upR (upR (upR ρ 19 4 (some 20)) 19 5 (some 21)) 19 6 (some 22)) 19 7 (some 23)) 19 8 (some 24)) 19 9 (some 25)) 19 10 (some 26)) 19 11 (some 27)) 19 12 (some 28))) _ _ _ _ from ?_
  refine r_aloadk_n dX4_init_76 rfl ?_
  refine r_aloadk_n dX4_init_77 rfl ?_
  refine r_putrF (r := 2) (ty := .object "AwardDesk$Ground") dX4_init_78 fl_X4_39 rfl (rfl) (fun C T N h => (congrArg (fun q => q.1) (Option.some.inj h)).symm) rfl (Nat.le_of_ble_eq_true rfl) (by decide +kernel) (fun _ => rfl) (fun _ => rfl) ?_
  refine show RW _ (9, 236, 29, (upR (upR (upR (upR (upR (upR (upR (upR (upR (upR ρ 19 4 (some 20)) 19 5 (some 21)) 19 6 (some 22)) 19 7 (some 23)) 19 8 (some 24)) 19 9 (some 25)) 19 10 (some 26)) 19 11 (some 27)) 19 12 (some 28)) 19 0 (some 2))) _ _ _ _ from ?_
  exact r_vret dX4_init_81 rfl ⟨rfl, rfl⟩
set_option maxHeartbeats 4000000 in
theorem i_X6 (hz : ∀ k, 30 ≤ k → ∀ j, σ k j = 0) : Ct l G 1 mX6_init 5 40 30 ρ σ [rf G 29, rf G 2, rf G 19, rf G 1] 35 (rX6 ρ) (fun σ' v => v = none ∧ σ' = σ) := by
  refine Ct.of (L0 := [rf G 29, rf G 2, rf G 19, rf G 1]) (by decide +kernel) (Nat.le_of_ble_eq_true rfl) rfl ?_
  refine r_aloadk_n dX6_init_0 rfl ?_
  refine r_objInit dX6_init_1 ml_X6_3 oi_in oi_co (Nat.le_of_ble_eq_true rfl) (Nat.le_of_ble_eq_true rfl) ?_
  refine r_aloadk_n dX6_init_4 rfl ?_
  refine r_bipush dX6_init_5 ?_
  refine r_newi (N := 8) dX6_init_7 ac_int rfl (fun j => hz 30 (Nat.le_of_ble_eq_true rfl) j) (show 0 + 1 ≤ 5 by decide) (show 0 + 8 ≤ 40 by decide) ?_
  refine show RW _ (1, 8, 31, ρ) _ _ _ _ from ?_
  refine r_putrF (r := 30) (ty := .array .int) dX6_init_9 fl_X6_9 rfl (rfl) (fun C T N h => (congrArg (fun q => q.1) (Option.some.inj h)).symm) rfl (Nat.le_of_ble_eq_true rfl) (by decide +kernel) (fun _ => rfl) (fun _ => rfl) ?_
  refine show RW _ (1, 8, 31, (upR ρ 29 3 (some 30))) _ _ _ _ from ?_
  refine r_aloadk_n dX6_init_12 rfl ?_
  refine r_bipush dX6_init_13 ?_
  refine r_newi (N := 8) dX6_init_15 ac_int rfl (fun j => hz 31 (Nat.le_of_ble_eq_true rfl) j) (show 1 + 1 ≤ 5 by decide) (show 8 + 8 ≤ 40 by decide) ?_
  refine show RW _ (2, 16, 32, (upR ρ 29 3 (some 30))) _ _ _ _ from ?_
  refine r_putrF (r := 31) (ty := .array .int) dX6_init_17 fl_X6_15 rfl (rfl) (fun C T N h => (congrArg (fun q => q.1) (Option.some.inj h)).symm) rfl (Nat.le_of_ble_eq_true rfl) (by decide +kernel) (fun _ => rfl) (fun _ => rfl) ?_
  refine show RW _ (2, 16, 32, (upR (upR ρ 29 3 (some 30)) 29 4 (some 31))) _ _ _ _ from ?_
  refine r_aloadk_n dX6_init_20 rfl ?_
  refine r_bipush dX6_init_21 ?_
  refine r_newi (N := 8) dX6_init_23 ac_int rfl (fun j => hz 32 (Nat.le_of_ble_eq_true rfl) j) (show 2 + 1 ≤ 5 by decide) (show 16 + 8 ≤ 40 by decide) ?_
  refine show RW _ (3, 24, 33, (upR (upR ρ 29 3 (some 30)) 29 4 (some 31))) _ _ _ _ from ?_
  refine r_putrF (r := 32) (ty := .array .int) dX6_init_25 fl_X6_18 rfl (rfl) (fun C T N h => (congrArg (fun q => q.1) (Option.some.inj h)).symm) rfl (Nat.le_of_ble_eq_true rfl) (by decide +kernel) (fun _ => rfl) (fun _ => rfl) ?_
  refine show RW _ (3, 24, 33, (upR (upR (upR ρ 29 3 (some 30)) 29 4 (some 31)) 29 5 (some 32))) _ _ _ _ from ?_
  refine r_aloadk_n dX6_init_28 rfl ?_
  refine r_bipush dX6_init_29 ?_
  refine r_newi (N := 8) dX6_init_31 ac_int rfl (fun j => hz 33 (Nat.le_of_ble_eq_true rfl) j) (show 3 + 1 ≤ 5 by decide) (show 24 + 8 ≤ 40 by decide) ?_
  refine show RW _ (4, 32, 34, (upR (upR (upR ρ 29 3 (some 30)) 29 4 (some 31)) 29 5 (some 32))) _ _ _ _ from ?_
  refine r_putrF (r := 33) (ty := .array .int) dX6_init_33 fl_X6_21 rfl (rfl) (fun C T N h => (congrArg (fun q => q.1) (Option.some.inj h)).symm) rfl (Nat.le_of_ble_eq_true rfl) (by decide +kernel) (fun _ => rfl) (fun _ => rfl) ?_
  refine show RW _ (4, 32, 34, (upR (upR (upR (upR ρ 29 3 (some 30)) 29 4 (some 31)) 29 5 (some 32)) 29 6 (some 33))) _ _ _ _ from ?_
  refine r_aloadk_n dX6_init_36 rfl ?_
  refine r_bipush dX6_init_37 ?_
  refine r_newj (N := 8) dX6_init_39 ac_long rfl (fun j => hz 34 (Nat.le_of_ble_eq_true rfl) j) (show 4 + 1 ≤ 5 by decide) (show 32 + 8 ≤ 40 by decide) ?_
  refine show RW _ (5, 40, 35, (upR (upR (upR (upR ρ 29 3 (some 30)) 29 4 (some 31)) 29 5 (some 32)) 29 6 (some 33))) _ _ _ _ from ?_
  refine r_putrF (r := 34) (ty := .array .long) dX6_init_41 fl_X6_24 rfl (rfl) (fun C T N h => (congrArg (fun q => q.1) (Option.some.inj h)).symm) rfl (Nat.le_of_ble_eq_true rfl) (by decide +kernel) (fun _ => rfl) (fun _ => rfl) ?_
  refine show RW _ (5, 40, 35, (upR (upR (upR (upR (upR ρ 29 3 (some 30)) 29 4 (some 31)) 29 5 (some 32)) 29 6 (some 33)) 29 7 (some 34))) _ _ _ _ from ?_
  refine r_aloadk_n dX6_init_44 rfl ?_
  refine r_aloadk_n dX6_init_45 rfl ?_
  refine r_putrF (r := 2) (ty := .object "AwardDesk$Ground") dX6_init_46 fl_X6_28 rfl (rfl) (fun C T N h => (congrArg (fun q => q.1) (Option.some.inj h)).symm) rfl (Nat.le_of_ble_eq_true rfl) (by decide +kernel) (fun _ => rfl) (fun _ => rfl) ?_
  refine show RW _ (5, 40, 35, (upR (upR (upR (upR (upR (upR ρ 29 3 (some 30)) 29 4 (some 31)) 29 5 (some 32)) 29 6 (some 33)) 29 7 (some 34)) 29 0 (some 2))) _ _ _ _ from ?_
  refine r_aloadk_n dX6_init_49 rfl ?_
  refine r_aloadk_n dX6_init_50 rfl ?_
  refine r_putrF (r := 19) (ty := .object "AwardDesk$Roll") dX6_init_51 fl_X6_32 rfl (rfl) (fun C T N h => (congrArg (fun q => q.1) (Option.some.inj h)).symm) rfl (Nat.le_of_ble_eq_true rfl) (by decide +kernel) (fun _ => rfl) (fun _ => rfl) ?_
  refine show RW _ (5, 40, 35, (upR (upR (upR (upR (upR (upR (upR ρ 29 3 (some 30)) 29 4 (some 31)) 29 5 (some 32)) 29 6 (some 33)) 29 7 (some 34)) 29 0 (some 2)) 29 1 (some 19))) _ _ _ _ from ?_
  refine r_aloadk_n dX6_init_54 rfl ?_
  refine r_aloadk_n dX6_init_55 rfl ?_
  refine r_putrF (r := 1) (ty := .array .int) dX6_init_56 fl_X6_36 rfl (rfl) (fun C T N h => (congrArg (fun q => q.1) (Option.some.inj h)).symm) rfl (Nat.le_of_ble_eq_true rfl) (by decide +kernel) (fun _ => rfl) (fun _ => rfl) ?_
  refine show RW _ (5, 40, 35, (upR (upR (upR (upR (upR (upR (upR (upR ρ 29 3 (some 30)) 29 4 (some 31)) 29 5 (some 32)) 29 6 (some 33)) 29 7 (some 34)) 29 0 (some 2)) 29 1 (some 19)) 29 2 (some 1))) _ _ _ _ from ?_
  exact r_vret dX6_init_59 rfl ⟨rfl, rfl⟩
set_option maxHeartbeats 4000000 in
theorem i_X7 (hr : ∀ j, j < 3 → ρ 13 j = some (13 + 1 + j)) (hz : ∀ k, 13 ≤ k → ∀ j, σ k j = 0) : Ct l G 1 mX7_init 6 249 13 ρ σ [rf G 12] 19 (rX7 ρ) (fun σ' v => v = none ∧ σ' = up (up (up σ 18 0 (-1)) 18 1 (-1)) 18 2 (-1)) := by
  refine Ct.of (L0 := [rf G 12]) (by decide +kernel) (Nat.le_of_ble_eq_true rfl) rfl ?_
  refine r_aloadk_n dX7_init_0 rfl ?_
  refine r_objInit dX7_init_1 ml_X7_3 oi_in oi_co (Nat.le_of_ble_eq_true rfl) (Nat.le_of_ble_eq_true rfl) ?_
  refine r_aloadk_n dX7_init_4 rfl ?_
  refine r_iconst dX7_init_5 ?_
  refine r_bipush dX7_init_6 ?_
  refine r_mna (N := 3) (M := 80) dX7_init_8 cl_X7_9 ac_int rfl (show ∀ j, j < 3 → shp (13 + 1 + j) = (100, 80) by decide) (by decide) (show ∀ j, j < 3 → ρ 13 j = some (13 + 1 + j) from hr) (show ∀ i j, i < 3 → σ (13 + 1 + i) j = 0 from fun i j hi => hz _ (by omega) j) (show 0 + (1 + 3) ≤ 6 by decide) (show 0 + (3 + 3 * 80) ≤ 249 by decide) ?_
  refine RWcast (show _ = (4, 243, 17, ρ) from congrArg (fun x => (4, x, 17, ρ)) (show 0 + 3 + 3 * 80 = 243 by decide)) ?_
  refine r_putrF (r := 13) (ty := .array (.array .int)) dX7_init_12 fl_X7_11 rfl (rfl) (fun C T N h => (congrArg (fun q => q.1) (Option.some.inj h)).symm) rfl (Nat.le_of_ble_eq_true rfl) (by decide +kernel) (fun _ => rfl) (fun _ => rfl) ?_
  refine show RW _ (4, 243, 17, (upR ρ 12 0 (some 13))) _ _ _ _ from ?_
  refine r_aloadk_n dX7_init_15 rfl ?_
  refine r_iconst dX7_init_16 ?_
  refine r_newi (N := 3) dX7_init_17 ac_int rfl (fun j => hz 17 (Nat.le_of_ble_eq_true rfl) j) (show 4 + 1 ≤ 6 by decide) (show 243 + 3 ≤ 249 by decide) ?_
  refine show RW _ (5, 246, 18, (upR ρ 12 0 (some 13))) _ _ _ _ from ?_
  refine r_putrF (r := 17) (ty := .array .int) dX7_init_19 fl_X7_16 rfl (rfl) (fun C T N h => (congrArg (fun q => q.1) (Option.some.inj h)).symm) rfl (Nat.le_of_ble_eq_true rfl) (by decide +kernel) (fun _ => rfl) (fun _ => rfl) ?_
  refine show RW _ (5, 246, 18, (upR (upR ρ 12 0 (some 13)) 12 1 (some 17))) _ _ _ _ from ?_
  refine r_aloadk_n dX7_init_22 rfl ?_
  refine r_iconst dX7_init_23 ?_
  refine r_newi (N := 3) dX7_init_24 ac_int rfl (fun j => hz 18 (Nat.le_of_ble_eq_true rfl) j) (show 5 + 1 ≤ 6 by decide) (show 246 + 3 ≤ 249 by decide) ?_
  refine show RW _ (6, 249, 19, (upR (upR ρ 12 0 (some 13)) 12 1 (some 17))) _ _ _ _ from ?_
  refine r_dup dX7_init_26 rfl ?_
  refine r_iconst dX7_init_27 ?_
  refine r_iconst dX7_init_28 ?_
  refine r_iast dX7_init_29 rfl (Nat.le_of_ble_eq_true rfl) (c := 0) rfl (by decide) ?_
  refine r_dup dX7_init_30 rfl ?_
  refine r_iconst dX7_init_31 ?_
  refine r_iconst dX7_init_32 ?_
  refine r_iast dX7_init_33 rfl (Nat.le_of_ble_eq_true rfl) (c := 1) rfl (by decide) ?_
  refine r_dup dX7_init_34 rfl ?_
  refine r_iconst dX7_init_35 ?_
  refine r_iconst dX7_init_36 ?_
  refine r_iast dX7_init_37 rfl (Nat.le_of_ble_eq_true rfl) (c := 2) rfl (by decide) ?_
  refine r_putrF (r := 18) (ty := .array .int) dX7_init_38 fl_X7_20 rfl (rfl) (fun C T N h => (congrArg (fun q => q.1) (Option.some.inj h)).symm) rfl (Nat.le_of_ble_eq_true rfl) (by decide +kernel) (fun _ => rfl) (fun _ => rfl) ?_
  refine show RW _ (6, 249, 19, (upR (upR (upR ρ 12 0 (some 13)) 12 1 (some 17)) 12 2 (some 18))) _ _ _ _ from ?_
  exact r_vret dX7_init_41 rfl ⟨rfl, rfl⟩
theorem sr_2 : ∀ j, j < 60 → sref 2 j = none ∨ (j = 4 ∧ sref 2 j = some 3) ∨ (j = 5 ∧ sref 2 j = some 7) ∨ (j = 6 ∧ sref 2 j = some 8) := by decide +kernel
theorem sr_3 : ∀ j, j < 60 → sref 3 j = none ∨ (j < 3 ∧ sref 3 j = some (3 + 1 + j)) := by decide +kernel
theorem sr_4 : ∀ j, j < 60 → sref 4 j = none ∧ sref 5 j = none ∧ sref 6 j = none ∧ sref 7 j = none ∧ sref 8 j = none := by decide +kernel
theorem sr_len : ∀ k, k < 73 → (srT.getD k []).length ≤ 60 := by decide +kernel
theorem getD_out {α : Type} {L : List α} {i : Nat} {d : α} (h : L.length ≤ i) : L.getD i d = d := by
  rw [List.getD_eq_getElem?_getD, List.getElem?_eq_none h]; rfl
theorem sref_hi {k j r : Nat} (h : sref k j = some r) : k < 73 ∧ j < 60 := by
  have hk : k < 73 := Classical.byContradiction (fun q => by
    unfold sref at h
    rw [getD_out (L := srT) (i := k) (by have : srT.length ≤ 73 := by decide
                                         omega), getD_out (Nat.zero_le _)] at h
    cases h)
  refine ⟨hk, Classical.byContradiction (fun q => ?_)⟩
  have h2 := sr_len k hk
  unfold sref at h
  rw [getD_out (by omega)] at h
  cases h
set_option maxHeartbeats 4000000 in
theorem i_X1 (hr : ∀ j, j < 3 → ρ 3 j = some (3 + 1 + j)) (hz : ∀ k, 3 ≤ k → ∀ j, σ k j = 0) (hR : Rg σ) : Ct l G 2 mX1_init 6 403 3 ρ σ [rf G 2] 9 (rX1 ρ) (fun σ' v => v = none ∧ ∃ c7 c8 : Nat → Int, (∀ j, R32 (c7 j)) ∧ (∀ j, R32 (c8 j)) ∧ (∀ c, c < 6 * 5 → c7 c = (c % 6 : Nat) ∧ c8 c = (c / 6 : Nat)) ∧ σ' = landS σ 6 5 c7 c8) := by
  have kr : CtV l G 1 mX1_renew 9 (rX1 ρ) σ [rf G 2, iv (6 : Nat), iv (5 : Nat)] (fun σ' => ∃ c7 c8 : Nat → Int, (∀ j, R32 (c7 j)) ∧ (∀ j, R32 (c8 j)) ∧ (∀ c, c < 6 * 5 → c7 c = (c % 6 : Nat) ∧ c8 c = (c / 6 : Nat)) ∧ σ' = landS σ 6 5 c7 c8) := c_renew (n := 9) (ρ := rX1 ρ) (fun k j r h hk => by
    have hj := (sref_hi h).2
    have q4 := sr_4 j hj
    rcases (show k = 2 ∨ k = 3 ∨ k = 4 ∨ k = 5 ∨ k = 6 ∨ k = 7 ∨ k = 8 by omega) with rfl | rfl | rfl | rfl | rfl | rfl | rfl
    · rcases sr_2 j hj with q | ⟨rfl, q⟩ | ⟨rfl, q⟩ | ⟨rfl, q⟩
      · rw [h] at q; cases q
      · rw [h] at q; rw [q]; rfl
      · rw [h] at q; rw [q]; rfl
      · rw [h] at q; rw [q]; rfl
    · rcases sr_3 j hj with q | ⟨q1, q2⟩
      · rw [h] at q; cases q
      · rw [h] at q2
        rw [q2]
        exact hr j q1
    · rw [h] at q4; cases q4.1
    · rw [h] at q4; cases q4.2.1
    · rw [h] at q4; cases q4.2.2.1
    · rw [h] at q4; cases q4.2.2.2.1
    · rw [h] at q4; cases q4.2.2.2.2) (Nat.le_refl 9) hR 6 5 (by omega) (by omega)
  refine Ct.of (L0 := [rf G 2]) (by decide +kernel) (Nat.le_of_ble_eq_true rfl) rfl ?_
  refine r_aloadk_n dX1_init_0 rfl ?_
  refine r_objInit dX1_init_1 ml_X1_3 oi_in oi_co (Nat.le_of_ble_eq_true rfl) (Nat.le_of_ble_eq_true rfl) ?_
  refine r_aloadk_n dX1_init_4 rfl ?_
  refine r_iconst dX1_init_5 ?_
  refine r_bipush dX1_init_6 ?_
  refine r_mna (N := 3) (M := 80) dX1_init_8 cl_X1_9 ac_int rfl (show ∀ j, j < 3 → shp (3 + 1 + j) = (100, 80) by decide) (by decide) (show ∀ j, j < 3 → ρ 3 j = some (3 + 1 + j) from hr) (show ∀ i j, i < 3 → σ (3 + 1 + i) j = 0 from fun i j hi => hz _ (by omega) j) (show 0 + (1 + 3) ≤ 6 by decide) (show 0 + (3 + 3 * 80) ≤ 403 by decide) ?_
  refine RWcast (show _ = (4, 243, 7, ρ) from congrArg (fun x => (4, x, 7, ρ)) (show 0 + 3 + 3 * 80 = 243 by decide)) ?_
  refine r_putrF (r := 3) (ty := .array (.array .int)) dX1_init_12 fl_X1_11 rfl (rfl) (fun C T N h => (congrArg (fun q => q.1) (Option.some.inj h)).symm) rfl (Nat.le_of_ble_eq_true rfl) (by decide +kernel) (fun _ => rfl) (fun _ => rfl) ?_
  refine show RW _ (4, 243, 7, (upR ρ 2 4 (some 3))) _ _ _ _ from ?_
  refine r_aloadk_n dX1_init_15 rfl ?_
  refine r_bipush dX1_init_16 ?_
  refine r_newi (N := 80) dX1_init_18 ac_int rfl (fun j => hz 7 (Nat.le_of_ble_eq_true rfl) j) (show 4 + 1 ≤ 6 by decide) (show 243 + 80 ≤ 403 by decide) ?_
  refine show RW _ (5, 323, 8, (upR ρ 2 4 (some 3))) _ _ _ _ from ?_
  refine r_putrF (r := 7) (ty := .array .int) dX1_init_20 fl_X1_16 rfl (rfl) (fun C T N h => (congrArg (fun q => q.1) (Option.some.inj h)).symm) rfl (Nat.le_of_ble_eq_true rfl) (by decide +kernel) (fun _ => rfl) (fun _ => rfl) ?_
  refine show RW _ (5, 323, 8, (upR (upR ρ 2 4 (some 3)) 2 5 (some 7))) _ _ _ _ from ?_
  refine r_aloadk_n dX1_init_23 rfl ?_
  refine r_bipush dX1_init_24 ?_
  refine r_newi (N := 80) dX1_init_26 ac_int rfl (fun j => hz 8 (Nat.le_of_ble_eq_true rfl) j) (show 5 + 1 ≤ 6 by decide) (show 323 + 80 ≤ 403 by decide) ?_
  refine show RW _ (6, 403, 9, (upR (upR ρ 2 4 (some 3)) 2 5 (some 7))) _ _ _ _ from ?_
  refine r_putrF (r := 8) (ty := .array .int) dX1_init_28 fl_X1_20 rfl (rfl) (fun C T N h => (congrArg (fun q => q.1) (Option.some.inj h)).symm) rfl (Nat.le_of_ble_eq_true rfl) (by decide +kernel) (fun _ => rfl) (fun _ => rfl) ?_
  refine show RW _ (6, 403, 9, (upR (upR (upR ρ 2 4 (some 3)) 2 5 (some 7)) 2 6 (some 8))) _ _ _ _ from ?_
  refine r_aloadk_n dX1_init_31 rfl ?_
  refine r_bipush dX1_init_32 ?_
  refine r_iconst dX1_init_34 ?_
  refine q_callVv dX1_init_35 (kr) ml_X1_23 okX1_renew rfl rfl (Nat.le_of_ble_eq_true rfl) rfl rfl (Nat.le_of_ble_eq_true rfl) (roomOK.of (by decide)) ⟨(Nat.le_of_ble_eq_true rfl), (Nat.le_of_ble_eq_true rfl)⟩ (fun σ1 hq1 => ?_)
  exact r_vret dX1_init_38 rfl ⟨rfl, hq1⟩
set_option maxHeartbeats 4000000 in
theorem i_X2 (hz : ∀ k, 36 ≤ k → ∀ j, σ k j = 0) : Ct l G 2 mX2_init 2 16 36 ρ σ [rf G 35, rf G 2, rf G 19] 38 (rX2 ρ) (fun σ' v => v = none ∧ σ' = sr (sr σ 36 (filW (σ 36) 8 (-1))) 37 (filW (σ 37) 8 (-1))) := by
  have kc := c_plotsClear (l := l) (G := G) (n := 38) (ρ := rX2 ρ) (σ := σ) (fun j r h hj => by
    have hj2 := (sref_hi h).2
    rcases (by decide +kernel : ∀ j, j < 60 → 2 ≤ j → sref 35 j = none ∨ (j = 2 ∧ sref 35 j = some 36) ∨ (j = 3 ∧ sref 35 j = some 37)) j hj2 hj with q | ⟨rfl, q⟩ | ⟨rfl, q⟩
    · rw [h] at q; cases q
    · rw [h] at q; rw [q]; rfl
    · rw [h] at q; rw [q]; rfl) (Nat.le_refl 38)
  refine Ct.of (L0 := [rf G 35, rf G 2, rf G 19]) (by decide +kernel) (Nat.le_of_ble_eq_true rfl) rfl ?_
  refine r_aloadk_n dX2_init_0 rfl ?_
  refine r_objInit dX2_init_1 ml_X2_3 oi_in oi_co (Nat.le_of_ble_eq_true rfl) (Nat.le_of_ble_eq_true rfl) ?_
  refine r_aloadk_n dX2_init_4 rfl ?_
  refine r_bipush dX2_init_5 ?_
  refine r_newi (N := 8) dX2_init_7 ac_int rfl (fun j => hz 36 (Nat.le_of_ble_eq_true rfl) j) (show 0 + 1 ≤ 2 by decide) (show 0 + 8 ≤ 16 by decide) ?_
  refine show RW _ (1, 8, 37, ρ) _ _ _ _ from ?_
  refine r_putrF (r := 36) (ty := .array .int) dX2_init_9 fl_X2_9 rfl (rfl) (fun C T N h => (congrArg (fun q => q.1) (Option.some.inj h)).symm) rfl (Nat.le_of_ble_eq_true rfl) (by decide +kernel) (fun _ => rfl) (fun _ => rfl) ?_
  refine show RW _ (1, 8, 37, (upR ρ 35 2 (some 36))) _ _ _ _ from ?_
  refine r_aloadk_n dX2_init_12 rfl ?_
  refine r_bipush dX2_init_13 ?_
  refine r_newi (N := 8) dX2_init_15 ac_int rfl (fun j => hz 37 (Nat.le_of_ble_eq_true rfl) j) (show 1 + 1 ≤ 2 by decide) (show 8 + 8 ≤ 16 by decide) ?_
  refine show RW _ (2, 16, 38, (upR ρ 35 2 (some 36))) _ _ _ _ from ?_
  refine r_putrF (r := 37) (ty := .array .int) dX2_init_17 fl_X2_15 rfl (rfl) (fun C T N h => (congrArg (fun q => q.1) (Option.some.inj h)).symm) rfl (Nat.le_of_ble_eq_true rfl) (by decide +kernel) (fun _ => rfl) (fun _ => rfl) ?_
  refine show RW _ (2, 16, 38, (upR (upR ρ 35 2 (some 36)) 35 3 (some 37))) _ _ _ _ from ?_
  refine r_aloadk_n dX2_init_20 rfl ?_
  refine r_aloadk_n dX2_init_21 rfl ?_
  refine r_putrF (r := 2) (ty := .object "AwardDesk$Ground") dX2_init_22 fl_X2_18 rfl (rfl) (fun C T N h => (congrArg (fun q => q.1) (Option.some.inj h)).symm) rfl (Nat.le_of_ble_eq_true rfl) (by decide +kernel) (fun _ => rfl) (fun _ => rfl) ?_
  refine show RW _ (2, 16, 38, (upR (upR (upR ρ 35 2 (some 36)) 35 3 (some 37)) 35 0 (some 2))) _ _ _ _ from ?_
  refine r_aloadk_n dX2_init_25 rfl ?_
  refine r_aloadk_n dX2_init_26 rfl ?_
  refine r_putrF (r := 19) (ty := .object "AwardDesk$Roll") dX2_init_27 fl_X2_22 rfl (rfl) (fun C T N h => (congrArg (fun q => q.1) (Option.some.inj h)).symm) rfl (Nat.le_of_ble_eq_true rfl) (by decide +kernel) (fun _ => rfl) (fun _ => rfl) ?_
  refine show RW _ (2, 16, 38, (upR (upR (upR (upR ρ 35 2 (some 36)) 35 3 (some 37)) 35 0 (some 2)) 35 1 (some 19))) _ _ _ _ from ?_
  refine r_aloadk_n dX2_init_30 rfl ?_
  refine q_callVv dX2_init_31 (kc) ml_X2_26 okX2_clear rfl rfl (Nat.le_of_ble_eq_true rfl) rfl rfl (Nat.le_of_ble_eq_true rfl) (roomOK.of (by decide)) ⟨(Nat.le_of_ble_eq_true rfl), (Nat.le_of_ble_eq_true rfl)⟩ (fun σ1 hq1 => ?_)
  exact r_vret dX2_init_34 rfl ⟨rfl, hq1⟩
def rX0 (ρ : Rho) : Rho := (upR (upR (upR (upR (upR (upR (upR (upR (upR (upR (upR (upR (upR ρ 73 9 (some 74)) 73 10 (some 75)) 73 11 (some 76)) 73 12 (some 77)) 73 13 (some 78)) 73 14 (some 87)) 73 15 (some 88)) 73 16 (some 89)) 73 17 (some 90)) 73 18 (some 91)) 73 0 (some 2)) 73 1 (some 19)) 73 2 (some 35))
set_option maxHeartbeats 4000000 in
theorem i_X0 (hr : ∀ j, j < 8 → ρ 78 j = some (78 + 1 + j)) (hz : ∀ k, 74 ≤ k → ∀ j, σ k j = 0) : Ct l G 1 mX0_init 18 23808 74 ρ σ [rf G 73, rf G 2, rf G 19, rf G 35] 92 (rX0 ρ) (fun σ' v => v = none ∧ σ' = σ) := by
  refine Ct.of (L0 := [rf G 73, rf G 2, rf G 19, rf G 35]) (by decide +kernel) (Nat.le_of_ble_eq_true rfl) rfl ?_
  refine r_aloadk_n dX0_init_0 rfl ?_
  refine r_objInit dX0_init_1 ml_X0_3 oi_in oi_co (Nat.le_of_ble_eq_true rfl) (Nat.le_of_ble_eq_true rfl) ?_
  refine r_aloadk_n dX0_init_4 rfl ?_
  refine r_sipush dX0_init_5 ?_
  refine r_newi (N := 1980) dX0_init_8 ac_int rfl (fun j => hz 74 (Nat.le_of_ble_eq_true rfl) j) (show 0 + 1 ≤ 18 by decide) (show 0 + 1980 ≤ 23808 by decide) ?_
  refine show RW _ (1, 1980, 75, ρ) _ _ _ _ from ?_
  refine r_putrF (r := 74) (ty := .array .int) dX0_init_10 fl_X0_11 rfl (rfl) (fun C T N h => (congrArg (fun q => q.1) (Option.some.inj h)).symm) rfl (Nat.le_of_ble_eq_true rfl) (by decide +kernel) (fun _ => rfl) (fun _ => rfl) ?_
  refine show RW _ (1, 1980, 75, (upR ρ 73 9 (some 74))) _ _ _ _ from ?_
  refine r_aloadk_n dX0_init_13 rfl ?_
  refine r_sipush dX0_init_14 ?_
  refine r_newi (N := 1980) dX0_init_17 ac_int rfl (fun j => hz 75 (Nat.le_of_ble_eq_true rfl) j) (show 1 + 1 ≤ 18 by decide) (show 1980 + 1980 ≤ 23808 by decide) ?_
  refine show RW _ (2, 3960, 76, (upR ρ 73 9 (some 74))) _ _ _ _ from ?_
  refine r_putrF (r := 75) (ty := .array .int) dX0_init_19 fl_X0_15 rfl (rfl) (fun C T N h => (congrArg (fun q => q.1) (Option.some.inj h)).symm) rfl (Nat.le_of_ble_eq_true rfl) (by decide +kernel) (fun _ => rfl) (fun _ => rfl) ?_
  refine show RW _ (2, 3960, 76, (upR (upR ρ 73 9 (some 74)) 73 10 (some 75))) _ _ _ _ from ?_
  refine r_aloadk_n dX0_init_22 rfl ?_
  refine r_sipush dX0_init_23 ?_
  refine r_newj (N := 1980) dX0_init_26 ac_long rfl (fun j => hz 76 (Nat.le_of_ble_eq_true rfl) j) (show 2 + 1 ≤ 18 by decide) (show 3960 + 1980 ≤ 23808 by decide) ?_
  refine show RW _ (3, 5940, 77, (upR (upR ρ 73 9 (some 74)) 73 10 (some 75))) _ _ _ _ from ?_
  refine r_putrF (r := 76) (ty := .array .long) dX0_init_28 fl_X0_18 rfl (rfl) (fun C T N h => (congrArg (fun q => q.1) (Option.some.inj h)).symm) rfl (Nat.le_of_ble_eq_true rfl) (by decide +kernel) (fun _ => rfl) (fun _ => rfl) ?_
  refine show RW _ (3, 5940, 77, (upR (upR (upR ρ 73 9 (some 74)) 73 10 (some 75)) 73 11 (some 76))) _ _ _ _ from ?_
  refine r_aloadk_n dX0_init_31 rfl ?_
  refine r_sipush dX0_init_32 ?_
  refine r_newj (N := 1980) dX0_init_35 ac_long rfl (fun j => hz 77 (Nat.le_of_ble_eq_true rfl) j) (show 3 + 1 ≤ 18 by decide) (show 5940 + 1980 ≤ 23808 by decide) ?_
  refine show RW _ (4, 7920, 78, (upR (upR (upR ρ 73 9 (some 74)) 73 10 (some 75)) 73 11 (some 76))) _ _ _ _ from ?_
  refine r_putrF (r := 77) (ty := .array .long) dX0_init_37 fl_X0_22 rfl (rfl) (fun C T N h => (congrArg (fun q => q.1) (Option.some.inj h)).symm) rfl (Nat.le_of_ble_eq_true rfl) (by decide +kernel) (fun _ => rfl) (fun _ => rfl) ?_
  refine show RW _ (4, 7920, 78, (upR (upR (upR (upR ρ 73 9 (some 74)) 73 10 (some 75)) 73 11 (some 76)) 73 12 (some 77))) _ _ _ _ from ?_
  refine r_aloadk_n dX0_init_40 rfl ?_
  refine r_bipush dX0_init_41 ?_
  refine r_sipush dX0_init_43 ?_
  refine r_mna (N := 8) (M := 1980) dX0_init_46 cl_X0_25 ac_int rfl (show ∀ j, j < 8 → shp (78 + 1 + j) = (100, 1980) by decide) (by decide) (show ∀ j, j < 8 → (upR (upR (upR (upR ρ 73 9 (some 74)) 73 10 (some 75)) 73 11 (some 76)) 73 12 (some 77)) 78 j = some (78 + 1 + j) from hr) (show ∀ i j, i < 8 → σ (78 + 1 + i) j = 0 from fun i j hi => hz _ (by omega) j) (show 4 + (1 + 8) ≤ 18 by decide) (show 7920 + (8 + 8 * 1980) ≤ 23808 by decide) ?_
  refine RWcast (show _ = (13, 23768, 87, (upR (upR (upR (upR ρ 73 9 (some 74)) 73 10 (some 75)) 73 11 (some 76)) 73 12 (some 77))) from congrArg (fun x => (13, x, 87, (upR (upR (upR (upR ρ 73 9 (some 74)) 73 10 (some 75)) 73 11 (some 76)) 73 12 (some 77)))) (show 7920 + 8 + 8 * 1980 = 23768 by decide)) ?_
  refine r_putrF (r := 78) (ty := .array (.array .int)) dX0_init_50 fl_X0_27 rfl (rfl) (fun C T N h => (congrArg (fun q => q.1) (Option.some.inj h)).symm) rfl (Nat.le_of_ble_eq_true rfl) (by decide +kernel) (fun _ => rfl) (fun _ => rfl) ?_
  refine show RW _ (13, 23768, 87, (upR (upR (upR (upR (upR ρ 73 9 (some 74)) 73 10 (some 75)) 73 11 (some 76)) 73 12 (some 77)) 73 13 (some 78))) _ _ _ _ from ?_
  refine r_aloadk_n dX0_init_53 rfl ?_
  refine r_bipush dX0_init_54 ?_
  refine r_newi (N := 8) dX0_init_56 ac_int rfl (fun j => hz 87 (Nat.le_of_ble_eq_true rfl) j) (show 13 + 1 ≤ 18 by decide) (show 23768 + 8 ≤ 23808 by decide) ?_
  refine show RW _ (14, 23776, 88, (upR (upR (upR (upR (upR ρ 73 9 (some 74)) 73 10 (some 75)) 73 11 (some 76)) 73 12 (some 77)) 73 13 (some 78))) _ _ _ _ from ?_
  refine r_putrF (r := 87) (ty := .array .int) dX0_init_58 fl_X0_30 rfl (rfl) (fun C T N h => (congrArg (fun q => q.1) (Option.some.inj h)).symm) rfl (Nat.le_of_ble_eq_true rfl) (by decide +kernel) (fun _ => rfl) (fun _ => rfl) ?_
  refine show RW _ (14, 23776, 88, (upR (upR (upR (upR (upR (upR ρ 73 9 (some 74)) 73 10 (some 75)) 73 11 (some 76)) 73 12 (some 77)) 73 13 (some 78)) 73 14 (some 87))) _ _ _ _ from ?_
  refine r_aloadk_n dX0_init_61 rfl ?_
  refine r_bipush dX0_init_62 ?_
  refine r_newi (N := 8) dX0_init_64 ac_int rfl (fun j => hz 88 (Nat.le_of_ble_eq_true rfl) j) (show 14 + 1 ≤ 18 by decide) (show 23776 + 8 ≤ 23808 by decide) ?_
  refine show RW _ (15, 23784, 89, (upR (upR (upR (upR (upR (upR ρ 73 9 (some 74)) 73 10 (some 75)) 73 11 (some 76)) 73 12 (some 77)) 73 13 (some 78)) 73 14 (some 87))) _ _ _ _ from ?_
  refine r_putrF (r := 88) (ty := .array .int) dX0_init_66 fl_X0_33 rfl (rfl) (fun C T N h => (congrArg (fun q => q.1) (Option.some.inj h)).symm) rfl (Nat.le_of_ble_eq_true rfl) (by decide +kernel) (fun _ => rfl) (fun _ => rfl) ?_
  refine show RW _ (15, 23784, 89, (upR (upR (upR (upR (upR (upR (upR ρ 73 9 (some 74)) 73 10 (some 75)) 73 11 (some 76)) 73 12 (some 77)) 73 13 (some 78)) 73 14 (some 87)) 73 15 (some 88))) _ _ _ _ from ?_
  refine r_aloadk_n dX0_init_69 rfl ?_
  refine r_bipush dX0_init_70 ?_
  refine r_newi (N := 8) dX0_init_72 ac_int rfl (fun j => hz 89 (Nat.le_of_ble_eq_true rfl) j) (show 15 + 1 ≤ 18 by decide) (show 23784 + 8 ≤ 23808 by decide) ?_
  refine show RW _ (16, 23792, 90, (upR (upR (upR (upR (upR (upR (upR ρ 73 9 (some 74)) 73 10 (some 75)) 73 11 (some 76)) 73 12 (some 77)) 73 13 (some 78)) 73 14 (some 87)) 73 15 (some 88))) _ _ _ _ from ?_
  refine r_putrF (r := 89) (ty := .array .int) dX0_init_74 fl_X0_36 rfl (rfl) (fun C T N h => (congrArg (fun q => q.1) (Option.some.inj h)).symm) rfl (Nat.le_of_ble_eq_true rfl) (by decide +kernel) (fun _ => rfl) (fun _ => rfl) ?_
  refine show RW _ (16, 23792, 90, (upR (upR (upR (upR (upR (upR (upR (upR ρ 73 9 (some 74)) 73 10 (some 75)) 73 11 (some 76)) 73 12 (some 77)) 73 13 (some 78)) 73 14 (some 87)) 73 15 (some 88)) 73 16 (some 89))) _ _ _ _ from ?_
  refine r_aloadk_n dX0_init_77 rfl ?_
  refine r_bipush dX0_init_78 ?_
  refine r_newi (N := 8) dX0_init_80 ac_int rfl (fun j => hz 90 (Nat.le_of_ble_eq_true rfl) j) (show 16 + 1 ≤ 18 by decide) (show 23792 + 8 ≤ 23808 by decide) ?_
  refine show RW _ (17, 23800, 91, (upR (upR (upR (upR (upR (upR (upR (upR ρ 73 9 (some 74)) 73 10 (some 75)) 73 11 (some 76)) 73 12 (some 77)) 73 13 (some 78)) 73 14 (some 87)) 73 15 (some 88)) 73 16 (some 89))) _ _ _ _ from ?_
  refine r_putrF (r := 90) (ty := .array .int) dX0_init_82 fl_X0_39 rfl (rfl) (fun C T N h => (congrArg (fun q => q.1) (Option.some.inj h)).symm) rfl (Nat.le_of_ble_eq_true rfl) (by decide +kernel) (fun _ => rfl) (fun _ => rfl) ?_
  refine show RW _ (17, 23800, 91, (upR (upR (upR (upR (upR (upR (upR (upR (upR ρ 73 9 (some 74)) 73 10 (some 75)) 73 11 (some 76)) 73 12 (some 77)) 73 13 (some 78)) 73 14 (some 87)) 73 15 (some 88)) 73 16 (some 89)) 73 17 (some 90))) _ _ _ _ from ?_
  refine r_aloadk_n dX0_init_85 rfl ?_
  refine r_bipush dX0_init_86 ?_
  refine r_newi (N := 8) dX0_init_88 ac_int rfl (fun j => hz 91 (Nat.le_of_ble_eq_true rfl) j) (show 17 + 1 ≤ 18 by decide) (show 23800 + 8 ≤ 23808 by decide) ?_
  refine show RW _ (18, 23808, 92, (upR (upR (upR (upR (upR (upR (upR (upR (upR ρ 73 9 (some 74)) 73 10 (some 75)) 73 11 (some 76)) 73 12 (some 77)) 73 13 (some 78)) 73 14 (some 87)) 73 15 (some 88)) 73 16 (some 89)) 73 17 (some 90))) _ _ _ _ from ?_
  refine r_putrF (r := 91) (ty := .array .int) dX0_init_90 fl_X0_42 rfl (rfl) (fun C T N h => (congrArg (fun q => q.1) (Option.some.inj h)).symm) rfl (Nat.le_of_ble_eq_true rfl) (by decide +kernel) (fun _ => rfl) (fun _ => rfl) ?_
  refine show RW _ (18, 23808, 92, (upR (upR (upR (upR (upR (upR (upR (upR (upR (upR ρ 73 9 (some 74)) 73 10 (some 75)) 73 11 (some 76)) 73 12 (some 77)) 73 13 (some 78)) 73 14 (some 87)) 73 15 (some 88)) 73 16 (some 89)) 73 17 (some 90)) 73 18 (some 91))) _ _ _ _ from ?_
  refine r_aloadk_n dX0_init_93 rfl ?_
  refine r_aloadk_n dX0_init_94 rfl ?_
  refine r_putrF (r := 2) (ty := .object "AwardDesk$Ground") dX0_init_95 fl_X0_45 rfl (rfl) (fun C T N h => (congrArg (fun q => q.1) (Option.some.inj h)).symm) rfl (Nat.le_of_ble_eq_true rfl) (by decide +kernel) (fun _ => rfl) (fun _ => rfl) ?_
  refine show RW _ (18, 23808, 92, (upR (upR (upR (upR (upR (upR (upR (upR (upR (upR (upR ρ 73 9 (some 74)) 73 10 (some 75)) 73 11 (some 76)) 73 12 (some 77)) 73 13 (some 78)) 73 14 (some 87)) 73 15 (some 88)) 73 16 (some 89)) 73 17 (some 90)) 73 18 (some 91)) 73 0 (some 2))) _ _ _ _ from ?_
  refine r_aloadk_n dX0_init_98 rfl ?_
  refine r_aloadk_n dX0_init_99 rfl ?_
  refine r_putrF (r := 19) (ty := .object "AwardDesk$Roll") dX0_init_100 fl_X0_49 rfl (rfl) (fun C T N h => (congrArg (fun q => q.1) (Option.some.inj h)).symm) rfl (Nat.le_of_ble_eq_true rfl) (by decide +kernel) (fun _ => rfl) (fun _ => rfl) ?_
  refine show RW _ (18, 23808, 92, (upR (upR (upR (upR (upR (upR (upR (upR (upR (upR (upR (upR ρ 73 9 (some 74)) 73 10 (some 75)) 73 11 (some 76)) 73 12 (some 77)) 73 13 (some 78)) 73 14 (some 87)) 73 15 (some 88)) 73 16 (some 89)) 73 17 (some 90)) 73 18 (some 91)) 73 0 (some 2)) 73 1 (some 19))) _ _ _ _ from ?_
  refine r_aloadk_n dX0_init_103 rfl ?_
  refine r_aloadk_n dX0_init_104 rfl ?_
  refine r_putrF (r := 35) (ty := .object "AwardDesk$PlotBook") dX0_init_105 fl_X0_53 rfl (rfl) (fun C T N h => (congrArg (fun q => q.1) (Option.some.inj h)).symm) rfl (Nat.le_of_ble_eq_true rfl) (by decide +kernel) (fun _ => rfl) (fun _ => rfl) ?_
  refine show RW _ (18, 23808, 92, (upR (upR (upR (upR (upR (upR (upR (upR (upR (upR (upR (upR (upR ρ 73 9 (some 74)) 73 10 (some 75)) 73 11 (some 76)) 73 12 (some 77)) 73 13 (some 78)) 73 14 (some 87)) 73 15 (some 88)) 73 16 (some 89)) 73 17 (some 90)) 73 18 (some 91)) 73 0 (some 2)) 73 1 (some 19)) 73 2 (some 35))) _ _ _ _ from ?_
  exact r_vret dX0_init_108 rfl ⟨rfl, rfl⟩
end Make
