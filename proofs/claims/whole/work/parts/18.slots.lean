/-- a new object of java/util/ArrayList -/
def sl0_Jx4a65c : Nat → Option (Option Nat) := fun k => match k with
  | 1 => some none
  | _ => none
theorem sl0_Jx4a65c_m : ∀ j k, sl0_Jx4a65c j ≠ some (some k) := by
  intro j k h
  unfold sl0_Jx4a65c at h
  split at h <;> cases h
theorem sl0_Jx4a65c_d : ∀ k, k < 3 → ∀ ad, defaultValue (tyJx4a65c k) = ab_sv ad 0 (sl0_Jx4a65c k) := by
  intro k hk ad
  match k, hk with
  | 0, _ => rfl
  | 1, _ => rfl
  | 2, _ => rfl
  | k + 3, h => exact absurd h (by omega)
/-- a new object of BergPatrol$Berg -/
def sl0_X0 : Nat → Option (Option Nat) := fun k => match k with
  | 0 => some none
  | _ => none
theorem sl0_X0_m : ∀ j k, sl0_X0 j ≠ some (some k) := by
  intro j k h
  unfold sl0_X0 at h
  split at h <;> cases h
theorem sl0_X0_d : ∀ k, k < 5 → ∀ ad, defaultValue (tyX0 k) = ab_sv ad 0 (sl0_X0 k) := by
  intro k hk ad
  match k, hk with
  | 0, _ => rfl
  | 1, _ => rfl
  | 2, _ => rfl
  | 3, _ => rfl
  | 4, _ => rfl
  | k + 5, h => exact absurd h (by omega)
/-- a new object of BergPatrol$Chart -/
def sl0_X1 : Nat → Option (Option Nat) := fun k => match k with
  | 0 => some none
  | 1 => some none
  | 2 => some none
  | _ => none
theorem sl0_X1_m : ∀ j k, sl0_X1 j ≠ some (some k) := by
  intro j k h
  unfold sl0_X1 at h
  split at h <;> cases h
theorem sl0_X1_d : ∀ k, k < 4 → ∀ ad, defaultValue (tyX1 k) = ab_sv ad 0 (sl0_X1 k) := by
  intro k hk ad
  match k, hk with
  | 0, _ => rfl
  | 1, _ => rfl
  | 2, _ => rfl
  | 3, _ => rfl
  | k + 4, h => exact absurd h (by omega)
/-- a new object of BergPatrol$Heights -/
def sl0_X2 : Nat → Option (Option Nat) := fun k => match k with
  | 0 => some none
  | 1 => some none
  | _ => none
theorem sl0_X2_m : ∀ j k, sl0_X2 j ≠ some (some k) := by
  intro j k h
  unfold sl0_X2 at h
  split at h <;> cases h
theorem sl0_X2_d : ∀ k, k < 2 → ∀ ad, defaultValue (tyX2 k) = ab_sv ad 0 (sl0_X2 k) := by
  intro k hk ad
  match k, hk with
  | 0, _ => rfl
  | 1, _ => rfl
  | k + 2, h => exact absurd h (by omega)
/-- a new object of BergPatrol$Hull -/
def sl0_X3 : Nat → Option (Option Nat) := fun k => match k with
  | 0 => some none
  | 1 => some none
  | 2 => some none
  | _ => none
theorem sl0_X3_m : ∀ j k, sl0_X3 j ≠ some (some k) := by
  intro j k h
  unfold sl0_X3 at h
  split at h <;> cases h
theorem sl0_X3_d : ∀ k, k < 3 → ∀ ad, defaultValue (tyX3 k) = ab_sv ad 0 (sl0_X3 k) := by
  intro k hk ad
  match k, hk with
  | 0, _ => rfl
  | 1, _ => rfl
  | 2, _ => rfl
  | k + 3, h => exact absurd h (by omega)
/-- a new object of BergPatrol$Ring -/
def sl0_X4 : Nat → Option (Option Nat) := fun k => match k with
  | 0 => some none
  | 1 => some none
  | _ => none
theorem sl0_X4_m : ∀ j k, sl0_X4 j ≠ some (some k) := by
  intro j k h
  unfold sl0_X4 at h
  split at h <;> cases h
theorem sl0_X4_d : ∀ k, k < 3 → ∀ ad, defaultValue (tyX4 k) = ab_sv ad 0 (sl0_X4 k) := by
  intro k hk ad
  match k, hk with
  | 0, _ => rfl
  | 1, _ => rfl
  | 2, _ => rfl
  | k + 3, h => exact absurd h (by omega)
/-- a new object of BergPatrol$Sea -/
def sl0_X5 : Nat → Option (Option Nat) := fun k => match k with
  | 0 => some none
  | 1 => some none
  | 2 => some none
  | 3 => some none
  | _ => none
theorem sl0_X5_m : ∀ j k, sl0_X5 j ≠ some (some k) := by
  intro j k h
  unfold sl0_X5 at h
  split at h <;> cases h
theorem sl0_X5_d : ∀ k, k < 4 → ∀ ad, defaultValue (tyX5 k) = ab_sv ad 0 (sl0_X5 k) := by
  intro k hk ad
  match k, hk with
  | 0, _ => rfl
  | 1, _ => rfl
  | 2, _ => rfl
  | 3, _ => rfl
  | k + 4, h => exact absurd h (by omega)
/-- a new object of BergPatrol$Tape -/
def sl0_X6 : Nat → Option (Option Nat) := fun k => match k with
  | 0 => some none
  | _ => none
theorem sl0_X6_m : ∀ j k, sl0_X6 j ≠ some (some k) := by
  intro j k h
  unfold sl0_X6 at h
  split at h <;> cases h
theorem sl0_X6_d : ∀ k, k < 2 → ∀ ad, defaultValue (tyX6 k) = ab_sv ad 0 (sl0_X6 k) := by
  intro k hk ad
  match k, hk with
  | 0, _ => rfl
  | 1, _ => rfl
  | k + 2, h => exact absurd h (by omega)
/-- a new object of BergPatrol$Text -/
def sl0_X7 : Nat → Option (Option Nat) := fun k => match k with
  | 0 => some none
  | 1 => some none
  | _ => none
theorem sl0_X7_m : ∀ j k, sl0_X7 j ≠ some (some k) := by
  intro j k h
  unfold sl0_X7 at h
  split at h <;> cases h
theorem sl0_X7_d : ∀ k, k < 3 → ∀ ad, defaultValue (tyX7 k) = ab_sv ad 0 (sl0_X7 k) := by
  intro k hk ad
  match k, hk with
  | 0, _ => rfl
  | 1, _ => rfl
  | 2, _ => rfl
  | k + 3, h => exact absurd h (by omega)
/-- a new object of BergPatrol$Warning -/
def sl0_X8 : Nat → Option (Option Nat) := fun k => match k with
  | 0 => some none
  | 1 => some none
  | 3 => some none
  | _ => none
theorem sl0_X8_m : ∀ j k, sl0_X8 j ≠ some (some k) := by
  intro j k h
  unfold sl0_X8 at h
  split at h <;> cases h
theorem sl0_X8_d : ∀ k, k < 6 → ∀ ad, defaultValue (tyX8 k) = ab_sv ad 0 (sl0_X8 k) := by
  intro k hk ad
  match k, hk with
  | 0, _ => rfl
  | 1, _ => rfl
  | 2, _ => rfl
  | 3, _ => rfl
  | 4, _ => rfl
  | 5, _ => rfl
  | k + 6, h => exact absurd h (by omega)
/-- a new object of BergPatrol -/
def sl0_X9 : Nat → Option (Option Nat) := fun k => match k with
  | 0 => some none
  | 1 => some none
  | 2 => some none
  | 3 => some none
  | 4 => some none
  | 5 => some none
  | 6 => some none
  | 7 => some none
  | 8 => some none
  | 9 => some none
  | _ => none
theorem sl0_X9_m : ∀ j k, sl0_X9 j ≠ some (some k) := by
  intro j k h
  unfold sl0_X9 at h
  split at h <;> cases h
theorem sl0_X9_d : ∀ k, k < 13 → ∀ ad, defaultValue (tyX9 k) = ab_sv ad 0 (sl0_X9 k) := by
  intro k hk ad
  match k, hk with
  | 0, _ => rfl
  | 1, _ => rfl
  | 2, _ => rfl
  | 3, _ => rfl
  | 4, _ => rfl
  | 5, _ => rfl
  | 6, _ => rfl
  | 7, _ => rfl
  | 8, _ => rfl
  | 9, _ => rfl
  | 10, _ => rfl
  | 11, _ => rfl
  | 12, _ => rfl
  | k + 13, h => exact absurd h (by omega)
/-- a new object of BergPatrolModel -/
def sl0_X10 : Nat → Option (Option Nat) := fun k => match k with
  | 1 => some none
  | 2 => some none
  | 3 => some none
  | 4 => some none
  | 6 => some none
  | 7 => some none
  | 8 => some none
  | 9 => some none
  | 10 => some none
  | 13 => some none
  | 14 => some none
  | 15 => some none
  | 16 => some none
  | 17 => some none
  | 19 => some none
  | 20 => some none
  | 21 => some none
  | 22 => some none
  | 23 => some none
  | 25 => some none
  | 27 => some none
  | 33 => some none
  | 34 => some none
  | 35 => some none
  | 36 => some none
  | 37 => some none
  | _ => none
theorem sl0_X10_m : ∀ j k, sl0_X10 j ≠ some (some k) := by
  intro j k h
  unfold sl0_X10 at h
  split at h <;> cases h
theorem sl0_X10_d : ∀ k, k < 38 → ∀ ad, defaultValue (tyX10 k) = ab_sv ad 0 (sl0_X10 k) := by
  intro k hk ad
  match k, hk with
  | 0, _ => rfl
  | 1, _ => rfl
  | 2, _ => rfl
  | 3, _ => rfl
  | 4, _ => rfl
  | 5, _ => rfl
  | 6, _ => rfl
  | 7, _ => rfl
  | 8, _ => rfl
  | 9, _ => rfl
  | 10, _ => rfl
  | 11, _ => rfl
  | 12, _ => rfl
  | 13, _ => rfl
  | 14, _ => rfl
  | 15, _ => rfl
  | 16, _ => rfl
  | 17, _ => rfl
  | 18, _ => rfl
  | 19, _ => rfl
  | 20, _ => rfl
  | 21, _ => rfl
  | 22, _ => rfl
  | 23, _ => rfl
  | 24, _ => rfl
  | 25, _ => rfl
  | 26, _ => rfl
  | 27, _ => rfl
  | 28, _ => rfl
  | 29, _ => rfl
  | 30, _ => rfl
  | 31, _ => rfl
  | 32, _ => rfl
  | 33, _ => rfl
  | 34, _ => rfl
  | 35, _ => rfl
  | 36, _ => rfl
  | 37, _ => rfl
  | k + 38, h => exact absurd h (by omega)
