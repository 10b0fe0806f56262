/-- the slots of a list whose row is e -/
def slL (e : Nat) : Nat → Option (Option Nat) := fun k => match k with
  | 1 => some (some e)
  | _ => none

set_option maxHeartbeats 4000000 in
set_option maxRecDepth 100000 in
theorem t_check1 (l : Launch) (S : ab_St) (F : ab_Fn) (A : ab_An) (i m : Int) (r : 0 ≤ i ∧ i < m) (rm : inR m) : ab_Met l yJ15_checkIndex_7cf53 cJ15_checkIndex_7cf53 2 (some .int) { frames := 1, cells := 0, slots := 0, locals := 22 } 0 0 [aI i, aI m] S F A (fun v S' F' A' => S = S' ∧ F = F' ∧ A = A' ∧ v = some (aI i)) := by
  refine ab_enter (by decide) (by simp [aI, aR, aX, ab_val, Value.category]) (Nat.le_of_ble_eq_true rfl) (fun E C hr => ?_)
  refine j_eq (lv' := [some (aI i), some (aI m)]) ?_
  refine j_iload_n C dJ15_checkIndex_7cf53_0 rfl rfl ?_
  refine j_iload_n C dJ15_checkIndex_7cf53_1 rfl rfl ?_
  refine j_null C dJ15_checkIndex_7cf53_2 ?_
  refine j_callS C (vs := [aI i, aI m, aX .null]) (st := []) cl_J15_105 sc_yJ3_checkIndex_8e157 (fun _ => (t_check3 _ S F A _ _ _ rfl r rm)) rfl ⟨rfl, rfl, by decide, by decide⟩ ⟨by decide, by decide⟩ (fun _ => Nat.le_of_ble_eq_true rfl) (fun v hv => by cases hv) (fun v hv => by simp only [List.mem_cons, List.not_mem_nil, or_false, Option.some.injEq, reduceCtorEq, false_or] at hv; rcases hv with rfl | rfl <;> first | exact trivial) dJ15_checkIndex_7cf53_3 (fun v_3 S_3 F_3 A_3 hP_3 => ?_)
  obtain ⟨rfl, rfl, rfl, rfl⟩ := hP_3
  show ab_J E 2 0 0 S F A 6 [some (aI i), some (aI m)] [aI i]
  exact j_iret C hr (Nat.le_refl _) (Nat.le_refl _) dJ15_checkIndex_7cf53_6 ⟨rfl, rfl, rfl, rfl⟩

set_option maxHeartbeats 4000000 in
set_option maxRecDepth 100000 in
theorem t_size (l : Launch) (S : ab_St) (F : ab_Fn) (A : ab_An) (l0 e : Nat) (hl : S l0 = some (sC 0 (slL e))) : ab_Met l yJx4a65c_size_8abf5 cJx4a65c_size_8abf5 1 (some .int) { frames := 0, cells := 0, slots := 0, locals := 0 } 0 0 [aR l0] S F A (fun v S' F' A' => S = S' ∧ F = F' ∧ A = A' ∧ v = some (aI (F l0 2))) := by
  refine ab_enter (by decide) (by simp [aI, aR, aX, ab_val, Value.category]) (Nat.le_of_ble_eq_true rfl) (fun E C hr => ?_)
  refine j_eq (lv' := [some (aR l0)]) ?_
  refine j_aload_n C dJx4a65c_size_8abf5_0 rfl rfl ?_
  refine j_get C (aI (F l0 2)) fl_Jx4a65c_48 (hl) (fun _ => rfl) dJx4a65c_size_8abf5_1 ?_
  exact j_iret C hr (Nat.le_refl _) (Nat.le_refl _) dJx4a65c_size_8abf5_4 ⟨rfl, rfl, rfl, rfl⟩

set_option maxHeartbeats 4000000 in
set_option maxRecDepth 100000 in
theorem t_elem (l : Launch) (S : ab_St) (F : ab_Fn) (A : ab_An) (l0 e N x : Nat) (c : Nat → Option Nat) (i : Int) (hl : S l0 = some (sC 0 (slL e))) (he : S e = some (sO N c)) (h0 : 0 ≤ i ∧ i < N) (hN : (N : Int) < 2147483648) (hx : c i.toNat = some x) : ab_Met l yJx4a65c_elementData_915e3 cJx4a65c_elementData_915e3 2 (some (.object "java/lang/Object")) { frames := 0, cells := 0, slots := 0, locals := 0 } 0 0 [aR l0, aI i] S F A (fun v S' F' A' => S = S' ∧ F = F' ∧ A = A' ∧ v = some (aR x)) := by
  refine ab_enter (by decide) (by simp [aI, aR, aX, ab_val, Value.category]) (Nat.le_of_ble_eq_true rfl) (fun E C hr => ?_)
  refine j_eq (lv' := [some (aR l0), some (aI i)]) ?_
  refine j_aload_n C dJx4a65c_elementData_915e3_0 rfl rfl ?_
  refine j_getR C (j := e) fl_Jx4a65c_9 (hl) rfl dJx4a65c_elementData_915e3_1 ?_
  refine j_iload_n C dJx4a65c_elementData_915e3_4 rfl rfl ?_
  refine j_aald C (x := x) (he) (by omega) (by omega) hN hx dJx4a65c_elementData_915e3_5 ?_
  exact j_aret C hr (Or.inl ⟨_, rfl⟩) (fun _ => Or.inr ⟨_, rfl⟩) (Nat.le_refl _) (Nat.le_refl _) dJx4a65c_elementData_915e3_6 ⟨rfl, rfl, rfl, rfl⟩

set_option maxHeartbeats 4000000 in
set_option maxRecDepth 100000 in
theorem t_get (l : Launch) (S : ab_St) (F : ab_Fn) (A : ab_An) (l0 e N x : Nat) (c : Nat → Option Nat) (i : Int) (hl : S l0 = some (sC 0 (slL e))) (he : S e = some (sO N c)) (h1 : 0 ≤ i ∧ i < F l0 2) (h2 : F l0 2 ≤ N) (hN : (N : Int) < 2147483648) (hx : c i.toNat = some x) : ab_Met l yJx4a65c_get_915e3 cJx4a65c_get_915e3 2 (some (.object "java/lang/Object")) { frames := 2, cells := 0, slots := 0, locals := 43 } 0 0 [aR l0, aI i] S F A (fun v S' F' A' => S = S' ∧ F = F' ∧ A = A' ∧ v = some (aR x)) := by
  refine ab_enter (by decide) (by simp [aI, aR, aX, ab_val, Value.category]) (Nat.le_of_ble_eq_true rfl) (fun E C hr => ?_)
  refine j_eq (lv' := [some (aR l0), some (aI i)]) ?_
  have h0 : 0 ≤ i ∧ i < N := by omega
  refine j_iload_n C dJx4a65c_get_915e3_0 rfl rfl ?_
  refine j_aload_n C dJx4a65c_get_915e3_1 rfl rfl ?_
  refine j_get C (aI (F l0 2)) fl_Jx4a65c_48 (hl) (fun _ => rfl) dJx4a65c_get_915e3_2 ?_
  refine j_callS C (vs := [aI i, aI (F l0 2)]) (st := []) cl_Jx4a65c_118 sc_yJ15_checkIndex_7cf53 (fun _ => (t_check1 _ S F A _ _ h1 ⟨by omega, by omega⟩)) rfl ⟨rfl, rfl, by decide, by decide⟩ ⟨by decide, by decide⟩ (fun _ => Nat.le_of_ble_eq_true rfl) (fun v hv => by cases hv) (fun v hv => by simp only [List.mem_cons, List.not_mem_nil, or_false, Option.some.injEq, reduceCtorEq, false_or] at hv; rcases hv with rfl | rfl <;> first | exact (lS (hl)) | exact trivial) dJx4a65c_get_915e3_5 (fun v_5 S_5 F_5 A_5 hP_5 => ?_)
  obtain ⟨rfl, rfl, rfl, rfl⟩ := hP_5
  show ab_J E 2 0 0 S F A 8 [some (aR l0), some (aI i)] [aI i]
  refine j_pop C dJx4a65c_get_915e3_8 (fun _ => rfl) ?_
  refine j_aload_n C dJx4a65c_get_915e3_9 rfl rfl ?_
  refine j_iload_n C dJx4a65c_get_915e3_10 rfl rfl ?_
  refine j_callV C (vs := [aI i]) (st := []) cl_Jx4a65c_123 im_yJx4a65c_elementData_915e3 se_yJx4a65c_elementData_915e3 (fun _ => (t_elem _ S F A _ _ _ _ _ _ hl he h0 hN hx)) (hl) rfl rfl rfl ⟨rfl, rfl, by decide, by decide⟩ ⟨by decide, by decide⟩ (fun _ => Nat.le_of_ble_eq_true rfl) (fun v hv => by cases hv) (fun v hv => by simp only [List.mem_cons, List.not_mem_nil, or_false, Option.some.injEq, reduceCtorEq, false_or] at hv; rcases hv with rfl | rfl <;> first | exact (lS (hl)) | exact trivial) dJx4a65c_get_915e3_11 (fun v_11 S_11 F_11 A_11 hP_11 => ?_)
  obtain ⟨rfl, rfl, rfl, rfl⟩ := hP_11
  show ab_J E 2 0 0 S F A 14 [some (aR l0), some (aI i)] [aR x]
  exact j_aret C hr (Or.inl ⟨_, rfl⟩) (fun _ => Or.inr ⟨_, rfl⟩) (Nat.le_refl _) (Nat.le_refl _) dJx4a65c_get_915e3_14 ⟨rfl, rfl, rfl, rfl⟩
