theorem fl_Jxc12de_7 : ab_Fl RJxc12de 7 0 0 := ⟨(RJx4a65c, TJx4a65c, 3), rfl, by decide, in_Jx4a65c, "java/util/AbstractList", (ab_t1 (List.mem_of_getElem? (i := 88) rfl) rfl), Or.inl rfl⟩
theorem fp_Jxc12de_7 : ab_Fp RJxc12de 7 0 0 (.int) false := ⟨fl_Jxc12de_7, fun r hr => by cases hr; exact ⟨⟨tyJx4a65c, tyJx4a65c_ok⟩, nmJx4a65c, by decide +kernel, rfl, fun h => by cases h⟩⟩
theorem slL_up (e q : Nat) : upL (slL e) 1 (some (some q)) = slL q := by
  funext k
  match k with
  | 0 => rfl
  | 1 => rfl
  | k + 2 => rfl
theorem sl0_up (q : Nat) : upL sl0_Jx4a65c 1 (some (some q)) = slL q := by
  funext k
  match k with
  | 0 => rfl
  | 1 => rfl
  | k + 2 => rfl
theorem ab_shr1 {a : Int} (h0 : 0 ≤ a) (h1 : a < 2147483648) : (Int32.ofInt a >>> (Int32.ofInt 1 &&& 31)).toInt = a / 2 := by
  have e : (Int32.ofInt 1 &&& 31 : Int32) = 1 := by decide
  rw [e]
  have e2 : (Int32.ofInt a >>> (1 : Int32)).toInt = ((BitVec.ofInt 32 a).sshiftRight 1).toInt := rfl
  rw [e2, BitVec.toInt_sshiftRight, BitVec.toInt_ofInt]
  have : Int.bmod a (2 ^ 32) = a := Int.bmod_eq_of_le (by show -(((2 : Int) ^ 32) / 2) ≤ a; omega) (by show a < ((2 : Int) ^ 32 + 1) / 2; omega)
  rw [this]
  show a >>> 1 = _
  rw [Int.shiftRight_eq_div_pow]
  rfl

set_option maxHeartbeats 4000000 in
set_option maxRecDepth 100000 in
theorem t_colInit (l : Launch) (S : ab_St) (F : ab_Fn) (A : ab_An) (l0 : Nat) : ab_Met l yJxa1e45_init_da8c8 cJxa1e45_init_da8c8 1 none { frames := 1, cells := 0, slots := 0, locals := 30 } 0 0 [aR l0] S F A (fun v S' F' A' => S = S' ∧ F = F' ∧ A = A' ∧ v = none) := by
  refine ab_enter (by decide) (by simp [aI, aR, aX, ab_val, Value.category]) (Nat.le_of_ble_eq_true rfl) (fun E C hr => ?_)
  refine j_eq (lv' := [some (aR l0)]) ?_
  refine j_aload_n C dJxa1e45_init_da8c8_0 rfl rfl ?_
  refine j_objInit C (fun _ => ⟨_, rfl⟩) (ab_t1 (List.mem_of_getElem? (i := 83) rfl) rfl) (ab_t1 (List.mem_of_getElem? (i := 38) rfl) rfl) (ab_t1 (List.mem_of_getElem? (i := 39) rfl) rfl) (by decide) (fun _ => Nat.le_of_ble_eq_true rfl) dJxa1e45_init_da8c8_1 ?_
  exact j_vret C hr (Nat.le_refl _) (Nat.le_refl _) dJxa1e45_init_da8c8_4 ⟨rfl, rfl, rfl, rfl⟩

set_option maxHeartbeats 4000000 in
set_option maxRecDepth 100000 in
theorem t_absInit (l : Launch) (S : ab_St) (F : ab_Fn) (A : ab_An) (l0 : Nat) (hl : S l0 = some (sC 0 sl0_Jx4a65c)) : ab_Met l yJxc12de_init_da8c8 cJxc12de_init_da8c8 1 none { frames := 2, cells := 0, slots := 0, locals := 50 } 0 0 [aR l0] S F A (fun v S' F' A' => S = S' ∧ A = A' ∧ v = none ∧ F' = upF F l0 0 0) := by
  refine ab_enter (by decide) (by simp [aI, aR, aX, ab_val, Value.category]) (Nat.le_of_ble_eq_true rfl) (fun E C hr => ?_)
  refine j_eq (lv' := [some (aR l0)]) ?_
  refine j_aload_n C dJxc12de_init_da8c8_0 rfl rfl ?_
  refine j_callI C (vs := []) (st := []) cl_Jxc12de_1 im_yJxa1e45_init_da8c8 rfl (fun _ => (t_colInit _ S F A _)) rfl ⟨rfl, rfl, by decide, by decide⟩ ⟨by decide, by decide⟩ (fun _ => Nat.le_of_ble_eq_true rfl) (fun v hv => by cases hv) (fun v hv => by simp only [List.mem_cons, List.not_mem_nil, or_false, Option.some.injEq, reduceCtorEq, false_or] at hv; rcases hv with rfl <;> first | exact (lS (hl))) dJxc12de_init_da8c8_1 (fun v_1 S_1 F_1 A_1 hP_1 => ?_)
  obtain ⟨rfl, rfl, rfl, rfl⟩ := hP_1
  show ab_J E 1 0 0 S F A 4 [some (aR l0)] []
  refine j_aload_n C dJxc12de_init_da8c8_4 rfl rfl ?_
  refine j_iconst C dJxc12de_init_da8c8_5 ?_
  refine j_putI C fp_Jxc12de_7 (hl) rfl dJxc12de_init_da8c8_6 ?_
  exact j_vret C hr (Nat.le_refl _) (Nat.le_refl _) dJxc12de_init_da8c8_9 ⟨rfl, rfl, rfl, rfl⟩

set_option maxHeartbeats 4000000 in
set_option maxRecDepth 100000 in
theorem t_listInit (l : Launch) (S : ab_St) (F : ab_Fn) (A : ab_An) (l0 : Nat) (hl : S l0 = some (sC 0 sl0_Jx4a65c)) : ab_Met l yJx4a65c_init_da8c8 cJx4a65c_init_da8c8 1 none { frames := 3, cells := 0, slots := 0, locals := 70 } 0 0 [aR l0] S F A (fun v S' F' A' => S' = upS S l0 (sC 0 (slL (1000200 + 2))) ∧ A = A' ∧ v = none ∧ F' = upF F l0 0 0) := by
  refine ab_enter (by decide) (by simp [aI, aR, aX, ab_val, Value.category]) (Nat.le_of_ble_eq_true rfl) (fun E C hr => ?_)
  refine j_eq (lv' := [some (aR l0)]) ?_
  refine j_aload_n C dJx4a65c_init_da8c8_0 rfl rfl ?_
  refine j_callI C (vs := []) (st := []) cl_Jx4a65c_1 im_yJxc12de_init_da8c8 rfl (fun _ => (t_absInit _ S F A _ (hl))) rfl ⟨rfl, rfl, by decide, by decide⟩ ⟨by decide, by decide⟩ (fun _ => Nat.le_of_ble_eq_true rfl) (fun v hv => by cases hv) (fun v hv => by simp only [List.mem_cons, List.not_mem_nil, or_false, Option.some.injEq, reduceCtorEq, false_or] at hv; rcases hv with rfl <;> first | exact (lS (hl))) dJx4a65c_init_da8c8_1 (fun v_1 S_1 F_1 A_1 hP_1 => ?_)
  obtain ⟨rfl, rfl, rfl, rfl⟩ := hP_1
  show ab_J E 1 0 0 S (upF F l0 0 0) A 4 [some (aR l0)] []
  refine j_aload_n C dJx4a65c_init_da8c8_4 rfl rfl ?_
  refine j_getsR C 2 (by decide) rfl (lw_t1 (List.mem_of_getElem? (i := 85) rfl)) (lw_t1 (List.mem_of_getElem? (i := 6) rfl)) (ab_t1 (List.mem_of_getElem? (i := 84) rfl) rfl) dJx4a65c_init_da8c8_5 ?_
  refine j_putR C fp_Jx4a65c_9 (fun h => by cases h) (Or.inr ⟨_, rfl⟩) (hl) (lK (by omega)) dJx4a65c_init_da8c8_8 ?_
  exact j_vret C hr (Nat.le_refl _) (Nat.le_refl _) dJx4a65c_init_da8c8_11 ⟨by rw [sl0_up], rfl, rfl, rfl⟩

set_option maxHeartbeats 4000000 in
set_option maxRecDepth 100000 in
theorem t_newLength (l : Launch) (S : ab_St) (F : ab_Fn) (A : ab_An) (a b c : Int) (h : 0 ≤ a ∧ a ≤ 1000 ∧ 1 ≤ b ∧ b ≤ 1000 ∧ 0 ≤ c ∧ c ≤ 1000) : ab_Met l yJ8_newLength_cabcc cJ8_newLength_cabcc 4 (some .int) { frames := 1, cells := 0, slots := 0, locals := 30 } 0 0 [aI a, aI b, aI c] S F A (fun v S' F' A' => S = S' ∧ F = F' ∧ A = A' ∧ v = some (aI (a + max b c))) := by
  refine ab_enter (by decide) (by simp [aI, aR, aX, ab_val, Value.category]) (Nat.le_of_ble_eq_true rfl) (fun E C hr => ?_)
  refine j_eq (lv' := [some (aI a), some (aI b), some (aI c), none]) ?_
  refine j_iload_n C dJ8_newLength_cabcc_0 rfl rfl ?_
  refine j_iload_n C dJ8_newLength_cabcc_1 rfl rfl ?_
  refine j_iload_n C dJ8_newLength_cabcc_2 rfl rfl ?_
  refine j_mmax C (ab_t2 (List.mem_of_getElem? (i := 172) rfl) rfl) ⟨by omega, by omega⟩ ⟨by omega, by omega⟩ (by decide) (fun _ => Nat.le_of_ble_eq_true rfl) ⟨by decide, by decide⟩ dJ8_newLength_cabcc_3 ?_
  refine j_iadd C dJ8_newLength_cabcc_6 ?_
  refine j_istore_n C (lv' := [some (aI a), some (aI b), some (aI c), some (aI (a + ((max b c : Int))))]) dJ8_newLength_cabcc_7 rfl (by decide) rfl ?_
  refine j_iconst C dJ8_newLength_cabcc_8 ?_
  refine j_iload_n C dJ8_newLength_cabcc_9 rfl rfl ?_
  refine j_icmp_ge C (tgt := 21) dJ8_newLength_cabcc_10 (by decide) ⟨by omega, by omega⟩ ⟨by omega, by omega⟩ (fun c10 => ?_) (fun c10 => ?_)
  · exact absurd c10 (by omega)
  · refine j_iload_n C dJ8_newLength_cabcc_13 rfl rfl ?_
    refine j_ldcI C (z := 2147483639) (ab_t2 (List.mem_of_getElem? (i := 173) rfl) rfl) rfl dJ8_newLength_cabcc_14 ?_
    refine j_icmp_gt C (tgt := 21) dJ8_newLength_cabcc_16 (by decide) ⟨by omega, by omega⟩ ⟨by omega, by omega⟩ (fun c16 => ?_) (fun c16 => ?_)
    · exact absurd c16 (by omega)
    · refine j_iload_n C dJ8_newLength_cabcc_19 rfl rfl ?_
      exact j_iret C hr (Nat.le_refl _) (Nat.le_refl _) dJ8_newLength_cabcc_20 ⟨rfl, rfl, rfl, rfl⟩

set_option maxHeartbeats 4000000 in
set_option maxRecDepth 100000 in
theorem t_copyO3 (l : Launch) (S : ab_St) (F : ab_Fn) (A : ab_An) (e q n0 : Nat) (f : Nat → Option Nat) (a : Int) (he : S e = some (sO n0 f)) (hq : S q = none) (hq6 : q < 1000000) (ha : (n0 : Int) ≤ a ∧ a ≤ 60) (hel : ∀ q : Nat, (q : Int) < n0 → ∀ x, f q = some x → ∃ (ci : Nat) (sl : Nat → Option (Option Nat)) (r : vw_C), S x = some (sC ci sl) ∧ vwCl[ci]? = some r ∧ Cond.castable r.1 "java/lang/Object" ∈ lw_tbl) : ab_Met l yJ7_copyOf_6403c cJ7_copyOf_6403c 4 (some (.array (.object "java/lang/Object"))) { frames := 1, cells := 1, slots := 60, locals := 40 } 1 60 [aR e, aI a, aR (1000200 + 3)] S F A (fun v S' F' A' => S' = upS S q (sO a.toNat (fun j => if (j : Int) < n0 then f j else none)) ∧ F = F' ∧ A = A' ∧ v = some (aR q)) := by
  refine ab_enter (by decide) (by simp [aI, aR, aX, ab_val, Value.category]) (Nat.le_of_ble_eq_true rfl) (fun E C hr => ?_)
  refine j_eq (lv' := [some (aR e), some (aI a), some (aR (1000200 + 3)), none]) ?_
  have heq : e ≠ q := fun z => by rw [z, hq] at he; cases he
  refine j_aload_n C dJ7_copyOf_6403c_0 rfl rfl ?_
  refine j_ldcM C (ab_t2 (List.mem_of_getElem? (i := 204) rfl) rfl) dJ7_copyOf_6403c_1 ?_
  refine j_acmpF C (tgt := 13) dJ7_copyOf_6403c_3 (by decide) ?_
  refine j_iload_n C dJ7_copyOf_6403c_6 rfl rfl ?_
  refine j_anewa C (N := (a).toNat) q (ab_t2 (List.mem_of_getElem? (i := 206) rfl) rfl) (lw_t2 (List.mem_of_getElem? (i := 205) rfl)) (by omega) (by omega) (by omega) (hq) hq6 (Nat.le_of_ble_eq_true rfl) (by show 0 + (a).toNat ≤ 60; omega) (fun v hv => by cases hv) (fun v hv => by simp only [List.mem_cons, List.not_mem_nil, or_false, Option.some.injEq, reduceCtorEq, false_or] at hv; rcases hv with rfl | rfl | rfl <;> first | exact (lK (by omega)) | exact (lS (he)) | exact trivial) dJ7_copyOf_6403c_7 ?_
  show ab_J E 4 1 (0 + (a).toNat) (upS S q (sO ((a).toNat) (fun _ => none))) F A 10 [some (aR e), some (aI a), some (aR (1000200 + 3)), none] [aR q]
  refine j_goto C (tgt := 24) dJ7_copyOf_6403c_10 (by decide) ?_
  refine j_astore_n C (lv' := [some (aR e), some (aI a), some (aR (1000200 + 3)), some (aR q)]) dJ7_copyOf_6403c_24 rfl (by decide) rfl ?_
  refine j_aload_n C dJ7_copyOf_6403c_25 rfl rfl ?_
  refine j_iconst C dJ7_copyOf_6403c_26 ?_
  refine j_aload_n C dJ7_copyOf_6403c_27 rfl rfl ?_
  refine j_iconst C dJ7_copyOf_6403c_28 ?_
  refine j_aload_n C dJ7_copyOf_6403c_29 rfl rfl ?_
  refine j_olen C (((upS_ne (by omega)).trans (he))) dJ7_copyOf_6403c_30 ?_
  refine j_iload_n C dJ7_copyOf_6403c_31 rfl rfl ?_
  refine j_mmin C (ab_t2 (List.mem_of_getElem? (i := 117) rfl) rfl) ⟨by omega, by omega⟩ ⟨by omega, by omega⟩ (by decide) (fun _ => Nat.le_of_ble_eq_true rfl) ⟨by decide, by show 0 + (a).toNat ≤ 60; omega⟩ dJ7_copyOf_6403c_32 ?_
  refine j_eq (st' := [aI ((n0 : Nat)), aI 0, aR q, aI 0, aR e]) ?_ (e1 := by first | rfl | (simp only [List.cons.injEq, and_true]; exact congrArg aI ((by omega))))
  refine j_copyO C (ab_t2 (List.mem_of_getElem? (i := 118) rfl) rfl) (ab_t2 (List.mem_of_getElem? (i := 120) rfl) rfl) (ab_t2 (List.mem_of_getElem? (i := 119) rfl) rfl) (ab_t1 (List.mem_of_getElem? (i := 26) rfl) rfl) (((upS_ne (by omega)).trans (he))) (upS_at _ _ _) (by omega) (by omega) (fun q2 z x hx => by obtain ⟨ci, sl, r, x1, x2, x3⟩ := hel q2 (by omega) x hx; exact ⟨ci, sl, r, (upS_ne (fun z => by rw [z, hq] at x1; cases x1)).trans x1, x2, x3⟩) (by decide) (fun _ => Nat.le_of_ble_eq_true rfl) dJ7_copyOf_6403c_35 ?_
  refine j_aload_n C dJ7_copyOf_6403c_38 rfl rfl ?_
  exact j_aret C hr (Or.inr ⟨_, rfl⟩) (fun _ => Or.inr ⟨_, rfl⟩) (Nat.le_refl _) (by show 0 + (a).toNat ≤ 60; omega) dJ7_copyOf_6403c_39 ⟨by rw [upS_up], rfl, rfl, rfl⟩

set_option maxHeartbeats 4000000 in
set_option maxRecDepth 100000 in
theorem t_copyO2 (l : Launch) (S : ab_St) (F : ab_Fn) (A : ab_An) (e q n0 : Nat) (f : Nat → Option Nat) (a : Int) (he : S e = some (sO n0 f)) (hq : S q = none) (hq6 : q < 1000000) (ha : (n0 : Int) ≤ a ∧ a ≤ 60) (hel : ∀ q : Nat, (q : Int) < n0 → ∀ x, f q = some x → ∃ (ci : Nat) (sl : Nat → Option (Option Nat)) (r : vw_C), S x = some (sC ci sl) ∧ vwCl[ci]? = some r ∧ Cond.castable r.1 "java/lang/Object" ∈ lw_tbl) : ab_Met l yJ7_copyOf_1904c cJ7_copyOf_1904c 2 (some (.array (.object "java/lang/Object"))) { frames := 2, cells := 1, slots := 60, locals := 63 } 1 60 [aR e, aI a] S F A (fun v S' F' A' => S' = upS S q (sO a.toNat (fun j => if (j : Int) < n0 then f j else none)) ∧ F = F' ∧ A = A' ∧ v = some (aR q)) := by
  refine ab_enter (by decide) (by simp [aI, aR, aX, ab_val, Value.category]) (Nat.le_of_ble_eq_true rfl) (fun E C hr => ?_)
  refine j_eq (lv' := [some (aR e), some (aI a)]) ?_
  refine j_aload_n C dJ7_copyOf_1904c_0 rfl rfl ?_
  refine j_iload_n C dJ7_copyOf_1904c_1 rfl rfl ?_
  refine j_aload_n C dJ7_copyOf_1904c_2 rfl rfl ?_
  refine j_getC C (ab_t2 (List.mem_of_getElem? (i := 180) rfl) rfl) (lw_t6 (List.mem_of_getElem? (i := 91) rfl)) (ab_t6 (List.mem_of_getElem? (i := 90) rfl) rfl) (ab_t2 (List.mem_of_getElem? (i := 181) rfl) rfl) (ab_t2 (List.mem_of_getElem? (i := 200) rfl) rfl) (he) (by decide) (fun _ => Nat.le_of_ble_eq_true rfl) dJ7_copyOf_1904c_3 ?_
  refine j_callS C (vs := [aR e, aI a, aR (1000200 + 3)]) (st := []) cl_J7_300 sc_yJ7_copyOf_6403c (fun _ => (t_copyO3 _ S F A _ q _ _ _ (he) (hq) hq6 (by omega) hel)) rfl ⟨rfl, rfl, by decide, by decide⟩ ⟨by decide, by decide⟩ (fun _ => Nat.le_of_ble_eq_true rfl) (fun v hv => by cases hv) (fun v hv => by simp only [List.mem_cons, List.not_mem_nil, or_false, Option.some.injEq, reduceCtorEq, false_or] at hv; rcases hv with rfl | rfl <;> first | exact (lS (he)) | exact trivial) dJ7_copyOf_1904c_6 (fun v_6 S_6 F_6 A_6 hP_6 => ?_)
  obtain ⟨rfl, rfl, rfl, rfl⟩ := hP_6
  show ab_J E 2 1 60 (upS S q (sO (a).toNat (fun j => if (j : Int) < n0 then f j else none))) F A 9 [some (aR e), some (aI a)] [aR q]
  exact j_aret C hr (Or.inr ⟨_, rfl⟩) (fun _ => Or.inr ⟨_, rfl⟩) (Nat.le_refl _) (Nat.le_refl _) dJ7_copyOf_1904c_9 ⟨rfl, rfl, rfl, rfl⟩

set_option maxHeartbeats 4000000 in
set_option maxRecDepth 100000 in
theorem t_grow1B (l : Launch) (S : ab_St) (F : ab_Fn) (A : ab_An) (l0 q : Nat) (hl : S l0 = some (sC 0 (slL (1000200 + 2)))) (hq : S q = none) (hq6 : q < 1000000) (hql : l0 ≠ q) : ab_Met l yJx4a65c_grow_92f84 cJx4a65c_grow_92f84 4 (some (.array (.object "java/lang/Object"))) { frames := 3, cells := 1, slots := 60, locals := 84 } 1 60 [aR l0, aI 1] S F A (fun v S' F' A' => S' = upS (upS S q (sO 10 (fun _ => none))) l0 (sC 0 (slL q)) ∧ F = F' ∧ A = A' ∧ v = some (aR q)) := by
  refine ab_enter (by decide) (by simp [aI, aR, aX, ab_val, Value.category]) (Nat.le_of_ble_eq_true rfl) (fun E C hr => ?_)
  refine j_eq (lv' := [some (aR l0), some (aI 1), none, none]) ?_
  refine j_aload_n C dJx4a65c_grow_92f84_0 rfl rfl ?_
  refine j_getR C (j := (1000200 + 2)) fl_Jx4a65c_9 (hl) rfl dJx4a65c_grow_92f84_1 ?_
  refine j_len0 C dJx4a65c_grow_92f84_4 ?_
  refine j_istore_n C (lv' := [some (aR l0), some (aI 1), some (aI 0), none]) dJx4a65c_grow_92f84_5 rfl (by decide) rfl ?_
  refine j_iload_n C dJx4a65c_grow_92f84_6 rfl rfl ?_
  refine j_if_gt C (tgt := 20) dJx4a65c_grow_92f84_7 (by decide) ⟨by omega, by omega⟩ (fun c7 => ?_) (fun c7 => ?_)
  · exact absurd c7 (by decide)
  · refine j_aload_n C dJx4a65c_grow_92f84_10 rfl rfl ?_
    refine j_getR C (j := (1000200 + 2)) fl_Jx4a65c_9 (hl) rfl dJx4a65c_grow_92f84_11 ?_
    refine j_getsR C 2 (by decide) rfl (lw_t1 (List.mem_of_getElem? (i := 85) rfl)) (lw_t1 (List.mem_of_getElem? (i := 6) rfl)) (ab_t1 (List.mem_of_getElem? (i := 84) rfl) rfl) dJx4a65c_grow_92f84_14 ?_
    refine j_acmpT C (tgt := 45) dJx4a65c_grow_92f84_17 (by decide) ?_
    refine j_aload_n C dJx4a65c_grow_92f84_45 rfl rfl ?_
    refine j_bipush C dJx4a65c_grow_92f84_46 rfl ?_
    refine j_iload_n C dJx4a65c_grow_92f84_48 rfl rfl ?_
    refine j_mmax C (ab_t2 (List.mem_of_getElem? (i := 207) rfl) rfl) ⟨by omega, by omega⟩ ⟨by omega, by omega⟩ (by decide) (fun _ => Nat.le_of_ble_eq_true rfl) ⟨by decide, by decide⟩ dJx4a65c_grow_92f84_49 ?_
    refine j_eq (st' := [aI 10, aR l0]) ?_ (e1 := by first | rfl | (simp only [List.cons.injEq, and_true]; exact congrArg aI ((by omega))))
    refine j_anewa C (N := 10) q (ab_t2 (List.mem_of_getElem? (i := 208) rfl) rfl) (lw_t2 (List.mem_of_getElem? (i := 205) rfl)) rfl (by decide) (by decide) (hq) hq6 (Nat.le_of_ble_eq_true rfl) (by decide) (fun v hv => by simp only [List.mem_cons, List.not_mem_nil, or_false] at hv; rcases hv with rfl <;> first | exact (lS (hl))) (fun v hv => by simp only [List.mem_cons, List.not_mem_nil, or_false, Option.some.injEq, reduceCtorEq, false_or] at hv; rcases hv with rfl | rfl | rfl <;> first | exact (lS (hl)) | exact trivial) dJx4a65c_grow_92f84_52 ?_
    show ab_J E 4 1 10 (upS S q (sO 10 (fun _ => none))) F A 55 [some (aR l0), some (aI 1), some (aI 0), none] [aR q, aR l0]
    refine j_dup_x1 C dJx4a65c_grow_92f84_55 (fun _ => rfl) (fun _ => rfl) ?_
    refine j_putR C fp_Jx4a65c_9 (fun h => by cases h) (Or.inr ⟨_, rfl⟩) (((upS_ne (by omega)).trans (hl))) (lS (upS_at _ _ _)) dJx4a65c_grow_92f84_56 ?_
    exact j_aret C hr (Or.inr ⟨_, rfl⟩) (fun _ => Or.inr ⟨_, rfl⟩) (by decide) (by decide) dJx4a65c_grow_92f84_59 ⟨by rw [slL_up], rfl, rfl, rfl⟩

set_option maxHeartbeats 4000000 in
set_option maxRecDepth 100000 in
theorem t_grow1C (l : Launch) (S : ab_St) (F : ab_Fn) (A : ab_An) (l0 e q n0 : Nat) (f : Nat → Option Nat) (hl : S l0 = some (sC 0 (slL e))) (he : S e = some (sO n0 f)) (hq : S q = none) (hq6 : q < 1000000) (hql : l0 ≠ q) (hn0 : 10 ≤ n0 ∧ n0 ≤ 40) (hel : ∀ q : Nat, (q : Int) < n0 → ∀ x, f q = some x → ∃ (ci : Nat) (sl : Nat → Option (Option Nat)) (r : vw_C), S x = some (sC ci sl) ∧ vwCl[ci]? = some r ∧ Cond.castable r.1 "java/lang/Object" ∈ lw_tbl) : ab_Met l yJx4a65c_grow_92f84 cJx4a65c_grow_92f84 4 (some (.array (.object "java/lang/Object"))) { frames := 3, cells := 1, slots := 60, locals := 84 } 1 60 [aR l0, aI ((n0 : Int) + 1)] S F A (fun v S' F' A' => S' = (upS (upS S q (sO ((n0 : Int) + max 1 ((n0 : Int) / 2)).toNat (fun j => if (j : Int) < n0 then f j else none))) l0 (sC 0 (slL q))) ∧ F = F' ∧ A = A' ∧ v = some (aR q)) := by
  refine ab_enter (by decide) (by simp [aI, aR, aX, ab_val, Value.category]) (Nat.le_of_ble_eq_true rfl) (fun E C hr => ?_)
  refine j_eq (lv' := [some (aR l0), some (aI ((n0 : Int) + 1)), none, none]) ?_
  refine j_aload_n C dJx4a65c_grow_92f84_0 rfl rfl ?_
  refine j_getR C (j := e) fl_Jx4a65c_9 (hl) rfl dJx4a65c_grow_92f84_1 ?_
  refine j_olen C (he) dJx4a65c_grow_92f84_4 ?_
  refine j_istore_n C (lv' := [some (aR l0), some (aI ((n0 : Int) + 1)), some (aI (n0 : Nat)), none]) dJx4a65c_grow_92f84_5 rfl (by decide) rfl ?_
  refine j_iload_n C dJx4a65c_grow_92f84_6 rfl rfl ?_
  refine j_if_gt C (tgt := 20) dJx4a65c_grow_92f84_7 (by decide) ⟨by omega, by omega⟩ (fun c7 => ?_) (fun c7 => ?_)
  · refine j_iload_n C dJx4a65c_grow_92f84_20 rfl rfl ?_
    refine j_iload_n C dJx4a65c_grow_92f84_21 rfl rfl ?_
    refine j_iload_n C dJx4a65c_grow_92f84_22 rfl rfl ?_
    refine j_isub C dJx4a65c_grow_92f84_23 ?_
    refine j_eq (st' := [aI 1, aI (n0 : Nat)]) ?_ (e1 := by first | rfl | (simp only [List.cons.injEq, and_true]; exact congrArg aI ((by omega))))
    refine j_iload_n C dJx4a65c_grow_92f84_24 rfl rfl ?_
    refine j_iconst C dJx4a65c_grow_92f84_25 ?_
    refine j_ishr C dJx4a65c_grow_92f84_26 ?_
    refine j_eq (st' := [aI ((n0 : Int) / 2), aI 1, aI (n0 : Nat)]) ?_ (e1 := by first | rfl | (simp only [List.cons.injEq, and_true]; exact congrArg aI ((ab_shr1 (by omega) (by omega)))))
    refine j_callS C (vs := [aI (n0 : Nat), aI 1, aI ((n0 : Int) / 2)]) (st := []) cl_Jx4a65c_73 sc_yJ8_newLength_cabcc (fun _ => (t_newLength _ S F A _ _ _ (by omega))) rfl ⟨rfl, rfl, by decide, by decide⟩ ⟨by decide, by decide⟩ (fun _ => Nat.le_of_ble_eq_true rfl) (fun v hv => by cases hv) (fun v hv => by simp only [List.mem_cons, List.not_mem_nil, or_false, Option.some.injEq, reduceCtorEq, false_or] at hv; rcases hv with rfl | rfl | rfl <;> first | exact (lS (hl)) | exact trivial) dJx4a65c_grow_92f84_27 (fun v_27 S_27 F_27 A_27 hP_27 => ?_)
    obtain ⟨rfl, rfl, rfl, rfl⟩ := hP_27
    show ab_J E 4 0 0 S F A 30 [some (aR l0), some (aI ((n0 : Int) + 1)), some (aI (n0 : Nat)), none] [aI ((n0 : Nat) + max 1 ((n0 : Int) / 2))]
    refine j_istore_n C (lv' := [some (aR l0), some (aI ((n0 : Int) + 1)), some (aI (n0 : Nat)), some (aI ((n0 : Nat) + max 1 ((n0 : Int) / 2)))]) dJx4a65c_grow_92f84_30 rfl (by decide) rfl ?_
    refine j_aload_n C dJx4a65c_grow_92f84_31 rfl rfl ?_
    refine j_aload_n C dJx4a65c_grow_92f84_32 rfl rfl ?_
    refine j_getR C (j := e) fl_Jx4a65c_9 (hl) rfl dJx4a65c_grow_92f84_33 ?_
    refine j_iload_n C dJx4a65c_grow_92f84_36 rfl rfl ?_
    refine j_callS C (vs := [aR e, aI ((n0 : Nat) + max 1 ((n0 : Int) / 2))]) (st := [aR l0]) cl_Jx4a65c_66 sc_yJ7_copyOf_1904c (fun _ => (t_copyO2 _ S F A _ q _ _ _ (he) (hq) hq6 (by omega) hel)) rfl ⟨rfl, rfl, by decide, by decide⟩ ⟨by decide, by decide⟩ (fun _ => Nat.le_of_ble_eq_true rfl) (fun v hv => by simp only [List.mem_cons, List.not_mem_nil, or_false] at hv; rcases hv with rfl <;> first | exact (lS (hl))) (fun v hv => by simp only [List.mem_cons, List.not_mem_nil, or_false, Option.some.injEq, reduceCtorEq, false_or] at hv; rcases hv with rfl | rfl | rfl | rfl <;> first | exact (lS (hl)) | exact trivial) dJx4a65c_grow_92f84_37 (fun v_37 S_37 F_37 A_37 hP_37 => ?_)
    obtain ⟨rfl, rfl, rfl, rfl⟩ := hP_37
    show ab_J E 4 1 60 (upS S q (sO ((n0 : Nat) + max 1 ((n0 : Int) / 2)).toNat (fun j => if (j : Int) < n0 then f j else none))) F A 40 [some (aR l0), some (aI ((n0 : Int) + 1)), some (aI (n0 : Nat)), some (aI ((n0 : Nat) + max 1 ((n0 : Int) / 2)))] [aR q, aR l0]
    refine j_dup_x1 C dJx4a65c_grow_92f84_40 (fun _ => rfl) (fun _ => rfl) ?_
    refine j_putR C fp_Jx4a65c_9 (fun h => by cases h) (Or.inr ⟨_, rfl⟩) (((upS_ne (by omega)).trans (hl))) (lS (upS_at _ _ _)) dJx4a65c_grow_92f84_41 ?_
    exact j_aret C hr (Or.inr ⟨_, rfl⟩) (fun _ => Or.inr ⟨_, rfl⟩) (by decide) (by decide) dJx4a65c_grow_92f84_44 ⟨by rw [slL_up], rfl, rfl, rfl⟩
  · exact absurd c7 (by omega)

set_option maxHeartbeats 4000000 in
set_option maxRecDepth 100000 in
theorem t_grow0B (l : Launch) (S : ab_St) (F : ab_Fn) (A : ab_An) (l0 q : Nat) (hl : S l0 = some (sC 0 (slL (1000200 + 2)))) (hz : F l0 2 = 0) (hq : S q = none) (hq6 : q < 1000000) (hql : l0 ≠ q) : ab_Met l yJx4a65c_grow_d5877 cJx4a65c_grow_d5877 1 (some (.array (.object "java/lang/Object"))) { frames := 4, cells := 1, slots := 60, locals := 107 } 1 60 [aR l0] S F A (fun v S' F' A' => S' = upS (upS S q (sO 10 (fun _ => none))) l0 (sC 0 (slL q)) ∧ F = F' ∧ A = A' ∧ v = some (aR q)) := by
  refine ab_enter (by decide) (by simp [aI, aR, aX, ab_val, Value.category]) (Nat.le_of_ble_eq_true rfl) (fun E C hr => ?_)
  refine j_eq (lv' := [some (aR l0)]) ?_
  refine j_aload_n C dJx4a65c_grow_d5877_0 rfl rfl ?_
  refine j_aload_n C dJx4a65c_grow_d5877_1 rfl rfl ?_
  refine j_get C (aI (F l0 2)) fl_Jx4a65c_48 (hl) (fun _ => rfl) dJx4a65c_grow_d5877_2 ?_
  refine j_iconst C dJx4a65c_grow_d5877_5 ?_
  refine j_iadd C dJx4a65c_grow_d5877_6 ?_
  refine j_eq (st' := [aI 1, aR l0]) ?_ (e1 := by first | rfl | (simp only [List.cons.injEq, and_true]; exact congrArg aI ((by omega))))
  refine j_callV C (vs := [aI 1]) (st := []) cl_Jx4a65c_69 im_yJx4a65c_grow_92f84 se_yJx4a65c_grow_92f84 (fun _ => (t_grow1B _ S F A _ q hl hq hq6 hql)) (hl) rfl rfl rfl ⟨rfl, rfl, by decide, by decide⟩ ⟨by decide, by decide⟩ (fun _ => Nat.le_of_ble_eq_true rfl) (fun v hv => by cases hv) (fun v hv => by simp only [List.mem_cons, List.not_mem_nil, or_false, Option.some.injEq, reduceCtorEq, false_or] at hv; rcases hv with rfl <;> first | exact (lS (hl))) dJx4a65c_grow_d5877_7 (fun v_7 S_7 F_7 A_7 hP_7 => ?_)
  obtain ⟨rfl, rfl, rfl, rfl⟩ := hP_7
  show ab_J E 1 1 60 (upS (upS S q (sO 10 (fun _ => none))) l0 (sC 0 (slL q))) F A 10 [some (aR l0)] [aR q]
  exact j_aret C hr (Or.inr ⟨_, rfl⟩) (fun _ => Or.inr ⟨_, rfl⟩) (Nat.le_refl _) (Nat.le_refl _) dJx4a65c_grow_d5877_10 ⟨rfl, rfl, rfl, rfl⟩

set_option maxHeartbeats 4000000 in
set_option maxRecDepth 100000 in
theorem t_grow0C (l : Launch) (S : ab_St) (F : ab_Fn) (A : ab_An) (l0 e q n0 : Nat) (f : Nat → Option Nat) (hl : S l0 = some (sC 0 (slL e))) (he : S e = some (sO n0 f)) (hq : S q = none) (hq6 : q < 1000000) (hql : l0 ≠ q) (hn0 : 10 ≤ n0 ∧ n0 ≤ 40) (hel : ∀ q : Nat, (q : Int) < n0 → ∀ x, f q = some x → ∃ (ci : Nat) (sl : Nat → Option (Option Nat)) (r : vw_C), S x = some (sC ci sl) ∧ vwCl[ci]? = some r ∧ Cond.castable r.1 "java/lang/Object" ∈ lw_tbl) (hz : F l0 2 = n0) : ab_Met l yJx4a65c_grow_d5877 cJx4a65c_grow_d5877 1 (some (.array (.object "java/lang/Object"))) { frames := 4, cells := 1, slots := 60, locals := 107 } 1 60 [aR l0] S F A (fun v S' F' A' => S' = (upS (upS S q (sO ((n0 : Int) + max 1 ((n0 : Int) / 2)).toNat (fun j => if (j : Int) < n0 then f j else none))) l0 (sC 0 (slL q))) ∧ F = F' ∧ A = A' ∧ v = some (aR q)) := by
  refine ab_enter (by decide) (by simp [aI, aR, aX, ab_val, Value.category]) (Nat.le_of_ble_eq_true rfl) (fun E C hr => ?_)
  refine j_eq (lv' := [some (aR l0)]) ?_
  refine j_aload_n C dJx4a65c_grow_d5877_0 rfl rfl ?_
  refine j_aload_n C dJx4a65c_grow_d5877_1 rfl rfl ?_
  refine j_get C (aI (F l0 2)) fl_Jx4a65c_48 (hl) (fun _ => rfl) dJx4a65c_grow_d5877_2 ?_
  refine j_iconst C dJx4a65c_grow_d5877_5 ?_
  refine j_iadd C dJx4a65c_grow_d5877_6 ?_
  refine j_eq (st' := [aI ((n0 : Int) + 1), aR l0]) ?_ (e1 := by first | rfl | (simp only [List.cons.injEq, and_true]; exact congrArg aI ((by omega))))
  refine j_callV C (vs := [aI ((n0 : Int) + 1)]) (st := []) cl_Jx4a65c_69 im_yJx4a65c_grow_92f84 se_yJx4a65c_grow_92f84 (fun _ => (t_grow1C _ S F A _ _ q _ _ hl he hq hq6 hql hn0 hel)) (hl) rfl rfl rfl ⟨rfl, rfl, by decide, by decide⟩ ⟨by decide, by decide⟩ (fun _ => Nat.le_of_ble_eq_true rfl) (fun v hv => by cases hv) (fun v hv => by simp only [List.mem_cons, List.not_mem_nil, or_false, Option.some.injEq, reduceCtorEq, false_or] at hv; rcases hv with rfl <;> first | exact (lS (hl))) dJx4a65c_grow_d5877_7 (fun v_7 S_7 F_7 A_7 hP_7 => ?_)
  obtain ⟨rfl, rfl, rfl, rfl⟩ := hP_7
  show ab_J E 1 1 60 (upS (upS S q (sO ((n0 : Int) + max 1 ((n0 : Int) / 2)).toNat (fun j => if (j : Int) < n0 then f j else none))) l0 (sC 0 (slL q))) F A 10 [some (aR l0)] [aR q]
  exact j_aret C hr (Or.inr ⟨_, rfl⟩) (fun _ => Or.inr ⟨_, rfl⟩) (Nat.le_refl _) (Nat.le_refl _) dJx4a65c_grow_d5877_10 ⟨rfl, rfl, rfl, rfl⟩

theorem upC_at (f : Nat → Option Nat) (k : Nat) (o : Option Nat) : upC f k o k = o := by simp [upC]
theorem upC_ne {f : Nat → Option Nat} {k j : Nat} {o : Option Nat} (h : j ≠ k) : upC f k o j = f j := by simp [upC, h]

set_option maxHeartbeats 4000000 in
set_option maxRecDepth 100000 in
theorem t_add3A (l : Launch) (S : ab_St) (F : ab_Fn) (A : ab_An) (l0 e q n0 : Nat) (f : Nat → Option Nat) (hl : S l0 = some (sC 0 (slL e))) (he : S e = some (sO n0 f)) (hle : l0 ≠ e) (hs : 0 < F l0 2 ∧ F l0 2 < n0) (hn0 : n0 ≤ 60) (x ci : Nat) (sl : Nat → Option (Option Nat)) (r : vw_C) (hx : S x = some (sC ci sl)) (hxl : x ≠ l0) (hc9 : vwCl[ci]? = some r) (hca : Cond.castable r.1 "java/lang/Object" ∈ lw_tbl) : ab_Met l yJx4a65c_add_72be8 cJx4a65c_add_72be8 4 none { frames := 5, cells := 1, slots := 60, locals := 127 } 1 60 [aR l0, aR x, aR e, aI (F l0 2)] S F A (fun v S' F' A' => v = none ∧ A = A' ∧ F' = upF F l0 2 (F l0 2 + 1) ∧ ∃ (e' N' : Nat) (c' : Nat → Option Nat), S' l0 = some (sC 0 (slL e')) ∧ S' e' = some (sO N' c') ∧ ((F l0 2 = 0 ∧ N' = 10) ∨ (0 < F l0 2 ∧ F l0 2 < n0 ∧ N' = n0) ∨ (0 < F l0 2 ∧ F l0 2 = n0 ∧ F l0 2 < N' ∧ N' ≤ 60)) ∧ (∀ j : Nat, (j : Int) < F l0 2 → c' j = f j) ∧ c' (F l0 2).toNat = some x ∧ (∀ i, i ≠ l0 → i ≠ e' → S' i = S i) ∧ ((e' = q ∧ (F l0 2 = 0 ∨ F l0 2 = n0)) ∨ (0 < F l0 2 ∧ e' = e))) := by
  refine ab_enter (by decide) (by simp [aI, aR, aX, ab_val, Value.category]) (Nat.le_of_ble_eq_true rfl) (fun E C hr => ?_)
  refine j_eq (lv' := [some (aR l0), some (aR x), some (aR e), some (aI (F l0 2))]) ?_
  refine j_iload_n C dJx4a65c_add_72be8_0 rfl rfl ?_
  refine j_aload_n C dJx4a65c_add_72be8_1 rfl rfl ?_
  refine j_olen C (he) dJx4a65c_add_72be8_2 ?_
  refine j_icmp_ne C (tgt := 11) dJx4a65c_add_72be8_3 (by decide) ⟨by omega, by omega⟩ ⟨by omega, by omega⟩ (fun c3 => ?_) (fun c3 => ?_)
  · refine j_aload_n C dJx4a65c_add_72be8_11 rfl rfl ?_
    refine j_iload_n C dJx4a65c_add_72be8_12 rfl rfl ?_
    refine j_aload_n C dJx4a65c_add_72be8_13 rfl rfl ?_
    refine j_aast C (he) (hx) hc9 hca (by omega) (by omega) (by omega) dJx4a65c_add_72be8_14 ?_
    refine j_aload_n C dJx4a65c_add_72be8_15 rfl rfl ?_
    refine j_iload_n C dJx4a65c_add_72be8_16 rfl rfl ?_
    refine j_iconst C dJx4a65c_add_72be8_17 ?_
    refine j_iadd C dJx4a65c_add_72be8_18 ?_
    refine j_putI C fp_Jx4a65c_48 (((upS_ne (by omega)).trans (hl))) rfl dJx4a65c_add_72be8_19 ?_
    exact j_vret C hr (Nat.le_of_ble_eq_true rfl) (Nat.le_of_ble_eq_true rfl) dJx4a65c_add_72be8_22 ⟨rfl, rfl, rfl, e, n0, _, (upS_ne hle).trans hl, upS_at _ _ _, Or.inr (Or.inl ⟨by omega, by omega, rfl⟩), fun j hj => upC_ne (by omega), upC_at _ _ _, fun i q1 q2 => upS_ne q2, Or.inr ⟨by omega, rfl⟩⟩
  · exact absurd c3 (by omega)

set_option maxHeartbeats 4000000 in
set_option maxRecDepth 100000 in
theorem t_add3B (l : Launch) (S : ab_St) (F : ab_Fn) (A : ab_An) (l0 e q n0 : Nat) (f : Nat → Option Nat) (hl : S l0 = some (sC 0 (slL (1000200 + 2)))) (hq : S q = none) (hq6 : q < 1000000) (hql : l0 ≠ q) (hs : F l0 2 = 0) (x ci : Nat) (sl : Nat → Option (Option Nat)) (r : vw_C) (hx : S x = some (sC ci sl)) (hxl : x ≠ l0) (hc9 : vwCl[ci]? = some r) (hca : Cond.castable r.1 "java/lang/Object" ∈ lw_tbl) : ab_Met l yJx4a65c_add_72be8 cJx4a65c_add_72be8 4 none { frames := 5, cells := 1, slots := 60, locals := 127 } 1 60 [aR l0, aR x, aR (1000200 + 2), aI (F l0 2)] S F A (fun v S' F' A' => v = none ∧ A = A' ∧ F' = upF F l0 2 (F l0 2 + 1) ∧ ∃ (e' N' : Nat) (c' : Nat → Option Nat), S' l0 = some (sC 0 (slL e')) ∧ S' e' = some (sO N' c') ∧ ((F l0 2 = 0 ∧ N' = 10) ∨ (0 < F l0 2 ∧ F l0 2 < n0 ∧ N' = n0) ∨ (0 < F l0 2 ∧ F l0 2 = n0 ∧ F l0 2 < N' ∧ N' ≤ 60)) ∧ (∀ j : Nat, (j : Int) < F l0 2 → c' j = f j) ∧ c' (F l0 2).toNat = some x ∧ (∀ i, i ≠ l0 → i ≠ e' → S' i = S i) ∧ ((e' = q ∧ (F l0 2 = 0 ∨ F l0 2 = n0)) ∨ (0 < F l0 2 ∧ e' = e))) := by
  refine ab_enter (by decide) (by simp [aI, aR, aX, ab_val, Value.category]) (Nat.le_of_ble_eq_true rfl) (fun E C hr => ?_)
  refine j_eq (lv' := [some (aR l0), some (aR x), some (aR (1000200 + 2)), some (aI (F l0 2))]) ?_
  have hxq : x ≠ q := fun z => by rw [z, hq] at hx; cases hx
  refine j_iload_n C dJx4a65c_add_72be8_0 rfl rfl ?_
  refine j_aload_n C dJx4a65c_add_72be8_1 rfl rfl ?_
  refine j_len0 C dJx4a65c_add_72be8_2 ?_
  refine j_icmp_ne C (tgt := 11) dJx4a65c_add_72be8_3 (by decide) ⟨by omega, by omega⟩ ⟨by omega, by omega⟩ (fun c3 => ?_) (fun c3 => ?_)
  · exact absurd hs c3
  · refine j_aload_n C dJx4a65c_add_72be8_6 rfl rfl ?_
    refine j_callV C (vs := []) (st := []) cl_Jx4a65c_129 im_yJx4a65c_grow_d5877 se_yJx4a65c_grow_d5877 (fun _ => (t_grow0B _ S F A _ q hl hs hq hq6 hql)) (hl) rfl rfl rfl ⟨rfl, rfl, by decide, by decide⟩ ⟨by decide, by decide⟩ (fun _ => Nat.le_of_ble_eq_true rfl) (fun v hv => by cases hv) (fun v hv => by simp only [List.mem_cons, List.not_mem_nil, or_false, Option.some.injEq, reduceCtorEq, false_or] at hv; rcases hv with rfl | rfl | rfl | rfl <;> first | exact (lK (by omega)) | exact (lS (hl)) | exact (lS (hx)) | exact trivial) dJx4a65c_add_72be8_7 (fun v_7 S_7 F_7 A_7 hP_7 => ?_)
    obtain ⟨rfl, rfl, rfl, rfl⟩ := hP_7
    show ab_J E 4 1 60 (upS (upS S q (sO 10 (fun _ => none))) l0 (sC 0 (slL q))) F A 10 [some (aR l0), some (aR x), some (aR (1000200 + 2)), some (aI (F l0 2))] [aR q]
    refine j_astore_n C (lv' := [some (aR l0), some (aR x), some (aR q), some (aI (F l0 2))]) dJx4a65c_add_72be8_10 rfl (by decide) rfl ?_
    refine j_aload_n C dJx4a65c_add_72be8_11 rfl rfl ?_
    refine j_iload_n C dJx4a65c_add_72be8_12 rfl rfl ?_
    refine j_aload_n C dJx4a65c_add_72be8_13 rfl rfl ?_
    refine j_aast C (((upS_ne (by omega)).trans (upS_at _ _ _))) (((upS_ne (by omega)).trans (((upS_ne (by omega)).trans (hx))))) hc9 hca (by omega) (by omega) (by omega) dJx4a65c_add_72be8_14 ?_
    refine j_aload_n C dJx4a65c_add_72be8_15 rfl rfl ?_
    refine j_iload_n C dJx4a65c_add_72be8_16 rfl rfl ?_
    refine j_iconst C dJx4a65c_add_72be8_17 ?_
    refine j_iadd C dJx4a65c_add_72be8_18 ?_
    refine j_putI C fp_Jx4a65c_48 (((upS_ne (by omega)).trans (upS_at _ _ _))) rfl dJx4a65c_add_72be8_19 ?_
    exact j_vret C hr (Nat.le_refl _) (Nat.le_refl _) dJx4a65c_add_72be8_22 ⟨rfl, rfl, rfl, q, 10, _, (upS_ne hql).trans (upS_at _ _ _), upS_at _ _ _, Or.inl ⟨hs, rfl⟩, fun j hj => by omega, upC_at _ _ _, fun i q1 q2 => (upS_ne q2).trans ((upS_ne q1).trans (upS_ne q2)), Or.inl ⟨rfl, Or.inl hs⟩⟩

set_option maxHeartbeats 4000000 in
set_option maxRecDepth 100000 in
theorem t_add3C (l : Launch) (S : ab_St) (F : ab_Fn) (A : ab_An) (l0 e q n0 : Nat) (f : Nat → Option Nat) (hl : S l0 = some (sC 0 (slL e))) (he : S e = some (sO n0 f)) (hq : S q = none) (hq6 : q < 1000000) (hql : l0 ≠ q) (hn0 : 10 ≤ n0 ∧ n0 ≤ 40) (hel : ∀ q : Nat, (q : Int) < n0 → ∀ x, f q = some x → ∃ (ci : Nat) (sl : Nat → Option (Option Nat)) (r : vw_C), S x = some (sC ci sl) ∧ vwCl[ci]? = some r ∧ Cond.castable r.1 "java/lang/Object" ∈ lw_tbl) (hs : F l0 2 = n0) (x ci : Nat) (sl : Nat → Option (Option Nat)) (r : vw_C) (hx : S x = some (sC ci sl)) (hxl : x ≠ l0) (hc9 : vwCl[ci]? = some r) (hca : Cond.castable r.1 "java/lang/Object" ∈ lw_tbl) : ab_Met l yJx4a65c_add_72be8 cJx4a65c_add_72be8 4 none { frames := 5, cells := 1, slots := 60, locals := 127 } 1 60 [aR l0, aR x, aR e, aI (F l0 2)] S F A (fun v S' F' A' => v = none ∧ A = A' ∧ F' = upF F l0 2 (F l0 2 + 1) ∧ ∃ (e' N' : Nat) (c' : Nat → Option Nat), S' l0 = some (sC 0 (slL e')) ∧ S' e' = some (sO N' c') ∧ ((F l0 2 = 0 ∧ N' = 10) ∨ (0 < F l0 2 ∧ F l0 2 < n0 ∧ N' = n0) ∨ (0 < F l0 2 ∧ F l0 2 = n0 ∧ F l0 2 < N' ∧ N' ≤ 60)) ∧ (∀ j : Nat, (j : Int) < F l0 2 → c' j = f j) ∧ c' (F l0 2).toNat = some x ∧ (∀ i, i ≠ l0 → i ≠ e' → S' i = S i) ∧ ((e' = q ∧ (F l0 2 = 0 ∨ F l0 2 = n0)) ∨ (0 < F l0 2 ∧ e' = e))) := by
  refine ab_enter (by decide) (by simp [aI, aR, aX, ab_val, Value.category]) (Nat.le_of_ble_eq_true rfl) (fun E C hr => ?_)
  refine j_eq (lv' := [some (aR l0), some (aR x), some (aR e), some (aI (F l0 2))]) ?_
  have hxq : x ≠ q := fun z => by rw [z, hq] at hx; cases hx
  refine j_iload_n C dJx4a65c_add_72be8_0 rfl rfl ?_
  refine j_aload_n C dJx4a65c_add_72be8_1 rfl rfl ?_
  refine j_olen C (he) dJx4a65c_add_72be8_2 ?_
  refine j_icmp_ne C (tgt := 11) dJx4a65c_add_72be8_3 (by decide) ⟨by omega, by omega⟩ ⟨by omega, by omega⟩ (fun c3 => ?_) (fun c3 => ?_)
  · exact absurd hs c3
  · refine j_aload_n C dJx4a65c_add_72be8_6 rfl rfl ?_
    refine j_callV C (vs := []) (st := []) cl_Jx4a65c_129 im_yJx4a65c_grow_d5877 se_yJx4a65c_grow_d5877 (fun _ => (t_grow0C _ S F A _ _ q _ _ hl he hq hq6 hql hn0 hel hs)) (hl) rfl rfl rfl ⟨rfl, rfl, by decide, by decide⟩ ⟨by decide, by decide⟩ (fun _ => Nat.le_of_ble_eq_true rfl) (fun v hv => by cases hv) (fun v hv => by simp only [List.mem_cons, List.not_mem_nil, or_false, Option.some.injEq, reduceCtorEq, false_or] at hv; rcases hv with rfl | rfl | rfl | rfl <;> first | exact (lS (he)) | exact (lS (hl)) | exact (lS (hx)) | exact trivial) dJx4a65c_add_72be8_7 (fun v_7 S_7 F_7 A_7 hP_7 => ?_)
    obtain ⟨rfl, rfl, rfl, rfl⟩ := hP_7
    show ab_J E 4 1 60 (upS (upS S q (sO ((n0 : Int) + max 1 ((n0 : Int) / 2)).toNat (fun j => if (j : Int) < n0 then f j else none))) l0 (sC 0 (slL q))) F A 10 [some (aR l0), some (aR x), some (aR e), some (aI (F l0 2))] [aR q]
    refine j_astore_n C (lv' := [some (aR l0), some (aR x), some (aR q), some (aI (F l0 2))]) dJx4a65c_add_72be8_10 rfl (by decide) rfl ?_
    refine j_aload_n C dJx4a65c_add_72be8_11 rfl rfl ?_
    refine j_iload_n C dJx4a65c_add_72be8_12 rfl rfl ?_
    refine j_aload_n C dJx4a65c_add_72be8_13 rfl rfl ?_
    refine j_aast C (((upS_ne (by omega)).trans (upS_at _ _ _))) (((upS_ne (by omega)).trans (((upS_ne (by omega)).trans (hx))))) hc9 hca (by omega) (by omega) (by omega) dJx4a65c_add_72be8_14 ?_
    refine j_aload_n C dJx4a65c_add_72be8_15 rfl rfl ?_
    refine j_iload_n C dJx4a65c_add_72be8_16 rfl rfl ?_
    refine j_iconst C dJx4a65c_add_72be8_17 ?_
    refine j_iadd C dJx4a65c_add_72be8_18 ?_
    refine j_putI C fp_Jx4a65c_48 (((upS_ne (by omega)).trans (upS_at _ _ _))) rfl dJx4a65c_add_72be8_19 ?_
    exact j_vret C hr (Nat.le_refl _) (Nat.le_refl _) dJx4a65c_add_72be8_22 ⟨rfl, rfl, rfl, q, _, _, (upS_ne hql).trans (upS_at _ _ _), upS_at _ _ _, Or.inr (Or.inr ⟨by omega, hs, by omega, by omega⟩), fun j hj => (upC_ne (by omega)).trans (if_pos (by omega)), upC_at _ _ _, fun i q1 q2 => (upS_ne q2).trans ((upS_ne q1).trans (upS_ne q2)), Or.inl ⟨rfl, Or.inr hs⟩⟩

theorem t_add3 (l : Launch) (S : ab_St) (F : ab_Fn) (A : ab_An) (n : Int) (l0 e q n0 : Nat) (f : Nat → Option Nat) (hl : S l0 = some (sC 0 (slL e))) (hE : (F l0 2 = 0 ∧ e = 1000200 + 2) ∨ (0 < F l0 2 ∧ F l0 2 ≤ n0 ∧ (F l0 2 = n0 → 10 ≤ n0 ∧ n0 ≤ 40) ∧ n0 ≤ 60 ∧ S e = some (sO n0 f) ∧ l0 ≠ e)) (hq : S q = none) (hq6 : q < 1000000) (hql : l0 ≠ q) (hel : ∀ q : Nat, (q : Int) < F l0 2 → ∀ x, f q = some x → ∃ (ci : Nat) (sl : Nat → Option (Option Nat)) (r : vw_C), S x = some (sC ci sl) ∧ vwCl[ci]? = some r ∧ Cond.castable r.1 "java/lang/Object" ∈ lw_tbl) (x ci : Nat) (sl : Nat → Option (Option Nat)) (r : vw_C) (hx : S x = some (sC ci sl)) (hxl : x ≠ l0) (hc9 : vwCl[ci]? = some r) (hca : Cond.castable r.1 "java/lang/Object" ∈ lw_tbl) (hn : n = F l0 2) : ab_Met l yJx4a65c_add_72be8 cJx4a65c_add_72be8 4 none { frames := 5, cells := 1, slots := 60, locals := 127 } 1 60 [aR l0, aR x, aR e, aI n] S F A (fun v S' F' A' => v = none ∧ A = A' ∧ F' = upF F l0 2 (F l0 2 + 1) ∧ ∃ (e' N' : Nat) (c' : Nat → Option Nat), S' l0 = some (sC 0 (slL e')) ∧ S' e' = some (sO N' c') ∧ ((F l0 2 = 0 ∧ N' = 10) ∨ (0 < F l0 2 ∧ F l0 2 < n0 ∧ N' = n0) ∨ (0 < F l0 2 ∧ F l0 2 = n0 ∧ F l0 2 < N' ∧ N' ≤ 60)) ∧ (∀ j : Nat, (j : Int) < F l0 2 → c' j = f j) ∧ c' (F l0 2).toNat = some x ∧ (∀ i, i ≠ l0 → i ≠ e' → S' i = S i) ∧ ((e' = q ∧ (F l0 2 = 0 ∨ F l0 2 = n0)) ∨ (0 < F l0 2 ∧ e' = e))) := by
  subst hn
  rcases hE with ⟨h1, h2⟩ | ⟨h1, h2, h3, h4, h5, h6⟩
  · subst h2
    exact t_add3B l S F A l0 (1000200 + 2) q n0 f hl hq hq6 hql h1 x ci sl r hx hxl hc9 hca
  · by_cases h7 : F l0 2 = n0
    · exact t_add3C l S F A l0 e q n0 f hl h5 hq hq6 hql (h3 h7) (by rw [← h7]; exact hel) h7 x ci sl r hx hxl hc9 hca
    · exact t_add3A l S F A l0 e q n0 f hl h5 h6 ⟨h1, by omega⟩ h4 x ci sl r hx hxl hc9 hca

set_option maxHeartbeats 4000000 in
set_option maxRecDepth 100000 in
theorem t_add (l : Launch) (S : ab_St) (F : ab_Fn) (A : ab_An) (l0 e q n0 : Nat) (f : Nat → Option Nat) (hl : S l0 = some (sC 0 (slL e))) (hE : (F l0 2 = 0 ∧ e = 1000200 + 2) ∨ (0 < F l0 2 ∧ F l0 2 ≤ n0 ∧ (F l0 2 = n0 → 10 ≤ n0 ∧ n0 ≤ 40) ∧ n0 ≤ 60 ∧ S e = some (sO n0 f) ∧ l0 ≠ e)) (hq : S q = none) (hq6 : q < 1000000) (hql : l0 ≠ q) (hel : ∀ q : Nat, (q : Int) < F l0 2 → ∀ x, f q = some x → ∃ (ci : Nat) (sl : Nat → Option (Option Nat)) (r : vw_C), S x = some (sC ci sl) ∧ vwCl[ci]? = some r ∧ Cond.castable r.1 "java/lang/Object" ∈ lw_tbl) (x ci : Nat) (sl : Nat → Option (Option Nat)) (r : vw_C) (hx : S x = some (sC ci sl)) (hxl : x ≠ l0) (hc9 : vwCl[ci]? = some r) (hca : Cond.castable r.1 "java/lang/Object" ∈ lw_tbl) : ab_Met l yJx4a65c_add_9ea2d cJx4a65c_add_9ea2d 2 (some .boolean) { frames := 6, cells := 1, slots := 60, locals := 150 } 1 60 [aR l0, aR x] S F A (fun v S' F' A' => v = some (aI 1) ∧ A = A' ∧ F' = upF (upF F l0 0 (F l0 0 + 1)) l0 2 (F l0 2 + 1) ∧ ∃ (e' N' : Nat) (c' : Nat → Option Nat), S' l0 = some (sC 0 (slL e')) ∧ S' e' = some (sO N' c') ∧ ((F l0 2 = 0 ∧ N' = 10) ∨ (0 < F l0 2 ∧ F l0 2 < n0 ∧ N' = n0) ∨ (0 < F l0 2 ∧ F l0 2 = n0 ∧ F l0 2 < N' ∧ N' ≤ 60)) ∧ (∀ j : Nat, (j : Int) < F l0 2 → c' j = f j) ∧ c' (F l0 2).toNat = some x ∧ (∀ i, i ≠ l0 → i ≠ e' → S' i = S i) ∧ ((e' = q ∧ (F l0 2 = 0 ∨ F l0 2 = n0)) ∨ (0 < F l0 2 ∧ e' = e))) := by
  refine ab_enter (by decide) (by simp [aI, aR, aX, ab_val, Value.category]) (Nat.le_of_ble_eq_true rfl) (fun E C hr => ?_)
  refine j_eq (lv' := [some (aR l0), some (aR x)]) ?_
  have live_e : ab_live S (aR e) := by
    rcases hE with ⟨h1, h2⟩ | ⟨h1, h2, h3, h4, h5, h6⟩
    · subst h2; exact lK (by omega)
    · exact lS h5
  refine j_aload_n C dJx4a65c_add_9ea2d_0 rfl rfl ?_
  refine j_dup C dJx4a65c_add_9ea2d_1 (fun _ => rfl) ?_
  refine j_get C (aI (F l0 0)) fl_Jx4a65c_63 (hl) (fun _ => rfl) dJx4a65c_add_9ea2d_2 ?_
  refine j_iconst C dJx4a65c_add_9ea2d_5 ?_
  refine j_iadd C dJx4a65c_add_9ea2d_6 ?_
  refine j_putI C fp_Jx4a65c_63 (hl) rfl dJx4a65c_add_9ea2d_7 ?_
  refine j_aload_n C dJx4a65c_add_9ea2d_10 rfl rfl ?_
  refine j_aload_n C dJx4a65c_add_9ea2d_11 rfl rfl ?_
  refine j_aload_n C dJx4a65c_add_9ea2d_12 rfl rfl ?_
  refine j_getR C (j := e) fl_Jx4a65c_9 (hl) rfl dJx4a65c_add_9ea2d_13 ?_
  refine j_aload_n C dJx4a65c_add_9ea2d_16 rfl rfl ?_
  refine j_get C (aI (F l0 2)) fl_Jx4a65c_48 (hl) (fun _ => congrArg (fun z => Value.int (Int32.ofInt z)) ((upF_ne (by decide)).trans (rfl))) dJx4a65c_add_9ea2d_17 ?_
  refine j_callV C (vs := [aR x, aR e, aI (F l0 2)]) (st := []) cl_Jx4a65c_131 im_yJx4a65c_add_72be8 se_yJx4a65c_add_72be8 (fun _ => (t_add3 _ S (upF F l0 0 ((F l0 0) + 1)) A _ _ _ q n0 f hl (by rw [upF_ne (by decide)]; exact hE) hq hq6 hql (by rw [upF_ne (by decide)]; exact hel) x ci sl r hx hxl hc9 hca (upF_ne (by decide)).symm)) (hl) rfl rfl rfl ⟨rfl, rfl, by decide, by decide⟩ ⟨by decide, by decide⟩ (fun _ => Nat.le_of_ble_eq_true rfl) (fun v hv => by cases hv) (fun v hv => by simp only [List.mem_cons, List.not_mem_nil, or_false, Option.some.injEq, reduceCtorEq, false_or] at hv; rcases hv with rfl | rfl <;> first | exact (lS (hl)) | exact (lS (hx))) dJx4a65c_add_9ea2d_20 (fun v_20 S_20 F_20 A_20 hP_20 => ?_)
  obtain ⟨rfl, rfl, hF20, e', N', c', h1, h2, h3, h4, h5, h6, h7⟩ := hP_20
  rw [upF_ne (by decide)] at hF20 h3 h4 h5 h7
  show ab_J E 2 1 60 S_20 F_20 A 23 [some (aR l0), some (aR x)] []
  refine j_iconst C dJx4a65c_add_9ea2d_23 ?_
  exact j_zret C hr rfl (Nat.le_refl _) (Nat.le_refl _) dJx4a65c_add_9ea2d_24 ⟨rfl, rfl, hF20, e', N', c', h1, h2, h3, h4, h5, h6, h7⟩
