set_option maxHeartbeats 4000000 in
set_option maxRecDepth 100000 in
theorem c_openAll (l : Launch) (S : ab_St) (F : ab_Fn) (A : ab_An) (hS : ab_SC S) (hl : ∀ k, 0 ≤ k → k < 280 → A 11 k = 0 ∨ A 11 k = 1) : ab_Met l yX1_openAllBut cX1_openAllBut 3 none { frames := 0, cells := 0, slots := 0, locals := 0 } 0 0 [aR 9, aR 11] S F A (fun v S' F' A' => S = S' ∧ F = F' ∧ v = none ∧ A' = setRow A 22 0 280 (A 11)) := by
  refine ab_enter (by decide) (by simp [aI, aR, aX, ab_val, Value.category]) (Nat.le_of_ble_eq_true rfl) (fun E C hr => ?_)
  refine j_eq (lv' := [some (aR 9), some (aR 11), none]) ?_
  refine j_iconst C dX1_openAllBut_0 ?_
  refine j_istore_n C (lv' := [some (aR 9), some (aR 11), some (aI 0)]) dX1_openAllBut_1 rfl (by decide) rfl ?_
  have K2 : ∀ (N : Nat) (k : Int), (0 ≤ k ∧ k ≤ 280) → ((280 - k).toNat) < N → ab_J E 3 0 0 S F (setRow A 22 0 k (A 11)) 2 [some (aR 9), some (aR 11), some (aI k)] [] := by
    intro N
    induction N with
    | zero => intro k hk hm; exact absurd hm (Nat.not_lt_zero _)
    | succ N ih =>
      have ih2 := ih
      clear ih
      intro k hk hm2
      refine j_iload_n C dX1_openAllBut_2 rfl rfl ?_
      refine j_sipush C dX1_openAllBut_3 rfl ?_
      refine j_icmp_ge C (tgt := 30) dX1_openAllBut_6 (by decide) ⟨by omega, by omega⟩ ⟨by omega, by omega⟩ (fun c6 => ?_) (fun c6 => ?_)
      · exact j_vret C hr (Nat.le_refl _) (Nat.le_refl _) dX1_openAllBut_30 ⟨rfl, rfl, rfl, by rw [show k = 280 by omega]⟩
      · refine j_iload_n C dX1_openAllBut_9 rfl rfl ?_
        refine j_aload_n C dX1_openAllBut_10 rfl rfl ?_
        refine j_alen C ((sC_11 hS)) 2 (fun _ => rfl) dX1_openAllBut_11 ?_
        refine j_eq (st' := [aI 280, aI k]) ?_
        refine j_icmp_ge C (tgt := 30) dX1_openAllBut_12 (by decide) ⟨by omega, by omega⟩ ⟨by omega, by omega⟩ (fun c12 => ?_) (fun c12 => ?_)
        · exact absurd c12 (by omega)
        · refine j_aload_n C dX1_openAllBut_15 rfl rfl ?_
          refine j_getR C (j := 22) fl_X1_9 ((sC_9 hS)) rfl dX1_openAllBut_16 ?_
          refine j_iload_n C dX1_openAllBut_19 rfl rfl ?_
          refine j_aload_n C dX1_openAllBut_20 rfl rfl ?_
          refine j_iload_n C dX1_openAllBut_21 rfl rfl ?_
          refine j_zald C ((sC_11 hS)) (by omega) (by omega) (by decide) dX1_openAllBut_22 ?_
          refine j_eq (st' := [aI (A 11 k), aI k, aR 22]) ?_ (e1 := by first | rfl | (simp only [List.cons.injEq, and_true]; exact congrArg aI ((by rw [setRow_other (by decide)]))))
          have hl9 := hl k (by omega) (by omega)
          refine j_zast C ((sC_22 hS)) (by omega) (by omega) (by decide) (by omega) dX1_openAllBut_23 ?_
          refine j_iinc C (lv' := [some (aR 9), some (aR 11), some (aI (k + 1))]) dX1_openAllBut_24 rfl (by decide) rfl ?_
          refine j_goto C (tgt := 2) dX1_openAllBut_27 (by decide) ?_
          refine j_eq (A' := (setRow A 22 0 (k + 1) (A 11))) ?_ (e4 := (setRow_up (by omega) (by omega) rfl))
          exact ih2 (k + 1) (by omega) (by omega)
  refine j_eq (A' := (setRow A 22 0 0 (A 11))) ?_ (e4 := (setRow_0 _ _ _ _))
  exact K2 _ 0 (by omega) (Nat.lt_succ_self _)

set_option maxHeartbeats 4000000 in
set_option maxRecDepth 100000 in
theorem c_shut (l : Launch) (S : ab_St) (F : ab_Fn) (A : ab_An) (hS : ab_SC S) (w : Nat) (hwO : S (300 + w) = some (sC 9 (slW (350 + w) (400 + w) (450 + w)))) (hwZ : S (450 + w) = some (sA .int 14)) (e : Int → Int) (he : ∀ s, e s = 0 ∨ e s = 1) (hwb : ∀ y, 0 ≤ y → y < 14 → A (450 + w) y = wb e y 20) : ab_Met l yX1_shut cX1_shut 3 none { frames := 0, cells := 0, slots := 0, locals := 0 } 0 0 [aR 9, aR (300 + w)] S F A (fun v S' F' A' => S = S' ∧ F = F' ∧ v = none ∧ (∀ i, i ≠ 22 → A' i = A i) ∧ ∀ k, 0 ≤ k → k < 280 → A' 22 k = if e k = 1 then 1 else A 22 k) := by
  refine ab_enter (by decide) (by simp [aI, aR, aX, ab_val, Value.category]) (Nat.le_of_ble_eq_true rfl) (fun E C hr => ?_)
  refine j_eq (lv' := [some (aR 9), some (aR (300 + w)), none]) ?_
  refine j_iconst C dX1_shut_0 ?_
  refine j_istore_n C (lv' := [some (aR 9), some (aR (300 + w)), some (aI 0)]) dX1_shut_1 rfl (by decide) rfl ?_
  have K2 : ∀ (N : Nat) (k : Int) (B : ab_An), (0 ≤ k ∧ k ≤ 280) → (∀ i, i ≠ 22 → B i = A i) → (∀ j, 0 ≤ j → j < k → B 22 j = if e j = 1 then 1 else A 22 j) → (∀ j, k ≤ j → j < 280 → B 22 j = A 22 j) → ((280 - k).toNat) < N → ab_J E 3 0 0 S F B 2 [some (aR 9), some (aR (300 + w)), some (aI k)] [] := by
    intro N
    induction N with
    | zero => intro k B hk hO h1 h2 hm; exact absurd hm (Nat.not_lt_zero _)
    | succ N ih =>
      have ih2 := ih
      clear ih
      intro k B hk hO h1 h2 hm2
      refine j_iload_n C dX1_shut_2 rfl rfl ?_
      refine j_sipush C dX1_shut_3 rfl ?_
      refine j_icmp_ge C (tgt := 41) dX1_shut_6 (by decide) ⟨by omega, by omega⟩ ⟨by omega, by omega⟩ (fun c6 => ?_) (fun c6 => ?_)
      · exact j_vret C hr (Nat.le_refl _) (Nat.le_refl _) dX1_shut_41 ⟨rfl, rfl, rfl, hO, fun j a c => h1 j a (by omega)⟩
      · refine j_aload_n C dX1_shut_9 rfl rfl ?_
        refine j_getR C (j := (450 + w)) fl_X1_26 (hwO) rfl dX1_shut_10 ?_
        refine j_iload_n C dX1_shut_13 rfl rfl ?_
        refine j_bipush C dX1_shut_14 rfl ?_
        refine j_idiv C dX1_shut_16 (by omega) (by omega) (by omega) (by omega) ?_
        refine j_iald C (hwZ) (by omega) (by omega) (by decide) dX1_shut_17 ?_
        refine j_eq (st' := [aI (wb e (k / 20) 20)]) ?_ (e1 := by first | rfl | (simp only [List.cons.injEq, and_true]; exact congrArg aI ((by rw [hO _ (by omega)]; exact hwb _ (by omega) (by omega)))))
        refine j_iload_n C dX1_shut_18 rfl rfl ?_
        refine j_bipush C dX1_shut_19 rfl ?_
        refine j_irem C dX1_shut_21 (by omega) (by omega) (by omega) (by omega) ?_
        refine j_ishr C dX1_shut_22 ?_
        refine j_eq (st' := [aI (wb e (k / 20) 20 / 2 ^ (k % 20).toNat)]) ?_ (e1 := by first | rfl | (simp only [List.cons.injEq, and_true]; exact congrArg aI ((by have q := wb_lt (y := k / 20) he 20; have q2 := ab_shr (a := wb e (k / 20) 20) ⟨by have := q.1; show -2147483648 ≤ wb e (k / 20) ((20 : Nat) : Int); omega, by have := q.2; show wb e (k / 20) ((20 : Nat) : Int) < _; omega⟩ (k % 20).toNat (by omega); rw [show (((k % 20).toNat : Nat) : Int) = k % 20 by omega] at q2; exact q2))))
        refine j_iconst C dX1_shut_23 ?_
        refine j_iand C dX1_shut_24 ?_
        refine j_eq (st' := [aI (e k)]) ?_ (e1 := by first | rfl | (simp only [List.cons.injEq, and_true]; exact congrArg aI ((by rw [ab_and1]; have q := wb_bit (y := k / 20) he (x := (k % 20).toNat) 20 (by omega); rw [show (((k % 20).toNat : Nat) : Int) = k % 20 by omega, show 20 * (k / 20) + k % 20 = k by omega] at q; exact q))))
        have he9 := he k
        refine j_if_eq C (tgt := 35) dX1_shut_25 (by decide) ⟨by omega, by omega⟩ (fun c25 => ?_) (fun c25 => ?_)
        · refine j_iinc C (lv' := [some (aR 9), some (aR (300 + w)), some (aI (k + 1))]) dX1_shut_35 rfl (by decide) rfl ?_
          refine j_goto C (tgt := 2) dX1_shut_38 (by decide) ?_
          exact ih2 (k + 1) B (by omega) hO (fun j a c => if q : j = k then by rw [q, if_neg (by omega)]; exact h2 k (by omega) (by omega) else h1 j a (by omega)) (fun j a c => h2 j (by omega) c) (by omega)
        · refine j_aload_n C dX1_shut_28 rfl rfl ?_
          refine j_getR C (j := 22) fl_X1_9 ((sC_9 hS)) rfl dX1_shut_29 ?_
          refine j_iload_n C dX1_shut_32 rfl rfl ?_
          refine j_iconst C dX1_shut_33 ?_
          refine j_zast C ((sC_22 hS)) (by omega) (by omega) (by decide) (Or.inr rfl) dX1_shut_34 ?_
          refine j_iinc C (lv' := [some (aR 9), some (aR (300 + w)), some (aI (k + 1))]) dX1_shut_35 rfl (by decide) rfl ?_
          refine j_goto C (tgt := 2) dX1_shut_38 (by decide) ?_
          exact ih2 (k + 1) ((upA B 22 k 1)) (by omega) (fun i q => by rw [upA_other q]; exact hO i q) (fun j a c => if q : j = k then by rw [q, upA_at, if_pos (by omega)] else by rw [upA_ne q]; exact h1 j a (by omega)) (fun j a c => by rw [upA_ne (by omega)]; exact h2 j (by omega) c) (by omega)
  exact K2 _ 0 A (by omega) (fun _ _ => rfl) (fun j a c => by omega) (fun _ _ _ => rfl) (Nat.lt_succ_self _)

set_option maxHeartbeats 4000000 in
set_option maxRecDepth 100000 in
theorem c_isShut (l : Launch) (S : ab_St) (F : ab_Fn) (A : ab_An) (hS : ab_SC S) (sq : Int) (rs : inR sq) (h22 : ∀ k, 0 ≤ k → k < 280 → A 22 k = 0 ∨ A 22 k = 1) : ab_Met l yX1_isShut cX1_isShut 2 (some .boolean) { frames := 0, cells := 0, slots := 0, locals := 0 } 0 0 [aR 9, aI sq] S F A (fun v S' F' A' => S = S' ∧ F = F' ∧ A = A' ∧ ∃ z : Int, v = some (aI z) ∧ zb z (¬ ((0 ≤ sq ∧ sq < 280) ∧ A 22 sq = 0))) := by
  refine ab_enter (by decide) (by simp [aI, aR, aX, ab_val, Value.category]) (Nat.le_of_ble_eq_true rfl) (fun E C hr => ?_)
  refine j_eq (lv' := [some (aR 9), some (aI sq)]) ?_
  refine j_iload_n C dX1_isShut_0 rfl rfl ?_
  refine j_if_lt C (tgt := 20) dX1_isShut_1 (by decide) rs (fun c1 => ?_) (fun c1 => ?_)
  · refine j_iconst C dX1_isShut_20 ?_
    refine j_goto C (tgt := 25) dX1_isShut_21 (by decide) ?_
    exact j_zret C hr (ab_nz01 (by omega)) (Nat.le_refl _) (Nat.le_refl _) dX1_isShut_25 ⟨rfl, rfl, rfl, _, rfl, by unfold zb; omega⟩
  · refine j_iload_n C dX1_isShut_4 rfl rfl ?_
    refine j_sipush C dX1_isShut_5 rfl ?_
    refine j_icmp_ge C (tgt := 20) dX1_isShut_8 (by decide) rs ⟨by omega, by omega⟩ (fun c8 => ?_) (fun c8 => ?_)
    · refine j_iconst C dX1_isShut_20 ?_
      refine j_goto C (tgt := 25) dX1_isShut_21 (by decide) ?_
      exact j_zret C hr (ab_nz01 (by omega)) (Nat.le_refl _) (Nat.le_refl _) dX1_isShut_25 ⟨rfl, rfl, rfl, _, rfl, by unfold zb; omega⟩
    · refine j_aload_n C dX1_isShut_11 rfl rfl ?_
      refine j_getR C (j := 22) fl_X1_9 ((sC_9 hS)) rfl dX1_isShut_12 ?_
      refine j_iload_n C dX1_isShut_15 rfl rfl ?_
      refine j_zald C ((sC_22 hS)) (by omega) (by omega) (by decide) dX1_isShut_16 ?_
      have h229 := h22 sq (by omega) (by omega)
      refine j_if_eq C (tgt := 24) dX1_isShut_17 (by decide) ⟨by omega, by omega⟩ (fun c17 => ?_) (fun c17 => ?_)
      · refine j_iconst C dX1_isShut_24 ?_
        exact j_zret C hr (ab_nz01 (by omega)) (Nat.le_refl _) (Nat.le_refl _) dX1_isShut_25 ⟨rfl, rfl, rfl, _, rfl, by unfold zb; omega⟩
      · refine j_iconst C dX1_isShut_20 ?_
        refine j_goto C (tgt := 25) dX1_isShut_21 (by decide) ?_
        exact j_zret C hr (ab_nz01 (by omega)) (Nat.le_refl _) (Nat.le_refl _) dX1_isShut_25 ⟨rfl, rfl, rfl, _, rfl, by unfold zb; omega⟩

set_option maxHeartbeats 4000000 in
set_option maxRecDepth 100000 in
theorem c_meet (l : Launch) (S : ab_St) (F : ab_Fn) (A : ab_An) (hS : ab_SC S) (sq len : Int) (h1 : 0 ≤ sq ∧ sq < 280) (h2 : 0 ≤ len ∧ len ≤ 10000) (h3 : -1 ≤ A 23 sq ∧ A 23 sq ≤ 10000) (h4 : 0 ≤ F 9 3 ∧ F 9 3 ≤ 280) (h5 : A 23 sq = -1 → F 9 3 < 280) : ab_Met l yX1_meet cX1_meet 3 none { frames := 0, cells := 0, slots := 0, locals := 0 } 0 0 [aR 9, aI sq, aI len] S F A (fun v S' F' A' => S = S' ∧ v = none ∧ ((A 23 sq = -1 ∧ F' = upF F 9 3 (F 9 3 + 1) ∧ A' = upA (upA A 24 (F 9 3) sq) 23 sq len) ∨ (¬ A 23 sq = -1 ∧ len < A 23 sq ∧ F' = F ∧ A' = upA A 23 sq len) ∨ (¬ A 23 sq = -1 ∧ ¬ len < A 23 sq ∧ F' = F ∧ A' = A))) := by
  refine ab_enter (by decide) (by simp [aI, aR, aX, ab_val, Value.category]) (Nat.le_of_ble_eq_true rfl) (fun E C hr => ?_)
  refine j_eq (lv' := [some (aR 9), some (aI sq), some (aI len)]) ?_
  refine j_aload_n C dX1_meet_0 rfl rfl ?_
  refine j_getR C (j := 23) fl_X1_15 ((sC_9 hS)) rfl dX1_meet_1 ?_
  refine j_iload_n C dX1_meet_4 rfl rfl ?_
  refine j_iald C ((sC_23 hS)) (by omega) (by omega) (by decide) dX1_meet_5 ?_
  refine j_iconst C dX1_meet_6 ?_
  refine j_icmp_ne C (tgt := 50) dX1_meet_7 (by decide) ⟨by omega, by omega⟩ ⟨by omega, by omega⟩ (fun c7 => ?_) (fun c7 => ?_)
  · refine j_iload_n C dX1_meet_50 rfl rfl ?_
    refine j_aload_n C dX1_meet_51 rfl rfl ?_
    refine j_getR C (j := 23) fl_X1_15 ((sC_9 hS)) rfl dX1_meet_52 ?_
    refine j_iload_n C dX1_meet_55 rfl rfl ?_
    refine j_iald C ((sC_23 hS)) (by omega) (by omega) (by decide) dX1_meet_56 ?_
    refine j_icmp_ge C (tgt := 67) dX1_meet_57 (by decide) ⟨by omega, by omega⟩ ⟨by omega, by omega⟩ (fun c57 => ?_) (fun c57 => ?_)
    · exact j_vret C hr (Nat.le_refl _) (Nat.le_refl _) dX1_meet_67 ⟨rfl, rfl, (by first | exact Or.inl ⟨by omega, rfl, rfl⟩ | exact Or.inr (Or.inl ⟨by omega, by omega, rfl, rfl⟩) | exact Or.inr (Or.inr ⟨by omega, by omega, rfl, rfl⟩))⟩
    · refine j_aload_n C dX1_meet_60 rfl rfl ?_
      refine j_getR C (j := 23) fl_X1_15 ((sC_9 hS)) rfl dX1_meet_61 ?_
      refine j_iload_n C dX1_meet_64 rfl rfl ?_
      refine j_iload_n C dX1_meet_65 rfl rfl ?_
      refine j_iast C ((sC_23 hS)) (by omega) (by omega) (by decide) dX1_meet_66 ?_
      exact j_vret C hr (Nat.le_refl _) (Nat.le_refl _) dX1_meet_67 ⟨rfl, rfl, (by first | exact Or.inl ⟨by omega, rfl, rfl⟩ | exact Or.inr (Or.inl ⟨by omega, by omega, rfl, rfl⟩) | exact Or.inr (Or.inr ⟨by omega, by omega, rfl, rfl⟩))⟩
  · refine j_aload_n C dX1_meet_10 rfl rfl ?_
    refine j_get C (aI (F 9 3)) fl_X1_22 ((sC_9 hS)) (fun _ => rfl) dX1_meet_11 ?_
    refine j_sipush C dX1_meet_14 rfl ?_
    refine j_icmp_ge C (tgt := 50) dX1_meet_17 (by decide) ⟨by omega, by omega⟩ ⟨by omega, by omega⟩ (fun c17 => ?_) (fun c17 => ?_)
    · exact absurd c17 (by have := h5 (by omega); omega)
    · refine j_aload_n C dX1_meet_20 rfl rfl ?_
      refine j_getR C (j := 24) fl_X1_19 ((sC_9 hS)) rfl dX1_meet_21 ?_
      refine j_aload_n C dX1_meet_24 rfl rfl ?_
      refine j_get C (aI (F 9 3)) fl_X1_22 ((sC_9 hS)) (fun _ => rfl) dX1_meet_25 ?_
      refine j_iload_n C dX1_meet_28 rfl rfl ?_
      refine j_iast C ((sC_24 hS)) (by omega) (by omega) (by decide) dX1_meet_29 ?_
      refine j_aload_n C dX1_meet_30 rfl rfl ?_
      refine j_dup C dX1_meet_31 (fun _ => rfl) ?_
      refine j_get C (aI (F 9 3)) fl_X1_22 ((sC_9 hS)) (fun _ => rfl) dX1_meet_32 ?_
      refine j_iconst C dX1_meet_35 ?_
      refine j_iadd C dX1_meet_36 ?_
      refine j_putI C fp_X1_22 ((sC_9 hS)) rfl dX1_meet_37 ?_
      refine j_aload_n C dX1_meet_40 rfl rfl ?_
      refine j_getR C (j := 23) fl_X1_15 ((sC_9 hS)) rfl dX1_meet_41 ?_
      refine j_iload_n C dX1_meet_44 rfl rfl ?_
      refine j_iload_n C dX1_meet_45 rfl rfl ?_
      refine j_iast C ((sC_23 hS)) (by omega) (by omega) (by decide) dX1_meet_46 ?_
      refine j_goto C (tgt := 67) dX1_meet_47 (by decide) ?_
      exact j_vret C hr (Nat.le_refl _) (Nat.le_refl _) dX1_meet_67 ⟨rfl, rfl, (by first | exact Or.inl ⟨by omega, rfl, rfl⟩ | exact Or.inr (Or.inl ⟨by omega, by omega, rfl, rfl⟩) | exact Or.inr (Or.inr ⟨by omega, by omega, rfl, rfl⟩))⟩

set_option maxHeartbeats 4000000 in
set_option maxRecDepth 100000 in
theorem c_take (l : Launch) (S : ab_St) (F : ab_Fn) (A : ab_An) (hS : ab_SC S) (h1 : 0 < F 9 3 ∧ F 9 3 ≤ 280) (h2 : ∀ j, 0 ≤ j → j < F 9 3 → (0 ≤ A 24 j ∧ A 24 j < 280) ∧ inR (A 23 (A 24 j))) : ab_Met l yX1_takeNearest cX1_takeNearest 3 (some .int) { frames := 0, cells := 0, slots := 0, locals := 0 } 0 0 [aR 9] S F A (fun v S' F' A' => S = S' ∧ ∃ m : Int, (0 ≤ m ∧ m < F 9 3) ∧ v = some (aI (A 24 m)) ∧ (∀ j, 0 ≤ j → j < F 9 3 → A 23 (A 24 m) ≤ A 23 (A 24 j)) ∧ F' = upF F 9 3 (F 9 3 - 1) ∧ A' = upA A 24 m (A 24 (F 9 3 - 1))) := by
  refine ab_enter (by decide) (by simp [aI, aR, aX, ab_val, Value.category]) (Nat.le_of_ble_eq_true rfl) (fun E C hr => ?_)
  refine j_eq (lv' := [some (aR 9), none, none]) ?_
  refine j_iconst C dX1_takeNearest_0 ?_
  refine j_istore_n C (lv' := [some (aR 9), some (aI 0), none]) dX1_takeNearest_1 rfl (by decide) rfl ?_
  refine j_iconst C dX1_takeNearest_2 ?_
  refine j_istore_n C (lv' := [some (aR 9), some (aI 0), some (aI 1)]) dX1_takeNearest_3 rfl (by decide) rfl ?_
  have K4 : ∀ (N : Nat) (m k : Int), (1 ≤ k ∧ k ≤ F 9 3) → (0 ≤ m ∧ m < k) → (∀ j, 0 ≤ j → j < k → A 23 (A 24 m) ≤ A 23 (A 24 j)) → ((F 9 3 - k).toNat) < N → ab_J E 3 0 0 S F A 4 [some (aR 9), some (aI m), some (aI k)] [] := by
    intro N
    induction N with
    | zero => intro m k hk hm hmin hm; exact absurd hm (Nat.not_lt_zero _)
    | succ N ih =>
      have ih4 := ih
      clear ih
      intro m k hk hm hmin hm4
      refine j_iload_n C dX1_takeNearest_4 rfl rfl ?_
      refine j_aload_n C dX1_takeNearest_5 rfl rfl ?_
      refine j_get C (aI (F 9 3)) fl_X1_22 ((sC_9 hS)) (fun _ => rfl) dX1_takeNearest_6 ?_
      refine j_icmp_ge C (tgt := 45) dX1_takeNearest_9 (by decide) ⟨by omega, by omega⟩ ⟨by omega, by omega⟩ (fun c9 => ?_) (fun c9 => ?_)
      · refine j_aload_n C dX1_takeNearest_45 rfl rfl ?_
        refine j_getR C (j := 24) fl_X1_19 ((sC_9 hS)) rfl dX1_takeNearest_46 ?_
        refine j_iload_n C dX1_takeNearest_49 rfl rfl ?_
        refine j_iald C ((sC_24 hS)) (by omega) (by omega) (by decide) dX1_takeNearest_50 ?_
        refine j_istore_n C (lv' := [some (aR 9), some (aI m), some (aI (A 24 m))]) dX1_takeNearest_51 rfl (by decide) rfl ?_
        refine j_aload_n C dX1_takeNearest_52 rfl rfl ?_
        refine j_dup C dX1_takeNearest_53 (fun _ => rfl) ?_
        refine j_get C (aI (F 9 3)) fl_X1_22 ((sC_9 hS)) (fun _ => rfl) dX1_takeNearest_54 ?_
        refine j_iconst C dX1_takeNearest_57 ?_
        refine j_isub C dX1_takeNearest_58 ?_
        refine j_putI C fp_X1_22 ((sC_9 hS)) rfl dX1_takeNearest_59 ?_
        refine j_aload_n C dX1_takeNearest_62 rfl rfl ?_
        refine j_getR C (j := 24) fl_X1_19 ((sC_9 hS)) rfl dX1_takeNearest_63 ?_
        refine j_iload_n C dX1_takeNearest_66 rfl rfl ?_
        refine j_aload_n C dX1_takeNearest_67 rfl rfl ?_
        refine j_getR C (j := 24) fl_X1_19 ((sC_9 hS)) rfl dX1_takeNearest_68 ?_
        refine j_aload_n C dX1_takeNearest_71 rfl rfl ?_
        refine j_get C (aI ((F 9 3) - 1)) fl_X1_22 ((sC_9 hS)) (fun _ => rfl) dX1_takeNearest_72 ?_
        refine j_iald C ((sC_24 hS)) (by omega) (by omega) (by decide) dX1_takeNearest_75 ?_
        refine j_iast C ((sC_24 hS)) (by omega) (by omega) (by decide) dX1_takeNearest_76 ?_
        refine j_iload_n C dX1_takeNearest_77 rfl rfl ?_
        exact j_iret C hr (Nat.le_refl _) (Nat.le_refl _) dX1_takeNearest_78 ⟨rfl, m, by omega, rfl, fun j a c => hmin j a (by omega), rfl, rfl⟩
      · refine j_aload_n C dX1_takeNearest_12 rfl rfl ?_
        refine j_getR C (j := 23) fl_X1_15 ((sC_9 hS)) rfl dX1_takeNearest_13 ?_
        refine j_aload_n C dX1_takeNearest_16 rfl rfl ?_
        refine j_getR C (j := 24) fl_X1_19 ((sC_9 hS)) rfl dX1_takeNearest_17 ?_
        refine j_iload_n C dX1_takeNearest_20 rfl rfl ?_
        refine j_iald C ((sC_24 hS)) (by omega) (by omega) (by decide) dX1_takeNearest_21 ?_
        refine j_iald C ((sC_23 hS)) (h2 k (by omega) (by omega)).1.1 (h2 k (by omega) (by omega)).1.2 (by decide) dX1_takeNearest_22 ?_
        refine j_aload_n C dX1_takeNearest_23 rfl rfl ?_
        refine j_getR C (j := 23) fl_X1_15 ((sC_9 hS)) rfl dX1_takeNearest_24 ?_
        refine j_aload_n C dX1_takeNearest_27 rfl rfl ?_
        refine j_getR C (j := 24) fl_X1_19 ((sC_9 hS)) rfl dX1_takeNearest_28 ?_
        refine j_iload_n C dX1_takeNearest_31 rfl rfl ?_
        refine j_iald C ((sC_24 hS)) (by omega) (by omega) (by decide) dX1_takeNearest_32 ?_
        refine j_iald C ((sC_23 hS)) (h2 m (by omega) (by omega)).1.1 (h2 m (by omega) (by omega)).1.2 (by decide) dX1_takeNearest_33 ?_
        refine j_icmp_ge C (tgt := 39) dX1_takeNearest_34 (by decide) (h2 k (by omega) (by omega)).2 (h2 m (by omega) (by omega)).2 (fun c34 => ?_) (fun c34 => ?_)
        · refine j_iinc C (lv' := [some (aR 9), some (aI m), some (aI (k + 1))]) dX1_takeNearest_39 rfl (by decide) rfl ?_
          refine j_goto C (tgt := 4) dX1_takeNearest_42 (by decide) ?_
          exact ih4 m (k + 1) (by omega) (by omega) (fun j a c => if q : j = k then by rw [q]; exact c34 else hmin j a (by omega)) (by omega)
        · refine j_iload_n C dX1_takeNearest_37 rfl rfl ?_
          refine j_istore_n C (lv' := [some (aR 9), some (aI k), some (aI k)]) dX1_takeNearest_38 rfl (by decide) rfl ?_
          refine j_iinc C (lv' := [some (aR 9), some (aI k), some (aI (k + 1))]) dX1_takeNearest_39 rfl (by decide) rfl ?_
          refine j_goto C (tgt := 4) dX1_takeNearest_42 (by decide) ?_
          exact ih4 k (k + 1) (by omega) (by omega) (fun j a c => if q : j = k then by rw [q]; exact Int.le_refl _ else Int.le_trans (by omega) (hmin j a (by omega))) (by omega)
  exact K4 _ 0 1 (by omega) (by omega) (fun j a c => by rw [show j = 0 by omega]; exact Int.le_refl _) (Nat.lt_succ_self _)

set_option maxHeartbeats 4000000 in
set_option maxRecDepth 100000 in
theorem c_follow (l : Launch) (S : ab_St) (F : ab_Fn) (A : ab_An) (hS : ab_SC S) (op : Int → Prop) (hop : ∀ k, op k ↔ (0 ≤ k ∧ k < 280) ∧ A 22 k = 0) (a b i u : Int) (hi : 0 ≤ i ∧ i ≤ 280) (h22 : ∀ k, 0 ≤ k → k < 280 → A 22 k = 0 ∨ A 22 k = 1) (hW : FW op a b (A 23) (A 24) (F 9 3) i u 0) : ab_Met l yX1_follow cX1_follow 4 none { frames := 1, cells := 0, slots := 0, locals := 22 } 0 0 [aR 9, aI u] S F A (fun v S' F' A' => S = S' ∧ v = none ∧ DJ op a b (A' 23) (A' 24) (F' 9 3) i (-1) ∧ (∀ i, i ≠ 9 → F' i = F i) ∧ (∀ k, k ≠ 3 → F' 9 k = F 9 k) ∧ ∀ i, i ≠ 23 → i ≠ 24 → A' i = A i) := by
  refine ab_enter (by decide) (by simp [aI, aR, aX, ab_val, Value.category]) (Nat.le_of_ble_eq_true rfl) (fun E C hr => ?_)
  refine j_eq (lv' := [some (aR 9), some (aI u), none, none]) ?_
  have hu9 := hW.2.1.1
  refine j_iconst C dX1_follow_0 ?_
  refine j_istore_n C (lv' := [some (aR 9), some (aI u), some (aI 0), none]) dX1_follow_1 rfl (by decide) rfl ?_
  have K2 : ∀ (N : Nat) (q : Int) (G : ab_Fn) (B : ab_An), (0 ≤ q ∧ q ≤ 8) → (FW op a b (B 23) (B 24) (G 9 3) i u q) → (∀ i, i ≠ 9 → G i = F i) → (∀ k, k ≠ 3 → G 9 k = F 9 k) → (∀ i, i ≠ 23 → i ≠ 24 → B i = A i) → ((8 - q).toNat) < N → ab_J E 4 0 0 S G B 2 [some (aR 9), some (aI u), some (aI q), none] [] := by
    intro N
    induction N with
    | zero => intro q G B hq hW hGo hG9 hO hm; exact absurd hm (Nat.not_lt_zero _)
    | succ N ih =>
      have ih2 := ih
      clear ih
      intro q G B hq hW hGo hG9 hO hm2
      have hfu := hW.2.2.2.1
      have hcn := DJ_cnt hW.1
      refine j_iload_n C dX1_follow_2 rfl rfl ?_
      refine j_bipush C dX1_follow_3 rfl ?_
      refine j_icmp_ge C (tgt := 69) dX1_follow_5 (by decide) ⟨by omega, by omega⟩ ⟨by omega, by omega⟩ (fun c5 => ?_) (fun c5 => ?_)
      · exact j_vret C hr (Nat.le_refl _) (Nat.le_refl _) dX1_follow_69 ⟨rfl, rfl, FW_end (by rw [← show q = 8 by omega]; exact hW), hGo, hG9, hO⟩
      · refine j_iload_n C dX1_follow_8 rfl rfl ?_
        refine j_bipush C dX1_follow_9 rfl ?_
        refine j_irem C dX1_follow_11 (by omega) (by omega) (by omega) (by omega) ?_
        refine j_getsN C 0 (by decide) rfl (lw_t3 (List.mem_of_getElem? (i := 229) rfl)) (lw_t1 (List.mem_of_getElem? (i := 1) rfl)) (lw_t4 (List.mem_of_getElem? (i := 216) rfl)) dX1_follow_12 ?_
        refine j_iload_n C dX1_follow_15 rfl rfl ?_
        refine j_rdI C 0 (by decide) (by omega) (by show _ < (8 : Int); omega) dX1_follow_16 ?_
        refine j_eq (st' := [aI (dk q % 3 - 1), aI (u % 20)]) ?_ (e1 := by first | rfl | (simp only [List.cons.injEq, and_true]; exact congrArg aI (dk_x hq.1 (by omega))))
        refine j_iadd C dX1_follow_17 ?_
        refine j_iload_n C dX1_follow_18 rfl rfl ?_
        refine j_bipush C dX1_follow_19 rfl ?_
        refine j_idiv C dX1_follow_21 (by omega) (by omega) (by omega) (by omega) ?_
        refine j_getsN C 1 (by decide) rfl (lw_t3 (List.mem_of_getElem? (i := 231) rfl)) (lw_t1 (List.mem_of_getElem? (i := 1) rfl)) (lw_t4 (List.mem_of_getElem? (i := 217) rfl)) dX1_follow_22 ?_
        refine j_iload_n C dX1_follow_25 rfl rfl ?_
        refine j_rdI C 1 (by decide) (by omega) (by show _ < (8 : Int); omega) dX1_follow_26 ?_
        refine j_eq (st' := [aI (dk q / 3 - 1), aI (u / 20), aI ((u % 20) + (dk q % 3 - 1))]) ?_ (e1 := by first | rfl | (simp only [List.cons.injEq, and_true]; exact congrArg aI (dk_y hq.1 (by omega))))
        refine j_iadd C dX1_follow_27 ?_
        have hd28 := dk_r hq.1 (show q < 8 by omega)
        have ho28 := dk_o hq.1 (show q < 8 by omega)
        refine j_callSN C (np := 2) (vs := [aI ((u % 20) + (dk q % 3 - 1)), aI ((u / 20) + (dk q / 3 - 1))]) (st := []) (ab_t3 (List.mem_of_getElem? (i := 219) rfl) rfl) (lw_t4 (List.mem_of_getElem? (i := 218) rfl)) (ab_t1 (List.mem_of_getElem? (i := 1) rfl) rfl) ⟨by decide +kernel, by decide +kernel⟩ (by decide +kernel) (ab_t3 (List.mem_of_getElem? (i := 218) rfl) rfl) (fun _ => (c_squareAt _ S G B hS _ _ ⟨by omega, by omega⟩ ⟨by omega, by omega⟩)) rfl ⟨rfl, rfl, by decide, by decide⟩ ⟨by decide, by decide⟩ (fun _ => Nat.le_of_ble_eq_true rfl) (fun v hv => by cases hv) (fun v hv => by simp only [List.mem_cons, List.not_mem_nil, or_false, Option.some.injEq, reduceCtorEq, false_or] at hv; rcases hv with rfl | rfl | rfl <;> first | exact (lS ((sC_9 hS))) | exact trivial) dX1_follow_28 (fun v_28 S_28 F_28 A_28 hP_28 => ?_)
        obtain ⟨rfl, rfl, rfl, r28, rfl, ⟨rfl, hi28⟩ | ⟨hr28, hi28⟩⟩ := hP_28
        · have hi28 : ¬ (0 ≤ (u % 20) + (dk q % 3 - 1) ∧ (u % 20) + (dk q % 3 - 1) < 20 ∧ 0 ≤ (u / 20) + (dk q / 3 - 1) ∧ (u / 20) + (dk q / 3 - 1) < 14) := hi28
          show ab_J E 4 0 0 S G B 31 [some (aR 9), some (aI u), some (aI q), none] [aI (-1)]
          refine j_istore_n C (lv' := [some (aR 9), some (aI u), some (aI q), some (aI (-1))]) dX1_follow_31 rfl (by decide) rfl ?_
          refine j_aload_n C dX1_follow_32 rfl rfl ?_
          refine j_iload_n C dX1_follow_33 rfl rfl ?_
          refine j_callV C (vs := [aI (-1)]) (st := []) cl_X1_31 im_yX1_isShut se_yX1_isShut (fun _ => (c_isShut _ S G B hS _ ⟨by omega, by omega⟩ (by rw [hO 22 (by decide) (by decide)]; exact h22))) ((sC_9 hS)) rfl rfl rfl ⟨rfl, rfl, by decide, by decide⟩ ⟨by decide, by decide⟩ (fun _ => Nat.le_of_ble_eq_true rfl) (fun v hv => by cases hv) (fun v hv => by simp only [List.mem_cons, List.not_mem_nil, or_false, Option.some.injEq, reduceCtorEq, false_or] at hv; rcases hv with rfl | rfl | rfl | rfl <;> first | exact (lS ((sC_9 hS))) | exact trivial) dX1_follow_34 (fun v_34 S_34 F_34 A_34 hP_34 => ?_)
          obtain ⟨rfl, rfl, rfl, z_34, rfl, ⟨rfl, hz_34⟩ | ⟨rfl, hz_34⟩⟩ := hP_34
          · show ab_J E 4 0 0 S G B 37 [some (aR 9), some (aI u), some (aI q), some (aI (-1))] [aI 1]
            rw [hO 22 (by decide) (by decide)] at hz_34
            refine j_if_ne C (tgt := 63) dX1_follow_37 (by decide) ⟨by omega, by omega⟩ (fun c37 => ?_) (fun c37 => ?_)
            · refine j_iinc C (lv' := [some (aR 9), some (aI u), some (aI (q + 1)), some (aI (-1))]) dX1_follow_63 rfl (by decide) rfl ?_
              refine j_goto C (tgt := 2) dX1_follow_66 (by decide) ?_
              refine j_lv (lv' := [some (aR 9), some (aI u), some (aI (q + 1)), none]) ?_ ⟨rfl, rfl, rfl, trivial⟩
              exact ih2 (q + 1) G B (by omega) (FW_skip hW (fun j e hn ho => by have := hn.1; omega)) hGo hG9 hO (by omega)
            · exact absurd c37 (by decide)
          · show ab_J E 4 0 0 S G B 37 [some (aR 9), some (aI u), some (aI q), some (aI (-1))] [aI 0]
            exfalso; omega
        · have hi28 : 0 ≤ (u % 20) + (dk q % 3 - 1) ∧ (u % 20) + (dk q % 3 - 1) < 20 ∧ 0 ≤ (u / 20) + (dk q / 3 - 1) ∧ (u / 20) + (dk q / 3 - 1) < 14 := hi28
          have hr28 : r28 = 20 * ((u / 20) + (dk q / 3 - 1)) + ((u % 20) + (dk q % 3 - 1)) := hr28
          show ab_J E 4 0 0 S G B 31 [some (aR 9), some (aI u), some (aI q), none] [aI r28]
          refine j_istore_n C (lv' := [some (aR 9), some (aI u), some (aI q), some (aI r28)]) dX1_follow_31 rfl (by decide) rfl ?_
          refine j_aload_n C dX1_follow_32 rfl rfl ?_
          refine j_iload_n C dX1_follow_33 rfl rfl ?_
          refine j_callV C (vs := [aI r28]) (st := []) cl_X1_31 im_yX1_isShut se_yX1_isShut (fun _ => (c_isShut _ S G B hS _ ⟨by omega, by omega⟩ (by rw [hO 22 (by decide) (by decide)]; exact h22))) ((sC_9 hS)) rfl rfl rfl ⟨rfl, rfl, by decide, by decide⟩ ⟨by decide, by decide⟩ (fun _ => Nat.le_of_ble_eq_true rfl) (fun v hv => by cases hv) (fun v hv => by simp only [List.mem_cons, List.not_mem_nil, or_false, Option.some.injEq, reduceCtorEq, false_or] at hv; rcases hv with rfl | rfl | rfl | rfl <;> first | exact (lS ((sC_9 hS))) | exact trivial) dX1_follow_34 (fun v_34 S_34 F_34 A_34 hP_34 => ?_)
          obtain ⟨rfl, rfl, rfl, z_34, rfl, ⟨rfl, hz_34⟩ | ⟨rfl, hz_34⟩⟩ := hP_34
          · show ab_J E 4 0 0 S G B 37 [some (aR 9), some (aI u), some (aI q), some (aI r28)] [aI 1]
            rw [hO 22 (by decide) (by decide)] at hz_34
            refine j_if_ne C (tgt := 63) dX1_follow_37 (by decide) ⟨by omega, by omega⟩ (fun c37 => ?_) (fun c37 => ?_)
            · refine j_iinc C (lv' := [some (aR 9), some (aI u), some (aI (q + 1)), some (aI r28)]) dX1_follow_63 rfl (by decide) rfl ?_
              refine j_goto C (tgt := 2) dX1_follow_66 (by decide) ?_
              refine j_lv (lv' := [some (aR 9), some (aI u), some (aI (q + 1)), none]) ?_ ⟨rfl, rfl, rfl, trivial⟩
              exact ih2 (q + 1) G B (by omega) (FW_skip hW (fun j e hn ho => by have z := hn.2.1; rw [show j = r28 by omega] at ho; exact hz_34 ((hop r28).mp ho))) hGo hG9 hO (by omega)
            · exact absurd c37 (by decide)
          · show ab_J E 4 0 0 S G B 37 [some (aR 9), some (aI u), some (aI q), some (aI r28)] [aI 0]
            rw [hO 22 (by decide) (by decide)] at hz_34
            refine j_if_ne C (tgt := 63) dX1_follow_37 (by decide) ⟨by omega, by omega⟩ (fun c37 => ?_) (fun c37 => ?_)
            · exact absurd c37 (by decide)
            · refine j_aload_n C dX1_follow_40 rfl rfl ?_
              refine j_iload_n C dX1_follow_41 rfl rfl ?_
              refine j_aload_n C dX1_follow_42 rfl rfl ?_
              refine j_getR C (j := 23) fl_X1_15 ((sC_9 hS)) rfl dX1_follow_43 ?_
              refine j_iload_n C dX1_follow_46 rfl rfl ?_
              refine j_iald C ((sC_23 hS)) (by omega) (by omega) (by decide) dX1_follow_47 ?_
              refine j_iload_n C dX1_follow_48 rfl rfl ?_
              refine j_iconst C dX1_follow_49 ?_
              refine j_icmp_ge C (tgt := 57) dX1_follow_50 (by decide) ⟨by omega, by omega⟩ ⟨by omega, by omega⟩ (fun c50 => ?_) (fun c50 => ?_)
              · refine j_bipush C dX1_follow_57 rfl ?_
                refine j_iadd C dX1_follow_59 ?_
                have hr60 : -1 ≤ B 23 r28 ∧ B 23 r28 ≤ 10000 := by
                  rcases hW.1.2.1 r28 (by omega) (by omega) with z | z
                  · omega
                  · omega
                refine j_callV C (vs := [aI r28, aI ((B 23 u) + 7)]) (st := []) cl_X1_41 im_yX1_meet se_yX1_meet (fun _ => (c_meet _ S G B hS _ _ (by omega) (by omega) hr60 (by omega) (fun z => DJ_room hW.1 (by omega) z))) ((sC_9 hS)) rfl rfl rfl ⟨rfl, rfl, by decide, by decide⟩ ⟨by decide, by decide⟩ (fun _ => Nat.le_of_ble_eq_true rfl) (fun v hv => by cases hv) (fun v hv => by simp only [List.mem_cons, List.not_mem_nil, or_false, Option.some.injEq, reduceCtorEq, false_or] at hv; rcases hv with rfl | rfl | rfl | rfl <;> first | exact (lS ((sC_9 hS))) | exact trivial) dX1_follow_60 (fun v_60 S_60 F_60 A_60 hP_60 => ?_)
                obtain ⟨rfl, rfl, hd60⟩ := hP_60
                have hn60 : nbd u (dk q) r28 7 := ⟨by omega, by omega, by rw [if_neg (fun z => by have := ho28.mpr z; omega)]⟩
                have hop60 : op r28 := (hop r28).mpr (Classical.not_not.mp hz_34)
                have hW60 : FW op a b (A_60 23) (A_60 24) (F_60 9 3) i u (q + 1) := by
                  rcases hd60 with ⟨z1, z2, z3⟩ | ⟨z1, z2, z3, z4⟩ | ⟨z1, z2, z3, z4⟩
                  · rw [z2, z3, upF_at]; exact FW_new hW ⟨hq.1, by omega⟩ hn60 hop60 z1 (fun k => by rw [upA_if, upA_other (by decide)]) (fun k => by rw [upA_other (by decide), upA_if])
                  · rw [z3, z4]; rw [upA_other (i' := 24) (by decide)]; exact FW_less hW ⟨hq.1, by omega⟩ hn60 hop60 z1 z2 (fun k => upA_if _ _ _ _ _)
                  · rw [z3, z4]; exact FW_keep hW hn60 z1 z2
                have hX60 : (∀ i, i ≠ 9 → F_60 i = G i) ∧ (∀ k, k ≠ 3 → F_60 9 k = G 9 k) ∧ ∀ i, i ≠ 23 → i ≠ 24 → A_60 i = B i := by
                  rcases hd60 with ⟨z1, z2, z3⟩ | ⟨z1, z2, z3, z4⟩ | ⟨z1, z2, z3, z4⟩
                  · rw [z2, z3]; exact ⟨fun i z => upF_o z, fun k z => upF_ne z, fun i y1 y2 => by rw [upA_other y1, upA_other y2]⟩
                  · rw [z3, z4]; exact ⟨fun _ _ => rfl, fun _ _ => rfl, fun i y1 y2 => by rw [upA_other y1]⟩
                  · rw [z3, z4]; exact ⟨fun _ _ => rfl, fun _ _ => rfl, fun _ _ _ => rfl⟩
                show ab_J E 4 0 0 S F_60 A_60 63 [some (aR 9), some (aI u), some (aI q), some (aI r28)] []
                refine j_iinc C (lv' := [some (aR 9), some (aI u), some (aI (q + 1)), some (aI r28)]) dX1_follow_63 rfl (by decide) rfl ?_
                refine j_goto C (tgt := 2) dX1_follow_66 (by decide) ?_
                refine j_lv (lv' := [some (aR 9), some (aI u), some (aI (q + 1)), none]) ?_ ⟨rfl, rfl, rfl, trivial⟩
                exact ih2 (q + 1) F_60 A_60 (by omega) hW60 (fun i z => (hX60.1 i z).trans (hGo i z)) (fun k z => (hX60.2.1 k z).trans (hG9 k z)) (fun i z1 z2 => (hX60.2.2 i z1 z2).trans (hO i z1 z2)) (by omega)
              · refine j_iconst C dX1_follow_53 ?_
                refine j_goto C (tgt := 59) dX1_follow_54 (by decide) ?_
                refine j_iadd C dX1_follow_59 ?_
                have hr60 : -1 ≤ B 23 r28 ∧ B 23 r28 ≤ 10000 := by
                  rcases hW.1.2.1 r28 (by omega) (by omega) with z | z
                  · omega
                  · omega
                refine j_callV C (vs := [aI r28, aI ((B 23 u) + 5)]) (st := []) cl_X1_41 im_yX1_meet se_yX1_meet (fun _ => (c_meet _ S G B hS _ _ (by omega) (by omega) hr60 (by omega) (fun z => DJ_room hW.1 (by omega) z))) ((sC_9 hS)) rfl rfl rfl ⟨rfl, rfl, by decide, by decide⟩ ⟨by decide, by decide⟩ (fun _ => Nat.le_of_ble_eq_true rfl) (fun v hv => by cases hv) (fun v hv => by simp only [List.mem_cons, List.not_mem_nil, or_false, Option.some.injEq, reduceCtorEq, false_or] at hv; rcases hv with rfl | rfl | rfl | rfl <;> first | exact (lS ((sC_9 hS))) | exact trivial) dX1_follow_60 (fun v_60 S_60 F_60 A_60 hP_60 => ?_)
                obtain ⟨rfl, rfl, hd60⟩ := hP_60
                have hn60 : nbd u (dk q) r28 5 := ⟨by omega, by omega, by rw [if_pos (ho28.mp (by omega))]⟩
                have hop60 : op r28 := (hop r28).mpr (Classical.not_not.mp hz_34)
                have hW60 : FW op a b (A_60 23) (A_60 24) (F_60 9 3) i u (q + 1) := by
                  rcases hd60 with ⟨z1, z2, z3⟩ | ⟨z1, z2, z3, z4⟩ | ⟨z1, z2, z3, z4⟩
                  · rw [z2, z3, upF_at]; exact FW_new hW ⟨hq.1, by omega⟩ hn60 hop60 z1 (fun k => by rw [upA_if, upA_other (by decide)]) (fun k => by rw [upA_other (by decide), upA_if])
                  · rw [z3, z4]; rw [upA_other (i' := 24) (by decide)]; exact FW_less hW ⟨hq.1, by omega⟩ hn60 hop60 z1 z2 (fun k => upA_if _ _ _ _ _)
                  · rw [z3, z4]; exact FW_keep hW hn60 z1 z2
                have hX60 : (∀ i, i ≠ 9 → F_60 i = G i) ∧ (∀ k, k ≠ 3 → F_60 9 k = G 9 k) ∧ ∀ i, i ≠ 23 → i ≠ 24 → A_60 i = B i := by
                  rcases hd60 with ⟨z1, z2, z3⟩ | ⟨z1, z2, z3, z4⟩ | ⟨z1, z2, z3, z4⟩
                  · rw [z2, z3]; exact ⟨fun i z => upF_o z, fun k z => upF_ne z, fun i y1 y2 => by rw [upA_other y1, upA_other y2]⟩
                  · rw [z3, z4]; exact ⟨fun _ _ => rfl, fun _ _ => rfl, fun i y1 y2 => by rw [upA_other y1]⟩
                  · rw [z3, z4]; exact ⟨fun _ _ => rfl, fun _ _ => rfl, fun _ _ _ => rfl⟩
                show ab_J E 4 0 0 S F_60 A_60 63 [some (aR 9), some (aI u), some (aI q), some (aI r28)] []
                refine j_iinc C (lv' := [some (aR 9), some (aI u), some (aI (q + 1)), some (aI r28)]) dX1_follow_63 rfl (by decide) rfl ?_
                refine j_goto C (tgt := 2) dX1_follow_66 (by decide) ?_
                refine j_lv (lv' := [some (aR 9), some (aI u), some (aI (q + 1)), none]) ?_ ⟨rfl, rfl, rfl, trivial⟩
                exact ih2 (q + 1) F_60 A_60 (by omega) hW60 (fun i z => (hX60.1 i z).trans (hGo i z)) (fun k z => (hX60.2.1 k z).trans (hG9 k z)) (fun i z1 z2 => (hX60.2.2 i z1 z2).trans (hO i z1 z2)) (by omega)
  exact K2 _ 0 F A (by omega) hW (fun _ _ => rfl) (fun _ _ => rfl) (fun _ _ _ => rfl) (Nat.lt_succ_self _)

set_option maxHeartbeats 4000000 in
set_option maxRecDepth 100000 in
theorem c_shortest (l : Launch) (S : ab_St) (F : ab_Fn) (A : ab_An) (hS : ab_SC S) (op : Int → Prop) (hop : ∀ k, op k ↔ (0 ≤ k ∧ k < 280) ∧ A 22 k = 0) (a b : Int) (h1 : 0 ≤ a ∧ a ≤ 279) (h2 : 0 ≤ b ∧ b ≤ 279) (h22 : ∀ k, 0 ≤ k → k < 280 → A 22 k = 0 ∨ A 22 k = 1) : ab_Met l yX1_shortest cX1_shortest 5 (some .int) { frames := 2, cells := 0, slots := 0, locals := 45 } 0 0 [aR 9, aI a, aI b] S F A (fun v S' F' A' => S = S' ∧ ∃ r : Int, v = some (aI r) ∧ WRc op a b r ∧ (∀ i, i ≠ 9 → F' i = F i) ∧ (∀ k, k ≠ 3 → F' 9 k = F 9 k) ∧ ∀ i, i ≠ 23 → i ≠ 24 → A' i = A i) := by
  refine ab_enter (by decide) (by simp [aI, aR, aX, ab_val, Value.category]) (Nat.le_of_ble_eq_true rfl) (fun E C hr => ?_)
  refine j_eq (lv' := [some (aR 9), some (aI a), some (aI b), none, none]) ?_
  refine j_aload_n C dX1_shortest_0 rfl rfl ?_
  refine j_iload_n C dX1_shortest_1 rfl rfl ?_
  refine j_callV C (vs := [aI a]) (st := []) cl_X1_31 im_yX1_isShut se_yX1_isShut (fun _ => (c_isShut _ S F A hS _ ⟨by omega, by omega⟩ h22)) ((sC_9 hS)) rfl rfl rfl ⟨rfl, rfl, by decide, by decide⟩ ⟨by decide, by decide⟩ (fun _ => Nat.le_of_ble_eq_true rfl) (fun v hv => by cases hv) (fun v hv => by simp only [List.mem_cons, List.not_mem_nil, or_false, Option.some.injEq, reduceCtorEq, false_or] at hv; rcases hv with rfl | rfl | rfl <;> first | exact (lS ((sC_9 hS))) | exact trivial) dX1_shortest_2 (fun v_2 S_2 F_2 A_2 hP_2 => ?_)
  obtain ⟨rfl, rfl, rfl, z_2, rfl, ⟨rfl, hz_2⟩ | ⟨rfl, hz_2⟩⟩ := hP_2
  · show ab_J E 5 0 0 S F A 5 [some (aR 9), some (aI a), some (aI b), none, none] [aI 1]
    refine j_if_ne C (tgt := 16) dX1_shortest_5 (by decide) ⟨by omega, by omega⟩ (fun c5 => ?_) (fun c5 => ?_)
    · refine j_iconst C dX1_shortest_16 ?_
      exact j_iret C hr (Nat.le_refl _) (Nat.le_refl _) dX1_shortest_17 ⟨rfl, _, rfl, Or.inl ⟨rfl, (by first | exact Or.inl (fun z => hz_2 ((hop a).mp z)) | exact Or.inr (Or.inl (fun z => hz_10 ((hop b).mp z))))⟩, fun _ _ => rfl, fun _ _ => rfl, fun _ _ _ => rfl⟩
    · exact absurd c5 (by decide)
  · show ab_J E 5 0 0 S F A 5 [some (aR 9), some (aI a), some (aI b), none, none] [aI 0]
    refine j_if_ne C (tgt := 16) dX1_shortest_5 (by decide) ⟨by omega, by omega⟩ (fun c5 => ?_) (fun c5 => ?_)
    · exact absurd c5 (by decide)
    · refine j_aload_n C dX1_shortest_8 rfl rfl ?_
      refine j_iload_n C dX1_shortest_9 rfl rfl ?_
      refine j_callV C (vs := [aI b]) (st := []) cl_X1_31 im_yX1_isShut se_yX1_isShut (fun _ => (c_isShut _ S F A hS _ ⟨by omega, by omega⟩ h22)) ((sC_9 hS)) rfl rfl rfl ⟨rfl, rfl, by decide, by decide⟩ ⟨by decide, by decide⟩ (fun _ => Nat.le_of_ble_eq_true rfl) (fun v hv => by cases hv) (fun v hv => by simp only [List.mem_cons, List.not_mem_nil, or_false, Option.some.injEq, reduceCtorEq, false_or] at hv; rcases hv with rfl | rfl | rfl <;> first | exact (lS ((sC_9 hS))) | exact trivial) dX1_shortest_10 (fun v_10 S_10 F_10 A_10 hP_10 => ?_)
      obtain ⟨rfl, rfl, rfl, z_10, rfl, ⟨rfl, hz_10⟩ | ⟨rfl, hz_10⟩⟩ := hP_10
      · show ab_J E 5 0 0 S F A 13 [some (aR 9), some (aI a), some (aI b), none, none] [aI 1]
        refine j_if_eq C (tgt := 18) dX1_shortest_13 (by decide) ⟨by omega, by omega⟩ (fun c13 => ?_) (fun c13 => ?_)
        · exact absurd c13 (by decide)
        · refine j_iconst C dX1_shortest_16 ?_
          exact j_iret C hr (Nat.le_refl _) (Nat.le_refl _) dX1_shortest_17 ⟨rfl, _, rfl, Or.inl ⟨rfl, (by first | exact Or.inl (fun z => hz_2 ((hop a).mp z)) | exact Or.inr (Or.inl (fun z => hz_10 ((hop b).mp z))))⟩, fun _ _ => rfl, fun _ _ => rfl, fun _ _ _ => rfl⟩
      · show ab_J E 5 0 0 S F A 13 [some (aR 9), some (aI a), some (aI b), none, none] [aI 0]
        refine j_if_eq C (tgt := 18) dX1_shortest_13 (by decide) ⟨by omega, by omega⟩ (fun c13 => ?_) (fun c13 => ?_)
        · refine j_aload_n C dX1_shortest_18 rfl rfl ?_
          refine j_getR C (j := 23) fl_X1_15 ((sC_9 hS)) rfl dX1_shortest_19 ?_
          refine j_iconst C dX1_shortest_22 ?_
          refine j_callS C (vs := [aR 23, aI ((-1))]) (st := []) cl_X1_35 sc_yJ7_fill_53178 (fun _ => (t_fill _ S F A _ _ _ ((sC_23 hS)) (by decide))) rfl ⟨rfl, rfl, by decide, by decide⟩ ⟨by decide, by decide⟩ (fun _ => Nat.le_of_ble_eq_true rfl) (fun v hv => by cases hv) (fun v hv => by simp only [List.mem_cons, List.not_mem_nil, or_false, Option.some.injEq, reduceCtorEq, false_or] at hv; rcases hv with rfl | rfl | rfl <;> first | exact (lS ((sC_9 hS))) | exact trivial) dX1_shortest_23 (fun v_23 S_23 F_23 A_23 hP_23 => ?_)
          obtain ⟨rfl, rfl, rfl, rfl⟩ := hP_23
          show ab_J E 5 0 0 S F (setRow A 23 0 280 (fun _ => (-1))) 26 [some (aR 9), some (aI a), some (aI b), none, none] []
          refine j_aload_n C dX1_shortest_26 rfl rfl ?_
          refine j_iconst C dX1_shortest_27 ?_
          refine j_putI C fp_X1_22 ((sC_9 hS)) rfl dX1_shortest_28 ?_
          refine j_aload_n C dX1_shortest_31 rfl rfl ?_
          refine j_iload_n C dX1_shortest_32 rfl rfl ?_
          refine j_iconst C dX1_shortest_33 ?_
          refine j_callV C (vs := [aI a, aI 0]) (st := []) cl_X1_41 im_yX1_meet se_yX1_meet (fun _ => (c_meet _ S (upF F 9 3 0) (setRow A 23 0 280 (fun _ => (-1))) hS _ _ (by omega) (by omega) (by rw [setRow_in (by omega) (by omega)]; decide) (by show 0 ≤ (0 : Int) ∧ (0 : Int) ≤ 280; omega) (fun _ => by show (0 : Int) < 280; omega))) ((sC_9 hS)) rfl rfl rfl ⟨rfl, rfl, by decide, by decide⟩ ⟨by decide, by decide⟩ (fun _ => Nat.le_of_ble_eq_true rfl) (fun v hv => by cases hv) (fun v hv => by simp only [List.mem_cons, List.not_mem_nil, or_false, Option.some.injEq, reduceCtorEq, false_or] at hv; rcases hv with rfl | rfl | rfl <;> first | exact (lS ((sC_9 hS))) | exact trivial) dX1_shortest_34 (fun v_34 S_34 F_34 A_34 hP_34 => ?_)
          obtain ⟨rfl, rfl, hd34⟩ := hP_34
          show ab_J E 5 0 0 S F_34 A_34 37 [some (aR 9), some (aI a), some (aI b), none, none] []
          have hI : DJ op a b (A_34 23) (A_34 24) (F_34 9 3) 0 (-1) ∧ (∀ i, i ≠ 9 → F_34 i = F i) ∧ (∀ k, k ≠ 3 → F_34 9 k = F 9 k) ∧ ∀ i, i ≠ 23 → i ≠ 24 → A_34 i = A i := by
            rcases hd34 with ⟨z1, z2, z3⟩ | ⟨z1, z2, z3, z4⟩ | ⟨z1, z2, z3, z4⟩
            · rw [z2, z3, upF_at]
              refine ⟨?_, fun i z => by rw [upF_o z, upF_o z], fun k z => by rw [upF_ne z, upF_ne z], fun i y1 y2 => by rw [upA_other y1, upA_other y2, setRow_other y1]⟩
              rw [upF_at]
              show DJ op a b _ _ 1 0 (-1)
              exact DJ_init (by omega) (upA_at _ _ _ _) (fun k y1 y2 y3 => by rw [upA_ne y3, upA_other (by decide), setRow_in (by omega) (by omega)]) (by rw [upA_other (by decide)]; exact upA_at _ _ _ _)
            · exact absurd (by rw [setRow_in (by omega) (by omega)]) z1
            · exact absurd (by rw [setRow_in (by omega) (by omega)]) z1
          refine j_iconst C dX1_shortest_37 ?_
          refine j_istore_n C (lv' := [some (aR 9), some (aI a), some (aI b), some (aI 0), none]) dX1_shortest_38 rfl (by decide) rfl ?_
          have K39 : ∀ (N : Nat) (i : Int) (G : ab_Fn) (B : ab_An), (0 ≤ i ∧ i ≤ 280) → (DJ op a b (B 23) (B 24) (G 9 3) i (-1)) → (∀ i, i ≠ 9 → G i = F i) → (∀ k, k ≠ 3 → G 9 k = F 9 k) → (∀ i, i ≠ 23 → i ≠ 24 → B i = A i) → ((280 - i).toNat) < N → ab_J E 5 0 0 S G B 39 [some (aR 9), some (aI a), some (aI b), some (aI i), none] [] := by
            intro N
            induction N with
            | zero => intro i G B hi hD hGo hG9 hO hm; exact absurd hm (Nat.not_lt_zero _)
            | succ N ih =>
              have ih39 := ih
              clear ih
              intro i G B hi hD hGo hG9 hO hm39
              have hcn := DJ_cnt hD
              refine j_iload_n C dX1_shortest_39 rfl rfl ?_
              refine j_sipush C dX1_shortest_40 rfl ?_
              refine j_icmp_ge C (tgt := 85) dX1_shortest_43 (by decide) ⟨by omega, by omega⟩ ⟨by omega, by omega⟩ (fun c43 => ?_) (fun c43 => ?_)
              · refine j_iconst C dX1_shortest_85 ?_
                exact j_iret C hr (Nat.le_refl _) (Nat.le_refl _) dX1_shortest_86 ⟨rfl, _, rfl, DJ_none hD (fun k z => ((hop k).mp z).1) (by omega) (by omega), hGo, hG9, hO⟩
              · refine j_aload_n C dX1_shortest_46 rfl rfl ?_
                refine j_get C (aI (G 9 3)) fl_X1_22 ((sC_9 hS)) (fun _ => rfl) dX1_shortest_47 ?_
                refine j_if_le C (tgt := 85) dX1_shortest_50 (by decide) ⟨by omega, by omega⟩ (fun c50 => ?_) (fun c50 => ?_)
                · refine j_iconst C dX1_shortest_85 ?_
                  exact j_iret C hr (Nat.le_refl _) (Nat.le_refl _) dX1_shortest_86 ⟨rfl, _, rfl, DJ_none hD (fun k z => ((hop k).mp z).1) (by omega) (by omega), hGo, hG9, hO⟩
                · refine j_aload_n C dX1_shortest_53 rfl rfl ?_
                  refine j_callV C (vs := []) (st := []) cl_X1_45 im_yX1_takeNearest se_yX1_takeNearest (fun _ => (c_take _ S G B hS (by omega) (fun j z1 z2 => by have y := hD.2.2.1 j z1 z2; refine ⟨y.1, ?_⟩; rcases hD.2.1 _ y.1.1 y.1.2 with x | x <;> exact ⟨by omega, by omega⟩))) ((sC_9 hS)) rfl rfl rfl ⟨rfl, rfl, by decide, by decide⟩ ⟨by decide, by decide⟩ (fun _ => Nat.le_of_ble_eq_true rfl) (fun v hv => by cases hv) (fun v hv => by simp only [List.mem_cons, List.not_mem_nil, or_false, Option.some.injEq, reduceCtorEq, false_or] at hv; rcases hv with rfl | rfl | rfl | rfl <;> first | exact (lS ((sC_9 hS))) | exact trivial) dX1_shortest_54 (fun v_54 S_54 F_54 A_54 hP_54 => ?_)
                  obtain ⟨rfl, m54, hm54, rfl, hmin54, hF54, hA54⟩ := hP_54
                  show ab_J E 5 0 0 S F_54 A_54 57 [some (aR 9), some (aI a), some (aI b), some (aI i), none] [aI (B 24 m54)]
                  refine j_istore C (lv' := [some (aR 9), some (aI a), some (aI b), some (aI i), some (aI (B 24 m54))]) dX1_shortest_57 (by decide) rfl ?_
                  refine j_iload C dX1_shortest_59 rfl ?_
                  refine j_iload_n C dX1_shortest_61 rfl rfl ?_
                  refine j_icmp_ne C (tgt := 73) dX1_shortest_62 (by decide) ⟨by have := (hD.2.2.1 m54 hm54.1 hm54.2).1; omega, by have := (hD.2.2.1 m54 hm54.1 hm54.2).1; omega⟩ ⟨by omega, by omega⟩ (fun c62 => ?_) (fun c62 => ?_)
                  · refine j_aload_n C dX1_shortest_73 rfl rfl ?_
                    refine j_iload C dX1_shortest_74 rfl ?_
                    refine j_callV C (vs := [aI (B 24 m54)]) (st := []) cl_X1_49 im_yX1_follow se_yX1_follow (fun _ => (c_follow _ S F_54 A_54 hS op (by rw [hA54, upA_other (by decide), hO 22 (by decide) (by decide)]; exact hop) a b (i + 1) _ (by omega) (by rw [hA54, upA_other (by decide), hO 22 (by decide) (by decide)]; exact h22) (by rw [hA54, hF54, upF_at, upA_other (i' := 23) (by decide)]; exact DJ_take hD hm54 hmin54 c62 (fun k => upA_if _ _ _ _ _)))) ((sC_9 hS)) rfl rfl rfl ⟨rfl, rfl, by decide, by decide⟩ ⟨by decide, by decide⟩ (fun _ => Nat.le_of_ble_eq_true rfl) (fun v hv => by cases hv) (fun v hv => by simp only [List.mem_cons, List.not_mem_nil, or_false, Option.some.injEq, reduceCtorEq, false_or] at hv; rcases hv with rfl | rfl | rfl | rfl | rfl <;> first | exact (lS ((sC_9 hS))) | exact trivial) dX1_shortest_76 (fun v_76 S_76 F_76 A_76 hP_76 => ?_)
                    obtain ⟨rfl, rfl, hD76, hGo76, hG976, hO76⟩ := hP_76
                    show ab_J E 5 0 0 S F_76 A_76 79 [some (aR 9), some (aI a), some (aI b), some (aI i), some (aI (B 24 m54))] []
                    refine j_iinc C (lv' := [some (aR 9), some (aI a), some (aI b), some (aI (i + 1)), some (aI (B 24 m54))]) dX1_shortest_79 rfl (by decide) rfl ?_
                    refine j_goto C (tgt := 39) dX1_shortest_82 (by decide) ?_
                    refine j_lv (lv' := [some (aR 9), some (aI a), some (aI b), some (aI (i + 1)), none]) ?_ ⟨rfl, rfl, rfl, rfl, trivial⟩
                    exact ih39 (i + 1) F_76 A_76 (by omega) hD76 (fun i z => by rw [hGo76 i z, hF54, upF_o z]; exact hGo i z) (fun k z => by rw [hG976 k z, hF54, upF_ne z]; exact hG9 k z) (fun i z1 z2 => by rw [hO76 i z1 z2, hA54, upA_other z2]; exact hO i z1 z2) (by omega)
                  · refine j_aload_n C dX1_shortest_65 rfl rfl ?_
                    refine j_getR C (j := 23) fl_X1_15 ((sC_9 hS)) rfl dX1_shortest_66 ?_
                    refine j_iload C dX1_shortest_69 rfl ?_
                    refine j_iald C ((sC_23 hS)) (hD.2.2.1 m54 hm54.1 hm54.2).1.1 (hD.2.2.1 m54 hm54.1 hm54.2).1.2 (by decide) dX1_shortest_71 ?_
                    exact j_iret C hr (Nat.le_refl _) (Nat.le_refl _) dX1_shortest_72 ⟨rfl, _, rfl, (by rw [hA54, upA_other (by decide), c62]; exact DJ_found hD (fun k z => ((hop k).mp z).1) (by omega) ((hop a).mpr (Classical.not_not.mp hz_2)) ((hop b).mpr (Classical.not_not.mp hz_10)) hm54 hmin54 c62 hi.2), (fun i z => by rw [hF54, upF_o z]; exact hGo i z), (fun k z => by rw [hF54, upF_ne z]; exact hG9 k z), fun i z1 z2 => by rw [hA54, upA_other z2]; exact hO i z1 z2⟩
          exact K39 _ 0 F_34 A_34 (by omega) hI.1 hI.2.1 hI.2.2.1 hI.2.2.2 (Nat.lt_succ_self _)
        · exact absurd c13 (by decide)
