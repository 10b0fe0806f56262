theorem skF_end {T : Int → Int} {e lo hi : Int} (hl : 0 ≤ lo) : ∀ (n : Nat) (p : Int), e - p ≤ n → ¬ (lo ≤ byt T e (skF (byt T e) lo hi n p) ∧ byt T e (skF (byt T e) lo hi n p) ≤ hi)
  | 0, p, h => by simp only [skF]; rw [byt_out (by omega)]; omega
  | n + 1, p, h => by
    simp only [skF]
    split
    · exact skF_end hl n (p + 1) (by omega)
    · assumption
theorem bl_bl {T : Int → Int} {e p b : Int} (h0 : 0 ≤ p) (h1 : e ≤ 400) (hb : b = bl (byt T e) p) : b = bl (byt T e) b := by
  refine sk_is (Int.le_refl _) (by omega) (fun i a c => by omega) ?_
  rw [hb]
  exact skF_end (by decide) 400 p (by omega)

set_option maxHeartbeats 4000000 in
set_option maxRecDepth 100000 in
theorem c_add6 (l : Launch) (S : ab_St) (F : ab_Fn) (A : ab_An) (hS : ab_SC S) (x y : Int) (ht : 0 ≤ F 6 2 ∧ F 6 2 < 42) : ab_Met l yX4_add cX4_add 3 none { frames := 0, cells := 0, slots := 0, locals := 0 } 0 0 [aR 6, aI x, aI y] S F A (fun v S' F' A' => S = S' ∧ v = none ∧ F' = upF F 6 2 (F 6 2 + 1) ∧ A' = upA (upA A 16 (F 6 2) x) 17 (F 6 2) y) := by
  refine ab_enter (by decide) (by simp [aI, aR, aX, ab_val, Value.category]) (Nat.le_of_ble_eq_true rfl) (fun E C hr => ?_)
  refine j_eq (lv' := [some (aR 6), some (aI x), some (aI y)]) ?_
  refine j_aload_n C dX4_add_0 rfl rfl ?_
  refine j_get C (aI (F 6 2)) fl_X4_18 ((sC_6 hS)) (fun _ => rfl) dX4_add_1 ?_
  refine j_if_lt C (tgt := 61) dX4_add_4 (by decide) ⟨by omega, by omega⟩ (fun c4 => ?_) (fun c4 => ?_)
  · exact absurd c4 (by omega)
  · refine j_aload_n C dX4_add_7 rfl rfl ?_
    refine j_get C (aI (F 6 2)) fl_X4_18 ((sC_6 hS)) (fun _ => rfl) dX4_add_8 ?_
    refine j_aload_n C dX4_add_11 rfl rfl ?_
    refine j_getR C (j := 16) fl_X4_9 ((sC_6 hS)) rfl dX4_add_12 ?_
    refine j_alen C ((sC_16 hS)) 0 (fun _ => rfl) dX4_add_15 ?_
    refine j_eq (st' := [aI 42, aI (F 6 2)]) ?_
    refine j_icmp_ge C (tgt := 61) dX4_add_16 (by decide) ⟨by omega, by omega⟩ ⟨by omega, by omega⟩ (fun c16 => ?_) (fun c16 => ?_)
    · exact absurd c16 (by omega)
    · refine j_aload_n C dX4_add_19 rfl rfl ?_
      refine j_get C (aI (F 6 2)) fl_X4_18 ((sC_6 hS)) (fun _ => rfl) dX4_add_20 ?_
      refine j_aload_n C dX4_add_23 rfl rfl ?_
      refine j_getR C (j := 17) fl_X4_15 ((sC_6 hS)) rfl dX4_add_24 ?_
      refine j_alen C ((sC_17 hS)) 0 (fun _ => rfl) dX4_add_27 ?_
      refine j_eq (st' := [aI 42, aI (F 6 2)]) ?_
      refine j_icmp_ge C (tgt := 61) dX4_add_28 (by decide) ⟨by omega, by omega⟩ ⟨by omega, by omega⟩ (fun c28 => ?_) (fun c28 => ?_)
      · exact absurd c28 (by omega)
      · refine j_aload_n C dX4_add_31 rfl rfl ?_
        refine j_getR C (j := 16) fl_X4_9 ((sC_6 hS)) rfl dX4_add_32 ?_
        refine j_aload_n C dX4_add_35 rfl rfl ?_
        refine j_get C (aI (F 6 2)) fl_X4_18 ((sC_6 hS)) (fun _ => rfl) dX4_add_36 ?_
        refine j_iload_n C dX4_add_39 rfl rfl ?_
        refine j_iast C ((sC_16 hS)) (by omega) (by omega) (by decide) dX4_add_40 ?_
        refine j_aload_n C dX4_add_41 rfl rfl ?_
        refine j_getR C (j := 17) fl_X4_15 ((sC_6 hS)) rfl dX4_add_42 ?_
        refine j_aload_n C dX4_add_45 rfl rfl ?_
        refine j_get C (aI (F 6 2)) fl_X4_18 ((sC_6 hS)) (fun _ => rfl) dX4_add_46 ?_
        refine j_iload_n C dX4_add_49 rfl rfl ?_
        refine j_iast C ((sC_17 hS)) (by omega) (by omega) (by decide) dX4_add_50 ?_
        refine j_aload_n C dX4_add_51 rfl rfl ?_
        refine j_dup C dX4_add_52 (fun _ => rfl) ?_
        refine j_get C (aI (F 6 2)) fl_X4_18 ((sC_6 hS)) (fun _ => rfl) dX4_add_53 ?_
        refine j_iconst C dX4_add_56 ?_
        refine j_iadd C dX4_add_57 ?_
        refine j_putI C fp_X4_18 ((sC_6 hS)) rfl dX4_add_58 ?_
        exact j_vret C hr (Nat.le_refl _) (Nat.le_refl _) dX4_add_61 ⟨rfl, rfl, rfl, rfl⟩

set_option maxHeartbeats 4000000 in
set_option maxRecDepth 100000 in
theorem c_add8 (l : Launch) (S : ab_St) (F : ab_Fn) (A : ab_An) (hS : ab_SC S) (x y : Int) (ht : 0 ≤ F 8 2 ∧ F 8 2 < 42) : ab_Met l yX4_add cX4_add 3 none { frames := 0, cells := 0, slots := 0, locals := 0 } 0 0 [aR 8, aI x, aI y] S F A (fun v S' F' A' => S = S' ∧ v = none ∧ F' = upF F 8 2 (F 8 2 + 1) ∧ A' = upA (upA A 18 (F 8 2) x) 19 (F 8 2) y) := by
  refine ab_enter (by decide) (by simp [aI, aR, aX, ab_val, Value.category]) (Nat.le_of_ble_eq_true rfl) (fun E C hr => ?_)
  refine j_eq (lv' := [some (aR 8), some (aI x), some (aI y)]) ?_
  refine j_aload_n C dX4_add_0 rfl rfl ?_
  refine j_get C (aI (F 8 2)) fl_X4_18 ((sC_8 hS)) (fun _ => rfl) dX4_add_1 ?_
  refine j_if_lt C (tgt := 61) dX4_add_4 (by decide) ⟨by omega, by omega⟩ (fun c4 => ?_) (fun c4 => ?_)
  · exact absurd c4 (by omega)
  · refine j_aload_n C dX4_add_7 rfl rfl ?_
    refine j_get C (aI (F 8 2)) fl_X4_18 ((sC_8 hS)) (fun _ => rfl) dX4_add_8 ?_
    refine j_aload_n C dX4_add_11 rfl rfl ?_
    refine j_getR C (j := 18) fl_X4_9 ((sC_8 hS)) rfl dX4_add_12 ?_
    refine j_alen C ((sC_18 hS)) 0 (fun _ => rfl) dX4_add_15 ?_
    refine j_eq (st' := [aI 42, aI (F 8 2)]) ?_
    refine j_icmp_ge C (tgt := 61) dX4_add_16 (by decide) ⟨by omega, by omega⟩ ⟨by omega, by omega⟩ (fun c16 => ?_) (fun c16 => ?_)
    · exact absurd c16 (by omega)
    · refine j_aload_n C dX4_add_19 rfl rfl ?_
      refine j_get C (aI (F 8 2)) fl_X4_18 ((sC_8 hS)) (fun _ => rfl) dX4_add_20 ?_
      refine j_aload_n C dX4_add_23 rfl rfl ?_
      refine j_getR C (j := 19) fl_X4_15 ((sC_8 hS)) rfl dX4_add_24 ?_
      refine j_alen C ((sC_19 hS)) 0 (fun _ => rfl) dX4_add_27 ?_
      refine j_eq (st' := [aI 42, aI (F 8 2)]) ?_
      refine j_icmp_ge C (tgt := 61) dX4_add_28 (by decide) ⟨by omega, by omega⟩ ⟨by omega, by omega⟩ (fun c28 => ?_) (fun c28 => ?_)
      · exact absurd c28 (by omega)
      · refine j_aload_n C dX4_add_31 rfl rfl ?_
        refine j_getR C (j := 18) fl_X4_9 ((sC_8 hS)) rfl dX4_add_32 ?_
        refine j_aload_n C dX4_add_35 rfl rfl ?_
        refine j_get C (aI (F 8 2)) fl_X4_18 ((sC_8 hS)) (fun _ => rfl) dX4_add_36 ?_
        refine j_iload_n C dX4_add_39 rfl rfl ?_
        refine j_iast C ((sC_18 hS)) (by omega) (by omega) (by decide) dX4_add_40 ?_
        refine j_aload_n C dX4_add_41 rfl rfl ?_
        refine j_getR C (j := 19) fl_X4_15 ((sC_8 hS)) rfl dX4_add_42 ?_
        refine j_aload_n C dX4_add_45 rfl rfl ?_
        refine j_get C (aI (F 8 2)) fl_X4_18 ((sC_8 hS)) (fun _ => rfl) dX4_add_46 ?_
        refine j_iload_n C dX4_add_49 rfl rfl ?_
        refine j_iast C ((sC_19 hS)) (by omega) (by omega) (by decide) dX4_add_50 ?_
        refine j_aload_n C dX4_add_51 rfl rfl ?_
        refine j_dup C dX4_add_52 (fun _ => rfl) ?_
        refine j_get C (aI (F 8 2)) fl_X4_18 ((sC_8 hS)) (fun _ => rfl) dX4_add_53 ?_
        refine j_iconst C dX4_add_56 ?_
        refine j_iadd C dX4_add_57 ?_
        refine j_putI C fp_X4_18 ((sC_8 hS)) rfl dX4_add_58 ?_
        exact j_vret C hr (Nat.le_refl _) (Nat.le_refl _) dX4_add_61 ⟨rfl, rfl, rfl, rfl⟩

set_option maxHeartbeats 4000000 in
set_option maxRecDepth 100000 in
theorem c_takeCorner (l : Launch) (S : ab_St) (F : ab_Fn) (A : ab_An) (hS : ab_SC S) (hp : 0 ≤ F 5 2 ∧ F 5 2 ≤ F 4 1 ∧ F 4 1 ≤ 400) (hT : ∀ i, 0 ≤ i → i < F 4 1 → 0 ≤ A 15 i ∧ A 15 i ≤ 255) (hm : 0 ≤ F 6 2 ∧ F 6 2 < 42) : ab_Met l yX7_takeCorner cX7_takeCorner 3 (some .boolean) { frames := 3, cells := 0, slots := 0, locals := 65 } 0 0 [aR 5] S F A (fun v S' F' A' => S = S' ∧ ∃ b q x : Int, b = bl (byt (A 15) (F 4 1)) (F 5 2) ∧ q = dg (byt (A 15) (F 4 1)) b ∧ (F 5 2 ≤ b ∧ b ≤ q ∧ q ≤ F 4 1) ∧ x = nV (byt (A 15) (F 4 1)) b q 20 ∧ ((x = -1 ∧ v = some (aI 0) ∧ F' = upF F 5 2 b ∧ A = A') ∨ (0 ≤ x ∧ ∃ b2 q2 y : Int, b2 = bl (byt (A 15) (F 4 1)) q ∧ q2 = dg (byt (A 15) (F 4 1)) b2 ∧ (q ≤ b2 ∧ b2 ≤ q2 ∧ q2 ≤ F 4 1) ∧ y = nV (byt (A 15) (F 4 1)) b2 q2 14 ∧ ((y = -1 ∧ v = some (aI 0) ∧ F' = upF F 5 2 b2 ∧ A = A') ∨ ((0 ≤ y ∧ y ≤ 14 ∧ x ≤ 20) ∧ v = some (aI 1) ∧ F' = upF (upF F 5 2 q2) 6 2 (F 6 2 + 1) ∧ A' = upA (upA A 16 (F 6 2) x) 17 (F 6 2) y))))) := by
  refine ab_enter (by decide) (by simp [aI, aR, aX, ab_val, Value.category]) (Nat.le_of_ble_eq_true rfl) (fun E C hr => ?_)
  refine j_eq (lv' := [some (aR 5), none, none]) ?_
  refine j_aload_n C dX7_takeCorner_0 rfl rfl ?_
  refine j_bipush C dX7_takeCorner_1 rfl ?_
  refine j_callV C (vs := [aI 20]) (st := []) cl_X7_54 im_yX7_takeNumber se_yX7_takeNumber (fun _ => c_takeNumber _ S F A hS _ (by decide) (by show 0 ≤ F 5 2 ∧ F 5 2 ≤ F 4 1 ∧ F 4 1 ≤ 400; omega) hT) ((sC_5 hS)) rfl rfl rfl ⟨rfl, rfl, by decide, by decide⟩ ⟨by decide, by decide⟩ (fun _ => Nat.le_of_ble_eq_true rfl) (fun v hv => by cases hv) (fun v hv => by simp only [List.mem_cons, List.not_mem_nil, or_false, Option.some.injEq, reduceCtorEq, false_or] at hv; rcases hv with rfl <;> first | exact (lS ((sC_5 hS)))) dX7_takeCorner_3 (fun v_3 S_3 F_3 A_3 hP_3 => ?_)
  obtain ⟨rfl, b3, q3, r3, a3, rfl, hb3, hq3, hr3, rfl, hn3, hi3, rfl, ha3⟩ := hP_3
  have hb3 : b3 = bl (byt (A 15) (F 4 1)) (F 5 2) := hb3
  have hq3 : q3 = dg (byt (A 15) (F 4 1)) b3 := hq3
  have hr3 : F 5 2 ≤ b3 ∧ b3 ≤ q3 ∧ q3 ≤ F 4 1 := hr3
  have hn3 : r3 = nV (byt (A 15) (F 4 1)) b3 q3 20 := hn3
  show ab_J E 3 0 0 S (upF F 5 2 a3) A 6 [some (aR 5), none, none] [aI r3]
  refine j_istore_n C (lv' := [some (aR 5), some (aI r3), none]) dX7_takeCorner_6 rfl (by decide) rfl ?_
  refine j_iload_n C dX7_takeCorner_7 rfl rfl ?_
  refine j_iconst C dX7_takeCorner_8 ?_
  refine j_icmp_ne C (tgt := 14) dX7_takeCorner_9 (by decide) ⟨by omega, by omega⟩ ⟨by omega, by omega⟩ (fun c9 => ?_) (fun c9 => ?_)
  · have e9 : a3 = q3 := by omega
    refine j_aload_n C dX7_takeCorner_14 rfl rfl ?_
    refine j_bipush C dX7_takeCorner_15 rfl ?_
    refine j_callV C (vs := [aI 14]) (st := []) cl_X7_54 im_yX7_takeNumber se_yX7_takeNumber (fun _ => c_takeNumber _ S (upF F 5 2 a3) A hS _ (by decide) (by show 0 ≤ a3 ∧ a3 ≤ F 4 1 ∧ F 4 1 ≤ 400; omega) hT) ((sC_5 hS)) rfl rfl rfl ⟨rfl, rfl, by decide, by decide⟩ ⟨by decide, by decide⟩ (fun _ => Nat.le_of_ble_eq_true rfl) (fun v hv => by cases hv) (fun v hv => by simp only [List.mem_cons, List.not_mem_nil, or_false, Option.some.injEq, reduceCtorEq, false_or] at hv; rcases hv with rfl | rfl <;> first | exact (lS ((sC_5 hS))) | exact trivial) dX7_takeCorner_17 (fun v_17 S_17 F_17 A_17 hP_17 => ?_)
    obtain ⟨rfl, b17, q17, r17, a17, rfl, hb17, hq17, hr17, rfl, hn17, hi17, rfl, ha17⟩ := hP_17
    have hb17 : b17 = bl (byt (A 15) (F 4 1)) (a3) := hb17
    have hq17 : q17 = dg (byt (A 15) (F 4 1)) b17 := hq17
    have hr17 : a3 ≤ b17 ∧ b17 ≤ q17 ∧ q17 ≤ F 4 1 := hr17
    have hn17 : r17 = nV (byt (A 15) (F 4 1)) b17 q17 14 := hn17
    show ab_J E 3 0 0 S (upF (upF F 5 2 a3) 5 2 a17) A 20 [some (aR 5), some (aI r3), none] [aI r17]
    refine j_istore_n C (lv' := [some (aR 5), some (aI r3), some (aI r17)]) dX7_takeCorner_20 rfl (by decide) rfl ?_
    refine j_iload_n C dX7_takeCorner_21 rfl rfl ?_
    refine j_iconst C dX7_takeCorner_22 ?_
    refine j_icmp_ne C (tgt := 28) dX7_takeCorner_23 (by decide) ⟨by omega, by omega⟩ ⟨by omega, by omega⟩ (fun c23 => ?_) (fun c23 => ?_)
    · refine j_aload_n C dX7_takeCorner_28 rfl rfl ?_
      refine j_getR C (j := 6) fl_X7_21 ((sC_5 hS)) rfl dX7_takeCorner_29 ?_
      refine j_iload_n C dX7_takeCorner_32 rfl rfl ?_
      refine j_iload_n C dX7_takeCorner_33 rfl rfl ?_
      refine j_callV C (vs := [aI r3, aI r17]) (st := []) cl_X7_57 im_yX4_add se_yX4_add (fun _ => c_add6 _ S (upF (upF F 5 2 a3) 5 2 a17) A hS _ _ (by show 0 ≤ F 6 2 ∧ F 6 2 < 42; omega)) ((sC_6 hS)) rfl rfl rfl ⟨rfl, rfl, by decide, by decide⟩ ⟨by decide, by decide⟩ (fun _ => Nat.le_of_ble_eq_true rfl) (fun v hv => by cases hv) (fun v hv => by simp only [List.mem_cons, List.not_mem_nil, or_false, Option.some.injEq, reduceCtorEq, false_or] at hv; rcases hv with rfl | rfl | rfl <;> first | exact (lS ((sC_5 hS))) | exact trivial) dX7_takeCorner_34 (fun v_34 S_34 F_34 A_34 hP_34 => ?_)
      obtain ⟨rfl, rfl, rfl, rfl⟩ := hP_34
      show ab_J E 3 0 0 S (upF (upF (upF F 5 2 a3) 5 2 a17) 6 2 (F 6 2 + 1)) (upA (upA A 16 (F 6 2) r3) 17 (F 6 2) r17) 37 [some (aR 5), some (aI r3), some (aI r17)] []
      refine j_iconst C dX7_takeCorner_37 ?_
      exact j_zret C hr rfl (Nat.le_refl _) (Nat.le_refl _) dX7_takeCorner_38 ⟨rfl, b3, q3, r3, hb3, hq3, hr3, hn3, Or.inr ⟨by omega, b17, q17, r17, (by rw [← e9]; exact hb17), hq17, (by omega), hn17, Or.inr ⟨⟨by omega, by omega, by omega⟩, rfl, (by rw [upF_up, show a17 = q17 by omega]), rfl⟩⟩⟩
    · refine j_iconst C dX7_takeCorner_26 ?_
      exact j_zret C hr rfl (Nat.le_refl _) (Nat.le_refl _) dX7_takeCorner_27 ⟨rfl, b3, q3, r3, hb3, hq3, hr3, hn3, Or.inr ⟨by omega, b17, q17, r17, (by rw [← e9]; exact hb17), hq17, (by omega), hn17, Or.inl ⟨c23, rfl, (by rw [upF_up, show a17 = b17 by omega]), rfl⟩⟩⟩
  · refine j_iconst C dX7_takeCorner_12 ?_
    exact j_zret C hr rfl (Nat.le_refl _) (Nat.le_refl _) dX7_takeCorner_13 ⟨rfl, b3, q3, r3, hb3, hq3, hr3, hn3, Or.inl ⟨c9, rfl, (by rw [show a3 = b3 by omega]), rfl⟩⟩

theorem upF_n5 {F : ab_Fn} {a b c : Int} : upF (upF (upF F 5 2 a) 6 2 b) 5 2 c = upF (upF F 5 2 c) 6 2 b := by
  funext i k
  by_cases h1 : i = 5
  · subst h1; by_cases h2 : k = 2 <;> simp [upF, h2]
  · by_cases h3 : i = 6
    · subst h3; simp [upF]
    · simp [upF, h1, h3]

set_option maxHeartbeats 4000000 in
set_option maxRecDepth 100000 in
theorem c_takeCorners (l : Launch) (S : ab_St) (F : ab_Fn) (A : ab_An) (hS : ab_SC S) (hp : 0 ≤ F 5 2 ∧ F 5 2 ≤ F 4 1 ∧ F 4 1 ≤ 400) (hT : ∀ i, 0 ≤ i → i < F 4 1 → 0 ≤ A 15 i ∧ A 15 i ≤ 255) (hm : F 6 2 = 0) : ab_Met l yX7_takeCorners cX7_takeCorners 2 (some .boolean) { frames := 4, cells := 0, slots := 0, locals := 87 } 0 0 [aR 5] S F A (fun v S' F' A' => S = S' ∧ ∃ z a c : Int, (∃ L, rcs (byt (A 15) (F 4 1)) 40 (F 5 2) [] = (z, (a, L))) ∧ v = some (aI z) ∧ F' = upF (upF F 5 2 a) 6 2 c ∧ (∀ i, i ≠ 16 → i ≠ 17 → A' i = A i) ∧ ((z = 1 ∧ ∃ L, rcs (byt (A 15) (F 4 1)) 40 (F 5 2) [] = (1, (a, L)) ∧ cnr (A' 16) (A' 17) c L ∧ 0 ≤ a ∧ a ≤ F 4 1) ∨ (z = 0 ∧ a = bl (byt (A 15) (F 4 1)) a ∧ 0 ≤ a ∧ a ≤ F 4 1))) := by
  refine ab_enter (by decide) (by simp [aI, aR, aX, ab_val, Value.category]) (Nat.le_of_ble_eq_true rfl) (fun E C hr => ?_)
  refine j_eq (lv' := [some (aR 5), none]) ?_
  refine j_iconst C dX7_takeCorners_0 ?_
  refine j_istore_n C (lv' := [some (aR 5), some (aI 1)]) dX7_takeCorners_1 rfl (by decide) rfl ?_
  have K2 : ∀ (N : Nat) (k p : Int) (B : ab_An) (L : List (Int × Int)), (1 ≤ k ∧ k ≤ 41) → (0 ≤ p ∧ p ≤ F 4 1) → (cnr (B 16) (B 17) (k - 1) L) → (∀ i, i ≠ 16 → i ≠ 17 → B i = A i) → (k ≤ 40 → rcs (byt (A 15) (F 4 1)) 40 (F 5 2) [] = rcs (byt (A 15) (F 4 1)) (40 - L.length) p L) → (k = 41 → rcs (byt (A 15) (F 4 1)) 40 (F 5 2) [] = (0, (p, L))) → (k = 41 → p = bl (byt (A 15) (F 4 1)) p) → ((41 - k).toNat) < N → ab_J E 2 0 0 S (upF (upF F 5 2 p) 6 2 (k - 1)) B 2 [some (aR 5), some (aI k)] [] := by
    intro N
    induction N with
    | zero => intro k p B L hk hp1 hcn hO hR hF9 hF8 hm; exact absurd hm (Nat.not_lt_zero _)
    | succ N ih =>
      have ih2 := ih
      clear ih
      intro k p B L hk hp1 hcn hO hR hF9 hF8 hm2
      have e15 : B 15 = A 15 := hO 15 (by decide) (by decide)
      have hTB : ∀ i, 0 ≤ i → i < F 4 1 → 0 ≤ B 15 i ∧ B 15 i ≤ 255 := by rw [e15]; exact hT
      have hml := hcn.1
      have hfu : k ≤ 40 → 40 - L.length = (40 - (L.length + 1)) + 1 := fun _ => by omega
      refine j_iload_n C dX7_takeCorners_2 rfl rfl ?_
      refine j_bipush C dX7_takeCorners_3 rfl ?_
      refine j_icmp_gt C (tgt := 67) dX7_takeCorners_5 (by decide) ⟨by omega, by omega⟩ ⟨by omega, by omega⟩ (fun c5 => ?_) (fun c5 => ?_)
      · refine j_iconst C dX7_takeCorners_67 ?_
        exact j_zret C hr rfl (Nat.le_refl _) (Nat.le_refl _) dX7_takeCorners_68 ⟨rfl, 0, p, k - 1, ⟨L, hF9 (by omega)⟩, rfl, (by first | rfl | simp only [upF_n5, upF_up] | simp only [upF_n5b, upF_n5, upF_up]), (fun i p1 p2 => by first | exact hO i p1 p2 | (rw [upA_other p2, upA_other p1]; exact hO i p1 p2)), Or.inr ⟨rfl, (hF8 (by omega)), by omega, by omega⟩⟩
      · refine j_aload_n C dX7_takeCorners_8 rfl rfl ?_
        refine j_callV C (vs := []) (st := []) cl_X7_47 im_yX7_takeCorner se_yX7_takeCorner (fun _ => c_takeCorner _ S (upF (upF F 5 2 p) 6 2 (k - 1)) B hS (by show 0 ≤ p ∧ p ≤ F 4 1 ∧ F 4 1 ≤ 400; omega) hTB (by show 0 ≤ k - 1 ∧ k - 1 < 42; omega)) ((sC_5 hS)) rfl rfl rfl ⟨rfl, rfl, by decide, by decide⟩ ⟨by decide, by decide⟩ (fun _ => Nat.le_of_ble_eq_true rfl) (fun v hv => by cases hv) (fun v hv => by simp only [List.mem_cons, List.not_mem_nil, or_false, Option.some.injEq, reduceCtorEq, false_or] at hv; rcases hv with rfl | rfl <;> first | exact (lS ((sC_5 hS))) | exact trivial) dX7_takeCorners_9 (fun v_9 S_9 F_9 A_9 hP_9 => ?_)
        obtain ⟨rfl, b9, q9, x9, hb9, hq9, hr9, hn9, ⟨hx9, rfl, rfl, rfl⟩ | ⟨hx9, B9, Q9, y9, hB9, hQ9, hR9, hN9, ⟨hy9, rfl, rfl, rfl⟩ | ⟨hy9, rfl, rfl, rfl⟩⟩⟩ := hP_9
        · have hb9 : b9 = bl (byt (B 15) (F 4 1)) (p) := hb9
          have hq9 : q9 = dg (byt (B 15) (F 4 1)) b9 := hq9
          have hr9 : p ≤ b9 ∧ b9 ≤ q9 ∧ q9 ≤ F 4 1 := hr9
          have hn9 : x9 = nV (byt (B 15) (F 4 1)) b9 q9 20 := hn9
          try rw [e15] at hb9
          try rw [e15] at hq9
          try rw [e15] at hn9
          show ab_J E 2 0 0 S (upF (upF (upF F 5 2 p) 6 2 (k - 1)) 5 2 b9) B 12 [some (aR 5), some (aI k)] [aI 0]
          refine j_if_ne C (tgt := 17) dX7_takeCorners_12 (by decide) ⟨by omega, by omega⟩ (fun c12 => ?_) (fun c12 => ?_)
          · exact absurd c12 (by decide)
          · refine j_iconst C dX7_takeCorners_15 ?_
            exact j_zret C hr rfl (Nat.le_refl _) (Nat.le_refl _) dX7_takeCorners_16 ⟨rfl, 0, b9, k - 1, (by first | exact ⟨L, (by rw [hR (by omega), hfu (by omega), rcs_x hb9 hq9 hn9 (by omega)])⟩ | exact ⟨L, (by rw [hR (by omega), hfu (by omega), rcs_y hb9 hq9 hn9 (by omega) hB9 hQ9 hN9 (by omega)])⟩) , rfl, (by first | rfl | simp only [upF_n5, upF_up] | simp only [upF_n5b, upF_n5, upF_up]), (fun i p1 p2 => by first | exact hO i p1 p2 | (rw [upA_other p2, upA_other p1]; exact hO i p1 p2)), Or.inr ⟨rfl, (by first | exact bl_bl (by omega) (by omega) hB9 | exact bl_bl (by omega) (by omega) hb9), by omega, by omega⟩⟩
        · have hb9 : b9 = bl (byt (B 15) (F 4 1)) (p) := hb9
          have hq9 : q9 = dg (byt (B 15) (F 4 1)) b9 := hq9
          have hr9 : p ≤ b9 ∧ b9 ≤ q9 ∧ q9 ≤ F 4 1 := hr9
          have hn9 : x9 = nV (byt (B 15) (F 4 1)) b9 q9 20 := hn9
          have hB9 : B9 = bl (byt (B 15) (F 4 1)) q9 := hB9
          have hQ9 : Q9 = dg (byt (B 15) (F 4 1)) B9 := hQ9
          have hR9 : q9 ≤ B9 ∧ B9 ≤ Q9 ∧ Q9 ≤ F 4 1 := hR9
          have hN9 : y9 = nV (byt (B 15) (F 4 1)) B9 Q9 14 := hN9
          try rw [e15] at hb9
          try rw [e15] at hq9
          try rw [e15] at hn9
          try rw [e15] at hB9
          try rw [e15] at hQ9
          try rw [e15] at hN9
          show ab_J E 2 0 0 S (upF (upF (upF F 5 2 p) 6 2 (k - 1)) 5 2 B9) B 12 [some (aR 5), some (aI k)] [aI 0]
          refine j_if_ne C (tgt := 17) dX7_takeCorners_12 (by decide) ⟨by omega, by omega⟩ (fun c12 => ?_) (fun c12 => ?_)
          · exact absurd c12 (by decide)
          · refine j_iconst C dX7_takeCorners_15 ?_
            exact j_zret C hr rfl (Nat.le_refl _) (Nat.le_refl _) dX7_takeCorners_16 ⟨rfl, 0, B9, k - 1, (by first | exact ⟨L, (by rw [hR (by omega), hfu (by omega), rcs_x hb9 hq9 hn9 (by omega)])⟩ | exact ⟨L, (by rw [hR (by omega), hfu (by omega), rcs_y hb9 hq9 hn9 (by omega) hB9 hQ9 hN9 (by omega)])⟩) , rfl, (by first | rfl | simp only [upF_n5, upF_up] | simp only [upF_n5b, upF_n5, upF_up]), (fun i p1 p2 => by first | exact hO i p1 p2 | (rw [upA_other p2, upA_other p1]; exact hO i p1 p2)), Or.inr ⟨rfl, (by first | exact bl_bl (by omega) (by omega) hB9 | exact bl_bl (by omega) (by omega) hb9), by omega, by omega⟩⟩
        · have hb9 : b9 = bl (byt (B 15) (F 4 1)) (p) := hb9
          have hq9 : q9 = dg (byt (B 15) (F 4 1)) b9 := hq9
          have hr9 : p ≤ b9 ∧ b9 ≤ q9 ∧ q9 ≤ F 4 1 := hr9
          have hn9 : x9 = nV (byt (B 15) (F 4 1)) b9 q9 20 := hn9
          have hB9 : B9 = bl (byt (B 15) (F 4 1)) q9 := hB9
          have hQ9 : Q9 = dg (byt (B 15) (F 4 1)) B9 := hQ9
          have hR9 : q9 ≤ B9 ∧ B9 ≤ Q9 ∧ Q9 ≤ F 4 1 := hR9
          have hN9 : y9 = nV (byt (B 15) (F 4 1)) B9 Q9 14 := hN9
          try rw [e15] at hb9
          try rw [e15] at hq9
          try rw [e15] at hn9
          try rw [e15] at hB9
          try rw [e15] at hQ9
          try rw [e15] at hN9
          show ab_J E 2 0 0 S (upF (upF (upF (upF F 5 2 p) 6 2 (k - 1)) 5 2 Q9) 6 2 (k - 1 + 1)) (upA (upA B 16 (k - 1) x9) 17 (k - 1) y9) 12 [some (aR 5), some (aI k)] [aI 1]
          refine j_if_ne C (tgt := 17) dX7_takeCorners_12 (by decide) ⟨by omega, by omega⟩ (fun c12 => ?_) (fun c12 => ?_)
          · have hcn2 := cnr_put (X' := (upA (upA B 16 (k - 1) x9) 17 (k - 1) y9) 16) (Y' := (upA (upA B 16 (k - 1) x9) 17 (k - 1) y9) 17) (x := x9) (y := y9) hcn (by funext j; rw [upA_other (by decide)]; exact upA_if _ _ _ _ _) (by funext j; rw [upA_if, upA_other (by decide)]) (by omega) (by omega)
            refine j_aload_n C dX7_takeCorners_17 rfl rfl ?_
            refine j_callV C (vs := []) (st := []) cl_X7_43 im_yX7_skipBlanks se_yX7_skipBlanks (fun _ => c_skipBlanks _ S (upF (upF (upF (upF F 5 2 p) 6 2 (k - 1)) 5 2 Q9) 6 2 (k - 1 + 1)) (upA (upA B 16 (k - 1) x9) 17 (k - 1) y9) hS (by show 0 ≤ Q9 ∧ Q9 ≤ F 4 1 ∧ F 4 1 ≤ 400; omega) hTB) ((sC_5 hS)) rfl rfl rfl ⟨rfl, rfl, by decide, by decide⟩ ⟨by decide, by decide⟩ (fun _ => Nat.le_of_ble_eq_true rfl) (fun v hv => by cases hv) (fun v hv => by simp only [List.mem_cons, List.not_mem_nil, or_false, Option.some.injEq, reduceCtorEq, false_or] at hv; rcases hv with rfl | rfl <;> first | exact (lS ((sC_5 hS))) | exact trivial) dX7_takeCorners_18 (fun v_18 S_18 F_18 A_18 hP_18 => ?_)
            obtain ⟨rfl, rfl, rfl, b18, hb18, hr18, rfl⟩ := hP_18
            have hb18 : b18 = bl (byt (B 15) (F 4 1)) (Q9) := hb18
            have hr18 : Q9 ≤ b18 ∧ b18 ≤ F 4 1 := hr18
            try rw [e15] at hb18
            show ab_J E 2 0 0 S (upF (upF (upF (upF (upF F 5 2 p) 6 2 (k - 1)) 5 2 Q9) 6 2 (k - 1 + 1)) 5 2 b18) (upA (upA B 16 (k - 1) x9) 17 (k - 1) y9) 21 [some (aR 5), some (aI k)] []
            refine j_aload_n C dX7_takeCorners_21 rfl rfl ?_
            refine j_aload_n C dX7_takeCorners_22 rfl rfl ?_
            refine j_get C (aI b18) fl_X7_25 ((sC_5 hS)) (fun _ => rfl) dX7_takeCorners_23 ?_
            refine j_callV C (vs := [aI b18]) (st := []) cl_X7_50 im_yX7_here se_yX7_here (fun _ => c_here _ S (upF (upF (upF (upF (upF F 5 2 p) 6 2 (k - 1)) 5 2 Q9) 6 2 (k - 1 + 1)) 5 2 b18) (upA (upA B 16 (k - 1) x9) 17 (k - 1) y9) hS _ ⟨by omega, by omega⟩ (by show 0 ≤ F 4 1 ∧ F 4 1 ≤ 400; omega) hTB) ((sC_5 hS)) rfl rfl rfl ⟨rfl, rfl, by decide, by decide⟩ ⟨by decide, by decide⟩ (fun _ => Nat.le_of_ble_eq_true rfl) (fun v hv => by cases hv) (fun v hv => by simp only [List.mem_cons, List.not_mem_nil, or_false, Option.some.injEq, reduceCtorEq, false_or] at hv; rcases hv with rfl | rfl <;> first | exact (lS ((sC_5 hS))) | exact trivial) dX7_takeCorners_26 (fun v_26 S_26 F_26 A_26 hP_26 => ?_)
            obtain ⟨rfl, rfl, rfl, rfl⟩ := hP_26
            show ab_J E 2 0 0 S (upF (upF (upF (upF (upF F 5 2 p) 6 2 (k - 1)) 5 2 Q9) 6 2 (k - 1 + 1)) 5 2 b18) (upA (upA B 16 (k - 1) x9) 17 (k - 1) y9) 29 [some (aR 5), some (aI k)] [aI ((byt (B 15) (F 4 1)) b18)]
            refine j_bipush C dX7_takeCorners_29 rfl ?_
            skip
            refine j_icmp_eq C (tgt := 45) dX7_takeCorners_31 (by decide) byt_i ⟨by omega, by omega⟩ (fun c31 => ?_) (fun c31 => ?_)
            · rw [e15] at c31
              refine j_iload_n C dX7_takeCorners_45 rfl rfl ?_
              refine j_bipush C dX7_takeCorners_46 rfl ?_
              refine j_icmp_ge C (tgt := 61) dX7_takeCorners_48 (by decide) ⟨by omega, by omega⟩ ⟨by omega, by omega⟩ (fun c48 => ?_) (fun c48 => ?_)
              · refine j_iinc C (lv' := [some (aR 5), some (aI (k + 1))]) dX7_takeCorners_61 rfl (by decide) rfl ?_
                refine j_goto C (tgt := 2) dX7_takeCorners_64 (by decide) ?_
                refine j_eq (F' := (upF (upF F 5 2 b18) 6 2 ((k + 1) - 1))) ?_ (e3 := (by simp only [upF_n5, upF_up]; rw [show k + 1 - 1 = k - 1 + 1 by omega]))
                exact ih2 (k + 1) b18 ((upA (upA B 16 (k - 1) x9) 17 (k - 1) y9)) ((L ++ [(x9, y9)])) (by omega) (by first | omega | (have q9 : b18 < F 4 1 := Int.not_le.mp (fun q => by rw [byt_out (by omega)] at c31; omega); omega)) (by rw [show k + 1 - 1 = k - 1 + 1 by omega]; exact hcn2) (fun i p1 p2 => by rw [upA_other p2, upA_other p1]; exact hO i p1 p2) (fun q => by omega) (fun _ => by rw [hR (by omega), hfu (by omega), rcs_f hb9 hq9 hn9 (by omega) hB9 hQ9 hN9 (by omega) hb18 (by omega) (by omega)]) (fun _ => bl_bl (by omega) (by omega) hb18) (by omega)
              · refine j_aload_n C dX7_takeCorners_51 rfl rfl ?_
                refine j_dup C dX7_takeCorners_52 (fun _ => rfl) ?_
                refine j_get C (aI b18) fl_X7_25 ((sC_5 hS)) (fun _ => rfl) dX7_takeCorners_53 ?_
                refine j_iconst C dX7_takeCorners_56 ?_
                refine j_iadd C dX7_takeCorners_57 ?_
                refine j_putI C fp_X7_25 ((sC_5 hS)) rfl dX7_takeCorners_58 ?_
                refine j_iinc C (lv' := [some (aR 5), some (aI (k + 1))]) dX7_takeCorners_61 rfl (by decide) rfl ?_
                refine j_goto C (tgt := 2) dX7_takeCorners_64 (by decide) ?_
                refine j_eq (F' := (upF (upF F 5 2 (b18 + 1)) 6 2 ((k + 1) - 1))) ?_ (e3 := (by simp only [upF_n5, upF_up]; rw [show k + 1 - 1 = k - 1 + 1 by omega]))
                exact ih2 (k + 1) (b18 + 1) ((upA (upA B 16 (k - 1) x9) 17 (k - 1) y9)) ((L ++ [(x9, y9)])) (by omega) (by first | omega | (have q9 : b18 < F 4 1 := Int.not_le.mp (fun q => by rw [byt_out (by omega)] at c31; omega); omega)) (by rw [show k + 1 - 1 = k - 1 + 1 by omega]; exact hcn2) (fun i p1 p2 => by rw [upA_other p2, upA_other p1]; exact hO i p1 p2) (fun _ => by rw [hR (by omega), hfu (by omega), rcs_g hb9 hq9 hn9 (by omega) hB9 hQ9 hN9 (by omega) hb18 (by omega) (by omega), List.length_append]; rfl) (fun q => by omega) (fun q => by omega) (by omega)
            · rw [e15] at c31
              refine j_iload_n C dX7_takeCorners_34 rfl rfl ?_
              refine j_iconst C dX7_takeCorners_35 ?_
              refine j_icmp_lt C (tgt := 43) dX7_takeCorners_36 (by decide) ⟨by omega, by omega⟩ ⟨by omega, by omega⟩ (fun c36 => ?_) (fun c36 => ?_)
              · refine j_iconst C dX7_takeCorners_43 ?_
                exact j_zret C hr rfl (Nat.le_refl _) (Nat.le_refl _) dX7_takeCorners_44 ⟨rfl, 0, b18, k - 1 + 1, (by first | exact ⟨L ++ [(x9, y9)], (by rw [hR (by omega), hfu (by omega), rcs_e hb9 hq9 hn9 (by omega) hB9 hQ9 hN9 (by omega) hb18 (by omega), if_neg (by omega)])⟩ | exact ⟨L ++ [(x9, y9)], (by rw [hR (by omega), hfu (by omega), rcs_e hb9 hq9 hn9 (by omega) hB9 hQ9 hN9 (by omega) hb18 (by omega), if_pos (by omega)])⟩), rfl, (by first | rfl | simp only [upF_n5, upF_up] | simp only [upF_n5b, upF_n5, upF_up]), (fun i p1 p2 => by first | exact hO i p1 p2 | (rw [upA_other p2, upA_other p1]; exact hO i p1 p2)), (by first | exact Or.inl ⟨rfl, L ++ [(x9, y9)], (by rw [hR (by omega), hfu (by omega), rcs_e hb9 hq9 hn9 (by omega) hB9 hQ9 hN9 (by omega) hb18 (by omega), if_neg (by omega)]), hcn2, by omega, by omega⟩ | exact Or.inr ⟨rfl, bl_bl (by omega) (by omega) hb18, by omega, by omega⟩)⟩
              · refine j_iconst C dX7_takeCorners_39 ?_
                refine j_goto C (tgt := 44) dX7_takeCorners_40 (by decide) ?_
                exact j_zret C hr rfl (Nat.le_refl _) (Nat.le_refl _) dX7_takeCorners_44 ⟨rfl, 1, b18, k - 1 + 1, (by first | exact ⟨L ++ [(x9, y9)], (by rw [hR (by omega), hfu (by omega), rcs_e hb9 hq9 hn9 (by omega) hB9 hQ9 hN9 (by omega) hb18 (by omega), if_neg (by omega)])⟩ | exact ⟨L ++ [(x9, y9)], (by rw [hR (by omega), hfu (by omega), rcs_e hb9 hq9 hn9 (by omega) hB9 hQ9 hN9 (by omega) hb18 (by omega), if_pos (by omega)])⟩), rfl, (by first | rfl | simp only [upF_n5, upF_up] | simp only [upF_n5b, upF_n5, upF_up]), (fun i p1 p2 => by first | exact hO i p1 p2 | (rw [upA_other p2, upA_other p1]; exact hO i p1 p2)), (by first | exact Or.inl ⟨rfl, L ++ [(x9, y9)], (by rw [hR (by omega), hfu (by omega), rcs_e hb9 hq9 hn9 (by omega) hB9 hQ9 hN9 (by omega) hb18 (by omega), if_neg (by omega)]), hcn2, by omega, by omega⟩ | exact Or.inr ⟨rfl, bl_bl (by omega) (by omega) hb18, by omega, by omega⟩)⟩
          · exact absurd c12 (by decide)
  refine j_eq (F' := (upF (upF F 5 2 (F 5 2)) 6 2 (1 - 1))) ?_ (e3 := (by rw [← upF_self, show (1 : Int) - 1 = F 6 2 by omega, ← upF_self]))
  exact K2 _ 1 (F 5 2) A ([]) (by omega) (by omega) cnr_0 (fun _ _ _ => rfl) (fun _ => rfl) (fun q => by omega) (fun q => by omega) (Nat.lt_succ_self _)
