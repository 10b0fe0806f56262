set_option maxHeartbeats 4000000 in
set_option maxRecDepth 100000 in
theorem m_thrown (l : Launch) (S : ab_St) (F : ab_Fn) (A : ab_An) (hS : ab_SM S)  : ab_Met l yX10_thrown cX10_thrown 1 (some .int) { frames := 0, cells := 0, slots := 0, locals := 0 } 0 0 [aR 100] S F A (fun v S' F' A' => S = S' ∧ F = F' ∧ A = A' ∧ v = some (aI (F 100 0))) := by
  refine ab_enter (by decide) (by simp [aI, aR, aX, ab_val, Value.category]) (Nat.le_of_ble_eq_true rfl) (fun E C hr => ?_)
  refine j_eq (lv' := [some (aR 100)]) ?_
  refine j_aload_n C dX10_thrown_0 rfl rfl ?_
  refine j_get C (aI (F 100 0)) fl_X10_3 (sM_100 hS) (fun _ => rfl) dX10_thrown_1 ?_
  exact j_iret C hr (Nat.le_refl _) (Nat.le_refl _) dX10_thrown_4 ⟨rfl, rfl, rfl, rfl⟩

set_option maxHeartbeats 4000000 in
set_option maxRecDepth 100000 in
theorem m_throwsIf0 (l : Launch) (S : ab_St) (F : ab_Fn) (A : ab_An) (hS : ab_SM S) (code : Int) : ab_Met l yX10_throwsIf cX10_throwsIf 3 (some .boolean) { frames := 0, cells := 0, slots := 0, locals := 0 } 0 0 [aR 100, aI 0, aI code] S F A (fun v S' F' A' => S = S' ∧ F = F' ∧ A = A' ∧ v = some (aI 0)) := by
  refine ab_enter (by decide) (by simp [aI, aR, aX, ab_val, Value.category]) (Nat.le_of_ble_eq_true rfl) (fun E C hr => ?_)
  refine j_eq (lv' := [some (aR 100), some (aI 0), some (aI code)]) ?_
  refine j_iload_n C dX10_throwsIf_0 rfl rfl ?_
  refine j_if_eq C (tgt := 9) dX10_throwsIf_1 (by decide) ⟨by omega, by omega⟩ (fun c1 => ?_) (fun c1 => ?_)
  · refine j_iload_n C dX10_throwsIf_9 rfl rfl ?_
    exact j_zret C hr (ab_nz01 (by omega)) (Nat.le_refl _) (Nat.le_refl _) dX10_throwsIf_10 ⟨rfl, rfl, rfl, rfl⟩
  · exact absurd c1 (by decide)

set_option maxHeartbeats 4000000 in
set_option maxRecDepth 100000 in
theorem m_throwsIf1 (l : Launch) (S : ab_St) (F : ab_Fn) (A : ab_An) (hS : ab_SM S) (code : Int) : ab_Met l yX10_throwsIf cX10_throwsIf 3 (some .boolean) { frames := 0, cells := 0, slots := 0, locals := 0 } 0 0 [aR 100, aI 1, aI code] S F A (fun v S' F' A' => S = S' ∧ F' = upF F 100 0 code ∧ A = A' ∧ v = some (aI 1)) := by
  refine ab_enter (by decide) (by simp [aI, aR, aX, ab_val, Value.category]) (Nat.le_of_ble_eq_true rfl) (fun E C hr => ?_)
  refine j_eq (lv' := [some (aR 100), some (aI 1), some (aI code)]) ?_
  refine j_iload_n C dX10_throwsIf_0 rfl rfl ?_
  refine j_if_eq C (tgt := 9) dX10_throwsIf_1 (by decide) ⟨by omega, by omega⟩ (fun c1 => ?_) (fun c1 => ?_)
  · exact absurd c1 (by decide)
  · refine j_aload_n C dX10_throwsIf_4 rfl rfl ?_
    refine j_iload_n C dX10_throwsIf_5 rfl rfl ?_
    refine j_putI C fp_X10_3 (sM_100 hS) rfl dX10_throwsIf_6 ?_
    refine j_iload_n C dX10_throwsIf_9 rfl rfl ?_
    exact j_zret C hr (ab_nz01 (by omega)) (Nat.le_refl _) (Nat.le_refl _) dX10_throwsIf_10 ⟨rfl, rfl, rfl, rfl⟩

set_option maxHeartbeats 4000000 in
set_option maxRecDepth 100000 in
theorem m_in (l : Launch) (S : ab_St) (F : ab_Fn) (A : ab_An) (hS : ab_SM S) (a b c : Int) (ra : inR a) (rb : inR b) (rc : inR c) : ab_Met l yX10_in cX10_in 3 (some .boolean) { frames := 0, cells := 0, slots := 0, locals := 0 } 0 0 [aI a, aI b, aI c] S F A (fun v S' F' A' => S = S' ∧ F = F' ∧ A = A' ∧ ∃ z : Int, v = some (aI z) ∧ zb z (b ≤ a ∧ a ≤ c)) := by
  refine ab_enter (by decide) (by simp [aI, aR, aX, ab_val, Value.category]) (Nat.le_of_ble_eq_true rfl) (fun E C hr => ?_)
  refine j_eq (lv' := [some (aI a), some (aI b), some (aI c)]) ?_
  refine j_iload_n C dX10_in_0 rfl rfl ?_
  refine j_iload_n C dX10_in_1 rfl rfl ?_
  refine j_icmp_lt C (tgt := 14) dX10_in_2 (by decide) ra rb (fun c2 => ?_) (fun c2 => ?_)
  · refine j_iconst C dX10_in_14 ?_
    exact j_zret C hr (ab_nz01 (by omega)) (Nat.le_refl _) (Nat.le_refl _) dX10_in_15 ⟨rfl, rfl, rfl, _, rfl, by unfold zb; omega⟩
  · refine j_iload_n C dX10_in_5 rfl rfl ?_
    refine j_iload_n C dX10_in_6 rfl rfl ?_
    refine j_icmp_gt C (tgt := 14) dX10_in_7 (by decide) ra rc (fun c7 => ?_) (fun c7 => ?_)
    · refine j_iconst C dX10_in_14 ?_
      exact j_zret C hr (ab_nz01 (by omega)) (Nat.le_refl _) (Nat.le_refl _) dX10_in_15 ⟨rfl, rfl, rfl, _, rfl, by unfold zb; omega⟩
    · refine j_iconst C dX10_in_10 ?_
      refine j_goto C (tgt := 15) dX10_in_11 (by decide) ?_
      exact j_zret C hr (ab_nz01 (by omega)) (Nat.le_refl _) (Nat.le_refl _) dX10_in_15 ⟨rfl, rfl, rfl, _, rfl, by unfold zb; omega⟩

set_option maxHeartbeats 4000000 in
set_option maxRecDepth 100000 in
theorem m_noSquare (l : Launch) (S : ab_St) (F : ab_Fn) (A : ab_An) (hS : ab_SM S) (a : Int) (ra : inR a) : ab_Met l yX10_noSquare cX10_noSquare 1 (some .boolean) { frames := 1, cells := 0, slots := 0, locals := 22 } 0 0 [aI a] S F A (fun v S' F' A' => S = S' ∧ F = F' ∧ A = A' ∧ ∃ z : Int, v = some (aI z) ∧ zb z (¬ (0 ≤ a ∧ a ≤ 279))) := by
  refine ab_enter (by decide) (by simp [aI, aR, aX, ab_val, Value.category]) (Nat.le_of_ble_eq_true rfl) (fun E C hr => ?_)
  refine j_eq (lv' := [some (aI a)]) ?_
  refine j_iload_n C dX10_noSquare_0 rfl rfl ?_
  refine j_iconst C dX10_noSquare_1 ?_
  refine j_sipush C dX10_noSquare_2 rfl ?_
  refine j_callS C (vs := [aI a, aI 0, aI 279]) (st := []) cl_X10_97 sc_yX10_in (fun _ => m_in _ S F A hS _ _ _ ra ⟨by omega, by omega⟩ ⟨by omega, by omega⟩) rfl ⟨rfl, rfl, by decide, by decide⟩ ⟨by decide, by decide⟩ (fun _ => Nat.le_of_ble_eq_true rfl) (fun v hv => by cases hv) (fun v hv => by simp only [List.mem_cons, List.not_mem_nil, or_false, Option.some.injEq, reduceCtorEq, false_or] at hv; rcases hv with rfl <;> first | exact trivial) dX10_noSquare_5 (fun v_5 S_5 F_5 A_5 hP_5 => ?_)
  obtain ⟨rfl, rfl, rfl, z_5, rfl, ⟨rfl, hz_5⟩ | ⟨rfl, hz_5⟩⟩ := hP_5
  · show ab_J E 1 0 0 S F A 8 [some (aI a)] [aI 1]
    refine j_if_ne C (tgt := 15) dX10_noSquare_8 (by decide) ⟨by omega, by omega⟩ (fun c8 => ?_) (fun c8 => ?_)
    · refine j_iconst C dX10_noSquare_15 ?_
      exact j_zret C hr (ab_nz01 (by omega)) (Nat.le_refl _) (Nat.le_refl _) dX10_noSquare_16 ⟨rfl, rfl, rfl, _, rfl, by unfold zb; omega⟩
    · exact absurd c8 (by decide)
  · show ab_J E 1 0 0 S F A 8 [some (aI a)] [aI 0]
    refine j_if_ne C (tgt := 15) dX10_noSquare_8 (by decide) ⟨by omega, by omega⟩ (fun c8 => ?_) (fun c8 => ?_)
    · exact absurd c8 (by decide)
    · refine j_iconst C dX10_noSquare_11 ?_
      refine j_goto C (tgt := 16) dX10_noSquare_12 (by decide) ?_
      exact j_zret C hr (ab_nz01 (by omega)) (Nat.le_refl _) (Nat.le_refl _) dX10_noSquare_16 ⟨rfl, rfl, rfl, _, rfl, by unfold zb; omega⟩

set_option maxHeartbeats 4000000 in
set_option maxRecDepth 100000 in
theorem m_noBerg (l : Launch) (S : ab_St) (F : ab_Fn) (A : ab_An) (hS : ab_SM S) (a : Int) (ra : inR a) (hb : 0 ≤ F 100 11 ∧ F 100 11 ≤ 10) : ab_Met l yX10_noBerg cX10_noBerg 2 (some .boolean) { frames := 1, cells := 0, slots := 0, locals := 22 } 0 0 [aR 100, aI a] S F A (fun v S' F' A' => S = S' ∧ F = F' ∧ A = A' ∧ ∃ z : Int, v = some (aI z) ∧ zb z (¬ (0 ≤ a ∧ a < F 100 11))) := by
  refine ab_enter (by decide) (by simp [aI, aR, aX, ab_val, Value.category]) (Nat.le_of_ble_eq_true rfl) (fun E C hr => ?_)
  refine j_eq (lv' := [some (aR 100), some (aI a)]) ?_
  refine j_iload_n C dX10_noBerg_0 rfl rfl ?_
  refine j_iconst C dX10_noBerg_1 ?_
  refine j_aload_n C dX10_noBerg_2 rfl rfl ?_
  refine j_get C (aI (F 100 11)) fl_X10_101 (sM_100 hS) (fun _ => rfl) dX10_noBerg_3 ?_
  refine j_iconst C dX10_noBerg_6 ?_
  refine j_isub C dX10_noBerg_7 ?_
  refine j_callS C (vs := [aI a, aI 0, aI ((F 100 11) - 1)]) (st := []) cl_X10_97 sc_yX10_in (fun _ => m_in _ S F A hS _ _ _ ra ⟨by omega, by omega⟩ ⟨by omega, by omega⟩) rfl ⟨rfl, rfl, by decide, by decide⟩ ⟨by decide, by decide⟩ (fun _ => Nat.le_of_ble_eq_true rfl) (fun v hv => by cases hv) (fun v hv => by simp only [List.mem_cons, List.not_mem_nil, or_false, Option.some.injEq, reduceCtorEq, false_or] at hv; rcases hv with rfl | rfl <;> first | exact (lM_100 hS) | exact trivial) dX10_noBerg_8 (fun v_8 S_8 F_8 A_8 hP_8 => ?_)
  obtain ⟨rfl, rfl, rfl, z_8, rfl, ⟨rfl, hz_8⟩ | ⟨rfl, hz_8⟩⟩ := hP_8
  · show ab_J E 2 0 0 S F A 11 [some (aR 100), some (aI a)] [aI 1]
    refine j_if_ne C (tgt := 18) dX10_noBerg_11 (by decide) ⟨by omega, by omega⟩ (fun c11 => ?_) (fun c11 => ?_)
    · refine j_iconst C dX10_noBerg_18 ?_
      exact j_zret C hr (ab_nz01 (by omega)) (Nat.le_refl _) (Nat.le_refl _) dX10_noBerg_19 ⟨rfl, rfl, rfl, _, rfl, by unfold zb; omega⟩
    · exact absurd c11 (by decide)
  · show ab_J E 2 0 0 S F A 11 [some (aR 100), some (aI a)] [aI 0]
    refine j_if_ne C (tgt := 18) dX10_noBerg_11 (by decide) ⟨by omega, by omega⟩ (fun c11 => ?_) (fun c11 => ?_)
    · exact absurd c11 (by decide)
    · refine j_iconst C dX10_noBerg_14 ?_
      refine j_goto C (tgt := 19) dX10_noBerg_15 (by decide) ?_
      exact j_zret C hr (ab_nz01 (by omega)) (Nat.le_refl _) (Nat.le_refl _) dX10_noBerg_19 ⟨rfl, rfl, rfl, _, rfl, by unfold zb; omega⟩

set_option maxHeartbeats 4000000 in
set_option maxRecDepth 100000 in
theorem m_noWarning (l : Launch) (S : ab_St) (F : ab_Fn) (A : ab_An) (hS : ab_SM S) (a : Int) (ra : inR a) (hb : 0 ≤ F 100 18 ∧ F 100 18 ≤ 40) : ab_Met l yX10_noWarning cX10_noWarning 2 (some .boolean) { frames := 1, cells := 0, slots := 0, locals := 22 } 0 0 [aR 100, aI a] S F A (fun v S' F' A' => S = S' ∧ F = F' ∧ A = A' ∧ ∃ z : Int, v = some (aI z) ∧ zb z (¬ (0 ≤ a ∧ a < F 100 18))) := by
  refine ab_enter (by decide) (by simp [aI, aR, aX, ab_val, Value.category]) (Nat.le_of_ble_eq_true rfl) (fun E C hr => ?_)
  refine j_eq (lv' := [some (aR 100), some (aI a)]) ?_
  refine j_iload_n C dX10_noWarning_0 rfl rfl ?_
  refine j_iconst C dX10_noWarning_1 ?_
  refine j_aload_n C dX10_noWarning_2 rfl rfl ?_
  refine j_get C (aI (F 100 18)) fl_X10_104 (sM_100 hS) (fun _ => rfl) dX10_noWarning_3 ?_
  refine j_iconst C dX10_noWarning_6 ?_
  refine j_isub C dX10_noWarning_7 ?_
  refine j_callS C (vs := [aI a, aI 0, aI ((F 100 18) - 1)]) (st := []) cl_X10_97 sc_yX10_in (fun _ => m_in _ S F A hS _ _ _ ra ⟨by omega, by omega⟩ ⟨by omega, by omega⟩) rfl ⟨rfl, rfl, by decide, by decide⟩ ⟨by decide, by decide⟩ (fun _ => Nat.le_of_ble_eq_true rfl) (fun v hv => by cases hv) (fun v hv => by simp only [List.mem_cons, List.not_mem_nil, or_false, Option.some.injEq, reduceCtorEq, false_or] at hv; rcases hv with rfl | rfl <;> first | exact (lM_100 hS) | exact trivial) dX10_noWarning_8 (fun v_8 S_8 F_8 A_8 hP_8 => ?_)
  obtain ⟨rfl, rfl, rfl, z_8, rfl, ⟨rfl, hz_8⟩ | ⟨rfl, hz_8⟩⟩ := hP_8
  · show ab_J E 2 0 0 S F A 11 [some (aR 100), some (aI a)] [aI 1]
    refine j_if_ne C (tgt := 18) dX10_noWarning_11 (by decide) ⟨by omega, by omega⟩ (fun c11 => ?_) (fun c11 => ?_)
    · refine j_iconst C dX10_noWarning_18 ?_
      exact j_zret C hr (ab_nz01 (by omega)) (Nat.le_refl _) (Nat.le_refl _) dX10_noWarning_19 ⟨rfl, rfl, rfl, _, rfl, by unfold zb; omega⟩
    · exact absurd c11 (by decide)
  · show ab_J E 2 0 0 S F A 11 [some (aR 100), some (aI a)] [aI 0]
    refine j_if_ne C (tgt := 18) dX10_noWarning_11 (by decide) ⟨by omega, by omega⟩ (fun c11 => ?_) (fun c11 => ?_)
    · exact absurd c11 (by decide)
    · refine j_iconst C dX10_noWarning_14 ?_
      refine j_goto C (tgt := 19) dX10_noWarning_15 (by decide) ?_
      exact j_zret C hr (ab_nz01 (by omega)) (Nat.le_refl _) (Nat.le_refl _) dX10_noWarning_19 ⟨rfl, rfl, rfl, _, rfl, by unfold zb; omega⟩

set_option maxHeartbeats 4000000 in
set_option maxRecDepth 100000 in
theorem m_isSea (l : Launch) (S : ab_St) (F : ab_Fn) (A : ab_An) (hS : ab_SM S) (x y : Int) (rx : inR x) (ry : inR y) : ab_Met l yX10_isSea cX10_isSea 2 (some .boolean) { frames := 0, cells := 0, slots := 0, locals := 0 } 0 0 [aI x, aI y] S F A (fun v S' F' A' => S = S' ∧ F = F' ∧ A = A' ∧ ∃ z : Int, v = some (aI z) ∧ zb z (0 ≤ x ∧ x < 20 ∧ 0 ≤ y ∧ y < 14)) := by
  refine ab_enter (by decide) (by simp [aI, aR, aX, ab_val, Value.category]) (Nat.le_of_ble_eq_true rfl) (fun E C hr => ?_)
  refine j_eq (lv' := [some (aI x), some (aI y)]) ?_
  refine j_iload_n C dX10_isSea_0 rfl rfl ?_
  refine j_if_lt C (tgt := 24) dX10_isSea_1 (by decide) rx (fun c1 => ?_) (fun c1 => ?_)
  · refine j_iconst C dX10_isSea_24 ?_
    exact j_zret C hr (ab_nz01 (by omega)) (Nat.le_refl _) (Nat.le_refl _) dX10_isSea_25 ⟨rfl, rfl, rfl, _, rfl, by unfold zb; omega⟩
  · refine j_iload_n C dX10_isSea_4 rfl rfl ?_
    refine j_if_lt C (tgt := 24) dX10_isSea_5 (by decide) ry (fun c5 => ?_) (fun c5 => ?_)
    · refine j_iconst C dX10_isSea_24 ?_
      exact j_zret C hr (ab_nz01 (by omega)) (Nat.le_refl _) (Nat.le_refl _) dX10_isSea_25 ⟨rfl, rfl, rfl, _, rfl, by unfold zb; omega⟩
    · refine j_iload_n C dX10_isSea_8 rfl rfl ?_
      refine j_bipush C dX10_isSea_9 rfl ?_
      refine j_icmp_ge C (tgt := 24) dX10_isSea_11 (by decide) rx ⟨by omega, by omega⟩ (fun c11 => ?_) (fun c11 => ?_)
      · refine j_iconst C dX10_isSea_24 ?_
        exact j_zret C hr (ab_nz01 (by omega)) (Nat.le_refl _) (Nat.le_refl _) dX10_isSea_25 ⟨rfl, rfl, rfl, _, rfl, by unfold zb; omega⟩
      · refine j_iload_n C dX10_isSea_14 rfl rfl ?_
        refine j_bipush C dX10_isSea_15 rfl ?_
        refine j_icmp_ge C (tgt := 24) dX10_isSea_17 (by decide) ry ⟨by omega, by omega⟩ (fun c17 => ?_) (fun c17 => ?_)
        · refine j_iconst C dX10_isSea_24 ?_
          exact j_zret C hr (ab_nz01 (by omega)) (Nat.le_refl _) (Nat.le_refl _) dX10_isSea_25 ⟨rfl, rfl, rfl, _, rfl, by unfold zb; omega⟩
        · refine j_iconst C dX10_isSea_20 ?_
          refine j_goto C (tgt := 25) dX10_isSea_21 (by decide) ?_
          exact j_zret C hr (ab_nz01 (by omega)) (Nat.le_refl _) (Nat.le_refl _) dX10_isSea_25 ⟨rfl, rfl, rfl, _, rfl, by unfold zb; omega⟩

set_option maxHeartbeats 4000000 in
set_option maxRecDepth 100000 in
theorem m_mayBe (l : Launch) (S : ab_St) (F : ab_Fn) (A : ab_An) (hS : ab_SM S) (sq : Int) (h0 : 0 ≤ sq) (h1 : sq < 280) (hb : 0 ≤ F 100 11 ∧ F 100 11 ≤ 10) (hp : ∀ b, 0 ≤ b → b < F 100 11 → inR (A 106 (280 * b + sq))) : ab_Met l yX10_mayBe cX10_mayBe 4 (some .boolean) { frames := 0, cells := 0, slots := 0, locals := 0 } 0 0 [aR 100, aI sq] S F A (fun v S' F' A' => S = S' ∧ F = F' ∧ A = A' ∧ ∃ z : Int, v = some (aI z) ∧ zb z (exB (fun b => 0 < A 106 (280 * b + sq)) (F 100 11))) := by
  refine ab_enter (by decide) (by simp [aI, aR, aX, ab_val, Value.category]) (Nat.le_of_ble_eq_true rfl) (fun E C hr => ?_)
  refine j_eq (lv' := [some (aR 100), some (aI sq), none, none]) ?_
  refine j_iconst C dX10_mayBe_0 ?_
  refine j_istore_n C (lv' := [some (aR 100), some (aI sq), some (aI 0), none]) dX10_mayBe_1 rfl (by decide) rfl ?_
  refine j_iconst C dX10_mayBe_2 ?_
  refine j_istore_n C (lv' := [some (aR 100), some (aI sq), some (aI 0), some (aI 0)]) dX10_mayBe_3 rfl (by decide) rfl ?_
  have K4 : ∀ (N : Nat) (z b : Int), (zb z (exB (fun b => 0 < A 106 (280 * b + sq)) b)) → (0 ≤ b ∧ b ≤ F 100 11) → ((F 100 11 - b).toNat) < N → ab_J E 4 0 0 S F A 4 [some (aR 100), some (aI sq), some (aI z), some (aI b)] [] := by
    intro N
    induction N with
    | zero => intro z b hz hb0 hm; exact absurd hm (Nat.not_lt_zero _)
    | succ N ih =>
      have ih4 := ih
      clear ih
      intro z b hz hb0 hm4
      refine j_iload_n C dX10_mayBe_4 rfl rfl ?_
      refine j_aload_n C dX10_mayBe_5 rfl rfl ?_
      refine j_get C (aI (F 100 11)) fl_X10_101 (sM_100 hS) (fun _ => rfl) dX10_mayBe_6 ?_
      refine j_icmp_ge C (tgt := 43) dX10_mayBe_9 (by decide) ⟨by omega, by omega⟩ ⟨by omega, by omega⟩ (fun c9 => ?_) (fun c9 => ?_)
      · refine j_iload_n C dX10_mayBe_43 rfl rfl ?_
        exact j_zret C hr (ab_nz01 hz.c) (Nat.le_refl _) (Nat.le_refl _) dX10_mayBe_44 ⟨rfl, rfl, rfl, _, rfl, by have e : b = F 100 11 := (by omega); rw [e] at hz; exact hz⟩
      · refine j_iload_n C dX10_mayBe_12 rfl rfl ?_
        refine j_if_ne C (tgt := 31) dX10_mayBe_13 (by decide) hz.r (fun c13 => ?_) (fun c13 => ?_)
        · refine j_iconst C dX10_mayBe_31 ?_
          refine j_goto C (tgt := 36) dX10_mayBe_32 (by decide) ?_
          refine j_istore_n C (lv' := [some (aR 100), some (aI sq), some (aI 1), some (aI b)]) dX10_mayBe_36 rfl (by decide) rfl ?_
          refine j_iinc C (lv' := [some (aR 100), some (aI sq), some (aI 1), some (aI (b + 1))]) dX10_mayBe_37 rfl (by decide) rfl ?_
          refine j_goto C (tgt := 4) dX10_mayBe_40 (by decide) ?_
          exact ih4 1 (b + 1) (by first | exact zb.one (exB_keep (hz.t c13)) | exact zb.one (exB_hit hb0.1 (by omega)) | exact zb.zero (exB_miss (hz.f (by omega)) (by omega))) (by omega) (by omega)
        · refine j_aload_n C dX10_mayBe_16 rfl rfl ?_
          refine j_getR C (j := 106) fl_X10_27 (sM_100 hS) rfl dX10_mayBe_17 ?_
          refine j_sipush C dX10_mayBe_20 rfl ?_
          refine j_iload_n C dX10_mayBe_23 rfl rfl ?_
          refine j_imul C dX10_mayBe_24 ?_
          refine j_iload_n C dX10_mayBe_25 rfl rfl ?_
          refine j_iadd C dX10_mayBe_26 ?_
          refine j_iald C (sM_106 hS) (by omega) (by omega) (by decide) dX10_mayBe_27 ?_
          refine j_if_le C (tgt := 35) dX10_mayBe_28 (by decide) (hp _ (by omega) (by omega)) (fun c28 => ?_) (fun c28 => ?_)
          · refine j_iconst C dX10_mayBe_35 ?_
            refine j_istore_n C (lv' := [some (aR 100), some (aI sq), some (aI 0), some (aI b)]) dX10_mayBe_36 rfl (by decide) rfl ?_
            refine j_iinc C (lv' := [some (aR 100), some (aI sq), some (aI 0), some (aI (b + 1))]) dX10_mayBe_37 rfl (by decide) rfl ?_
            refine j_goto C (tgt := 4) dX10_mayBe_40 (by decide) ?_
            exact ih4 0 (b + 1) (by first | exact zb.one (exB_keep (hz.t c13)) | exact zb.one (exB_hit hb0.1 (by omega)) | exact zb.zero (exB_miss (hz.f (by omega)) (by omega))) (by omega) (by omega)
          · refine j_iconst C dX10_mayBe_31 ?_
            refine j_goto C (tgt := 36) dX10_mayBe_32 (by decide) ?_
            refine j_istore_n C (lv' := [some (aR 100), some (aI sq), some (aI 1), some (aI b)]) dX10_mayBe_36 rfl (by decide) rfl ?_
            refine j_iinc C (lv' := [some (aR 100), some (aI sq), some (aI 1), some (aI (b + 1))]) dX10_mayBe_37 rfl (by decide) rfl ?_
            refine j_goto C (tgt := 4) dX10_mayBe_40 (by decide) ?_
            exact ih4 1 (b + 1) (by first | exact zb.one (exB_keep (hz.t c13)) | exact zb.one (exB_hit hb0.1 (by omega)) | exact zb.zero (exB_miss (hz.f (by omega)) (by omega))) (by omega) (by omega)
  exact K4 _ 0 0 (zb.zero exB_0) (by omega) (Nat.lt_succ_self _)
