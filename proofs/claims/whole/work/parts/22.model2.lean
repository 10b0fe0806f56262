set_option maxHeartbeats 4000000 in
set_option maxRecDepth 100000 in
theorem m_water (l : Launch) (S : ab_St) (F : ab_Fn) (A : ab_An) (hS : ab_SM S) (sq a d w : Int) (r1 : inR sq) (r2 : inR a) (r3 : inR d) (r4 : inR w) : ab_Met l yX10_water cX10_water 5 none { frames := 2, cells := 0, slots := 0, locals := 42 } 0 0 [aR 100, aI sq, aI a, aI d, aI w] S F A (fun v S' F' A' => v = none ∧ S = S' ∧ ∃ t : Int, F' = upF F 100 0 t ∧ ((t = 1 ∧ ¬ (0 ≤ sq ∧ sq ≤ 279) ∧ A = A') ∨ (t = 2 ∧ (0 ≤ sq ∧ sq ≤ 279) ∧ ¬ (-2 ≤ a ∧ a ≤ 2 ∧ -2 ≤ d ∧ d ≤ 2 ∧ 0 ≤ w ∧ w ≤ 50) ∧ A = A') ∨ (t = 0 ∧ (0 ≤ sq ∧ sq ≤ 279) ∧ (-2 ≤ a ∧ a ≤ 2 ∧ -2 ≤ d ∧ d ≤ 2 ∧ 0 ≤ w ∧ w ≤ 50) ∧ A' = upA (upA (upA A 102 sq a) 103 sq d) 104 sq w))) := by
  refine ab_enter (by decide) (by simp [aI, aR, aX, ab_val, Value.category]) (Nat.le_of_ble_eq_true rfl) (fun E C hr => ?_)
  refine j_eq (lv' := [some (aR 100), some (aI sq), some (aI a), some (aI d), some (aI w)]) ?_
  refine j_aload_n C dX10_water_0 rfl rfl ?_
  refine j_iconst C dX10_water_1 ?_
  refine j_putI C fp_X10_3 (sM_100 hS) rfl dX10_water_2 ?_
  refine j_aload_n C dX10_water_5 rfl rfl ?_
  refine j_iload_n C dX10_water_6 rfl rfl ?_
  refine j_callS C (vs := [aI sq]) (st := [aR 100]) cl_X10_107 sc_yX10_noSquare (fun _ => m_noSquare _ S (upF F 100 0 0) A hS _ r1) rfl ⟨rfl, rfl, by decide, by decide⟩ ⟨by decide, by decide⟩ (fun _ => Nat.le_of_ble_eq_true rfl) (fun v hv => by simp only [List.mem_cons, List.not_mem_nil, or_false] at hv; rcases hv with rfl <;> first | exact (lM_100 hS)) (fun v hv => by simp only [List.mem_cons, List.not_mem_nil, or_false, Option.some.injEq, reduceCtorEq, false_or] at hv; rcases hv with rfl | rfl | rfl | rfl | rfl <;> first | exact (lM_100 hS) | exact trivial) dX10_water_7 (fun v_7 S_7 F_7 A_7 hP_7 => ?_)
  obtain ⟨rfl, rfl, rfl, z_7, rfl, ⟨rfl, hz_7⟩ | ⟨rfl, hz_7⟩⟩ := hP_7
  · show ab_J E 5 0 0 S (upF F 100 0 0) A 10 [some (aR 100), some (aI sq), some (aI a), some (aI d), some (aI w)] [aI 1, aR 100]
    refine j_iconst C dX10_water_10 ?_
    refine j_callV C (vs := [aI 1, aI 1]) (st := []) cl_X10_111 im_yX10_throwsIf se_yX10_throwsIf (fun _ => m_throwsIf1 _ S (upF F 100 0 0) A hS _) (sM_100 hS) rfl rfl rfl ⟨rfl, rfl, by decide, by decide⟩ ⟨by decide, by decide⟩ (fun _ => Nat.le_of_ble_eq_true rfl) (fun v hv => by cases hv) (fun v hv => by simp only [List.mem_cons, List.not_mem_nil, or_false, Option.some.injEq, reduceCtorEq, false_or] at hv; rcases hv with rfl | rfl | rfl | rfl | rfl <;> first | exact (lM_100 hS) | exact trivial) dX10_water_11 (fun v_11 S_11 F_11 A_11 hP_11 => ?_)
    obtain ⟨rfl, rfl, rfl, rfl⟩ := hP_11
    show ab_J E 5 0 0 S (upF (upF F 100 0 0) 100 0 1) A 14 [some (aR 100), some (aI sq), some (aI a), some (aI d), some (aI w)] [aI 1]
    refine j_if_ne C (tgt := 61) dX10_water_14 (by decide) ⟨by omega, by omega⟩ (fun c14 => ?_) (fun c14 => ?_)
    · exact j_vret C hr (Nat.le_refl _) (Nat.le_refl _) dX10_water_61 ⟨rfl, rfl, 1, (by first | rfl | exact upF_up _ _ _ _ _), (by first | exact Or.inl ⟨rfl, by omega, rfl⟩ | exact Or.inr (Or.inl ⟨rfl, by omega, by omega, rfl⟩) | exact Or.inr (Or.inr ⟨rfl, by omega, by omega, rfl⟩))⟩
    · exact absurd c14 (by decide)
  · show ab_J E 5 0 0 S (upF F 100 0 0) A 10 [some (aR 100), some (aI sq), some (aI a), some (aI d), some (aI w)] [aI 0, aR 100]
    refine j_iconst C dX10_water_10 ?_
    refine j_callV C (vs := [aI 0, aI 1]) (st := []) cl_X10_111 im_yX10_throwsIf se_yX10_throwsIf (fun _ => m_throwsIf0 _ S (upF F 100 0 0) A hS _) (sM_100 hS) rfl rfl rfl ⟨rfl, rfl, by decide, by decide⟩ ⟨by decide, by decide⟩ (fun _ => Nat.le_of_ble_eq_true rfl) (fun v hv => by cases hv) (fun v hv => by simp only [List.mem_cons, List.not_mem_nil, or_false, Option.some.injEq, reduceCtorEq, false_or] at hv; rcases hv with rfl | rfl | rfl | rfl | rfl <;> first | exact (lM_100 hS) | exact trivial) dX10_water_11 (fun v_11 S_11 F_11 A_11 hP_11 => ?_)
    obtain ⟨rfl, rfl, rfl, rfl⟩ := hP_11
    show ab_J E 5 0 0 S (upF F 100 0 0) A 14 [some (aR 100), some (aI sq), some (aI a), some (aI d), some (aI w)] [aI 0]
    refine j_if_ne C (tgt := 61) dX10_water_14 (by decide) ⟨by omega, by omega⟩ (fun c14 => ?_) (fun c14 => ?_)
    · exact absurd c14 (by decide)
    · refine j_aload_n C dX10_water_17 rfl rfl ?_
      refine j_iload_n C dX10_water_18 rfl rfl ?_
      refine j_bipush C dX10_water_19 rfl ?_
      refine j_iconst C dX10_water_21 ?_
      refine j_callS C (vs := [aI a, aI ((-2)), aI 2]) (st := [aR 100]) cl_X10_97 sc_yX10_in (fun _ => m_in _ S (upF F 100 0 0) A hS _ _ _ r2 ⟨by omega, by omega⟩ ⟨by omega, by omega⟩) rfl ⟨rfl, rfl, by decide, by decide⟩ ⟨by decide, by decide⟩ (fun _ => Nat.le_of_ble_eq_true rfl) (fun v hv => by simp only [List.mem_cons, List.not_mem_nil, or_false] at hv; rcases hv with rfl <;> first | exact (lM_100 hS)) (fun v hv => by simp only [List.mem_cons, List.not_mem_nil, or_false, Option.some.injEq, reduceCtorEq, false_or] at hv; rcases hv with rfl | rfl | rfl | rfl | rfl <;> first | exact (lM_100 hS) | exact trivial) dX10_water_22 (fun v_22 S_22 F_22 A_22 hP_22 => ?_)
      obtain ⟨rfl, rfl, rfl, z_22, rfl, ⟨rfl, hz_22⟩ | ⟨rfl, hz_22⟩⟩ := hP_22
      · show ab_J E 5 0 0 S (upF F 100 0 0) A 25 [some (aR 100), some (aI sq), some (aI a), some (aI d), some (aI w)] [aI 1, aR 100]
        refine j_if_eq C (tgt := 49) dX10_water_25 (by decide) ⟨by omega, by omega⟩ (fun c25 => ?_) (fun c25 => ?_)
        · exact absurd c25 (by decide)
        · refine j_iload_n C dX10_water_28 rfl rfl ?_
          refine j_bipush C dX10_water_29 rfl ?_
          refine j_iconst C dX10_water_31 ?_
          refine j_callS C (vs := [aI d, aI ((-2)), aI 2]) (st := [aR 100]) cl_X10_97 sc_yX10_in (fun _ => m_in _ S (upF F 100 0 0) A hS _ _ _ r3 ⟨by omega, by omega⟩ ⟨by omega, by omega⟩) rfl ⟨rfl, rfl, by decide, by decide⟩ ⟨by decide, by decide⟩ (fun _ => Nat.le_of_ble_eq_true rfl) (fun v hv => by simp only [List.mem_cons, List.not_mem_nil, or_false] at hv; rcases hv with rfl <;> first | exact (lM_100 hS)) (fun v hv => by simp only [List.mem_cons, List.not_mem_nil, or_false, Option.some.injEq, reduceCtorEq, false_or] at hv; rcases hv with rfl | rfl | rfl | rfl | rfl <;> first | exact (lM_100 hS) | exact trivial) dX10_water_32 (fun v_32 S_32 F_32 A_32 hP_32 => ?_)
          obtain ⟨rfl, rfl, rfl, z_32, rfl, ⟨rfl, hz_32⟩ | ⟨rfl, hz_32⟩⟩ := hP_32
          · show ab_J E 5 0 0 S (upF F 100 0 0) A 35 [some (aR 100), some (aI sq), some (aI a), some (aI d), some (aI w)] [aI 1, aR 100]
            refine j_if_eq C (tgt := 49) dX10_water_35 (by decide) ⟨by omega, by omega⟩ (fun c35 => ?_) (fun c35 => ?_)
            · exact absurd c35 (by decide)
            · refine j_iload C dX10_water_38 rfl ?_
              refine j_iconst C dX10_water_40 ?_
              refine j_bipush C dX10_water_41 rfl ?_
              refine j_callS C (vs := [aI w, aI 0, aI 50]) (st := [aR 100]) cl_X10_97 sc_yX10_in (fun _ => m_in _ S (upF F 100 0 0) A hS _ _ _ r4 ⟨by omega, by omega⟩ ⟨by omega, by omega⟩) rfl ⟨rfl, rfl, by decide, by decide⟩ ⟨by decide, by decide⟩ (fun _ => Nat.le_of_ble_eq_true rfl) (fun v hv => by simp only [List.mem_cons, List.not_mem_nil, or_false] at hv; rcases hv with rfl <;> first | exact (lM_100 hS)) (fun v hv => by simp only [List.mem_cons, List.not_mem_nil, or_false, Option.some.injEq, reduceCtorEq, false_or] at hv; rcases hv with rfl | rfl | rfl | rfl | rfl <;> first | exact (lM_100 hS) | exact trivial) dX10_water_43 (fun v_43 S_43 F_43 A_43 hP_43 => ?_)
              obtain ⟨rfl, rfl, rfl, z_43, rfl, ⟨rfl, hz_43⟩ | ⟨rfl, hz_43⟩⟩ := hP_43
              · show ab_J E 5 0 0 S (upF F 100 0 0) A 46 [some (aR 100), some (aI sq), some (aI a), some (aI d), some (aI w)] [aI 1, aR 100]
                refine j_if_ne C (tgt := 53) dX10_water_46 (by decide) ⟨by omega, by omega⟩ (fun c46 => ?_) (fun c46 => ?_)
                · refine j_iconst C dX10_water_53 ?_
                  refine j_iconst C dX10_water_54 ?_
                  refine j_callV C (vs := [aI 0, aI 2]) (st := []) cl_X10_111 im_yX10_throwsIf se_yX10_throwsIf (fun _ => m_throwsIf0 _ S (upF F 100 0 0) A hS _) (sM_100 hS) rfl rfl rfl ⟨rfl, rfl, by decide, by decide⟩ ⟨by decide, by decide⟩ (fun _ => Nat.le_of_ble_eq_true rfl) (fun v hv => by cases hv) (fun v hv => by simp only [List.mem_cons, List.not_mem_nil, or_false, Option.some.injEq, reduceCtorEq, false_or] at hv; rcases hv with rfl | rfl | rfl | rfl | rfl <;> first | exact (lM_100 hS) | exact trivial) dX10_water_55 (fun v_55 S_55 F_55 A_55 hP_55 => ?_)
                  obtain ⟨rfl, rfl, rfl, rfl⟩ := hP_55
                  show ab_J E 5 0 0 S (upF F 100 0 0) A 58 [some (aR 100), some (aI sq), some (aI a), some (aI d), some (aI w)] [aI 0]
                  refine j_if_eq C (tgt := 62) dX10_water_58 (by decide) ⟨by omega, by omega⟩ (fun c58 => ?_) (fun c58 => ?_)
                  · refine j_aload_n C dX10_water_62 rfl rfl ?_
                    refine j_getR C (j := 102) fl_X10_17 (sM_100 hS) rfl dX10_water_63 ?_
                    refine j_iload_n C dX10_water_66 rfl rfl ?_
                    refine j_iload_n C dX10_water_67 rfl rfl ?_
                    refine j_iast C (sM_102 hS) (by omega) (by omega) (by decide) dX10_water_68 ?_
                    refine j_aload_n C dX10_water_69 rfl rfl ?_
                    refine j_getR C (j := 103) fl_X10_21 (sM_100 hS) rfl dX10_water_70 ?_
                    refine j_iload_n C dX10_water_73 rfl rfl ?_
                    refine j_iload_n C dX10_water_74 rfl rfl ?_
                    refine j_iast C (sM_103 hS) (by omega) (by omega) (by decide) dX10_water_75 ?_
                    refine j_aload_n C dX10_water_76 rfl rfl ?_
                    refine j_getR C (j := 104) fl_X10_24 (sM_100 hS) rfl dX10_water_77 ?_
                    refine j_iload_n C dX10_water_80 rfl rfl ?_
                    refine j_iload C dX10_water_81 rfl ?_
                    refine j_iast C (sM_104 hS) (by omega) (by omega) (by decide) dX10_water_83 ?_
                    exact j_vret C hr (Nat.le_refl _) (Nat.le_refl _) dX10_water_84 ⟨rfl, rfl, 0, (by first | rfl | exact upF_up _ _ _ _ _), (by first | exact Or.inl ⟨rfl, by omega, rfl⟩ | exact Or.inr (Or.inl ⟨rfl, by omega, by omega, rfl⟩) | exact Or.inr (Or.inr ⟨rfl, by omega, by omega, rfl⟩))⟩
                  · exact absurd c58 (by decide)
                · exact absurd c46 (by decide)
              · show ab_J E 5 0 0 S (upF F 100 0 0) A 46 [some (aR 100), some (aI sq), some (aI a), some (aI d), some (aI w)] [aI 0, aR 100]
                refine j_if_ne C (tgt := 53) dX10_water_46 (by decide) ⟨by omega, by omega⟩ (fun c46 => ?_) (fun c46 => ?_)
                · exact absurd c46 (by decide)
                · refine j_iconst C dX10_water_49 ?_
                  refine j_goto C (tgt := 54) dX10_water_50 (by decide) ?_
                  refine j_iconst C dX10_water_54 ?_
                  refine j_callV C (vs := [aI 1, aI 2]) (st := []) cl_X10_111 im_yX10_throwsIf se_yX10_throwsIf (fun _ => m_throwsIf1 _ S (upF F 100 0 0) A hS _) (sM_100 hS) rfl rfl rfl ⟨rfl, rfl, by decide, by decide⟩ ⟨by decide, by decide⟩ (fun _ => Nat.le_of_ble_eq_true rfl) (fun v hv => by cases hv) (fun v hv => by simp only [List.mem_cons, List.not_mem_nil, or_false, Option.some.injEq, reduceCtorEq, false_or] at hv; rcases hv with rfl | rfl | rfl | rfl | rfl <;> first | exact (lM_100 hS) | exact trivial) dX10_water_55 (fun v_55 S_55 F_55 A_55 hP_55 => ?_)
                  obtain ⟨rfl, rfl, rfl, rfl⟩ := hP_55
                  show ab_J E 5 0 0 S (upF (upF F 100 0 0) 100 0 2) A 58 [some (aR 100), some (aI sq), some (aI a), some (aI d), some (aI w)] [aI 1]
                  refine j_if_eq C (tgt := 62) dX10_water_58 (by decide) ⟨by omega, by omega⟩ (fun c58 => ?_) (fun c58 => ?_)
                  · exact absurd c58 (by decide)
                  · exact j_vret C hr (Nat.le_refl _) (Nat.le_refl _) dX10_water_61 ⟨rfl, rfl, 2, (by first | rfl | exact upF_up _ _ _ _ _), (by first | exact Or.inl ⟨rfl, by omega, rfl⟩ | exact Or.inr (Or.inl ⟨rfl, by omega, by omega, rfl⟩) | exact Or.inr (Or.inr ⟨rfl, by omega, by omega, rfl⟩))⟩
          · show ab_J E 5 0 0 S (upF F 100 0 0) A 35 [some (aR 100), some (aI sq), some (aI a), some (aI d), some (aI w)] [aI 0, aR 100]
            refine j_if_eq C (tgt := 49) dX10_water_35 (by decide) ⟨by omega, by omega⟩ (fun c35 => ?_) (fun c35 => ?_)
            · refine j_iconst C dX10_water_49 ?_
              refine j_goto C (tgt := 54) dX10_water_50 (by decide) ?_
              refine j_iconst C dX10_water_54 ?_
              refine j_callV C (vs := [aI 1, aI 2]) (st := []) cl_X10_111 im_yX10_throwsIf se_yX10_throwsIf (fun _ => m_throwsIf1 _ S (upF F 100 0 0) A hS _) (sM_100 hS) rfl rfl rfl ⟨rfl, rfl, by decide, by decide⟩ ⟨by decide, by decide⟩ (fun _ => Nat.le_of_ble_eq_true rfl) (fun v hv => by cases hv) (fun v hv => by simp only [List.mem_cons, List.not_mem_nil, or_false, Option.some.injEq, reduceCtorEq, false_or] at hv; rcases hv with rfl | rfl | rfl | rfl | rfl <;> first | exact (lM_100 hS) | exact trivial) dX10_water_55 (fun v_55 S_55 F_55 A_55 hP_55 => ?_)
              obtain ⟨rfl, rfl, rfl, rfl⟩ := hP_55
              show ab_J E 5 0 0 S (upF (upF F 100 0 0) 100 0 2) A 58 [some (aR 100), some (aI sq), some (aI a), some (aI d), some (aI w)] [aI 1]
              refine j_if_eq C (tgt := 62) dX10_water_58 (by decide) ⟨by omega, by omega⟩ (fun c58 => ?_) (fun c58 => ?_)
              · exact absurd c58 (by decide)
              · exact j_vret C hr (Nat.le_refl _) (Nat.le_refl _) dX10_water_61 ⟨rfl, rfl, 2, (by first | rfl | exact upF_up _ _ _ _ _), (by first | exact Or.inl ⟨rfl, by omega, rfl⟩ | exact Or.inr (Or.inl ⟨rfl, by omega, by omega, rfl⟩) | exact Or.inr (Or.inr ⟨rfl, by omega, by omega, rfl⟩))⟩
            · exact absurd c35 (by decide)
      · show ab_J E 5 0 0 S (upF F 100 0 0) A 25 [some (aR 100), some (aI sq), some (aI a), some (aI d), some (aI w)] [aI 0, aR 100]
        refine j_if_eq C (tgt := 49) dX10_water_25 (by decide) ⟨by omega, by omega⟩ (fun c25 => ?_) (fun c25 => ?_)
        · refine j_iconst C dX10_water_49 ?_
          refine j_goto C (tgt := 54) dX10_water_50 (by decide) ?_
          refine j_iconst C dX10_water_54 ?_
          refine j_callV C (vs := [aI 1, aI 2]) (st := []) cl_X10_111 im_yX10_throwsIf se_yX10_throwsIf (fun _ => m_throwsIf1 _ S (upF F 100 0 0) A hS _) (sM_100 hS) rfl rfl rfl ⟨rfl, rfl, by decide, by decide⟩ ⟨by decide, by decide⟩ (fun _ => Nat.le_of_ble_eq_true rfl) (fun v hv => by cases hv) (fun v hv => by simp only [List.mem_cons, List.not_mem_nil, or_false, Option.some.injEq, reduceCtorEq, false_or] at hv; rcases hv with rfl | rfl | rfl | rfl | rfl <;> first | exact (lM_100 hS) | exact trivial) dX10_water_55 (fun v_55 S_55 F_55 A_55 hP_55 => ?_)
          obtain ⟨rfl, rfl, rfl, rfl⟩ := hP_55
          show ab_J E 5 0 0 S (upF (upF F 100 0 0) 100 0 2) A 58 [some (aR 100), some (aI sq), some (aI a), some (aI d), some (aI w)] [aI 1]
          refine j_if_eq C (tgt := 62) dX10_water_58 (by decide) ⟨by omega, by omega⟩ (fun c58 => ?_) (fun c58 => ?_)
          · exact absurd c58 (by decide)
          · exact j_vret C hr (Nat.le_refl _) (Nat.le_refl _) dX10_water_61 ⟨rfl, rfl, 2, (by first | rfl | exact upF_up _ _ _ _ _), (by first | exact Or.inl ⟨rfl, by omega, rfl⟩ | exact Or.inr (Or.inl ⟨rfl, by omega, by omega, rfl⟩) | exact Or.inr (Or.inr ⟨rfl, by omega, by omega, rfl⟩))⟩
        · exact absurd c25 (by decide)

set_option maxHeartbeats 4000000 in
set_option maxRecDepth 100000 in
theorem m_land (l : Launch) (S : ab_St) (F : ab_Fn) (A : ab_An) (hS : ab_SM S) (sq z : Int) (r1 : inR sq) (hz : z = 0 ∨ z = 1) (hb : 0 ≤ F 100 11 ∧ F 100 11 ≤ 10) (hp : (0 ≤ sq ∧ sq ≤ 279) → ∀ b, 0 ≤ b → b < F 100 11 → inR (A 106 (280 * b + sq))) : ab_Met l yX10_land cX10_land 3 none { frames := 2, cells := 0, slots := 0, locals := 42 } 0 0 [aR 100, aI sq, aI z] S F A (fun v S' F' A' => v = none ∧ S = S' ∧ ∃ t : Int, F' = upF F 100 0 t ∧ ((t = 1 ∧ ¬ (0 ≤ sq ∧ sq ≤ 279) ∧ A = A') ∨ (t = 2 ∧ (0 ≤ sq ∧ sq ≤ 279) ∧ (z = 1 ∧ exB (fun b => 0 < A 106 (280 * b + sq)) (F 100 11)) ∧ A = A') ∨ (t = 0 ∧ (0 ≤ sq ∧ sq ≤ 279) ∧ ¬ (z = 1 ∧ exB (fun b => 0 < A 106 (280 * b + sq)) (F 100 11)) ∧ A' = upA A 101 sq z))) := by
  refine ab_enter (by decide) (by simp [aI, aR, aX, ab_val, Value.category]) (Nat.le_of_ble_eq_true rfl) (fun E C hr => ?_)
  refine j_eq (lv' := [some (aR 100), some (aI sq), some (aI z)]) ?_
  refine j_aload_n C dX10_land_0 rfl rfl ?_
  refine j_iconst C dX10_land_1 ?_
  refine j_putI C fp_X10_3 (sM_100 hS) rfl dX10_land_2 ?_
  refine j_aload_n C dX10_land_5 rfl rfl ?_
  refine j_iload_n C dX10_land_6 rfl rfl ?_
  refine j_callS C (vs := [aI sq]) (st := [aR 100]) cl_X10_107 sc_yX10_noSquare (fun _ => m_noSquare _ S (upF F 100 0 0) A hS _ r1) rfl ⟨rfl, rfl, by decide, by decide⟩ ⟨by decide, by decide⟩ (fun _ => Nat.le_of_ble_eq_true rfl) (fun v hv => by simp only [List.mem_cons, List.not_mem_nil, or_false] at hv; rcases hv with rfl <;> first | exact (lM_100 hS)) (fun v hv => by simp only [List.mem_cons, List.not_mem_nil, or_false, Option.some.injEq, reduceCtorEq, false_or] at hv; rcases hv with rfl | rfl | rfl <;> first | exact (lM_100 hS) | exact trivial) dX10_land_7 (fun v_7 S_7 F_7 A_7 hP_7 => ?_)
  obtain ⟨rfl, rfl, rfl, z_7, rfl, ⟨rfl, hz_7⟩ | ⟨rfl, hz_7⟩⟩ := hP_7
  · show ab_J E 3 0 0 S (upF F 100 0 0) A 10 [some (aR 100), some (aI sq), some (aI z)] [aI 1, aR 100]
    refine j_iconst C dX10_land_10 ?_
    refine j_callV C (vs := [aI 1, aI 1]) (st := []) cl_X10_111 im_yX10_throwsIf se_yX10_throwsIf (fun _ => m_throwsIf1 _ S (upF F 100 0 0) A hS _) (sM_100 hS) rfl rfl rfl ⟨rfl, rfl, by decide, by decide⟩ ⟨by decide, by decide⟩ (fun _ => Nat.le_of_ble_eq_true rfl) (fun v hv => by cases hv) (fun v hv => by simp only [List.mem_cons, List.not_mem_nil, or_false, Option.some.injEq, reduceCtorEq, false_or] at hv; rcases hv with rfl | rfl | rfl <;> first | exact (lM_100 hS) | exact trivial) dX10_land_11 (fun v_11 S_11 F_11 A_11 hP_11 => ?_)
    obtain ⟨rfl, rfl, rfl, rfl⟩ := hP_11
    show ab_J E 3 0 0 S (upF (upF F 100 0 0) 100 0 1) A 14 [some (aR 100), some (aI sq), some (aI z)] [aI 1]
    refine j_if_ne C (tgt := 42) dX10_land_14 (by decide) ⟨by omega, by omega⟩ (fun c14 => ?_) (fun c14 => ?_)
    · exact j_vret C hr (Nat.le_refl _) (Nat.le_refl _) dX10_land_42 ⟨rfl, rfl, 1, (by first | rfl | exact upF_up _ _ _ _ _), (by first | exact Or.inl ⟨rfl, by omega, rfl⟩ | exact Or.inr (Or.inl ⟨rfl, by omega, ⟨by omega, hz_24⟩, rfl⟩) | exact Or.inr (Or.inr ⟨rfl, by omega, fun q => hz_24 q.2, rfl⟩) | exact Or.inr (Or.inr ⟨rfl, by omega, fun q => by omega, rfl⟩))⟩
    · exact absurd c14 (by decide)
  · show ab_J E 3 0 0 S (upF F 100 0 0) A 10 [some (aR 100), some (aI sq), some (aI z)] [aI 0, aR 100]
    refine j_iconst C dX10_land_10 ?_
    refine j_callV C (vs := [aI 0, aI 1]) (st := []) cl_X10_111 im_yX10_throwsIf se_yX10_throwsIf (fun _ => m_throwsIf0 _ S (upF F 100 0 0) A hS _) (sM_100 hS) rfl rfl rfl ⟨rfl, rfl, by decide, by decide⟩ ⟨by decide, by decide⟩ (fun _ => Nat.le_of_ble_eq_true rfl) (fun v hv => by cases hv) (fun v hv => by simp only [List.mem_cons, List.not_mem_nil, or_false, Option.some.injEq, reduceCtorEq, false_or] at hv; rcases hv with rfl | rfl | rfl <;> first | exact (lM_100 hS) | exact trivial) dX10_land_11 (fun v_11 S_11 F_11 A_11 hP_11 => ?_)
    obtain ⟨rfl, rfl, rfl, rfl⟩ := hP_11
    show ab_J E 3 0 0 S (upF F 100 0 0) A 14 [some (aR 100), some (aI sq), some (aI z)] [aI 0]
    refine j_if_ne C (tgt := 42) dX10_land_14 (by decide) ⟨by omega, by omega⟩ (fun c14 => ?_) (fun c14 => ?_)
    · exact absurd c14 (by decide)
    · refine j_aload_n C dX10_land_17 rfl rfl ?_
      refine j_iload_n C dX10_land_18 rfl rfl ?_
      refine j_if_eq C (tgt := 34) dX10_land_19 (by decide) ⟨by omega, by omega⟩ (fun c19 => ?_) (fun c19 => ?_)
      · refine j_iconst C dX10_land_34 ?_
        refine j_iconst C dX10_land_35 ?_
        refine j_callV C (vs := [aI 0, aI 2]) (st := []) cl_X10_111 im_yX10_throwsIf se_yX10_throwsIf (fun _ => m_throwsIf0 _ S (upF F 100 0 0) A hS _) (sM_100 hS) rfl rfl rfl ⟨rfl, rfl, by decide, by decide⟩ ⟨by decide, by decide⟩ (fun _ => Nat.le_of_ble_eq_true rfl) (fun v hv => by cases hv) (fun v hv => by simp only [List.mem_cons, List.not_mem_nil, or_false, Option.some.injEq, reduceCtorEq, false_or] at hv; rcases hv with rfl | rfl | rfl <;> first | exact (lM_100 hS) | exact trivial) dX10_land_36 (fun v_36 S_36 F_36 A_36 hP_36 => ?_)
        obtain ⟨rfl, rfl, rfl, rfl⟩ := hP_36
        show ab_J E 3 0 0 S (upF F 100 0 0) A 39 [some (aR 100), some (aI sq), some (aI z)] [aI 0]
        refine j_if_eq C (tgt := 43) dX10_land_39 (by decide) ⟨by omega, by omega⟩ (fun c39 => ?_) (fun c39 => ?_)
        · refine j_aload_n C dX10_land_43 rfl rfl ?_
          refine j_getR C (j := 101) fl_X10_13 (sM_100 hS) rfl dX10_land_44 ?_
          refine j_iload_n C dX10_land_47 rfl rfl ?_
          refine j_iload_n C dX10_land_48 rfl rfl ?_
          refine j_zast C (sM_101 hS) (by omega) (by omega) (by decide) hz dX10_land_49 ?_
          exact j_vret C hr (Nat.le_refl _) (Nat.le_refl _) dX10_land_50 ⟨rfl, rfl, 0, (by first | rfl | exact upF_up _ _ _ _ _), (by first | exact Or.inl ⟨rfl, by omega, rfl⟩ | exact Or.inr (Or.inl ⟨rfl, by omega, ⟨by omega, hz_24⟩, rfl⟩) | exact Or.inr (Or.inr ⟨rfl, by omega, fun q => hz_24 q.2, rfl⟩) | exact Or.inr (Or.inr ⟨rfl, by omega, fun q => by omega, rfl⟩))⟩
        · exact absurd c39 (by decide)
      · refine j_aload_n C dX10_land_22 rfl rfl ?_
        refine j_iload_n C dX10_land_23 rfl rfl ?_
        refine j_callV C (vs := [aI sq]) (st := [aR 100]) cl_X10_115 im_yX10_mayBe se_yX10_mayBe (fun _ => m_mayBe _ S (upF F 100 0 0) A hS _ (by omega) (by omega) hb (hp (by omega))) (sM_100 hS) rfl rfl rfl ⟨rfl, rfl, by decide, by decide⟩ ⟨by decide, by decide⟩ (fun _ => Nat.le_of_ble_eq_true rfl) (fun v hv => by simp only [List.mem_cons, List.not_mem_nil, or_false] at hv; rcases hv with rfl <;> first | exact (lM_100 hS)) (fun v hv => by simp only [List.mem_cons, List.not_mem_nil, or_false, Option.some.injEq, reduceCtorEq, false_or] at hv; rcases hv with rfl | rfl | rfl <;> first | exact (lM_100 hS) | exact trivial) dX10_land_24 (fun v_24 S_24 F_24 A_24 hP_24 => ?_)
        obtain ⟨rfl, rfl, rfl, z_24, rfl, ⟨rfl, hz_24⟩ | ⟨rfl, hz_24⟩⟩ := hP_24
        · have hz_24 : exB (fun bb => 0 < A 106 (280 * bb + sq)) (F 100 11) := hz_24
          show ab_J E 3 0 0 S (upF F 100 0 0) A 27 [some (aR 100), some (aI sq), some (aI z)] [aI 1, aR 100]
          refine j_if_eq C (tgt := 34) dX10_land_27 (by decide) ⟨by omega, by omega⟩ (fun c27 => ?_) (fun c27 => ?_)
          · exact absurd c27 (by decide)
          · refine j_iconst C dX10_land_30 ?_
            refine j_goto C (tgt := 35) dX10_land_31 (by decide) ?_
            refine j_iconst C dX10_land_35 ?_
            refine j_callV C (vs := [aI 1, aI 2]) (st := []) cl_X10_111 im_yX10_throwsIf se_yX10_throwsIf (fun _ => m_throwsIf1 _ S (upF F 100 0 0) A hS _) (sM_100 hS) rfl rfl rfl ⟨rfl, rfl, by decide, by decide⟩ ⟨by decide, by decide⟩ (fun _ => Nat.le_of_ble_eq_true rfl) (fun v hv => by cases hv) (fun v hv => by simp only [List.mem_cons, List.not_mem_nil, or_false, Option.some.injEq, reduceCtorEq, false_or] at hv; rcases hv with rfl | rfl | rfl <;> first | exact (lM_100 hS) | exact trivial) dX10_land_36 (fun v_36 S_36 F_36 A_36 hP_36 => ?_)
            obtain ⟨rfl, rfl, rfl, rfl⟩ := hP_36
            show ab_J E 3 0 0 S (upF (upF F 100 0 0) 100 0 2) A 39 [some (aR 100), some (aI sq), some (aI z)] [aI 1]
            refine j_if_eq C (tgt := 43) dX10_land_39 (by decide) ⟨by omega, by omega⟩ (fun c39 => ?_) (fun c39 => ?_)
            · exact absurd c39 (by decide)
            · exact j_vret C hr (Nat.le_refl _) (Nat.le_refl _) dX10_land_42 ⟨rfl, rfl, 2, (by first | rfl | exact upF_up _ _ _ _ _), (by first | exact Or.inl ⟨rfl, by omega, rfl⟩ | exact Or.inr (Or.inl ⟨rfl, by omega, ⟨by omega, hz_24⟩, rfl⟩) | exact Or.inr (Or.inr ⟨rfl, by omega, fun q => hz_24 q.2, rfl⟩) | exact Or.inr (Or.inr ⟨rfl, by omega, fun q => by omega, rfl⟩))⟩
        · have hz_24 : ¬ exB (fun bb => 0 < A 106 (280 * bb + sq)) (F 100 11) := hz_24
          show ab_J E 3 0 0 S (upF F 100 0 0) A 27 [some (aR 100), some (aI sq), some (aI z)] [aI 0, aR 100]
          refine j_if_eq C (tgt := 34) dX10_land_27 (by decide) ⟨by omega, by omega⟩ (fun c27 => ?_) (fun c27 => ?_)
          · refine j_iconst C dX10_land_34 ?_
            refine j_iconst C dX10_land_35 ?_
            refine j_callV C (vs := [aI 0, aI 2]) (st := []) cl_X10_111 im_yX10_throwsIf se_yX10_throwsIf (fun _ => m_throwsIf0 _ S (upF F 100 0 0) A hS _) (sM_100 hS) rfl rfl rfl ⟨rfl, rfl, by decide, by decide⟩ ⟨by decide, by decide⟩ (fun _ => Nat.le_of_ble_eq_true rfl) (fun v hv => by cases hv) (fun v hv => by simp only [List.mem_cons, List.not_mem_nil, or_false, Option.some.injEq, reduceCtorEq, false_or] at hv; rcases hv with rfl | rfl | rfl <;> first | exact (lM_100 hS) | exact trivial) dX10_land_36 (fun v_36 S_36 F_36 A_36 hP_36 => ?_)
            obtain ⟨rfl, rfl, rfl, rfl⟩ := hP_36
            show ab_J E 3 0 0 S (upF F 100 0 0) A 39 [some (aR 100), some (aI sq), some (aI z)] [aI 0]
            refine j_if_eq C (tgt := 43) dX10_land_39 (by decide) ⟨by omega, by omega⟩ (fun c39 => ?_) (fun c39 => ?_)
            · refine j_aload_n C dX10_land_43 rfl rfl ?_
              refine j_getR C (j := 101) fl_X10_13 (sM_100 hS) rfl dX10_land_44 ?_
              refine j_iload_n C dX10_land_47 rfl rfl ?_
              refine j_iload_n C dX10_land_48 rfl rfl ?_
              refine j_zast C (sM_101 hS) (by omega) (by omega) (by decide) hz dX10_land_49 ?_
              exact j_vret C hr (Nat.le_refl _) (Nat.le_refl _) dX10_land_50 ⟨rfl, rfl, 0, (by first | rfl | exact upF_up _ _ _ _ _), (by first | exact Or.inl ⟨rfl, by omega, rfl⟩ | exact Or.inr (Or.inl ⟨rfl, by omega, ⟨by omega, hz_24⟩, rfl⟩) | exact Or.inr (Or.inr ⟨rfl, by omega, fun q => hz_24 q.2, rfl⟩) | exact Or.inr (Or.inr ⟨rfl, by omega, fun q => by omega, rfl⟩))⟩
            · exact absurd c39 (by decide)
          · exact absurd c27 (by decide)

set_option maxHeartbeats 4000000 in
set_option maxRecDepth 100000 in
theorem m_puts (l : Launch) (S : ab_St) (F : ab_Fn) (A : ab_An) (hS : ab_SM S) (b sq sz : Int) (h1 : 0 ≤ b ∧ b < 10) (h2 : 0 ≤ sq ∧ sq < 280) : ab_Met l yX10_puts cX10_puts 5 none { frames := 0, cells := 0, slots := 0, locals := 0 } 0 0 [aR 100, aI b, aI sq, aI sz] S F A (fun v S' F' A' => v = none ∧ S = S' ∧ F = F' ∧ A' = upA (upA (upA (upA (setRow A 106 (280 * b) 280 (fun x => if x = sq then 1000000 else 0)) 107 b sz) 108 b 0) 109 b 0) 110 b 0) := by
  refine ab_enter (by decide) (by simp [aI, aR, aX, ab_val, Value.category]) (Nat.le_of_ble_eq_true rfl) (fun E C hr => ?_)
  refine j_eq (lv' := [some (aR 100), some (aI b), some (aI sq), some (aI sz), none]) ?_
  refine j_iconst C dX10_puts_0 ?_
  refine j_istore C (lv' := [some (aR 100), some (aI b), some (aI sq), some (aI sz), some (aI 0)]) dX10_puts_1 (by decide) rfl ?_
  have K3 : ∀ (N : Nat) (k : Int), (0 ≤ k ∧ k ≤ 280) → ((280 - k).toNat) < N → ab_J E 5 0 0 S F (setRow A 106 (280 * b) k (fun x => if x = sq then 1000000 else 0)) 3 [some (aR 100), some (aI b), some (aI sq), some (aI sz), some (aI k)] [] := by
    intro N
    induction N with
    | zero => intro k hk hm; exact absurd hm (Nat.not_lt_zero _)
    | succ N ih =>
      have ih3 := ih
      clear ih
      intro k hk hm3
      refine j_iload C dX10_puts_3 rfl ?_
      refine j_sipush C dX10_puts_5 rfl ?_
      refine j_icmp_ge C (tgt := 42) dX10_puts_8 (by decide) ⟨by omega, by omega⟩ ⟨by omega, by omega⟩ (fun c8 => ?_) (fun c8 => ?_)
      · have e : k = 280 := by omega
        subst e
        refine j_aload_n C dX10_puts_42 rfl rfl ?_
        refine j_getR C (j := 107) fl_X10_30 (sM_100 hS) rfl dX10_puts_43 ?_
        refine j_iload_n C dX10_puts_46 rfl rfl ?_
        refine j_iload_n C dX10_puts_47 rfl rfl ?_
        refine j_iast C (sM_107 hS) (by omega) (by omega) (by decide) dX10_puts_48 ?_
        refine j_aload_n C dX10_puts_49 rfl rfl ?_
        refine j_getR C (j := 108) fl_X10_33 (sM_100 hS) rfl dX10_puts_50 ?_
        refine j_iload_n C dX10_puts_53 rfl rfl ?_
        refine j_iconst C dX10_puts_54 ?_
        refine j_iast C (sM_108 hS) (by omega) (by omega) (by decide) dX10_puts_55 ?_
        refine j_aload_n C dX10_puts_56 rfl rfl ?_
        refine j_getR C (j := 109) fl_X10_36 (sM_100 hS) rfl dX10_puts_57 ?_
        refine j_iload_n C dX10_puts_60 rfl rfl ?_
        refine j_iconst C dX10_puts_61 ?_
        refine j_iast C (sM_109 hS) (by omega) (by omega) (by decide) dX10_puts_62 ?_
        refine j_aload_n C dX10_puts_63 rfl rfl ?_
        refine j_getR C (j := 110) fl_X10_39 (sM_100 hS) rfl dX10_puts_64 ?_
        refine j_iload_n C dX10_puts_67 rfl rfl ?_
        refine j_iconst C dX10_puts_68 ?_
        refine j_zast C (sM_110 hS) (by omega) (by omega) (by decide) (by omega) dX10_puts_69 ?_
        exact j_vret C hr (Nat.le_refl _) (Nat.le_refl _) dX10_puts_70 ⟨rfl, rfl, rfl, rfl⟩
      · refine j_aload_n C dX10_puts_11 rfl rfl ?_
        refine j_getR C (j := 106) fl_X10_27 (sM_100 hS) rfl dX10_puts_12 ?_
        refine j_sipush C dX10_puts_15 rfl ?_
        refine j_iload_n C dX10_puts_18 rfl rfl ?_
        refine j_imul C dX10_puts_19 ?_
        refine j_iload C dX10_puts_20 rfl ?_
        refine j_iadd C dX10_puts_22 ?_
        refine j_iload C dX10_puts_23 rfl ?_
        refine j_iload_n C dX10_puts_25 rfl rfl ?_
        refine j_icmp_ne C (tgt := 34) dX10_puts_26 (by decide) ⟨by omega, by omega⟩ ⟨by omega, by omega⟩ (fun c26 => ?_) (fun c26 => ?_)
        · refine j_iconst C dX10_puts_34 ?_
          refine j_iast C (sM_106 hS) (by omega) (by omega) (by decide) dX10_puts_35 ?_
          refine j_iinc C (lv' := [some (aR 100), some (aI b), some (aI sq), some (aI sz), some (aI (k + 1))]) dX10_puts_36 rfl (by decide) rfl ?_
          refine j_goto C (tgt := 3) dX10_puts_39 (by decide) ?_
          refine j_eq (A' := (setRow A 106 (280 * b) (k + 1) (fun x => if x = sq then 1000000 else 0))) ?_ (e4 := (setRow_up (by omega) rfl (by (try dsimp only); split <;> omega)))
          exact ih3 (k + 1) (by omega) (by omega)
        · refine j_ldcI C (z := 1000000) (ab_t5 (List.mem_of_getElem? (i := 134) rfl) rfl) rfl dX10_puts_29 ?_
          refine j_goto C (tgt := 35) dX10_puts_31 (by decide) ?_
          refine j_iast C (sM_106 hS) (by omega) (by omega) (by decide) dX10_puts_35 ?_
          refine j_iinc C (lv' := [some (aR 100), some (aI b), some (aI sq), some (aI sz), some (aI (k + 1))]) dX10_puts_36 rfl (by decide) rfl ?_
          refine j_goto C (tgt := 3) dX10_puts_39 (by decide) ?_
          refine j_eq (A' := (setRow A 106 (280 * b) (k + 1) (fun x => if x = sq then 1000000 else 0))) ?_ (e4 := (setRow_up (by omega) rfl (by (try dsimp only); split <;> omega)))
          exact ih3 (k + 1) (by omega) (by omega)
  refine j_eq (A' := (setRow A 106 (280 * b) 0 (fun x => if x = sq then 1000000 else 0))) ?_ (e4 := (setRow_0 _ _ _ _))
  exact K3 _ 0 (by omega) (Nat.lt_succ_self _)

set_option maxHeartbeats 4000000 in
set_option maxRecDepth 100000 in
theorem m_goes (l : Launch) (S : ab_St) (F : ab_Fn) (A : ab_An) (hS : ab_SM S) (b : Int) (h1 : 0 ≤ b ∧ b < 10) : ab_Met l yX10_goes cX10_goes 3 none { frames := 0, cells := 0, slots := 0, locals := 0 } 0 0 [aR 100, aI b] S F A (fun v S' F' A' => v = none ∧ S = S' ∧ F = F' ∧ A' = setRow (upA A 110 b 1) 106 (280 * b) 280 (fun _ => 0)) := by
  refine ab_enter (by decide) (by simp [aI, aR, aX, ab_val, Value.category]) (Nat.le_of_ble_eq_true rfl) (fun E C hr => ?_)
  refine j_eq (lv' := [some (aR 100), some (aI b), none]) ?_
  refine j_aload_n C dX10_goes_0 rfl rfl ?_
  refine j_getR C (j := 110) fl_X10_39 (sM_100 hS) rfl dX10_goes_1 ?_
  refine j_iload_n C dX10_goes_4 rfl rfl ?_
  refine j_iconst C dX10_goes_5 ?_
  refine j_zast C (sM_110 hS) (by omega) (by omega) (by decide) (by omega) dX10_goes_6 ?_
  refine j_iconst C dX10_goes_7 ?_
  refine j_istore_n C (lv' := [some (aR 100), some (aI b), some (aI 0)]) dX10_goes_8 rfl (by decide) rfl ?_
  have K9 : ∀ (N : Nat) (k : Int), (0 ≤ k ∧ k ≤ 280) → ((280 - k).toNat) < N → ab_J E 3 0 0 S F (setRow (upA A 110 b 1) 106 (280 * b) k (fun _ => 0)) 9 [some (aR 100), some (aI b), some (aI k)] [] := by
    intro N
    induction N with
    | zero => intro k hk hm; exact absurd hm (Nat.not_lt_zero _)
    | succ N ih =>
      have ih9 := ih
      clear ih
      intro k hk hm9
      refine j_iload_n C dX10_goes_9 rfl rfl ?_
      refine j_sipush C dX10_goes_10 rfl ?_
      refine j_icmp_ge C (tgt := 35) dX10_goes_13 (by decide) ⟨by omega, by omega⟩ ⟨by omega, by omega⟩ (fun c13 => ?_) (fun c13 => ?_)
      · have e : k = 280 := by omega
        subst e
        exact j_vret C hr (Nat.le_refl _) (Nat.le_refl _) dX10_goes_35 ⟨rfl, rfl, rfl, rfl⟩
      · refine j_aload_n C dX10_goes_16 rfl rfl ?_
        refine j_getR C (j := 106) fl_X10_27 (sM_100 hS) rfl dX10_goes_17 ?_
        refine j_sipush C dX10_goes_20 rfl ?_
        refine j_iload_n C dX10_goes_23 rfl rfl ?_
        refine j_imul C dX10_goes_24 ?_
        refine j_iload_n C dX10_goes_25 rfl rfl ?_
        refine j_iadd C dX10_goes_26 ?_
        refine j_iconst C dX10_goes_27 ?_
        refine j_iast C (sM_106 hS) (by omega) (by omega) (by decide) dX10_goes_28 ?_
        refine j_iinc C (lv' := [some (aR 100), some (aI b), some (aI (k + 1))]) dX10_goes_29 rfl (by decide) rfl ?_
        refine j_goto C (tgt := 9) dX10_goes_32 (by decide) ?_
        refine j_eq (A' := (setRow (upA A 110 b 1) 106 (280 * b) (k + 1) (fun _ => 0))) ?_ (e4 := (setRow_up (by omega) rfl rfl))
        exact ih9 (k + 1) (by omega) (by omega)
  refine j_eq (A' := (setRow (upA A 110 b 1) 106 (280 * b) 0 (fun _ => 0))) ?_ (e4 := (setRow_0 _ _ _ _))
  exact K9 _ 0 (by omega) (Nat.lt_succ_self _)

set_option maxHeartbeats 4000000 in
set_option maxRecDepth 100000 in
theorem m_squares (l : Launch) (S : ab_St) (F : ab_Fn) (A : ab_An) (hS : ab_SM S) (b : Int) (h1 : 0 ≤ b ∧ b < 10) (hp : ∀ k, 0 ≤ k → k < 280 → inR (A 106 (280 * b + k))) : ab_Met l yX10_squares cX10_squares 4 (some .int) { frames := 0, cells := 0, slots := 0, locals := 0 } 0 0 [aR 100, aI b] S F A (fun v S' F' A' => S = S' ∧ F = F' ∧ A = A' ∧ v = some (aI (sm (fun x => if 0 < A 106 (280 * b + x) then 1 else 0) 280))) := by
  refine ab_enter (by decide) (by simp [aI, aR, aX, ab_val, Value.category]) (Nat.le_of_ble_eq_true rfl) (fun E C hr => ?_)
  refine j_eq (lv' := [some (aR 100), some (aI b), none, none]) ?_
  refine j_iconst C dX10_squares_0 ?_
  refine j_istore_n C (lv' := [some (aR 100), some (aI b), some (aI 0), none]) dX10_squares_1 rfl (by decide) rfl ?_
  refine j_iconst C dX10_squares_2 ?_
  refine j_istore_n C (lv' := [some (aR 100), some (aI b), some (aI 0), some (aI 0)]) dX10_squares_3 rfl (by decide) rfl ?_
  have K4 : ∀ (N : Nat) (n k : Int), (0 ≤ k ∧ k ≤ 280) → (n = sm (fun x => if 0 < A 106 (280 * b + x) then 1 else 0) k.toNat) → ((280 - k).toNat) < N → ab_J E 4 0 0 S F A 4 [some (aR 100), some (aI b), some (aI n), some (aI k)] [] := by
    intro N
    induction N with
    | zero => intro n k hk hn hm; exact absurd hm (Nat.not_lt_zero _)
    | succ N ih =>
      have ih4 := ih
      clear ih
      intro n k hk hn hm4
      refine j_iload_n C dX10_squares_4 rfl rfl ?_
      refine j_sipush C dX10_squares_5 rfl ?_
      refine j_icmp_ge C (tgt := 40) dX10_squares_8 (by decide) ⟨by omega, by omega⟩ ⟨by omega, by omega⟩ (fun c8 => ?_) (fun c8 => ?_)
      · refine j_iload_n C dX10_squares_40 rfl rfl ?_
        exact j_iret C hr (Nat.le_refl _) (Nat.le_refl _) dX10_squares_41 ⟨rfl, rfl, rfl, by have e : k = 280 := (by omega); subst e; rw [hn]; rfl⟩
      · refine j_iload_n C dX10_squares_11 rfl rfl ?_
        refine j_aload_n C dX10_squares_12 rfl rfl ?_
        refine j_getR C (j := 106) fl_X10_27 (sM_100 hS) rfl dX10_squares_13 ?_
        refine j_sipush C dX10_squares_16 rfl ?_
        refine j_iload_n C dX10_squares_19 rfl rfl ?_
        refine j_imul C dX10_squares_20 ?_
        refine j_iload_n C dX10_squares_21 rfl rfl ?_
        refine j_iadd C dX10_squares_22 ?_
        refine j_iald C (sM_106 hS) (by omega) (by omega) (by decide) dX10_squares_23 ?_
        refine j_if_le C (tgt := 31) dX10_squares_24 (by decide) (hp _ (by omega) (by omega)) (fun c24 => ?_) (fun c24 => ?_)
        · refine j_iconst C dX10_squares_31 ?_
          refine j_iadd C dX10_squares_32 ?_
          refine j_istore_n C (lv' := [some (aR 100), some (aI b), some (aI (n + 0)), some (aI k)]) dX10_squares_33 rfl (by decide) rfl ?_
          refine j_iinc C (lv' := [some (aR 100), some (aI b), some (aI (n + 0)), some (aI (k + 1))]) dX10_squares_34 rfl (by decide) rfl ?_
          refine j_goto C (tgt := 4) dX10_squares_37 (by decide) ?_
          exact ih4 (n + 0) (k + 1) (by omega) (by rw [sm_step _ hk.1, hn]; congr 1; (try dsimp only); split <;> omega) (by omega)
        · refine j_iconst C dX10_squares_27 ?_
          refine j_goto C (tgt := 32) dX10_squares_28 (by decide) ?_
          refine j_iadd C dX10_squares_32 ?_
          refine j_istore_n C (lv' := [some (aR 100), some (aI b), some (aI (n + 1)), some (aI k)]) dX10_squares_33 rfl (by decide) rfl ?_
          refine j_iinc C (lv' := [some (aR 100), some (aI b), some (aI (n + 1)), some (aI (k + 1))]) dX10_squares_34 rfl (by decide) rfl ?_
          refine j_goto C (tgt := 4) dX10_squares_37 (by decide) ?_
          exact ih4 (n + 1) (k + 1) (by omega) (by rw [sm_step _ hk.1, hn]; congr 1; (try dsimp only); split <;> omega) (by omega)
  exact K4 _ 0 0 (by omega) rfl (Nat.lt_succ_self _)

set_option maxHeartbeats 4000000 in
set_option maxRecDepth 100000 in
theorem m_fault (l : Launch) (S : ab_St) (F : ab_Fn) (A : ab_An) (hS : ab_SM S)  : ab_Met l yX10_fault cX10_fault 1 (some .int) { frames := 0, cells := 0, slots := 0, locals := 0 } 0 0 [aR 100] S F A (fun v S' F' A' => v = some (aI (F 100 31)) ∧ S = S' ∧ F' = upF F 100 0 0 ∧ A = A') := by
  refine ab_enter (by decide) (by simp [aI, aR, aX, ab_val, Value.category]) (Nat.le_of_ble_eq_true rfl) (fun E C hr => ?_)
  refine j_eq (lv' := [some (aR 100)]) ?_
  refine j_aload_n C dX10_fault_0 rfl rfl ?_
  refine j_iconst C dX10_fault_1 ?_
  refine j_putI C fp_X10_3 (sM_100 hS) rfl dX10_fault_2 ?_
  refine j_aload_n C dX10_fault_5 rfl rfl ?_
  refine j_get C (aI (F 100 31)) fl_X10_79 (sM_100 hS) (fun _ => rfl) dX10_fault_6 ?_
  exact j_iret C hr (Nat.le_refl _) (Nat.le_refl _) dX10_fault_9 ⟨rfl, rfl, rfl, rfl⟩

set_option maxHeartbeats 4000000 in
set_option maxRecDepth 100000 in
theorem m_end (l : Launch) (S : ab_St) (F : ab_Fn) (A : ab_An) (hS : ab_SM S) (a : Int) (ra : inR a) (ht : 0 ≤ F 100 26 ∧ F 100 26 ≤ 400) : ab_Met l yX10_end cX10_end 2 (some .boolean) { frames := 0, cells := 0, slots := 0, locals := 0 } 0 0 [aR 100, aI a] S F A (fun v S' F' A' => S = S' ∧ A = A' ∧ ∃ z : Int, v = some (aI z) ∧ ((z = 0 ∧ ¬ (0 ≤ a ∧ a ≤ F 100 26) ∧ F' = upF F 100 0 0) ∨ (z = 1 ∧ (0 ≤ a ∧ a ≤ F 100 26) ∧ F' = upF (upF F 100 0 0) 100 26 a))) := by
  refine ab_enter (by decide) (by simp [aI, aR, aX, ab_val, Value.category]) (Nat.le_of_ble_eq_true rfl) (fun E C hr => ?_)
  refine j_eq (lv' := [some (aR 100), some (aI a)]) ?_
  refine j_aload_n C dX10_end_0 rfl rfl ?_
  refine j_iconst C dX10_end_1 ?_
  refine j_putI C fp_X10_3 (sM_100 hS) rfl dX10_end_2 ?_
  refine j_iload_n C dX10_end_5 rfl rfl ?_
  refine j_if_lt C (tgt := 17) dX10_end_6 (by decide) ra (fun c6 => ?_) (fun c6 => ?_)
  · refine j_iconst C dX10_end_17 ?_
    exact j_zret C hr (ab_nz01 (by omega)) (Nat.le_refl _) (Nat.le_refl _) dX10_end_18 ⟨rfl, rfl, _, rfl, (by first | exact Or.inl ⟨rfl, by omega, rfl⟩ | exact Or.inr ⟨rfl, by omega, rfl⟩)⟩
  · refine j_iload_n C dX10_end_9 rfl rfl ?_
    refine j_aload_n C dX10_end_10 rfl rfl ?_
    refine j_get C (aI (F 100 26)) fl_X10_178 (sM_100 hS) (fun _ => rfl) dX10_end_11 ?_
    refine j_icmp_le C (tgt := 19) dX10_end_14 (by decide) ra ⟨by omega, by omega⟩ (fun c14 => ?_) (fun c14 => ?_)
    · refine j_aload_n C dX10_end_19 rfl rfl ?_
      refine j_iload_n C dX10_end_20 rfl rfl ?_
      refine j_putI C fp_X10_178 (sM_100 hS) rfl dX10_end_21 ?_
      refine j_iconst C dX10_end_24 ?_
      exact j_zret C hr (ab_nz01 (by omega)) (Nat.le_refl _) (Nat.le_refl _) dX10_end_25 ⟨rfl, rfl, _, rfl, (by first | exact Or.inl ⟨rfl, by omega, rfl⟩ | exact Or.inr ⟨rfl, by omega, rfl⟩)⟩
    · refine j_iconst C dX10_end_17 ?_
      exact j_zret C hr (ab_nz01 (by omega)) (Nat.le_refl _) (Nat.le_refl _) dX10_end_18 ⟨rfl, rfl, _, rfl, (by first | exact Or.inl ⟨rfl, by omega, rfl⟩ | exact Or.inr ⟨rfl, by omega, rfl⟩)⟩

set_option maxHeartbeats 4000000 in
set_option maxRecDepth 100000 in
theorem m_isInForce (l : Launch) (S : ab_St) (F : ab_Fn) (A : ab_An) (hS : ab_SM S) (w st : Int) (h1 : 0 ≤ w ∧ w < 40) (r2 : inR st) (r3 : inR (A 116 w)) (r4 : inR (A 117 w)) : ab_Met l yX10_isInForce cX10_isInForce 3 (some .boolean) { frames := 0, cells := 0, slots := 0, locals := 0 } 0 0 [aR 100, aI w, aI st] S F A (fun v S' F' A' => S = S' ∧ F = F' ∧ A = A' ∧ ∃ z : Int, v = some (aI z) ∧ zb z (A 116 w ≤ st ∧ (A 117 w < 0 ∨ st < A 117 w))) := by
  refine ab_enter (by decide) (by simp [aI, aR, aX, ab_val, Value.category]) (Nat.le_of_ble_eq_true rfl) (fun E C hr => ?_)
  refine j_eq (lv' := [some (aR 100), some (aI w), some (aI st)]) ?_
  refine j_iload_n C dX10_isInForce_0 rfl rfl ?_
  refine j_aload_n C dX10_isInForce_1 rfl rfl ?_
  refine j_getR C (j := 116) fl_X10_51 (sM_100 hS) rfl dX10_isInForce_2 ?_
  refine j_iload_n C dX10_isInForce_5 rfl rfl ?_
  refine j_iald C (sM_116 hS) (by omega) (by omega) (by decide) dX10_isInForce_6 ?_
  refine j_icmp_lt C (tgt := 33) dX10_isInForce_7 (by decide) r2 r3 (fun c7 => ?_) (fun c7 => ?_)
  · refine j_iconst C dX10_isInForce_33 ?_
    exact j_zret C hr (ab_nz01 (by omega)) (Nat.le_refl _) (Nat.le_refl _) dX10_isInForce_34 ⟨rfl, rfl, rfl, _, rfl, by unfold zb; omega⟩
  · refine j_aload_n C dX10_isInForce_10 rfl rfl ?_
    refine j_getR C (j := 117) fl_X10_54 (sM_100 hS) rfl dX10_isInForce_11 ?_
    refine j_iload_n C dX10_isInForce_14 rfl rfl ?_
    refine j_iald C (sM_117 hS) (by omega) (by omega) (by decide) dX10_isInForce_15 ?_
    refine j_if_lt C (tgt := 29) dX10_isInForce_16 (by decide) r4 (fun c16 => ?_) (fun c16 => ?_)
    · refine j_iconst C dX10_isInForce_29 ?_
      refine j_goto C (tgt := 34) dX10_isInForce_30 (by decide) ?_
      exact j_zret C hr (ab_nz01 (by omega)) (Nat.le_refl _) (Nat.le_refl _) dX10_isInForce_34 ⟨rfl, rfl, rfl, _, rfl, by unfold zb; omega⟩
    · refine j_iload_n C dX10_isInForce_19 rfl rfl ?_
      refine j_aload_n C dX10_isInForce_20 rfl rfl ?_
      refine j_getR C (j := 117) fl_X10_54 (sM_100 hS) rfl dX10_isInForce_21 ?_
      refine j_iload_n C dX10_isInForce_24 rfl rfl ?_
      refine j_iald C (sM_117 hS) (by omega) (by omega) (by decide) dX10_isInForce_25 ?_
      refine j_icmp_ge C (tgt := 33) dX10_isInForce_26 (by decide) r2 r4 (fun c26 => ?_) (fun c26 => ?_)
      · refine j_iconst C dX10_isInForce_33 ?_
        exact j_zret C hr (ab_nz01 (by omega)) (Nat.le_refl _) (Nat.le_refl _) dX10_isInForce_34 ⟨rfl, rfl, rfl, _, rfl, by unfold zb; omega⟩
      · refine j_iconst C dX10_isInForce_29 ?_
        refine j_goto C (tgt := 34) dX10_isInForce_30 (by decide) ?_
        exact j_zret C hr (ab_nz01 (by omega)) (Nat.le_refl _) (Nat.le_refl _) dX10_isInForce_34 ⟨rfl, rfl, rfl, _, rfl, by unfold zb; omega⟩

set_option maxHeartbeats 4000000 in
set_option maxRecDepth 100000 in
theorem m_force (l : Launch) (S : ab_St) (F : ab_Fn) (A : ab_An) (hS : ab_SM S) (w st : Int) (r1 : inR w) (r2 : inR st) (hb : 0 ≤ F 100 18 ∧ F 100 18 ≤ 40) (hw : ∀ w, 0 ≤ w → w < 40 → inR (A 116 w) ∧ inR (A 117 w)) : ab_Met l yX10_force cX10_force 3 (some .boolean) { frames := 2, cells := 0, slots := 0, locals := 43 } 0 0 [aR 100, aI w, aI st] S F A (fun v S' F' A' => S = S' ∧ A = A' ∧ ∃ t z : Int, v = some (aI z) ∧ F' = upF F 100 0 t ∧ ((t = 1 ∧ ¬ (0 ≤ w ∧ w < F 100 18)) ∨ (t = 0 ∧ (0 ≤ w ∧ w < F 100 18) ∧ zb z (A 116 w ≤ st ∧ (A 117 w < 0 ∨ st < A 117 w))))) := by
  refine ab_enter (by decide) (by simp [aI, aR, aX, ab_val, Value.category]) (Nat.le_of_ble_eq_true rfl) (fun E C hr => ?_)
  refine j_eq (lv' := [some (aR 100), some (aI w), some (aI st)]) ?_
  refine j_aload_n C dX10_force_0 rfl rfl ?_
  refine j_iconst C dX10_force_1 ?_
  refine j_putI C fp_X10_3 (sM_100 hS) rfl dX10_force_2 ?_
  refine j_aload_n C dX10_force_5 rfl rfl ?_
  refine j_aload_n C dX10_force_6 rfl rfl ?_
  refine j_iload_n C dX10_force_7 rfl rfl ?_
  refine j_callV C (vs := [aI w]) (st := [aR 100]) cl_X10_223 im_yX10_noWarning se_yX10_noWarning (fun _ => m_noWarning _ S (upF F 100 0 0) A hS _ r1 hb) (sM_100 hS) rfl rfl rfl ⟨rfl, rfl, by decide, by decide⟩ ⟨by decide, by decide⟩ (fun _ => Nat.le_of_ble_eq_true rfl) (fun v hv => by simp only [List.mem_cons, List.not_mem_nil, or_false] at hv; rcases hv with rfl <;> first | exact (lM_100 hS)) (fun v hv => by simp only [List.mem_cons, List.not_mem_nil, or_false, Option.some.injEq, reduceCtorEq, false_or] at hv; rcases hv with rfl | rfl | rfl <;> first | exact (lM_100 hS) | exact trivial) dX10_force_8 (fun v_8 S_8 F_8 A_8 hP_8 => ?_)
  obtain ⟨rfl, rfl, rfl, z_8, rfl, ⟨rfl, hz_8⟩ | ⟨rfl, hz_8⟩⟩ := hP_8
  · have hz_8 : ¬ (0 ≤ w ∧ w < F 100 18) := hz_8
    show ab_J E 3 0 0 S (upF F 100 0 0) A 11 [some (aR 100), some (aI w), some (aI st)] [aI 1, aR 100]
    refine j_iconst C dX10_force_11 ?_
    refine j_callV C (vs := [aI 1, aI 1]) (st := []) cl_X10_111 im_yX10_throwsIf se_yX10_throwsIf (fun _ => m_throwsIf1 _ S (upF F 100 0 0) A hS _) (sM_100 hS) rfl rfl rfl ⟨rfl, rfl, by decide, by decide⟩ ⟨by decide, by decide⟩ (fun _ => Nat.le_of_ble_eq_true rfl) (fun v hv => by cases hv) (fun v hv => by simp only [List.mem_cons, List.not_mem_nil, or_false, Option.some.injEq, reduceCtorEq, false_or] at hv; rcases hv with rfl | rfl | rfl <;> first | exact (lM_100 hS) | exact trivial) dX10_force_12 (fun v_12 S_12 F_12 A_12 hP_12 => ?_)
    obtain ⟨rfl, rfl, rfl, rfl⟩ := hP_12
    show ab_J E 3 0 0 S (upF (upF F 100 0 0) 100 0 1) A 15 [some (aR 100), some (aI w), some (aI st)] [aI 1]
    refine j_if_ne C (tgt := 31) dX10_force_15 (by decide) ⟨by omega, by omega⟩ (fun c15 => ?_) (fun c15 => ?_)
    · refine j_iconst C dX10_force_31 ?_
      exact j_zret C hr (ab_nz01 (by omega)) (Nat.le_refl _) (Nat.le_refl _) dX10_force_32 ⟨rfl, rfl, 1, _, rfl, (by first | rfl | exact upF_up _ _ _ _ _), (by first | exact Or.inl ⟨rfl, by omega⟩ | exact Or.inr ⟨rfl, by omega, zb.one hz_21⟩ | exact Or.inr ⟨rfl, by omega, zb.zero hz_21⟩)⟩
    · exact absurd c15 (by decide)
  · have hz_8 : ¬ (¬ (0 ≤ w ∧ w < F 100 18)) := hz_8
    show ab_J E 3 0 0 S (upF F 100 0 0) A 11 [some (aR 100), some (aI w), some (aI st)] [aI 0, aR 100]
    refine j_iconst C dX10_force_11 ?_
    refine j_callV C (vs := [aI 0, aI 1]) (st := []) cl_X10_111 im_yX10_throwsIf se_yX10_throwsIf (fun _ => m_throwsIf0 _ S (upF F 100 0 0) A hS _) (sM_100 hS) rfl rfl rfl ⟨rfl, rfl, by decide, by decide⟩ ⟨by decide, by decide⟩ (fun _ => Nat.le_of_ble_eq_true rfl) (fun v hv => by cases hv) (fun v hv => by simp only [List.mem_cons, List.not_mem_nil, or_false, Option.some.injEq, reduceCtorEq, false_or] at hv; rcases hv with rfl | rfl | rfl <;> first | exact (lM_100 hS) | exact trivial) dX10_force_12 (fun v_12 S_12 F_12 A_12 hP_12 => ?_)
    obtain ⟨rfl, rfl, rfl, rfl⟩ := hP_12
    show ab_J E 3 0 0 S (upF F 100 0 0) A 15 [some (aR 100), some (aI w), some (aI st)] [aI 0]
    refine j_if_ne C (tgt := 31) dX10_force_15 (by decide) ⟨by omega, by omega⟩ (fun c15 => ?_) (fun c15 => ?_)
    · exact absurd c15 (by decide)
    · refine j_aload_n C dX10_force_18 rfl rfl ?_
      refine j_iload_n C dX10_force_19 rfl rfl ?_
      refine j_iload_n C dX10_force_20 rfl rfl ?_
      refine j_callV C (vs := [aI w, aI st]) (st := []) cl_X10_226 im_yX10_isInForce se_yX10_isInForce (fun _ => m_isInForce _ S (upF F 100 0 0) A hS _ _ (by omega) r2 (hw _ (by omega) (by omega)).1 (hw _ (by omega) (by omega)).2) (sM_100 hS) rfl rfl rfl ⟨rfl, rfl, by decide, by decide⟩ ⟨by decide, by decide⟩ (fun _ => Nat.le_of_ble_eq_true rfl) (fun v hv => by cases hv) (fun v hv => by simp only [List.mem_cons, List.not_mem_nil, or_false, Option.some.injEq, reduceCtorEq, false_or] at hv; rcases hv with rfl | rfl | rfl <;> first | exact (lM_100 hS) | exact trivial) dX10_force_21 (fun v_21 S_21 F_21 A_21 hP_21 => ?_)
      obtain ⟨rfl, rfl, rfl, z_21, rfl, ⟨rfl, hz_21⟩ | ⟨rfl, hz_21⟩⟩ := hP_21
      · show ab_J E 3 0 0 S (upF F 100 0 0) A 24 [some (aR 100), some (aI w), some (aI st)] [aI 1]
        refine j_if_eq C (tgt := 31) dX10_force_24 (by decide) ⟨by omega, by omega⟩ (fun c24 => ?_) (fun c24 => ?_)
        · exact absurd c24 (by decide)
        · refine j_iconst C dX10_force_27 ?_
          refine j_goto C (tgt := 32) dX10_force_28 (by decide) ?_
          exact j_zret C hr (ab_nz01 (by omega)) (Nat.le_refl _) (Nat.le_refl _) dX10_force_32 ⟨rfl, rfl, 0, _, rfl, (by first | rfl | exact upF_up _ _ _ _ _), (by first | exact Or.inl ⟨rfl, by omega⟩ | exact Or.inr ⟨rfl, by omega, zb.one hz_21⟩ | exact Or.inr ⟨rfl, by omega, zb.zero hz_21⟩)⟩
      · show ab_J E 3 0 0 S (upF F 100 0 0) A 24 [some (aR 100), some (aI w), some (aI st)] [aI 0]
        refine j_if_eq C (tgt := 31) dX10_force_24 (by decide) ⟨by omega, by omega⟩ (fun c24 => ?_) (fun c24 => ?_)
        · refine j_iconst C dX10_force_31 ?_
          exact j_zret C hr (ab_nz01 (by omega)) (Nat.le_refl _) (Nat.le_refl _) dX10_force_32 ⟨rfl, rfl, 0, _, rfl, (by first | rfl | exact upF_up _ _ _ _ _), (by first | exact Or.inl ⟨rfl, by omega⟩ | exact Or.inr ⟨rfl, by omega, zb.one hz_21⟩ | exact Or.inr ⟨rfl, by omega, zb.zero hz_21⟩)⟩
        · exact absurd c24 (by decide)

set_option maxHeartbeats 4000000 in
set_option maxRecDepth 100000 in
theorem m_cancel (l : Launch) (S : ab_St) (F : ab_Fn) (A : ab_An) (hS : ab_SM S) (w : Int) (r1 : inR w) (hb : 0 ≤ F 100 18 ∧ F 100 18 ≤ 40) (hw : ∀ w, 0 ≤ w → w < 40 → inR (A 117 w)) : ab_Met l yX10_cancel cX10_cancel 2 (some .boolean) { frames := 2, cells := 0, slots := 0, locals := 43 } 0 0 [aR 100, aI w] S F A (fun v S' F' A' => S = S' ∧ ∃ t z : Int, v = some (aI z) ∧ F' = upF F 100 0 t ∧ ((t = 1 ∧ ¬ (0 ≤ w ∧ w < F 100 18) ∧ A = A') ∨ (t = 0 ∧ (0 ≤ w ∧ w < F 100 18) ∧ z = 0 ∧ 0 ≤ A 117 w ∧ A = A') ∨ (t = 0 ∧ (0 ≤ w ∧ w < F 100 18) ∧ z = 1 ∧ A 117 w < 0 ∧ A' = upA A 117 w (F 100 5)))) := by
  refine ab_enter (by decide) (by simp [aI, aR, aX, ab_val, Value.category]) (Nat.le_of_ble_eq_true rfl) (fun E C hr => ?_)
  refine j_eq (lv' := [some (aR 100), some (aI w)]) ?_
  refine j_aload_n C dX10_cancel_0 rfl rfl ?_
  refine j_iconst C dX10_cancel_1 ?_
  refine j_putI C fp_X10_3 (sM_100 hS) rfl dX10_cancel_2 ?_
  refine j_aload_n C dX10_cancel_5 rfl rfl ?_
  refine j_aload_n C dX10_cancel_6 rfl rfl ?_
  refine j_iload_n C dX10_cancel_7 rfl rfl ?_
  refine j_callV C (vs := [aI w]) (st := [aR 100]) cl_X10_223 im_yX10_noWarning se_yX10_noWarning (fun _ => m_noWarning _ S (upF F 100 0 0) A hS _ r1 hb) (sM_100 hS) rfl rfl rfl ⟨rfl, rfl, by decide, by decide⟩ ⟨by decide, by decide⟩ (fun _ => Nat.le_of_ble_eq_true rfl) (fun v hv => by simp only [List.mem_cons, List.not_mem_nil, or_false] at hv; rcases hv with rfl <;> first | exact (lM_100 hS)) (fun v hv => by simp only [List.mem_cons, List.not_mem_nil, or_false, Option.some.injEq, reduceCtorEq, false_or] at hv; rcases hv with rfl | rfl <;> first | exact (lM_100 hS) | exact trivial) dX10_cancel_8 (fun v_8 S_8 F_8 A_8 hP_8 => ?_)
  obtain ⟨rfl, rfl, rfl, z_8, rfl, ⟨rfl, hz_8⟩ | ⟨rfl, hz_8⟩⟩ := hP_8
  · have hz_8 : ¬ (0 ≤ w ∧ w < F 100 18) := hz_8
    show ab_J E 2 0 0 S (upF F 100 0 0) A 11 [some (aR 100), some (aI w)] [aI 1, aR 100]
    refine j_iconst C dX10_cancel_11 ?_
    refine j_callV C (vs := [aI 1, aI 1]) (st := []) cl_X10_111 im_yX10_throwsIf se_yX10_throwsIf (fun _ => m_throwsIf1 _ S (upF F 100 0 0) A hS _) (sM_100 hS) rfl rfl rfl ⟨rfl, rfl, by decide, by decide⟩ ⟨by decide, by decide⟩ (fun _ => Nat.le_of_ble_eq_true rfl) (fun v hv => by cases hv) (fun v hv => by simp only [List.mem_cons, List.not_mem_nil, or_false, Option.some.injEq, reduceCtorEq, false_or] at hv; rcases hv with rfl | rfl <;> first | exact (lM_100 hS) | exact trivial) dX10_cancel_12 (fun v_12 S_12 F_12 A_12 hP_12 => ?_)
    obtain ⟨rfl, rfl, rfl, rfl⟩ := hP_12
    show ab_J E 2 0 0 S (upF (upF F 100 0 0) 100 0 1) A 15 [some (aR 100), some (aI w)] [aI 1]
    refine j_if_ne C (tgt := 27) dX10_cancel_15 (by decide) ⟨by omega, by omega⟩ (fun c15 => ?_) (fun c15 => ?_)
    · refine j_iconst C dX10_cancel_27 ?_
      exact j_zret C hr (ab_nz01 (by omega)) (Nat.le_refl _) (Nat.le_refl _) dX10_cancel_28 ⟨rfl, 1, _, rfl, (by first | rfl | exact upF_up _ _ _ _ _), (by first | exact Or.inl ⟨rfl, by omega, rfl⟩ | exact Or.inr (Or.inl ⟨rfl, by omega, rfl, by omega, rfl⟩) | exact Or.inr (Or.inr ⟨rfl, by omega, rfl, by omega, rfl⟩))⟩
    · exact absurd c15 (by decide)
  · have hz_8 : ¬ (¬ (0 ≤ w ∧ w < F 100 18)) := hz_8
    show ab_J E 2 0 0 S (upF F 100 0 0) A 11 [some (aR 100), some (aI w)] [aI 0, aR 100]
    refine j_iconst C dX10_cancel_11 ?_
    refine j_callV C (vs := [aI 0, aI 1]) (st := []) cl_X10_111 im_yX10_throwsIf se_yX10_throwsIf (fun _ => m_throwsIf0 _ S (upF F 100 0 0) A hS _) (sM_100 hS) rfl rfl rfl ⟨rfl, rfl, by decide, by decide⟩ ⟨by decide, by decide⟩ (fun _ => Nat.le_of_ble_eq_true rfl) (fun v hv => by cases hv) (fun v hv => by simp only [List.mem_cons, List.not_mem_nil, or_false, Option.some.injEq, reduceCtorEq, false_or] at hv; rcases hv with rfl | rfl <;> first | exact (lM_100 hS) | exact trivial) dX10_cancel_12 (fun v_12 S_12 F_12 A_12 hP_12 => ?_)
    obtain ⟨rfl, rfl, rfl, rfl⟩ := hP_12
    show ab_J E 2 0 0 S (upF F 100 0 0) A 15 [some (aR 100), some (aI w)] [aI 0]
    refine j_if_ne C (tgt := 27) dX10_cancel_15 (by decide) ⟨by omega, by omega⟩ (fun c15 => ?_) (fun c15 => ?_)
    · exact absurd c15 (by decide)
    · refine j_aload_n C dX10_cancel_18 rfl rfl ?_
      refine j_getR C (j := 117) fl_X10_54 (sM_100 hS) rfl dX10_cancel_19 ?_
      refine j_iload_n C dX10_cancel_22 rfl rfl ?_
      refine j_iald C (sM_117 hS) (by omega) (by omega) (by decide) dX10_cancel_23 ?_
      refine j_if_lt C (tgt := 29) dX10_cancel_24 (by decide) (hw _ (by omega) (by omega)) (fun c24 => ?_) (fun c24 => ?_)
      · refine j_aload_n C dX10_cancel_29 rfl rfl ?_
        refine j_getR C (j := 117) fl_X10_54 (sM_100 hS) rfl dX10_cancel_30 ?_
        refine j_iload_n C dX10_cancel_33 rfl rfl ?_
        refine j_aload_n C dX10_cancel_34 rfl rfl ?_
        refine j_get C (aI (F 100 5)) fl_X10_140 (sM_100 hS) (fun _ => rfl) dX10_cancel_35 ?_
        refine j_iast C (sM_117 hS) (by omega) (by omega) (by decide) dX10_cancel_38 ?_
        refine j_iconst C dX10_cancel_39 ?_
        exact j_zret C hr (ab_nz01 (by omega)) (Nat.le_refl _) (Nat.le_refl _) dX10_cancel_40 ⟨rfl, 0, _, rfl, (by first | rfl | exact upF_up _ _ _ _ _), (by first | exact Or.inl ⟨rfl, by omega, rfl⟩ | exact Or.inr (Or.inl ⟨rfl, by omega, rfl, by omega, rfl⟩) | exact Or.inr (Or.inr ⟨rfl, by omega, rfl, by omega, rfl⟩))⟩
      · refine j_iconst C dX10_cancel_27 ?_
        exact j_zret C hr (ab_nz01 (by omega)) (Nat.le_refl _) (Nat.le_refl _) dX10_cancel_28 ⟨rfl, 0, _, rfl, (by first | rfl | exact upF_up _ _ _ _ _), (by first | exact Or.inl ⟨rfl, by omega, rfl⟩ | exact Or.inr (Or.inl ⟨rfl, by omega, rfl, by omega, rfl⟩) | exact Or.inr (Or.inr ⟨rfl, by omega, rfl, by omega, rfl⟩))⟩

set_option maxHeartbeats 4000000 in
set_option maxRecDepth 100000 in
theorem m_takes (l : Launch) (S : ab_St) (F : ab_Fn) (A : ab_An) (hS : ab_SM S) (m : Int) (hb : 0 ≤ F 100 18 ∧ F 100 18 < 40) : ab_Met l yX10_takes cX10_takes 2 (some .int) { frames := 0, cells := 0, slots := 0, locals := 0 } 0 0 [aR 100, aI m] S F A (fun v S' F' A' => S = S' ∧ v = some (aI (F 100 18)) ∧ F' = upF F 100 18 (F 100 18 + 1) ∧ A' = upA (upA (upA A 115 (F 100 18) m) 116 (F 100 18) (F 100 5)) 117 (F 100 18) (-1)) := by
  refine ab_enter (by decide) (by simp [aI, aR, aX, ab_val, Value.category]) (Nat.le_of_ble_eq_true rfl) (fun E C hr => ?_)
  refine j_eq (lv' := [some (aR 100), some (aI m)]) ?_
  refine j_aload_n C dX10_takes_0 rfl rfl ?_
  refine j_getR C (j := 115) fl_X10_48 (sM_100 hS) rfl dX10_takes_1 ?_
  refine j_aload_n C dX10_takes_4 rfl rfl ?_
  refine j_get C (aI (F 100 18)) fl_X10_104 (sM_100 hS) (fun _ => rfl) dX10_takes_5 ?_
  refine j_iload_n C dX10_takes_8 rfl rfl ?_
  refine j_iast C (sM_115 hS) (by omega) (by omega) (by decide) dX10_takes_9 ?_
  refine j_aload_n C dX10_takes_10 rfl rfl ?_
  refine j_getR C (j := 116) fl_X10_51 (sM_100 hS) rfl dX10_takes_11 ?_
  refine j_aload_n C dX10_takes_14 rfl rfl ?_
  refine j_get C (aI (F 100 18)) fl_X10_104 (sM_100 hS) (fun _ => rfl) dX10_takes_15 ?_
  refine j_aload_n C dX10_takes_18 rfl rfl ?_
  refine j_get C (aI (F 100 5)) fl_X10_140 (sM_100 hS) (fun _ => rfl) dX10_takes_19 ?_
  refine j_iast C (sM_116 hS) (by omega) (by omega) (by decide) dX10_takes_22 ?_
  refine j_aload_n C dX10_takes_23 rfl rfl ?_
  refine j_getR C (j := 117) fl_X10_54 (sM_100 hS) rfl dX10_takes_24 ?_
  refine j_aload_n C dX10_takes_27 rfl rfl ?_
  refine j_get C (aI (F 100 18)) fl_X10_104 (sM_100 hS) (fun _ => rfl) dX10_takes_28 ?_
  refine j_iconst C dX10_takes_31 ?_
  refine j_iast C (sM_117 hS) (by omega) (by omega) (by decide) dX10_takes_32 ?_
  refine j_aload_n C dX10_takes_33 rfl rfl ?_
  refine j_dup C dX10_takes_34 (fun _ => rfl) ?_
  refine j_get C (aI (F 100 18)) fl_X10_104 (sM_100 hS) (fun _ => rfl) dX10_takes_35 ?_
  refine j_iconst C dX10_takes_38 ?_
  refine j_iadd C dX10_takes_39 ?_
  refine j_putI C fp_X10_104 (sM_100 hS) rfl dX10_takes_40 ?_
  refine j_aload_n C dX10_takes_43 rfl rfl ?_
  refine j_get C (aI ((F 100 18) + 1)) fl_X10_104 (sM_100 hS) (fun _ => rfl) dX10_takes_44 ?_
  refine j_iconst C dX10_takes_47 ?_
  refine j_isub C dX10_takes_48 ?_
  refine j_eq (st' := [aI (F 100 18)]) ?_ (e1 := by first | rfl | (simp only [List.cons.injEq, and_true]; exact congrArg aI ((by omega))))
  exact j_iret C hr (Nat.le_refl _) (Nat.le_refl _) dX10_takes_49 ⟨rfl, rfl, rfl, rfl⟩
