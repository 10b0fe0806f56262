set_option maxHeartbeats 4000000 in
set_option maxRecDepth 100000 in
theorem c_findFirstWrong (l : Launch) (S : ab_St) (F : ab_Fn) (A : ab_An) (hS : ab_SC S) (he : 0 ≤ F 4 1 ∧ F 4 1 ≤ 400) (hT : ∀ i, 0 ≤ i → i < F 4 1 → 0 ≤ A 15 i ∧ A 15 i ≤ 255) : ab_Met l yX7_findFirstWrong cX7_findFirstWrong 2 (some .int) { frames := 6, cells := 0, slots := 0, locals := 129 } 0 0 [aR 5] S F A (fun v S' F' A' => S = S' ∧ ∃ a c : Int, v = some (aI (rdS (byt (A 15) (F 4 1)) (F 4 1)).1) ∧ F' = upF (upF F 5 2 a) 6 2 c ∧ (∀ i, i ≠ 16 → i ≠ 17 → A' i = A i) ∧ ((rdS (byt (A 15) (F 4 1)) (F 4 1)).1 = -1 → cnr (A' 16) (A' 17) c (rdS (byt (A 15) (F 4 1)) (F 4 1)).2) ∧ (-1 ≤ (rdS (byt (A 15) (F 4 1)) (F 4 1)).1 ∧ (rdS (byt (A 15) (F 4 1)) (F 4 1)).1 ≤ 400)) := by
  refine ab_enter (by decide) (by simp [aI, aR, aX, ab_val, Value.category]) (Nat.le_of_ble_eq_true rfl) (fun E C hr => ?_)
  refine j_eq (lv' := [some (aR 5), none]) ?_
  refine j_aload_n C dX7_findFirstWrong_0 rfl rfl ?_
  refine j_iconst C dX7_findFirstWrong_1 ?_
  refine j_putI C fp_X7_25 ((sC_5 hS)) rfl dX7_findFirstWrong_2 ?_
  refine j_aload_n C dX7_findFirstWrong_5 rfl rfl ?_
  refine j_getR C (j := 6) fl_X7_21 ((sC_5 hS)) rfl dX7_findFirstWrong_6 ?_
  refine j_iconst C dX7_findFirstWrong_9 ?_
  refine j_putI C fp_X7_29 ((sC_6 hS)) rfl dX7_findFirstWrong_10 ?_
  refine j_aload_n C dX7_findFirstWrong_13 rfl rfl ?_
  refine j_ldcS C (tx := "ring") 0 (by decide) rfl (lw_t4 (List.mem_of_getElem? (i := 60) rfl)) dX7_findFirstWrong_14 ?_
  refine j_callV C (vs := [aR (1000000 + 0)]) (st := []) cl_X7_33 im_yX7_takeWord se_yX7_takeWord (fun _ => c_takeWord _ S (upF (upF F 5 2 0) 6 2 0) A hS _ (by decide) (by show 0 ≤ 0 ∧ 0 ≤ F 4 1 ∧ F 4 1 ≤ 400; omega) hT) ((sC_5 hS)) rfl rfl rfl ⟨rfl, rfl, by decide, by decide⟩ ⟨by decide, by decide⟩ (fun _ => Nat.le_of_ble_eq_true rfl) (fun v hv => by cases hv) (fun v hv => by simp only [List.mem_cons, List.not_mem_nil, or_false, Option.some.injEq, reduceCtorEq, false_or] at hv; rcases hv with rfl <;> first | exact (lS ((sC_5 hS)))) dX7_findFirstWrong_16 (fun v_16 S_16 F_16 A_16 hP_16 => ?_)
  obtain ⟨rfl, b16, q16, z_16, rfl, hb16, hq16, hr16, rfl, ⟨rfl, hz_16, rfl⟩ | ⟨rfl, hz_16, rfl⟩⟩ := hP_16
  · have hb16 : b16 = bl (byt (A 15) (F 4 1)) (0) := hb16
    have hq16 : q16 = lt' (byt (A 15) (F 4 1)) b16 := hq16
    have hr16 : 0 ≤ b16 ∧ b16 ≤ q16 ∧ q16 ≤ F 4 1 := hr16
    have hz_16 : wok (byt (A 15) (F 4 1)) RING b16 q16 = true := hz_16
    show ab_J E 2 0 0 S (upF (upF (upF F 5 2 0) 6 2 0) 5 2 q16) A 19 [some (aR 5), none] [aI 1]
    refine j_if_eq C (tgt := 42) dX7_findFirstWrong_19 (by decide) ⟨by omega, by omega⟩ (fun c19 => ?_) (fun c19 => ?_)
    · exact absurd c19 (by decide)
    · refine j_aload_n C dX7_findFirstWrong_22 rfl rfl ?_
      refine j_callV C (vs := []) (st := []) cl_X7_37 im_yX7_takeCorners se_yX7_takeCorners (fun _ => c_takeCorners _ S (upF (upF (upF F 5 2 0) 6 2 0) 5 2 q16) A hS (by show 0 ≤ q16 ∧ q16 ≤ F 4 1 ∧ F 4 1 ≤ 400; omega) hT rfl) ((sC_5 hS)) rfl rfl rfl ⟨rfl, rfl, by decide, by decide⟩ ⟨by decide, by decide⟩ (fun _ => Nat.le_of_ble_eq_true rfl) (fun v hv => by cases hv) (fun v hv => by simp only [List.mem_cons, List.not_mem_nil, or_false, Option.some.injEq, reduceCtorEq, false_or] at hv; rcases hv with rfl <;> first | exact (lS ((sC_5 hS)))) dX7_findFirstWrong_23 (fun v_23 S_23 F_23 A_23 hP_23 => ?_)
      obtain ⟨rfl, z_23, a23, c23, ⟨L0, hL0⟩, rfl, rfl, hO23, ⟨rfl, L, hL23, hc23, ha23⟩ | ⟨rfl, hbl23, ha23⟩⟩ := hP_23
      · obtain ⟨B, hBe⟩ : ∃ B, B = A_23 := ⟨_, rfl⟩
        rw [← hBe]
        rw [← hBe] at hO23 hc23
        have hL23 : rcs (byt (A 15) (F 4 1)) 40 (q16) [] = (1, (a23, L)) := hL23
        have e15 : B 15 = A 15 := hO23 15 (by decide) (by decide)
        have hTB : ∀ i, 0 ≤ i → i < F 4 1 → 0 ≤ B 15 i ∧ B 15 i ≤ 255 := by rw [e15]; exact hT
        have ha23 : 0 ≤ a23 ∧ a23 ≤ F 4 1 := ha23
        show ab_J E 2 0 0 S (upF (upF (upF (upF (upF F 5 2 0) 6 2 0) 5 2 q16) 5 2 a23) 6 2 c23) B 26 [some (aR 5), none] [aI 1]
        refine j_if_eq C (tgt := 42) dX7_findFirstWrong_26 (by decide) ⟨by omega, by omega⟩ (fun c26 => ?_) (fun c26 => ?_)
        · exact absurd c26 (by decide)
        · refine j_aload_n C dX7_findFirstWrong_29 rfl rfl ?_
          refine j_ldcS C (tx := "end") 1 (by decide) rfl (lw_t4 (List.mem_of_getElem? (i := 138) rfl)) dX7_findFirstWrong_30 ?_
          refine j_callV C (vs := [aR (1000000 + 1)]) (st := []) cl_X7_33 im_yX7_takeWord se_yX7_takeWord (fun _ => c_takeWord _ S (upF (upF (upF (upF (upF F 5 2 0) 6 2 0) 5 2 q16) 5 2 a23) 6 2 c23) B hS _ (by decide) (by show 0 ≤ a23 ∧ a23 ≤ F 4 1 ∧ F 4 1 ≤ 400; omega) hTB) ((sC_5 hS)) rfl rfl rfl ⟨rfl, rfl, by decide, by decide⟩ ⟨by decide, by decide⟩ (fun _ => Nat.le_of_ble_eq_true rfl) (fun v hv => by cases hv) (fun v hv => by simp only [List.mem_cons, List.not_mem_nil, or_false, Option.some.injEq, reduceCtorEq, false_or] at hv; rcases hv with rfl <;> first | exact (lS ((sC_5 hS)))) dX7_findFirstWrong_32 (fun v_32 S_32 F_32 A_32 hP_32 => ?_)
          obtain ⟨rfl, b32, q32, z_32, rfl, hb32, hq32, hr32, rfl, ⟨rfl, hz_32, rfl⟩ | ⟨rfl, hz_32, rfl⟩⟩ := hP_32
          · have hb32 : b32 = bl (byt (B 15) (F 4 1)) (a23) := hb32
            have hq32 : q32 = lt' (byt (B 15) (F 4 1)) b32 := hq32
            have hr32 : a23 ≤ b32 ∧ b32 ≤ q32 ∧ q32 ≤ F 4 1 := hr32
            have hz_32 : wok (byt (B 15) (F 4 1)) END b32 q32 = true := hz_32
            try rw [e15] at hb32
            try rw [e15] at hq32
            try rw [e15] at hz_32
            show ab_J E 2 0 0 S (upF (upF (upF (upF (upF (upF F 5 2 0) 6 2 0) 5 2 q16) 5 2 a23) 6 2 c23) 5 2 q32) B 35 [some (aR 5), none] [aI 1]
            refine j_if_eq C (tgt := 42) dX7_findFirstWrong_35 (by decide) ⟨by omega, by omega⟩ (fun c35 => ?_) (fun c35 => ?_)
            · exact absurd c35 (by decide)
            · refine j_iconst C dX7_findFirstWrong_38 ?_
              refine j_goto C (tgt := 43) dX7_findFirstWrong_39 (by decide) ?_
              refine j_istore_n C (lv' := [some (aR 5), some (aI 1)]) dX7_findFirstWrong_43 rfl (by decide) rfl ?_
              refine j_aload_n C dX7_findFirstWrong_44 rfl rfl ?_
              refine j_callV C (vs := []) (st := []) cl_X7_43 im_yX7_skipBlanks se_yX7_skipBlanks (fun _ => c_skipBlanks _ S (upF (upF (upF (upF (upF (upF F 5 2 0) 6 2 0) 5 2 q16) 5 2 a23) 6 2 c23) 5 2 q32) B hS (by show 0 ≤ q32 ∧ q32 ≤ F 4 1 ∧ F 4 1 ≤ 400; omega) hTB) ((sC_5 hS)) rfl rfl rfl ⟨rfl, rfl, by decide, by decide⟩ ⟨by decide, by decide⟩ (fun _ => Nat.le_of_ble_eq_true rfl) (fun v hv => by cases hv) (fun v hv => by simp only [List.mem_cons, List.not_mem_nil, or_false, Option.some.injEq, reduceCtorEq, false_or] at hv; rcases hv with rfl | rfl <;> first | exact (lS ((sC_5 hS))) | exact trivial) dX7_findFirstWrong_45 (fun v_45 S_45 F_45 A_45 hP_45 => ?_)
              obtain ⟨rfl, rfl, rfl, b45, hb45, hr45, rfl⟩ := hP_45
              have hb45 : b45 = bl (byt (B 15) (F 4 1)) (q32) := hb45
              have hr45 : q32 ≤ b45 ∧ b45 ≤ F 4 1 := hr45
              try rw [e15] at hb45
              show ab_J E 2 0 0 S (upF (upF (upF (upF (upF (upF (upF F 5 2 0) 6 2 0) 5 2 q16) 5 2 a23) 6 2 c23) 5 2 q32) 5 2 b45) B 48 [some (aR 5), some (aI 1)] []
              refine j_iload_n C dX7_findFirstWrong_48 rfl rfl ?_
              refine j_if_eq C (tgt := 70) dX7_findFirstWrong_49 (by decide) ⟨by omega, by omega⟩ (fun c49 => ?_) (fun c49 => ?_)
              · exact absurd c49 (by decide)
              · refine j_aload_n C dX7_findFirstWrong_52 rfl rfl ?_
                refine j_get C (aI b45) fl_X7_25 ((sC_5 hS)) (fun _ => rfl) dX7_findFirstWrong_53 ?_
                refine j_aload_n C dX7_findFirstWrong_56 rfl rfl ?_
                refine j_getR C (j := 4) fl_X7_12 ((sC_5 hS)) rfl dX7_findFirstWrong_57 ?_
                refine j_get C (aI (F 4 1)) fl_X7_46 ((sC_4 hS)) (fun _ => rfl) dX7_findFirstWrong_60 ?_
                refine j_icmp_lt C (tgt := 70) dX7_findFirstWrong_63 (by decide) ⟨by omega, by omega⟩ ⟨by omega, by omega⟩ (fun c63 => ?_) (fun c63 => ?_)
                · refine j_aload_n C dX7_findFirstWrong_70 rfl rfl ?_
                  refine j_get C (aI b45) fl_X7_25 ((sC_5 hS)) (fun _ => rfl) dX7_findFirstWrong_71 ?_
                  exact j_iret C hr (Nat.le_refl _) (Nat.le_refl _) dX7_findFirstWrong_74 ⟨rfl, b45, c23, congrArg (fun z => some (aI z)) (by first | (rw [rdS_no hb16 hq16 hz_16, hb45]; exact (bl_bl (by omega) (by omega) hb16).symm) | (rw [rdS_go hb16 hq16 hz_16, hL0, rdE_0, hb45]; exact hbl23.symm) | (rw [rdS_go hb16 hq16 hz_16, hL23, rdE_w hb32 hq32 hz_32, hb45]; exact (bl_bl (by omega) (by omega) hb32).symm) | (rw [rdS_go hb16 hq16 hz_16, hL23, rdE_y hb32 hq32 hz_32 hb45 (by omega)]) | (rw [rdS_go hb16 hq16 hz_16, hL23, rdE_n hb32 hq32 hz_32 hb45 (by omega)])), (by first | rfl | simp only [upF_n5, upF_up]), (by first | exact hO23 | exact (fun _ _ _ => rfl)), (by first | exact (fun q => by rw [rdS_no hb16 hq16 hz_16] at q; exact absurd q (by show ¬ b16 = -1; omega)) | exact (fun q => by rw [rdS_go hb16 hq16 hz_16, hL0, rdE_0] at q; exact absurd q (by show ¬ a23 = -1; omega)) | exact (fun q => by rw [rdS_go hb16 hq16 hz_16, hL23, rdE_w hb32 hq32 hz_32] at q; exact absurd q (by show ¬ b32 = -1; omega)) | exact (fun _ => by rw [rdS_go hb16 hq16 hz_16, hL23, rdE_y hb32 hq32 hz_32 hb45 (by omega)]; exact hc23) | exact (fun q => by rw [rdS_go hb16 hq16 hz_16, hL23, rdE_n hb32 hq32 hz_32 hb45 (by omega)] at q; exact absurd q (by show ¬ b45 = -1; omega))), (by first | (rw [rdS_no hb16 hq16 hz_16]; show -1 ≤ b16 ∧ b16 ≤ 400; omega) | (rw [rdS_go hb16 hq16 hz_16, hL0, rdE_0]; show -1 ≤ a23 ∧ a23 ≤ 400; have := hb45.trans hbl23.symm; omega) | (rw [rdS_go hb16 hq16 hz_16, hL23, rdE_w hb32 hq32 hz_32]; show -1 ≤ b32 ∧ b32 ≤ 400; omega) | (rw [rdS_go hb16 hq16 hz_16, hL23, rdE_y hb32 hq32 hz_32 hb45 (by omega)]; show (-1 : Int) ≤ -1 ∧ (-1 : Int) ≤ 400; omega) | (rw [rdS_go hb16 hq16 hz_16, hL23, rdE_n hb32 hq32 hz_32 hb45 (by omega)]; show -1 ≤ b45 ∧ b45 ≤ 400; omega))⟩
                · refine j_iconst C dX7_findFirstWrong_66 ?_
                  refine j_goto C (tgt := 74) dX7_findFirstWrong_67 (by decide) ?_
                  exact j_iret C hr (Nat.le_refl _) (Nat.le_refl _) dX7_findFirstWrong_74 ⟨rfl, b45, c23, congrArg (fun z => some (aI z)) (by first | (rw [rdS_no hb16 hq16 hz_16, hb45]; exact (bl_bl (by omega) (by omega) hb16).symm) | (rw [rdS_go hb16 hq16 hz_16, hL0, rdE_0, hb45]; exact hbl23.symm) | (rw [rdS_go hb16 hq16 hz_16, hL23, rdE_w hb32 hq32 hz_32, hb45]; exact (bl_bl (by omega) (by omega) hb32).symm) | (rw [rdS_go hb16 hq16 hz_16, hL23, rdE_y hb32 hq32 hz_32 hb45 (by omega)]) | (rw [rdS_go hb16 hq16 hz_16, hL23, rdE_n hb32 hq32 hz_32 hb45 (by omega)])), (by first | rfl | simp only [upF_n5, upF_up]), (by first | exact hO23 | exact (fun _ _ _ => rfl)), (by first | exact (fun q => by rw [rdS_no hb16 hq16 hz_16] at q; exact absurd q (by show ¬ b16 = -1; omega)) | exact (fun q => by rw [rdS_go hb16 hq16 hz_16, hL0, rdE_0] at q; exact absurd q (by show ¬ a23 = -1; omega)) | exact (fun q => by rw [rdS_go hb16 hq16 hz_16, hL23, rdE_w hb32 hq32 hz_32] at q; exact absurd q (by show ¬ b32 = -1; omega)) | exact (fun _ => by rw [rdS_go hb16 hq16 hz_16, hL23, rdE_y hb32 hq32 hz_32 hb45 (by omega)]; exact hc23) | exact (fun q => by rw [rdS_go hb16 hq16 hz_16, hL23, rdE_n hb32 hq32 hz_32 hb45 (by omega)] at q; exact absurd q (by show ¬ b45 = -1; omega))), (by first | (rw [rdS_no hb16 hq16 hz_16]; show -1 ≤ b16 ∧ b16 ≤ 400; omega) | (rw [rdS_go hb16 hq16 hz_16, hL0, rdE_0]; show -1 ≤ a23 ∧ a23 ≤ 400; have := hb45.trans hbl23.symm; omega) | (rw [rdS_go hb16 hq16 hz_16, hL23, rdE_w hb32 hq32 hz_32]; show -1 ≤ b32 ∧ b32 ≤ 400; omega) | (rw [rdS_go hb16 hq16 hz_16, hL23, rdE_y hb32 hq32 hz_32 hb45 (by omega)]; show (-1 : Int) ≤ -1 ∧ (-1 : Int) ≤ 400; omega) | (rw [rdS_go hb16 hq16 hz_16, hL23, rdE_n hb32 hq32 hz_32 hb45 (by omega)]; show -1 ≤ b45 ∧ b45 ≤ 400; omega))⟩
          · have hb32 : b32 = bl (byt (B 15) (F 4 1)) (a23) := hb32
            have hq32 : q32 = lt' (byt (B 15) (F 4 1)) b32 := hq32
            have hr32 : a23 ≤ b32 ∧ b32 ≤ q32 ∧ q32 ≤ F 4 1 := hr32
            have hz_32 : ¬ wok (byt (B 15) (F 4 1)) END b32 q32 = true := hz_32
            try rw [e15] at hb32
            try rw [e15] at hq32
            try rw [e15] at hz_32
            show ab_J E 2 0 0 S (upF (upF (upF (upF (upF (upF F 5 2 0) 6 2 0) 5 2 q16) 5 2 a23) 6 2 c23) 5 2 b32) B 35 [some (aR 5), none] [aI 0]
            refine j_if_eq C (tgt := 42) dX7_findFirstWrong_35 (by decide) ⟨by omega, by omega⟩ (fun c35 => ?_) (fun c35 => ?_)
            · refine j_iconst C dX7_findFirstWrong_42 ?_
              refine j_istore_n C (lv' := [some (aR 5), some (aI 0)]) dX7_findFirstWrong_43 rfl (by decide) rfl ?_
              refine j_aload_n C dX7_findFirstWrong_44 rfl rfl ?_
              refine j_callV C (vs := []) (st := []) cl_X7_43 im_yX7_skipBlanks se_yX7_skipBlanks (fun _ => c_skipBlanks _ S (upF (upF (upF (upF (upF (upF F 5 2 0) 6 2 0) 5 2 q16) 5 2 a23) 6 2 c23) 5 2 b32) B hS (by show 0 ≤ b32 ∧ b32 ≤ F 4 1 ∧ F 4 1 ≤ 400; omega) hTB) ((sC_5 hS)) rfl rfl rfl ⟨rfl, rfl, by decide, by decide⟩ ⟨by decide, by decide⟩ (fun _ => Nat.le_of_ble_eq_true rfl) (fun v hv => by cases hv) (fun v hv => by simp only [List.mem_cons, List.not_mem_nil, or_false, Option.some.injEq, reduceCtorEq, false_or] at hv; rcases hv with rfl | rfl <;> first | exact (lS ((sC_5 hS))) | exact trivial) dX7_findFirstWrong_45 (fun v_45 S_45 F_45 A_45 hP_45 => ?_)
              obtain ⟨rfl, rfl, rfl, b45, hb45, hr45, rfl⟩ := hP_45
              have hb45 : b45 = bl (byt (B 15) (F 4 1)) (b32) := hb45
              have hr45 : b32 ≤ b45 ∧ b45 ≤ F 4 1 := hr45
              try rw [e15] at hb45
              show ab_J E 2 0 0 S (upF (upF (upF (upF (upF (upF (upF F 5 2 0) 6 2 0) 5 2 q16) 5 2 a23) 6 2 c23) 5 2 b32) 5 2 b45) B 48 [some (aR 5), some (aI 0)] []
              refine j_iload_n C dX7_findFirstWrong_48 rfl rfl ?_
              refine j_if_eq C (tgt := 70) dX7_findFirstWrong_49 (by decide) ⟨by omega, by omega⟩ (fun c49 => ?_) (fun c49 => ?_)
              · refine j_aload_n C dX7_findFirstWrong_70 rfl rfl ?_
                refine j_get C (aI b45) fl_X7_25 ((sC_5 hS)) (fun _ => rfl) dX7_findFirstWrong_71 ?_
                exact j_iret C hr (Nat.le_refl _) (Nat.le_refl _) dX7_findFirstWrong_74 ⟨rfl, b45, c23, congrArg (fun z => some (aI z)) (by first | (rw [rdS_no hb16 hq16 hz_16, hb45]; exact (bl_bl (by omega) (by omega) hb16).symm) | (rw [rdS_go hb16 hq16 hz_16, hL0, rdE_0, hb45]; exact hbl23.symm) | (rw [rdS_go hb16 hq16 hz_16, hL23, rdE_w hb32 hq32 hz_32, hb45]; exact (bl_bl (by omega) (by omega) hb32).symm) | (rw [rdS_go hb16 hq16 hz_16, hL23, rdE_y hb32 hq32 hz_32 hb45 (by omega)]) | (rw [rdS_go hb16 hq16 hz_16, hL23, rdE_n hb32 hq32 hz_32 hb45 (by omega)])), (by first | rfl | simp only [upF_n5, upF_up]), (by first | exact hO23 | exact (fun _ _ _ => rfl)), (by first | exact (fun q => by rw [rdS_no hb16 hq16 hz_16] at q; exact absurd q (by show ¬ b16 = -1; omega)) | exact (fun q => by rw [rdS_go hb16 hq16 hz_16, hL0, rdE_0] at q; exact absurd q (by show ¬ a23 = -1; omega)) | exact (fun q => by rw [rdS_go hb16 hq16 hz_16, hL23, rdE_w hb32 hq32 hz_32] at q; exact absurd q (by show ¬ b32 = -1; omega)) | exact (fun _ => by rw [rdS_go hb16 hq16 hz_16, hL23, rdE_y hb32 hq32 hz_32 hb45 (by omega)]; exact hc23) | exact (fun q => by rw [rdS_go hb16 hq16 hz_16, hL23, rdE_n hb32 hq32 hz_32 hb45 (by omega)] at q; exact absurd q (by show ¬ b45 = -1; omega))), (by first | (rw [rdS_no hb16 hq16 hz_16]; show -1 ≤ b16 ∧ b16 ≤ 400; omega) | (rw [rdS_go hb16 hq16 hz_16, hL0, rdE_0]; show -1 ≤ a23 ∧ a23 ≤ 400; have := hb45.trans hbl23.symm; omega) | (rw [rdS_go hb16 hq16 hz_16, hL23, rdE_w hb32 hq32 hz_32]; show -1 ≤ b32 ∧ b32 ≤ 400; omega) | (rw [rdS_go hb16 hq16 hz_16, hL23, rdE_y hb32 hq32 hz_32 hb45 (by omega)]; show (-1 : Int) ≤ -1 ∧ (-1 : Int) ≤ 400; omega) | (rw [rdS_go hb16 hq16 hz_16, hL23, rdE_n hb32 hq32 hz_32 hb45 (by omega)]; show -1 ≤ b45 ∧ b45 ≤ 400; omega))⟩
              · exact absurd c49 (by decide)
            · exact absurd c35 (by decide)
      · obtain ⟨B, hBe⟩ : ∃ B, B = A_23 := ⟨_, rfl⟩
        rw [← hBe]
        rw [← hBe] at hO23
        have hL0 : rcs (byt (A 15) (F 4 1)) 40 (q16) [] = (0, (a23, L0)) := hL0
        have hbl23 : a23 = bl (byt (A 15) (F 4 1)) a23 := hbl23
        have e15 : B 15 = A 15 := hO23 15 (by decide) (by decide)
        have hTB : ∀ i, 0 ≤ i → i < F 4 1 → 0 ≤ B 15 i ∧ B 15 i ≤ 255 := by rw [e15]; exact hT
        have ha23 : 0 ≤ a23 ∧ a23 ≤ F 4 1 := ha23
        show ab_J E 2 0 0 S (upF (upF (upF (upF (upF F 5 2 0) 6 2 0) 5 2 q16) 5 2 a23) 6 2 c23) B 26 [some (aR 5), none] [aI 0]
        refine j_if_eq C (tgt := 42) dX7_findFirstWrong_26 (by decide) ⟨by omega, by omega⟩ (fun c26 => ?_) (fun c26 => ?_)
        · refine j_iconst C dX7_findFirstWrong_42 ?_
          refine j_istore_n C (lv' := [some (aR 5), some (aI 0)]) dX7_findFirstWrong_43 rfl (by decide) rfl ?_
          refine j_aload_n C dX7_findFirstWrong_44 rfl rfl ?_
          refine j_callV C (vs := []) (st := []) cl_X7_43 im_yX7_skipBlanks se_yX7_skipBlanks (fun _ => c_skipBlanks _ S (upF (upF (upF (upF (upF F 5 2 0) 6 2 0) 5 2 q16) 5 2 a23) 6 2 c23) B hS (by show 0 ≤ a23 ∧ a23 ≤ F 4 1 ∧ F 4 1 ≤ 400; omega) hTB) ((sC_5 hS)) rfl rfl rfl ⟨rfl, rfl, by decide, by decide⟩ ⟨by decide, by decide⟩ (fun _ => Nat.le_of_ble_eq_true rfl) (fun v hv => by cases hv) (fun v hv => by simp only [List.mem_cons, List.not_mem_nil, or_false, Option.some.injEq, reduceCtorEq, false_or] at hv; rcases hv with rfl | rfl <;> first | exact (lS ((sC_5 hS))) | exact trivial) dX7_findFirstWrong_45 (fun v_45 S_45 F_45 A_45 hP_45 => ?_)
          obtain ⟨rfl, rfl, rfl, b45, hb45, hr45, rfl⟩ := hP_45
          have hb45 : b45 = bl (byt (B 15) (F 4 1)) (a23) := hb45
          have hr45 : a23 ≤ b45 ∧ b45 ≤ F 4 1 := hr45
          try rw [e15] at hb45
          show ab_J E 2 0 0 S (upF (upF (upF (upF (upF (upF F 5 2 0) 6 2 0) 5 2 q16) 5 2 a23) 6 2 c23) 5 2 b45) B 48 [some (aR 5), some (aI 0)] []
          refine j_iload_n C dX7_findFirstWrong_48 rfl rfl ?_
          refine j_if_eq C (tgt := 70) dX7_findFirstWrong_49 (by decide) ⟨by omega, by omega⟩ (fun c49 => ?_) (fun c49 => ?_)
          · refine j_aload_n C dX7_findFirstWrong_70 rfl rfl ?_
            refine j_get C (aI b45) fl_X7_25 ((sC_5 hS)) (fun _ => rfl) dX7_findFirstWrong_71 ?_
            exact j_iret C hr (Nat.le_refl _) (Nat.le_refl _) dX7_findFirstWrong_74 ⟨rfl, b45, c23, congrArg (fun z => some (aI z)) (by first | (rw [rdS_no hb16 hq16 hz_16, hb45]; exact (bl_bl (by omega) (by omega) hb16).symm) | (rw [rdS_go hb16 hq16 hz_16, hL0, rdE_0, hb45]; exact hbl23.symm) | (rw [rdS_go hb16 hq16 hz_16, hL23, rdE_w hb32 hq32 hz_32, hb45]; exact (bl_bl (by omega) (by omega) hb32).symm) | (rw [rdS_go hb16 hq16 hz_16, hL23, rdE_y hb32 hq32 hz_32 hb45 (by omega)]) | (rw [rdS_go hb16 hq16 hz_16, hL23, rdE_n hb32 hq32 hz_32 hb45 (by omega)])), (by first | rfl | simp only [upF_n5, upF_up]), (by first | exact hO23 | exact (fun _ _ _ => rfl)), (by first | exact (fun q => by rw [rdS_no hb16 hq16 hz_16] at q; exact absurd q (by show ¬ b16 = -1; omega)) | exact (fun q => by rw [rdS_go hb16 hq16 hz_16, hL0, rdE_0] at q; exact absurd q (by show ¬ a23 = -1; omega)) | exact (fun q => by rw [rdS_go hb16 hq16 hz_16, hL23, rdE_w hb32 hq32 hz_32] at q; exact absurd q (by show ¬ b32 = -1; omega)) | exact (fun _ => by rw [rdS_go hb16 hq16 hz_16, hL23, rdE_y hb32 hq32 hz_32 hb45 (by omega)]; exact hc23) | exact (fun q => by rw [rdS_go hb16 hq16 hz_16, hL23, rdE_n hb32 hq32 hz_32 hb45 (by omega)] at q; exact absurd q (by show ¬ b45 = -1; omega))), (by first | (rw [rdS_no hb16 hq16 hz_16]; show -1 ≤ b16 ∧ b16 ≤ 400; omega) | (rw [rdS_go hb16 hq16 hz_16, hL0, rdE_0]; show -1 ≤ a23 ∧ a23 ≤ 400; have := hb45.trans hbl23.symm; omega) | (rw [rdS_go hb16 hq16 hz_16, hL23, rdE_w hb32 hq32 hz_32]; show -1 ≤ b32 ∧ b32 ≤ 400; omega) | (rw [rdS_go hb16 hq16 hz_16, hL23, rdE_y hb32 hq32 hz_32 hb45 (by omega)]; show (-1 : Int) ≤ -1 ∧ (-1 : Int) ≤ 400; omega) | (rw [rdS_go hb16 hq16 hz_16, hL23, rdE_n hb32 hq32 hz_32 hb45 (by omega)]; show -1 ≤ b45 ∧ b45 ≤ 400; omega))⟩
          · exact absurd c49 (by decide)
        · exact absurd c26 (by decide)
  · have hb16 : b16 = bl (byt (A 15) (F 4 1)) (0) := hb16
    have hq16 : q16 = lt' (byt (A 15) (F 4 1)) b16 := hq16
    have hr16 : 0 ≤ b16 ∧ b16 ≤ q16 ∧ q16 ≤ F 4 1 := hr16
    have hz_16 : ¬ wok (byt (A 15) (F 4 1)) RING b16 q16 = true := hz_16
    show ab_J E 2 0 0 S (upF (upF (upF F 5 2 0) 6 2 0) 5 2 b16) A 19 [some (aR 5), none] [aI 0]
    refine j_if_eq C (tgt := 42) dX7_findFirstWrong_19 (by decide) ⟨by omega, by omega⟩ (fun c19 => ?_) (fun c19 => ?_)
    · refine j_iconst C dX7_findFirstWrong_42 ?_
      refine j_istore_n C (lv' := [some (aR 5), some (aI 0)]) dX7_findFirstWrong_43 rfl (by decide) rfl ?_
      refine j_aload_n C dX7_findFirstWrong_44 rfl rfl ?_
      refine j_callV C (vs := []) (st := []) cl_X7_43 im_yX7_skipBlanks se_yX7_skipBlanks (fun _ => c_skipBlanks _ S (upF (upF (upF F 5 2 0) 6 2 0) 5 2 b16) A hS (by show 0 ≤ b16 ∧ b16 ≤ F 4 1 ∧ F 4 1 ≤ 400; omega) hT) ((sC_5 hS)) rfl rfl rfl ⟨rfl, rfl, by decide, by decide⟩ ⟨by decide, by decide⟩ (fun _ => Nat.le_of_ble_eq_true rfl) (fun v hv => by cases hv) (fun v hv => by simp only [List.mem_cons, List.not_mem_nil, or_false, Option.some.injEq, reduceCtorEq, false_or] at hv; rcases hv with rfl | rfl <;> first | exact (lS ((sC_5 hS))) | exact trivial) dX7_findFirstWrong_45 (fun v_45 S_45 F_45 A_45 hP_45 => ?_)
      obtain ⟨rfl, rfl, rfl, b45, hb45, hr45, rfl⟩ := hP_45
      have hb45 : b45 = bl (byt (A 15) (F 4 1)) (b16) := hb45
      have hr45 : b16 ≤ b45 ∧ b45 ≤ F 4 1 := hr45
      show ab_J E 2 0 0 S (upF (upF (upF (upF F 5 2 0) 6 2 0) 5 2 b16) 5 2 b45) A 48 [some (aR 5), some (aI 0)] []
      refine j_iload_n C dX7_findFirstWrong_48 rfl rfl ?_
      refine j_if_eq C (tgt := 70) dX7_findFirstWrong_49 (by decide) ⟨by omega, by omega⟩ (fun c49 => ?_) (fun c49 => ?_)
      · refine j_aload_n C dX7_findFirstWrong_70 rfl rfl ?_
        refine j_get C (aI b45) fl_X7_25 ((sC_5 hS)) (fun _ => rfl) dX7_findFirstWrong_71 ?_
        exact j_iret C hr (Nat.le_refl _) (Nat.le_refl _) dX7_findFirstWrong_74 ⟨rfl, b45, 0, congrArg (fun z => some (aI z)) (by first | (rw [rdS_no hb16 hq16 hz_16, hb45]; exact (bl_bl (by omega) (by omega) hb16).symm) | (rw [rdS_go hb16 hq16 hz_16, hL0, rdE_0, hb45]; exact hbl23.symm) | (rw [rdS_go hb16 hq16 hz_16, hL23, rdE_w hb32 hq32 hz_32, hb45]; exact (bl_bl (by omega) (by omega) hb32).symm) | (rw [rdS_go hb16 hq16 hz_16, hL23, rdE_y hb32 hq32 hz_32 hb45 (by omega)]) | (rw [rdS_go hb16 hq16 hz_16, hL23, rdE_n hb32 hq32 hz_32 hb45 (by omega)])), (by first | rfl | simp only [upF_n5, upF_up]), (by first | exact hO23 | exact (fun _ _ _ => rfl)), (by first | exact (fun q => by rw [rdS_no hb16 hq16 hz_16] at q; exact absurd q (by show ¬ b16 = -1; omega)) | exact (fun q => by rw [rdS_go hb16 hq16 hz_16, hL0, rdE_0] at q; exact absurd q (by show ¬ a23 = -1; omega)) | exact (fun q => by rw [rdS_go hb16 hq16 hz_16, hL23, rdE_w hb32 hq32 hz_32] at q; exact absurd q (by show ¬ b32 = -1; omega)) | exact (fun _ => by rw [rdS_go hb16 hq16 hz_16, hL23, rdE_y hb32 hq32 hz_32 hb45 (by omega)]; exact hc23) | exact (fun q => by rw [rdS_go hb16 hq16 hz_16, hL23, rdE_n hb32 hq32 hz_32 hb45 (by omega)] at q; exact absurd q (by show ¬ b45 = -1; omega))), (by first | (rw [rdS_no hb16 hq16 hz_16]; show -1 ≤ b16 ∧ b16 ≤ 400; omega) | (rw [rdS_go hb16 hq16 hz_16, hL0, rdE_0]; show -1 ≤ a23 ∧ a23 ≤ 400; have := hb45.trans hbl23.symm; omega) | (rw [rdS_go hb16 hq16 hz_16, hL23, rdE_w hb32 hq32 hz_32]; show -1 ≤ b32 ∧ b32 ≤ 400; omega) | (rw [rdS_go hb16 hq16 hz_16, hL23, rdE_y hb32 hq32 hz_32 hb45 (by omega)]; show (-1 : Int) ≤ -1 ∧ (-1 : Int) ≤ 400; omega) | (rw [rdS_go hb16 hq16 hz_16, hL23, rdE_n hb32 hq32 hz_32 hb45 (by omega)]; show -1 ≤ b45 ∧ b45 ≤ 400; omega))⟩
      · exact absurd c49 (by decide)
    · exact absurd c19 (by decide)
