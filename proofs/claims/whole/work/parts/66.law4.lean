set_option maxHeartbeats 4000000 in
set_option maxRecDepth 100000 in
theorem lc_5 {E : ab_E} (C : ab_C E cL_law 7 yL_law room_1) {b L : Nat} {xs : Nat → Int32} (hX : ab_X E b L xs) (hL : L ≤ 3072) {k n : Nat} (hk : k + 5 ≤ 601024) (hn : n + 345 ≤ 7293034) {S : ab_St} {F : ab_Fn} {A : ab_An} {U : Int → bst} {nc : Nat → Nat} {T : Int} (hT : 0 ≤ T ∧ T ≤ 512) (hI : LI S F A U nc T) {i : Int} (hi : 0 ≤ i ∧ i + 6 ≤ L)
    (go : ∀ S2 F2 A2 U2 nc2, LI S2 F2 A2 U2 nc2 (T + 1) → ab_J E 7 (k + 5) (n + 345) S2 F2 A2 1175 [some (aX (.ref b)), some (aR 0), some (aR 100), some (aR 90), some (aI i), none, none] []) : ab_J E 7 k n S F A 442 [some (aX (.ref b)), some (aR 0), some (aR 100), some (aR 90), some (aI i), none, none] [] := by
  obtain ⟨⟨hSC, hSM, h90⟩, hLB, hLW, hLT, hLS, hLF⟩ := id hI
  have hb := hLB.2.1
  have hb3 := hLB.2.2.1
  have hw9 := hLW.2.1
  have hw3 := hLW.2.2.1
  have ht := hLT.2.1
  have ht3 := hLT.1
  refine j_aload_n C dL_law_442 rfl rfl ?_
  refine j_xload_n C dL_law_443 rfl rfl ?_
  refine j_iload C dL_law_444 rfl ?_
  refine j_iconst C dL_law_446 ?_
  refine j_iadd C dL_law_447 ?_
  refine j_sld C hX (j := i + 1) (by omega) (by omega) (by omega) dL_law_448 ?_
  refine j_aload_n C dL_law_449 rfl rfl ?_
  rcases (show (¬ (0 ≤ ((xs (i + 1).toNat).toInt) ∧ ((xs (i + 1).toNat).toInt) ≤ 50)) ∨ ((0 ≤ ((xs (i + 1).toNat).toInt) ∧ ((xs (i + 1).toNat).toInt) ≤ 50)) by by_cases q0 : (0 ≤ ((xs (i + 1).toNat).toInt) ∧ ((xs (i + 1).toNat).toInt) ≤ 50); (exact Or.inr (q0)); exact Or.inl q0) with hq | hq1
  · refine j_callSH C (vs := [aR 0, aI ((xs (i + 1).toNat).toInt), aR 90]) (st := []) clh_step (ab_t3 (List.mem_of_getElem? (i := 202) rfl) rfl) (fun _ => (h_step_IAE _ S F A (sC_0 hSC) h90 _ _ (fun _ => x_step _ S F A hSC _ (inX _) hq))) rfl ⟨rfl, rfl, by decide, by decide⟩ ⟨(by show k + 1 ≤ 601024; omega), (by show n + 6 ≤ 7293034; omega)⟩ (fun _ => Nat.le_of_ble_eq_true rfl) (fun v hv => by cases hv) (fun v hv => by simp only [List.mem_cons, List.not_mem_nil, or_false, Option.some.injEq, reduceCtorEq, false_or] at hv; rcases hv with rfl | rfl | rfl | rfl | rfl <;> first | exact (lS (sC_0 hSC)) | exact (lS (sM_100 hSM)) | exact (lS h90) | exact trivial) dL_law_450 (fun v_450 S_450 F_450 A_450 hP_450 => ?_)
    obtain ⟨rfl, rfl, rfl, rfl⟩ := hP_450
    show ab_J E 7 (k + 1) (n + 6) S F A 453 [some (aX (.ref b)), some (aR 0), some (aR 100), some (aR 90), some (aI i), none, none] [aI 1]
    refine j_istore C (lv' := [some (aX (.ref b)), some (aR 0), some (aR 100), some (aR 90), some (aI i), some (aI 1), none]) dL_law_453 (by decide) rfl ?_
    refine j_aload_n C dL_law_455 rfl rfl ?_
    refine j_xload_n C dL_law_456 rfl rfl ?_
    refine j_iload C dL_law_457 rfl ?_
    refine j_iconst C dL_law_459 ?_
    refine j_iadd C dL_law_460 ?_
    refine j_sld C hX (j := i + 1) (by omega) (by omega) (by omega) dL_law_461 ?_
    refine j_callV C (vs := [aI ((xs (i + 1).toNat).toInt)]) (st := []) cl_L_96 im_yX10_step se_yX10_step (fun _ => (m_step _ S F A hSM _ (inX _) (by show 0 ≤ F 100 11 ∧ F 100 11 ≤ 10; rw [hb3]; exact hb) (fun k z1 z2 => by rw [hLS.1.1]; exact (hLS.2 k z1 z2).1) (fun k z1 z2 => by rw [hLS.1.2.1, hLS.1.2.2.1]; exact (hLS.2 k z1 z2).2.1) (fun k z1 z2 => by rw [hLS.1.2.2.2]; exact (hLS.2 k z1 z2).2.2) U hI.U2)) (sM_100 hSM) rfl rfl rfl ⟨rfl, rfl, by decide, by decide⟩ ⟨(by show (k + 1) + 0 ≤ 601024; omega), (by show (n + 6) + 0 ≤ 7293034; omega)⟩ (fun _ => Nat.le_of_ble_eq_true rfl) (fun v hv => by cases hv) (fun v hv => by simp only [List.mem_cons, List.not_mem_nil, or_false, Option.some.injEq, reduceCtorEq, false_or] at hv; rcases hv with rfl | rfl | rfl | rfl | rfl | rfl <;> first | exact (lS (sC_0 hSC)) | exact (lS (sM_100 hSM)) | exact (lS h90) | exact trivial) dL_law_462 (fun v_462 S_462 F_462 A_462 hP_462 => ?_)
    obtain ⟨rfl, t9, r2, rfl, hm⟩ := hP_462
    obtain ⟨rfl, rfl⟩ : F_462 = upF F 100 0 1 ∧ A = A_462 := by rcases hm with h | h; exact ⟨h.2.2.1, h.2.2.2⟩; exact absurd h.2.1 hq
    have ht9 : (upF F 100 0 1) 100 0 = 1 := rfl
    have hI9 := hI.to (F' := upF F 100 0 1) (A' := A) (fun i z => upF_o (by omega)) (fun k z => upF_ne (by omega)) (fun _ _ => rfl)
    show ab_J E 7 (k + 1) (n + 6) S (upF F 100 0 1) A 465 [some (aX (.ref b)), some (aR 0), some (aR 100), some (aR 90), some (aI i), some (aI 1), none] [aI r2]
    refine j_istore C (lv' := [some (aX (.ref b)), some (aR 0), some (aR 100), some (aR 90), some (aI i), some (aI 1), some (aI r2)]) dL_law_465 (by decide) rfl ?_
    refine j_aload_n C dL_law_467 rfl rfl ?_
    refine j_callV C (vs := []) (st := []) cl_L_82 im_yX10_thrown se_yX10_thrown (fun _ => (m_thrown _ S (upF F 100 0 1) A hSM)) (sM_100 hSM) rfl rfl rfl ⟨rfl, rfl, by decide, by decide⟩ ⟨(by show (k + 1) + 0 ≤ 601024; omega), (by show (n + 6) + 0 ≤ 7293034; omega)⟩ (fun _ => Nat.le_of_ble_eq_true rfl) (fun v hv => by cases hv) (fun v hv => by simp only [List.mem_cons, List.not_mem_nil, or_false, Option.some.injEq, reduceCtorEq, false_or] at hv; rcases hv with rfl | rfl | rfl | rfl | rfl | rfl | rfl <;> first | exact (lS (sC_0 hSC)) | exact (lS (sM_100 hSM)) | exact (lS h90) | exact trivial) dL_law_468 (fun v_468 S_468 F_468 A_468 hP_468 => ?_)
    obtain ⟨rfl, rfl, rfl, rfl⟩ := hP_468
    rw [ht9]
    show ab_J E 7 (k + 1) (n + 6) S (upF F 100 0 1) A 471 [some (aX (.ref b)), some (aR 0), some (aR 100), some (aR 90), some (aI i), some (aI 1), some (aI r2)] [aI 1]
    refine j_iload C dL_law_471 rfl ?_
    refine j_icmp_eq C (tgt := 478) dL_law_473 (by decide) ⟨by omega, by omega⟩ ⟨by omega, by omega⟩ (fun c473 => ?_) (fun c473 => ?_)
    · refine j_iload C dL_law_478 rfl ?_
      refine j_if_ne C (tgt := 495) dL_law_480 (by decide) ⟨by omega, by omega⟩ (fun c480 => ?_) (fun c480 => ?_)
      · refine j_goto C (tgt := 1175) dL_law_495 (by decide) ?_
        refine j_lv (lv' := [some (aX (.ref b)), some (aR 0), some (aR 100), some (aR 90), some (aI i), none, none]) ?_ ⟨rfl, rfl, rfl, rfl, rfl, trivial⟩
        exact j_widen (by omega) (by omega) (go _ _ _ _ _ hI9)
      · exact absurd c480 (by decide)
    · exact absurd c473 (by decide)
  · refine j_callSH C (vs := [aR 0, aI ((xs (i + 1).toNat).toInt), aR 90]) (st := []) clh_step (ab_t3 (List.mem_of_getElem? (i := 202) rfl) rfl) (fun _ => (h_step_ok _ S F A (sC_0 hSC) h90 _ _ (fun _ => c_step _ S F A hSC _ hq1 hLB.1 hb (fun k z1 z2 => (hLS.2 k z1 z2).1) (fun k z1 z2 => (hLS.2 k z1 z2).2.1) (fun k z1 z2 => (hLS.2 k z1 z2).2.2) U hI.U1) (fun v S' F' A' h => ⟨⟨_, h.2.1⟩, h.1 ▸ h90⟩))) rfl ⟨rfl, rfl, by decide, by decide⟩ ⟨(by show k + 0 ≤ 601024; omega), (by show n + 0 ≤ 7293034; omega)⟩ (fun _ => Nat.le_of_ble_eq_true rfl) (fun v hv => by cases hv) (fun v hv => by simp only [List.mem_cons, List.not_mem_nil, or_false, Option.some.injEq, reduceCtorEq, false_or] at hv; rcases hv with rfl | rfl | rfl | rfl | rfl <;> first | exact (lS (sC_0 hSC)) | exact (lS (sM_100 hSM)) | exact (lS h90) | exact trivial) dL_law_450 (fun v_450 S_450 F_450 A_450 hP_450 => ?_)
    obtain ⟨rfl, r9, A9, hc, rfl⟩ := hP_450
    obtain ⟨rfl, hc0, hc1, hc2, hc3, hc4, hc5⟩ := hc
    have er := aI_inj hc0
    have e100 : F_450 100 = F 100 := hc3 100 (by decide) (by decide)
    have eA : ∀ i, i ≠ 28 → i ≠ 90 → (i < 220 ∨ 230 ≤ i) → (upA A9 90 0 ((Int32.ofInt r9).toInt)) i = A i := fun i z1 z2 z3 => (upA_other z2).trans (hc5 i z1 z3)
    show ab_J E 7 k n S F_450 (upA A9 90 0 ((Int32.ofInt r9).toInt)) 453 [some (aX (.ref b)), some (aR 0), some (aR 100), some (aR 90), some (aI i), none, none] [aI 0]
    refine j_istore C (lv' := [some (aX (.ref b)), some (aR 0), some (aR 100), some (aR 90), some (aI i), some (aI 0), none]) dL_law_453 (by decide) rfl ?_
    refine j_aload_n C dL_law_455 rfl rfl ?_
    refine j_xload_n C dL_law_456 rfl rfl ?_
    refine j_iload C dL_law_457 rfl ?_
    refine j_iconst C dL_law_459 ?_
    refine j_iadd C dL_law_460 ?_
    refine j_sld C hX (j := i + 1) (by omega) (by omega) (by omega) dL_law_461 ?_
    refine j_callV C (vs := [aI ((xs (i + 1).toNat).toInt)]) (st := []) cl_L_96 im_yX10_step se_yX10_step (fun _ => (m_step _ S F_450 (upA A9 90 0 ((Int32.ofInt r9).toInt)) hSM _ (inX _) (by rw [e100, hb3]; exact hb) (fun k z1 z2 => by rw [eA 101 (by decide) (by decide) (by decide), hLS.1.1]; exact (hLS.2 k z1 z2).1) (fun k z1 z2 => by rw [eA 102 (by decide) (by decide) (by decide), eA 103 (by decide) (by decide) (by decide), hLS.1.2.1, hLS.1.2.2.1]; exact (hLS.2 k z1 z2).2.1) (fun k z1 z2 => by rw [eA 104 (by decide) (by decide) (by decide), hLS.1.2.2.2]; exact (hLS.2 k z1 z2).2.2) U (fun b z1 z2 => by rw [e100] at z2; exact ⟨(hI.U2 b z1 z2).1.to (fun i y1 y2 => eA i (by omega) (by omega) (by omega)), (hI.U2 b z1 z2).2⟩))) (sM_100 hSM) rfl rfl rfl ⟨rfl, rfl, by decide, by decide⟩ ⟨(by show k + 0 ≤ 601024; omega), (by show n + 0 ≤ 7293034; omega)⟩ (fun _ => Nat.le_of_ble_eq_true rfl) (fun v hv => by cases hv) (fun v hv => by simp only [List.mem_cons, List.not_mem_nil, or_false, Option.some.injEq, reduceCtorEq, false_or] at hv; rcases hv with rfl | rfl | rfl | rfl | rfl | rfl <;> first | exact (lS (sC_0 hSC)) | exact (lS (sM_100 hSM)) | exact (lS h90) | exact trivial) dL_law_462 (fun v_462 S_462 F_462 A_462 hP_462 => ?_)
    obtain ⟨rfl, t9, r2, rfl, hm⟩ := hP_462
    obtain ⟨-, -, e2, hm1, hm2, hm3⟩ := hm.resolve_left (fun h => absurd hq1 h.2.1)
    rw [e100, hLF.1, ← er] at e2
    have h90r : A_462 90 0 = (Int32.ofInt r2).toInt := by rw [hm3 90 (by decide) (by decide) (by decide) (by decide) (by decide) (by decide), e2]; rfl
    have ht9 : F_462 100 0 = 0 := by rw [hm1, upF_ne (by decide), upF_at]
    have hI9 := L_step hI hq1 hc1 hc2 hc3 (fun b z1 z2 => (hc4 b z1 z2).to rfl (upA_other (by omega))) eA hm1 hm2 hm3
    show ab_J E 7 k n S F_462 A_462 465 [some (aX (.ref b)), some (aR 0), some (aR 100), some (aR 90), some (aI i), some (aI 0), none] [aI r2]
    refine j_istore C (lv' := [some (aX (.ref b)), some (aR 0), some (aR 100), some (aR 90), some (aI i), some (aI 0), some (aI r2)]) dL_law_465 (by decide) rfl ?_
    refine j_aload_n C dL_law_467 rfl rfl ?_
    refine j_callV C (vs := []) (st := []) cl_L_82 im_yX10_thrown se_yX10_thrown (fun _ => (m_thrown _ S F_462 A_462 hSM)) (sM_100 hSM) rfl rfl rfl ⟨rfl, rfl, by decide, by decide⟩ ⟨(by show k + 0 ≤ 601024; omega), (by show n + 0 ≤ 7293034; omega)⟩ (fun _ => Nat.le_of_ble_eq_true rfl) (fun v hv => by cases hv) (fun v hv => by simp only [List.mem_cons, List.not_mem_nil, or_false, Option.some.injEq, reduceCtorEq, false_or] at hv; rcases hv with rfl | rfl | rfl | rfl | rfl | rfl | rfl <;> first | exact (lS (sC_0 hSC)) | exact (lS (sM_100 hSM)) | exact (lS h90) | exact trivial) dL_law_468 (fun v_468 S_468 F_468 A_468 hP_468 => ?_)
    obtain ⟨rfl, rfl, rfl, rfl⟩ := hP_468
    rw [ht9]
    show ab_J E 7 k n S F_462 A_462 471 [some (aX (.ref b)), some (aR 0), some (aR 100), some (aR 90), some (aI i), some (aI 0), some (aI r2)] [aI 0]
    refine j_iload C dL_law_471 rfl ?_
    refine j_icmp_eq C (tgt := 478) dL_law_473 (by decide) ⟨by omega, by omega⟩ ⟨by omega, by omega⟩ (fun c473 => ?_) (fun c473 => ?_)
    · refine j_iload C dL_law_478 rfl ?_
      refine j_if_ne C (tgt := 495) dL_law_480 (by decide) ⟨by omega, by omega⟩ (fun c480 => ?_) (fun c480 => ?_)
      · exact absurd c480 (by decide)
      · refine j_aload_n C dL_law_483 rfl rfl ?_
        refine j_iconst C dL_law_484 ?_
        refine j_lald C h90 (by omega) (by omega) (by decide) dL_law_485 ?_
        refine j_iload C dL_law_486 rfl ?_
        refine j_i2l C dL_law_488 ?_
        refine j_lcmpE C h90r dL_law_489 ?_
        refine j_if_eq C (tgt := 495) dL_law_490 (by decide) ⟨by omega, by omega⟩ (fun c490 => ?_) (fun c490 => ?_)
        · refine j_goto C (tgt := 1175) dL_law_495 (by decide) ?_
          refine j_lv (lv' := [some (aX (.ref b)), some (aR 0), some (aR 100), some (aR 90), some (aI i), none, none]) ?_ ⟨rfl, rfl, rfl, rfl, rfl, trivial⟩
          exact j_widen (by omega) (by omega) (go _ _ _ _ _ hI9)
        · exact absurd c490 (by decide)
    · exact absurd c473 (by decide)

set_option maxHeartbeats 4000000 in
set_option maxRecDepth 100000 in
theorem lc_6 {E : ab_E} (C : ab_C E cL_law 7 yL_law room_1) {b L : Nat} {xs : Nat → Int32} (hX : ab_X E b L xs) (hL : L ≤ 3072) {k n : Nat} (hk : k + 5 ≤ 601024) (hn : n + 345 ≤ 7293034) {S : ab_St} {F : ab_Fn} {A : ab_An} {U : Int → bst} {nc : Nat → Nat} {T : Int} (hT : 0 ≤ T ∧ T ≤ 512) (hI : LI S F A U nc T) {i : Int} (hi : 0 ≤ i ∧ i + 6 ≤ L)
    (go : ∀ S2 F2 A2 U2 nc2, LI S2 F2 A2 U2 nc2 (T + 1) → ab_J E 7 (k + 5) (n + 345) S2 F2 A2 1175 [some (aX (.ref b)), some (aR 0), some (aR 100), some (aR 90), some (aI i), none, none] []) : ab_J E 7 k n S F A 498 [some (aX (.ref b)), some (aR 0), some (aR 100), some (aR 90), some (aI i), none, none] [] := by
  obtain ⟨⟨hSC, hSM, h90⟩, hLB, hLW, hLT, hLS, hLF⟩ := id hI
  have hb := hLB.2.1
  have hb3 := hLB.2.2.1
  have hw9 := hLW.2.1
  have hw3 := hLW.2.2.1
  have ht := hLT.2.1
  have ht3 := hLT.1
  refine j_aload_n C dL_law_498 rfl rfl ?_
  refine j_xload_n C dL_law_499 rfl rfl ?_
  refine j_iload C dL_law_500 rfl ?_
  refine j_iconst C dL_law_502 ?_
  refine j_iadd C dL_law_503 ?_
  refine j_sld C hX (j := i + 1) (by omega) (by omega) (by omega) dL_law_504 ?_
  refine j_xload_n C dL_law_505 rfl rfl ?_
  refine j_iload C dL_law_506 rfl ?_
  refine j_iconst C dL_law_508 ?_
  refine j_iadd C dL_law_509 ?_
  refine j_sld C hX (j := i + 2) (by omega) (by omega) (by omega) dL_law_510 ?_
  refine j_aload_n C dL_law_511 rfl rfl ?_
  rcases (show (¬ (0 ≤ ((xs (i + 1).toNat).toInt) ∧ ((xs (i + 1).toNat).toInt) ≤ 279)) ∨ ((0 ≤ ((xs (i + 1).toNat).toInt) ∧ ((xs (i + 1).toNat).toInt) ≤ 279) ∧ ¬ (0 ≤ ((xs (i + 2).toNat).toInt) ∧ ((xs (i + 2).toNat).toInt) ≤ 100)) ∨ ((0 ≤ ((xs (i + 1).toNat).toInt) ∧ ((xs (i + 1).toNat).toInt) ≤ 279) ∧ (0 ≤ ((xs (i + 2).toNat).toInt) ∧ ((xs (i + 2).toNat).toInt) ≤ 100)) by by_cases q0 : (0 ≤ ((xs (i + 1).toNat).toInt) ∧ ((xs (i + 1).toNat).toInt) ≤ 279); (by_cases q1 : (0 ≤ ((xs (i + 2).toNat).toInt) ∧ ((xs (i + 2).toNat).toInt) ≤ 100); (exact Or.inr (Or.inr (⟨q0, q1⟩))); exact Or.inr (Or.inl ⟨q0, q1⟩)); exact Or.inl q0) with hq | ⟨hq1, hq⟩ | ⟨hq1, hq2⟩
  · refine j_callSH C (vs := [aR 0, aI ((xs (i + 1).toNat).toInt), aI ((xs (i + 2).toNat).toInt), aR 90]) (st := []) clh_look (ab_t3 (List.mem_of_getElem? (i := 237) rfl) rfl) (fun _ => (h_look_IOB _ S F A (sC_0 hSC) h90 _ _ _ (fun _ => x_look1 _ S F A hSC _ _ (inX _) hq))) rfl ⟨rfl, rfl, by decide, by decide⟩ ⟨(by show k + 1 ≤ 601024; omega), (by show n + 6 ≤ 7293034; omega)⟩ (fun _ => Nat.le_of_ble_eq_true rfl) (fun v hv => by cases hv) (fun v hv => by simp only [List.mem_cons, List.not_mem_nil, or_false, Option.some.injEq, reduceCtorEq, false_or] at hv; rcases hv with rfl | rfl | rfl | rfl | rfl <;> first | exact (lS (sC_0 hSC)) | exact (lS (sM_100 hSM)) | exact (lS h90) | exact trivial) dL_law_512 (fun v_512 S_512 F_512 A_512 hP_512 => ?_)
    obtain ⟨rfl, rfl, rfl, rfl⟩ := hP_512
    show ab_J E 7 (k + 1) (n + 6) S F A 515 [some (aX (.ref b)), some (aR 0), some (aR 100), some (aR 90), some (aI i), none, none] [aI 1]
    refine j_istore C (lv' := [some (aX (.ref b)), some (aR 0), some (aR 100), some (aR 90), some (aI i), some (aI 1), none]) dL_law_515 (by decide) rfl ?_
    refine j_aload_n C dL_law_517 rfl rfl ?_
    refine j_xload_n C dL_law_518 rfl rfl ?_
    refine j_iload C dL_law_519 rfl ?_
    refine j_iconst C dL_law_521 ?_
    refine j_iadd C dL_law_522 ?_
    refine j_sld C hX (j := i + 1) (by omega) (by omega) (by omega) dL_law_523 ?_
    refine j_xload_n C dL_law_524 rfl rfl ?_
    refine j_iload C dL_law_525 rfl ?_
    refine j_iconst C dL_law_527 ?_
    refine j_iadd C dL_law_528 ?_
    refine j_sld C hX (j := i + 2) (by omega) (by omega) (by omega) dL_law_529 ?_
    refine j_callV C (vs := [aI ((xs (i + 1).toNat).toInt), aI ((xs (i + 2).toNat).toInt)]) (st := []) cl_L_99 im_yX10_look se_yX10_look (fun _ => (m_look _ S F A hSM _ _ (inX _) (inX _) (by show 0 ≤ F 100 11 ∧ F 100 11 ≤ 10; rw [hb3]; exact hb) U hI.U2)) (sM_100 hSM) rfl rfl rfl ⟨rfl, rfl, by decide, by decide⟩ ⟨(by show (k + 1) + 0 ≤ 601024; omega), (by show (n + 6) + 0 ≤ 7293034; omega)⟩ (fun _ => Nat.le_of_ble_eq_true rfl) (fun v hv => by cases hv) (fun v hv => by simp only [List.mem_cons, List.not_mem_nil, or_false, Option.some.injEq, reduceCtorEq, false_or] at hv; rcases hv with rfl | rfl | rfl | rfl | rfl | rfl <;> first | exact (lS (sC_0 hSC)) | exact (lS (sM_100 hSM)) | exact (lS h90) | exact trivial) dL_law_530 (fun v_530 S_530 F_530 A_530 hP_530 => ?_)
    obtain ⟨rfl, t9, r2, rfl, rfl, hm⟩ := hP_530
    obtain ⟨rfl, rfl⟩ : t9 = 1 ∧ A = A_530 := by rcases hm with h | h | h; exact ⟨h.1, h.2.2⟩; exact absurd h.2.1 hq; exact absurd h.2.1 hq
    have ht9 : (upF F 100 0 1) 100 0 = 1 := rfl
    have hI9 := hI.to (F' := upF F 100 0 1) (A' := A) (fun i z => upF_o (by omega)) (fun k z => upF_ne (by omega)) (fun _ _ => rfl)
    show ab_J E 7 (k + 1) (n + 6) S (upF F 100 0 1) A 533 [some (aX (.ref b)), some (aR 0), some (aR 100), some (aR 90), some (aI i), some (aI 1), none] [aI r2]
    refine j_istore C (lv' := [some (aX (.ref b)), some (aR 0), some (aR 100), some (aR 90), some (aI i), some (aI 1), some (aI r2)]) dL_law_533 (by decide) rfl ?_
    refine j_aload_n C dL_law_535 rfl rfl ?_
    refine j_callV C (vs := []) (st := []) cl_L_82 im_yX10_thrown se_yX10_thrown (fun _ => (m_thrown _ S (upF F 100 0 1) A hSM)) (sM_100 hSM) rfl rfl rfl ⟨rfl, rfl, by decide, by decide⟩ ⟨(by show (k + 1) + 0 ≤ 601024; omega), (by show (n + 6) + 0 ≤ 7293034; omega)⟩ (fun _ => Nat.le_of_ble_eq_true rfl) (fun v hv => by cases hv) (fun v hv => by simp only [List.mem_cons, List.not_mem_nil, or_false, Option.some.injEq, reduceCtorEq, false_or] at hv; rcases hv with rfl | rfl | rfl | rfl | rfl | rfl | rfl <;> first | exact (lS (sC_0 hSC)) | exact (lS (sM_100 hSM)) | exact (lS h90) | exact trivial) dL_law_536 (fun v_536 S_536 F_536 A_536 hP_536 => ?_)
    obtain ⟨rfl, rfl, rfl, rfl⟩ := hP_536
    rw [ht9]
    show ab_J E 7 (k + 1) (n + 6) S (upF F 100 0 1) A 539 [some (aX (.ref b)), some (aR 0), some (aR 100), some (aR 90), some (aI i), some (aI 1), some (aI r2)] [aI 1]
    refine j_iload C dL_law_539 rfl ?_
    refine j_icmp_eq C (tgt := 546) dL_law_541 (by decide) ⟨by omega, by omega⟩ ⟨by omega, by omega⟩ (fun c541 => ?_) (fun c541 => ?_)
    · refine j_iload C dL_law_546 rfl ?_
      refine j_if_ne C (tgt := 563) dL_law_548 (by decide) ⟨by omega, by omega⟩ (fun c548 => ?_) (fun c548 => ?_)
      · refine j_goto C (tgt := 1175) dL_law_563 (by decide) ?_
        refine j_lv (lv' := [some (aX (.ref b)), some (aR 0), some (aR 100), some (aR 90), some (aI i), none, none]) ?_ ⟨rfl, rfl, rfl, rfl, rfl, trivial⟩
        exact j_widen (by omega) (by omega) (go _ _ _ _ _ hI9)
      · exact absurd c548 (by decide)
    · exact absurd c541 (by decide)
  · refine j_callSH C (vs := [aR 0, aI ((xs (i + 1).toNat).toInt), aI ((xs (i + 2).toNat).toInt), aR 90]) (st := []) clh_look (ab_t3 (List.mem_of_getElem? (i := 237) rfl) rfl) (fun _ => (h_look_IAE _ S F A (sC_0 hSC) h90 _ _ _ (fun _ => x_look2 _ S F A hSC _ _ hq1 (inX _) hq))) rfl ⟨rfl, rfl, by decide, by decide⟩ ⟨(by show k + 1 ≤ 601024; omega), (by show n + 6 ≤ 7293034; omega)⟩ (fun _ => Nat.le_of_ble_eq_true rfl) (fun v hv => by cases hv) (fun v hv => by simp only [List.mem_cons, List.not_mem_nil, or_false, Option.some.injEq, reduceCtorEq, false_or] at hv; rcases hv with rfl | rfl | rfl | rfl | rfl <;> first | exact (lS (sC_0 hSC)) | exact (lS (sM_100 hSM)) | exact (lS h90) | exact trivial) dL_law_512 (fun v_512 S_512 F_512 A_512 hP_512 => ?_)
    obtain ⟨rfl, rfl, rfl, rfl⟩ := hP_512
    show ab_J E 7 (k + 1) (n + 6) S F A 515 [some (aX (.ref b)), some (aR 0), some (aR 100), some (aR 90), some (aI i), none, none] [aI 2]
    refine j_istore C (lv' := [some (aX (.ref b)), some (aR 0), some (aR 100), some (aR 90), some (aI i), some (aI 2), none]) dL_law_515 (by decide) rfl ?_
    refine j_aload_n C dL_law_517 rfl rfl ?_
    refine j_xload_n C dL_law_518 rfl rfl ?_
    refine j_iload C dL_law_519 rfl ?_
    refine j_iconst C dL_law_521 ?_
    refine j_iadd C dL_law_522 ?_
    refine j_sld C hX (j := i + 1) (by omega) (by omega) (by omega) dL_law_523 ?_
    refine j_xload_n C dL_law_524 rfl rfl ?_
    refine j_iload C dL_law_525 rfl ?_
    refine j_iconst C dL_law_527 ?_
    refine j_iadd C dL_law_528 ?_
    refine j_sld C hX (j := i + 2) (by omega) (by omega) (by omega) dL_law_529 ?_
    refine j_callV C (vs := [aI ((xs (i + 1).toNat).toInt), aI ((xs (i + 2).toNat).toInt)]) (st := []) cl_L_99 im_yX10_look se_yX10_look (fun _ => (m_look _ S F A hSM _ _ (inX _) (inX _) (by show 0 ≤ F 100 11 ∧ F 100 11 ≤ 10; rw [hb3]; exact hb) U hI.U2)) (sM_100 hSM) rfl rfl rfl ⟨rfl, rfl, by decide, by decide⟩ ⟨(by show (k + 1) + 0 ≤ 601024; omega), (by show (n + 6) + 0 ≤ 7293034; omega)⟩ (fun _ => Nat.le_of_ble_eq_true rfl) (fun v hv => by cases hv) (fun v hv => by simp only [List.mem_cons, List.not_mem_nil, or_false, Option.some.injEq, reduceCtorEq, false_or] at hv; rcases hv with rfl | rfl | rfl | rfl | rfl | rfl <;> first | exact (lS (sC_0 hSC)) | exact (lS (sM_100 hSM)) | exact (lS h90) | exact trivial) dL_law_530 (fun v_530 S_530 F_530 A_530 hP_530 => ?_)
    obtain ⟨rfl, t9, r2, rfl, rfl, hm⟩ := hP_530
    obtain ⟨rfl, rfl⟩ : t9 = 2 ∧ A = A_530 := by rcases hm with h | h | h; exact absurd hq1 h.2.1; exact ⟨h.1, h.2.2.2⟩; exact absurd h.2.2.1 hq
    have ht9 : (upF F 100 0 2) 100 0 = 2 := rfl
    have hI9 := hI.to (F' := upF F 100 0 2) (A' := A) (fun i z => upF_o (by omega)) (fun k z => upF_ne (by omega)) (fun _ _ => rfl)
    show ab_J E 7 (k + 1) (n + 6) S (upF F 100 0 2) A 533 [some (aX (.ref b)), some (aR 0), some (aR 100), some (aR 90), some (aI i), some (aI 2), none] [aI r2]
    refine j_istore C (lv' := [some (aX (.ref b)), some (aR 0), some (aR 100), some (aR 90), some (aI i), some (aI 2), some (aI r2)]) dL_law_533 (by decide) rfl ?_
    refine j_aload_n C dL_law_535 rfl rfl ?_
    refine j_callV C (vs := []) (st := []) cl_L_82 im_yX10_thrown se_yX10_thrown (fun _ => (m_thrown _ S (upF F 100 0 2) A hSM)) (sM_100 hSM) rfl rfl rfl ⟨rfl, rfl, by decide, by decide⟩ ⟨(by show (k + 1) + 0 ≤ 601024; omega), (by show (n + 6) + 0 ≤ 7293034; omega)⟩ (fun _ => Nat.le_of_ble_eq_true rfl) (fun v hv => by cases hv) (fun v hv => by simp only [List.mem_cons, List.not_mem_nil, or_false, Option.some.injEq, reduceCtorEq, false_or] at hv; rcases hv with rfl | rfl | rfl | rfl | rfl | rfl | rfl <;> first | exact (lS (sC_0 hSC)) | exact (lS (sM_100 hSM)) | exact (lS h90) | exact trivial) dL_law_536 (fun v_536 S_536 F_536 A_536 hP_536 => ?_)
    obtain ⟨rfl, rfl, rfl, rfl⟩ := hP_536
    rw [ht9]
    show ab_J E 7 (k + 1) (n + 6) S (upF F 100 0 2) A 539 [some (aX (.ref b)), some (aR 0), some (aR 100), some (aR 90), some (aI i), some (aI 2), some (aI r2)] [aI 2]
    refine j_iload C dL_law_539 rfl ?_
    refine j_icmp_eq C (tgt := 546) dL_law_541 (by decide) ⟨by omega, by omega⟩ ⟨by omega, by omega⟩ (fun c541 => ?_) (fun c541 => ?_)
    · refine j_iload C dL_law_546 rfl ?_
      refine j_if_ne C (tgt := 563) dL_law_548 (by decide) ⟨by omega, by omega⟩ (fun c548 => ?_) (fun c548 => ?_)
      · refine j_goto C (tgt := 1175) dL_law_563 (by decide) ?_
        refine j_lv (lv' := [some (aX (.ref b)), some (aR 0), some (aR 100), some (aR 90), some (aI i), none, none]) ?_ ⟨rfl, rfl, rfl, rfl, rfl, trivial⟩
        exact j_widen (by omega) (by omega) (go _ _ _ _ _ hI9)
      · exact absurd c548 (by decide)
    · exact absurd c541 (by decide)
  · refine j_callSH C (vs := [aR 0, aI ((xs (i + 1).toNat).toInt), aI ((xs (i + 2).toNat).toInt), aR 90]) (st := []) clh_look (ab_t3 (List.mem_of_getElem? (i := 237) rfl) rfl) (fun _ => (h_look_ok _ S F A (sC_0 hSC) h90 _ _ _ (fun _ => c_look _ S F A hSC _ _ hq1 hq2 hLB.1 hb U hI.U1) (fun v S' F' A' h => ⟨⟨_, h.2.1⟩, h.1 ▸ h90⟩))) rfl ⟨rfl, rfl, by decide, by decide⟩ ⟨(by show k + 0 ≤ 601024; omega), (by show n + 0 ≤ 7293034; omega)⟩ (fun _ => Nat.le_of_ble_eq_true rfl) (fun v hv => by cases hv) (fun v hv => by simp only [List.mem_cons, List.not_mem_nil, or_false, Option.some.injEq, reduceCtorEq, false_or] at hv; rcases hv with rfl | rfl | rfl | rfl | rfl <;> first | exact (lS (sC_0 hSC)) | exact (lS (sM_100 hSM)) | exact (lS h90) | exact trivial) dL_law_512 (fun v_512 S_512 F_512 A_512 hP_512 => ?_)
    obtain ⟨rfl, r9, A9, hc, rfl⟩ := hP_512
    obtain ⟨rfl, hc0, hc1, hc2, hc3⟩ := hc
    have er := aI_inj hc0
    have e100 : F_512 100 = F 100 := hc2 100 (by decide)
    have eA : ∀ i, i ≠ 90 → (i < 220 ∨ 230 ≤ i) → (upA A9 90 0 ((Int32.ofInt r9).toInt)) i = A i := fun i z2 z3 => (upA_other z2).trans (hc3 i z3)
    show ab_J E 7 k n S F_512 (upA A9 90 0 ((Int32.ofInt r9).toInt)) 515 [some (aX (.ref b)), some (aR 0), some (aR 100), some (aR 90), some (aI i), none, none] [aI 0]
    refine j_istore C (lv' := [some (aX (.ref b)), some (aR 0), some (aR 100), some (aR 90), some (aI i), some (aI 0), none]) dL_law_515 (by decide) rfl ?_
    refine j_aload_n C dL_law_517 rfl rfl ?_
    refine j_xload_n C dL_law_518 rfl rfl ?_
    refine j_iload C dL_law_519 rfl ?_
    refine j_iconst C dL_law_521 ?_
    refine j_iadd C dL_law_522 ?_
    refine j_sld C hX (j := i + 1) (by omega) (by omega) (by omega) dL_law_523 ?_
    refine j_xload_n C dL_law_524 rfl rfl ?_
    refine j_iload C dL_law_525 rfl ?_
    refine j_iconst C dL_law_527 ?_
    refine j_iadd C dL_law_528 ?_
    refine j_sld C hX (j := i + 2) (by omega) (by omega) (by omega) dL_law_529 ?_
    refine j_callV C (vs := [aI ((xs (i + 1).toNat).toInt), aI ((xs (i + 2).toNat).toInt)]) (st := []) cl_L_99 im_yX10_look se_yX10_look (fun _ => (m_look _ S F_512 (upA A9 90 0 ((Int32.ofInt r9).toInt)) hSM _ _ (inX _) (inX _) (by rw [e100, hb3]; exact hb) U (fun b z1 z2 => by rw [e100] at z2; exact ⟨(hI.U2 b z1 z2).1.to (fun i y1 y2 => eA i (by omega) (by omega)), (hI.U2 b z1 z2).2⟩))) (sM_100 hSM) rfl rfl rfl ⟨rfl, rfl, by decide, by decide⟩ ⟨(by show k + 0 ≤ 601024; omega), (by show n + 0 ≤ 7293034; omega)⟩ (fun _ => Nat.le_of_ble_eq_true rfl) (fun v hv => by cases hv) (fun v hv => by simp only [List.mem_cons, List.not_mem_nil, or_false, Option.some.injEq, reduceCtorEq, false_or] at hv; rcases hv with rfl | rfl | rfl | rfl | rfl | rfl <;> first | exact (lS (sC_0 hSC)) | exact (lS (sM_100 hSM)) | exact (lS h90) | exact trivial) dL_law_530 (fun v_530 S_530 F_530 A_530 hP_530 => ?_)
    obtain ⟨rfl, t9, r2, rfl, hm1, hm⟩ := hP_530
    obtain ⟨rfl, -, -, e2, hm2, hm3⟩ := (hm.resolve_left (fun h => absurd hq1 h.2.1)).resolve_left (fun h => absurd hq2 h.2.2.1)
    rw [e100, hb3, ← er] at e2
    have h90r : A_530 90 0 = (Int32.ofInt r2).toInt := by rw [hm3 90 (by decide) (by decide), e2]; rfl
    have ht9 : F_530 100 0 = 0 := by rw [hm1, upF_at]
    have hI9 := L_look hI hq1 hq2 hc2 (fun b z1 z2 => (hc1 b z1 z2).to rfl (upA_other (by omega))) eA hm1 hm2 hm3
    show ab_J E 7 k n S F_530 A_530 533 [some (aX (.ref b)), some (aR 0), some (aR 100), some (aR 90), some (aI i), some (aI 0), none] [aI r2]
    refine j_istore C (lv' := [some (aX (.ref b)), some (aR 0), some (aR 100), some (aR 90), some (aI i), some (aI 0), some (aI r2)]) dL_law_533 (by decide) rfl ?_
    refine j_aload_n C dL_law_535 rfl rfl ?_
    refine j_callV C (vs := []) (st := []) cl_L_82 im_yX10_thrown se_yX10_thrown (fun _ => (m_thrown _ S F_530 A_530 hSM)) (sM_100 hSM) rfl rfl rfl ⟨rfl, rfl, by decide, by decide⟩ ⟨(by show k + 0 ≤ 601024; omega), (by show n + 0 ≤ 7293034; omega)⟩ (fun _ => Nat.le_of_ble_eq_true rfl) (fun v hv => by cases hv) (fun v hv => by simp only [List.mem_cons, List.not_mem_nil, or_false, Option.some.injEq, reduceCtorEq, false_or] at hv; rcases hv with rfl | rfl | rfl | rfl | rfl | rfl | rfl <;> first | exact (lS (sC_0 hSC)) | exact (lS (sM_100 hSM)) | exact (lS h90) | exact trivial) dL_law_536 (fun v_536 S_536 F_536 A_536 hP_536 => ?_)
    obtain ⟨rfl, rfl, rfl, rfl⟩ := hP_536
    rw [ht9]
    show ab_J E 7 k n S F_530 A_530 539 [some (aX (.ref b)), some (aR 0), some (aR 100), some (aR 90), some (aI i), some (aI 0), some (aI r2)] [aI 0]
    refine j_iload C dL_law_539 rfl ?_
    refine j_icmp_eq C (tgt := 546) dL_law_541 (by decide) ⟨by omega, by omega⟩ ⟨by omega, by omega⟩ (fun c541 => ?_) (fun c541 => ?_)
    · refine j_iload C dL_law_546 rfl ?_
      refine j_if_ne C (tgt := 563) dL_law_548 (by decide) ⟨by omega, by omega⟩ (fun c548 => ?_) (fun c548 => ?_)
      · exact absurd c548 (by decide)
      · refine j_aload_n C dL_law_551 rfl rfl ?_
        refine j_iconst C dL_law_552 ?_
        refine j_lald C h90 (by omega) (by omega) (by decide) dL_law_553 ?_
        refine j_iload C dL_law_554 rfl ?_
        refine j_i2l C dL_law_556 ?_
        refine j_lcmpE C h90r dL_law_557 ?_
        refine j_if_eq C (tgt := 563) dL_law_558 (by decide) ⟨by omega, by omega⟩ (fun c558 => ?_) (fun c558 => ?_)
        · refine j_goto C (tgt := 1175) dL_law_563 (by decide) ?_
          refine j_lv (lv' := [some (aX (.ref b)), some (aR 0), some (aR 100), some (aR 90), some (aI i), none, none]) ?_ ⟨rfl, rfl, rfl, rfl, rfl, trivial⟩
          exact j_widen (by omega) (by omega) (go _ _ _ _ _ hI9)
        · exact absurd c558 (by decide)
    · exact absurd c541 (by decide)

set_option maxHeartbeats 4000000 in
set_option maxRecDepth 100000 in
theorem lc_16 {E : ab_E} (C : ab_C E cL_law 7 yL_law room_1) {b L : Nat} {xs : Nat → Int32} (hX : ab_X E b L xs) (hL : L ≤ 3072) {k n : Nat} (hk : k + 5 ≤ 601024) (hn : n + 345 ≤ 7293034) {S : ab_St} {F : ab_Fn} {A : ab_An} {U : Int → bst} {nc : Nat → Nat} {T : Int} (hT : 0 ≤ T ∧ T ≤ 512) (hI : LI S F A U nc T) {i : Int} (hi : 0 ≤ i ∧ i + 6 ≤ L)
    (go : ∀ S2 F2 A2 U2 nc2, LI S2 F2 A2 U2 nc2 (T + 1) → ab_J E 7 (k + 5) (n + 345) S2 F2 A2 1175 [some (aX (.ref b)), some (aR 0), some (aR 100), some (aR 90), some (aI i), none, none] []) : ab_J E 7 k n S F A 976 [some (aX (.ref b)), some (aR 0), some (aR 100), some (aR 90), some (aI i), none, none] [] := by
  obtain ⟨⟨hSC, hSM, h90⟩, hLB, hLW, hLT, hLS, hLF⟩ := id hI
  have hb := hLB.2.1
  have hb3 := hLB.2.2.1
  have hw9 := hLW.2.1
  have hw3 := hLW.2.2.1
  have ht := hLT.2.1
  have ht3 := hLT.1
  refine j_aload_n C dL_law_976 rfl rfl ?_
  refine j_xload_n C dL_law_977 rfl rfl ?_
  refine j_iload C dL_law_978 rfl ?_
  refine j_iconst C dL_law_980 ?_
  refine j_iadd C dL_law_981 ?_
  refine j_sld C hX (j := i + 1) (by omega) (by omega) (by omega) dL_law_982 ?_
  refine j_aload_n C dL_law_983 rfl rfl ?_
  rcases (show (¬ (0 ≤ ((xs (i + 1).toNat).toInt) ∧ ((xs (i + 1).toNat).toInt) < F 3 2)) ∨ ((0 ≤ ((xs (i + 1).toNat).toInt) ∧ ((xs (i + 1).toNat).toInt) < F 3 2)) by by_cases q0 : (0 ≤ ((xs (i + 1).toNat).toInt) ∧ ((xs (i + 1).toNat).toInt) < F 3 2); (exact Or.inr (q0)); exact Or.inl q0) with hq | hq1
  · refine j_callSH C (vs := [aR 0, aI ((xs (i + 1).toNat).toInt), aR 90]) (st := []) clh_write (ab_t4 (List.mem_of_getElem? (i := 161) rfl) rfl) (fun _ => (h_write_IOB _ S F A (sC_0 hSC) h90 _ _ (fun _ => x_write _ S F A hSC nc hLW.1 hw9 _ (inX _) hq))) rfl ⟨rfl, rfl, by decide, by decide⟩ ⟨(by show k + 1 ≤ 601024; omega), (by show n + 6 ≤ 7293034; omega)⟩ (fun _ => Nat.le_of_ble_eq_true rfl) (fun v hv => by cases hv) (fun v hv => by simp only [List.mem_cons, List.not_mem_nil, or_false, Option.some.injEq, reduceCtorEq, false_or] at hv; rcases hv with rfl | rfl | rfl | rfl | rfl <;> first | exact (lS (sC_0 hSC)) | exact (lS (sM_100 hSM)) | exact (lS h90) | exact trivial) dL_law_984 (fun v_984 S_984 F_984 A_984 hP_984 => ?_)
    obtain ⟨rfl, rfl, rfl, rfl⟩ := hP_984
    show ab_J E 7 (k + 1) (n + 6) S F A 987 [some (aX (.ref b)), some (aR 0), some (aR 100), some (aR 90), some (aI i), none, none] [aI 1]
    refine j_istore C (lv' := [some (aX (.ref b)), some (aR 0), some (aR 100), some (aR 90), some (aI i), some (aI 1), none]) dL_law_987 (by decide) rfl ?_
    refine j_aload_n C dL_law_989 rfl rfl ?_
    refine j_xload_n C dL_law_990 rfl rfl ?_
    refine j_iload C dL_law_991 rfl ?_
    refine j_iconst C dL_law_993 ?_
    refine j_iadd C dL_law_994 ?_
    refine j_sld C hX (j := i + 1) (by omega) (by omega) (by omega) dL_law_995 ?_
    refine j_callV C (vs := [aI ((xs (i + 1).toNat).toInt)]) (st := []) cl_L_135 im_yX10_write se_yX10_write (fun _ => (m_write _ S F A hSM _ (inX _) (by show 0 ≤ F 100 18 ∧ F 100 18 ≤ 40; rw [hw3]; exact hw9) (fun w z1 z2 => by have y := hLW.2.2.2.1 w z1 (by omega); obtain ⟨q1, q2, q3, -⟩ := y; exact ⟨by omega, fun k y1 y2 => by have := q3 k y1 (by omega); omega⟩))) (sM_100 hSM) rfl rfl rfl ⟨rfl, rfl, by decide, by decide⟩ ⟨(by show (k + 1) + 0 ≤ 601024; omega), (by show (n + 6) + 0 ≤ 7293034; omega)⟩ (fun _ => Nat.le_of_ble_eq_true rfl) (fun v hv => by cases hv) (fun v hv => by simp only [List.mem_cons, List.not_mem_nil, or_false, Option.some.injEq, reduceCtorEq, false_or] at hv; rcases hv with rfl | rfl | rfl | rfl | rfl | rfl <;> first | exact (lS (sC_0 hSC)) | exact (lS (sM_100 hSM)) | exact (lS h90) | exact trivial) dL_law_996 (fun v_996 S_996 F_996 A_996 hP_996 => ?_)
    obtain ⟨rfl, hm⟩ := hP_996
    obtain ⟨rfl, rfl, r2, rfl⟩ : F_996 = upF F 100 0 1 ∧ A = A_996 ∧ ∃ r : Int, v_996 = some (aI r) := by rcases hm with h | h; exact ⟨h.1, h.2.1, h.2.2.2⟩; exact absurd h.1 (by rw [hw3]; exact hq)
    have ht9 : (upF F 100 0 1) 100 0 = 1 := rfl
    have hI9 := hI.to (F' := upF F 100 0 1) (A' := A) (fun i z => upF_o (by omega)) (fun k z => upF_ne (by omega)) (fun _ _ => rfl)
    show ab_J E 7 (k + 1) (n + 6) S (upF F 100 0 1) A 999 [some (aX (.ref b)), some (aR 0), some (aR 100), some (aR 90), some (aI i), some (aI 1), none] [aI r2]
    refine j_istore C (lv' := [some (aX (.ref b)), some (aR 0), some (aR 100), some (aR 90), some (aI i), some (aI 1), some (aI r2)]) dL_law_999 (by decide) rfl ?_
    refine j_aload_n C dL_law_1001 rfl rfl ?_
    refine j_callV C (vs := []) (st := []) cl_L_82 im_yX10_thrown se_yX10_thrown (fun _ => (m_thrown _ S (upF F 100 0 1) A hSM)) (sM_100 hSM) rfl rfl rfl ⟨rfl, rfl, by decide, by decide⟩ ⟨(by show (k + 1) + 0 ≤ 601024; omega), (by show (n + 6) + 0 ≤ 7293034; omega)⟩ (fun _ => Nat.le_of_ble_eq_true rfl) (fun v hv => by cases hv) (fun v hv => by simp only [List.mem_cons, List.not_mem_nil, or_false, Option.some.injEq, reduceCtorEq, false_or] at hv; rcases hv with rfl | rfl | rfl | rfl | rfl | rfl | rfl <;> first | exact (lS (sC_0 hSC)) | exact (lS (sM_100 hSM)) | exact (lS h90) | exact trivial) dL_law_1002 (fun v_1002 S_1002 F_1002 A_1002 hP_1002 => ?_)
    obtain ⟨rfl, rfl, rfl, rfl⟩ := hP_1002
    rw [ht9]
    show ab_J E 7 (k + 1) (n + 6) S (upF F 100 0 1) A 1005 [some (aX (.ref b)), some (aR 0), some (aR 100), some (aR 90), some (aI i), some (aI 1), some (aI r2)] [aI 1]
    refine j_iload C dL_law_1005 rfl ?_
    refine j_icmp_eq C (tgt := 1012) dL_law_1007 (by decide) ⟨by omega, by omega⟩ ⟨by omega, by omega⟩ (fun c1007 => ?_) (fun c1007 => ?_)
    · refine j_iload C dL_law_1012 rfl ?_
      refine j_if_ne C (tgt := 1029) dL_law_1014 (by decide) ⟨by omega, by omega⟩ (fun c1014 => ?_) (fun c1014 => ?_)
      · refine j_goto C (tgt := 1175) dL_law_1029 (by decide) ?_
        refine j_lv (lv' := [some (aX (.ref b)), some (aR 0), some (aR 100), some (aR 90), some (aI i), none, none]) ?_ ⟨rfl, rfl, rfl, rfl, rfl, trivial⟩
        exact j_widen (by omega) (by omega) (go _ _ _ _ _ hI9)
      · exact absurd c1014 (by decide)
    · exact absurd c1007 (by decide)
  · refine j_callSH C (vs := [aR 0, aI ((xs (i + 1).toNat).toInt), aR 90]) (st := []) clh_write (ab_t4 (List.mem_of_getElem? (i := 161) rfl) rfl) (fun _ => (h_write_ok _ S F A (sC_0 hSC) h90 _ _ (fun _ => c_write _ S F A hSC _ hq1 nc hLW.1 hw9 (hLW.2.2.2.1 _ hq1.1 hq1.2).2.1 (fun k z1 z2 => ((hLW.2.2.2.1 _ hq1.1 hq1.2).2.2.1 k z1 z2).2.2)) (fun v S' F' A' h => by obtain ⟨h1, r, e, -⟩ := h; exact ⟨⟨r, e⟩, h1 ▸ h90⟩))) rfl ⟨rfl, rfl, by decide, by decide⟩ ⟨(by show k + 0 ≤ 601024; omega), (by show n + 0 ≤ 7293034; omega)⟩ (fun _ => Nat.le_of_ble_eq_true rfl) (fun v hv => by cases hv) (fun v hv => by simp only [List.mem_cons, List.not_mem_nil, or_false, Option.some.injEq, reduceCtorEq, false_or] at hv; rcases hv with rfl | rfl | rfl | rfl | rfl <;> first | exact (lS (sC_0 hSC)) | exact (lS (sM_100 hSM)) | exact (lS h90) | exact trivial) dL_law_984 (fun v_984 S_984 F_984 A_984 hP_984 => ?_)
    obtain ⟨rfl, r9, A9, hc, rfl⟩ := hP_984
    obtain ⟨rfl, t8, hc4, rfl, hc6, hc7⟩ := hc
    obtain rfl := aI_inj hc4
    have eA : ∀ i, i ≠ 15 → i ≠ 90 → (upA A9 90 0 ((Int32.ofInt r9).toInt)) i = A i := fun i z2 z3 => (upA_other z3).trans (hc6 i z2)
    have hc8 : tp (upA A9 90 0 ((Int32.ofInt r9).toInt)) 15 r9 (wtx (A (350 + (((xs (i + 1).toNat).toInt)).toNat)) (A (400 + (((xs (i + 1).toNat).toInt)).toNat)) (nc (((xs (i + 1).toNat).toInt)).toNat : Nat)) := ⟨hc7.1, fun k z => by rw [upA_other (by decide)]; exact hc7.2 k z⟩
    show ab_J E 7 k n S (upF F 4 1 r9) (upA A9 90 0 ((Int32.ofInt r9).toInt)) 987 [some (aX (.ref b)), some (aR 0), some (aR 100), some (aR 90), some (aI i), none, none] [aI 0]
    refine j_istore C (lv' := [some (aX (.ref b)), some (aR 0), some (aR 100), some (aR 90), some (aI i), some (aI 0), none]) dL_law_987 (by decide) rfl ?_
    refine j_aload_n C dL_law_989 rfl rfl ?_
    refine j_xload_n C dL_law_990 rfl rfl ?_
    refine j_iload C dL_law_991 rfl ?_
    refine j_iconst C dL_law_993 ?_
    refine j_iadd C dL_law_994 ?_
    refine j_sld C hX (j := i + 1) (by omega) (by omega) (by omega) dL_law_995 ?_
    refine j_callV C (vs := [aI ((xs (i + 1).toNat).toInt)]) (st := []) cl_L_135 im_yX10_write se_yX10_write (fun _ => (m_write _ S (upF F 4 1 r9) (upA A9 90 0 ((Int32.ofInt r9).toInt)) hSM _ (inX _) (by show 0 ≤ F 100 18 ∧ F 100 18 ≤ 40; rw [hw3]; exact hw9) (fun w z1 z2 => by rw [eA 113 (by decide) (by decide), eA 114 (by decide) (by decide), eA 115 (by decide) (by decide)]; have z2 : w < F 100 18 := z2; have y := hLW.2.2.2.1 w z1 (by omega); obtain ⟨q1, q2, q3, -⟩ := y; exact ⟨by omega, fun k y1 y2 => by have := q3 k y1 (by omega); omega⟩))) (sM_100 hSM) rfl rfl rfl ⟨rfl, rfl, by decide, by decide⟩ ⟨(by show k + 0 ≤ 601024; omega), (by show n + 0 ≤ 7293034; omega)⟩ (fun _ => Nat.le_of_ble_eq_true rfl) (fun v hv => by cases hv) (fun v hv => by simp only [List.mem_cons, List.not_mem_nil, or_false, Option.some.injEq, reduceCtorEq, false_or] at hv; rcases hv with rfl | rfl | rfl | rfl | rfl | rfl <;> first | exact (lS (sC_0 hSC)) | exact (lS (sM_100 hSM)) | exact (lS h90) | exact trivial) dL_law_996 (fun v_996 S_996 F_996 A_996 hP_996 => ?_)
    obtain ⟨rfl, hm⟩ := hP_996
    obtain ⟨-, r2, rfl, hm1, hm2, hm3⟩ := hm.resolve_left (fun h => absurd (show _ ∧ _ < F 100 18 by rw [hw3]; exact hq1) h.2.2.1)
    obtain ⟨e2, -, hI9⟩ := L_write hI hq1 rfl eA hc8 hm1 hm2 hm3
    have h90r : A_996 90 0 = (Int32.ofInt r2).toInt := by rw [hm2 90 (by decide), e2]; rfl
    have ht9 : F_996 100 0 = 0 := by rw [hm1, upF_ne (by decide), upF_at]
    show ab_J E 7 k n S F_996 A_996 999 [some (aX (.ref b)), some (aR 0), some (aR 100), some (aR 90), some (aI i), some (aI 0), none] [aI r2]
    refine j_istore C (lv' := [some (aX (.ref b)), some (aR 0), some (aR 100), some (aR 90), some (aI i), some (aI 0), some (aI r2)]) dL_law_999 (by decide) rfl ?_
    refine j_aload_n C dL_law_1001 rfl rfl ?_
    refine j_callV C (vs := []) (st := []) cl_L_82 im_yX10_thrown se_yX10_thrown (fun _ => (m_thrown _ S F_996 A_996 hSM)) (sM_100 hSM) rfl rfl rfl ⟨rfl, rfl, by decide, by decide⟩ ⟨(by show k + 0 ≤ 601024; omega), (by show n + 0 ≤ 7293034; omega)⟩ (fun _ => Nat.le_of_ble_eq_true rfl) (fun v hv => by cases hv) (fun v hv => by simp only [List.mem_cons, List.not_mem_nil, or_false, Option.some.injEq, reduceCtorEq, false_or] at hv; rcases hv with rfl | rfl | rfl | rfl | rfl | rfl | rfl <;> first | exact (lS (sC_0 hSC)) | exact (lS (sM_100 hSM)) | exact (lS h90) | exact trivial) dL_law_1002 (fun v_1002 S_1002 F_1002 A_1002 hP_1002 => ?_)
    obtain ⟨rfl, rfl, rfl, rfl⟩ := hP_1002
    rw [ht9]
    show ab_J E 7 k n S F_996 A_996 1005 [some (aX (.ref b)), some (aR 0), some (aR 100), some (aR 90), some (aI i), some (aI 0), some (aI r2)] [aI 0]
    refine j_iload C dL_law_1005 rfl ?_
    refine j_icmp_eq C (tgt := 1012) dL_law_1007 (by decide) ⟨by omega, by omega⟩ ⟨by omega, by omega⟩ (fun c1007 => ?_) (fun c1007 => ?_)
    · refine j_iload C dL_law_1012 rfl ?_
      refine j_if_ne C (tgt := 1029) dL_law_1014 (by decide) ⟨by omega, by omega⟩ (fun c1014 => ?_) (fun c1014 => ?_)
      · exact absurd c1014 (by decide)
      · refine j_aload_n C dL_law_1017 rfl rfl ?_
        refine j_iconst C dL_law_1018 ?_
        refine j_lald C h90 (by omega) (by omega) (by decide) dL_law_1019 ?_
        refine j_iload C dL_law_1020 rfl ?_
        refine j_i2l C dL_law_1022 ?_
        refine j_lcmpE C h90r dL_law_1023 ?_
        refine j_if_eq C (tgt := 1029) dL_law_1024 (by decide) ⟨by omega, by omega⟩ (fun c1024 => ?_) (fun c1024 => ?_)
        · refine j_goto C (tgt := 1175) dL_law_1029 (by decide) ?_
          refine j_lv (lv' := [some (aX (.ref b)), some (aR 0), some (aR 100), some (aR 90), some (aI i), none, none]) ?_ ⟨rfl, rfl, rfl, rfl, rfl, trivial⟩
          exact j_widen (by omega) (by omega) (go _ _ _ _ _ hI9)
        · exact absurd c1024 (by decide)
    · exact absurd c1007 (by decide)

set_option maxHeartbeats 4000000 in
set_option maxRecDepth 100000 in
theorem lc_4 {E : ab_E} (C : ab_C E cL_law 7 yL_law room_1) {b L : Nat} {xs : Nat → Int32} (hX : ab_X E b L xs) (hL : L ≤ 3072) {k n : Nat} (hk : k + 5 ≤ 601024) (hn : n + 345 ≤ 7293034) {S : ab_St} {F : ab_Fn} {A : ab_An} {U : Int → bst} {nc : Nat → Nat} {T : Int} (hT : 0 ≤ T ∧ T ≤ 512) (hI : LI S F A U nc T) {i : Int} (hi : 0 ≤ i ∧ i + 6 ≤ L)
    (go : ∀ S2 F2 A2 U2 nc2, LI S2 F2 A2 U2 nc2 (T + 1) → ab_J E 7 (k + 5) (n + 345) S2 F2 A2 1175 [some (aX (.ref b)), some (aR 0), some (aR 100), some (aR 90), some (aI i), none, none] []) : ab_J E 7 k n S F A 374 [some (aX (.ref b)), some (aR 0), some (aR 100), some (aR 90), some (aI i), none, none] [] := by
  obtain ⟨⟨hSC, hSM, h90⟩, hLB, hLW, hLT, hLS, hLF⟩ := id hI
  have hb := hLB.2.1
  have hb3 := hLB.2.2.1
  have hw9 := hLW.2.1
  have hw3 := hLW.2.2.1
  have ht := hLT.2.1
  have ht3 := hLT.1
  refine j_aload_n C dL_law_374 rfl rfl ?_
  refine j_xload_n C dL_law_375 rfl rfl ?_
  refine j_iload C dL_law_376 rfl ?_
  refine j_iconst C dL_law_378 ?_
  refine j_iadd C dL_law_379 ?_
  refine j_sld C hX (j := i + 1) (by omega) (by omega) (by omega) dL_law_380 ?_
  refine j_xload_n C dL_law_381 rfl rfl ?_
  refine j_iload C dL_law_382 rfl ?_
  refine j_iconst C dL_law_384 ?_
  refine j_iadd C dL_law_385 ?_
  refine j_sld C hX (j := i + 2) (by omega) (by omega) (by omega) dL_law_386 ?_
  refine j_aload_n C dL_law_387 rfl rfl ?_
  rcases (show (¬ (0 ≤ ((xs (i + 1).toNat).toInt) ∧ ((xs (i + 1).toNat).toInt) ≤ 279)) ∨ ((0 ≤ ((xs (i + 1).toNat).toInt) ∧ ((xs (i + 1).toNat).toInt) ≤ 279) ∧ ¬ ((1 ≤ ((xs (i + 2).toNat).toInt) ∧ ((xs (i + 2).toNat).toInt) ≤ 1000) ∧ A 11 ((xs (i + 1).toNat).toInt) = 0)) ∨ ((0 ≤ ((xs (i + 1).toNat).toInt) ∧ ((xs (i + 1).toNat).toInt) ≤ 279) ∧ ((1 ≤ ((xs (i + 2).toNat).toInt) ∧ ((xs (i + 2).toNat).toInt) ≤ 1000) ∧ A 11 ((xs (i + 1).toNat).toInt) = 0) ∧ ¬ (¬ (bBest U ((xs (i + 1).toNat).toInt) ((xs (i + 2).toNat).toInt) (F 2 2) (-1) ∧ F 2 2 = 10))) ∨ ((0 ≤ ((xs (i + 1).toNat).toInt) ∧ ((xs (i + 1).toNat).toInt) ≤ 279) ∧ ((1 ≤ ((xs (i + 2).toNat).toInt) ∧ ((xs (i + 2).toNat).toInt) ≤ 1000) ∧ A 11 ((xs (i + 1).toNat).toInt) = 0) ∧ (¬ (bBest U ((xs (i + 1).toNat).toInt) ((xs (i + 2).toNat).toInt) (F 2 2) (-1) ∧ F 2 2 = 10))) by by_cases q0 : (0 ≤ ((xs (i + 1).toNat).toInt) ∧ ((xs (i + 1).toNat).toInt) ≤ 279); (by_cases q1 : ((1 ≤ ((xs (i + 2).toNat).toInt) ∧ ((xs (i + 2).toNat).toInt) ≤ 1000) ∧ A 11 ((xs (i + 1).toNat).toInt) = 0); (by_cases q2 : (¬ (bBest U ((xs (i + 1).toNat).toInt) ((xs (i + 2).toNat).toInt) (F 2 2) (-1) ∧ F 2 2 = 10)); (exact Or.inr (Or.inr (Or.inr (⟨q0, q1, q2⟩)))); exact Or.inr (Or.inr (Or.inl ⟨q0, q1, q2⟩))); exact Or.inr (Or.inl ⟨q0, q1⟩)); exact Or.inl q0) with hq | ⟨hq1, hq⟩ | ⟨hq1, hq2, hq⟩ | ⟨hq1, hq2, hq3⟩
  · refine j_callSH C (vs := [aR 0, aI ((xs (i + 1).toNat).toInt), aI ((xs (i + 2).toNat).toInt), aR 90]) (st := []) clh_tell (ab_t3 (List.mem_of_getElem? (i := 141) rfl) rfl) (fun _ => (h_tell_IOB _ S F A (sC_0 hSC) h90 _ _ _ (fun _ => x_tell1 _ S F A hSC _ _ (inX _) hq))) rfl ⟨rfl, rfl, by decide, by decide⟩ ⟨(by show k + 1 ≤ 601024; omega), (by show n + 6 ≤ 7293034; omega)⟩ (fun _ => Nat.le_of_ble_eq_true rfl) (fun v hv => by cases hv) (fun v hv => by simp only [List.mem_cons, List.not_mem_nil, or_false, Option.some.injEq, reduceCtorEq, false_or] at hv; rcases hv with rfl | rfl | rfl | rfl | rfl <;> first | exact (lS (sC_0 hSC)) | exact (lS (sM_100 hSM)) | exact (lS h90) | exact trivial) dL_law_388 (fun v_388 S_388 F_388 A_388 hP_388 => ?_)
    obtain ⟨rfl, rfl, rfl, rfl⟩ := hP_388
    show ab_J E 7 (k + 1) (n + 6) S F A 391 [some (aX (.ref b)), some (aR 0), some (aR 100), some (aR 90), some (aI i), none, none] [aI 1]
    refine j_istore C (lv' := [some (aX (.ref b)), some (aR 0), some (aR 100), some (aR 90), some (aI i), some (aI 1), none]) dL_law_391 (by decide) rfl ?_
    refine j_aload_n C dL_law_393 rfl rfl ?_
    refine j_xload_n C dL_law_394 rfl rfl ?_
    refine j_iload C dL_law_395 rfl ?_
    refine j_iconst C dL_law_397 ?_
    refine j_iadd C dL_law_398 ?_
    refine j_sld C hX (j := i + 1) (by omega) (by omega) (by omega) dL_law_399 ?_
    refine j_xload_n C dL_law_400 rfl rfl ?_
    refine j_iload C dL_law_401 rfl ?_
    refine j_iconst C dL_law_403 ?_
    refine j_iadd C dL_law_404 ?_
    refine j_sld C hX (j := i + 2) (by omega) (by omega) (by omega) dL_law_405 ?_
    refine j_callV C (vs := [aI ((xs (i + 1).toNat).toInt), aI ((xs (i + 2).toNat).toInt)]) (st := []) cl_L_92 im_yX10_tell se_yX10_tell (fun _ => (m_tell _ S F A hSM _ _ (inX _) (inX _) (by show 0 ≤ F 100 11 ∧ F 100 11 ≤ 10; rw [hb3]; exact hb) (fun k z1 z2 => by rw [hLS.1.1]; exact (hLS.2 k z1 z2).1) U hI.U2)) (sM_100 hSM) rfl rfl rfl ⟨rfl, rfl, by decide, by decide⟩ ⟨(by show (k + 1) + 0 ≤ 601024; omega), (by show (n + 6) + 0 ≤ 7293034; omega)⟩ (fun _ => Nat.le_of_ble_eq_true rfl) (fun v hv => by cases hv) (fun v hv => by simp only [List.mem_cons, List.not_mem_nil, or_false, Option.some.injEq, reduceCtorEq, false_or] at hv; rcases hv with rfl | rfl | rfl | rfl | rfl | rfl <;> first | exact (lS (sC_0 hSC)) | exact (lS (sM_100 hSM)) | exact (lS h90) | exact trivial) dL_law_406 (fun v_406 S_406 F_406 A_406 hP_406 => ?_)
    obtain ⟨rfl, t9, r2, rfl, hm⟩ := hP_406
    obtain ⟨rfl, rfl⟩ : F_406 = upF F 100 0 1 ∧ A = A_406 := by rcases hm with h | h | h | h; exact ⟨h.2.2.1, h.2.2.2⟩; exact absurd h.2.1 hq; exact absurd h.2.1 hq; exact absurd h.2.1 hq
    have ht9 : (upF F 100 0 1) 100 0 = 1 := rfl
    have hI9 := hI.to (F' := upF F 100 0 1) (A' := A) (fun i z => upF_o (by omega)) (fun k z => upF_ne (by omega)) (fun _ _ => rfl)
    show ab_J E 7 (k + 1) (n + 6) S (upF F 100 0 1) A 409 [some (aX (.ref b)), some (aR 0), some (aR 100), some (aR 90), some (aI i), some (aI 1), none] [aI r2]
    refine j_istore C (lv' := [some (aX (.ref b)), some (aR 0), some (aR 100), some (aR 90), some (aI i), some (aI 1), some (aI r2)]) dL_law_409 (by decide) rfl ?_
    refine j_aload_n C dL_law_411 rfl rfl ?_
    refine j_callV C (vs := []) (st := []) cl_L_82 im_yX10_thrown se_yX10_thrown (fun _ => (m_thrown _ S (upF F 100 0 1) A hSM)) (sM_100 hSM) rfl rfl rfl ⟨rfl, rfl, by decide, by decide⟩ ⟨(by show (k + 1) + 0 ≤ 601024; omega), (by show (n + 6) + 0 ≤ 7293034; omega)⟩ (fun _ => Nat.le_of_ble_eq_true rfl) (fun v hv => by cases hv) (fun v hv => by simp only [List.mem_cons, List.not_mem_nil, or_false, Option.some.injEq, reduceCtorEq, false_or] at hv; rcases hv with rfl | rfl | rfl | rfl | rfl | rfl | rfl <;> first | exact (lS (sC_0 hSC)) | exact (lS (sM_100 hSM)) | exact (lS h90) | exact trivial) dL_law_412 (fun v_412 S_412 F_412 A_412 hP_412 => ?_)
    obtain ⟨rfl, rfl, rfl, rfl⟩ := hP_412
    rw [ht9]
    show ab_J E 7 (k + 1) (n + 6) S (upF F 100 0 1) A 415 [some (aX (.ref b)), some (aR 0), some (aR 100), some (aR 90), some (aI i), some (aI 1), some (aI r2)] [aI 1]
    refine j_iload C dL_law_415 rfl ?_
    refine j_icmp_eq C (tgt := 422) dL_law_417 (by decide) ⟨by omega, by omega⟩ ⟨by omega, by omega⟩ (fun c417 => ?_) (fun c417 => ?_)
    · refine j_iload C dL_law_422 rfl ?_
      refine j_if_ne C (tgt := 439) dL_law_424 (by decide) ⟨by omega, by omega⟩ (fun c424 => ?_) (fun c424 => ?_)
      · refine j_goto C (tgt := 1175) dL_law_439 (by decide) ?_
        refine j_lv (lv' := [some (aX (.ref b)), some (aR 0), some (aR 100), some (aR 90), some (aI i), none, none]) ?_ ⟨rfl, rfl, rfl, rfl, rfl, trivial⟩
        exact j_widen (by omega) (by omega) (go _ _ _ _ _ hI9)
      · exact absurd c424 (by decide)
    · exact absurd c417 (by decide)
  · refine j_callSH C (vs := [aR 0, aI ((xs (i + 1).toNat).toInt), aI ((xs (i + 2).toNat).toInt), aR 90]) (st := []) clh_tell (ab_t3 (List.mem_of_getElem? (i := 141) rfl) rfl) (fun _ => (h_tell_IAE _ S F A (sC_0 hSC) h90 _ _ _ (fun _ => x_tell2 _ S F A hSC _ _ hq1 (inX _) (hLS.2 _ hq1.1 (by omega)).1 (fun h => hq ⟨⟨h.1, h.2.1⟩, h.2.2⟩)))) rfl ⟨rfl, rfl, by decide, by decide⟩ ⟨(by show k + 1 ≤ 601024; omega), (by show n + 6 ≤ 7293034; omega)⟩ (fun _ => Nat.le_of_ble_eq_true rfl) (fun v hv => by cases hv) (fun v hv => by simp only [List.mem_cons, List.not_mem_nil, or_false, Option.some.injEq, reduceCtorEq, false_or] at hv; rcases hv with rfl | rfl | rfl | rfl | rfl <;> first | exact (lS (sC_0 hSC)) | exact (lS (sM_100 hSM)) | exact (lS h90) | exact trivial) dL_law_388 (fun v_388 S_388 F_388 A_388 hP_388 => ?_)
    obtain ⟨rfl, rfl, rfl, rfl⟩ := hP_388
    show ab_J E 7 (k + 1) (n + 6) S F A 391 [some (aX (.ref b)), some (aR 0), some (aR 100), some (aR 90), some (aI i), none, none] [aI 2]
    refine j_istore C (lv' := [some (aX (.ref b)), some (aR 0), some (aR 100), some (aR 90), some (aI i), some (aI 2), none]) dL_law_391 (by decide) rfl ?_
    refine j_aload_n C dL_law_393 rfl rfl ?_
    refine j_xload_n C dL_law_394 rfl rfl ?_
    refine j_iload C dL_law_395 rfl ?_
    refine j_iconst C dL_law_397 ?_
    refine j_iadd C dL_law_398 ?_
    refine j_sld C hX (j := i + 1) (by omega) (by omega) (by omega) dL_law_399 ?_
    refine j_xload_n C dL_law_400 rfl rfl ?_
    refine j_iload C dL_law_401 rfl ?_
    refine j_iconst C dL_law_403 ?_
    refine j_iadd C dL_law_404 ?_
    refine j_sld C hX (j := i + 2) (by omega) (by omega) (by omega) dL_law_405 ?_
    refine j_callV C (vs := [aI ((xs (i + 1).toNat).toInt), aI ((xs (i + 2).toNat).toInt)]) (st := []) cl_L_92 im_yX10_tell se_yX10_tell (fun _ => (m_tell _ S F A hSM _ _ (inX _) (inX _) (by show 0 ≤ F 100 11 ∧ F 100 11 ≤ 10; rw [hb3]; exact hb) (fun k z1 z2 => by rw [hLS.1.1]; exact (hLS.2 k z1 z2).1) U hI.U2)) (sM_100 hSM) rfl rfl rfl ⟨rfl, rfl, by decide, by decide⟩ ⟨(by show (k + 1) + 0 ≤ 601024; omega), (by show (n + 6) + 0 ≤ 7293034; omega)⟩ (fun _ => Nat.le_of_ble_eq_true rfl) (fun v hv => by cases hv) (fun v hv => by simp only [List.mem_cons, List.not_mem_nil, or_false, Option.some.injEq, reduceCtorEq, false_or] at hv; rcases hv with rfl | rfl | rfl | rfl | rfl | rfl <;> first | exact (lS (sC_0 hSC)) | exact (lS (sM_100 hSM)) | exact (lS h90) | exact trivial) dL_law_406 (fun v_406 S_406 F_406 A_406 hP_406 => ?_)
    obtain ⟨rfl, t9, r2, rfl, hm⟩ := hP_406
    obtain ⟨rfl, rfl⟩ : F_406 = upF F 100 0 2 ∧ A = A_406 := by rcases hm with h | h | h | h; exact absurd hq1 h.2.1; exact ⟨h.2.2.2.1, h.2.2.2.2⟩; exact absurd (by rw [← hLS.1.1]; exact h.2.2.1) hq; exact absurd (by rw [← hLS.1.1]; exact h.2.2.1) hq
    have ht9 : (upF F 100 0 2) 100 0 = 2 := rfl
    have hI9 := hI.to (F' := upF F 100 0 2) (A' := A) (fun i z => upF_o (by omega)) (fun k z => upF_ne (by omega)) (fun _ _ => rfl)
    show ab_J E 7 (k + 1) (n + 6) S (upF F 100 0 2) A 409 [some (aX (.ref b)), some (aR 0), some (aR 100), some (aR 90), some (aI i), some (aI 2), none] [aI r2]
    refine j_istore C (lv' := [some (aX (.ref b)), some (aR 0), some (aR 100), some (aR 90), some (aI i), some (aI 2), some (aI r2)]) dL_law_409 (by decide) rfl ?_
    refine j_aload_n C dL_law_411 rfl rfl ?_
    refine j_callV C (vs := []) (st := []) cl_L_82 im_yX10_thrown se_yX10_thrown (fun _ => (m_thrown _ S (upF F 100 0 2) A hSM)) (sM_100 hSM) rfl rfl rfl ⟨rfl, rfl, by decide, by decide⟩ ⟨(by show (k + 1) + 0 ≤ 601024; omega), (by show (n + 6) + 0 ≤ 7293034; omega)⟩ (fun _ => Nat.le_of_ble_eq_true rfl) (fun v hv => by cases hv) (fun v hv => by simp only [List.mem_cons, List.not_mem_nil, or_false, Option.some.injEq, reduceCtorEq, false_or] at hv; rcases hv with rfl | rfl | rfl | rfl | rfl | rfl | rfl <;> first | exact (lS (sC_0 hSC)) | exact (lS (sM_100 hSM)) | exact (lS h90) | exact trivial) dL_law_412 (fun v_412 S_412 F_412 A_412 hP_412 => ?_)
    obtain ⟨rfl, rfl, rfl, rfl⟩ := hP_412
    rw [ht9]
    show ab_J E 7 (k + 1) (n + 6) S (upF F 100 0 2) A 415 [some (aX (.ref b)), some (aR 0), some (aR 100), some (aR 90), some (aI i), some (aI 2), some (aI r2)] [aI 2]
    refine j_iload C dL_law_415 rfl ?_
    refine j_icmp_eq C (tgt := 422) dL_law_417 (by decide) ⟨by omega, by omega⟩ ⟨by omega, by omega⟩ (fun c417 => ?_) (fun c417 => ?_)
    · refine j_iload C dL_law_422 rfl ?_
      refine j_if_ne C (tgt := 439) dL_law_424 (by decide) ⟨by omega, by omega⟩ (fun c424 => ?_) (fun c424 => ?_)
      · refine j_goto C (tgt := 1175) dL_law_439 (by decide) ?_
        refine j_lv (lv' := [some (aX (.ref b)), some (aR 0), some (aR 100), some (aR 90), some (aI i), none, none]) ?_ ⟨rfl, rfl, rfl, rfl, rfl, trivial⟩
        exact j_widen (by omega) (by omega) (go _ _ _ _ _ hI9)
      · exact absurd c424 (by decide)
    · exact absurd c417 (by decide)
  · refine j_callSH C (vs := [aR 0, aI ((xs (i + 1).toNat).toInt), aI ((xs (i + 2).toNat).toInt), aR 90]) (st := []) clh_tell (ab_t3 (List.mem_of_getElem? (i := 141) rfl) rfl) (fun _ => (h_tell_UOE _ S F A (sC_0 hSC) h90 _ _ _ (fun _ => x_tell3 _ S F A hSC _ _ hq1 hq2.1 hq2.2 hLB.1 hb U hI.U1 (Classical.not_not.mp hq).1 (Classical.not_not.mp hq).2 (fun r h => bBest_one h (Classical.not_not.mp hq).1)))) rfl ⟨rfl, rfl, by decide, by decide⟩ ⟨(by show k + 1 ≤ 601024; omega), (by show n + 6 ≤ 7293034; omega)⟩ (fun _ => Nat.le_of_ble_eq_true rfl) (fun v hv => by cases hv) (fun v hv => by simp only [List.mem_cons, List.not_mem_nil, or_false, Option.some.injEq, reduceCtorEq, false_or] at hv; rcases hv with rfl | rfl | rfl | rfl | rfl <;> first | exact (lS (sC_0 hSC)) | exact (lS (sM_100 hSM)) | exact (lS h90) | exact trivial) dL_law_388 (fun v_388 S_388 F_388 A_388 hP_388 => ?_)
    obtain ⟨rfl, rfl, rfl, rfl⟩ := hP_388
    show ab_J E 7 (k + 1) (n + 6) S F A 391 [some (aX (.ref b)), some (aR 0), some (aR 100), some (aR 90), some (aI i), none, none] [aI 3]
    refine j_istore C (lv' := [some (aX (.ref b)), some (aR 0), some (aR 100), some (aR 90), some (aI i), some (aI 3), none]) dL_law_391 (by decide) rfl ?_
    refine j_aload_n C dL_law_393 rfl rfl ?_
    refine j_xload_n C dL_law_394 rfl rfl ?_
    refine j_iload C dL_law_395 rfl ?_
    refine j_iconst C dL_law_397 ?_
    refine j_iadd C dL_law_398 ?_
    refine j_sld C hX (j := i + 1) (by omega) (by omega) (by omega) dL_law_399 ?_
    refine j_xload_n C dL_law_400 rfl rfl ?_
    refine j_iload C dL_law_401 rfl ?_
    refine j_iconst C dL_law_403 ?_
    refine j_iadd C dL_law_404 ?_
    refine j_sld C hX (j := i + 2) (by omega) (by omega) (by omega) dL_law_405 ?_
    refine j_callV C (vs := [aI ((xs (i + 1).toNat).toInt), aI ((xs (i + 2).toNat).toInt)]) (st := []) cl_L_92 im_yX10_tell se_yX10_tell (fun _ => (m_tell _ S F A hSM _ _ (inX _) (inX _) (by show 0 ≤ F 100 11 ∧ F 100 11 ≤ 10; rw [hb3]; exact hb) (fun k z1 z2 => by rw [hLS.1.1]; exact (hLS.2 k z1 z2).1) U hI.U2)) (sM_100 hSM) rfl rfl rfl ⟨rfl, rfl, by decide, by decide⟩ ⟨(by show (k + 1) + 0 ≤ 601024; omega), (by show (n + 6) + 0 ≤ 7293034; omega)⟩ (fun _ => Nat.le_of_ble_eq_true rfl) (fun v hv => by cases hv) (fun v hv => by simp only [List.mem_cons, List.not_mem_nil, or_false, Option.some.injEq, reduceCtorEq, false_or] at hv; rcases hv with rfl | rfl | rfl | rfl | rfl | rfl <;> first | exact (lS (sC_0 hSC)) | exact (lS (sM_100 hSM)) | exact (lS h90) | exact trivial) dL_law_406 (fun v_406 S_406 F_406 A_406 hP_406 => ?_)
    obtain ⟨rfl, t9, r2, rfl, hm⟩ := hP_406
    obtain ⟨rfl, rfl⟩ : F_406 = upF F 100 0 3 ∧ A = A_406 := by rcases hm with h | h | h | h; exact absurd hq1 h.2.1; exact absurd (by rw [hLS.1.1]; exact hq2) h.2.2.1; exact ⟨h.2.2.2.2.2.1, h.2.2.2.2.2.2⟩; (exfalso; obtain ⟨-, -, -, h4, -⟩ := h; rw [hb3] at h4; rcases h4 with q | q; (have := (Classical.not_not.mp hq).2; omega); (have := bBest_one q.1 (Classical.not_not.mp hq).1; omega))
    have ht9 : (upF F 100 0 3) 100 0 = 3 := rfl
    have hI9 := hI.to (F' := upF F 100 0 3) (A' := A) (fun i z => upF_o (by omega)) (fun k z => upF_ne (by omega)) (fun _ _ => rfl)
    show ab_J E 7 (k + 1) (n + 6) S (upF F 100 0 3) A 409 [some (aX (.ref b)), some (aR 0), some (aR 100), some (aR 90), some (aI i), some (aI 3), none] [aI r2]
    refine j_istore C (lv' := [some (aX (.ref b)), some (aR 0), some (aR 100), some (aR 90), some (aI i), some (aI 3), some (aI r2)]) dL_law_409 (by decide) rfl ?_
    refine j_aload_n C dL_law_411 rfl rfl ?_
    refine j_callV C (vs := []) (st := []) cl_L_82 im_yX10_thrown se_yX10_thrown (fun _ => (m_thrown _ S (upF F 100 0 3) A hSM)) (sM_100 hSM) rfl rfl rfl ⟨rfl, rfl, by decide, by decide⟩ ⟨(by show (k + 1) + 0 ≤ 601024; omega), (by show (n + 6) + 0 ≤ 7293034; omega)⟩ (fun _ => Nat.le_of_ble_eq_true rfl) (fun v hv => by cases hv) (fun v hv => by simp only [List.mem_cons, List.not_mem_nil, or_false, Option.some.injEq, reduceCtorEq, false_or] at hv; rcases hv with rfl | rfl | rfl | rfl | rfl | rfl | rfl <;> first | exact (lS (sC_0 hSC)) | exact (lS (sM_100 hSM)) | exact (lS h90) | exact trivial) dL_law_412 (fun v_412 S_412 F_412 A_412 hP_412 => ?_)
    obtain ⟨rfl, rfl, rfl, rfl⟩ := hP_412
    rw [ht9]
    show ab_J E 7 (k + 1) (n + 6) S (upF F 100 0 3) A 415 [some (aX (.ref b)), some (aR 0), some (aR 100), some (aR 90), some (aI i), some (aI 3), some (aI r2)] [aI 3]
    refine j_iload C dL_law_415 rfl ?_
    refine j_icmp_eq C (tgt := 422) dL_law_417 (by decide) ⟨by omega, by omega⟩ ⟨by omega, by omega⟩ (fun c417 => ?_) (fun c417 => ?_)
    · refine j_iload C dL_law_422 rfl ?_
      refine j_if_ne C (tgt := 439) dL_law_424 (by decide) ⟨by omega, by omega⟩ (fun c424 => ?_) (fun c424 => ?_)
      · refine j_goto C (tgt := 1175) dL_law_439 (by decide) ?_
        refine j_lv (lv' := [some (aX (.ref b)), some (aR 0), some (aR 100), some (aR 90), some (aI i), none, none]) ?_ ⟨rfl, rfl, rfl, rfl, rfl, trivial⟩
        exact j_widen (by omega) (by omega) (go _ _ _ _ _ hI9)
      · exact absurd c424 (by decide)
    · exact absurd c417 (by decide)
  · refine j_callSH C (vs := [aR 0, aI ((xs (i + 1).toNat).toInt), aI ((xs (i + 2).toNat).toInt), aR 90]) (st := []) clh_tell (ab_t3 (List.mem_of_getElem? (i := 141) rfl) rfl) (fun _ => (h_tell_ok _ S F A (sC_0 hSC) h90 _ _ _ (fun _ => c_tell _ S F A hSC _ _ hq1 hq2.1 hq2.2 hLB.1 hb U hI.U1 (fun q => by have y := hLB.2.2.2.2.1 (F 2 2).toNat (by omega) (by omega); exact ⟨y.1, y.2, hLB.2.2.2.2.2.1, hLB.2.2.2.2.2.2⟩) (fun q => by by_cases z : F 2 2 < 10; exact z; exact absurd ⟨q, by omega⟩ hq3)) (fun v S' F' A' h => by obtain ⟨r, e, -, -, -, -, h6⟩ := h; exact ⟨⟨r, e⟩, by rcases h6 with q | q; (rw [q.2.2.2.2.2.2 90 (by decide) (by decide) (by omega) (by omega)]; exact h90); (rw [q.2.2.2.2]; exact h90)⟩))) rfl ⟨rfl, rfl, by decide, by decide⟩ ⟨(by show k + 3 ≤ 601024; omega), (by show n + 345 ≤ 7293034; omega)⟩ (fun _ => Nat.le_of_ble_eq_true rfl) (fun v hv => by cases hv) (fun v hv => by simp only [List.mem_cons, List.not_mem_nil, or_false, Option.some.injEq, reduceCtorEq, false_or] at hv; rcases hv with rfl | rfl | rfl | rfl | rfl <;> first | exact (lS (sC_0 hSC)) | exact (lS (sM_100 hSM)) | exact (lS h90) | exact trivial) dL_law_388 (fun v_388 S_388 F_388 A_388 hP_388 => ?_)
    obtain ⟨rfl, r9, A9, hc, rfl⟩ := hP_388
    obtain ⟨r8, hc0, hc1, hc2, hc3, hc4, hc5⟩ := hc
    obtain rfl := aI_inj hc0
    have hSx : ∀ i, i ≠ 2 → i ≠ 590 → (i < 200 ∨ 230 ≤ i) → S_388 i = S i := fun i z1 z2 z3 => by rcases hc5 with q | q; exact q.2.2.2.2.2.2 i z1 z2 (by omega) (by omega); rw [q.2.2.2.2]
    obtain ⟨hSC_S_388, hSM_S_388, h90_S_388⟩ : LO S_388 := hI.1.to (fun j z1 z2 z3 => hSx j z2 (by omega) (by omega)) (fun j z1 z2 => hSx j (by omega) (by omega) (by omega))
    have hr0 : 0 ≤ r9 ∧ r9 < 10 := by rcases hc5 with q | q; (have := q.2.1; have := q.2.2.1; omega); (have := q.2.1; omega)
    have e100 : F_388 100 = F 100 := hc3 100 (by decide) (by decide) (by omega)
    have eA : ∀ i, i ≠ 220 + r9.toNat → i ≠ 90 → (upA A9 90 0 ((Int32.ofInt r9).toInt)) i = A i := fun i z2 z3 => (upA_other z3).trans (hc2 i z2)
    show ab_J E 7 (k + 3) (n + 345) S_388 F_388 (upA A9 90 0 ((Int32.ofInt r9).toInt)) 391 [some (aX (.ref b)), some (aR 0), some (aR 100), some (aR 90), some (aI i), none, none] [aI 0]
    refine j_istore C (lv' := [some (aX (.ref b)), some (aR 0), some (aR 100), some (aR 90), some (aI i), some (aI 0), none]) dL_law_391 (by decide) rfl ?_
    refine j_aload_n C dL_law_393 rfl rfl ?_
    refine j_xload_n C dL_law_394 rfl rfl ?_
    refine j_iload C dL_law_395 rfl ?_
    refine j_iconst C dL_law_397 ?_
    refine j_iadd C dL_law_398 ?_
    refine j_sld C hX (j := i + 1) (by omega) (by omega) (by omega) dL_law_399 ?_
    refine j_xload_n C dL_law_400 rfl rfl ?_
    refine j_iload C dL_law_401 rfl ?_
    refine j_iconst C dL_law_403 ?_
    refine j_iadd C dL_law_404 ?_
    refine j_sld C hX (j := i + 2) (by omega) (by omega) (by omega) dL_law_405 ?_
    refine j_callV C (vs := [aI ((xs (i + 1).toNat).toInt), aI ((xs (i + 2).toNat).toInt)]) (st := []) cl_L_92 im_yX10_tell se_yX10_tell (fun _ => (m_tell _ S_388 F_388 (upA A9 90 0 ((Int32.ofInt r9).toInt)) hSM_S_388 _ _ (inX _) (inX _) (by rw [e100, hb3]; exact hb) (fun k z1 z2 => by rw [eA 101 (by omega) (by decide), hLS.1.1]; exact (hLS.2 k z1 z2).1) U (fun b z1 z2 => by rw [e100] at z2; exact ⟨(hI.U2 b z1 z2).1.to (fun i y1 y2 => eA i (by omega) (by omega)), (hI.U2 b z1 z2).2⟩))) (sM_100 hSM_S_388) rfl rfl rfl ⟨rfl, rfl, by decide, by decide⟩ ⟨(by show (k + 3) + 0 ≤ 601024; omega), (by show (n + 345) + 0 ≤ 7293034; omega)⟩ (fun _ => Nat.le_of_ble_eq_true rfl) (fun v hv => by cases hv) (fun v hv => by simp only [List.mem_cons, List.not_mem_nil, or_false, Option.some.injEq, reduceCtorEq, false_or] at hv; rcases hv with rfl | rfl | rfl | rfl | rfl | rfl <;> first | exact (lS (sC_0 hSC_S_388)) | exact (lS (sM_100 hSM_S_388)) | exact (lS h90_S_388) | exact trivial) dL_law_406 (fun v_406 S_406 F_406 A_406 hP_406 => ?_)
    obtain ⟨rfl, t9, r2, rfl, hm⟩ := hP_406
    rw [e100, eA 101 (by omega) (by decide), hLS.1.1, hb3] at hm
    obtain ⟨-, -, -, hm4, hm5⟩ := ((hm.resolve_left (fun h => absurd hq1 h.2.1)).resolve_left (fun h => absurd hq2 h.2.2.1)).resolve_left (fun h => absurd ⟨h.2.2.2.1, h.2.2.2.2.1⟩ hq3)
    have e2 : r2 = r9 := by rcases hm4 with q | q <;> rcases hc5 with y | y; exact q.2.2.1.trans y.2.2.1.symm; (exfalso; have := bBest_one q.1 y.1; have := y.2.1; omega); (exfalso; have := bBest_one q.1 y.1; have := q.2.1; omega); exact bBest_one q.1 y.1
    subst e2
    have hI9 := L_tell (S' := S_388) (F2 := F_406) (A2 := A_406) hI hT.1 hq1 hq2.1 hr0 (hc1.to rfl (upA_other (by omega))) eA hc3 hc4 (by rcases hm4 with q | q <;> rcases hc5 with y | y; exact Or.inl ⟨y.2.2.1, y.2.2.2.1, y.2.2.2.2.1, y.2.2.2.2.2.1, y.2.2.2.2.2.2, by rw [q.2.2.2, hb3]⟩; (exfalso; have := bBest_one q.1 y.1; have := y.2.1; omega); (exfalso; have := bBest_one q.1 y.1; have := q.2.1; omega); exact Or.inr ⟨y.2.1.2, y.2.2.1, y.2.2.2.1, y.2.2.2.2, q.2.2⟩) hm5
    have h90r : A_406 90 0 = (Int32.ofInt r2).toInt := by rw [hm5, upA_other (by decide), upA_other (by decide), upA_other (by decide), upA_other (by decide), setRow_other (by decide)]; rfl
    have ht9 : F_406 100 0 = 0 := by rcases hm4 with q | q; rw [q.2.2.2, upF_ne (by decide), upF_at]; rw [q.2.2, upF_ne (by decide), upF_at]
    show ab_J E 7 (k + 3) (n + 345) S_388 F_406 A_406 409 [some (aX (.ref b)), some (aR 0), some (aR 100), some (aR 90), some (aI i), some (aI 0), none] [aI r2]
    refine j_istore C (lv' := [some (aX (.ref b)), some (aR 0), some (aR 100), some (aR 90), some (aI i), some (aI 0), some (aI r2)]) dL_law_409 (by decide) rfl ?_
    refine j_aload_n C dL_law_411 rfl rfl ?_
    refine j_callV C (vs := []) (st := []) cl_L_82 im_yX10_thrown se_yX10_thrown (fun _ => (m_thrown _ S_388 F_406 A_406 hSM_S_388)) (sM_100 hSM_S_388) rfl rfl rfl ⟨rfl, rfl, by decide, by decide⟩ ⟨(by show (k + 3) + 0 ≤ 601024; omega), (by show (n + 345) + 0 ≤ 7293034; omega)⟩ (fun _ => Nat.le_of_ble_eq_true rfl) (fun v hv => by cases hv) (fun v hv => by simp only [List.mem_cons, List.not_mem_nil, or_false, Option.some.injEq, reduceCtorEq, false_or] at hv; rcases hv with rfl | rfl | rfl | rfl | rfl | rfl | rfl <;> first | exact (lS (sC_0 hSC_S_388)) | exact (lS (sM_100 hSM_S_388)) | exact (lS h90_S_388) | exact trivial) dL_law_412 (fun v_412 S_412 F_412 A_412 hP_412 => ?_)
    obtain ⟨rfl, rfl, rfl, rfl⟩ := hP_412
    rw [ht9]
    show ab_J E 7 (k + 3) (n + 345) S_388 F_406 A_406 415 [some (aX (.ref b)), some (aR 0), some (aR 100), some (aR 90), some (aI i), some (aI 0), some (aI r2)] [aI 0]
    refine j_iload C dL_law_415 rfl ?_
    refine j_icmp_eq C (tgt := 422) dL_law_417 (by decide) ⟨by omega, by omega⟩ ⟨by omega, by omega⟩ (fun c417 => ?_) (fun c417 => ?_)
    · refine j_iload C dL_law_422 rfl ?_
      refine j_if_ne C (tgt := 439) dL_law_424 (by decide) ⟨by omega, by omega⟩ (fun c424 => ?_) (fun c424 => ?_)
      · exact absurd c424 (by decide)
      · refine j_aload_n C dL_law_427 rfl rfl ?_
        refine j_iconst C dL_law_428 ?_
        refine j_lald C h90_S_388 (by omega) (by omega) (by decide) dL_law_429 ?_
        refine j_iload C dL_law_430 rfl ?_
        refine j_i2l C dL_law_432 ?_
        refine j_lcmpE C h90r dL_law_433 ?_
        refine j_if_eq C (tgt := 439) dL_law_434 (by decide) ⟨by omega, by omega⟩ (fun c434 => ?_) (fun c434 => ?_)
        · refine j_goto C (tgt := 1175) dL_law_439 (by decide) ?_
          refine j_lv (lv' := [some (aX (.ref b)), some (aR 0), some (aR 100), some (aR 90), some (aI i), none, none]) ?_ ⟨rfl, rfl, rfl, rfl, rfl, trivial⟩
          exact j_widen (by omega) (by omega) (go _ _ _ _ _ hI9)
        · exact absurd c434 (by decide)
    · exact absurd c417 (by decide)
