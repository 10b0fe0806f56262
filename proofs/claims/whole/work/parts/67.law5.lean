section
variable {S S' : ab_St} {F F1 F2 : ab_Fn} {A A1 A2 : ab_An} {U : Int → bst} {nc : Nat → Nat} {T : Int}
theorem L_readX {r : Int} (h : LI S F A U nc T) (a1 : F2 0 12 = r) (a2 : ∀ k, k ≠ 12 → F2 0 k = F 0 k) (a3 : F2 4 1 = 0) (a4 : ∀ i, i ≠ 0 → i ≠ 4 → i ≠ 5 → i ≠ 6 → i ≠ 100 → F2 i = F i) (a5 : F2 100 26 = 0) (a6 : F2 100 31 = r) (a7 : ∀ k, (k = 5 ∨ k = 11 ∨ k = 12 ∨ k = 18) → F2 100 k = F 100 k) (a8 : ∀ i, i ≠ 16 → i ≠ 17 → i ≠ 90 → i ≠ 133 → i ≠ 134 → A2 i = A i) (hr : inR r) : LI S F2 A2 U nc (T + 1) := by
  obtain ⟨f1, f2, f3, f4, f5, f6⟩ := h.2.2.2.2.2
  refine ⟨h.1, h.2.1.to (fun _ _ => rfl) (by rw [a4 2 (by decide) (by decide) (by decide) (by decide) (by decide)]) (a7 11 (by omega)) (fun i z1 z2 => a4 i (by omega) (by omega) (by omega) (by omega) (by omega)) (fun i z => a8 i (by omega) (by omega) (by omega) (by omega) (by omega)),
    h.2.2.1.to (fun _ _ => rfl) (by rw [a4 3 (by decide) (by decide) (by decide) (by decide) (by decide)]) (a7 18 (by omega)) (fun i z1 z2 => a4 i (by omega) (by omega) (by omega) (by omega) (by omega)) (fun i z => a8 i (by omega) (by omega) (by omega) (by omega) (by omega)),
    ⟨a5.trans a3.symm, by rw [a3]; omega, fun i z1 z2 => by rw [a3] at z2; omega⟩, h.2.2.2.2.1.to (fun i z => a8 i (by omega) (by omega) (by omega) (by omega) (by omega)), ?_⟩
  unfold LF
  rw [a1, a2 10 (by decide), a2 11 (by decide), a6, a7 5 (by omega), a7 12 (by omega)]
  exact ⟨f1, by omega, f3, by omega, rfl, hr⟩
theorem fs_rng {L : List (Int × Int)} (h : ∀ c ∈ L, 0 ≤ c.1 ∧ c.1 ≤ 20 ∧ 0 ≤ c.2 ∧ c.2 ≤ 14) {k : Int} (h0 : 0 ≤ k) (h1 : k < (L.length : Nat)) : 0 ≤ fsX L k ∧ fsX L k ≤ 20 ∧ 0 ≤ snY L k ∧ snY L k ≤ 14 := by
  unfold fsX snY
  rw [List.getD_eq_getElem?_getD, List.getElem?_eq_getElem (by omega)]
  exact h _ (List.getElem_mem _)
end

set_option maxHeartbeats 4000000 in
set_option maxRecDepth 100000 in
theorem lc_11 {E : ab_E} (C : ab_C E cL_law 7 yL_law room_1) {b L : Nat} {xs : Nat → Int32} (hX : ab_X E b L xs) (hL : L ≤ 3072) {k n : Nat} (hk : k + 5 ≤ 601024) (hn : n + 345 ≤ 7293034) {S : ab_St} {F : ab_Fn} {A : ab_An} {U : Int → bst} {nc : Nat → Nat} {T : Int} (hT : 0 ≤ T ∧ T ≤ 512) (hI : LI S F A U nc T) {i : Int} (hi : 0 ≤ i ∧ i + 6 ≤ L)
    (go : ∀ S2 F2 A2 U2 nc2, LI S2 F2 A2 U2 nc2 (T + 1) → ab_J E 7 (k + 5) (n + 345) S2 F2 A2 1175 [some (aX (.ref b)), some (aR 0), some (aR 100), some (aR 90), some (aI i), none, none] []) : ab_J E 7 k n S F A 768 [some (aX (.ref b)), some (aR 0), some (aR 100), some (aR 90), some (aI i), none, none] [] := by
  obtain ⟨⟨hSC, hSM, h90⟩, hLB, hLW, hLT, hLS, hLF⟩ := id hI
  have hb := hLB.2.1
  have hb3 := hLB.2.2.1
  have hw9 := hLW.2.1
  have hw3 := hLW.2.2.1
  have ht := hLT.2.1
  have ht3 := hLT.1
  refine j_aload_n C dL_law_768 rfl rfl ?_
  refine j_callV C (vs := []) (st := []) cl_L_115 im_yX9_warn se_yX9_warn (fun _ => (c_warn _ S F A hSC hLB.1 hb hI.hp nc hLW.1 hw9 hI.fres)) (sC_0 hSC) rfl rfl rfl ⟨rfl, rfl, by decide, by decide⟩ ⟨(by show k + 5 ≤ 601024; omega), (by show n + 160 ≤ 7293034; omega)⟩ (fun _ => Nat.le_of_ble_eq_true rfl) (fun v hv => by cases hv) (fun v hv => by simp only [List.mem_cons, List.not_mem_nil, or_false, Option.some.injEq, reduceCtorEq, false_or] at hv; rcases hv with rfl | rfl | rfl | rfl | rfl <;> first | exact (lS (sC_0 hSC)) | exact (lS (sM_100 hSM)) | exact (lS h90) | exact trivial) dL_law_769 (fun v_769 S_769 F_769 A_769 hP_769 => ?_)
  obtain ⟨n9, X9, Y9, hlr, hn9, hc⟩ := hP_769
  rw [← hI.pt] at hlr
  rcases hc with hc | hc
  · obtain ⟨rfl, hcd, rfl, rfl, hO9⟩ := hc
    show ab_J E 7 (k + 5) (n + 160) S (upF F 8 2 n9) A_769 772 [some (aX (.ref b)), some (aR 0), some (aR 100), some (aR 90), some (aI i), none, none] [aI (-1)]
    refine j_aload_n C dL_law_772 rfl rfl ?_
    refine j_callV C (vs := []) (st := [aI (-1)]) cl_L_118 im_yX10_warn se_yX10_warn (fun _ => (m_warn _ S (upF F 8 2 n9) A_769 hSM (by show 0 ≤ F 100 18 ∧ F 100 18 ≤ 40; rw [hw3]; exact hw9) n9 X9 Y9 ⟨hn9.1, by omega⟩ (by rw [hO9 106 (by decide)]; exact hlr) (by show 0 ≤ F 100 11 ∧ F 100 11 ≤ 10; rw [hb3]; exact hb) (fun sq z1 z2 b z3 z4 => by rw [hO9 106 (by decide)]; have := hI.fp b sq z3 z4 z1 z2; exact ⟨by omega, by omega⟩))) (sM_100 hSM) rfl rfl rfl ⟨rfl, rfl, by decide, by decide⟩ ⟨(by show (k + 5) + 0 ≤ 601024; omega), (by show (n + 160) + 0 ≤ 7293034; omega)⟩ (fun _ => Nat.le_of_ble_eq_true rfl) (fun v hv => by simp only [List.mem_cons, List.not_mem_nil, or_false] at hv; rcases hv with rfl <;> first | exact trivial) (fun v hv => by simp only [List.mem_cons, List.not_mem_nil, or_false, Option.some.injEq, reduceCtorEq, false_or] at hv; rcases hv with rfl | rfl | rfl | rfl | rfl <;> first | exact (lS (sC_0 hSC)) | exact (lS (sM_100 hSM)) | exact (lS h90) | exact trivial) dL_law_773 (fun v_773 S_773 F_773 A_773 hP_773 => ?_)
    obtain ⟨rfl, hm0, hm⟩ := hP_773
    obtain ⟨rfl, rfl, hm2⟩ : v_773 = some (aI (-1)) ∧ F_773 = upF (upF (upF F 8 2 n9) 100 0 0) 100 24 n9 ∧ (∀ i, i ≠ 120 → i ≠ 121 → i ≠ 122 → i ≠ 123 → A_773 i = A_769 i) := by rcases hm with h | h; exact ⟨h.1, h.2.2.1, h.2.2.2⟩; exact absurd (by rw [show (upF F 8 2 n9) 100 18 = F 3 2 from hw3]; exact hcd) h.2.1
    have hI9 := hI.to (F' := upF (upF (upF F 8 2 n9) 100 0 0) 100 24 n9) (A' := A_773) (fun i z => by rw [upF_o (by omega), upF_o (by omega), upF_o (by omega)]) (fun k z => by rw [upF_ne (by omega), upF_ne (by omega), upF_o (by decide)]) (fun i z => (hm2 i (by omega) (by omega) (by omega) (by omega)).trans (hO9 i (by omega)))
    show ab_J E 7 (k + 5) (n + 160) S (upF (upF (upF F 8 2 n9) 100 0 0) 100 24 n9) A_773 776 [some (aX (.ref b)), some (aR 0), some (aR 100), some (aR 90), some (aI i), none, none] [aI (-1), aI (-1)]
    refine j_icmp_eq C (tgt := 1175) dL_law_776 (by decide) ⟨by omega, by omega⟩ ⟨by omega, by omega⟩ (fun c776 => ?_) (fun c776 => ?_)
    · exact j_widen (by omega) (by omega) (go _ _ _ _ _ hI9)
    · exact absurd rfl c776
  · obtain ⟨rfl, hcd, hN⟩ := hc
    have hSx : ∀ i, i ≠ 3 → (i < 300 ∨ 490 ≤ i) → (i < 600 ∨ 640 ≤ i) → S_769 i = S i := fun i z1 z2 z3 => hN.2.1 i z1 (by omega) (by omega) (by omega) (by omega) (by omega)
    obtain ⟨hSC_S_769, hSM_S_769, h90_S_769⟩ : LO S_769 := hI.1.to (fun j z1 z2 z3 => hSx j z3 (by omega) (by omega)) (fun j z1 z2 => hSx j (by omega) (by omega) (by omega))
    have eF : ∀ i, i ≠ 3 → i ≠ 8 → (i < 300 ∨ 340 ≤ i) → F_769 i = F i := fun i z1 z2 z3 => hN.2.2.2.1 i z1 (by omega) z2
    have e100 : F_769 100 = F 100 := eF 100 (by decide) (by decide) (by decide)
    have eA : ∀ i, i ≠ 18 → i ≠ 19 → i ≠ 20 → i ≠ 21 → i ≠ 27 → (i < 350 ∨ 490 ≤ i) → A_769 i = A i := fun i z1 z2 z3 z4 z5 z6 => hN.2.2.2.2.2.1 i (by omega) (by omega) (by omega) (fun q => by have q : i = 18 ∨ i = 19 ∨ i = 20 ∨ i = 21 ∨ i = 27 := q; omega)
    have e18 : F_769 100 18 = F 3 2 := by rw [e100]; exact hw3
    have e5 : F_769 100 5 = F 0 10 := by rw [e100]; exact hLF.1
    show ab_J E 7 (k + 5) (n + 160) S_769 F_769 A_769 772 [some (aX (.ref b)), some (aR 0), some (aR 100), some (aR 90), some (aI i), none, none] [aI (F 3 2)]
    refine j_aload_n C dL_law_772 rfl rfl ?_
    refine j_callV C (vs := []) (st := [aI (F 3 2)]) cl_L_118 im_yX10_warn se_yX10_warn (fun _ => (m_warn _ S_769 F_769 A_769 hSM_S_769 (by rw [e18]; exact hw9) n9 X9 Y9 ⟨hn9.1, by omega⟩ (by rw [eA 106 (by decide) (by decide) (by decide) (by decide) (by decide) (by decide), e100]; exact hlr) (by rw [e100, hb3]; exact hb) (fun sq z1 z2 b z3 z4 => by rw [e100] at z4; rw [eA 106 (by decide) (by decide) (by decide) (by decide) (by decide) (by decide)]; have := hI.fp b sq z3 z4 z1 z2; exact ⟨by omega, by omega⟩))) (sM_100 hSM_S_769) rfl rfl rfl ⟨rfl, rfl, by decide, by decide⟩ ⟨(by show (k + 5) + 0 ≤ 601024; omega), (by show (n + 160) + 0 ≤ 7293034; omega)⟩ (fun _ => Nat.le_of_ble_eq_true rfl) (fun v hv => by simp only [List.mem_cons, List.not_mem_nil, or_false] at hv; rcases hv with rfl <;> first | exact trivial) (fun v hv => by simp only [List.mem_cons, List.not_mem_nil, or_false, Option.some.injEq, reduceCtorEq, false_or] at hv; rcases hv with rfl | rfl | rfl | rfl | rfl <;> first | exact (lS (sC_0 hSC_S_769)) | exact (lS (sM_100 hSM_S_769)) | exact (lS h90_S_769) | exact trivial) dL_law_773 (fun v_773 S_773 F_773 A_773 hP_773 => ?_)
    obtain ⟨rfl, hm0, hm⟩ := hP_773
    rw [e18, e5] at hm
    obtain ⟨rfl, hm1, hm2⟩ : v_773 = some (aI (F 3 2)) ∧ F_773 = upF (upF (upF F_769 100 0 0) 100 24 n9) 100 18 (F 3 2 + 1) ∧ NW A_769 A_773 (F 3 2) (F 0 10) n9 X9 Y9 := by rcases hm with h | h; exact absurd h.2.1 hcd; exact ⟨h.1, h.2.2.1, h.2.2.2⟩
    have hmF : ∀ i, i ≠ 100 → F_773 i = F_769 i := fun i z => by rw [hm1, upF_o z, upF_o z, upF_o z]
    have hmK : ∀ k, k ≠ 0 → k ≠ 24 → k ≠ 18 → F_773 100 k = F 100 k := fun k z1 z2 z3 => by rw [hm1, upF_ne z3, upF_ne z2, upF_ne z1, e100]
    obtain ⟨k1, k2, k3, k4⟩ := L_newW (F2 := F_773) (A2 := A_773) (A3 := A_769) hI hT ⟨by omega, by omega⟩ (fun k z1 z2 => PT_rng (LR_in hlr z1 z2)) (by omega) hN (fun i z => by have z : i = 8 := z; omega) (fun i z => by have z : i = 18 ∨ i = 19 ∨ i = 20 ∨ i = 21 ∨ i = 27 := z; omega) (fun _ _ => rfl) hm2 (fun i z1 z2 z3 z4 => hm0 i (by omega) (by omega) (by omega) (by omega) (by omega) (by omega) (by omega) (by omega) (by omega)) hmF (by rw [hm1, upF_at]) (hmK 11 (by decide) (by decide) (by decide))
    have hI9 : LI S_769 F_773 A_773 U _ (T + 1) := ⟨k1, k2, k3, hLT.to (by rw [hmF 4 (by decide), eF 4 (by decide) (by decide) (by decide)]) (hmK 26 (by decide) (by decide) (by decide)) (by rw [hm0 15 (by decide) (by decide) (by decide) (by decide) (by decide) (by decide) (by decide) (by decide) (by decide), eA 15 (by decide) (by decide) (by decide) (by decide) (by decide) (by decide)]) (by rw [hm0 125 (by decide) (by decide) (by decide) (by decide) (by decide) (by decide) (by decide) (by decide) (by decide), eA 125 (by decide) (by decide) (by decide) (by decide) (by decide) (by decide)]), k4, hLF.to (fun k _ _ => by rw [hmF 0 (by decide), eF 0 (by decide) (by decide) (by decide)]) (hmK 5 (by decide) (by decide) (by decide)) (hmK 12 (by decide) (by decide) (by decide)) (hmK 31 (by decide) (by decide) (by decide))⟩
    show ab_J E 7 (k + 5) (n + 160) S_769 F_773 A_773 776 [some (aX (.ref b)), some (aR 0), some (aR 100), some (aR 90), some (aI i), none, none] [aI (F 3 2), aI (F 3 2)]
    refine j_icmp_eq C (tgt := 1175) dL_law_776 (by decide) ⟨by omega, by omega⟩ ⟨by omega, by omega⟩ (fun c776 => ?_) (fun c776 => ?_)
    · exact j_widen (by omega) (by omega) (go _ _ _ _ _ hI9)
    · exact absurd rfl c776

set_option maxHeartbeats 4000000 in
set_option maxRecDepth 100000 in
theorem lc_12 {E : ab_E} (C : ab_C E cL_law 7 yL_law room_1) {b L : Nat} {xs : Nat → Int32} (hX : ab_X E b L xs) (hL : L ≤ 3072) {k n : Nat} (hk : k + 5 ≤ 601024) (hn : n + 345 ≤ 7293034) {S : ab_St} {F : ab_Fn} {A : ab_An} {U : Int → bst} {nc : Nat → Nat} {T : Int} (hT : 0 ≤ T ∧ T ≤ 512) (hI : LI S F A U nc T) {i : Int} (hi : 0 ≤ i ∧ i + 6 ≤ L)
    (go : ∀ S2 F2 A2 U2 nc2, LI S2 F2 A2 U2 nc2 (T + 1) → ab_J E 7 (k + 5) (n + 345) S2 F2 A2 1175 [some (aX (.ref b)), some (aR 0), some (aR 100), some (aR 90), some (aI i), none, none] []) : ab_J E 7 k n S F A 781 [some (aX (.ref b)), some (aR 0), some (aR 100), some (aR 90), some (aI i), none, none] [] := by
  obtain ⟨⟨hSC, hSM, h90⟩, hLB, hLW, hLT, hLS, hLF⟩ := id hI
  have hb := hLB.2.1
  have hb3 := hLB.2.2.1
  have hw9 := hLW.2.1
  have hw3 := hLW.2.2.1
  have ht := hLT.2.1
  have ht3 := hLT.1
  refine j_aload_n C dL_law_781 rfl rfl ?_
  refine j_aload_n C dL_law_782 rfl rfl ?_
  rcases (show (¬ ((rdS (byt (A 15) (F 4 1)) (F 4 1)).1 = -1)) ∨ (((rdS (byt (A 15) (F 4 1)) (F 4 1)).1 = -1) ∧ ¬ (F 3 2 < 40)) ∨ (((rdS (byt (A 15) (F 4 1)) (F 4 1)).1 = -1) ∧ (F 3 2 < 40)) by by_cases q0 : ((rdS (byt (A 15) (F 4 1)) (F 4 1)).1 = -1); (by_cases q1 : (F 3 2 < 40); (exact Or.inr (Or.inr (⟨q0, q1⟩))); exact Or.inr (Or.inl ⟨q0, q1⟩)); exact Or.inl q0) with hq | ⟨hq1, hq⟩ | ⟨hq1, hq2⟩
  · refine j_callSH C (vs := [aR 0, aR 90]) (st := []) clh_read (ab_t4 (List.mem_of_getElem? (i := 50) rfl) rfl) (fun _ => (h_read_IAE _ S F A (sC_0 hSC) h90 _ (fun _ => x_read1 _ S F A hSC ht hI.h15 hq))) rfl ⟨rfl, rfl, by decide, by decide⟩ ⟨(by show k + 1 ≤ 601024; omega), (by show n + 6 ≤ 7293034; omega)⟩ (fun _ => Nat.le_of_ble_eq_true rfl) (fun v hv => by cases hv) (fun v hv => by simp only [List.mem_cons, List.not_mem_nil, or_false, Option.some.injEq, reduceCtorEq, false_or] at hv; rcases hv with rfl | rfl | rfl | rfl | rfl <;> first | exact (lS (sC_0 hSC)) | exact (lS (sM_100 hSM)) | exact (lS h90) | exact trivial) dL_law_783 (fun v_783 S_783 F_783 A_783 hP_783 => ?_)
    obtain ⟨rfl, rfl, hc1, hc2, hc3, hc4, hc5, hc6, hc7, hc8⟩ := hP_783
    have e100 : F_783 100 = F 100 := hc5 100 (by decide) (by decide) (by decide) (by decide)
    have e125 : A_783 125 = A 125 := hc6 125 (by decide) (by decide)
    show ab_J E 7 (k + 1) (n + 6) S F_783 A_783 786 [some (aX (.ref b)), some (aR 0), some (aR 100), some (aR 90), some (aI i), none, none] [aI 1]
    refine j_istore C (lv' := [some (aX (.ref b)), some (aR 0), some (aR 100), some (aR 90), some (aI i), some (aI 1), none]) dL_law_786 (by decide) rfl ?_
    refine j_aload_n C dL_law_788 rfl rfl ?_
    refine j_callV C (vs := []) (st := []) cl_L_122 im_yX10_read se_yX10_read (fun _ => (m_read _ S F_783 A_783 hSM (by rw [e100, ht3]; exact ht) (by rw [e100, hw3]; exact hw9) (fun i z1 z2 => by rw [e100, ht3] at z2; rw [e125]; exact (hLT.2.2 i z1 z2).2))) (sM_100 hSM) rfl rfl rfl ⟨rfl, rfl, by decide, by decide⟩ ⟨(by show (k + 1) + 0 ≤ 601024; omega), (by show (n + 6) + 0 ≤ 7293034; omega)⟩ (fun _ => Nat.le_of_ble_eq_true rfl) (fun v hv => by cases hv) (fun v hv => by simp only [List.mem_cons, List.not_mem_nil, or_false, Option.some.injEq, reduceCtorEq, false_or] at hv; rcases hv with rfl | rfl | rfl | rfl | rfl | rfl <;> first | exact (lS (sC_0 hSC)) | exact (lS (sM_100 hSM)) | exact (lS h90) | exact trivial) dL_law_789 (fun v_789 S_789 F_789 A_789 hP_789 => ?_)
    obtain ⟨rfl, t9, ⟨r2, rfl⟩, hk, hi9, ht9, hm26, hm31, hmA, hm⟩ := hP_789
    rw [e100, e125, hI.by9, ht3] at hm31
    have e5 : F_783 100 5 = F 0 10 := by rw [e100]; exact hLF.1
    have e18 : F_783 100 18 = F 3 2 := by rw [e100]; exact hw3
    rw [e18] at hm
    have eby : rdS (byt (A_783 125) (F_783 100 26)) (F_783 100 26) = (rdS (byt (A 15) (F 4 1)) (F 4 1)) := by rw [e125, e100, hI.by9, ht3]
    rw [eby] at hm
    obtain ⟨rfl, hm18, hmB⟩ : t9 = 1 ∧ F_789 100 18 = F 3 2 ∧ ∀ i, i ≠ 133 → i ≠ 134 → A_789 i = A_783 i := by rcases hm with h | h | h; exact ⟨h.1, h.2.2.1, h.2.2.2⟩; exact absurd h.2.1 hq; exact absurd h.2.1 hq
    have hI9 := L_readX (r := (rdS (byt (A 15) (F 4 1)) (F 4 1)).1) (F2 := F_789) (A2 := A_789) hI (by rw [hi9 0 (by decide)]; exact hc1) (fun k z => by rw [hi9 0 (by decide)]; exact hc2 k z) (by rw [hi9 4 (by decide)]; exact hc3) (fun i z1 z2 z3 z4 z5 => (hi9 i z5).trans (hc5 i z1 z2 z3 z4)) hm26 hm31 (fun k z => by rcases z with rfl | rfl | rfl | rfl; rw [hk 5 (by decide) (by decide) (by decide) (by decide) (by decide) (by decide) (by decide) (by decide), e100]; rw [hk 11 (by decide) (by decide) (by decide) (by decide) (by decide) (by decide) (by decide) (by decide), e100]; rw [hk 12 (by decide) (by decide) (by decide) (by decide) (by decide) (by decide) (by decide) (by decide), e100]; rw [hm18, hw3]) (fun i z1 z2 z3 z4 z5 => (hmB i z4 z5).trans (hc6 i z1 z2)) ⟨by omega, by omega⟩
    show ab_J E 7 (k + 1) (n + 6) S F_789 A_789 792 [some (aX (.ref b)), some (aR 0), some (aR 100), some (aR 90), some (aI i), some (aI 1), none] [aI r2]
    refine j_istore C (lv' := [some (aX (.ref b)), some (aR 0), some (aR 100), some (aR 90), some (aI i), some (aI 1), some (aI r2)]) dL_law_792 (by decide) rfl ?_
    refine j_aload_n C dL_law_794 rfl rfl ?_
    refine j_callV C (vs := []) (st := []) cl_L_82 im_yX10_thrown se_yX10_thrown (fun _ => (m_thrown _ S F_789 A_789 hSM)) (sM_100 hSM) rfl rfl rfl ⟨rfl, rfl, by decide, by decide⟩ ⟨(by show (k + 1) + 0 ≤ 601024; omega), (by show (n + 6) + 0 ≤ 7293034; omega)⟩ (fun _ => Nat.le_of_ble_eq_true rfl) (fun v hv => by cases hv) (fun v hv => by simp only [List.mem_cons, List.not_mem_nil, or_false, Option.some.injEq, reduceCtorEq, false_or] at hv; rcases hv with rfl | rfl | rfl | rfl | rfl | rfl | rfl <;> first | exact (lS (sC_0 hSC)) | exact (lS (sM_100 hSM)) | exact (lS h90) | exact trivial) dL_law_795 (fun v_795 S_795 F_795 A_795 hP_795 => ?_)
    obtain ⟨rfl, rfl, rfl, rfl⟩ := hP_795
    rw [ht9]
    show ab_J E 7 (k + 1) (n + 6) S F_789 A_789 798 [some (aX (.ref b)), some (aR 0), some (aR 100), some (aR 90), some (aI i), some (aI 1), some (aI r2)] [aI 1]
    refine j_iload C dL_law_798 rfl ?_
    refine j_icmp_eq C (tgt := 805) dL_law_800 (by decide) ⟨by omega, by omega⟩ ⟨by omega, by omega⟩ (fun c800 => ?_) (fun c800 => ?_)
    · refine j_iload C dL_law_805 rfl ?_
      refine j_if_ne C (tgt := 822) dL_law_807 (by decide) ⟨by omega, by omega⟩ (fun c807 => ?_) (fun c807 => ?_)
      · refine j_goto C (tgt := 1175) dL_law_822 (by decide) ?_
        refine j_lv (lv' := [some (aX (.ref b)), some (aR 0), some (aR 100), some (aR 90), some (aI i), none, none]) ?_ ⟨rfl, rfl, rfl, rfl, rfl, trivial⟩
        exact j_widen (by omega) (by omega) (go _ _ _ _ _ hI9)
      · exact absurd c807 (by decide)
    · exact absurd c800 (by decide)
  · refine j_callSH C (vs := [aR 0, aR 90]) (st := []) clh_read (ab_t4 (List.mem_of_getElem? (i := 50) rfl) rfl) (fun _ => (h_read_UOE _ S F A (sC_0 hSC) h90 _ (fun _ => x_read2 _ S F A hSC ht hI.h15 hq1 nc hLW.1 hw9 (by omega)))) rfl ⟨rfl, rfl, by decide, by decide⟩ ⟨(by show k + 1 ≤ 601024; omega), (by show n + 6 ≤ 7293034; omega)⟩ (fun _ => Nat.le_of_ble_eq_true rfl) (fun v hv => by cases hv) (fun v hv => by simp only [List.mem_cons, List.not_mem_nil, or_false, Option.some.injEq, reduceCtorEq, false_or] at hv; rcases hv with rfl | rfl | rfl | rfl | rfl <;> first | exact (lS (sC_0 hSC)) | exact (lS (sM_100 hSM)) | exact (lS h90) | exact trivial) dL_law_783 (fun v_783 S_783 F_783 A_783 hP_783 => ?_)
    obtain ⟨rfl, rfl, hc1, hc2, hc3, hc4, hc5, hc6, hc7, hc8⟩ := hP_783
    have e100 : F_783 100 = F 100 := hc5 100 (by decide) (by decide) (by decide) (by decide)
    have e125 : A_783 125 = A 125 := hc6 125 (by decide) (by decide)
    show ab_J E 7 (k + 1) (n + 6) S F_783 A_783 786 [some (aX (.ref b)), some (aR 0), some (aR 100), some (aR 90), some (aI i), none, none] [aI 2]
    refine j_istore C (lv' := [some (aX (.ref b)), some (aR 0), some (aR 100), some (aR 90), some (aI i), some (aI 2), none]) dL_law_786 (by decide) rfl ?_
    refine j_aload_n C dL_law_788 rfl rfl ?_
    refine j_callV C (vs := []) (st := []) cl_L_122 im_yX10_read se_yX10_read (fun _ => (m_read _ S F_783 A_783 hSM (by rw [e100, ht3]; exact ht) (by rw [e100, hw3]; exact hw9) (fun i z1 z2 => by rw [e100, ht3] at z2; rw [e125]; exact (hLT.2.2 i z1 z2).2))) (sM_100 hSM) rfl rfl rfl ⟨rfl, rfl, by decide, by decide⟩ ⟨(by show (k + 1) + 0 ≤ 601024; omega), (by show (n + 6) + 0 ≤ 7293034; omega)⟩ (fun _ => Nat.le_of_ble_eq_true rfl) (fun v hv => by cases hv) (fun v hv => by simp only [List.mem_cons, List.not_mem_nil, or_false, Option.some.injEq, reduceCtorEq, false_or] at hv; rcases hv with rfl | rfl | rfl | rfl | rfl | rfl <;> first | exact (lS (sC_0 hSC)) | exact (lS (sM_100 hSM)) | exact (lS h90) | exact trivial) dL_law_789 (fun v_789 S_789 F_789 A_789 hP_789 => ?_)
    obtain ⟨rfl, t9, ⟨r2, rfl⟩, hk, hi9, ht9, hm26, hm31, hmA, hm⟩ := hP_789
    rw [e100, e125, hI.by9, ht3] at hm31
    have e5 : F_783 100 5 = F 0 10 := by rw [e100]; exact hLF.1
    have e18 : F_783 100 18 = F 3 2 := by rw [e100]; exact hw3
    rw [e18] at hm
    have eby : rdS (byt (A_783 125) (F_783 100 26)) (F_783 100 26) = (rdS (byt (A 15) (F 4 1)) (F 4 1)) := by rw [e125, e100, hI.by9, ht3]
    rw [eby] at hm
    obtain ⟨rfl, hm18, hmB⟩ : t9 = 2 ∧ F_789 100 18 = F 3 2 ∧ ∀ i, i ≠ 133 → i ≠ 134 → A_789 i = A_783 i := by rcases hm with h | h | h; exact absurd hq1 h.2.1; exact ⟨h.1, h.2.2.2.1, h.2.2.2.2⟩; exact absurd h.2.2.1 hq
    have hI9 := L_readX (r := (rdS (byt (A 15) (F 4 1)) (F 4 1)).1) (F2 := F_789) (A2 := A_789) hI (by rw [hi9 0 (by decide)]; exact hc1) (fun k z => by rw [hi9 0 (by decide)]; exact hc2 k z) (by rw [hi9 4 (by decide)]; exact hc3) (fun i z1 z2 z3 z4 z5 => (hi9 i z5).trans (hc5 i z1 z2 z3 z4)) hm26 hm31 (fun k z => by rcases z with rfl | rfl | rfl | rfl; rw [hk 5 (by decide) (by decide) (by decide) (by decide) (by decide) (by decide) (by decide) (by decide), e100]; rw [hk 11 (by decide) (by decide) (by decide) (by decide) (by decide) (by decide) (by decide) (by decide), e100]; rw [hk 12 (by decide) (by decide) (by decide) (by decide) (by decide) (by decide) (by decide) (by decide), e100]; rw [hm18, hw3]) (fun i z1 z2 z3 z4 z5 => (hmB i z4 z5).trans (hc6 i z1 z2)) ⟨by omega, by omega⟩
    show ab_J E 7 (k + 1) (n + 6) S F_789 A_789 792 [some (aX (.ref b)), some (aR 0), some (aR 100), some (aR 90), some (aI i), some (aI 2), none] [aI r2]
    refine j_istore C (lv' := [some (aX (.ref b)), some (aR 0), some (aR 100), some (aR 90), some (aI i), some (aI 2), some (aI r2)]) dL_law_792 (by decide) rfl ?_
    refine j_aload_n C dL_law_794 rfl rfl ?_
    refine j_callV C (vs := []) (st := []) cl_L_82 im_yX10_thrown se_yX10_thrown (fun _ => (m_thrown _ S F_789 A_789 hSM)) (sM_100 hSM) rfl rfl rfl ⟨rfl, rfl, by decide, by decide⟩ ⟨(by show (k + 1) + 0 ≤ 601024; omega), (by show (n + 6) + 0 ≤ 7293034; omega)⟩ (fun _ => Nat.le_of_ble_eq_true rfl) (fun v hv => by cases hv) (fun v hv => by simp only [List.mem_cons, List.not_mem_nil, or_false, Option.some.injEq, reduceCtorEq, false_or] at hv; rcases hv with rfl | rfl | rfl | rfl | rfl | rfl | rfl <;> first | exact (lS (sC_0 hSC)) | exact (lS (sM_100 hSM)) | exact (lS h90) | exact trivial) dL_law_795 (fun v_795 S_795 F_795 A_795 hP_795 => ?_)
    obtain ⟨rfl, rfl, rfl, rfl⟩ := hP_795
    rw [ht9]
    show ab_J E 7 (k + 1) (n + 6) S F_789 A_789 798 [some (aX (.ref b)), some (aR 0), some (aR 100), some (aR 90), some (aI i), some (aI 2), some (aI r2)] [aI 2]
    refine j_iload C dL_law_798 rfl ?_
    refine j_icmp_eq C (tgt := 805) dL_law_800 (by decide) ⟨by omega, by omega⟩ ⟨by omega, by omega⟩ (fun c800 => ?_) (fun c800 => ?_)
    · refine j_iload C dL_law_805 rfl ?_
      refine j_if_ne C (tgt := 822) dL_law_807 (by decide) ⟨by omega, by omega⟩ (fun c807 => ?_) (fun c807 => ?_)
      · refine j_goto C (tgt := 1175) dL_law_822 (by decide) ?_
        refine j_lv (lv' := [some (aX (.ref b)), some (aR 0), some (aR 100), some (aR 90), some (aI i), none, none]) ?_ ⟨rfl, rfl, rfl, rfl, rfl, trivial⟩
        exact j_widen (by omega) (by omega) (go _ _ _ _ _ hI9)
      · exact absurd c807 (by decide)
    · exact absurd c800 (by decide)
  · refine j_callSH C (vs := [aR 0, aR 90]) (st := []) clh_read (ab_t4 (List.mem_of_getElem? (i := 50) rfl) rfl) (fun _ => (h_read_ok _ S F A (sC_0 hSC) h90 _ (fun _ => c_read _ S F A hSC ht hI.h15 hq1 nc hLW.1 ⟨hw9.1, hq2⟩ (hI.fres hq2)) (fun v S' F' A' h => ⟨⟨_, h.1⟩, by rw [h.2.2.2.2.2.2.1 90 (by decide) (by omega) (by omega) (by omega) (by omega) (by omega)]; exact h90⟩))) rfl ⟨rfl, rfl, by decide, by decide⟩ ⟨(by show k + 5 ≤ 601024; omega), (by show n + 160 ≤ 7293034; omega)⟩ (fun _ => Nat.le_of_ble_eq_true rfl) (fun v hv => by cases hv) (fun v hv => by simp only [List.mem_cons, List.not_mem_nil, or_false, Option.some.injEq, reduceCtorEq, false_or] at hv; rcases hv with rfl | rfl | rfl | rfl | rfl <;> first | exact (lS (sC_0 hSC)) | exact (lS (sM_100 hSM)) | exact (lS h90) | exact trivial) dL_law_783 (fun v_783 S_783 F_783 A_783 hP_783 => ?_)
    obtain ⟨rfl, r9, A9, hc, rfl⟩ := hP_783
    obtain ⟨hc0, hc1, hc2, hc3, hc4, hN⟩ := hc
    have er := aI_inj hc0
    have hSx : ∀ i, i ≠ 3 → (i < 300 ∨ 490 ≤ i) → (i < 600 ∨ 640 ≤ i) → S_783 i = S i := fun i z1 z2 z3 => hN.2.1 i z1 (by omega) (by omega) (by omega) (by omega) (by omega)
    obtain ⟨hSC_S_783, hSM_S_783, h90_S_783⟩ : LO S_783 := hI.1.to (fun j z1 z2 z3 => hSx j z3 (by omega) (by omega)) (fun j z1 z2 => hSx j (by omega) (by omega) (by omega))
    have eF : ∀ i, i ≠ 3 → i ≠ 0 → i ≠ 4 → i ≠ 5 → i ≠ 6 → (i < 300 ∨ 340 ≤ i) → F_783 i = F i := fun i z1 z2 z3 z4 z5 z6 => hN.2.2.2.1 i z1 (by omega) (fun q => by have q : i = 0 ∨ i = 4 ∨ i = 5 ∨ i = 6 := q; omega)
    have e100 : F_783 100 = F 100 := eF 100 (by decide) (by decide) (by decide) (by decide) (by decide) (by decide)
    have eA : ∀ i, i ≠ 16 → i ≠ 17 → i ≠ 90 → (i < 350 ∨ 490 ≤ i) → (upA A9 90 0 ((Int32.ofInt r9).toInt)) i = A i := fun i z1 z2 z3 z6 => (upA_other z3).trans (hN.2.2.2.2.2.1 i (by omega) (by omega) (by omega) (fun q => by have q : i = 16 ∨ i = 17 := q; omega))
    have e125 : (upA A9 90 0 ((Int32.ofInt r9).toInt)) 125 = A 125 := eA 125 (by decide) (by decide) (by decide) (by decide)
    show ab_J E 7 (k + 5) (n + 160) S_783 F_783 (upA A9 90 0 ((Int32.ofInt r9).toInt)) 786 [some (aX (.ref b)), some (aR 0), some (aR 100), some (aR 90), some (aI i), none, none] [aI 0]
    refine j_istore C (lv' := [some (aX (.ref b)), some (aR 0), some (aR 100), some (aR 90), some (aI i), some (aI 0), none]) dL_law_786 (by decide) rfl ?_
    refine j_aload_n C dL_law_788 rfl rfl ?_
    refine j_callV C (vs := []) (st := []) cl_L_122 im_yX10_read se_yX10_read (fun _ => (m_read _ S_783 F_783 (upA A9 90 0 ((Int32.ofInt r9).toInt)) hSM_S_783 (by rw [e100, ht3]; exact ht) (by rw [e100, hw3]; exact hw9) (fun i z1 z2 => by rw [e100, ht3] at z2; rw [e125]; exact (hLT.2.2 i z1 z2).2))) (sM_100 hSM_S_783) rfl rfl rfl ⟨rfl, rfl, by decide, by decide⟩ ⟨(by show (k + 5) + 0 ≤ 601024; omega), (by show (n + 160) + 0 ≤ 7293034; omega)⟩ (fun _ => Nat.le_of_ble_eq_true rfl) (fun v hv => by cases hv) (fun v hv => by simp only [List.mem_cons, List.not_mem_nil, or_false, Option.some.injEq, reduceCtorEq, false_or] at hv; rcases hv with rfl | rfl | rfl | rfl | rfl | rfl <;> first | exact (lS (sC_0 hSC_S_783)) | exact (lS (sM_100 hSM_S_783)) | exact (lS h90_S_783) | exact trivial) dL_law_789 (fun v_789 S_789 F_789 A_789 hP_789 => ?_)
    obtain ⟨rfl, t9, ⟨r2, rfl⟩, hk, hi9, ht9, hm26, hm31, hmA, hm⟩ := hP_789
    rw [e100, e125, hI.by9, ht3] at hm31
    have e5 : F_783 100 5 = F 0 10 := by rw [e100]; exact hLF.1
    have e18 : F_783 100 18 = F 3 2 := by rw [e100]; exact hw3
    rw [e18] at hm
    have eby : rdS (byt ((upA A9 90 0 ((Int32.ofInt r9).toInt)) 125) (F_783 100 26)) (F_783 100 26) = (rdS (byt (A 15) (F 4 1)) (F 4 1)) := by rw [e125, e100, hI.by9, ht3]
    rw [eby] at hm
    obtain ⟨rfl, -, -, hm18, hmv, L9, hL9, hL8, hNW, hcc⟩ := (hm.resolve_left (fun h => absurd hq1 h.2.1)).resolve_left (fun h => by have := h.2.2.1; omega)
    have e2 := aI_inj hmv
    rw [hL9] at hN
    rw [e5] at hNW
    obtain ⟨k1, k2, k3, k4⟩ := L_newW (F2 := F_789) (A2 := A_789) (A3 := (upA A9 90 0 ((Int32.ofInt r9).toInt))) (n := (L9.length : Nat)) (X := fsX L9) (Y := snY L9) hI hT ⟨by omega, by omega⟩ (fun k z1 z2 => fs_rng hcc z1 z2) hq2 hN (fun i z => by have z : i = 0 ∨ i = 4 ∨ i = 5 ∨ i = 6 := z; omega) (fun i z => by have z : i = 16 ∨ i = 17 := z; omega) (fun i z => upA_other z) hNW (fun i z1 z2 z3 z4 => hmA i (by omega) (by omega) (by omega) (by omega) (by omega) z3 z4) hi9 hm18 (by rw [hk 11 (by decide) (by decide) (by decide) (by decide) (by decide) (by decide) (by decide) (by decide), e100])
    have hI9 : LI S_783 F_789 A_789 U _ (T + 1) := ⟨k1, k2, k3, ⟨hm26.trans (by rw [hi9 4 (by decide), hc3]), by rw [hi9 4 (by decide), hc3]; omega, fun i z1 z2 => by rw [hi9 4 (by decide), hc3] at z2; omega⟩, k4, by obtain ⟨f1, f2, f3, f4, f5, f6⟩ := hLF; unfold LF; rw [hi9 0 (by decide), hc1, hc2 10 (by decide), hc2 11 (by decide), hm31, hq1, hk 5 (by decide) (by decide) (by decide) (by decide) (by decide) (by decide) (by decide) (by decide), hk 12 (by decide) (by decide) (by decide) (by decide) (by decide) (by decide) (by decide) (by decide), e100]; exact ⟨f1, by omega, f3, by omega, rfl, ⟨by decide, by decide⟩⟩⟩
    have h90r : A_789 90 0 = (Int32.ofInt r2).toInt := by rw [hmA 90 (by decide) (by decide) (by decide) (by decide) (by decide) (by decide) (by decide), e2, ← er]; rfl
    show ab_J E 7 (k + 5) (n + 160) S_783 F_789 A_789 792 [some (aX (.ref b)), some (aR 0), some (aR 100), some (aR 90), some (aI i), some (aI 0), none] [aI r2]
    refine j_istore C (lv' := [some (aX (.ref b)), some (aR 0), some (aR 100), some (aR 90), some (aI i), some (aI 0), some (aI r2)]) dL_law_792 (by decide) rfl ?_
    refine j_aload_n C dL_law_794 rfl rfl ?_
    refine j_callV C (vs := []) (st := []) cl_L_82 im_yX10_thrown se_yX10_thrown (fun _ => (m_thrown _ S_783 F_789 A_789 hSM_S_783)) (sM_100 hSM_S_783) rfl rfl rfl ⟨rfl, rfl, by decide, by decide⟩ ⟨(by show (k + 5) + 0 ≤ 601024; omega), (by show (n + 160) + 0 ≤ 7293034; omega)⟩ (fun _ => Nat.le_of_ble_eq_true rfl) (fun v hv => by cases hv) (fun v hv => by simp only [List.mem_cons, List.not_mem_nil, or_false, Option.some.injEq, reduceCtorEq, false_or] at hv; rcases hv with rfl | rfl | rfl | rfl | rfl | rfl | rfl <;> first | exact (lS (sC_0 hSC_S_783)) | exact (lS (sM_100 hSM_S_783)) | exact (lS h90_S_783) | exact trivial) dL_law_795 (fun v_795 S_795 F_795 A_795 hP_795 => ?_)
    obtain ⟨rfl, rfl, rfl, rfl⟩ := hP_795
    rw [ht9]
    show ab_J E 7 (k + 5) (n + 160) S_783 F_789 A_789 798 [some (aX (.ref b)), some (aR 0), some (aR 100), some (aR 90), some (aI i), some (aI 0), some (aI r2)] [aI 0]
    refine j_iload C dL_law_798 rfl ?_
    refine j_icmp_eq C (tgt := 805) dL_law_800 (by decide) ⟨by omega, by omega⟩ ⟨by omega, by omega⟩ (fun c800 => ?_) (fun c800 => ?_)
    · refine j_iload C dL_law_805 rfl ?_
      refine j_if_ne C (tgt := 822) dL_law_807 (by decide) ⟨by omega, by omega⟩ (fun c807 => ?_) (fun c807 => ?_)
      · exact absurd c807 (by decide)
      · refine j_aload_n C dL_law_810 rfl rfl ?_
        refine j_iconst C dL_law_811 ?_
        refine j_lald C h90_S_783 (by omega) (by omega) (by decide) dL_law_812 ?_
        refine j_iload C dL_law_813 rfl ?_
        refine j_i2l C dL_law_815 ?_
        refine j_lcmpE C h90r dL_law_816 ?_
        refine j_if_eq C (tgt := 822) dL_law_817 (by decide) ⟨by omega, by omega⟩ (fun c817 => ?_) (fun c817 => ?_)
        · refine j_goto C (tgt := 1175) dL_law_822 (by decide) ?_
          refine j_lv (lv' := [some (aX (.ref b)), some (aR 0), some (aR 100), some (aR 90), some (aI i), none, none]) ?_ ⟨rfl, rfl, rfl, rfl, rfl, trivial⟩
          exact j_widen (by omega) (by omega) (go _ _ _ _ _ hI9)
        · exact absurd c817 (by decide)
    · exact absurd c800 (by decide)
