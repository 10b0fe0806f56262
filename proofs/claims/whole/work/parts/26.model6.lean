theorem exB_sum {f : Int → Int} {n : Int} (h0 : 0 ≤ n) (h : ∀ b, 0 ≤ b → b < n → 0 ≤ f b) : exB (fun b => 0 < f b) n ↔ 0 < sm f n.toNat := by
  have hp := sm_pos (f := f) (n := n.toNat) (fun k a b => h k a (by omega))
  have hn := sm_nonneg (f := f) (n := n.toNat) (fun k a b => h k a (by omega))
  constructor
  · rintro ⟨b, h1, h2, h3⟩
    have : ¬ sm f n.toNat = 0 := fun e => by
      have := hp.mp e b h1 (by omega)
      omega
    omega
  · intro hs
    refine Classical.byContradiction fun hc => ?_
    have : sm f n.toNat = 0 := hp.mpr (fun k a b => by
      have q1 := h k a (by omega)
      by_cases q : 0 < f k
      · exact absurd ⟨k, a, by omega, q⟩ hc
      · omega)
    omega
theorem sm_ge {f : Int → Int} {c : Int} : ∀ {n : Nat}, (∀ k : Int, 0 ≤ k → k < n → f k ≤ c) → sm f n ≤ n * c
  | 0, _ => by simp [sm]
  | n + 1, h => by
    have h1 := sm_ge (f := f) (c := c) (n := n) (fun k a b => h k a (by omega))
    have h2 := h n (by omega) (by omega)
    simp only [sm]
    have : ((n + 1 : Nat) : Int) * c = (n : Int) * c + c := by rw [show ((n + 1 : Nat) : Int) = (n : Int) + 1 from rfl, Int.add_mul, Int.one_mul]
    omega

set_option maxHeartbeats 4000000 in
set_option maxRecDepth 100000 in
theorem m_tell (l : Launch) (S : ab_St) (F : ab_Fn) (A : ab_An) (hS : ab_SM S) (sq z : Int) (r1 : inR sq) (r2 : inR z) (hb : 0 ≤ F 100 11 ∧ F 100 11 ≤ 10) (hl : ∀ k, 0 ≤ k → k < 280 → A 101 k = 0 ∨ A 101 k = 1) (U : Int → bst) (hU : ∀ b, 0 ≤ b → b < F 100 11 → BR A b (U b) ∧ BW (U b)) : ab_Met l yX10_tell cX10_tell 6 (some .int) { frames := 2, cells := 0, slots := 0, locals := 42 } 0 0 [aR 100, aI sq, aI z] S F A (fun v S' F' A' => S = S' ∧ ∃ t r : Int, v = some (aI r) ∧ ((t = 1 ∧ ¬ (0 ≤ sq ∧ sq ≤ 279) ∧ F' = upF F 100 0 1 ∧ A = A') ∨ (t = 2 ∧ (0 ≤ sq ∧ sq ≤ 279) ∧ ¬ ((1 ≤ z ∧ z ≤ 1000) ∧ A 101 sq = 0) ∧ F' = upF F 100 0 2 ∧ A = A') ∨ (t = 3 ∧ (0 ≤ sq ∧ sq ≤ 279) ∧ ((1 ≤ z ∧ z ≤ 1000) ∧ A 101 sq = 0) ∧ bBest U sq z (F 100 11) (-1) ∧ F 100 11 = 10 ∧ F' = upF F 100 0 3 ∧ A = A') ∨ (t = 0 ∧ (0 ≤ sq ∧ sq ≤ 279) ∧ ((1 ≤ z ∧ z ≤ 1000) ∧ A 101 sq = 0) ∧ ((bBest U sq z (F 100 11) (-1) ∧ F 100 11 < 10 ∧ r = F 100 11 ∧ F' = upF (upF F 100 0 0) 100 11 (F 100 11 + 1)) ∨ (bBest U sq z (F 100 11) r ∧ 0 ≤ r ∧ F' = upF (upF F 100 0 0) 100 12 (F 100 12 + 1))) ∧ A' = (upA (upA (upA (upA (setRow A 106 (280 * r) 280 (fun x => if x = sq then 1000000 else 0)) 107 r z) 108 r 0) 109 r 0) 110 r 0)))) := by
  refine ab_enter (by decide) (by simp [aI, aR, aX, ab_val, Value.category]) (Nat.le_of_ble_eq_true rfl) (fun E C hr => ?_)
  refine j_eq (lv' := [some (aR 100), some (aI sq), some (aI z), none, none, none]) ?_
  refine j_aload_n C dX10_tell_0 rfl rfl ?_
  refine j_iconst C dX10_tell_1 ?_
  refine j_putI C fp_X10_3 (sM_100 hS) rfl dX10_tell_2 ?_
  refine j_aload_n C dX10_tell_5 rfl rfl ?_
  refine j_iload_n C dX10_tell_6 rfl rfl ?_
  refine j_callS C (vs := [aI sq]) (st := [aR 100]) cl_X10_107 sc_yX10_noSquare (fun _ => m_noSquare _ S (upF F 100 0 0) A hS _ r1) rfl ⟨rfl, rfl, by decide, by decide⟩ ⟨by decide, by decide⟩ (fun _ => Nat.le_of_ble_eq_true rfl) (fun v hv => by simp only [List.mem_cons, List.not_mem_nil, or_false] at hv; rcases hv with rfl <;> first | exact (lM_100 hS)) (fun v hv => by simp only [List.mem_cons, List.not_mem_nil, or_false, Option.some.injEq, reduceCtorEq, false_or] at hv; rcases hv with rfl | rfl | rfl <;> first | exact (lM_100 hS) | exact trivial) dX10_tell_7 (fun v_7 S_7 F_7 A_7 hP_7 => ?_)
  obtain ⟨rfl, rfl, rfl, z_7, rfl, ⟨rfl, hz_7⟩ | ⟨rfl, hz_7⟩⟩ := hP_7
  · show ab_J E 6 0 0 S (upF F 100 0 0) A 10 [some (aR 100), some (aI sq), some (aI z), none, none, none] [aI 1, aR 100]
    refine j_iconst C dX10_tell_10 ?_
    refine j_callV C (vs := [aI 1, aI 1]) (st := []) cl_X10_111 im_yX10_throwsIf se_yX10_throwsIf (fun _ => m_throwsIf1 _ S (upF F 100 0 0) A hS _) (sM_100 hS) rfl rfl rfl ⟨rfl, rfl, by decide, by decide⟩ ⟨by decide, by decide⟩ (fun _ => Nat.le_of_ble_eq_true rfl) (fun v hv => by cases hv) (fun v hv => by simp only [List.mem_cons, List.not_mem_nil, or_false, Option.some.injEq, reduceCtorEq, false_or] at hv; rcases hv with rfl | rfl | rfl <;> first | exact (lM_100 hS) | exact trivial) dX10_tell_11 (fun v_11 S_11 F_11 A_11 hP_11 => ?_)
    obtain ⟨rfl, rfl, rfl, rfl⟩ := hP_11
    show ab_J E 6 0 0 S (upF (upF F 100 0 0) 100 0 1) A 14 [some (aR 100), some (aI sq), some (aI z), none, none, none] [aI 1]
    refine j_if_ne C (tgt := 50) dX10_tell_14 (by decide) ⟨by omega, by omega⟩ (fun c14 => ?_) (fun c14 => ?_)
    · refine j_iconst C dX10_tell_50 ?_
      exact j_iret C hr (Nat.le_refl _) (Nat.le_refl _) dX10_tell_51 ⟨rfl, 1, _, rfl, (by first | exact Or.inl ⟨rfl, by omega, upF_up _ _ _ _ _, rfl⟩ | exact Or.inr (Or.inl ⟨rfl, by omega, by omega, upF_up _ _ _ _ _, rfl⟩) | exact Or.inr (Or.inr (Or.inl ⟨rfl, by omega, by omega, (by have e1 : best = -1 := (by omega); rw [e1] at hbest; exact hbest), by omega, upF_up _ _ _ _ _, rfl⟩)) | exact Or.inr (Or.inr (Or.inr ⟨rfl, by omega, by omega, Or.inl ⟨(by have e1 : best = -1 := (by omega); rw [e1] at hbest; exact hbest), by omega, rfl, rfl⟩, rfl⟩)) | exact Or.inr (Or.inr (Or.inr ⟨rfl, by omega, by omega, Or.inr ⟨hbest, by omega, rfl⟩, rfl⟩)))⟩
    · exact absurd c14 (by decide)
  · show ab_J E 6 0 0 S (upF F 100 0 0) A 10 [some (aR 100), some (aI sq), some (aI z), none, none, none] [aI 0, aR 100]
    refine j_iconst C dX10_tell_10 ?_
    refine j_callV C (vs := [aI 0, aI 1]) (st := []) cl_X10_111 im_yX10_throwsIf se_yX10_throwsIf (fun _ => m_throwsIf0 _ S (upF F 100 0 0) A hS _) (sM_100 hS) rfl rfl rfl ⟨rfl, rfl, by decide, by decide⟩ ⟨by decide, by decide⟩ (fun _ => Nat.le_of_ble_eq_true rfl) (fun v hv => by cases hv) (fun v hv => by simp only [List.mem_cons, List.not_mem_nil, or_false, Option.some.injEq, reduceCtorEq, false_or] at hv; rcases hv with rfl | rfl | rfl <;> first | exact (lM_100 hS) | exact trivial) dX10_tell_11 (fun v_11 S_11 F_11 A_11 hP_11 => ?_)
    obtain ⟨rfl, rfl, rfl, rfl⟩ := hP_11
    show ab_J E 6 0 0 S (upF F 100 0 0) A 14 [some (aR 100), some (aI sq), some (aI z), none, none, none] [aI 0]
    refine j_if_ne C (tgt := 50) dX10_tell_14 (by decide) ⟨by omega, by omega⟩ (fun c14 => ?_) (fun c14 => ?_)
    · exact absurd c14 (by decide)
    · refine j_aload_n C dX10_tell_17 rfl rfl ?_
      refine j_iload_n C dX10_tell_18 rfl rfl ?_
      refine j_iconst C dX10_tell_19 ?_
      refine j_sipush C dX10_tell_20 rfl ?_
      refine j_callS C (vs := [aI z, aI 1, aI 1000]) (st := [aR 100]) cl_X10_97 sc_yX10_in (fun _ => m_in _ S (upF F 100 0 0) A hS _ _ _ r2 ⟨by omega, by omega⟩ ⟨by omega, by omega⟩) rfl ⟨rfl, rfl, by decide, by decide⟩ ⟨by decide, by decide⟩ (fun _ => Nat.le_of_ble_eq_true rfl) (fun v hv => by simp only [List.mem_cons, List.not_mem_nil, or_false] at hv; rcases hv with rfl <;> first | exact (lM_100 hS)) (fun v hv => by simp only [List.mem_cons, List.not_mem_nil, or_false, Option.some.injEq, reduceCtorEq, false_or] at hv; rcases hv with rfl | rfl | rfl <;> first | exact (lM_100 hS) | exact trivial) dX10_tell_23 (fun v_23 S_23 F_23 A_23 hP_23 => ?_)
      obtain ⟨rfl, rfl, rfl, z_23, rfl, ⟨rfl, hz_23⟩ | ⟨rfl, hz_23⟩⟩ := hP_23
      · show ab_J E 6 0 0 S (upF F 100 0 0) A 26 [some (aR 100), some (aI sq), some (aI z), none, none, none] [aI 1, aR 100]
        refine j_if_eq C (tgt := 38) dX10_tell_26 (by decide) ⟨by omega, by omega⟩ (fun c26 => ?_) (fun c26 => ?_)
        · exact absurd c26 (by decide)
        · refine j_aload_n C dX10_tell_29 rfl rfl ?_
          refine j_getR C (j := 101) fl_X10_13 (sM_100 hS) rfl dX10_tell_30 ?_
          refine j_iload_n C dX10_tell_33 rfl rfl ?_
          have hll := hl sq (by omega) (by omega)
          refine j_zald C (sM_101 hS) (by omega) (by omega) (by decide) dX10_tell_34 ?_
          refine j_if_eq C (tgt := 42) dX10_tell_35 (by decide) ⟨by omega, by omega⟩ (fun c35 => ?_) (fun c35 => ?_)
          · refine j_iconst C dX10_tell_42 ?_
            refine j_iconst C dX10_tell_43 ?_
            refine j_callV C (vs := [aI 0, aI 2]) (st := []) cl_X10_111 im_yX10_throwsIf se_yX10_throwsIf (fun _ => m_throwsIf0 _ S (upF F 100 0 0) A hS _) (sM_100 hS) rfl rfl rfl ⟨rfl, rfl, by decide, by decide⟩ ⟨by decide, by decide⟩ (fun _ => Nat.le_of_ble_eq_true rfl) (fun v hv => by cases hv) (fun v hv => by simp only [List.mem_cons, List.not_mem_nil, or_false, Option.some.injEq, reduceCtorEq, false_or] at hv; rcases hv with rfl | rfl | rfl <;> first | exact (lM_100 hS) | exact trivial) dX10_tell_44 (fun v_44 S_44 F_44 A_44 hP_44 => ?_)
            obtain ⟨rfl, rfl, rfl, rfl⟩ := hP_44
            show ab_J E 6 0 0 S (upF F 100 0 0) A 47 [some (aR 100), some (aI sq), some (aI z), none, none, none] [aI 0]
            refine j_if_eq C (tgt := 52) dX10_tell_47 (by decide) ⟨by omega, by omega⟩ (fun c47 => ?_) (fun c47 => ?_)
            · refine j_iconst C dX10_tell_52 ?_
              refine j_istore_n C (lv' := [some (aR 100), some (aI sq), some (aI z), some (aI ((-1))), none, none]) dX10_tell_53 rfl (by decide) rfl ?_
              refine j_iconst C dX10_tell_54 ?_
              refine j_istore C (lv' := [some (aR 100), some (aI sq), some (aI z), some (aI ((-1))), some (aI 0), none]) dX10_tell_55 (by decide) rfl ?_
              have K57 : ∀ (N : Nat) (best b : Int), (0 ≤ b ∧ b ≤ F 100 11) → (bBest U sq z b best) → ((F 100 11 - b).toNat) < N → ab_J E 6 0 0 S (upF F 100 0 0) A 57 [some (aR 100), some (aI sq), some (aI z), some (aI best), some (aI b), none] [] := by
                intro N
                induction N with
                | zero => intro best b hb0 hbest hm; exact absurd hm (Nat.not_lt_zero _)
                | succ N ih =>
                  have ih57 := ih
                  clear ih
                  intro best b hb0 hbest hm57
                  have hbr := bBest_rng hbest
                  refine j_iload C dX10_tell_57 rfl ?_
                  refine j_aload_n C dX10_tell_59 rfl rfl ?_
                  refine j_get C (aI (F 100 11)) fl_X10_101 (sM_100 hS) (fun _ => rfl) dX10_tell_60 ?_
                  refine j_icmp_ge C (tgt := 137) dX10_tell_63 (by decide) ⟨by omega, by omega⟩ ⟨by omega, by omega⟩ (fun c63 => ?_) (fun c63 => ?_)
                  · have e : b = F 100 11 := by omega
                    rw [e] at hbest
                    refine j_aload_n C dX10_tell_137 rfl rfl ?_
                    refine j_iload_n C dX10_tell_138 rfl rfl ?_
                    refine j_if_ge C (tgt := 155) dX10_tell_139 (by decide) ⟨by omega, by omega⟩ (fun c139 => ?_) (fun c139 => ?_)
                    · refine j_iconst C dX10_tell_155 ?_
                      refine j_iconst C dX10_tell_156 ?_
                      refine j_callV C (vs := [aI 0, aI 3]) (st := []) cl_X10_111 im_yX10_throwsIf se_yX10_throwsIf (fun _ => m_throwsIf0 _ S (upF F 100 0 0) A hS _) (sM_100 hS) rfl rfl rfl ⟨rfl, rfl, by decide, by decide⟩ ⟨by decide, by decide⟩ (fun _ => Nat.le_of_ble_eq_true rfl) (fun v hv => by cases hv) (fun v hv => by simp only [List.mem_cons, List.not_mem_nil, or_false, Option.some.injEq, reduceCtorEq, false_or] at hv; rcases hv with rfl | rfl | rfl | rfl | rfl <;> first | exact (lM_100 hS) | exact trivial) dX10_tell_157 (fun v_157 S_157 F_157 A_157 hP_157 => ?_)
                      obtain ⟨rfl, rfl, rfl, rfl⟩ := hP_157
                      show ab_J E 6 0 0 S (upF F 100 0 0) A 160 [some (aR 100), some (aI sq), some (aI z), some (aI best), some (aI b), none] [aI 0]
                      refine j_if_eq C (tgt := 165) dX10_tell_160 (by decide) ⟨by omega, by omega⟩ (fun c160 => ?_) (fun c160 => ?_)
                      · refine j_iload_n C dX10_tell_165 rfl rfl ?_
                        refine j_if_ge C (tgt := 187) dX10_tell_166 (by decide) ⟨by omega, by omega⟩ (fun c166 => ?_) (fun c166 => ?_)
                        · refine j_aload_n C dX10_tell_187 rfl rfl ?_
                          refine j_dup C dX10_tell_188 (fun _ => rfl) ?_
                          refine j_get C (aI (F 100 12)) fl_X10_119 (sM_100 hS) (fun _ => rfl) dX10_tell_189 ?_
                          refine j_iconst C dX10_tell_192 ?_
                          refine j_iadd C dX10_tell_193 ?_
                          refine j_putI C fp_X10_119 (sM_100 hS) rfl dX10_tell_194 ?_
                          refine j_aload_n C dX10_tell_197 rfl rfl ?_
                          refine j_iload_n C dX10_tell_198 rfl rfl ?_
                          refine j_iload_n C dX10_tell_199 rfl rfl ?_
                          refine j_iload_n C dX10_tell_200 rfl rfl ?_
                          refine j_callV C (vs := [aI best, aI sq, aI z]) (st := []) cl_X10_122 im_yX10_puts se_yX10_puts (fun _ => m_puts _ S (upF (upF F 100 0 0) 100 12 ((F 100 12) + 1)) A hS _ _ _ (by omega) (by omega)) (sM_100 hS) rfl rfl rfl ⟨rfl, rfl, by decide, by decide⟩ ⟨by decide, by decide⟩ (fun _ => Nat.le_of_ble_eq_true rfl) (fun v hv => by cases hv) (fun v hv => by simp only [List.mem_cons, List.not_mem_nil, or_false, Option.some.injEq, reduceCtorEq, false_or] at hv; rcases hv with rfl | rfl | rfl | rfl | rfl <;> first | exact (lM_100 hS) | exact trivial) dX10_tell_201 (fun v_201 S_201 F_201 A_201 hP_201 => ?_)
                          obtain ⟨rfl, rfl, rfl, rfl⟩ := hP_201
                          show ab_J E 6 0 0 S (upF (upF F 100 0 0) 100 12 ((F 100 12) + 1)) (upA (upA (upA (upA (setRow A 106 (280 * best) 280 (fun x => if x = sq then 1000000 else 0)) 107 best z) 108 best 0) 109 best 0) 110 best 0) 204 [some (aR 100), some (aI sq), some (aI z), some (aI best), some (aI b), none] []
                          refine j_iload_n C dX10_tell_204 rfl rfl ?_
                          exact j_iret C hr (Nat.le_refl _) (Nat.le_refl _) dX10_tell_205 ⟨rfl, 0, _, rfl, (by first | exact Or.inl ⟨rfl, by omega, upF_up _ _ _ _ _, rfl⟩ | exact Or.inr (Or.inl ⟨rfl, by omega, by omega, upF_up _ _ _ _ _, rfl⟩) | exact Or.inr (Or.inr (Or.inl ⟨rfl, by omega, by omega, (by have e1 : best = -1 := (by omega); rw [e1] at hbest; exact hbest), by omega, upF_up _ _ _ _ _, rfl⟩)) | exact Or.inr (Or.inr (Or.inr ⟨rfl, by omega, by omega, Or.inl ⟨(by have e1 : best = -1 := (by omega); rw [e1] at hbest; exact hbest), by omega, rfl, rfl⟩, rfl⟩)) | exact Or.inr (Or.inr (Or.inr ⟨rfl, by omega, by omega, Or.inr ⟨hbest, by omega, rfl⟩, rfl⟩)))⟩
                        · exfalso; omega
                      · exact absurd c160 (by decide)
                    · refine j_aload_n C dX10_tell_142 rfl rfl ?_
                      refine j_get C (aI (F 100 11)) fl_X10_101 (sM_100 hS) (fun _ => rfl) dX10_tell_143 ?_
                      refine j_bipush C dX10_tell_146 rfl ?_
                      refine j_icmp_ne C (tgt := 155) dX10_tell_148 (by decide) ⟨by omega, by omega⟩ ⟨by omega, by omega⟩ (fun c148 => ?_) (fun c148 => ?_)
                      · refine j_iconst C dX10_tell_155 ?_
                        refine j_iconst C dX10_tell_156 ?_
                        refine j_callV C (vs := [aI 0, aI 3]) (st := []) cl_X10_111 im_yX10_throwsIf se_yX10_throwsIf (fun _ => m_throwsIf0 _ S (upF F 100 0 0) A hS _) (sM_100 hS) rfl rfl rfl ⟨rfl, rfl, by decide, by decide⟩ ⟨by decide, by decide⟩ (fun _ => Nat.le_of_ble_eq_true rfl) (fun v hv => by cases hv) (fun v hv => by simp only [List.mem_cons, List.not_mem_nil, or_false, Option.some.injEq, reduceCtorEq, false_or] at hv; rcases hv with rfl | rfl | rfl | rfl | rfl <;> first | exact (lM_100 hS) | exact trivial) dX10_tell_157 (fun v_157 S_157 F_157 A_157 hP_157 => ?_)
                        obtain ⟨rfl, rfl, rfl, rfl⟩ := hP_157
                        show ab_J E 6 0 0 S (upF F 100 0 0) A 160 [some (aR 100), some (aI sq), some (aI z), some (aI best), some (aI b), none] [aI 0]
                        refine j_if_eq C (tgt := 165) dX10_tell_160 (by decide) ⟨by omega, by omega⟩ (fun c160 => ?_) (fun c160 => ?_)
                        · refine j_iload_n C dX10_tell_165 rfl rfl ?_
                          refine j_if_ge C (tgt := 187) dX10_tell_166 (by decide) ⟨by omega, by omega⟩ (fun c166 => ?_) (fun c166 => ?_)
                          · exfalso; omega
                          · refine j_aload_n C dX10_tell_169 rfl rfl ?_
                            refine j_get C (aI (F 100 11)) fl_X10_101 (sM_100 hS) (fun _ => rfl) dX10_tell_170 ?_
                            refine j_istore_n C (lv' := [some (aR 100), some (aI sq), some (aI z), some (aI (F 100 11)), some (aI b), none]) dX10_tell_173 rfl (by decide) rfl ?_
                            refine j_aload_n C dX10_tell_174 rfl rfl ?_
                            refine j_dup C dX10_tell_175 (fun _ => rfl) ?_
                            refine j_get C (aI (F 100 11)) fl_X10_101 (sM_100 hS) (fun _ => rfl) dX10_tell_176 ?_
                            refine j_iconst C dX10_tell_179 ?_
                            refine j_iadd C dX10_tell_180 ?_
                            refine j_putI C fp_X10_101 (sM_100 hS) rfl dX10_tell_181 ?_
                            refine j_goto C (tgt := 197) dX10_tell_184 (by decide) ?_
                            refine j_aload_n C dX10_tell_197 rfl rfl ?_
                            refine j_iload_n C dX10_tell_198 rfl rfl ?_
                            refine j_iload_n C dX10_tell_199 rfl rfl ?_
                            refine j_iload_n C dX10_tell_200 rfl rfl ?_
                            refine j_callV C (vs := [aI (F 100 11), aI sq, aI z]) (st := []) cl_X10_122 im_yX10_puts se_yX10_puts (fun _ => m_puts _ S (upF (upF F 100 0 0) 100 11 ((F 100 11) + 1)) A hS _ _ _ (by omega) (by omega)) (sM_100 hS) rfl rfl rfl ⟨rfl, rfl, by decide, by decide⟩ ⟨by decide, by decide⟩ (fun _ => Nat.le_of_ble_eq_true rfl) (fun v hv => by cases hv) (fun v hv => by simp only [List.mem_cons, List.not_mem_nil, or_false, Option.some.injEq, reduceCtorEq, false_or] at hv; rcases hv with rfl | rfl | rfl | rfl | rfl <;> first | exact (lM_100 hS) | exact trivial) dX10_tell_201 (fun v_201 S_201 F_201 A_201 hP_201 => ?_)
                            obtain ⟨rfl, rfl, rfl, rfl⟩ := hP_201
                            show ab_J E 6 0 0 S (upF (upF F 100 0 0) 100 11 ((F 100 11) + 1)) (upA (upA (upA (upA (setRow A 106 (280 * (F 100 11)) 280 (fun x => if x = sq then 1000000 else 0)) 107 (F 100 11) z) 108 (F 100 11) 0) 109 (F 100 11) 0) 110 (F 100 11) 0) 204 [some (aR 100), some (aI sq), some (aI z), some (aI (F 100 11)), some (aI b), none] []
                            refine j_iload_n C dX10_tell_204 rfl rfl ?_
                            exact j_iret C hr (Nat.le_refl _) (Nat.le_refl _) dX10_tell_205 ⟨rfl, 0, _, rfl, (by first | exact Or.inl ⟨rfl, by omega, upF_up _ _ _ _ _, rfl⟩ | exact Or.inr (Or.inl ⟨rfl, by omega, by omega, upF_up _ _ _ _ _, rfl⟩) | exact Or.inr (Or.inr (Or.inl ⟨rfl, by omega, by omega, (by have e1 : best = -1 := (by omega); rw [e1] at hbest; exact hbest), by omega, upF_up _ _ _ _ _, rfl⟩)) | exact Or.inr (Or.inr (Or.inr ⟨rfl, by omega, by omega, Or.inl ⟨(by have e1 : best = -1 := (by omega); rw [e1] at hbest; exact hbest), by omega, rfl, rfl⟩, rfl⟩)) | exact Or.inr (Or.inr (Or.inr ⟨rfl, by omega, by omega, Or.inr ⟨hbest, by omega, rfl⟩, rfl⟩)))⟩
                        · exact absurd c160 (by decide)
                      · refine j_iconst C dX10_tell_151 ?_
                        refine j_goto C (tgt := 156) dX10_tell_152 (by decide) ?_
                        refine j_iconst C dX10_tell_156 ?_
                        refine j_callV C (vs := [aI 1, aI 3]) (st := []) cl_X10_111 im_yX10_throwsIf se_yX10_throwsIf (fun _ => m_throwsIf1 _ S (upF F 100 0 0) A hS _) (sM_100 hS) rfl rfl rfl ⟨rfl, rfl, by decide, by decide⟩ ⟨by decide, by decide⟩ (fun _ => Nat.le_of_ble_eq_true rfl) (fun v hv => by cases hv) (fun v hv => by simp only [List.mem_cons, List.not_mem_nil, or_false, Option.some.injEq, reduceCtorEq, false_or] at hv; rcases hv with rfl | rfl | rfl | rfl | rfl <;> first | exact (lM_100 hS) | exact trivial) dX10_tell_157 (fun v_157 S_157 F_157 A_157 hP_157 => ?_)
                        obtain ⟨rfl, rfl, rfl, rfl⟩ := hP_157
                        show ab_J E 6 0 0 S (upF (upF F 100 0 0) 100 0 3) A 160 [some (aR 100), some (aI sq), some (aI z), some (aI best), some (aI b), none] [aI 1]
                        refine j_if_eq C (tgt := 165) dX10_tell_160 (by decide) ⟨by omega, by omega⟩ (fun c160 => ?_) (fun c160 => ?_)
                        · exact absurd c160 (by decide)
                        · refine j_iconst C dX10_tell_163 ?_
                          exact j_iret C hr (Nat.le_refl _) (Nat.le_refl _) dX10_tell_164 ⟨rfl, 3, _, rfl, (by first | exact Or.inl ⟨rfl, by omega, upF_up _ _ _ _ _, rfl⟩ | exact Or.inr (Or.inl ⟨rfl, by omega, by omega, upF_up _ _ _ _ _, rfl⟩) | exact Or.inr (Or.inr (Or.inl ⟨rfl, by omega, by omega, (by have e1 : best = -1 := (by omega); rw [e1] at hbest; exact hbest), by omega, upF_up _ _ _ _ _, rfl⟩)) | exact Or.inr (Or.inr (Or.inr ⟨rfl, by omega, by omega, Or.inl ⟨(by have e1 : best = -1 := (by omega); rw [e1] at hbest; exact hbest), by omega, rfl, rfl⟩, rfl⟩)) | exact Or.inr (Or.inr (Or.inr ⟨rfl, by omega, by omega, Or.inr ⟨hbest, by omega, rfl⟩, rfl⟩)))⟩
                  · refine j_aload_n C dX10_tell_66 rfl rfl ?_
                    refine j_getR C (j := 106) fl_X10_27 (sM_100 hS) rfl dX10_tell_67 ?_
                    refine j_sipush C dX10_tell_70 rfl ?_
                    refine j_iload C dX10_tell_73 rfl ?_
                    refine j_imul C dX10_tell_75 ?_
                    refine j_iload_n C dX10_tell_76 rfl rfl ?_
                    refine j_iadd C dX10_tell_77 ?_
                    have q78 := hU b (by omega) (by omega)
                    have l78 := q78.2.le (k := sq) (by omega) (by omega)
                    have g78 := q78.2.2.2.2.2.1
                    have s78 := q78.2.2.2.1
                    have s79 := q78.2.2.2.2.1
                    refine j_iald C (sM_106 hS) (by omega) (by omega) (by decide) dX10_tell_78 ?_
                    refine j_eq (st' := [aI ((U b).1 sq)]) ?_ (e1 := by first | rfl | (simp only [List.cons.injEq, and_true]; exact congrArg aI (q78.1.1 sq (by omega) (by omega))))
                    refine j_istore C (lv' := [some (aR 100), some (aI sq), some (aI z), some (aI best), some (aI b), some (aI ((U b).1 sq))]) dX10_tell_79 (by decide) rfl ?_
                    refine j_aload_n C dX10_tell_81 rfl rfl ?_
                    refine j_getR C (j := 110) fl_X10_39 (sM_100 hS) rfl dX10_tell_82 ?_
                    refine j_iload C dX10_tell_85 rfl ?_
                    refine j_zald C (sM_110 hS) (by omega) (by omega) (by decide) dX10_tell_87 ?_
                    refine j_eq (st' := [aI ((U b).2.2.2.2)]) ?_ (e1 := by first | rfl | (simp only [List.cons.injEq, and_true]; exact congrArg aI (q78.1.2.2.2.2)))
                    refine j_if_ne C (tgt := 131) dX10_tell_88 (by decide) ⟨by omega, by omega⟩ (fun c88 => ?_) (fun c88 => ?_)
                    · refine j_iinc C (lv' := [some (aR 100), some (aI sq), some (aI z), some (aI best), some (aI (b + 1)), some (aI ((U b).1 sq))]) dX10_tell_131 rfl (by decide) rfl ?_
                      refine j_goto C (tgt := 57) dX10_tell_134 (by decide) ?_
                      refine j_lv (lv' := [some (aR 100), some (aI sq), some (aI z), some (aI best), some (aI (b + 1)), none]) ?_ ⟨rfl, rfl, rfl, rfl, rfl, trivial⟩
                      exact ih57 best (b + 1) (by omega) (by first | exact bBest_no hb0.1 hbest (fun q => by have q1 := q.1; have q2 := q.2.1; have q3 := q.2.2; omega) | exact bBest_less hb0.1 hbest (by omega) (by omega) | exact bBest_new hb0.1 hbest ⟨by omega, by omega, by omega⟩ (by omega)) (by omega)
                    · refine j_iload C dX10_tell_91 rfl ?_
                      refine j_if_le C (tgt := 131) dX10_tell_93 (by decide) ⟨by omega, by omega⟩ (fun c93 => ?_) (fun c93 => ?_)
                      · refine j_iinc C (lv' := [some (aR 100), some (aI sq), some (aI z), some (aI best), some (aI (b + 1)), some (aI ((U b).1 sq))]) dX10_tell_131 rfl (by decide) rfl ?_
                        refine j_goto C (tgt := 57) dX10_tell_134 (by decide) ?_
                        refine j_lv (lv' := [some (aR 100), some (aI sq), some (aI z), some (aI best), some (aI (b + 1)), none]) ?_ ⟨rfl, rfl, rfl, rfl, rfl, trivial⟩
                        exact ih57 best (b + 1) (by omega) (by first | exact bBest_no hb0.1 hbest (fun q => by have q1 := q.1; have q2 := q.2.1; have q3 := q.2.2; omega) | exact bBest_less hb0.1 hbest (by omega) (by omega) | exact bBest_new hb0.1 hbest ⟨by omega, by omega, by omega⟩ (by omega)) (by omega)
                      · refine j_aload_n C dX10_tell_96 rfl rfl ?_
                        refine j_getR C (j := 107) fl_X10_30 (sM_100 hS) rfl dX10_tell_97 ?_
                        refine j_iload C dX10_tell_100 rfl ?_
                        refine j_iald C (sM_107 hS) (by omega) (by omega) (by decide) dX10_tell_102 ?_
                        refine j_eq (st' := [aI ((U b).2.1)]) ?_ (e1 := by first | rfl | (simp only [List.cons.injEq, and_true]; exact congrArg aI (q78.1.2.1)))
                        refine j_iload_n C dX10_tell_103 rfl rfl ?_
                        refine j_icmp_lt C (tgt := 131) dX10_tell_104 (by decide) ⟨by omega, by omega⟩ ⟨by omega, by omega⟩ (fun c104 => ?_) (fun c104 => ?_)
                        · refine j_iinc C (lv' := [some (aR 100), some (aI sq), some (aI z), some (aI best), some (aI (b + 1)), some (aI ((U b).1 sq))]) dX10_tell_131 rfl (by decide) rfl ?_
                          refine j_goto C (tgt := 57) dX10_tell_134 (by decide) ?_
                          refine j_lv (lv' := [some (aR 100), some (aI sq), some (aI z), some (aI best), some (aI (b + 1)), none]) ?_ ⟨rfl, rfl, rfl, rfl, rfl, trivial⟩
                          exact ih57 best (b + 1) (by omega) (by first | exact bBest_no hb0.1 hbest (fun q => by have q1 := q.1; have q2 := q.2.1; have q3 := q.2.2; omega) | exact bBest_less hb0.1 hbest (by omega) (by omega) | exact bBest_new hb0.1 hbest ⟨by omega, by omega, by omega⟩ (by omega)) (by omega)
                        · refine j_iload_n C dX10_tell_107 rfl rfl ?_
                          refine j_if_lt C (tgt := 128) dX10_tell_108 (by decide) ⟨by omega, by omega⟩ (fun c108 => ?_) (fun c108 => ?_)
                          · refine j_iload C dX10_tell_128 rfl ?_
                            refine j_istore_n C (lv' := [some (aR 100), some (aI sq), some (aI z), some (aI b), some (aI b), some (aI ((U b).1 sq))]) dX10_tell_130 rfl (by decide) rfl ?_
                            refine j_iinc C (lv' := [some (aR 100), some (aI sq), some (aI z), some (aI b), some (aI (b + 1)), some (aI ((U b).1 sq))]) dX10_tell_131 rfl (by decide) rfl ?_
                            refine j_goto C (tgt := 57) dX10_tell_134 (by decide) ?_
                            refine j_lv (lv' := [some (aR 100), some (aI sq), some (aI z), some (aI b), some (aI (b + 1)), none]) ?_ ⟨rfl, rfl, rfl, rfl, rfl, trivial⟩
                            exact ih57 b (b + 1) (by omega) (by first | exact bBest_no hb0.1 hbest (fun q => by have q1 := q.1; have q2 := q.2.1; have q3 := q.2.2; omega) | exact bBest_less hb0.1 hbest (by omega) (by omega) | exact bBest_new hb0.1 hbest ⟨by omega, by omega, by omega⟩ (by omega)) (by omega)
                          · refine j_iload C dX10_tell_111 rfl ?_
                            refine j_aload_n C dX10_tell_113 rfl rfl ?_
                            refine j_getR C (j := 106) fl_X10_27 (sM_100 hS) rfl dX10_tell_114 ?_
                            refine j_sipush C dX10_tell_117 rfl ?_
                            refine j_iload_n C dX10_tell_120 rfl rfl ?_
                            refine j_imul C dX10_tell_121 ?_
                            refine j_iload_n C dX10_tell_122 rfl rfl ?_
                            refine j_iadd C dX10_tell_123 ?_
                            have q124 := hU best (by omega) (by omega)
                            have l124 := q124.2.le (k := sq) (by omega) (by omega)
                            refine j_iald C (sM_106 hS) (by omega) (by omega) (by decide) dX10_tell_124 ?_
                            refine j_eq (st' := [aI ((U best).1 sq), aI ((U b).1 sq)]) ?_ (e1 := by first | rfl | (simp only [List.cons.injEq, and_true]; exact congrArg aI (q124.1.1 sq (by omega) (by omega))))
                            refine j_icmp_le C (tgt := 131) dX10_tell_125 (by decide) ⟨by omega, by omega⟩ ⟨by omega, by omega⟩ (fun c125 => ?_) (fun c125 => ?_)
                            · refine j_iinc C (lv' := [some (aR 100), some (aI sq), some (aI z), some (aI best), some (aI (b + 1)), some (aI ((U b).1 sq))]) dX10_tell_131 rfl (by decide) rfl ?_
                              refine j_goto C (tgt := 57) dX10_tell_134 (by decide) ?_
                              refine j_lv (lv' := [some (aR 100), some (aI sq), some (aI z), some (aI best), some (aI (b + 1)), none]) ?_ ⟨rfl, rfl, rfl, rfl, rfl, trivial⟩
                              exact ih57 best (b + 1) (by omega) (by first | exact bBest_no hb0.1 hbest (fun q => by have q1 := q.1; have q2 := q.2.1; have q3 := q.2.2; omega) | exact bBest_less hb0.1 hbest (by omega) (by omega) | exact bBest_new hb0.1 hbest ⟨by omega, by omega, by omega⟩ (by omega)) (by omega)
                            · refine j_iload C dX10_tell_128 rfl ?_
                              refine j_istore_n C (lv' := [some (aR 100), some (aI sq), some (aI z), some (aI b), some (aI b), some (aI ((U b).1 sq))]) dX10_tell_130 rfl (by decide) rfl ?_
                              refine j_iinc C (lv' := [some (aR 100), some (aI sq), some (aI z), some (aI b), some (aI (b + 1)), some (aI ((U b).1 sq))]) dX10_tell_131 rfl (by decide) rfl ?_
                              refine j_goto C (tgt := 57) dX10_tell_134 (by decide) ?_
                              refine j_lv (lv' := [some (aR 100), some (aI sq), some (aI z), some (aI b), some (aI (b + 1)), none]) ?_ ⟨rfl, rfl, rfl, rfl, rfl, trivial⟩
                              exact ih57 b (b + 1) (by omega) (by first | exact bBest_no hb0.1 hbest (fun q => by have q1 := q.1; have q2 := q.2.1; have q3 := q.2.2; omega) | exact bBest_less hb0.1 hbest (by omega) (by omega) | exact bBest_new hb0.1 hbest ⟨by omega, by omega, by omega⟩ (by omega)) (by omega)
              exact K57 _ ((-1)) 0 (by omega) bBest_0 (Nat.lt_succ_self _)
            · exact absurd c47 (by decide)
          · refine j_iconst C dX10_tell_38 ?_
            refine j_goto C (tgt := 43) dX10_tell_39 (by decide) ?_
            refine j_iconst C dX10_tell_43 ?_
            refine j_callV C (vs := [aI 1, aI 2]) (st := []) cl_X10_111 im_yX10_throwsIf se_yX10_throwsIf (fun _ => m_throwsIf1 _ S (upF F 100 0 0) A hS _) (sM_100 hS) rfl rfl rfl ⟨rfl, rfl, by decide, by decide⟩ ⟨by decide, by decide⟩ (fun _ => Nat.le_of_ble_eq_true rfl) (fun v hv => by cases hv) (fun v hv => by simp only [List.mem_cons, List.not_mem_nil, or_false, Option.some.injEq, reduceCtorEq, false_or] at hv; rcases hv with rfl | rfl | rfl <;> first | exact (lM_100 hS) | exact trivial) dX10_tell_44 (fun v_44 S_44 F_44 A_44 hP_44 => ?_)
            obtain ⟨rfl, rfl, rfl, rfl⟩ := hP_44
            show ab_J E 6 0 0 S (upF (upF F 100 0 0) 100 0 2) A 47 [some (aR 100), some (aI sq), some (aI z), none, none, none] [aI 1]
            refine j_if_eq C (tgt := 52) dX10_tell_47 (by decide) ⟨by omega, by omega⟩ (fun c47 => ?_) (fun c47 => ?_)
            · exact absurd c47 (by decide)
            · refine j_iconst C dX10_tell_50 ?_
              exact j_iret C hr (Nat.le_refl _) (Nat.le_refl _) dX10_tell_51 ⟨rfl, 2, _, rfl, (by first | exact Or.inl ⟨rfl, by omega, upF_up _ _ _ _ _, rfl⟩ | exact Or.inr (Or.inl ⟨rfl, by omega, by omega, upF_up _ _ _ _ _, rfl⟩) | exact Or.inr (Or.inr (Or.inl ⟨rfl, by omega, by omega, (by have e1 : best = -1 := (by omega); rw [e1] at hbest; exact hbest), by omega, upF_up _ _ _ _ _, rfl⟩)) | exact Or.inr (Or.inr (Or.inr ⟨rfl, by omega, by omega, Or.inl ⟨(by have e1 : best = -1 := (by omega); rw [e1] at hbest; exact hbest), by omega, rfl, rfl⟩, rfl⟩)) | exact Or.inr (Or.inr (Or.inr ⟨rfl, by omega, by omega, Or.inr ⟨hbest, by omega, rfl⟩, rfl⟩)))⟩
      · show ab_J E 6 0 0 S (upF F 100 0 0) A 26 [some (aR 100), some (aI sq), some (aI z), none, none, none] [aI 0, aR 100]
        refine j_if_eq C (tgt := 38) dX10_tell_26 (by decide) ⟨by omega, by omega⟩ (fun c26 => ?_) (fun c26 => ?_)
        · refine j_iconst C dX10_tell_38 ?_
          refine j_goto C (tgt := 43) dX10_tell_39 (by decide) ?_
          refine j_iconst C dX10_tell_43 ?_
          refine j_callV C (vs := [aI 1, aI 2]) (st := []) cl_X10_111 im_yX10_throwsIf se_yX10_throwsIf (fun _ => m_throwsIf1 _ S (upF F 100 0 0) A hS _) (sM_100 hS) rfl rfl rfl ⟨rfl, rfl, by decide, by decide⟩ ⟨by decide, by decide⟩ (fun _ => Nat.le_of_ble_eq_true rfl) (fun v hv => by cases hv) (fun v hv => by simp only [List.mem_cons, List.not_mem_nil, or_false, Option.some.injEq, reduceCtorEq, false_or] at hv; rcases hv with rfl | rfl | rfl <;> first | exact (lM_100 hS) | exact trivial) dX10_tell_44 (fun v_44 S_44 F_44 A_44 hP_44 => ?_)
          obtain ⟨rfl, rfl, rfl, rfl⟩ := hP_44
          show ab_J E 6 0 0 S (upF (upF F 100 0 0) 100 0 2) A 47 [some (aR 100), some (aI sq), some (aI z), none, none, none] [aI 1]
          refine j_if_eq C (tgt := 52) dX10_tell_47 (by decide) ⟨by omega, by omega⟩ (fun c47 => ?_) (fun c47 => ?_)
          · exact absurd c47 (by decide)
          · refine j_iconst C dX10_tell_50 ?_
            exact j_iret C hr (Nat.le_refl _) (Nat.le_refl _) dX10_tell_51 ⟨rfl, 2, _, rfl, (by first | exact Or.inl ⟨rfl, by omega, upF_up _ _ _ _ _, rfl⟩ | exact Or.inr (Or.inl ⟨rfl, by omega, by omega, upF_up _ _ _ _ _, rfl⟩) | exact Or.inr (Or.inr (Or.inl ⟨rfl, by omega, by omega, (by have e1 : best = -1 := (by omega); rw [e1] at hbest; exact hbest), by omega, upF_up _ _ _ _ _, rfl⟩)) | exact Or.inr (Or.inr (Or.inr ⟨rfl, by omega, by omega, Or.inl ⟨(by have e1 : best = -1 := (by omega); rw [e1] at hbest; exact hbest), by omega, rfl, rfl⟩, rfl⟩)) | exact Or.inr (Or.inr (Or.inr ⟨rfl, by omega, by omega, Or.inr ⟨hbest, by omega, rfl⟩, rfl⟩)))⟩
        · exact absurd c26 (by decide)

set_option maxHeartbeats 4000000 in
set_option maxRecDepth 100000 in
theorem m_count (l : Launch) (S : ab_St) (F : ab_Fn) (A : ab_An) (hS : ab_SM S) (w : Int) (rw1 : inR w) (hb : 0 ≤ F 100 11 ∧ F 100 11 ≤ 10) (hg : ∀ b, 0 ≤ b → b < F 100 11 → A 110 b = 0 ∨ A 110 b = 1) (hp : ∀ b k, 0 ≤ b → b < F 100 11 → 0 ≤ k → k < 280 → 0 ≤ A 106 (280 * b + k) ∧ A 106 (280 * b + k) ≤ 1000000) (hw : 0 ≤ F 100 18 ∧ F 100 18 ≤ 40) (hn : inR (F 100 5)) (hv : ∀ x, 0 ≤ x → x < F 100 18 → inR (A 116 x) ∧ inR (A 117 x)) : ab_Met l yX10_count cX10_count 4 (some .int) { frames := 1, cells := 0, slots := 0, locals := 23 } 0 0 [aR 100, aI w] S F A (fun v S' F' A' => S = S' ∧ A = A' ∧ F' = upF F 100 0 0 ∧ ∃ r : Int, v = some (aI r) ∧ ((w = 0 ∧ r = F 100 5) ∨ (w = 1 ∧ r = F 100 11) ∨ (w = 2 ∧ r = sm (fun x => if A 110 x = 0 then 1 else 0) (F 100 11).toNat) ∨ (w = 3 ∧ r = F 100 18) ∨ (w = 4 ∧ r = sm (fun x => if (A 116 x ≤ F 100 5 ∧ (A 117 x < 0 ∨ F 100 5 < A 117 x)) then 1 else 0) (F 100 18).toNat) ∨ (w = 5 ∧ r = sm (fun x => if 0 < sm (fun b => A 106 (280 * b + x)) (F 100 11).toNat then 1 else 0) 280) ∨ (w = 6 ∧ r = F 100 26) ∨ (w = 7 ∧ r = F 100 12) ∨ (¬ (0 ≤ w ∧ w ≤ 7) ∧ r = -1))) := by
  refine ab_enter (by decide) (by simp [aI, aR, aX, ab_val, Value.category]) (Nat.le_of_ble_eq_true rfl) (fun E C hr => ?_)
  refine j_eq (lv' := [some (aR 100), some (aI w), none, none]) ?_
  refine j_aload_n C dX10_count_0 rfl rfl ?_
  refine j_iconst C dX10_count_1 ?_
  refine j_putI C fp_X10_3 (sM_100 hS) rfl dX10_count_2 ?_
  refine j_iconst C dX10_count_5 ?_
  refine j_istore_n C (lv' := [some (aR 100), some (aI w), some (aI 0), none]) dX10_count_6 rfl (by decide) rfl ?_
  refine j_iload_n C dX10_count_7 rfl rfl ?_
  rcases (show w < 0 ∨ 7 < w ∨ w = 0 ∨ w = 1 ∨ w = 2 ∨ w = 3 ∨ w = 4 ∨ w = 5 ∨ w = 6 ∨ w = 7 by omega) with c8 | c8 | c8 | c8 | c8 | c8 | c8 | c8 | c8 | c8
  · refine j_tableOut C (tgt := 187) dX10_count_8 rw1 (Or.inl c8) (by decide) ?_
    refine j_iconst C dX10_count_187 ?_
    exact j_iret C hr (Nat.le_refl _) (Nat.le_refl _) dX10_count_188 ⟨rfl, rfl, rfl, _, rfl, (Or.inr (Or.inr (Or.inr (Or.inr (Or.inr (Or.inr (Or.inr (Or.inr (⟨by omega, rfl⟩)))))))))⟩
  · refine j_tableOut C (tgt := 187) dX10_count_8 rw1 (Or.inr c8) (by decide) ?_
    refine j_iconst C dX10_count_187 ?_
    exact j_iret C hr (Nat.le_refl _) (Nat.le_refl _) dX10_count_188 ⟨rfl, rfl, rfl, _, rfl, (Or.inr (Or.inr (Or.inr (Or.inr (Or.inr (Or.inr (Or.inr (Or.inr (⟨by omega, rfl⟩)))))))))⟩
  · refine j_tableIn C (tgt := 56) 0 dX10_count_8 c8 ⟨by omega, by omega⟩ (by decide) (by decide) rfl (by decide) ?_
    refine j_aload_n C dX10_count_56 rfl rfl ?_
    refine j_get C (aI (F 100 5)) fl_X10_140 (sM_100 hS) (fun _ => rfl) dX10_count_57 ?_
    exact j_iret C hr (Nat.le_refl _) (Nat.le_refl _) dX10_count_60 ⟨rfl, rfl, rfl, _, rfl, (Or.inl ⟨by omega, rfl⟩)⟩
  · refine j_tableIn C (tgt := 61) 1 dX10_count_8 c8 ⟨by omega, by omega⟩ (by decide) (by decide) rfl (by decide) ?_
    refine j_aload_n C dX10_count_61 rfl rfl ?_
    refine j_get C (aI (F 100 11)) fl_X10_101 (sM_100 hS) (fun _ => rfl) dX10_count_62 ?_
    exact j_iret C hr (Nat.le_refl _) (Nat.le_refl _) dX10_count_65 ⟨rfl, rfl, rfl, _, rfl, (Or.inr (Or.inl ⟨by omega, rfl⟩))⟩
  · refine j_tableIn C (tgt := 66) 2 dX10_count_8 c8 ⟨by omega, by omega⟩ (by decide) (by decide) rfl (by decide) ?_
    refine j_iconst C dX10_count_66 ?_
    refine j_istore_n C (lv' := [some (aR 100), some (aI w), some (aI 0), some (aI 0)]) dX10_count_67 rfl (by decide) rfl ?_
    have K68 : ∀ (N : Nat) (n b : Int), (0 ≤ b ∧ b ≤ F 100 11) → (n = sm (fun x => if A 110 x = 0 then 1 else 0) b.toNat) → ((F 100 11 - b).toNat) < N → ab_J E 4 0 0 S (upF F 100 0 0) A 68 [some (aR 100), some (aI w), some (aI n), some (aI b)] [] := by
      intro N
      induction N with
      | zero => intro n b hb0 hn9 hm; exact absurd hm (Nat.not_lt_zero _)
      | succ N ih =>
        have ih68 := ih
        clear ih
        intro n b hb0 hn9 hm68
        refine j_iload_n C dX10_count_68 rfl rfl ?_
        refine j_aload_n C dX10_count_69 rfl rfl ?_
        refine j_get C (aI (F 100 11)) fl_X10_101 (sM_100 hS) (fun _ => rfl) dX10_count_70 ?_
        refine j_icmp_ge C (tgt := 99) dX10_count_73 (by decide) ⟨by omega, by omega⟩ ⟨by omega, by omega⟩ (fun c73 => ?_) (fun c73 => ?_)
        · refine j_iload_n C dX10_count_99 rfl rfl ?_
          exact j_iret C hr (Nat.le_refl _) (Nat.le_refl _) dX10_count_100 ⟨rfl, rfl, rfl, _, rfl, (Or.inr (Or.inr (Or.inl ⟨by omega, by have e : b = F 100 11 := (by omega); rw [← e]; exact hn9⟩)))⟩
        · refine j_iload_n C dX10_count_76 rfl rfl ?_
          refine j_aload_n C dX10_count_77 rfl rfl ?_
          refine j_getR C (j := 110) fl_X10_39 (sM_100 hS) rfl dX10_count_78 ?_
          refine j_iload_n C dX10_count_81 rfl rfl ?_
          have hgg := hg b (by omega) (by omega)
          refine j_zald C (sM_110 hS) (by omega) (by omega) (by decide) dX10_count_82 ?_
          refine j_if_eq C (tgt := 90) dX10_count_83 (by decide) ⟨by omega, by omega⟩ (fun c83 => ?_) (fun c83 => ?_)
          · refine j_iconst C dX10_count_90 ?_
            refine j_iadd C dX10_count_91 ?_
            refine j_istore_n C (lv' := [some (aR 100), some (aI w), some (aI (n + 1)), some (aI b)]) dX10_count_92 rfl (by decide) rfl ?_
            refine j_iinc C (lv' := [some (aR 100), some (aI w), some (aI (n + 1)), some (aI (b + 1))]) dX10_count_93 rfl (by decide) rfl ?_
            refine j_goto C (tgt := 68) dX10_count_96 (by decide) ?_
            exact ih68 (n + 1) (b + 1) (by omega) (by rw [sm_step _ hb0.1, hn9]; (try dsimp only); split <;> omega) (by omega)
          · refine j_iconst C dX10_count_86 ?_
            refine j_goto C (tgt := 91) dX10_count_87 (by decide) ?_
            refine j_iadd C dX10_count_91 ?_
            refine j_istore_n C (lv' := [some (aR 100), some (aI w), some (aI (n + 0)), some (aI b)]) dX10_count_92 rfl (by decide) rfl ?_
            refine j_iinc C (lv' := [some (aR 100), some (aI w), some (aI (n + 0)), some (aI (b + 1))]) dX10_count_93 rfl (by decide) rfl ?_
            refine j_goto C (tgt := 68) dX10_count_96 (by decide) ?_
            exact ih68 (n + 0) (b + 1) (by omega) (by rw [sm_step _ hb0.1, hn9]; (try dsimp only); split <;> omega) (by omega)
    exact K68 _ 0 0 (by omega) rfl (Nat.lt_succ_self _)
  · refine j_tableIn C (tgt := 101) 3 dX10_count_8 c8 ⟨by omega, by omega⟩ (by decide) (by decide) rfl (by decide) ?_
    refine j_aload_n C dX10_count_101 rfl rfl ?_
    refine j_get C (aI (F 100 18)) fl_X10_104 (sM_100 hS) (fun _ => rfl) dX10_count_102 ?_
    exact j_iret C hr (Nat.le_refl _) (Nat.le_refl _) dX10_count_105 ⟨rfl, rfl, rfl, _, rfl, (Or.inr (Or.inr (Or.inr (Or.inl ⟨by omega, rfl⟩))))⟩
  · refine j_tableIn C (tgt := 106) 4 dX10_count_8 c8 ⟨by omega, by omega⟩ (by decide) (by decide) rfl (by decide) ?_
    refine j_iconst C dX10_count_106 ?_
    refine j_istore_n C (lv' := [some (aR 100), some (aI w), some (aI 0), some (aI 0)]) dX10_count_107 rfl (by decide) rfl ?_
    have K108 : ∀ (N : Nat) (n b : Int), (0 ≤ b ∧ b ≤ F 100 18) → (n = sm (fun x => if (A 116 x ≤ F 100 5 ∧ (A 117 x < 0 ∨ F 100 5 < A 117 x)) then 1 else 0) b.toNat) → ((F 100 18 - b).toNat) < N → ab_J E 4 0 0 S (upF F 100 0 0) A 108 [some (aR 100), some (aI w), some (aI n), some (aI b)] [] := by
      intro N
      induction N with
      | zero => intro n b hb0 hn9 hm; exact absurd hm (Nat.not_lt_zero _)
      | succ N ih =>
        have ih108 := ih
        clear ih
        intro n b hb0 hn9 hm108
        refine j_iload_n C dX10_count_108 rfl rfl ?_
        refine j_aload_n C dX10_count_109 rfl rfl ?_
        refine j_get C (aI (F 100 18)) fl_X10_104 (sM_100 hS) (fun _ => rfl) dX10_count_110 ?_
        refine j_icmp_ge C (tgt := 142) dX10_count_113 (by decide) ⟨by omega, by omega⟩ ⟨by omega, by omega⟩ (fun c113 => ?_) (fun c113 => ?_)
        · refine j_iload_n C dX10_count_142 rfl rfl ?_
          exact j_iret C hr (Nat.le_refl _) (Nat.le_refl _) dX10_count_143 ⟨rfl, rfl, rfl, _, rfl, (Or.inr (Or.inr (Or.inr (Or.inr (Or.inl ⟨by omega, by have e : b = F 100 18 := (by omega); rw [← e]; exact hn9⟩)))))⟩
        · refine j_iload_n C dX10_count_116 rfl rfl ?_
          refine j_aload_n C dX10_count_117 rfl rfl ?_
          refine j_iload_n C dX10_count_118 rfl rfl ?_
          refine j_aload_n C dX10_count_119 rfl rfl ?_
          refine j_get C (aI (F 100 5)) fl_X10_140 (sM_100 hS) (fun _ => rfl) dX10_count_120 ?_
          refine j_callV C (vs := [aI b, aI (F 100 5)]) (st := [aI n]) cl_X10_226 im_yX10_isInForce se_yX10_isInForce (fun _ => m_isInForce _ S (upF F 100 0 0) A hS _ _ (by omega) hn (hv b (by omega) (by omega)).1 (hv b (by omega) (by omega)).2) (sM_100 hS) rfl rfl rfl ⟨rfl, rfl, by decide, by decide⟩ ⟨by decide, by decide⟩ (fun _ => Nat.le_of_ble_eq_true rfl) (fun v hv => by simp only [List.mem_cons, List.not_mem_nil, or_false] at hv; rcases hv with rfl <;> first | exact trivial) (fun v hv => by simp only [List.mem_cons, List.not_mem_nil, or_false, Option.some.injEq, reduceCtorEq, false_or] at hv; rcases hv with rfl | rfl | rfl | rfl <;> first | exact (lM_100 hS) | exact trivial) dX10_count_123 (fun v_123 S_123 F_123 A_123 hP_123 => ?_)
          obtain ⟨rfl, rfl, rfl, z_123, rfl, ⟨rfl, hz_123⟩ | ⟨rfl, hz_123⟩⟩ := hP_123
          · show ab_J E 4 0 0 S (upF F 100 0 0) A 126 [some (aR 100), some (aI w), some (aI n), some (aI b)] [aI 1, aI n]
            refine j_if_eq C (tgt := 133) dX10_count_126 (by decide) ⟨by omega, by omega⟩ (fun c126 => ?_) (fun c126 => ?_)
            · exact absurd c126 (by decide)
            · refine j_iconst C dX10_count_129 ?_
              refine j_goto C (tgt := 134) dX10_count_130 (by decide) ?_
              refine j_iadd C dX10_count_134 ?_
              refine j_istore_n C (lv' := [some (aR 100), some (aI w), some (aI (n + 1)), some (aI b)]) dX10_count_135 rfl (by decide) rfl ?_
              refine j_iinc C (lv' := [some (aR 100), some (aI w), some (aI (n + 1)), some (aI (b + 1))]) dX10_count_136 rfl (by decide) rfl ?_
              refine j_goto C (tgt := 108) dX10_count_139 (by decide) ?_
              exact ih108 (n + 1) (b + 1) (by omega) (by rw [sm_step _ hb0.1, hn9]; (try dsimp only); first | rw [if_pos (show A 116 b ≤ F 100 5 ∧ (A 117 b < 0 ∨ F 100 5 < A 117 b) from hz_123)] | rw [if_neg (show ¬ (A 116 b ≤ F 100 5 ∧ (A 117 b < 0 ∨ F 100 5 < A 117 b)) from hz_123)]) (by omega)
          · show ab_J E 4 0 0 S (upF F 100 0 0) A 126 [some (aR 100), some (aI w), some (aI n), some (aI b)] [aI 0, aI n]
            refine j_if_eq C (tgt := 133) dX10_count_126 (by decide) ⟨by omega, by omega⟩ (fun c126 => ?_) (fun c126 => ?_)
            · refine j_iconst C dX10_count_133 ?_
              refine j_iadd C dX10_count_134 ?_
              refine j_istore_n C (lv' := [some (aR 100), some (aI w), some (aI (n + 0)), some (aI b)]) dX10_count_135 rfl (by decide) rfl ?_
              refine j_iinc C (lv' := [some (aR 100), some (aI w), some (aI (n + 0)), some (aI (b + 1))]) dX10_count_136 rfl (by decide) rfl ?_
              refine j_goto C (tgt := 108) dX10_count_139 (by decide) ?_
              exact ih108 (n + 0) (b + 1) (by omega) (by rw [sm_step _ hb0.1, hn9]; (try dsimp only); first | rw [if_pos (show A 116 b ≤ F 100 5 ∧ (A 117 b < 0 ∨ F 100 5 < A 117 b) from hz_123)] | rw [if_neg (show ¬ (A 116 b ≤ F 100 5 ∧ (A 117 b < 0 ∨ F 100 5 < A 117 b)) from hz_123)]) (by omega)
            · exact absurd c126 (by decide)
    exact K108 _ 0 0 (by omega) rfl (Nat.lt_succ_self _)
  · refine j_tableIn C (tgt := 144) 5 dX10_count_8 c8 ⟨by omega, by omega⟩ (by decide) (by decide) rfl (by decide) ?_
    refine j_iconst C dX10_count_144 ?_
    refine j_istore_n C (lv' := [some (aR 100), some (aI w), some (aI 0), some (aI 0)]) dX10_count_145 rfl (by decide) rfl ?_
    have K146 : ∀ (N : Nat) (n b : Int), (0 ≤ b ∧ b ≤ 280) → (n = sm (fun x => if 0 < sm (fun b => A 106 (280 * b + x)) (F 100 11).toNat then 1 else 0) b.toNat) → ((280 - b).toNat) < N → ab_J E 4 0 0 S (upF F 100 0 0) A 146 [some (aR 100), some (aI w), some (aI n), some (aI b)] [] := by
      intro N
      induction N with
      | zero => intro n b hb0 hn9 hm; exact absurd hm (Nat.not_lt_zero _)
      | succ N ih =>
        have ih146 := ih
        clear ih
        intro n b hb0 hn9 hm146
        refine j_iload_n C dX10_count_146 rfl rfl ?_
        refine j_sipush C dX10_count_147 rfl ?_
        refine j_icmp_ge C (tgt := 175) dX10_count_150 (by decide) ⟨by omega, by omega⟩ ⟨by omega, by omega⟩ (fun c150 => ?_) (fun c150 => ?_)
        · refine j_iload_n C dX10_count_175 rfl rfl ?_
          exact j_iret C hr (Nat.le_refl _) (Nat.le_refl _) dX10_count_176 ⟨rfl, rfl, rfl, _, rfl, (Or.inr (Or.inr (Or.inr (Or.inr (Or.inr (Or.inl ⟨by omega, by have e : b.toNat = 280 := (by omega); rw [← e]; exact hn9⟩))))))⟩
        · refine j_iload_n C dX10_count_153 rfl rfl ?_
          refine j_aload_n C dX10_count_154 rfl rfl ?_
          refine j_iload_n C dX10_count_155 rfl rfl ?_
          refine j_callV C (vs := [aI b]) (st := [aI n]) cl_X10_115 im_yX10_mayBe se_yX10_mayBe (fun _ => m_mayBe _ S (upF F 100 0 0) A hS _ (by omega) (by omega) hb (fun x a c => by have := hp x b a c (by omega) (by omega); exact ⟨by omega, by omega⟩)) (sM_100 hS) rfl rfl rfl ⟨rfl, rfl, by decide, by decide⟩ ⟨by decide, by decide⟩ (fun _ => Nat.le_of_ble_eq_true rfl) (fun v hv => by simp only [List.mem_cons, List.not_mem_nil, or_false] at hv; rcases hv with rfl <;> first | exact trivial) (fun v hv => by simp only [List.mem_cons, List.not_mem_nil, or_false, Option.some.injEq, reduceCtorEq, false_or] at hv; rcases hv with rfl | rfl | rfl | rfl <;> first | exact (lM_100 hS) | exact trivial) dX10_count_156 (fun v_156 S_156 F_156 A_156 hP_156 => ?_)
          obtain ⟨rfl, rfl, rfl, z_156, rfl, ⟨rfl, hz_156⟩ | ⟨rfl, hz_156⟩⟩ := hP_156
          · have hz_156 : exB (fun bb => 0 < A 106 (280 * bb + b)) (F 100 11) := hz_156
            show ab_J E 4 0 0 S (upF F 100 0 0) A 159 [some (aR 100), some (aI w), some (aI n), some (aI b)] [aI 1, aI n]
            refine j_if_eq C (tgt := 166) dX10_count_159 (by decide) ⟨by omega, by omega⟩ (fun c159 => ?_) (fun c159 => ?_)
            · exact absurd c159 (by decide)
            · refine j_iconst C dX10_count_162 ?_
              refine j_goto C (tgt := 167) dX10_count_163 (by decide) ?_
              refine j_iadd C dX10_count_167 ?_
              refine j_istore_n C (lv' := [some (aR 100), some (aI w), some (aI (n + 1)), some (aI b)]) dX10_count_168 rfl (by decide) rfl ?_
              refine j_iinc C (lv' := [some (aR 100), some (aI w), some (aI (n + 1)), some (aI (b + 1))]) dX10_count_169 rfl (by decide) rfl ?_
              refine j_goto C (tgt := 146) dX10_count_172 (by decide) ?_
              exact ih146 (n + 1) (b + 1) (by omega) (by rw [sm_step _ hb0.1, hn9]; (try dsimp only); have kk := exB_sum (f := fun x => A 106 (280 * x + b)) hb.1 (fun x a c => (hp x b a c (by omega) (by omega)).1); first | rw [if_pos (kk.mp hz_156)] | rw [if_neg (fun z => hz_156 (kk.mpr z))]) (by omega)
          · have hz_156 : ¬ exB (fun bb => 0 < A 106 (280 * bb + b)) (F 100 11) := hz_156
            show ab_J E 4 0 0 S (upF F 100 0 0) A 159 [some (aR 100), some (aI w), some (aI n), some (aI b)] [aI 0, aI n]
            refine j_if_eq C (tgt := 166) dX10_count_159 (by decide) ⟨by omega, by omega⟩ (fun c159 => ?_) (fun c159 => ?_)
            · refine j_iconst C dX10_count_166 ?_
              refine j_iadd C dX10_count_167 ?_
              refine j_istore_n C (lv' := [some (aR 100), some (aI w), some (aI (n + 0)), some (aI b)]) dX10_count_168 rfl (by decide) rfl ?_
              refine j_iinc C (lv' := [some (aR 100), some (aI w), some (aI (n + 0)), some (aI (b + 1))]) dX10_count_169 rfl (by decide) rfl ?_
              refine j_goto C (tgt := 146) dX10_count_172 (by decide) ?_
              exact ih146 (n + 0) (b + 1) (by omega) (by rw [sm_step _ hb0.1, hn9]; (try dsimp only); have kk := exB_sum (f := fun x => A 106 (280 * x + b)) hb.1 (fun x a c => (hp x b a c (by omega) (by omega)).1); first | rw [if_pos (kk.mp hz_156)] | rw [if_neg (fun z => hz_156 (kk.mpr z))]) (by omega)
            · exact absurd c159 (by decide)
    exact K146 _ 0 0 (by omega) rfl (Nat.lt_succ_self _)
  · refine j_tableIn C (tgt := 177) 6 dX10_count_8 c8 ⟨by omega, by omega⟩ (by decide) (by decide) rfl (by decide) ?_
    refine j_aload_n C dX10_count_177 rfl rfl ?_
    refine j_get C (aI (F 100 26)) fl_X10_178 (sM_100 hS) (fun _ => rfl) dX10_count_178 ?_
    exact j_iret C hr (Nat.le_refl _) (Nat.le_refl _) dX10_count_181 ⟨rfl, rfl, rfl, _, rfl, (Or.inr (Or.inr (Or.inr (Or.inr (Or.inr (Or.inr (Or.inl ⟨by omega, rfl⟩)))))))⟩
  · refine j_tableIn C (tgt := 182) 7 dX10_count_8 c8 ⟨by omega, by omega⟩ (by decide) (by decide) rfl (by decide) ?_
    refine j_aload_n C dX10_count_182 rfl rfl ?_
    refine j_get C (aI (F 100 12)) fl_X10_119 (sM_100 hS) (fun _ => rfl) dX10_count_183 ?_
    exact j_iret C hr (Nat.le_refl _) (Nat.le_refl _) dX10_count_186 ⟨rfl, rfl, rfl, _, rfl, (Or.inr (Or.inr (Or.inr (Or.inr (Or.inr (Or.inr (Or.inr (Or.inl ⟨by omega, rfl⟩))))))))⟩
