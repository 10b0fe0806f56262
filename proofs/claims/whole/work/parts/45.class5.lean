set_option maxHeartbeats 4000000 in
set_option maxRecDepth 100000 in
theorem c_gather (l : Launch) (S : ab_St) (F : ab_Fn) (A : ab_An) (hS : ab_SC S) (hB : BG S (F 2 2)) (hb : 0 ≤ F 2 2 ∧ F 2 2 ≤ 10) : ab_Met l yX9_gatherParts cX9_gatherParts 4 none { frames := 3, cells := 0, slots := 0, locals := 64 } 0 0 [aR 0] S F A (fun v S' F' A' => S = S' ∧ F = F' ∧ v = none ∧ (∀ i, i ≠ 27 → A' i = A i) ∧ ∀ k, 0 ≤ k → k < 280 → A' 27 k = sm (fun bb => A (220 + bb.toNat) k) (F 2 2).toNat) := by
  refine ab_enter (by decide) (by simp [aI, aR, aX, ab_val, Value.category]) (Nat.le_of_ble_eq_true rfl) (fun E C hr => ?_)
  refine j_eq (lv' := [some (aR 0), none, none, none]) ?_
  obtain ⟨hB1, eb, hl2, hB3, hB4, hB5⟩ := hB
  refine j_aload_n C dX9_gatherParts_0 rfl rfl ?_
  refine j_getR C (j := 27) fl_X9_59 ((sC_0 hS)) rfl dX9_gatherParts_1 ?_
  refine j_iconst C dX9_gatherParts_4 ?_
  refine j_callS C (vs := [aR 27, aI 0]) (st := []) cl_X9_284 sc_yJ7_fill_53178 (fun _ => (t_fill _ S F A _ _ _ ((sC_27 hS)) (by decide))) rfl ⟨rfl, rfl, by decide, by decide⟩ ⟨by decide, by decide⟩ (fun _ => Nat.le_of_ble_eq_true rfl) (fun v hv => by cases hv) (fun v hv => by simp only [List.mem_cons, List.not_mem_nil, or_false, Option.some.injEq, reduceCtorEq, false_or] at hv; rcases hv with rfl <;> first | exact (lS ((sC_0 hS)))) dX9_gatherParts_5 (fun v_5 S_5 F_5 A_5 hP_5 => ?_)
  obtain ⟨rfl, rfl, rfl, rfl⟩ := hP_5
  show ab_J E 4 0 0 S F (setRow A 27 0 280 (fun _ => 0)) 8 [some (aR 0), none, none, none] []
  refine j_iconst C dX9_gatherParts_8 ?_
  refine j_istore_n C (lv' := [some (aR 0), some (aI 0), none, none]) dX9_gatherParts_9 rfl (by decide) rfl ?_
  have K10 : ∀ (N : Nat) (b : Int) (B : ab_An), (0 ≤ b ∧ b ≤ F 2 2) → (∀ i, i ≠ 27 → B i = A i) → (∀ k, 0 ≤ k → k < 280 → B 27 k = sm (fun bb => A (220 + bb.toNat) k) b.toNat) → ((F 2 2 - b).toNat) < N → ab_J E 4 0 0 S F B 10 [some (aR 0), some (aI b), none, none] [] := by
    intro N
    induction N with
    | zero => intro b B hb0 hO hg hm; exact absurd hm (Nat.not_lt_zero _)
    | succ N ih =>
      have ih10 := ih
      clear ih
      intro b B hb0 hO hg hm10
      refine j_iload_n C dX9_gatherParts_10 rfl rfl ?_
      refine j_aload_n C dX9_gatherParts_11 rfl rfl ?_
      refine j_getR C (j := 2) fl_X9_19 ((sC_0 hS)) rfl dX9_gatherParts_12 ?_
      refine j_callV C (vs := []) (st := [aI b]) cl_X9_126 im_yJx4a65c_size_8abf5 se_yJx4a65c_size_8abf5 (fun _ => (t_size _ S F B _ _ (hl2))) (hl2) rfl rfl rfl ⟨rfl, rfl, by decide, by decide⟩ ⟨by decide, by decide⟩ (fun _ => Nat.le_of_ble_eq_true rfl) (fun v hv => by simp only [List.mem_cons, List.not_mem_nil, or_false] at hv; rcases hv with rfl <;> first | exact trivial) (fun v hv => by simp only [List.mem_cons, List.not_mem_nil, or_false, Option.some.injEq, reduceCtorEq, false_or] at hv; rcases hv with rfl | rfl <;> first | exact (lS ((sC_0 hS))) | exact trivial) dX9_gatherParts_15 (fun v_15 S_15 F_15 A_15 hP_15 => ?_)
      obtain ⟨rfl, rfl, rfl, rfl⟩ := hP_15
      show ab_J E 4 0 0 S F B 18 [some (aR 0), some (aI b), none, none] [aI (F 2 2), aI b]
      refine j_icmp_ge C (tgt := 69) dX9_gatherParts_18 (by decide) ⟨by omega, by omega⟩ ⟨by omega, by omega⟩ (fun c18 => ?_) (fun c18 => ?_)
      · exact j_vret C hr (Nat.le_refl _) (Nat.le_refl _) dX9_gatherParts_69 ⟨rfl, rfl, rfl, hO, fun k q1 q2 => by rw [hg k q1 q2, show b = F 2 2 by omega]⟩
      · refine j_aload_n C dX9_gatherParts_21 rfl rfl ?_
        refine j_getR C (j := 2) fl_X9_19 ((sC_0 hS)) rfl dX9_gatherParts_22 ?_
        refine j_iload_n C dX9_gatherParts_25 rfl rfl ?_
        obtain ⟨c2_26, he2_26, hc2_26⟩ := hB3 (by omega)
        refine j_callV C (vs := [aI b]) (st := []) cl_X9_142 im_yJx4a65c_get_915e3 se_yJx4a65c_get_915e3 (fun _ => (t_get _ S F B _ _ _ (200 + (b).toNat) _ _ (hl2) he2_26 (by show 0 ≤ b ∧ b < F 2 2; omega) (by show F 2 2 ≤ 10; omega) (by decide) (hc2_26 _ (by omega)))) (hl2) rfl rfl rfl ⟨rfl, rfl, by decide, by decide⟩ ⟨by decide, by decide⟩ (fun _ => Nat.le_of_ble_eq_true rfl) (fun v hv => by cases hv) (fun v hv => by simp only [List.mem_cons, List.not_mem_nil, or_false, Option.some.injEq, reduceCtorEq, false_or] at hv; rcases hv with rfl | rfl <;> first | exact (lS ((sC_0 hS))) | exact trivial) dX9_gatherParts_26 (fun v_26 S_26 F_26 A_26 hP_26 => ?_)
        obtain ⟨rfl, rfl, rfl, rfl⟩ := hP_26
        show ab_J E 4 0 0 S F B 29 [some (aR 0), some (aI b), none, none] [aR (200 + (b).toNat)]
        refine j_cast C ((hB1 ((b).toNat) (by omega)).1) rfl (ab_t2 (List.mem_of_getElem? (i := 51) rfl) rfl) dX9_gatherParts_29 ?_
        refine j_getR C (j := (220 + (b).toNat)) fl_X9_164 ((hB1 ((b).toNat) (by omega)).1) rfl dX9_gatherParts_32 ?_
        refine j_astore_n C (lv' := [some (aR 0), some (aI b), some (aR (220 + (b).toNat)), none]) dX9_gatherParts_35 rfl (by decide) rfl ?_
        refine j_iconst C dX9_gatherParts_36 ?_
        refine j_istore_n C (lv' := [some (aR 0), some (aI b), some (aR (220 + (b).toNat)), some (aI 0)]) dX9_gatherParts_37 rfl (by decide) rfl ?_
        have K38 : ∀ (N : Nat) (s : Int) (B2 : ab_An), (0 ≤ s ∧ s ≤ 280) → (∀ i, i ≠ 27 → B2 i = A i) → (∀ k, 0 ≤ k → k < s → B2 27 k = sm (fun bb => A (220 + bb.toNat) k) (b + 1).toNat) → (∀ k, s ≤ k → k < 280 → B2 27 k = sm (fun bb => A (220 + bb.toNat) k) b.toNat) → ((280 - s).toNat) < N → ab_J E 4 0 0 S F B2 38 [some (aR 0), some (aI b), some (aR (220 + (b).toNat)), some (aI s)] [] := by
          intro N
          induction N with
          | zero => intro s B2 hs hO2 hg1 hg2 hm; exact absurd hm (Nat.not_lt_zero _)
          | succ N ih =>
            have ih38 := ih
            clear ih
            intro s B2 hs hO2 hg1 hg2 hm38
            refine j_iload_n C dX9_gatherParts_38 rfl rfl ?_
            refine j_sipush C dX9_gatherParts_39 rfl ?_
            refine j_icmp_ge C (tgt := 63) dX9_gatherParts_42 (by decide) ⟨by omega, by omega⟩ ⟨by omega, by omega⟩ (fun c42 => ?_) (fun c42 => ?_)
            · refine j_iinc C (lv' := [some (aR 0), some (aI (b + 1)), some (aR (220 + (b).toNat)), some (aI s)]) dX9_gatherParts_63 rfl (by decide) rfl ?_
              refine j_goto C (tgt := 10) dX9_gatherParts_66 (by decide) ?_
              refine j_lv (lv' := [some (aR 0), some (aI (b + 1)), none, none]) ?_ ⟨rfl, rfl, trivial⟩
              exact ih10 (b + 1) B2 (by omega) hO2 (fun k q1 q2 => hg1 k q1 (by omega)) (by omega)
            · refine j_aload_n C dX9_gatherParts_45 rfl rfl ?_
              refine j_getR C (j := 27) fl_X9_59 ((sC_0 hS)) rfl dX9_gatherParts_46 ?_
              refine j_iload_n C dX9_gatherParts_49 rfl rfl ?_
              refine j_dup2 C dX9_gatherParts_50 (fun _ => rfl) (fun _ => rfl) ?_
              refine j_iald C ((sC_27 hS)) (by omega) (by omega) (by decide) dX9_gatherParts_51 ?_
              refine j_aload_n C dX9_gatherParts_52 rfl rfl ?_
              refine j_iload_n C dX9_gatherParts_53 rfl rfl ?_
              refine j_iald C ((hB1 ((b).toNat) (by omega)).2) (by omega) (by omega) (by decide) dX9_gatherParts_54 ?_
              refine j_eq (st' := [aI (A (220 + (b).toNat) s), aI (B2 27 s), aI s, aR 27]) ?_ (e1 := by first | rfl | (simp only [List.cons.injEq, and_true]; exact congrArg aI (congrFun (hO2 _ (by omega)) s)))
              refine j_iadd C dX9_gatherParts_55 ?_
              refine j_iast C ((sC_27 hS)) (by omega) (by omega) (by decide) dX9_gatherParts_56 ?_
              refine j_iinc C (lv' := [some (aR 0), some (aI b), some (aR (220 + (b).toNat)), some (aI (s + 1))]) dX9_gatherParts_57 rfl (by decide) rfl ?_
              refine j_goto C (tgt := 38) dX9_gatherParts_60 (by decide) ?_
              exact ih38 (s + 1) ((upA B2 27 s ((B2 27 s) + (A (220 + (b).toNat) s)))) (by omega) (fun i q => by rw [upA_other q]; exact hO2 i q) (fun k q1 q2 => if q : k = s then by rw [q, upA_at, hg2 s (by omega) (by omega), sm_step _ hb0.1] else by rw [upA_ne q]; exact hg1 k q1 (by omega)) (fun k q1 q2 => by rw [upA_ne (by omega)]; exact hg2 k (by omega) q2) (by omega)
        exact K38 _ 0 B (by omega) hO (fun k q1 q2 => by omega) (fun k q1 q2 => hg k (by omega) q2) (Nat.lt_succ_self _)
  exact K10 _ 0 ((setRow A 27 0 280 (fun _ => 0))) (by omega) (fun i q => by rw [setRow_other q]) (fun k q1 q2 => by rw [setRow_in (by omega) (by omega)]; rfl) (Nat.lt_succ_self _)

set_option maxHeartbeats 4000000 in
set_option maxRecDepth 100000 in
theorem c_squares (l : Launch) (S : ab_St) (F : ab_Fn) (A : ab_An) (hS : ab_SC S) (r0 : Nat) (hrow : S r0 = some (sA .int 280)) (hp : ∀ k, 0 ≤ k → k < 280 → inR (A r0 k)) : ab_Met l yX9_squaresAboveZero cX9_squaresAboveZero 3 (some .int) { frames := 0, cells := 0, slots := 0, locals := 0 } 0 0 [aR r0] S F A (fun v S' F' A' => S = S' ∧ F = F' ∧ A = A' ∧ v = some (aI (sm (fun x => if 0 < A r0 x then 1 else 0) 280))) := by
  refine ab_enter (by decide) (by simp [aI, aR, aX, ab_val, Value.category]) (Nat.le_of_ble_eq_true rfl) (fun E C hr => ?_)
  refine j_eq (lv' := [some (aR r0), none, none]) ?_
  refine j_iconst C dX9_squaresAboveZero_0 ?_
  refine j_istore_n C (lv' := [some (aR r0), some (aI 0), none]) dX9_squaresAboveZero_1 rfl (by decide) rfl ?_
  refine j_iconst C dX9_squaresAboveZero_2 ?_
  refine j_istore_n C (lv' := [some (aR r0), some (aI 0), some (aI 0)]) dX9_squaresAboveZero_3 rfl (by decide) rfl ?_
  have K4 : ∀ (N : Nat) (m k : Int), (0 ≤ k ∧ k ≤ 280) → (m = sm (fun x => if 0 < A r0 x then 1 else 0) k.toNat) → ((280 - k).toNat) < N → ab_J E 3 0 0 S F A 4 [some (aR r0), some (aI m), some (aI k)] [] := by
    intro N
    induction N with
    | zero => intro m k hk hm0 hm; exact absurd hm (Nat.not_lt_zero _)
    | succ N ih =>
      have ih4 := ih
      clear ih
      intro m k hk hm0 hm4
      refine j_iload_n C dX9_squaresAboveZero_4 rfl rfl ?_
      refine j_aload_n C dX9_squaresAboveZero_5 rfl rfl ?_
      refine j_alen C (hrow) 0 (fun _ => rfl) dX9_squaresAboveZero_6 ?_
      refine j_eq (st' := [aI 280, aI k]) ?_
      refine j_icmp_ge C (tgt := 25) dX9_squaresAboveZero_7 (by decide) ⟨by omega, by omega⟩ ⟨by omega, by omega⟩ (fun c7 => ?_) (fun c7 => ?_)
      · refine j_iload_n C dX9_squaresAboveZero_25 rfl rfl ?_
        exact j_iret C hr (Nat.le_refl _) (Nat.le_refl _) dX9_squaresAboveZero_26 ⟨rfl, rfl, rfl, by rw [hm0, show k.toNat = 280 by omega]⟩
      · refine j_aload_n C dX9_squaresAboveZero_10 rfl rfl ?_
        refine j_iload_n C dX9_squaresAboveZero_11 rfl rfl ?_
        refine j_iald C (hrow) (by omega) (by omega) (by decide) dX9_squaresAboveZero_12 ?_
        refine j_if_le C (tgt := 19) dX9_squaresAboveZero_13 (by decide) (hp _ (by omega) (by omega)) (fun c13 => ?_) (fun c13 => ?_)
        · refine j_iinc C (lv' := [some (aR r0), some (aI m), some (aI (k + 1))]) dX9_squaresAboveZero_19 rfl (by decide) rfl ?_
          refine j_goto C (tgt := 4) dX9_squaresAboveZero_22 (by decide) ?_
          exact ih4 m (k + 1) (by omega) (by rw [sm_step _ hk.1, ← hm0]; (try dsimp only); split <;> omega) (by omega)
        · refine j_iinc C (lv' := [some (aR r0), some (aI (m + 1)), some (aI k)]) dX9_squaresAboveZero_16 rfl (by decide) rfl ?_
          refine j_iinc C (lv' := [some (aR r0), some (aI (m + 1)), some (aI (k + 1))]) dX9_squaresAboveZero_19 rfl (by decide) rfl ?_
          refine j_goto C (tgt := 4) dX9_squaresAboveZero_22 (by decide) ?_
          exact ih4 (m + 1) (k + 1) (by omega) (by rw [sm_step _ hk.1, ← hm0]; (try dsimp only); split <;> omega) (by omega)
  exact K4 _ 0 0 (by omega) rfl (Nat.lt_succ_self _)

set_option maxHeartbeats 4000000 in
set_option maxRecDepth 100000 in
theorem c_bergsLeft (l : Launch) (S : ab_St) (F : ab_Fn) (A : ab_An) (hS : ab_SC S) (hB : BG S (F 2 2)) (hb : 0 ≤ F 2 2 ∧ F 2 2 ≤ 10) (hg : ∀ b, 0 ≤ b → b < F 2 2 → F (200 + b.toNat) 4 = 0 ∨ F (200 + b.toNat) 4 = 1) : ab_Met l yX9_bergsLeft cX9_bergsLeft 3 (some .int) { frames := 3, cells := 0, slots := 0, locals := 64 } 0 0 [aR 0] S F A (fun v S' F' A' => S = S' ∧ F = F' ∧ A = A' ∧ v = some (aI (sm (fun x => if F (200 + x.toNat) 4 = 0 then 1 else 0) (F 2 2).toNat))) := by
  refine ab_enter (by decide) (by simp [aI, aR, aX, ab_val, Value.category]) (Nat.le_of_ble_eq_true rfl) (fun E C hr => ?_)
  refine j_eq (lv' := [some (aR 0), none, none]) ?_
  obtain ⟨hB1, eb, hl2, hB3, hB4, hB5⟩ := hB
  refine j_iconst C dX9_bergsLeft_0 ?_
  refine j_istore_n C (lv' := [some (aR 0), some (aI 0), none]) dX9_bergsLeft_1 rfl (by decide) rfl ?_
  refine j_iconst C dX9_bergsLeft_2 ?_
  refine j_istore_n C (lv' := [some (aR 0), some (aI 0), some (aI 0)]) dX9_bergsLeft_3 rfl (by decide) rfl ?_
  have K4 : ∀ (N : Nat) (m b : Int), (0 ≤ b ∧ b ≤ F 2 2) → (m = sm (fun x => if F (200 + x.toNat) 4 = 0 then 1 else 0) b.toNat) → ((F 2 2 - b).toNat) < N → ab_J E 3 0 0 S F A 4 [some (aR 0), some (aI m), some (aI b)] [] := by
    intro N
    induction N with
    | zero => intro m b hb0 hm0 hm; exact absurd hm (Nat.not_lt_zero _)
    | succ N ih =>
      have ih4 := ih
      clear ih
      intro m b hb0 hm0 hm4
      refine j_iload_n C dX9_bergsLeft_4 rfl rfl ?_
      refine j_aload_n C dX9_bergsLeft_5 rfl rfl ?_
      refine j_getR C (j := 2) fl_X9_19 ((sC_0 hS)) rfl dX9_bergsLeft_6 ?_
      refine j_callV C (vs := []) (st := [aI b]) cl_X9_126 im_yJx4a65c_size_8abf5 se_yJx4a65c_size_8abf5 (fun _ => (t_size _ S F A _ _ (hl2))) (hl2) rfl rfl rfl ⟨rfl, rfl, by decide, by decide⟩ ⟨by decide, by decide⟩ (fun _ => Nat.le_of_ble_eq_true rfl) (fun v hv => by simp only [List.mem_cons, List.not_mem_nil, or_false] at hv; rcases hv with rfl <;> first | exact trivial) (fun v hv => by simp only [List.mem_cons, List.not_mem_nil, or_false, Option.some.injEq, reduceCtorEq, false_or] at hv; rcases hv with rfl | rfl | rfl <;> first | exact (lS ((sC_0 hS))) | exact trivial) dX9_bergsLeft_9 (fun v_9 S_9 F_9 A_9 hP_9 => ?_)
      obtain ⟨rfl, rfl, rfl, rfl⟩ := hP_9
      show ab_J E 3 0 0 S F A 12 [some (aR 0), some (aI m), some (aI b)] [aI (F 2 2), aI b]
      refine j_icmp_ge C (tgt := 41) dX9_bergsLeft_12 (by decide) ⟨by omega, by omega⟩ ⟨by omega, by omega⟩ (fun c12 => ?_) (fun c12 => ?_)
      · refine j_iload_n C dX9_bergsLeft_41 rfl rfl ?_
        exact j_iret C hr (Nat.le_refl _) (Nat.le_refl _) dX9_bergsLeft_42 ⟨rfl, rfl, rfl, by rw [hm0, show b = F 2 2 by omega]⟩
      · refine j_aload_n C dX9_bergsLeft_15 rfl rfl ?_
        refine j_getR C (j := 2) fl_X9_19 ((sC_0 hS)) rfl dX9_bergsLeft_16 ?_
        refine j_iload_n C dX9_bergsLeft_19 rfl rfl ?_
        obtain ⟨c2_20, he2_20, hc2_20⟩ := hB3 (by omega)
        refine j_callV C (vs := [aI b]) (st := []) cl_X9_142 im_yJx4a65c_get_915e3 se_yJx4a65c_get_915e3 (fun _ => (t_get _ S F A _ _ _ (200 + (b).toNat) _ _ (hl2) he2_20 (by show 0 ≤ b ∧ b < F 2 2; omega) (by show F 2 2 ≤ 10; omega) (by decide) (hc2_20 _ (by omega)))) (hl2) rfl rfl rfl ⟨rfl, rfl, by decide, by decide⟩ ⟨by decide, by decide⟩ (fun _ => Nat.le_of_ble_eq_true rfl) (fun v hv => by cases hv) (fun v hv => by simp only [List.mem_cons, List.not_mem_nil, or_false, Option.some.injEq, reduceCtorEq, false_or] at hv; rcases hv with rfl | rfl | rfl <;> first | exact (lS ((sC_0 hS))) | exact trivial) dX9_bergsLeft_20 (fun v_20 S_20 F_20 A_20 hP_20 => ?_)
        obtain ⟨rfl, rfl, rfl, rfl⟩ := hP_20
        show ab_J E 3 0 0 S F A 23 [some (aR 0), some (aI m), some (aI b)] [aR (200 + (b).toNat)]
        refine j_cast C ((hB1 ((b).toNat) (by omega)).1) rfl (ab_t2 (List.mem_of_getElem? (i := 51) rfl) rfl) dX9_bergsLeft_23 ?_
        refine j_get C (aI (F (200 + (b).toNat) 4)) fl_X9_172 ((hB1 ((b).toNat) (by omega)).1) (fun _ => rfl) dX9_bergsLeft_26 ?_
        have hg1 := hg b (by omega) (by omega)
        refine j_if_ne C (tgt := 35) dX9_bergsLeft_29 (by decide) ⟨by omega, by omega⟩ (fun c29 => ?_) (fun c29 => ?_)
        · refine j_iinc C (lv' := [some (aR 0), some (aI m), some (aI (b + 1))]) dX9_bergsLeft_35 rfl (by decide) rfl ?_
          refine j_goto C (tgt := 4) dX9_bergsLeft_38 (by decide) ?_
          exact ih4 m (b + 1) (by omega) (by rw [sm_step _ hb0.1, ← hm0]; (try dsimp only); split <;> omega) (by omega)
        · refine j_iinc C (lv' := [some (aR 0), some (aI (m + 1)), some (aI b)]) dX9_bergsLeft_32 rfl (by decide) rfl ?_
          refine j_iinc C (lv' := [some (aR 0), some (aI (m + 1)), some (aI (b + 1))]) dX9_bergsLeft_35 rfl (by decide) rfl ?_
          refine j_goto C (tgt := 4) dX9_bergsLeft_38 (by decide) ?_
          exact ih4 (m + 1) (b + 1) (by omega) (by rw [sm_step _ hb0.1, ← hm0]; (try dsimp only); split <;> omega) (by omega)
  exact K4 _ 0 0 (by omega) rfl (Nat.lt_succ_self _)

set_option maxHeartbeats 4000000 in
set_option maxRecDepth 100000 in
theorem c_someBerg (l : Launch) (S : ab_St) (F : ab_Fn) (A : ab_An) (hS : ab_SC S) (sq : Int) (h0 : 0 ≤ sq ∧ sq < 280) (hB : BG S (F 2 2)) (hb : 0 ≤ F 2 2 ∧ F 2 2 ≤ 10) (hp : ∀ b, 0 ≤ b → b < F 2 2 → inR (A (220 + b.toNat) sq)) : ab_Met l yX9_someBergMayBe cX9_someBergMayBe 3 (some .boolean) { frames := 3, cells := 0, slots := 0, locals := 64 } 0 0 [aR 0, aI sq] S F A (fun v S' F' A' => S = S' ∧ F = F' ∧ A = A' ∧ ∃ z : Int, v = some (aI z) ∧ zb z (exB (fun bb => 0 < A (220 + bb.toNat) sq) (F 2 2))) := by
  refine ab_enter (by decide) (by simp [aI, aR, aX, ab_val, Value.category]) (Nat.le_of_ble_eq_true rfl) (fun E C hr => ?_)
  refine j_eq (lv' := [some (aR 0), some (aI sq), none]) ?_
  obtain ⟨hB1, eb, hl2, hB3, hB4, hB5⟩ := hB
  refine j_iconst C dX9_someBergMayBe_0 ?_
  refine j_istore_n C (lv' := [some (aR 0), some (aI sq), some (aI 0)]) dX9_someBergMayBe_1 rfl (by decide) rfl ?_
  have K2 : ∀ (N : Nat) (b : Int), (0 ≤ b ∧ b ≤ F 2 2) → (¬ exB (fun bb => 0 < A (220 + bb.toNat) sq) b) → ((F 2 2 - b).toNat) < N → ab_J E 3 0 0 S F A 2 [some (aR 0), some (aI sq), some (aI b)] [] := by
    intro N
    induction N with
    | zero => intro b hb0 hz hm; exact absurd hm (Nat.not_lt_zero _)
    | succ N ih =>
      have ih2 := ih
      clear ih
      intro b hb0 hz hm2
      refine j_iload_n C dX9_someBergMayBe_2 rfl rfl ?_
      refine j_aload_n C dX9_someBergMayBe_3 rfl rfl ?_
      refine j_getR C (j := 2) fl_X9_19 ((sC_0 hS)) rfl dX9_someBergMayBe_4 ?_
      refine j_callV C (vs := []) (st := [aI b]) cl_X9_126 im_yJx4a65c_size_8abf5 se_yJx4a65c_size_8abf5 (fun _ => (t_size _ S F A _ _ (hl2))) (hl2) rfl rfl rfl ⟨rfl, rfl, by decide, by decide⟩ ⟨by decide, by decide⟩ (fun _ => Nat.le_of_ble_eq_true rfl) (fun v hv => by simp only [List.mem_cons, List.not_mem_nil, or_false] at hv; rcases hv with rfl <;> first | exact trivial) (fun v hv => by simp only [List.mem_cons, List.not_mem_nil, or_false, Option.some.injEq, reduceCtorEq, false_or] at hv; rcases hv with rfl | rfl | rfl <;> first | exact (lS ((sC_0 hS))) | exact trivial) dX9_someBergMayBe_7 (fun v_7 S_7 F_7 A_7 hP_7 => ?_)
      obtain ⟨rfl, rfl, rfl, rfl⟩ := hP_7
      show ab_J E 3 0 0 S F A 10 [some (aR 0), some (aI sq), some (aI b)] [aI (F 2 2), aI b]
      refine j_icmp_ge C (tgt := 40) dX9_someBergMayBe_10 (by decide) ⟨by omega, by omega⟩ ⟨by omega, by omega⟩ (fun c10 => ?_) (fun c10 => ?_)
      · refine j_iconst C dX9_someBergMayBe_40 ?_
        exact j_zret C hr rfl (Nat.le_refl _) (Nat.le_refl _) dX9_someBergMayBe_41 ⟨rfl, rfl, rfl, _, rfl, zb.zero (by rw [← show b = F 2 2 by omega]; exact hz)⟩
      · refine j_aload_n C dX9_someBergMayBe_13 rfl rfl ?_
        refine j_getR C (j := 2) fl_X9_19 ((sC_0 hS)) rfl dX9_someBergMayBe_14 ?_
        refine j_iload_n C dX9_someBergMayBe_17 rfl rfl ?_
        obtain ⟨c2_18, he2_18, hc2_18⟩ := hB3 (by omega)
        refine j_callV C (vs := [aI b]) (st := []) cl_X9_142 im_yJx4a65c_get_915e3 se_yJx4a65c_get_915e3 (fun _ => (t_get _ S F A _ _ _ (200 + (b).toNat) _ _ (hl2) he2_18 (by show 0 ≤ b ∧ b < F 2 2; omega) (by show F 2 2 ≤ 10; omega) (by decide) (hc2_18 _ (by omega)))) (hl2) rfl rfl rfl ⟨rfl, rfl, by decide, by decide⟩ ⟨by decide, by decide⟩ (fun _ => Nat.le_of_ble_eq_true rfl) (fun v hv => by cases hv) (fun v hv => by simp only [List.mem_cons, List.not_mem_nil, or_false, Option.some.injEq, reduceCtorEq, false_or] at hv; rcases hv with rfl | rfl | rfl <;> first | exact (lS ((sC_0 hS))) | exact trivial) dX9_someBergMayBe_18 (fun v_18 S_18 F_18 A_18 hP_18 => ?_)
        obtain ⟨rfl, rfl, rfl, rfl⟩ := hP_18
        show ab_J E 3 0 0 S F A 21 [some (aR 0), some (aI sq), some (aI b)] [aR (200 + (b).toNat)]
        refine j_cast C ((hB1 ((b).toNat) (by omega)).1) rfl (ab_t2 (List.mem_of_getElem? (i := 51) rfl) rfl) dX9_someBergMayBe_21 ?_
        refine j_getR C (j := (220 + (b).toNat)) fl_X9_164 ((hB1 ((b).toNat) (by omega)).1) rfl dX9_someBergMayBe_24 ?_
        refine j_iload_n C dX9_someBergMayBe_27 rfl rfl ?_
        refine j_iald C ((hB1 ((b).toNat) (by omega)).2) (by omega) (by omega) (by decide) dX9_someBergMayBe_28 ?_
        refine j_if_le C (tgt := 34) dX9_someBergMayBe_29 (by decide) (hp _ (by omega) (by omega)) (fun c29 => ?_) (fun c29 => ?_)
        · refine j_iinc C (lv' := [some (aR 0), some (aI sq), some (aI (b + 1))]) dX9_someBergMayBe_34 rfl (by decide) rfl ?_
          refine j_goto C (tgt := 2) dX9_someBergMayBe_37 (by decide) ?_
          exact ih2 (b + 1) (by omega) (exB_miss hz (by omega)) (by omega)
        · refine j_iconst C dX9_someBergMayBe_32 ?_
          exact j_zret C hr rfl (Nat.le_refl _) (Nat.le_refl _) dX9_someBergMayBe_33 ⟨rfl, rfl, rfl, _, rfl, zb.one ⟨b, hb0.1, by omega, by omega⟩⟩
  exact K2 _ 0 (by omega) exB_0 (Nat.lt_succ_self _)
