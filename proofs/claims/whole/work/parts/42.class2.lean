set_option maxHeartbeats 4000000 in
set_option maxRecDepth 100000 in
theorem c_here (l : Launch) (S : ab_St) (F : ab_Fn) (A : ab_An) (hS : ab_SC S) (i : Int) (ri : inR i) (he : 0 ≤ F 4 1 ∧ F 4 1 ≤ 400) (hT : ∀ i, 0 ≤ i → i < F 4 1 → 0 ≤ A 15 i ∧ A 15 i ≤ 255) : ab_Met l yX7_here cX7_here 2 (some .int) { frames := 0, cells := 0, slots := 0, locals := 0 } 0 0 [aR 5, aI i] S F A (fun v S' F' A' => S = S' ∧ F = F' ∧ A = A' ∧ v = some (aI ((byt (A 15) (F 4 1)) i))) := by
  refine ab_enter (by decide) (by simp [aI, aR, aX, ab_val, Value.category]) (Nat.le_of_ble_eq_true rfl) (fun E C hr => ?_)
  refine j_eq (lv' := [some (aR 5), some (aI i)]) ?_
  refine j_iload_n C dX7_here_0 rfl rfl ?_
  refine j_if_lt C (tgt := 27) dX7_here_1 (by decide) ri (fun c1 => ?_) (fun c1 => ?_)
  · skip
    refine j_iconst C dX7_here_27 ?_
    refine j_goto C (tgt := 40) dX7_here_28 (by decide) ?_
    exact j_iret C hr (Nat.le_refl _) (Nat.le_refl _) dX7_here_40 ⟨rfl, rfl, rfl, (by first | rfl | (rw [byt_out (by omega)]))⟩
  · refine j_iload_n C dX7_here_4 rfl rfl ?_
    refine j_aload_n C dX7_here_5 rfl rfl ?_
    refine j_getR C (j := 4) fl_X7_12 ((sC_5 hS)) rfl dX7_here_6 ?_
    refine j_get C (aI (F 4 1)) fl_X7_46 ((sC_4 hS)) (fun _ => rfl) dX7_here_9 ?_
    refine j_icmp_ge C (tgt := 27) dX7_here_12 (by decide) ri ⟨by omega, by omega⟩ (fun c12 => ?_) (fun c12 => ?_)
    · skip
      refine j_iconst C dX7_here_27 ?_
      refine j_goto C (tgt := 40) dX7_here_28 (by decide) ?_
      exact j_iret C hr (Nat.le_refl _) (Nat.le_refl _) dX7_here_40 ⟨rfl, rfl, rfl, (by first | rfl | (rw [byt_out (by omega)]))⟩
    · refine j_iload_n C dX7_here_15 rfl rfl ?_
      refine j_aload_n C dX7_here_16 rfl rfl ?_
      refine j_getR C (j := 4) fl_X7_12 ((sC_5 hS)) rfl dX7_here_17 ?_
      refine j_getR C (j := 15) fl_X7_77 ((sC_4 hS)) rfl dX7_here_20 ?_
      refine j_alen C ((sC_15 hS)) 0 (fun _ => rfl) dX7_here_23 ?_
      refine j_eq (st' := [aI 400, aI i]) ?_
      refine j_icmp_lt C (tgt := 31) dX7_here_24 (by decide) ri ⟨by omega, by omega⟩ (fun c24 => ?_) (fun c24 => ?_)
      · have hz9 : A 15 i = (byt (A 15) (F 4 1)) i := by rw [byt_in (by omega) (by omega)]; have := hT i (by omega) (by omega); omega
        refine j_aload_n C dX7_here_31 rfl rfl ?_
        refine j_getR C (j := 4) fl_X7_12 ((sC_5 hS)) rfl dX7_here_32 ?_
        refine j_getR C (j := 15) fl_X7_77 ((sC_4 hS)) rfl dX7_here_35 ?_
        refine j_iload_n C dX7_here_38 rfl rfl ?_
        refine j_iald C ((sC_15 hS)) (by omega) (by omega) (by decide) dX7_here_39 ?_
        refine j_eq (st' := [aI ((byt (A 15) (F 4 1)) i)]) ?_ (e1 := by first | rfl | (simp only [List.cons.injEq, and_true]; exact congrArg aI (hz9)))
        exact j_iret C hr (Nat.le_refl _) (Nat.le_refl _) dX7_here_40 ⟨rfl, rfl, rfl, (by first | rfl | (rw [byt_out (by omega)]))⟩
      · skip
        refine j_iconst C dX7_here_27 ?_
        refine j_goto C (tgt := 40) dX7_here_28 (by decide) ?_
        exact j_iret C hr (Nat.le_refl _) (Nat.le_refl _) dX7_here_40 ⟨rfl, rfl, rfl, (by first | rfl | (rw [byt_out (by omega)]))⟩

set_option maxHeartbeats 4000000 in
set_option maxRecDepth 100000 in
theorem c_isDigit (l : Launch) (S : ab_St) (F : ab_Fn) (A : ab_An) (hS : ab_SC S) (b : Int) (rb : inR b) : ab_Met l yX7_isDigit cX7_isDigit 1 (some .boolean) { frames := 0, cells := 0, slots := 0, locals := 0 } 0 0 [aI b] S F A (fun v S' F' A' => S = S' ∧ F = F' ∧ A = A' ∧ ∃ z : Int, v = some (aI z) ∧ zb z (48 ≤ b ∧ b ≤ 57)) := by
  refine ab_enter (by decide) (by simp [aI, aR, aX, ab_val, Value.category]) (Nat.le_of_ble_eq_true rfl) (fun E C hr => ?_)
  refine j_eq (lv' := [some (aI b)]) ?_
  refine j_iload_n C dX7_isDigit_0 rfl rfl ?_
  refine j_bipush C dX7_isDigit_1 rfl ?_
  refine j_icmp_lt C (tgt := 16) dX7_isDigit_3 (by decide) rb ⟨by omega, by omega⟩ (fun c3 => ?_) (fun c3 => ?_)
  · refine j_iconst C dX7_isDigit_16 ?_
    exact j_zret C hr (ab_nz01 (by omega)) (Nat.le_refl _) (Nat.le_refl _) dX7_isDigit_17 ⟨rfl, rfl, rfl, _, rfl, by unfold zb; omega⟩
  · refine j_iload_n C dX7_isDigit_6 rfl rfl ?_
    refine j_bipush C dX7_isDigit_7 rfl ?_
    refine j_icmp_gt C (tgt := 16) dX7_isDigit_9 (by decide) rb ⟨by omega, by omega⟩ (fun c9 => ?_) (fun c9 => ?_)
    · refine j_iconst C dX7_isDigit_16 ?_
      exact j_zret C hr (ab_nz01 (by omega)) (Nat.le_refl _) (Nat.le_refl _) dX7_isDigit_17 ⟨rfl, rfl, rfl, _, rfl, by unfold zb; omega⟩
    · refine j_iconst C dX7_isDigit_12 ?_
      refine j_goto C (tgt := 17) dX7_isDigit_13 (by decide) ?_
      exact j_zret C hr (ab_nz01 (by omega)) (Nat.le_refl _) (Nat.le_refl _) dX7_isDigit_17 ⟨rfl, rfl, rfl, _, rfl, by unfold zb; omega⟩

set_option maxHeartbeats 4000000 in
set_option maxRecDepth 100000 in
theorem c_isLetter (l : Launch) (S : ab_St) (F : ab_Fn) (A : ab_An) (hS : ab_SC S) (b : Int) (rb : inR b) : ab_Met l yX7_isLetter cX7_isLetter 1 (some .boolean) { frames := 0, cells := 0, slots := 0, locals := 0 } 0 0 [aI b] S F A (fun v S' F' A' => S = S' ∧ F = F' ∧ A = A' ∧ ∃ z : Int, v = some (aI z) ∧ zb z (97 ≤ b ∧ b ≤ 122)) := by
  refine ab_enter (by decide) (by simp [aI, aR, aX, ab_val, Value.category]) (Nat.le_of_ble_eq_true rfl) (fun E C hr => ?_)
  refine j_eq (lv' := [some (aI b)]) ?_
  refine j_iload_n C dX7_isLetter_0 rfl rfl ?_
  refine j_bipush C dX7_isLetter_1 rfl ?_
  refine j_icmp_lt C (tgt := 16) dX7_isLetter_3 (by decide) rb ⟨by omega, by omega⟩ (fun c3 => ?_) (fun c3 => ?_)
  · refine j_iconst C dX7_isLetter_16 ?_
    exact j_zret C hr (ab_nz01 (by omega)) (Nat.le_refl _) (Nat.le_refl _) dX7_isLetter_17 ⟨rfl, rfl, rfl, _, rfl, by unfold zb; omega⟩
  · refine j_iload_n C dX7_isLetter_6 rfl rfl ?_
    refine j_bipush C dX7_isLetter_7 rfl ?_
    refine j_icmp_gt C (tgt := 16) dX7_isLetter_9 (by decide) rb ⟨by omega, by omega⟩ (fun c9 => ?_) (fun c9 => ?_)
    · refine j_iconst C dX7_isLetter_16 ?_
      exact j_zret C hr (ab_nz01 (by omega)) (Nat.le_refl _) (Nat.le_refl _) dX7_isLetter_17 ⟨rfl, rfl, rfl, _, rfl, by unfold zb; omega⟩
    · refine j_iconst C dX7_isLetter_12 ?_
      refine j_goto C (tgt := 17) dX7_isLetter_13 (by decide) ?_
      exact j_zret C hr (ab_nz01 (by omega)) (Nat.le_refl _) (Nat.le_refl _) dX7_isLetter_17 ⟨rfl, rfl, rfl, _, rfl, by unfold zb; omega⟩

theorem byt_r {T : Int → Int} {e i : Int} : -1 ≤ byt T e i ∧ byt T e i ≤ 255 := by unfold byt; split <;> omega
theorem byt_i {T : Int → Int} {e i : Int} : inR (byt T e i) := ⟨by have := byt_r (T := T) (e := e) (i := i); omega, by have := byt_r (T := T) (e := e) (i := i); omega⟩

set_option maxHeartbeats 4000000 in
set_option maxRecDepth 100000 in
theorem c_skipBlanks (l : Launch) (S : ab_St) (F : ab_Fn) (A : ab_An) (hS : ab_SC S) (hp : 0 ≤ F 5 2 ∧ F 5 2 ≤ F 4 1 ∧ F 4 1 ≤ 400) (hT : ∀ i, 0 ≤ i → i < F 4 1 → 0 ≤ A 15 i ∧ A 15 i ≤ 255) : ab_Met l yX7_skipBlanks cX7_skipBlanks 1 none { frames := 1, cells := 0, slots := 0, locals := 21 } 0 0 [aR 5] S F A (fun v S' F' A' => S = S' ∧ A = A' ∧ v = none ∧ ∃ b : Int, b = bl (byt (A 15) (F 4 1)) (F 5 2) ∧ (F 5 2 ≤ b ∧ b ≤ F 4 1) ∧ F' = upF F 5 2 b) := by
  refine ab_enter (by decide) (by simp [aI, aR, aX, ab_val, Value.category]) (Nat.le_of_ble_eq_true rfl) (fun E C hr => ?_)
  refine j_eq (lv' := [some (aR 5)]) ?_
  have K0 : ∀ (N : Nat) (p : Int), (F 5 2 ≤ p ∧ p ≤ F 4 1) → (∀ i, F 5 2 ≤ i → i < p → 32 ≤ (byt (A 15) (F 4 1)) i ∧ (byt (A 15) (F 4 1)) i ≤ 32) → ((F 4 1 - p).toNat) < N → ab_J E 1 0 0 S (upF F 5 2 p) A 0 [some (aR 5)] [] := by
    intro N
    induction N with
    | zero => intro p hp1 hs hm; exact absurd hm (Nat.not_lt_zero _)
    | succ N ih =>
      have ih0 := ih
      clear ih
      intro p hp1 hs hm0
      refine j_aload_n C dX7_skipBlanks_0 rfl rfl ?_
      refine j_get C (aI p) fl_X7_25 ((sC_5 hS)) (fun _ => rfl) dX7_skipBlanks_1 ?_
      refine j_aload_n C dX7_skipBlanks_4 rfl rfl ?_
      refine j_getR C (j := 4) fl_X7_12 ((sC_5 hS)) rfl dX7_skipBlanks_5 ?_
      refine j_get C (aI (F 4 1)) fl_X7_46 ((sC_4 hS)) (fun _ => rfl) dX7_skipBlanks_8 ?_
      refine j_icmp_ge C (tgt := 40) dX7_skipBlanks_11 (by decide) ⟨by omega, by omega⟩ ⟨by omega, by omega⟩ (fun c11 => ?_) (fun c11 => ?_)
      · exact j_vret C hr (Nat.le_refl _) (Nat.le_refl _) dX7_skipBlanks_40 ⟨rfl, rfl, rfl, p, sk_is hp1.1 (by omega) hs (by first | omega | (rw [byt_out (by omega)]; omega)), hp1, rfl⟩
      · refine j_aload_n C dX7_skipBlanks_14 rfl rfl ?_
        refine j_aload_n C dX7_skipBlanks_15 rfl rfl ?_
        refine j_get C (aI p) fl_X7_25 ((sC_5 hS)) (fun _ => rfl) dX7_skipBlanks_16 ?_
        refine j_callV C (vs := [aI p]) (st := []) cl_X7_50 im_yX7_here se_yX7_here (fun _ => c_here _ S (upF F 5 2 p) A hS _ ⟨by omega, by omega⟩ (by show 0 ≤ F 4 1 ∧ F 4 1 ≤ 400; omega) hT) ((sC_5 hS)) rfl rfl rfl ⟨rfl, rfl, by decide, by decide⟩ ⟨by decide, by decide⟩ (fun _ => Nat.le_of_ble_eq_true rfl) (fun v hv => by cases hv) (fun v hv => by simp only [List.mem_cons, List.not_mem_nil, or_false, Option.some.injEq, reduceCtorEq, false_or] at hv; rcases hv with rfl <;> first | exact (lS ((sC_5 hS)))) dX7_skipBlanks_19 (fun v_19 S_19 F_19 A_19 hP_19 => ?_)
        obtain ⟨rfl, rfl, rfl, rfl⟩ := hP_19
        show ab_J E 1 0 0 S (upF F 5 2 p) A 22 [some (aR 5)] [aI ((byt (A 15) (F 4 1)) p)]
        refine j_bipush C dX7_skipBlanks_22 rfl ?_
        refine j_icmp_ne C (tgt := 40) dX7_skipBlanks_24 (by decide) byt_i ⟨by omega, by omega⟩ (fun c24 => ?_) (fun c24 => ?_)
        · exact j_vret C hr (Nat.le_refl _) (Nat.le_refl _) dX7_skipBlanks_40 ⟨rfl, rfl, rfl, p, sk_is hp1.1 (by omega) hs (by first | omega | (rw [byt_out (by omega)]; omega)), hp1, rfl⟩
        · refine j_aload_n C dX7_skipBlanks_27 rfl rfl ?_
          refine j_dup C dX7_skipBlanks_28 (fun _ => rfl) ?_
          refine j_get C (aI p) fl_X7_25 ((sC_5 hS)) (fun _ => rfl) dX7_skipBlanks_29 ?_
          refine j_iconst C dX7_skipBlanks_32 ?_
          refine j_iadd C dX7_skipBlanks_33 ?_
          refine j_putI C fp_X7_25 ((sC_5 hS)) rfl dX7_skipBlanks_34 ?_
          refine j_goto C (tgt := 0) dX7_skipBlanks_37 (by decide) ?_
          refine j_eq (F' := (upF F 5 2 (p + 1))) ?_ (e3 := (upF_up _ _ _ _ _))
          exact ih0 (p + 1) (by omega) (fun i q1 q2 => if q : i = p then by rw [q]; omega else hs i q1 (by omega)) (by omega)
  refine j_eq (F' := (upF F 5 2 (F 5 2))) ?_ (e3 := upF_self)
  exact K0 _ (F 5 2) (by omega) (fun i q1 q2 => by omega) (Nat.lt_succ_self _)

set_option maxHeartbeats 4000000 in
set_option maxRecDepth 100000 in
theorem c_takeWord (l : Launch) (S : ab_St) (F : ab_Fn) (A : ab_An) (hS : ab_SC S) (j : Nat) (hj : j < 8) (hp : 0 ≤ F 5 2 ∧ F 5 2 ≤ F 4 1 ∧ F 4 1 ≤ 400) (hT : ∀ i, 0 ≤ i → i < F 4 1 → 0 ≤ A 15 i ∧ A 15 i ≤ 255) : ab_Met l yX7_takeWord cX7_takeWord 4 (some .boolean) { frames := 5, cells := 0, slots := 0, locals := 106 } 0 0 [aR 5, aR (1000000 + j)] S F A (fun v S' F' A' => S = S' ∧ ∃ b q z : Int, v = some (aI z) ∧ b = bl (byt (A 15) (F 4 1)) (F 5 2) ∧ q = lt' (byt (A 15) (F 4 1)) b ∧ (F 5 2 ≤ b ∧ b ≤ q ∧ q ≤ F 4 1) ∧ A = A' ∧ ((z = 1 ∧ wok (byt (A 15) (F 4 1)) (ab_tx j) b q = true ∧ F' = upF F 5 2 q) ∨ (z = 0 ∧ ¬ wok (byt (A 15) (F 4 1)) (ab_tx j) b q = true ∧ F' = upF F 5 2 b))) := by
  refine ab_enter (by decide) (by simp [aI, aR, aX, ab_val, Value.category]) (Nat.le_of_ble_eq_true rfl) (fun E C hr => ?_)
  refine j_eq (lv' := [some (aR 5), some (aR (1000000 + j)), none, none]) ?_
  have hl := ab_txl j hj
  refine j_aload_n C dX7_takeWord_0 rfl rfl ?_
  refine j_callV C (vs := []) (st := []) cl_X7_43 im_yX7_skipBlanks se_yX7_skipBlanks (fun _ => c_skipBlanks _ S F A hS (by show 0 ≤ F 5 2 ∧ F 5 2 ≤ F 4 1 ∧ F 4 1 ≤ 400; omega) hT) ((sC_5 hS)) rfl rfl rfl ⟨rfl, rfl, by decide, by decide⟩ ⟨by decide, by decide⟩ (fun _ => Nat.le_of_ble_eq_true rfl) (fun v hv => by cases hv) (fun v hv => by simp only [List.mem_cons, List.not_mem_nil, or_false, Option.some.injEq, reduceCtorEq, false_or] at hv; rcases hv with rfl | rfl <;> first | exact (lK (by omega)) | exact (lS ((sC_5 hS)))) dX7_takeWord_1 (fun v_1 S_1 F_1 A_1 hP_1 => ?_)
  obtain ⟨rfl, rfl, rfl, b1, hb1, hr1, rfl⟩ := hP_1
  have hb1 : b1 = bl (byt (A 15) (F 4 1)) (F 5 2) := hb1
  have hr1 : F 5 2 ≤ b1 ∧ b1 ≤ F 4 1 := hr1
  show ab_J E 4 0 0 S (upF F 5 2 b1) A 4 [some (aR 5), some (aR (1000000 + j)), none, none] []
  refine j_aload_n C dX7_takeWord_4 rfl rfl ?_
  refine j_get C (aI b1) fl_X7_25 ((sC_5 hS)) (fun _ => rfl) dX7_takeWord_5 ?_
  refine j_istore_n C (lv' := [some (aR 5), some (aR (1000000 + j)), some (aI b1), none]) dX7_takeWord_8 rfl (by decide) rfl ?_
  have K9 : ∀ (N : Nat) (p : Int), (b1 ≤ p ∧ p ≤ F 4 1) → (∀ i, b1 ≤ i → i < p → 97 ≤ (byt (A 15) (F 4 1)) i ∧ (byt (A 15) (F 4 1)) i ≤ 122) → ((F 4 1 - p).toNat) < N → ab_J E 4 0 0 S (upF F 5 2 b1) A 9 [some (aR 5), some (aR (1000000 + j)), some (aI p), none] [] := by
    intro N
    induction N with
    | zero => intro p hp1 hs hm; exact absurd hm (Nat.not_lt_zero _)
    | succ N ih =>
      have ih9 := ih
      clear ih
      intro p hp1 hs hm9
      refine j_iload_n C dX7_takeWord_9 rfl rfl ?_
      refine j_aload_n C dX7_takeWord_10 rfl rfl ?_
      refine j_getR C (j := 4) fl_X7_12 ((sC_5 hS)) rfl dX7_takeWord_11 ?_
      refine j_get C (aI (F 4 1)) fl_X7_46 ((sC_4 hS)) (fun _ => rfl) dX7_takeWord_14 ?_
      refine j_icmp_ge C (tgt := 37) dX7_takeWord_17 (by decide) ⟨by omega, by omega⟩ ⟨by omega, by omega⟩ (fun c17 => ?_) (fun c17 => ?_)
      · have hq1 := sk_is (U := (byt (A 15) (F 4 1))) (lo := 97) (hi := 122) hp1.1 (by omega) hs (by first | exact hz_25 | (rw [byt_out (by omega)]; omega))
        refine j_iload_n C dX7_takeWord_37 rfl rfl ?_
        refine j_aload_n C dX7_takeWord_38 rfl rfl ?_
        refine j_get C (aI b1) fl_X7_25 ((sC_5 hS)) (fun _ => rfl) dX7_takeWord_39 ?_
        refine j_isub C dX7_takeWord_42 ?_
        refine j_aload_n C dX7_takeWord_43 rfl rfl ?_
        refine j_callT C j (by omega) (vs := []) (st := [aI (p - b1)]) cl_X7_68 im_yJ0_length_8abf5 se_yJ0_length_8abf5 (fun _ => (t_length _ S (upF F 5 2 b1) A _ (by omega))) rfl rfl ⟨rfl, rfl, by decide, by decide⟩ ⟨by decide, by decide⟩ (fun _ => Nat.le_of_ble_eq_true rfl) (fun v hv => by simp only [List.mem_cons, List.not_mem_nil, or_false] at hv; rcases hv with rfl <;> first | exact trivial) (fun v hv => by simp only [List.mem_cons, List.not_mem_nil, or_false, Option.some.injEq, reduceCtorEq, false_or] at hv; rcases hv with rfl | rfl | rfl <;> first | exact (lK (by omega)) | exact (lS ((sC_5 hS))) | exact trivial) dX7_takeWord_44 (fun v_44 S_44 F_44 A_44 hP_44 => ?_)
        obtain ⟨rfl, rfl, rfl, rfl⟩ := hP_44
        show ab_J E 4 0 0 S (upF F 5 2 b1) A 47 [some (aR 5), some (aR (1000000 + j)), some (aI p), none] [aI ((ab_tx j).length : Nat), aI (p - b1)]
        refine j_icmp_eq C (tgt := 52) dX7_takeWord_47 (by decide) ⟨by omega, by omega⟩ ⟨by omega, by omega⟩ (fun c47 => ?_) (fun c47 => ?_)
        · refine j_iconst C dX7_takeWord_52 ?_
          refine j_istore_n C (lv' := [some (aR 5), some (aR (1000000 + j)), some (aI p), some (aI 0)]) dX7_takeWord_53 rfl (by decide) rfl ?_
          have K54 : ∀ (N : Nat) (k : Int), (0 ≤ k ∧ k ≤ ((ab_tx j).length : Nat)) → (∀ i, 0 ≤ i → i < k → (byt (A 15) (F 4 1)) (b1 + i) = (ab_tx j).getD i.toNat 0) → ((((ab_tx j).length : Nat) - k).toNat) < N → ab_J E 4 0 0 S (upF F 5 2 b1) A 54 [some (aR 5), some (aR (1000000 + j)), some (aI p), some (aI k)] [] := by
            intro N
            induction N with
            | zero => intro k hk hz hm; exact absurd hm (Nat.not_lt_zero _)
            | succ N ih =>
              have ih54 := ih
              clear ih
              intro k hk hz hm54
              refine j_iload_n C dX7_takeWord_54 rfl rfl ?_
              refine j_aload_n C dX7_takeWord_55 rfl rfl ?_
              refine j_callT C j (by omega) (vs := []) (st := [aI k]) cl_X7_68 im_yJ0_length_8abf5 se_yJ0_length_8abf5 (fun _ => (t_length _ S (upF F 5 2 b1) A _ (by omega))) rfl rfl ⟨rfl, rfl, by decide, by decide⟩ ⟨by decide, by decide⟩ (fun _ => Nat.le_of_ble_eq_true rfl) (fun v hv => by simp only [List.mem_cons, List.not_mem_nil, or_false] at hv; rcases hv with rfl <;> first | exact trivial) (fun v hv => by simp only [List.mem_cons, List.not_mem_nil, or_false, Option.some.injEq, reduceCtorEq, false_or] at hv; rcases hv with rfl | rfl | rfl | rfl <;> first | exact (lK (by omega)) | exact (lS ((sC_5 hS))) | exact trivial) dX7_takeWord_56 (fun v_56 S_56 F_56 A_56 hP_56 => ?_)
              obtain ⟨rfl, rfl, rfl, rfl⟩ := hP_56
              show ab_J E 4 0 0 S (upF F 5 2 b1) A 59 [some (aR 5), some (aR (1000000 + j)), some (aI p), some (aI k)] [aI ((ab_tx j).length : Nat), aI k]
              refine j_icmp_ge C (tgt := 88) dX7_takeWord_59 (by decide) ⟨by omega, by omega⟩ ⟨by omega, by omega⟩ (fun c59 => ?_) (fun c59 => ?_)
              · refine j_aload_n C dX7_takeWord_88 rfl rfl ?_
                refine j_iload_n C dX7_takeWord_89 rfl rfl ?_
                refine j_putI C fp_X7_25 ((sC_5 hS)) rfl dX7_takeWord_90 ?_
                refine j_iconst C dX7_takeWord_93 ?_
                exact j_zret C hr rfl (Nat.le_refl _) (Nat.le_refl _) dX7_takeWord_94 ⟨rfl, b1, p, _, rfl, hb1, hq1, by omega, rfl, Or.inl ⟨rfl, (by rw [wok_iff]; exact ⟨by omega, fun i q1 q2 => hz i q1 (by omega)⟩), upF_up _ _ _ _ _⟩⟩
              · have hct := ab_txg hj hk.1 (by omega)
                refine j_aload_n C dX7_takeWord_62 rfl rfl ?_
                refine j_aload_n C dX7_takeWord_63 rfl rfl ?_
                refine j_get C (aI b1) fl_X7_25 ((sC_5 hS)) (fun _ => rfl) dX7_takeWord_64 ?_
                refine j_iload_n C dX7_takeWord_67 rfl rfl ?_
                refine j_iadd C dX7_takeWord_68 ?_
                refine j_callV C (vs := [aI (b1 + k)]) (st := []) cl_X7_50 im_yX7_here se_yX7_here (fun _ => c_here _ S (upF F 5 2 b1) A hS _ ⟨by omega, by omega⟩ (by show 0 ≤ F 4 1 ∧ F 4 1 ≤ 400; omega) hT) ((sC_5 hS)) rfl rfl rfl ⟨rfl, rfl, by decide, by decide⟩ ⟨by decide, by decide⟩ (fun _ => Nat.le_of_ble_eq_true rfl) (fun v hv => by cases hv) (fun v hv => by simp only [List.mem_cons, List.not_mem_nil, or_false, Option.some.injEq, reduceCtorEq, false_or] at hv; rcases hv with rfl | rfl | rfl | rfl <;> first | exact (lK (by omega)) | exact (lS ((sC_5 hS))) | exact trivial) dX7_takeWord_69 (fun v_69 S_69 F_69 A_69 hP_69 => ?_)
                obtain ⟨rfl, rfl, rfl, rfl⟩ := hP_69
                show ab_J E 4 0 0 S (upF F 5 2 b1) A 72 [some (aR 5), some (aR (1000000 + j)), some (aI p), some (aI k)] [aI ((byt (A 15) (F 4 1)) (b1 + k))]
                refine j_aload_n C dX7_takeWord_72 rfl rfl ?_
                refine j_iload_n C dX7_takeWord_73 rfl rfl ?_
                refine j_callT C j (by omega) (vs := [aI k]) (st := [aI ((byt (A 15) (F 4 1)) (b1 + k))]) cl_X7_73 im_yJ0_charAt_5068e se_yJ0_charAt_5068e (fun _ => (t_charAt _ S (upF F 5 2 b1) A _ (by omega) _ (by omega) (by omega))) rfl rfl ⟨rfl, rfl, by decide, by decide⟩ ⟨by decide, by decide⟩ (fun _ => Nat.le_of_ble_eq_true rfl) (fun v hv => by simp only [List.mem_cons, List.not_mem_nil, or_false] at hv; rcases hv with rfl <;> first | exact trivial) (fun v hv => by simp only [List.mem_cons, List.not_mem_nil, or_false, Option.some.injEq, reduceCtorEq, false_or] at hv; rcases hv with rfl | rfl | rfl | rfl <;> first | exact (lK (by omega)) | exact (lS ((sC_5 hS))) | exact trivial) dX7_takeWord_74 (fun v_74 S_74 F_74 A_74 hP_74 => ?_)
                obtain ⟨rfl, rfl, rfl, rfl⟩ := hP_74
                show ab_J E 4 0 0 S (upF F 5 2 b1) A 77 [some (aR 5), some (aR (1000000 + j)), some (aI p), some (aI k)] [aI ((ab_tx j).getD (k).toNat 0), aI ((byt (A 15) (F 4 1)) (b1 + k))]
                refine j_icmp_eq C (tgt := 82) dX7_takeWord_77 (by decide) byt_i ⟨by omega, by omega⟩ (fun c77 => ?_) (fun c77 => ?_)
                · refine j_iinc C (lv' := [some (aR 5), some (aR (1000000 + j)), some (aI p), some (aI (k + 1))]) dX7_takeWord_82 rfl (by decide) rfl ?_
                  refine j_goto C (tgt := 54) dX7_takeWord_85 (by decide) ?_
                  exact ih54 (k + 1) (by omega) (fun i q1 q2 => if q : i = k then by rw [q]; exact c77 else hz i q1 (by omega)) (by omega)
                · refine j_iconst C dX7_takeWord_80 ?_
                  exact j_zret C hr rfl (Nat.le_refl _) (Nat.le_refl _) dX7_takeWord_81 ⟨rfl, b1, p, _, rfl, hb1, hq1, by omega, rfl, Or.inr ⟨rfl, (fun q => by rw [wok_iff] at q; exact c77 (q.2 k hk.1 (by omega))), rfl⟩⟩
          exact K54 _ 0 (by omega) (fun i q1 q2 => by omega) (Nat.lt_succ_self _)
        · refine j_iconst C dX7_takeWord_50 ?_
          exact j_zret C hr rfl (Nat.le_refl _) (Nat.le_refl _) dX7_takeWord_51 ⟨rfl, b1, p, _, rfl, hb1, hq1, by omega, rfl, Or.inr ⟨rfl, (fun q => by rw [wok_iff] at q; omega), rfl⟩⟩
      · refine j_aload_n C dX7_takeWord_20 rfl rfl ?_
        refine j_iload_n C dX7_takeWord_21 rfl rfl ?_
        refine j_callV C (vs := [aI p]) (st := []) cl_X7_50 im_yX7_here se_yX7_here (fun _ => c_here _ S (upF F 5 2 b1) A hS _ ⟨by omega, by omega⟩ (by show 0 ≤ F 4 1 ∧ F 4 1 ≤ 400; omega) hT) ((sC_5 hS)) rfl rfl rfl ⟨rfl, rfl, by decide, by decide⟩ ⟨by decide, by decide⟩ (fun _ => Nat.le_of_ble_eq_true rfl) (fun v hv => by cases hv) (fun v hv => by simp only [List.mem_cons, List.not_mem_nil, or_false, Option.some.injEq, reduceCtorEq, false_or] at hv; rcases hv with rfl | rfl | rfl <;> first | exact (lK (by omega)) | exact (lS ((sC_5 hS))) | exact trivial) dX7_takeWord_22 (fun v_22 S_22 F_22 A_22 hP_22 => ?_)
        obtain ⟨rfl, rfl, rfl, rfl⟩ := hP_22
        show ab_J E 4 0 0 S (upF F 5 2 b1) A 25 [some (aR 5), some (aR (1000000 + j)), some (aI p), none] [aI ((byt (A 15) (F 4 1)) p)]
        refine j_callS C (vs := [aI ((byt (A 15) (F 4 1)) p)]) (st := []) cl_X7_65 sc_yX7_isLetter (fun _ => c_isLetter _ S (upF F 5 2 b1) A hS _ byt_i) rfl ⟨rfl, rfl, by decide, by decide⟩ ⟨by decide, by decide⟩ (fun _ => Nat.le_of_ble_eq_true rfl) (fun v hv => by cases hv) (fun v hv => by simp only [List.mem_cons, List.not_mem_nil, or_false, Option.some.injEq, reduceCtorEq, false_or] at hv; rcases hv with rfl | rfl | rfl <;> first | exact (lK (by omega)) | exact (lS ((sC_5 hS))) | exact trivial) dX7_takeWord_25 (fun v_25 S_25 F_25 A_25 hP_25 => ?_)
        obtain ⟨rfl, rfl, rfl, z_25, rfl, ⟨rfl, hz_25⟩ | ⟨rfl, hz_25⟩⟩ := hP_25
        · have hz_25 : 97 ≤ (byt (A 15) (F 4 1)) p ∧ (byt (A 15) (F 4 1)) p ≤ 122 := hz_25
          show ab_J E 4 0 0 S (upF F 5 2 b1) A 28 [some (aR 5), some (aR (1000000 + j)), some (aI p), none] [aI 1]
          refine j_if_eq C (tgt := 37) dX7_takeWord_28 (by decide) ⟨by omega, by omega⟩ (fun c28 => ?_) (fun c28 => ?_)
          · exact absurd c28 (by decide)
          · refine j_iinc C (lv' := [some (aR 5), some (aR (1000000 + j)), some (aI (p + 1)), none]) dX7_takeWord_31 rfl (by decide) rfl ?_
            refine j_goto C (tgt := 9) dX7_takeWord_34 (by decide) ?_
            exact ih9 (p + 1) (by omega) (fun i q1 q2 => if q : i = p then by rw [q]; exact hz_25 else hs i q1 (by omega)) (by omega)
        · have hz_25 : ¬ (97 ≤ (byt (A 15) (F 4 1)) p ∧ (byt (A 15) (F 4 1)) p ≤ 122) := hz_25
          show ab_J E 4 0 0 S (upF F 5 2 b1) A 28 [some (aR 5), some (aR (1000000 + j)), some (aI p), none] [aI 0]
          refine j_if_eq C (tgt := 37) dX7_takeWord_28 (by decide) ⟨by omega, by omega⟩ (fun c28 => ?_) (fun c28 => ?_)
          · have hq1 := sk_is (U := (byt (A 15) (F 4 1))) (lo := 97) (hi := 122) hp1.1 (by omega) hs (by first | exact hz_25 | (rw [byt_out (by omega)]; omega))
            refine j_iload_n C dX7_takeWord_37 rfl rfl ?_
            refine j_aload_n C dX7_takeWord_38 rfl rfl ?_
            refine j_get C (aI b1) fl_X7_25 ((sC_5 hS)) (fun _ => rfl) dX7_takeWord_39 ?_
            refine j_isub C dX7_takeWord_42 ?_
            refine j_aload_n C dX7_takeWord_43 rfl rfl ?_
            refine j_callT C j (by omega) (vs := []) (st := [aI (p - b1)]) cl_X7_68 im_yJ0_length_8abf5 se_yJ0_length_8abf5 (fun _ => (t_length _ S (upF F 5 2 b1) A _ (by omega))) rfl rfl ⟨rfl, rfl, by decide, by decide⟩ ⟨by decide, by decide⟩ (fun _ => Nat.le_of_ble_eq_true rfl) (fun v hv => by simp only [List.mem_cons, List.not_mem_nil, or_false] at hv; rcases hv with rfl <;> first | exact trivial) (fun v hv => by simp only [List.mem_cons, List.not_mem_nil, or_false, Option.some.injEq, reduceCtorEq, false_or] at hv; rcases hv with rfl | rfl | rfl <;> first | exact (lK (by omega)) | exact (lS ((sC_5 hS))) | exact trivial) dX7_takeWord_44 (fun v_44 S_44 F_44 A_44 hP_44 => ?_)
            obtain ⟨rfl, rfl, rfl, rfl⟩ := hP_44
            show ab_J E 4 0 0 S (upF F 5 2 b1) A 47 [some (aR 5), some (aR (1000000 + j)), some (aI p), none] [aI ((ab_tx j).length : Nat), aI (p - b1)]
            refine j_icmp_eq C (tgt := 52) dX7_takeWord_47 (by decide) ⟨by omega, by omega⟩ ⟨by omega, by omega⟩ (fun c47 => ?_) (fun c47 => ?_)
            · refine j_iconst C dX7_takeWord_52 ?_
              refine j_istore_n C (lv' := [some (aR 5), some (aR (1000000 + j)), some (aI p), some (aI 0)]) dX7_takeWord_53 rfl (by decide) rfl ?_
              have K54 : ∀ (N : Nat) (k : Int), (0 ≤ k ∧ k ≤ ((ab_tx j).length : Nat)) → (∀ i, 0 ≤ i → i < k → (byt (A 15) (F 4 1)) (b1 + i) = (ab_tx j).getD i.toNat 0) → ((((ab_tx j).length : Nat) - k).toNat) < N → ab_J E 4 0 0 S (upF F 5 2 b1) A 54 [some (aR 5), some (aR (1000000 + j)), some (aI p), some (aI k)] [] := by
                intro N
                induction N with
                | zero => intro k hk hz hm; exact absurd hm (Nat.not_lt_zero _)
                | succ N ih =>
                  have ih54 := ih
                  clear ih
                  intro k hk hz hm54
                  refine j_iload_n C dX7_takeWord_54 rfl rfl ?_
                  refine j_aload_n C dX7_takeWord_55 rfl rfl ?_
                  refine j_callT C j (by omega) (vs := []) (st := [aI k]) cl_X7_68 im_yJ0_length_8abf5 se_yJ0_length_8abf5 (fun _ => (t_length _ S (upF F 5 2 b1) A _ (by omega))) rfl rfl ⟨rfl, rfl, by decide, by decide⟩ ⟨by decide, by decide⟩ (fun _ => Nat.le_of_ble_eq_true rfl) (fun v hv => by simp only [List.mem_cons, List.not_mem_nil, or_false] at hv; rcases hv with rfl <;> first | exact trivial) (fun v hv => by simp only [List.mem_cons, List.not_mem_nil, or_false, Option.some.injEq, reduceCtorEq, false_or] at hv; rcases hv with rfl | rfl | rfl | rfl <;> first | exact (lK (by omega)) | exact (lS ((sC_5 hS))) | exact trivial) dX7_takeWord_56 (fun v_56 S_56 F_56 A_56 hP_56 => ?_)
                  obtain ⟨rfl, rfl, rfl, rfl⟩ := hP_56
                  show ab_J E 4 0 0 S (upF F 5 2 b1) A 59 [some (aR 5), some (aR (1000000 + j)), some (aI p), some (aI k)] [aI ((ab_tx j).length : Nat), aI k]
                  refine j_icmp_ge C (tgt := 88) dX7_takeWord_59 (by decide) ⟨by omega, by omega⟩ ⟨by omega, by omega⟩ (fun c59 => ?_) (fun c59 => ?_)
                  · refine j_aload_n C dX7_takeWord_88 rfl rfl ?_
                    refine j_iload_n C dX7_takeWord_89 rfl rfl ?_
                    refine j_putI C fp_X7_25 ((sC_5 hS)) rfl dX7_takeWord_90 ?_
                    refine j_iconst C dX7_takeWord_93 ?_
                    exact j_zret C hr rfl (Nat.le_refl _) (Nat.le_refl _) dX7_takeWord_94 ⟨rfl, b1, p, _, rfl, hb1, hq1, by omega, rfl, Or.inl ⟨rfl, (by rw [wok_iff]; exact ⟨by omega, fun i q1 q2 => hz i q1 (by omega)⟩), upF_up _ _ _ _ _⟩⟩
                  · have hct := ab_txg hj hk.1 (by omega)
                    refine j_aload_n C dX7_takeWord_62 rfl rfl ?_
                    refine j_aload_n C dX7_takeWord_63 rfl rfl ?_
                    refine j_get C (aI b1) fl_X7_25 ((sC_5 hS)) (fun _ => rfl) dX7_takeWord_64 ?_
                    refine j_iload_n C dX7_takeWord_67 rfl rfl ?_
                    refine j_iadd C dX7_takeWord_68 ?_
                    refine j_callV C (vs := [aI (b1 + k)]) (st := []) cl_X7_50 im_yX7_here se_yX7_here (fun _ => c_here _ S (upF F 5 2 b1) A hS _ ⟨by omega, by omega⟩ (by show 0 ≤ F 4 1 ∧ F 4 1 ≤ 400; omega) hT) ((sC_5 hS)) rfl rfl rfl ⟨rfl, rfl, by decide, by decide⟩ ⟨by decide, by decide⟩ (fun _ => Nat.le_of_ble_eq_true rfl) (fun v hv => by cases hv) (fun v hv => by simp only [List.mem_cons, List.not_mem_nil, or_false, Option.some.injEq, reduceCtorEq, false_or] at hv; rcases hv with rfl | rfl | rfl | rfl <;> first | exact (lK (by omega)) | exact (lS ((sC_5 hS))) | exact trivial) dX7_takeWord_69 (fun v_69 S_69 F_69 A_69 hP_69 => ?_)
                    obtain ⟨rfl, rfl, rfl, rfl⟩ := hP_69
                    show ab_J E 4 0 0 S (upF F 5 2 b1) A 72 [some (aR 5), some (aR (1000000 + j)), some (aI p), some (aI k)] [aI ((byt (A 15) (F 4 1)) (b1 + k))]
                    refine j_aload_n C dX7_takeWord_72 rfl rfl ?_
                    refine j_iload_n C dX7_takeWord_73 rfl rfl ?_
                    refine j_callT C j (by omega) (vs := [aI k]) (st := [aI ((byt (A 15) (F 4 1)) (b1 + k))]) cl_X7_73 im_yJ0_charAt_5068e se_yJ0_charAt_5068e (fun _ => (t_charAt _ S (upF F 5 2 b1) A _ (by omega) _ (by omega) (by omega))) rfl rfl ⟨rfl, rfl, by decide, by decide⟩ ⟨by decide, by decide⟩ (fun _ => Nat.le_of_ble_eq_true rfl) (fun v hv => by simp only [List.mem_cons, List.not_mem_nil, or_false] at hv; rcases hv with rfl <;> first | exact trivial) (fun v hv => by simp only [List.mem_cons, List.not_mem_nil, or_false, Option.some.injEq, reduceCtorEq, false_or] at hv; rcases hv with rfl | rfl | rfl | rfl <;> first | exact (lK (by omega)) | exact (lS ((sC_5 hS))) | exact trivial) dX7_takeWord_74 (fun v_74 S_74 F_74 A_74 hP_74 => ?_)
                    obtain ⟨rfl, rfl, rfl, rfl⟩ := hP_74
                    show ab_J E 4 0 0 S (upF F 5 2 b1) A 77 [some (aR 5), some (aR (1000000 + j)), some (aI p), some (aI k)] [aI ((ab_tx j).getD (k).toNat 0), aI ((byt (A 15) (F 4 1)) (b1 + k))]
                    refine j_icmp_eq C (tgt := 82) dX7_takeWord_77 (by decide) byt_i ⟨by omega, by omega⟩ (fun c77 => ?_) (fun c77 => ?_)
                    · refine j_iinc C (lv' := [some (aR 5), some (aR (1000000 + j)), some (aI p), some (aI (k + 1))]) dX7_takeWord_82 rfl (by decide) rfl ?_
                      refine j_goto C (tgt := 54) dX7_takeWord_85 (by decide) ?_
                      exact ih54 (k + 1) (by omega) (fun i q1 q2 => if q : i = k then by rw [q]; exact c77 else hz i q1 (by omega)) (by omega)
                    · refine j_iconst C dX7_takeWord_80 ?_
                      exact j_zret C hr rfl (Nat.le_refl _) (Nat.le_refl _) dX7_takeWord_81 ⟨rfl, b1, p, _, rfl, hb1, hq1, by omega, rfl, Or.inr ⟨rfl, (fun q => by rw [wok_iff] at q; exact c77 (q.2 k hk.1 (by omega))), rfl⟩⟩
              exact K54 _ 0 (by omega) (fun i q1 q2 => by omega) (Nat.lt_succ_self _)
            · refine j_iconst C dX7_takeWord_50 ?_
              exact j_zret C hr rfl (Nat.le_refl _) (Nat.le_refl _) dX7_takeWord_51 ⟨rfl, b1, p, _, rfl, hb1, hq1, by omega, rfl, Or.inr ⟨rfl, (fun q => by rw [wok_iff] at q; omega), rfl⟩⟩
          · exact absurd c28 (by decide)
  exact K9 _ b1 (by omega) (fun i q1 q2 => by omega) (Nat.lt_succ_self _)

set_option maxHeartbeats 4000000 in
set_option maxRecDepth 100000 in
theorem c_takeNumber (l : Launch) (S : ab_St) (F : ab_Fn) (A : ab_An) (hS : ab_SC S) (hi : Int) (hh : 0 ≤ hi ∧ hi ≤ 99) (hp : 0 ≤ F 5 2 ∧ F 5 2 ≤ F 4 1 ∧ F 4 1 ≤ 400) (hT : ∀ i, 0 ≤ i → i < F 4 1 → 0 ≤ A 15 i ∧ A 15 i ≤ 255) : ab_Met l yX7_takeNumber cX7_takeNumber 5 (some .int) { frames := 2, cells := 0, slots := 0, locals := 41 } 0 0 [aR 5, aI hi] S F A (fun v S' F' A' => S = S' ∧ ∃ b q r a : Int, v = some (aI r) ∧ b = bl (byt (A 15) (F 4 1)) (F 5 2) ∧ q = dg (byt (A 15) (F 4 1)) b ∧ (F 5 2 ≤ b ∧ b ≤ q ∧ q ≤ F 4 1) ∧ A = A' ∧ r = nV (byt (A 15) (F 4 1)) b q hi ∧ (-1 ≤ r ∧ r ≤ hi) ∧ F' = upF F 5 2 a ∧ ((r = -1 ∧ a = b) ∨ (0 ≤ r ∧ a = q))) := by
  refine ab_enter (by decide) (by simp [aI, aR, aX, ab_val, Value.category]) (Nat.le_of_ble_eq_true rfl) (fun E C hr => ?_)
  refine j_eq (lv' := [some (aR 5), some (aI hi), none, none, none]) ?_
  refine j_aload_n C dX7_takeNumber_0 rfl rfl ?_
  refine j_callV C (vs := []) (st := []) cl_X7_43 im_yX7_skipBlanks se_yX7_skipBlanks (fun _ => c_skipBlanks _ S F A hS (by show 0 ≤ F 5 2 ∧ F 5 2 ≤ F 4 1 ∧ F 4 1 ≤ 400; omega) hT) ((sC_5 hS)) rfl rfl rfl ⟨rfl, rfl, by decide, by decide⟩ ⟨by decide, by decide⟩ (fun _ => Nat.le_of_ble_eq_true rfl) (fun v hv => by cases hv) (fun v hv => by simp only [List.mem_cons, List.not_mem_nil, or_false, Option.some.injEq, reduceCtorEq, false_or] at hv; rcases hv with rfl | rfl <;> first | exact (lS ((sC_5 hS))) | exact trivial) dX7_takeNumber_1 (fun v_1 S_1 F_1 A_1 hP_1 => ?_)
  obtain ⟨rfl, rfl, rfl, b1, hb1, hr1, rfl⟩ := hP_1
  have hb1 : b1 = bl (byt (A 15) (F 4 1)) (F 5 2) := hb1
  have hr1 : F 5 2 ≤ b1 ∧ b1 ≤ F 4 1 := hr1
  show ab_J E 5 0 0 S (upF F 5 2 b1) A 4 [some (aR 5), some (aI hi), none, none, none] []
  refine j_aload_n C dX7_takeNumber_4 rfl rfl ?_
  refine j_get C (aI b1) fl_X7_25 ((sC_5 hS)) (fun _ => rfl) dX7_takeNumber_5 ?_
  refine j_istore_n C (lv' := [some (aR 5), some (aI hi), some (aI b1), none, none]) dX7_takeNumber_8 rfl (by decide) rfl ?_
  have K9 : ∀ (N : Nat) (p : Int), (b1 ≤ p ∧ p ≤ F 4 1) → (∀ i, b1 ≤ i → i < p → 48 ≤ (byt (A 15) (F 4 1)) i ∧ (byt (A 15) (F 4 1)) i ≤ 57) → ((F 4 1 - p).toNat) < N → ab_J E 5 0 0 S (upF F 5 2 b1) A 9 [some (aR 5), some (aI hi), some (aI p), none, none] [] := by
    intro N
    induction N with
    | zero => intro p hp1 hs hm; exact absurd hm (Nat.not_lt_zero _)
    | succ N ih =>
      have ih9 := ih
      clear ih
      intro p hp1 hs hm9
      refine j_iload_n C dX7_takeNumber_9 rfl rfl ?_
      refine j_aload_n C dX7_takeNumber_10 rfl rfl ?_
      refine j_getR C (j := 4) fl_X7_12 ((sC_5 hS)) rfl dX7_takeNumber_11 ?_
      refine j_get C (aI (F 4 1)) fl_X7_46 ((sC_4 hS)) (fun _ => rfl) dX7_takeNumber_14 ?_
      refine j_icmp_ge C (tgt := 37) dX7_takeNumber_17 (by decide) ⟨by omega, by omega⟩ ⟨by omega, by omega⟩ (fun c17 => ?_) (fun c17 => ?_)
      · have hq1 := sk_is (U := (byt (A 15) (F 4 1))) (lo := 48) (hi := 57) hp1.1 (by omega) hs (by first | exact hz_25 | (rw [byt_out (by omega)]; omega))
        refine j_iload_n C dX7_takeNumber_37 rfl rfl ?_
        refine j_aload_n C dX7_takeNumber_38 rfl rfl ?_
        refine j_get C (aI b1) fl_X7_25 ((sC_5 hS)) (fun _ => rfl) dX7_takeNumber_39 ?_
        refine j_icmp_eq C (tgt := 55) dX7_takeNumber_42 (by decide) ⟨by omega, by omega⟩ ⟨by omega, by omega⟩ (fun c42 => ?_) (fun c42 => ?_)
        · refine j_iconst C dX7_takeNumber_55 ?_
          exact j_iret C hr (Nat.le_refl _) (Nat.le_refl _) dX7_takeNumber_56 ⟨rfl, b1, p, _, b1, rfl, hb1, hq1, by omega, rfl, (by unfold nV; rw [if_pos (by omega)]), by omega, rfl, Or.inl ⟨rfl, rfl⟩⟩
        · refine j_iload_n C dX7_takeNumber_45 rfl rfl ?_
          refine j_aload_n C dX7_takeNumber_46 rfl rfl ?_
          refine j_get C (aI b1) fl_X7_25 ((sC_5 hS)) (fun _ => rfl) dX7_takeNumber_47 ?_
          refine j_iconst C dX7_takeNumber_50 ?_
          refine j_iadd C dX7_takeNumber_51 ?_
          refine j_icmp_le C (tgt := 57) dX7_takeNumber_52 (by decide) ⟨by omega, by omega⟩ ⟨by omega, by omega⟩ (fun c52 => ?_) (fun c52 => ?_)
          · refine j_iconst C dX7_takeNumber_57 ?_
            refine j_istore_n C (lv' := [some (aR 5), some (aI hi), some (aI p), some (aI 0), none]) dX7_takeNumber_58 rfl (by decide) rfl ?_
            refine j_aload_n C dX7_takeNumber_59 rfl rfl ?_
            refine j_get C (aI b1) fl_X7_25 ((sC_5 hS)) (fun _ => rfl) dX7_takeNumber_60 ?_
            refine j_istore C (lv' := [some (aR 5), some (aI hi), some (aI p), some (aI 0), some (aI b1)]) dX7_takeNumber_63 (by decide) rfl ?_
            have K65 : ∀ (N : Nat) (n0 k : Int), (b1 ≤ k ∧ k ≤ p) → (n0 = nvp (byt (A 15) (F 4 1)) b1 k) → (0 ≤ n0 ∧ n0 ≤ 99 ∧ (k = b1 → n0 = 0) ∧ (k = b1 + 1 → n0 ≤ 9)) → ((p - k).toNat) < N → ab_J E 5 0 0 S (upF F 5 2 b1) A 65 [some (aR 5), some (aI hi), some (aI p), some (aI n0), some (aI k)] [] := by
              intro N
              induction N with
              | zero => intro n0 k hk hv hvr hm; exact absurd hm (Nat.not_lt_zero _)
              | succ N ih =>
                have ih65 := ih
                clear ih
                intro n0 k hk hv hvr hm65
                refine j_iload C dX7_takeNumber_65 rfl ?_
                refine j_iload_n C dX7_takeNumber_67 rfl rfl ?_
                refine j_icmp_ge C (tgt := 92) dX7_takeNumber_68 (by decide) ⟨by omega, by omega⟩ ⟨by omega, by omega⟩ (fun c68 => ?_) (fun c68 => ?_)
                · refine j_iload_n C dX7_takeNumber_92 rfl rfl ?_
                  refine j_iload_n C dX7_takeNumber_93 rfl rfl ?_
                  refine j_icmp_le C (tgt := 99) dX7_takeNumber_94 (by decide) ⟨by omega, by omega⟩ ⟨by omega, by omega⟩ (fun c94 => ?_) (fun c94 => ?_)
                  · refine j_aload_n C dX7_takeNumber_99 rfl rfl ?_
                    refine j_iload_n C dX7_takeNumber_100 rfl rfl ?_
                    refine j_putI C fp_X7_25 ((sC_5 hS)) rfl dX7_takeNumber_101 ?_
                    refine j_iload_n C dX7_takeNumber_104 rfl rfl ?_
                    exact j_iret C hr (Nat.le_refl _) (Nat.le_refl _) dX7_takeNumber_105 ⟨rfl, b1, p, _, p, rfl, hb1, hq1, by omega, rfl, (by have e : k = p := (by omega); rw [e] at hv; unfold nV; rw [← hv, if_neg (by omega)]), by omega, upF_up _ _ _ _ _, Or.inr ⟨by omega, rfl⟩⟩
                  · refine j_iconst C dX7_takeNumber_97 ?_
                    exact j_iret C hr (Nat.le_refl _) (Nat.le_refl _) dX7_takeNumber_98 ⟨rfl, b1, p, _, b1, rfl, hb1, hq1, by omega, rfl, (by have e : k = p := (by omega); rw [e] at hv; unfold nV; rw [← hv, if_pos (by omega)]), by omega, rfl, Or.inl ⟨rfl, rfl⟩⟩
                · have hsk := hs k hk.1 (by omega)
                  refine j_iload_n C dX7_takeNumber_71 rfl rfl ?_
                  refine j_bipush C dX7_takeNumber_72 rfl ?_
                  refine j_imul C dX7_takeNumber_74 ?_
                  refine j_aload_n C dX7_takeNumber_75 rfl rfl ?_
                  refine j_iload C dX7_takeNumber_76 rfl ?_
                  refine j_callV C (vs := [aI k]) (st := [aI (n0 * 10)]) cl_X7_50 im_yX7_here se_yX7_here (fun _ => c_here _ S (upF F 5 2 b1) A hS _ ⟨by omega, by omega⟩ (by show 0 ≤ F 4 1 ∧ F 4 1 ≤ 400; omega) hT) ((sC_5 hS)) rfl rfl rfl ⟨rfl, rfl, by decide, by decide⟩ ⟨by decide, by decide⟩ (fun _ => Nat.le_of_ble_eq_true rfl) (fun v hv => by simp only [List.mem_cons, List.not_mem_nil, or_false] at hv; rcases hv with rfl <;> first | exact trivial) (fun v hv => by simp only [List.mem_cons, List.not_mem_nil, or_false, Option.some.injEq, reduceCtorEq, false_or] at hv; rcases hv with rfl | rfl | rfl | rfl | rfl <;> first | exact (lS ((sC_5 hS))) | exact trivial) dX7_takeNumber_78 (fun v_78 S_78 F_78 A_78 hP_78 => ?_)
                  obtain ⟨rfl, rfl, rfl, rfl⟩ := hP_78
                  show ab_J E 5 0 0 S (upF F 5 2 b1) A 81 [some (aR 5), some (aI hi), some (aI p), some (aI n0), some (aI k)] [aI ((byt (A 15) (F 4 1)) k), aI (n0 * 10)]
                  refine j_iadd C dX7_takeNumber_81 ?_
                  refine j_bipush C dX7_takeNumber_82 rfl ?_
                  refine j_isub C dX7_takeNumber_84 ?_
                  refine j_istore_n C (lv' := [some (aR 5), some (aI hi), some (aI p), some (aI (((n0 * 10) + ((byt (A 15) (F 4 1)) k)) - 48)), some (aI k)]) dX7_takeNumber_85 rfl (by decide) rfl ?_
                  refine j_iinc C (lv' := [some (aR 5), some (aI hi), some (aI p), some (aI (((n0 * 10) + ((byt (A 15) (F 4 1)) k)) - 48)), some (aI (k + 1))]) dX7_takeNumber_86 rfl (by decide) rfl ?_
                  refine j_goto C (tgt := 65) dX7_takeNumber_89 (by decide) ?_
                  exact ih65 (((n0 * 10) + ((byt (A 15) (F 4 1)) k)) - 48) (k + 1) (by omega) (by rcases (show k = b1 ∨ k = b1 + 1 by omega) with e | e; (rw [nvp_1 e, ← hv]; omega); (rw [nvp_2 e, ← hv]; omega)) (by omega) (by omega)
            exact K65 _ 0 b1 (by omega) (nvp_0 (Int.le_refl _)).symm (by omega) (Nat.lt_succ_self _)
          · refine j_iconst C dX7_takeNumber_55 ?_
            exact j_iret C hr (Nat.le_refl _) (Nat.le_refl _) dX7_takeNumber_56 ⟨rfl, b1, p, _, b1, rfl, hb1, hq1, by omega, rfl, (by unfold nV; rw [if_pos (by omega)]), by omega, rfl, Or.inl ⟨rfl, rfl⟩⟩
      · refine j_aload_n C dX7_takeNumber_20 rfl rfl ?_
        refine j_iload_n C dX7_takeNumber_21 rfl rfl ?_
        refine j_callV C (vs := [aI p]) (st := []) cl_X7_50 im_yX7_here se_yX7_here (fun _ => c_here _ S (upF F 5 2 b1) A hS _ ⟨by omega, by omega⟩ (by show 0 ≤ F 4 1 ∧ F 4 1 ≤ 400; omega) hT) ((sC_5 hS)) rfl rfl rfl ⟨rfl, rfl, by decide, by decide⟩ ⟨by decide, by decide⟩ (fun _ => Nat.le_of_ble_eq_true rfl) (fun v hv => by cases hv) (fun v hv => by simp only [List.mem_cons, List.not_mem_nil, or_false, Option.some.injEq, reduceCtorEq, false_or] at hv; rcases hv with rfl | rfl | rfl <;> first | exact (lS ((sC_5 hS))) | exact trivial) dX7_takeNumber_22 (fun v_22 S_22 F_22 A_22 hP_22 => ?_)
        obtain ⟨rfl, rfl, rfl, rfl⟩ := hP_22
        show ab_J E 5 0 0 S (upF F 5 2 b1) A 25 [some (aR 5), some (aI hi), some (aI p), none, none] [aI ((byt (A 15) (F 4 1)) p)]
        refine j_callS C (vs := [aI ((byt (A 15) (F 4 1)) p)]) (st := []) cl_X7_61 sc_yX7_isDigit (fun _ => c_isDigit _ S (upF F 5 2 b1) A hS _ byt_i) rfl ⟨rfl, rfl, by decide, by decide⟩ ⟨by decide, by decide⟩ (fun _ => Nat.le_of_ble_eq_true rfl) (fun v hv => by cases hv) (fun v hv => by simp only [List.mem_cons, List.not_mem_nil, or_false, Option.some.injEq, reduceCtorEq, false_or] at hv; rcases hv with rfl | rfl | rfl <;> first | exact (lS ((sC_5 hS))) | exact trivial) dX7_takeNumber_25 (fun v_25 S_25 F_25 A_25 hP_25 => ?_)
        obtain ⟨rfl, rfl, rfl, z_25, rfl, ⟨rfl, hz_25⟩ | ⟨rfl, hz_25⟩⟩ := hP_25
        · have hz_25 : 48 ≤ (byt (A 15) (F 4 1)) p ∧ (byt (A 15) (F 4 1)) p ≤ 57 := hz_25
          show ab_J E 5 0 0 S (upF F 5 2 b1) A 28 [some (aR 5), some (aI hi), some (aI p), none, none] [aI 1]
          refine j_if_eq C (tgt := 37) dX7_takeNumber_28 (by decide) ⟨by omega, by omega⟩ (fun c28 => ?_) (fun c28 => ?_)
          · exact absurd c28 (by decide)
          · refine j_iinc C (lv' := [some (aR 5), some (aI hi), some (aI (p + 1)), none, none]) dX7_takeNumber_31 rfl (by decide) rfl ?_
            refine j_goto C (tgt := 9) dX7_takeNumber_34 (by decide) ?_
            exact ih9 (p + 1) (by omega) (fun i q1 q2 => if q : i = p then by rw [q]; exact hz_25 else hs i q1 (by omega)) (by omega)
        · have hz_25 : ¬ (48 ≤ (byt (A 15) (F 4 1)) p ∧ (byt (A 15) (F 4 1)) p ≤ 57) := hz_25
          show ab_J E 5 0 0 S (upF F 5 2 b1) A 28 [some (aR 5), some (aI hi), some (aI p), none, none] [aI 0]
          refine j_if_eq C (tgt := 37) dX7_takeNumber_28 (by decide) ⟨by omega, by omega⟩ (fun c28 => ?_) (fun c28 => ?_)
          · have hq1 := sk_is (U := (byt (A 15) (F 4 1))) (lo := 48) (hi := 57) hp1.1 (by omega) hs (by first | exact hz_25 | (rw [byt_out (by omega)]; omega))
            refine j_iload_n C dX7_takeNumber_37 rfl rfl ?_
            refine j_aload_n C dX7_takeNumber_38 rfl rfl ?_
            refine j_get C (aI b1) fl_X7_25 ((sC_5 hS)) (fun _ => rfl) dX7_takeNumber_39 ?_
            refine j_icmp_eq C (tgt := 55) dX7_takeNumber_42 (by decide) ⟨by omega, by omega⟩ ⟨by omega, by omega⟩ (fun c42 => ?_) (fun c42 => ?_)
            · refine j_iconst C dX7_takeNumber_55 ?_
              exact j_iret C hr (Nat.le_refl _) (Nat.le_refl _) dX7_takeNumber_56 ⟨rfl, b1, p, _, b1, rfl, hb1, hq1, by omega, rfl, (by unfold nV; rw [if_pos (by omega)]), by omega, rfl, Or.inl ⟨rfl, rfl⟩⟩
            · refine j_iload_n C dX7_takeNumber_45 rfl rfl ?_
              refine j_aload_n C dX7_takeNumber_46 rfl rfl ?_
              refine j_get C (aI b1) fl_X7_25 ((sC_5 hS)) (fun _ => rfl) dX7_takeNumber_47 ?_
              refine j_iconst C dX7_takeNumber_50 ?_
              refine j_iadd C dX7_takeNumber_51 ?_
              refine j_icmp_le C (tgt := 57) dX7_takeNumber_52 (by decide) ⟨by omega, by omega⟩ ⟨by omega, by omega⟩ (fun c52 => ?_) (fun c52 => ?_)
              · refine j_iconst C dX7_takeNumber_57 ?_
                refine j_istore_n C (lv' := [some (aR 5), some (aI hi), some (aI p), some (aI 0), none]) dX7_takeNumber_58 rfl (by decide) rfl ?_
                refine j_aload_n C dX7_takeNumber_59 rfl rfl ?_
                refine j_get C (aI b1) fl_X7_25 ((sC_5 hS)) (fun _ => rfl) dX7_takeNumber_60 ?_
                refine j_istore C (lv' := [some (aR 5), some (aI hi), some (aI p), some (aI 0), some (aI b1)]) dX7_takeNumber_63 (by decide) rfl ?_
                have K65 : ∀ (N : Nat) (n0 k : Int), (b1 ≤ k ∧ k ≤ p) → (n0 = nvp (byt (A 15) (F 4 1)) b1 k) → (0 ≤ n0 ∧ n0 ≤ 99 ∧ (k = b1 → n0 = 0) ∧ (k = b1 + 1 → n0 ≤ 9)) → ((p - k).toNat) < N → ab_J E 5 0 0 S (upF F 5 2 b1) A 65 [some (aR 5), some (aI hi), some (aI p), some (aI n0), some (aI k)] [] := by
                  intro N
                  induction N with
                  | zero => intro n0 k hk hv hvr hm; exact absurd hm (Nat.not_lt_zero _)
                  | succ N ih =>
                    have ih65 := ih
                    clear ih
                    intro n0 k hk hv hvr hm65
                    refine j_iload C dX7_takeNumber_65 rfl ?_
                    refine j_iload_n C dX7_takeNumber_67 rfl rfl ?_
                    refine j_icmp_ge C (tgt := 92) dX7_takeNumber_68 (by decide) ⟨by omega, by omega⟩ ⟨by omega, by omega⟩ (fun c68 => ?_) (fun c68 => ?_)
                    · refine j_iload_n C dX7_takeNumber_92 rfl rfl ?_
                      refine j_iload_n C dX7_takeNumber_93 rfl rfl ?_
                      refine j_icmp_le C (tgt := 99) dX7_takeNumber_94 (by decide) ⟨by omega, by omega⟩ ⟨by omega, by omega⟩ (fun c94 => ?_) (fun c94 => ?_)
                      · refine j_aload_n C dX7_takeNumber_99 rfl rfl ?_
                        refine j_iload_n C dX7_takeNumber_100 rfl rfl ?_
                        refine j_putI C fp_X7_25 ((sC_5 hS)) rfl dX7_takeNumber_101 ?_
                        refine j_iload_n C dX7_takeNumber_104 rfl rfl ?_
                        exact j_iret C hr (Nat.le_refl _) (Nat.le_refl _) dX7_takeNumber_105 ⟨rfl, b1, p, _, p, rfl, hb1, hq1, by omega, rfl, (by have e : k = p := (by omega); rw [e] at hv; unfold nV; rw [← hv, if_neg (by omega)]), by omega, upF_up _ _ _ _ _, Or.inr ⟨by omega, rfl⟩⟩
                      · refine j_iconst C dX7_takeNumber_97 ?_
                        exact j_iret C hr (Nat.le_refl _) (Nat.le_refl _) dX7_takeNumber_98 ⟨rfl, b1, p, _, b1, rfl, hb1, hq1, by omega, rfl, (by have e : k = p := (by omega); rw [e] at hv; unfold nV; rw [← hv, if_pos (by omega)]), by omega, rfl, Or.inl ⟨rfl, rfl⟩⟩
                    · have hsk := hs k hk.1 (by omega)
                      refine j_iload_n C dX7_takeNumber_71 rfl rfl ?_
                      refine j_bipush C dX7_takeNumber_72 rfl ?_
                      refine j_imul C dX7_takeNumber_74 ?_
                      refine j_aload_n C dX7_takeNumber_75 rfl rfl ?_
                      refine j_iload C dX7_takeNumber_76 rfl ?_
                      refine j_callV C (vs := [aI k]) (st := [aI (n0 * 10)]) cl_X7_50 im_yX7_here se_yX7_here (fun _ => c_here _ S (upF F 5 2 b1) A hS _ ⟨by omega, by omega⟩ (by show 0 ≤ F 4 1 ∧ F 4 1 ≤ 400; omega) hT) ((sC_5 hS)) rfl rfl rfl ⟨rfl, rfl, by decide, by decide⟩ ⟨by decide, by decide⟩ (fun _ => Nat.le_of_ble_eq_true rfl) (fun v hv => by simp only [List.mem_cons, List.not_mem_nil, or_false] at hv; rcases hv with rfl <;> first | exact trivial) (fun v hv => by simp only [List.mem_cons, List.not_mem_nil, or_false, Option.some.injEq, reduceCtorEq, false_or] at hv; rcases hv with rfl | rfl | rfl | rfl | rfl <;> first | exact (lS ((sC_5 hS))) | exact trivial) dX7_takeNumber_78 (fun v_78 S_78 F_78 A_78 hP_78 => ?_)
                      obtain ⟨rfl, rfl, rfl, rfl⟩ := hP_78
                      show ab_J E 5 0 0 S (upF F 5 2 b1) A 81 [some (aR 5), some (aI hi), some (aI p), some (aI n0), some (aI k)] [aI ((byt (A 15) (F 4 1)) k), aI (n0 * 10)]
                      refine j_iadd C dX7_takeNumber_81 ?_
                      refine j_bipush C dX7_takeNumber_82 rfl ?_
                      refine j_isub C dX7_takeNumber_84 ?_
                      refine j_istore_n C (lv' := [some (aR 5), some (aI hi), some (aI p), some (aI (((n0 * 10) + ((byt (A 15) (F 4 1)) k)) - 48)), some (aI k)]) dX7_takeNumber_85 rfl (by decide) rfl ?_
                      refine j_iinc C (lv' := [some (aR 5), some (aI hi), some (aI p), some (aI (((n0 * 10) + ((byt (A 15) (F 4 1)) k)) - 48)), some (aI (k + 1))]) dX7_takeNumber_86 rfl (by decide) rfl ?_
                      refine j_goto C (tgt := 65) dX7_takeNumber_89 (by decide) ?_
                      exact ih65 (((n0 * 10) + ((byt (A 15) (F 4 1)) k)) - 48) (k + 1) (by omega) (by rcases (show k = b1 ∨ k = b1 + 1 by omega) with e | e; (rw [nvp_1 e, ← hv]; omega); (rw [nvp_2 e, ← hv]; omega)) (by omega) (by omega)
                exact K65 _ 0 b1 (by omega) (nvp_0 (Int.le_refl _)).symm (by omega) (Nat.lt_succ_self _)
              · refine j_iconst C dX7_takeNumber_55 ?_
                exact j_iret C hr (Nat.le_refl _) (Nat.le_refl _) dX7_takeNumber_56 ⟨rfl, b1, p, _, b1, rfl, hb1, hq1, by omega, rfl, (by unfold nV; rw [if_pos (by omega)]), by omega, rfl, Or.inl ⟨rfl, rfl⟩⟩
          · exact absurd c28 (by decide)
  exact K9 _ b1 (by omega) (fun i q1 q2 => by omega) (Nat.lt_succ_self _)
