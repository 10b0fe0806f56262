/-! bytes of an int -/
def ush (a : Int) (b : Nat) : Int := ((Int32.ofInt a).toUInt32 >>> ((Int32.ofInt (b : Int)).toUInt32 &&& Int32.toUInt32 31)).toInt32.toInt
theorem ush_m {a : Int} (ha : inR a) (b : Nat) (hb : b = 24 ∨ b = 16 ∨ b = 8) : ush a b % 256 = a / 2 ^ b % 256 := by
  unfold ush
  have e0 : ∀ x : UInt32, x.toInt32.toInt % 256 = (x.toNat : Int) % 256 := by
    intro x
    have h : x.toInt32.toInt = (x.toNat : Int).bmod (2 ^ 32) := by
      show x.toBitVec.toInt = _
      rw [BitVec.toInt_eq_toNat_bmod]; rfl
    rw [h, Int.bmod_def]
    have := x.toNat_lt
    split <;> omega
  rw [e0]
  have hu : ((Int32.ofInt a).toUInt32.toNat : Int) = a % 2 ^ 32 := by
    show ((BitVec.ofInt 32 a).toNat : Int) = _
    rw [BitVec.toNat_ofInt]; omega
  obtain ⟨h1, h2⟩ := ha
  have hs : ∀ c : UInt32, ((Int32.ofInt a).toUInt32 >>> c).toNat = (Int32.ofInt a).toUInt32.toNat >>> (c.toNat % 32) := fun c => UInt32.toNat_shiftRight _ _
  rcases hb with rfl | rfl | rfl
  · rw [hs, show ((Int32.ofInt ((24 : Nat) : Int)).toUInt32 &&& Int32.toUInt32 31).toNat % 32 = 24 from rfl, Nat.shiftRight_eq_div_pow]
    omega
  · rw [hs, show ((Int32.ofInt ((16 : Nat) : Int)).toUInt32 &&& Int32.toUInt32 31).toNat % 32 = 16 from rfl, Nat.shiftRight_eq_div_pow]
    omega
  · rw [hs, show ((Int32.ofInt ((8 : Nat) : Int)).toUInt32 &&& Int32.toUInt32 31).toNat % 32 = 8 from rfl, Nat.shiftRight_eq_div_pow]
    omega
/-- byte x of an int -/
def bt (v x : Int) : Int := v / 2 ^ (24 - 8 * x).toNat % 256
theorem put4 {A : ab_An} {i : Nat} {t a0 a1 a2 a3 : Int} {f : Int → Int} (h0 : a0 = f 0) (h1 : a1 = f 1) (h2 : a2 = f 2) (h3 : a3 = f 3) : upA (upA (upA (upA A i t a0) i (t + 1) a1) i (t + 1 + 1) a2) i (t + 1 + 1 + 1) a3 = setRow A i t 4 f := by
  have e1 : upA A i t a0 = setRow A i t 1 f := (congrArg (fun B => upA B i t a0) (setRow_0 A i t f)).trans (setRow_up (n := 0) (by omega) (by omega) h0)
  have e2 : upA (setRow A i t 1 f) i (t + 1) a1 = setRow A i t 2 f := setRow_up (n := 1) (by omega) rfl h1
  have e3 : upA (setRow A i t 2 f) i (t + 1 + 1) a2 = setRow A i t 3 f := setRow_up (n := 2) (by omega) (by omega) h2
  have e4 : upA (setRow A i t 3 f) i (t + 1 + 1 + 1) a3 = setRow A i t 4 f := setRow_up (n := 3) (by omega) (by omega) h3
  rw [e1, e2, e3, e4]
theorem fb_bt (a b c d e k : Int) : fb a b c d e k % 256 = bt (fv a b c d e (k / 4)) (k % 4) := rfl

set_option maxHeartbeats 4000000 in
set_option maxRecDepth 100000 in
theorem c_put (l : Launch) (S : ab_St) (F : ab_Fn) (A : ab_An) (hS : ab_SC S) (c : Int) (ht : 0 ≤ F 4 1 ∧ F 4 1 < 400) : ab_Met l yX6_put cX6_put 2 none { frames := 0, cells := 0, slots := 0, locals := 0 } 0 0 [aR 4, aI c] S F A (fun v S' F' A' => S = S' ∧ v = none ∧ F' = upF F 4 1 (F 4 1 + 1) ∧ A' = upA A 15 (F 4 1) (c % 256)) := by
  refine ab_enter (by decide) (by simp [aI, aR, aX, ab_val, Value.category]) (Nat.le_of_ble_eq_true rfl) (fun E C hr => ?_)
  refine j_eq (lv' := [some (aR 4), some (aI c)]) ?_
  refine j_aload_n C dX6_put_0 rfl rfl ?_
  refine j_get C (aI (F 4 1)) fl_X6_15 ((sC_4 hS)) (fun _ => rfl) dX6_put_1 ?_
  refine j_if_lt C (tgt := 43) dX6_put_4 (by decide) ⟨by omega, by omega⟩ (fun c4 => ?_) (fun c4 => ?_)
  · exact absurd c4 (by omega)
  · refine j_aload_n C dX6_put_7 rfl rfl ?_
    refine j_get C (aI (F 4 1)) fl_X6_15 ((sC_4 hS)) (fun _ => rfl) dX6_put_8 ?_
    refine j_aload_n C dX6_put_11 rfl rfl ?_
    refine j_getR C (j := 15) fl_X6_9 ((sC_4 hS)) rfl dX6_put_12 ?_
    refine j_alen C ((sC_15 hS)) 0 (fun _ => rfl) dX6_put_15 ?_
    refine j_eq (st' := [aI 400, aI (F 4 1)]) ?_
    refine j_icmp_ge C (tgt := 43) dX6_put_16 (by decide) ⟨by omega, by omega⟩ ⟨by omega, by omega⟩ (fun c16 => ?_) (fun c16 => ?_)
    · exact absurd c16 (by omega)
    · refine j_aload_n C dX6_put_19 rfl rfl ?_
      refine j_getR C (j := 15) fl_X6_9 ((sC_4 hS)) rfl dX6_put_20 ?_
      refine j_aload_n C dX6_put_23 rfl rfl ?_
      refine j_get C (aI (F 4 1)) fl_X6_15 ((sC_4 hS)) (fun _ => rfl) dX6_put_24 ?_
      refine j_iload_n C dX6_put_27 rfl rfl ?_
      refine j_sipush C dX6_put_28 rfl ?_
      refine j_iand C dX6_put_31 ?_
      refine j_eq (st' := [aI (c % 256), aI (F 4 1), aR 15]) ?_ (e1 := by first | rfl | (simp only [List.cons.injEq, and_true]; exact congrArg aI (ab_and255m _)))
      refine j_iast C ((sC_15 hS)) (by omega) (by omega) (by decide) dX6_put_32 ?_
      refine j_aload_n C dX6_put_33 rfl rfl ?_
      refine j_dup C dX6_put_34 (fun _ => rfl) ?_
      refine j_get C (aI (F 4 1)) fl_X6_15 ((sC_4 hS)) (fun _ => rfl) dX6_put_35 ?_
      refine j_iconst C dX6_put_38 ?_
      refine j_iadd C dX6_put_39 ?_
      refine j_putI C fp_X6_15 ((sC_4 hS)) rfl dX6_put_40 ?_
      exact j_vret C hr (Nat.le_refl _) (Nat.le_refl _) dX6_put_43 ⟨rfl, rfl, rfl, rfl⟩

set_option maxHeartbeats 4000000 in
set_option maxRecDepth 100000 in
theorem c_putFour (l : Launch) (S : ab_St) (F : ab_Fn) (A : ab_An) (hS : ab_SC S) (x : Int) (rx : inR x) (ht : 0 ≤ F 4 1 ∧ F 4 1 + 4 ≤ 400) : ab_Met l yX6_putFour cX6_putFour 2 none { frames := 1, cells := 0, slots := 0, locals := 21 } 0 0 [aR 4, aI x] S F A (fun v S' F' A' => S = S' ∧ v = none ∧ F' = upF F 4 1 (F 4 1 + 4) ∧ A' = setRow A 15 (F 4 1) 4 (bt x)) := by
  refine ab_enter (by decide) (by simp [aI, aR, aX, ab_val, Value.category]) (Nat.le_of_ble_eq_true rfl) (fun E C hr => ?_)
  refine j_eq (lv' := [some (aR 4), some (aI x)]) ?_
  refine j_aload_n C dX6_putFour_0 rfl rfl ?_
  refine j_iload_n C dX6_putFour_1 rfl rfl ?_
  refine j_bipush C dX6_putFour_2 rfl ?_
  refine j_iushr C dX6_putFour_4 ?_
  refine j_eq (st' := [aI (ush x 24), aR 4]) ?_
  refine j_callV C (vs := [aI (ush x 24)]) (st := []) cl_X6_19 im_yX6_put se_yX6_put (fun _ => c_put _ S F A hS _ (by show 0 ≤ F 4 1 ∧ F 4 1 < 400; omega)) ((sC_4 hS)) rfl rfl rfl ⟨rfl, rfl, by decide, by decide⟩ ⟨by decide, by decide⟩ (fun _ => Nat.le_of_ble_eq_true rfl) (fun v hv => by cases hv) (fun v hv => by simp only [List.mem_cons, List.not_mem_nil, or_false, Option.some.injEq, reduceCtorEq, false_or] at hv; rcases hv with rfl | rfl <;> first | exact (lS ((sC_4 hS))) | exact trivial) dX6_putFour_5 (fun v_5 S_5 F_5 A_5 hP_5 => ?_)
  obtain ⟨rfl, rfl, rfl, rfl⟩ := hP_5
  show ab_J E 2 0 0 S (upF F 4 1 (F 4 1 + 1)) (upA A 15 (F 4 1) ((ush x 24) % 256)) 8 [some (aR 4), some (aI x)] []
  refine j_aload_n C dX6_putFour_8 rfl rfl ?_
  refine j_iload_n C dX6_putFour_9 rfl rfl ?_
  refine j_bipush C dX6_putFour_10 rfl ?_
  refine j_iushr C dX6_putFour_12 ?_
  refine j_eq (st' := [aI (ush x 16), aR 4]) ?_
  refine j_callV C (vs := [aI (ush x 16)]) (st := []) cl_X6_19 im_yX6_put se_yX6_put (fun _ => c_put _ S (upF F 4 1 (F 4 1 + 1)) (upA A 15 (F 4 1) ((ush x 24) % 256)) hS _ (by show 0 ≤ F 4 1 + 1 ∧ F 4 1 + 1 < 400; omega)) ((sC_4 hS)) rfl rfl rfl ⟨rfl, rfl, by decide, by decide⟩ ⟨by decide, by decide⟩ (fun _ => Nat.le_of_ble_eq_true rfl) (fun v hv => by cases hv) (fun v hv => by simp only [List.mem_cons, List.not_mem_nil, or_false, Option.some.injEq, reduceCtorEq, false_or] at hv; rcases hv with rfl | rfl <;> first | exact (lS ((sC_4 hS))) | exact trivial) dX6_putFour_13 (fun v_13 S_13 F_13 A_13 hP_13 => ?_)
  obtain ⟨rfl, rfl, rfl, rfl⟩ := hP_13
  show ab_J E 2 0 0 S (upF (upF F 4 1 (F 4 1 + 1)) 4 1 (F 4 1 + 1 + 1)) (upA (upA A 15 (F 4 1) ((ush x 24) % 256)) 15 (F 4 1 + 1) ((ush x 16) % 256)) 16 [some (aR 4), some (aI x)] []
  refine j_aload_n C dX6_putFour_16 rfl rfl ?_
  refine j_iload_n C dX6_putFour_17 rfl rfl ?_
  refine j_bipush C dX6_putFour_18 rfl ?_
  refine j_iushr C dX6_putFour_20 ?_
  refine j_eq (st' := [aI (ush x 8), aR 4]) ?_
  refine j_callV C (vs := [aI (ush x 8)]) (st := []) cl_X6_19 im_yX6_put se_yX6_put (fun _ => c_put _ S (upF (upF F 4 1 (F 4 1 + 1)) 4 1 (F 4 1 + 1 + 1)) (upA (upA A 15 (F 4 1) ((ush x 24) % 256)) 15 (F 4 1 + 1) ((ush x 16) % 256)) hS _ (by show 0 ≤ F 4 1 + 1 + 1 ∧ F 4 1 + 1 + 1 < 400; omega)) ((sC_4 hS)) rfl rfl rfl ⟨rfl, rfl, by decide, by decide⟩ ⟨by decide, by decide⟩ (fun _ => Nat.le_of_ble_eq_true rfl) (fun v hv => by cases hv) (fun v hv => by simp only [List.mem_cons, List.not_mem_nil, or_false, Option.some.injEq, reduceCtorEq, false_or] at hv; rcases hv with rfl | rfl <;> first | exact (lS ((sC_4 hS))) | exact trivial) dX6_putFour_21 (fun v_21 S_21 F_21 A_21 hP_21 => ?_)
  obtain ⟨rfl, rfl, rfl, rfl⟩ := hP_21
  show ab_J E 2 0 0 S (upF (upF (upF F 4 1 (F 4 1 + 1)) 4 1 (F 4 1 + 1 + 1)) 4 1 (F 4 1 + 1 + 1 + 1)) (upA (upA (upA A 15 (F 4 1) ((ush x 24) % 256)) 15 (F 4 1 + 1) ((ush x 16) % 256)) 15 (F 4 1 + 1 + 1) ((ush x 8) % 256)) 24 [some (aR 4), some (aI x)] []
  refine j_aload_n C dX6_putFour_24 rfl rfl ?_
  refine j_iload_n C dX6_putFour_25 rfl rfl ?_
  refine j_callV C (vs := [aI x]) (st := []) cl_X6_19 im_yX6_put se_yX6_put (fun _ => c_put _ S (upF (upF (upF F 4 1 (F 4 1 + 1)) 4 1 (F 4 1 + 1 + 1)) 4 1 (F 4 1 + 1 + 1 + 1)) (upA (upA (upA A 15 (F 4 1) ((ush x 24) % 256)) 15 (F 4 1 + 1) ((ush x 16) % 256)) 15 (F 4 1 + 1 + 1) ((ush x 8) % 256)) hS _ (by show 0 ≤ F 4 1 + 1 + 1 + 1 ∧ F 4 1 + 1 + 1 + 1 < 400; omega)) ((sC_4 hS)) rfl rfl rfl ⟨rfl, rfl, by decide, by decide⟩ ⟨by decide, by decide⟩ (fun _ => Nat.le_of_ble_eq_true rfl) (fun v hv => by cases hv) (fun v hv => by simp only [List.mem_cons, List.not_mem_nil, or_false, Option.some.injEq, reduceCtorEq, false_or] at hv; rcases hv with rfl | rfl <;> first | exact (lS ((sC_4 hS))) | exact trivial) dX6_putFour_26 (fun v_26 S_26 F_26 A_26 hP_26 => ?_)
  obtain ⟨rfl, rfl, rfl, rfl⟩ := hP_26
  show ab_J E 2 0 0 S (upF (upF (upF (upF F 4 1 (F 4 1 + 1)) 4 1 (F 4 1 + 1 + 1)) 4 1 (F 4 1 + 1 + 1 + 1)) 4 1 (F 4 1 + 1 + 1 + 1 + 1)) (upA (upA (upA (upA A 15 (F 4 1) ((ush x 24) % 256)) 15 (F 4 1 + 1) ((ush x 16) % 256)) 15 (F 4 1 + 1 + 1) ((ush x 8) % 256)) 15 (F 4 1 + 1 + 1 + 1) (x % 256)) 29 [some (aR 4), some (aI x)] []
  exact j_vret C hr (Nat.le_refl _) (Nat.le_refl _) dX6_putFour_29 ⟨rfl, rfl, (by simp only [upF_up]; exact congrArg (upF F 4 1) (by omega)), (by
    rw [ush_m rx 24 (Or.inl rfl), ush_m rx 16 (Or.inr (Or.inl rfl)), ush_m rx 8 (Or.inr (Or.inr rfl))]
    exact put4 rfl rfl rfl (by show x % 256 = x / 2 ^ (24 - 8 * (3 : Int)).toNat % 256; rw [show (24 - 8 * (3 : Int)).toNat = 0 from rfl]; omega))⟩

set_option maxHeartbeats 4000000 in
set_option maxRecDepth 100000 in
theorem c_feed (l : Launch) (S : ab_St) (F : ab_Fn) (A : ab_An) (hS : ab_SC S) (a b c d e : Int) (ra : inR a) (rb : inR b) (rc : inR c) (rd : inR d) (re : inR e) (ht : 0 ≤ F 4 1 ∧ F 4 1 ≤ 400) : ab_Met l yX9_feed cX9_feed 6 (some .int) { frames := 2, cells := 0, slots := 0, locals := 42 } 0 0 [aR 0, aI a, aI b, aI c, aI d, aI e] S F A (fun v S' F' A' => S = S' ∧ ((v = some (aI (-1)) ∧ 400 < F 4 1 + 20 ∧ F' = F ∧ A = A') ∨ (v = some (aI (F 4 1 + 20)) ∧ F 4 1 + 20 ≤ 400 ∧ F' = upF F 4 1 (F 4 1 + 20) ∧ (∀ i, i ≠ 15 → A' i = A i) ∧ (∀ j, j < F 4 1 → A' 15 j = A 15 j) ∧ ∀ k, 0 ≤ k → k < 20 → A' 15 (F 4 1 + k) = fb a b c d e k % 256))) := by
  refine ab_enter (by decide) (by simp [aI, aR, aX, ab_val, Value.category]) (Nat.le_of_ble_eq_true rfl) (fun E C hr => ?_)
  refine j_eq (lv' := [some (aR 0), some (aI a), some (aI b), some (aI c), some (aI d), some (aI e)]) ?_
  refine j_aload_n C dX9_feed_0 rfl rfl ?_
  refine j_getR C (j := 4) fl_X9_37 ((sC_0 hS)) rfl dX9_feed_1 ?_
  refine j_get C (aI (F 4 1)) fl_X9_76 ((sC_4 hS)) (fun _ => rfl) dX9_feed_4 ?_
  refine j_bipush C dX9_feed_7 rfl ?_
  refine j_iadd C dX9_feed_9 ?_
  refine j_sipush C dX9_feed_10 rfl ?_
  refine j_icmp_le C (tgt := 18) dX9_feed_13 (by decide) ⟨by omega, by omega⟩ ⟨by omega, by omega⟩ (fun c13 => ?_) (fun c13 => ?_)
  · refine j_aload_n C dX9_feed_18 rfl rfl ?_
    refine j_getR C (j := 4) fl_X9_37 ((sC_0 hS)) rfl dX9_feed_19 ?_
    refine j_iload_n C dX9_feed_22 rfl rfl ?_
    refine j_callV C (vs := [aI a]) (st := []) cl_X9_81 im_yX6_putFour se_yX6_putFour (fun _ => c_putFour _ S F A hS _ ra (by show 0 ≤ F 4 1 ∧ F 4 1 + 4 ≤ 400; omega)) ((sC_4 hS)) rfl rfl rfl ⟨rfl, rfl, by decide, by decide⟩ ⟨by decide, by decide⟩ (fun _ => Nat.le_of_ble_eq_true rfl) (fun v hv => by cases hv) (fun v hv => by simp only [List.mem_cons, List.not_mem_nil, or_false, Option.some.injEq, reduceCtorEq, false_or] at hv; rcases hv with rfl | rfl | rfl | rfl | rfl | rfl <;> first | exact (lS ((sC_0 hS))) | exact trivial) dX9_feed_23 (fun v_23 S_23 F_23 A_23 hP_23 => ?_)
    obtain ⟨rfl, rfl, rfl, rfl⟩ := hP_23
    show ab_J E 6 0 0 S (upF F 4 1 (F 4 1 + 4)) (setRow A 15 (F 4 1) 4 (bt a)) 26 [some (aR 0), some (aI a), some (aI b), some (aI c), some (aI d), some (aI e)] []
    refine j_aload_n C dX9_feed_26 rfl rfl ?_
    refine j_getR C (j := 4) fl_X9_37 ((sC_0 hS)) rfl dX9_feed_27 ?_
    refine j_iload_n C dX9_feed_30 rfl rfl ?_
    refine j_callV C (vs := [aI b]) (st := []) cl_X9_81 im_yX6_putFour se_yX6_putFour (fun _ => c_putFour _ S (upF F 4 1 (F 4 1 + 4)) (setRow A 15 (F 4 1) 4 (bt a)) hS _ rb (by show 0 ≤ F 4 1 + 4 ∧ F 4 1 + 4 + 4 ≤ 400; omega)) ((sC_4 hS)) rfl rfl rfl ⟨rfl, rfl, by decide, by decide⟩ ⟨by decide, by decide⟩ (fun _ => Nat.le_of_ble_eq_true rfl) (fun v hv => by cases hv) (fun v hv => by simp only [List.mem_cons, List.not_mem_nil, or_false, Option.some.injEq, reduceCtorEq, false_or] at hv; rcases hv with rfl | rfl | rfl | rfl | rfl | rfl <;> first | exact (lS ((sC_0 hS))) | exact trivial) dX9_feed_31 (fun v_31 S_31 F_31 A_31 hP_31 => ?_)
    obtain ⟨rfl, rfl, rfl, rfl⟩ := hP_31
    show ab_J E 6 0 0 S (upF (upF F 4 1 (F 4 1 + 4)) 4 1 (F 4 1 + 4 + 4)) (setRow (setRow A 15 (F 4 1) 4 (bt a)) 15 (F 4 1 + 4) 4 (bt b)) 34 [some (aR 0), some (aI a), some (aI b), some (aI c), some (aI d), some (aI e)] []
    refine j_aload_n C dX9_feed_34 rfl rfl ?_
    refine j_getR C (j := 4) fl_X9_37 ((sC_0 hS)) rfl dX9_feed_35 ?_
    refine j_iload_n C dX9_feed_38 rfl rfl ?_
    refine j_callV C (vs := [aI c]) (st := []) cl_X9_81 im_yX6_putFour se_yX6_putFour (fun _ => c_putFour _ S (upF (upF F 4 1 (F 4 1 + 4)) 4 1 (F 4 1 + 4 + 4)) (setRow (setRow A 15 (F 4 1) 4 (bt a)) 15 (F 4 1 + 4) 4 (bt b)) hS _ rc (by show 0 ≤ F 4 1 + 4 + 4 ∧ F 4 1 + 4 + 4 + 4 ≤ 400; omega)) ((sC_4 hS)) rfl rfl rfl ⟨rfl, rfl, by decide, by decide⟩ ⟨by decide, by decide⟩ (fun _ => Nat.le_of_ble_eq_true rfl) (fun v hv => by cases hv) (fun v hv => by simp only [List.mem_cons, List.not_mem_nil, or_false, Option.some.injEq, reduceCtorEq, false_or] at hv; rcases hv with rfl | rfl | rfl | rfl | rfl | rfl <;> first | exact (lS ((sC_0 hS))) | exact trivial) dX9_feed_39 (fun v_39 S_39 F_39 A_39 hP_39 => ?_)
    obtain ⟨rfl, rfl, rfl, rfl⟩ := hP_39
    show ab_J E 6 0 0 S (upF (upF (upF F 4 1 (F 4 1 + 4)) 4 1 (F 4 1 + 4 + 4)) 4 1 (F 4 1 + 4 + 4 + 4)) (setRow (setRow (setRow A 15 (F 4 1) 4 (bt a)) 15 (F 4 1 + 4) 4 (bt b)) 15 (F 4 1 + 4 + 4) 4 (bt c)) 42 [some (aR 0), some (aI a), some (aI b), some (aI c), some (aI d), some (aI e)] []
    refine j_aload_n C dX9_feed_42 rfl rfl ?_
    refine j_getR C (j := 4) fl_X9_37 ((sC_0 hS)) rfl dX9_feed_43 ?_
    refine j_iload C dX9_feed_46 rfl ?_
    refine j_callV C (vs := [aI d]) (st := []) cl_X9_81 im_yX6_putFour se_yX6_putFour (fun _ => c_putFour _ S (upF (upF (upF F 4 1 (F 4 1 + 4)) 4 1 (F 4 1 + 4 + 4)) 4 1 (F 4 1 + 4 + 4 + 4)) (setRow (setRow (setRow A 15 (F 4 1) 4 (bt a)) 15 (F 4 1 + 4) 4 (bt b)) 15 (F 4 1 + 4 + 4) 4 (bt c)) hS _ rd (by show 0 ≤ F 4 1 + 4 + 4 + 4 ∧ F 4 1 + 4 + 4 + 4 + 4 ≤ 400; omega)) ((sC_4 hS)) rfl rfl rfl ⟨rfl, rfl, by decide, by decide⟩ ⟨by decide, by decide⟩ (fun _ => Nat.le_of_ble_eq_true rfl) (fun v hv => by cases hv) (fun v hv => by simp only [List.mem_cons, List.not_mem_nil, or_false, Option.some.injEq, reduceCtorEq, false_or] at hv; rcases hv with rfl | rfl | rfl | rfl | rfl | rfl <;> first | exact (lS ((sC_0 hS))) | exact trivial) dX9_feed_48 (fun v_48 S_48 F_48 A_48 hP_48 => ?_)
    obtain ⟨rfl, rfl, rfl, rfl⟩ := hP_48
    show ab_J E 6 0 0 S (upF (upF (upF (upF F 4 1 (F 4 1 + 4)) 4 1 (F 4 1 + 4 + 4)) 4 1 (F 4 1 + 4 + 4 + 4)) 4 1 (F 4 1 + 4 + 4 + 4 + 4)) (setRow (setRow (setRow (setRow A 15 (F 4 1) 4 (bt a)) 15 (F 4 1 + 4) 4 (bt b)) 15 (F 4 1 + 4 + 4) 4 (bt c)) 15 (F 4 1 + 4 + 4 + 4) 4 (bt d)) 51 [some (aR 0), some (aI a), some (aI b), some (aI c), some (aI d), some (aI e)] []
    refine j_aload_n C dX9_feed_51 rfl rfl ?_
    refine j_getR C (j := 4) fl_X9_37 ((sC_0 hS)) rfl dX9_feed_52 ?_
    refine j_iload C dX9_feed_55 rfl ?_
    refine j_callV C (vs := [aI e]) (st := []) cl_X9_81 im_yX6_putFour se_yX6_putFour (fun _ => c_putFour _ S (upF (upF (upF (upF F 4 1 (F 4 1 + 4)) 4 1 (F 4 1 + 4 + 4)) 4 1 (F 4 1 + 4 + 4 + 4)) 4 1 (F 4 1 + 4 + 4 + 4 + 4)) (setRow (setRow (setRow (setRow A 15 (F 4 1) 4 (bt a)) 15 (F 4 1 + 4) 4 (bt b)) 15 (F 4 1 + 4 + 4) 4 (bt c)) 15 (F 4 1 + 4 + 4 + 4) 4 (bt d)) hS _ re (by show 0 ≤ F 4 1 + 4 + 4 + 4 + 4 ∧ F 4 1 + 4 + 4 + 4 + 4 + 4 ≤ 400; omega)) ((sC_4 hS)) rfl rfl rfl ⟨rfl, rfl, by decide, by decide⟩ ⟨by decide, by decide⟩ (fun _ => Nat.le_of_ble_eq_true rfl) (fun v hv => by cases hv) (fun v hv => by simp only [List.mem_cons, List.not_mem_nil, or_false, Option.some.injEq, reduceCtorEq, false_or] at hv; rcases hv with rfl | rfl | rfl | rfl | rfl | rfl <;> first | exact (lS ((sC_0 hS))) | exact trivial) dX9_feed_57 (fun v_57 S_57 F_57 A_57 hP_57 => ?_)
    obtain ⟨rfl, rfl, rfl, rfl⟩ := hP_57
    show ab_J E 6 0 0 S (upF (upF (upF (upF (upF F 4 1 (F 4 1 + 4)) 4 1 (F 4 1 + 4 + 4)) 4 1 (F 4 1 + 4 + 4 + 4)) 4 1 (F 4 1 + 4 + 4 + 4 + 4)) 4 1 (F 4 1 + 4 + 4 + 4 + 4 + 4)) (setRow (setRow (setRow (setRow (setRow A 15 (F 4 1) 4 (bt a)) 15 (F 4 1 + 4) 4 (bt b)) 15 (F 4 1 + 4 + 4) 4 (bt c)) 15 (F 4 1 + 4 + 4 + 4) 4 (bt d)) 15 (F 4 1 + 4 + 4 + 4 + 4) 4 (bt e)) 60 [some (aR 0), some (aI a), some (aI b), some (aI c), some (aI d), some (aI e)] []
    refine j_aload_n C dX9_feed_60 rfl rfl ?_
    refine j_getR C (j := 4) fl_X9_37 ((sC_0 hS)) rfl dX9_feed_61 ?_
    refine j_get C (aI (F 4 1 + 4 + 4 + 4 + 4 + 4)) fl_X9_76 ((sC_4 hS)) (fun _ => rfl) dX9_feed_64 ?_
    exact j_iret C hr (Nat.le_refl _) (Nat.le_refl _) dX9_feed_67 ⟨rfl, Or.inr ⟨congrArg (fun z => some (aI z)) (by omega), by omega, (by simp only [upF_up]; exact congrArg (upF F 4 1) (by omega)), (fun i hi => by rw [setRow_other hi, setRow_other hi, setRow_other hi, setRow_other hi, setRow_other hi]), (fun j hj => by rw [setRow_out (by omega), setRow_out (by omega), setRow_out (by omega), setRow_out (by omega), setRow_out (by omega)]), (fun k h0 h1 => by
    rw [fb_bt]
    rcases (show k / 4 = 0 ∨ k / 4 = 1 ∨ k / 4 = 2 ∨ k / 4 = 3 ∨ k / 4 = 4 by omega) with q | q | q | q | q
    · rw [q, setRow_out (by omega), setRow_out (by omega), setRow_out (by omega), setRow_out (by omega), setRow_in (by omega) (by omega)]; exact congrArg (bt a) (by omega)
    · rw [q, setRow_out (by omega), setRow_out (by omega), setRow_out (by omega), setRow_in (by omega) (by omega)]; exact congrArg (bt b) (by omega)
    · rw [q, setRow_out (by omega), setRow_out (by omega), setRow_in (by omega) (by omega)]; exact congrArg (bt c) (by omega)
    · rw [q, setRow_out (by omega), setRow_in (by omega) (by omega)]; exact congrArg (bt d) (by omega)
    · rw [q, setRow_in (by omega) (by omega)]; exact congrArg (bt e) (by omega))⟩⟩
  · refine j_iconst C dX9_feed_16 ?_
    exact j_iret C hr (Nat.le_refl _) (Nat.le_refl _) dX9_feed_17 ⟨rfl, Or.inl ⟨rfl, by omega, rfl, rfl⟩⟩

set_option maxHeartbeats 4000000 in
set_option maxRecDepth 100000 in
theorem c_end (l : Launch) (S : ab_St) (F : ab_Fn) (A : ab_An) (hS : ab_SC S) (a : Int) (ra : inR a) (ht : 0 ≤ F 4 1 ∧ F 4 1 ≤ 400) : ab_Met l yX9_end cX9_end 2 (some .boolean) { frames := 0, cells := 0, slots := 0, locals := 0 } 0 0 [aR 0, aI a] S F A (fun v S' F' A' => S = S' ∧ A = A' ∧ ∃ z : Int, v = some (aI z) ∧ ((z = 0 ∧ ¬ (0 ≤ a ∧ a ≤ F 4 1) ∧ F' = F) ∨ (z = 1 ∧ (0 ≤ a ∧ a ≤ F 4 1) ∧ F' = upF F 4 1 a))) := by
  refine ab_enter (by decide) (by simp [aI, aR, aX, ab_val, Value.category]) (Nat.le_of_ble_eq_true rfl) (fun E C hr => ?_)
  refine j_eq (lv' := [some (aR 0), some (aI a)]) ?_
  refine j_iload_n C dX9_end_0 rfl rfl ?_
  refine j_if_lt C (tgt := 15) dX9_end_1 (by decide) ra (fun c1 => ?_) (fun c1 => ?_)
  · refine j_iconst C dX9_end_15 ?_
    exact j_zret C hr (ab_nz01 (by omega)) (Nat.le_refl _) (Nat.le_refl _) dX9_end_16 ⟨rfl, rfl, _, rfl, (by first | exact Or.inl ⟨rfl, by omega, rfl⟩ | exact Or.inr ⟨rfl, by omega, rfl⟩)⟩
  · refine j_iload_n C dX9_end_4 rfl rfl ?_
    refine j_aload_n C dX9_end_5 rfl rfl ?_
    refine j_getR C (j := 4) fl_X9_37 ((sC_0 hS)) rfl dX9_end_6 ?_
    refine j_get C (aI (F 4 1)) fl_X9_76 ((sC_4 hS)) (fun _ => rfl) dX9_end_9 ?_
    refine j_icmp_le C (tgt := 17) dX9_end_12 (by decide) ra ⟨by omega, by omega⟩ (fun c12 => ?_) (fun c12 => ?_)
    · refine j_aload_n C dX9_end_17 rfl rfl ?_
      refine j_getR C (j := 4) fl_X9_37 ((sC_0 hS)) rfl dX9_end_18 ?_
      refine j_iload_n C dX9_end_21 rfl rfl ?_
      refine j_putI C fp_X9_76 ((sC_4 hS)) rfl dX9_end_22 ?_
      refine j_iconst C dX9_end_25 ?_
      exact j_zret C hr (ab_nz01 (by omega)) (Nat.le_refl _) (Nat.le_refl _) dX9_end_26 ⟨rfl, rfl, _, rfl, (by first | exact Or.inl ⟨rfl, by omega, rfl⟩ | exact Or.inr ⟨rfl, by omega, rfl⟩)⟩
    · refine j_iconst C dX9_end_15 ?_
      exact j_zret C hr (ab_nz01 (by omega)) (Nat.le_refl _) (Nat.le_refl _) dX9_end_16 ⟨rfl, rfl, _, rfl, (by first | exact Or.inl ⟨rfl, by omega, rfl⟩ | exact Or.inr ⟨rfl, by omega, rfl⟩)⟩

set_option maxHeartbeats 4000000 in
set_option maxRecDepth 100000 in
theorem c_taped (l : Launch) (S : ab_St) (F : ab_Fn) (A : ab_An) (hS : ab_SC S) (i : Int) (ri : inR i) (ht : 0 ≤ F 4 1 ∧ F 4 1 ≤ 400) : ab_Met l yX9_taped cX9_taped 2 (some .int) { frames := 0, cells := 0, slots := 0, locals := 0 } 0 0 [aR 0, aI i] S F A (fun v S' F' A' => S = S' ∧ F' = F ∧ A = A' ∧ ((v = some (aI (-1)) ∧ ¬ (0 ≤ i ∧ i < F 4 1)) ∨ ((0 ≤ i ∧ i < F 4 1) ∧ v = some (aI (A 15 i))))) := by
  refine ab_enter (by decide) (by simp [aI, aR, aX, ab_val, Value.category]) (Nat.le_of_ble_eq_true rfl) (fun E C hr => ?_)
  refine j_eq (lv' := [some (aR 0), some (aI i)]) ?_
  refine j_iload_n C dX9_taped_0 rfl rfl ?_
  refine j_if_lt C (tgt := 15) dX9_taped_1 (by decide) ri (fun c1 => ?_) (fun c1 => ?_)
  · refine j_iconst C dX9_taped_15 ?_
    refine j_goto C (tgt := 28) dX9_taped_16 (by decide) ?_
    exact j_iret C hr (Nat.le_refl _) (Nat.le_refl _) dX9_taped_28 ⟨rfl, rfl, rfl, (by first | exact Or.inl ⟨rfl, by omega⟩ | exact Or.inr ⟨by omega, rfl⟩)⟩
  · refine j_iload_n C dX9_taped_4 rfl rfl ?_
    refine j_aload_n C dX9_taped_5 rfl rfl ?_
    refine j_getR C (j := 4) fl_X9_37 ((sC_0 hS)) rfl dX9_taped_6 ?_
    refine j_get C (aI (F 4 1)) fl_X9_76 ((sC_4 hS)) (fun _ => rfl) dX9_taped_9 ?_
    refine j_icmp_lt C (tgt := 19) dX9_taped_12 (by decide) ri ⟨by omega, by omega⟩ (fun c12 => ?_) (fun c12 => ?_)
    · refine j_aload_n C dX9_taped_19 rfl rfl ?_
      refine j_getR C (j := 4) fl_X9_37 ((sC_0 hS)) rfl dX9_taped_20 ?_
      refine j_getR C (j := 15) fl_X9_252 ((sC_4 hS)) rfl dX9_taped_23 ?_
      refine j_iload_n C dX9_taped_26 rfl rfl ?_
      refine j_iald C ((sC_15 hS)) (by omega) (by omega) (by decide) dX9_taped_27 ?_
      exact j_iret C hr (Nat.le_refl _) (Nat.le_refl _) dX9_taped_28 ⟨rfl, rfl, rfl, (by first | exact Or.inl ⟨rfl, by omega⟩ | exact Or.inr ⟨by omega, rfl⟩)⟩
    · refine j_iconst C dX9_taped_15 ?_
      refine j_goto C (tgt := 28) dX9_taped_16 (by decide) ?_
      exact j_iret C hr (Nat.le_refl _) (Nat.le_refl _) dX9_taped_28 ⟨rfl, rfl, rfl, (by first | exact Or.inl ⟨rfl, by omega⟩ | exact Or.inr ⟨by omega, rfl⟩)⟩

set_option maxHeartbeats 4000000 in
set_option maxRecDepth 100000 in
theorem c_fault (l : Launch) (S : ab_St) (F : ab_Fn) (A : ab_An) (hS : ab_SC S)  : ab_Met l yX9_fault cX9_fault 1 (some .int) { frames := 0, cells := 0, slots := 0, locals := 0 } 0 0 [aR 0] S F A (fun v S' F' A' => S = S' ∧ F = F' ∧ A = A' ∧ v = some (aI (F 0 12))) := by
  refine ab_enter (by decide) (by simp [aI, aR, aX, ab_val, Value.category]) (Nat.le_of_ble_eq_true rfl) (fun E C hr => ?_)
  refine j_eq (lv' := [some (aR 0)]) ?_
  refine j_aload_n C dX9_fault_0 rfl rfl ?_
  refine j_get C (aI (F 0 12)) fl_X9_73 ((sC_0 hS)) (fun _ => rfl) dX9_fault_1 ?_
  exact j_iret C hr (Nat.le_refl _) (Nat.le_refl _) dX9_fault_4 ⟨rfl, rfl, rfl, rfl⟩

theorem m256 {x : Int} (h : 0 ≤ x ∧ x ≤ 255) : x % 256 = x := by omega

set_option maxHeartbeats 4000000 in
set_option maxRecDepth 100000 in
theorem c_putNumber (l : Launch) (S : ab_St) (F : ab_Fn) (A : ab_An) (hS : ab_SC S) (v0 : Int) (L : List Int) (h0 : 0 ≤ v0 ∧ v0 ≤ 99) (hL : tp A 15 (F 4 1) L) (h1 : L.length + 2 ≤ 400) : ab_Met l yX6_putNumber cX6_putNumber 2 none { frames := 1, cells := 0, slots := 0, locals := 21 } 0 0 [aR 4, aI v0] S F A (fun v S' F' A' => S = S' ∧ v = none ∧ ∃ t : Int, F' = upF F 4 1 t ∧ (∀ j, j ≠ 15 → A' j = A j) ∧ tp A' 15 t (L ++ nu v0)) := by
  refine ab_enter (by decide) (by simp [aI, aR, aX, ab_val, Value.category]) (Nat.le_of_ble_eq_true rfl) (fun E C hr => ?_)
  refine j_eq (lv' := [some (aR 4), some (aI v0)]) ?_
  have hl := hL.1
  refine j_iload_n C dX6_putNumber_0 rfl rfl ?_
  refine j_bipush C dX6_putNumber_1 rfl ?_
  refine j_icmp_lt C (tgt := 17) dX6_putNumber_3 (by decide) ⟨by omega, by omega⟩ ⟨by omega, by omega⟩ (fun c3 => ?_) (fun c3 => ?_)
  · refine j_aload_n C dX6_putNumber_17 rfl rfl ?_
    refine j_bipush C dX6_putNumber_18 rfl ?_
    refine j_iload_n C dX6_putNumber_20 rfl rfl ?_
    refine j_bipush C dX6_putNumber_21 rfl ?_
    refine j_irem C dX6_putNumber_23 (by omega) (by omega) (by omega) (by omega) ?_
    refine j_iadd C dX6_putNumber_24 ?_
    refine j_callV C (vs := [aI (48 + (v0 % 10))]) (st := []) cl_X6_19 im_yX6_put se_yX6_put (fun _ => c_put _ S F A hS _ (by show 0 ≤ F 4 1 ∧ F 4 1 < 400; omega)) ((sC_4 hS)) rfl rfl rfl ⟨rfl, rfl, by decide, by decide⟩ ⟨by decide, by decide⟩ (fun _ => Nat.le_of_ble_eq_true rfl) (fun v hv => by cases hv) (fun v hv => by simp only [List.mem_cons, List.not_mem_nil, or_false, Option.some.injEq, reduceCtorEq, false_or] at hv; rcases hv with rfl | rfl <;> first | exact (lS ((sC_4 hS))) | exact trivial) dX6_putNumber_25 (fun v_25 S_25 F_25 A_25 hP_25 => ?_)
    obtain ⟨rfl, rfl, rfl, rfl⟩ := hP_25
    show ab_J E 2 0 0 S (upF F 4 1 (F 4 1 + 1)) (upA A 15 (F 4 1) ((48 + (v0 % 10)) % 256)) 28 [some (aR 4), some (aI v0)] []
    exact j_vret C hr (Nat.le_refl _) (Nat.le_refl _) dX6_putNumber_28 ⟨rfl, rfl, _, rfl, fun j hj => by rw [upA_other hj], by rw [nu_one (by omega), m256 (by omega)]; exact tp_put hL⟩
  · refine j_aload_n C dX6_putNumber_6 rfl rfl ?_
    refine j_bipush C dX6_putNumber_7 rfl ?_
    refine j_iload_n C dX6_putNumber_9 rfl rfl ?_
    refine j_bipush C dX6_putNumber_10 rfl ?_
    refine j_idiv C dX6_putNumber_12 (by omega) (by omega) (by omega) (by omega) ?_
    refine j_iadd C dX6_putNumber_13 ?_
    refine j_callV C (vs := [aI (48 + (v0 / 10))]) (st := []) cl_X6_19 im_yX6_put se_yX6_put (fun _ => c_put _ S F A hS _ (by show 0 ≤ F 4 1 ∧ F 4 1 < 400; omega)) ((sC_4 hS)) rfl rfl rfl ⟨rfl, rfl, by decide, by decide⟩ ⟨by decide, by decide⟩ (fun _ => Nat.le_of_ble_eq_true rfl) (fun v hv => by cases hv) (fun v hv => by simp only [List.mem_cons, List.not_mem_nil, or_false, Option.some.injEq, reduceCtorEq, false_or] at hv; rcases hv with rfl | rfl <;> first | exact (lS ((sC_4 hS))) | exact trivial) dX6_putNumber_14 (fun v_14 S_14 F_14 A_14 hP_14 => ?_)
    obtain ⟨rfl, rfl, rfl, rfl⟩ := hP_14
    show ab_J E 2 0 0 S (upF F 4 1 (F 4 1 + 1)) (upA A 15 (F 4 1) ((48 + (v0 / 10)) % 256)) 17 [some (aR 4), some (aI v0)] []
    refine j_aload_n C dX6_putNumber_17 rfl rfl ?_
    refine j_bipush C dX6_putNumber_18 rfl ?_
    refine j_iload_n C dX6_putNumber_20 rfl rfl ?_
    refine j_bipush C dX6_putNumber_21 rfl ?_
    refine j_irem C dX6_putNumber_23 (by omega) (by omega) (by omega) (by omega) ?_
    refine j_iadd C dX6_putNumber_24 ?_
    refine j_callV C (vs := [aI (48 + (v0 % 10))]) (st := []) cl_X6_19 im_yX6_put se_yX6_put (fun _ => c_put _ S (upF F 4 1 (F 4 1 + 1)) (upA A 15 (F 4 1) ((48 + (v0 / 10)) % 256)) hS _ (by show 0 ≤ F 4 1 + 1 ∧ F 4 1 + 1 < 400; omega)) ((sC_4 hS)) rfl rfl rfl ⟨rfl, rfl, by decide, by decide⟩ ⟨by decide, by decide⟩ (fun _ => Nat.le_of_ble_eq_true rfl) (fun v hv => by cases hv) (fun v hv => by simp only [List.mem_cons, List.not_mem_nil, or_false, Option.some.injEq, reduceCtorEq, false_or] at hv; rcases hv with rfl | rfl <;> first | exact (lS ((sC_4 hS))) | exact trivial) dX6_putNumber_25 (fun v_25 S_25 F_25 A_25 hP_25 => ?_)
    obtain ⟨rfl, rfl, rfl, rfl⟩ := hP_25
    show ab_J E 2 0 0 S (upF (upF F 4 1 (F 4 1 + 1)) 4 1 (F 4 1 + 1 + 1)) (upA (upA A 15 (F 4 1) ((48 + (v0 / 10)) % 256)) 15 (F 4 1 + 1) ((48 + (v0 % 10)) % 256)) 28 [some (aR 4), some (aI v0)] []
    exact j_vret C hr (Nat.le_refl _) (Nat.le_refl _) dX6_putNumber_28 ⟨rfl, rfl, _, upF_up _ _ _ _ _, fun j hj => by rw [upA_other hj, upA_other hj], by rw [nu_two (by omega), m256 (by omega), m256 (by omega)]; have q := tp_put (c := 48 + v0 % 10) (tp_put (c := 48 + v0 / 10) hL); rw [List.append_assoc] at q; exact q⟩

set_option maxHeartbeats 4000000 in
set_option maxRecDepth 100000 in
theorem c_putWord (l : Launch) (S : ab_St) (F : ab_Fn) (A : ab_An) (hS : ab_SC S) (j : Nat) (L : List Int) (hj : j < 8) (hL : tp A 15 (F 4 1) L) (h1 : L.length + 5 ≤ 400) : ab_Met l yX6_putWord cX6_putWord 3 none { frames := 5, cells := 0, slots := 0, locals := 106 } 0 0 [aR 4, aR (1000000 + j)] S F A (fun v S' F' A' => S = S' ∧ v = none ∧ ∃ t : Int, F' = upF F 4 1 t ∧ (∀ j, j ≠ 15 → A' j = A j) ∧ tp A' 15 t (L ++ ab_tx j)) := by
  refine ab_enter (by decide) (by simp [aI, aR, aX, ab_val, Value.category]) (Nat.le_of_ble_eq_true rfl) (fun E C hr => ?_)
  refine j_eq (lv' := [some (aR 4), some (aR (1000000 + j)), none]) ?_
  have hl := ab_txl j hj
  refine j_iconst C dX6_putWord_0 ?_
  refine j_istore_n C (lv' := [some (aR 4), some (aR (1000000 + j)), some (aI 0)]) dX6_putWord_1 rfl (by decide) rfl ?_
  have K2 : ∀ (N : Nat) (k t : Int) (B : ab_An), (0 ≤ k ∧ k ≤ ((ab_tx j).length : Nat)) → (∀ i, i ≠ 15 → B i = A i) → (tp B 15 t (L ++ (ab_tx j).take k.toNat)) → (((ab_tx j).length - k).toNat) < N → ab_J E 3 0 0 S (upF F 4 1 t) B 2 [some (aR 4), some (aR (1000000 + j)), some (aI k)] [] := by
    intro N
    induction N with
    | zero => intro k t B hk hO ht hm; exact absurd hm (Nat.not_lt_zero _)
    | succ N ih =>
      have ih2 := ih
      clear ih
      intro k t B hk hO ht hm2
      refine j_iload_n C dX6_putWord_2 rfl rfl ?_
      refine j_aload_n C dX6_putWord_3 rfl rfl ?_
      refine j_callT C j (by omega) (vs := []) (st := [aI k]) cl_X6_23 im_yJ0_length_8abf5 se_yJ0_length_8abf5 (fun _ => (t_length _ S (upF F 4 1 t) B _ (by omega))) rfl rfl ⟨rfl, rfl, by decide, by decide⟩ ⟨by decide, by decide⟩ (fun _ => Nat.le_of_ble_eq_true rfl) (fun v hv => by simp only [List.mem_cons, List.not_mem_nil, or_false] at hv; rcases hv with rfl <;> first | exact trivial) (fun v hv => by simp only [List.mem_cons, List.not_mem_nil, or_false, Option.some.injEq, reduceCtorEq, false_or] at hv; rcases hv with rfl | rfl | rfl <;> first | exact (lK (by omega)) | exact (lS ((sC_4 hS))) | exact trivial) dX6_putWord_4 (fun v_4 S_4 F_4 A_4 hP_4 => ?_)
      obtain ⟨rfl, rfl, rfl, rfl⟩ := hP_4
      show ab_J E 3 0 0 S (upF F 4 1 t) B 7 [some (aR 4), some (aR (1000000 + j)), some (aI k)] [aI ((ab_tx j).length : Nat), aI k]
      have hl9 : t ≤ 395 + k := by have := ht.1; rw [List.length_append, List.length_take] at this; omega
      have hl8 : 0 ≤ t := by have := ht.1; omega
      refine j_icmp_ge C (tgt := 25) dX6_putWord_7 (by decide) ⟨by omega, by omega⟩ ⟨by omega, by omega⟩ (fun c7 => ?_) (fun c7 => ?_)
      · exact j_vret C hr (Nat.le_refl _) (Nat.le_refl _) dX6_putWord_25 ⟨rfl, rfl, _, rfl, hO, by rw [show k.toNat = (ab_tx j).length by omega, List.take_length] at ht; exact ht⟩
      · have hg := ab_txg hj hk.1 (by omega)
        refine j_aload_n C dX6_putWord_10 rfl rfl ?_
        refine j_aload_n C dX6_putWord_11 rfl rfl ?_
        refine j_iload_n C dX6_putWord_12 rfl rfl ?_
        refine j_callT C j (by omega) (vs := [aI k]) (st := [aR 4]) cl_X6_28 im_yJ0_charAt_5068e se_yJ0_charAt_5068e (fun _ => (t_charAt _ S (upF F 4 1 t) B _ (by omega) _ (by omega) (by omega))) rfl rfl ⟨rfl, rfl, by decide, by decide⟩ ⟨by decide, by decide⟩ (fun _ => Nat.le_of_ble_eq_true rfl) (fun v hv => by simp only [List.mem_cons, List.not_mem_nil, or_false] at hv; rcases hv with rfl <;> first | exact (lS ((sC_4 hS)))) (fun v hv => by simp only [List.mem_cons, List.not_mem_nil, or_false, Option.some.injEq, reduceCtorEq, false_or] at hv; rcases hv with rfl | rfl | rfl <;> first | exact (lK (by omega)) | exact (lS ((sC_4 hS))) | exact trivial) dX6_putWord_13 (fun v_13 S_13 F_13 A_13 hP_13 => ?_)
        obtain ⟨rfl, rfl, rfl, rfl⟩ := hP_13
        show ab_J E 3 0 0 S (upF F 4 1 t) B 16 [some (aR 4), some (aR (1000000 + j)), some (aI k)] [aI ((ab_tx j).getD (k).toNat 0), aR 4]
        refine j_callV C (vs := [aI ((ab_tx j).getD (k).toNat 0)]) (st := []) cl_X6_19 im_yX6_put se_yX6_put (fun _ => c_put _ S (upF F 4 1 t) B hS _ (by show 0 ≤ t ∧ t < 400; omega)) ((sC_4 hS)) rfl rfl rfl ⟨rfl, rfl, by decide, by decide⟩ ⟨by decide, by decide⟩ (fun _ => Nat.le_of_ble_eq_true rfl) (fun v hv => by cases hv) (fun v hv => by simp only [List.mem_cons, List.not_mem_nil, or_false, Option.some.injEq, reduceCtorEq, false_or] at hv; rcases hv with rfl | rfl | rfl <;> first | exact (lK (by omega)) | exact (lS ((sC_4 hS))) | exact trivial) dX6_putWord_16 (fun v_16 S_16 F_16 A_16 hP_16 => ?_)
        obtain ⟨rfl, rfl, rfl, rfl⟩ := hP_16
        show ab_J E 3 0 0 S (upF (upF F 4 1 t) 4 1 (t + 1)) (upA B 15 t (((ab_tx j).getD (k).toNat 0) % 256)) 19 [some (aR 4), some (aR (1000000 + j)), some (aI k)] []
        refine j_iinc C (lv' := [some (aR 4), some (aR (1000000 + j)), some (aI (k + 1))]) dX6_putWord_19 rfl (by decide) rfl ?_
        refine j_goto C (tgt := 2) dX6_putWord_22 (by decide) ?_
        refine j_eq (F' := (upF F 4 1 (t + 1))) ?_ (e3 := (upF_up _ _ _ _ _))
        exact ih2 (k + 1) (t + 1) ((upA B 15 t (((ab_tx j).getD (k).toNat 0) % 256))) (by omega) (fun i q => by rw [upA_other q]; exact hO i q) (by rw [m256 (by omega)]; have q := tp_put (c := (ab_tx j).getD (k).toNat 0) ht; rw [List.append_assoc, txs hk.1 (by omega)] at q; exact q) (by omega)
  refine j_eq (F' := (upF F 4 1 (F 4 1))) ?_ (e3 := upF_self)
  exact K2 _ 0 (F 4 1) A (by omega) (fun _ _ => rfl) (by rw [show (0 : Int).toNat = 0 from rfl, List.take_zero, List.append_nil]; exact hL) (Nat.lt_succ_self _)
