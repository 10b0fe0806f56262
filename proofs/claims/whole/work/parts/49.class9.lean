theorem fl_cong {g h : Int → Int} (e : ∀ k, 0 ≤ k → k < 280 → g k = h k) : ∀ (n : Nat) (y : Int), n ≤ 20 → 0 ≤ y → y < 14 → fl g n y = fl h n y
  | 0, _, _, _, _ => rfl
  | n + 1, y, hn, h0, h1 => by
    have ih := fun y' => fl_cong e n y' (by omega)
    simp only [fl, mx3]
    rw [ih y h0 h1, e (20 * y + n) (by omega) (by omega)]
    by_cases a : 0 < y <;> by_cases b : y < 13
    · rw [if_pos a, if_pos a, if_pos b, if_pos b, ih (y - 1) (by omega) (by omega), ih (y + 1) (by omega) (by omega)]
    · rw [if_pos a, if_pos a, if_neg b, if_neg b, ih (y - 1) (by omega) (by omega)]
    · rw [if_neg a, if_neg a, if_pos b, if_pos b, ih (y + 1) (by omega) (by omega)]
    · rw [if_neg a, if_neg a, if_neg b, if_neg b]
theorem mz_cong {f g : Int → Int} {lo : Int} : ∀ {n : Nat}, (∀ k : Int, lo ≤ k → k < lo + n → f k = g k) → mz f lo n = mz g lo n
  | 0, _ => rfl
  | n + 1, h => by
    have h1 := mz_cong (f := f) (g := g) (lo := lo) (n := n) (fun k a b => h k a (by omega))
    simp only [mz]
    rw [h1, h (lo + n) (by omega) (by omega)]
theorem mx3_is {f : Int → Int} {y a b c : Int} (h1 : a = f y) (h2 : b = if 0 < y then max a (f (y - 1)) else a) (h3 : c = if y < 13 then max b (f (y + 1)) else b) : c = mx3 f y := by
  unfold mx3
  rw [h3, h2, h1]
  by_cases q1 : 0 < y <;> by_cases q2 : y < 13 <;> simp only [q1, q2, if_true, if_false] <;> omega
theorem mx3_rng {f : Int → Int} {y c : Int} (h : ∀ y, 0 ≤ y → y < 14 → 0 ≤ f y ∧ f y ≤ c) (h0 : 0 ≤ y) (h1 : y < 14) : 0 ≤ mx3 f y ∧ mx3 f y ≤ c := by
  have a := h y h0 h1
  unfold mx3
  by_cases q1 : 0 < y <;> by_cases q2 : y < 13 <;> simp only [q1, q2, if_true, if_false]
  · have := h (y - 1) (by omega) (by omega); have := h (y + 1) (by omega) (by omega); omega
  · have := h (y - 1) (by omega) (by omega); omega
  · have := h (y + 1) (by omega) (by omega); omega
  · omega

set_option maxHeartbeats 4000000 in
set_option maxRecDepth 100000 in
theorem c_best (l : Launch) (S : ab_St) (F : ab_Fn) (A : ab_An) (hS : ab_SC S) (y : Int) (h1 : 0 ≤ y ∧ y < 14) (hr26 : ∀ y, 0 ≤ y → y < 14 → 0 ≤ A 26 y ∧ A 26 y ≤ 200000000) : ab_Met l yX2_bestBefore cX2_bestBefore 3 (some .int) { frames := 1, cells := 0, slots := 0, locals := 30 } 0 0 [aR 10, aI y] S F A (fun v S' F' A' => S = S' ∧ F = F' ∧ A = A' ∧ v = some (aI (mx3 (A 26) y))) := by
  refine ab_enter (by decide) (by simp [aI, aR, aX, ab_val, Value.category]) (Nat.le_of_ble_eq_true rfl) (fun E C hr => ?_)
  refine j_eq (lv' := [some (aR 10), some (aI y), none]) ?_
  have h26 := hr26 y h1.1 h1.2
  refine j_aload_n C dX2_bestBefore_0 rfl rfl ?_
  refine j_getR C (j := 26) fl_X2_15 ((sC_10 hS)) rfl dX2_bestBefore_1 ?_
  refine j_iload_n C dX2_bestBefore_4 rfl rfl ?_
  refine j_iald C ((sC_26 hS)) (by omega) (by omega) (by decide) dX2_bestBefore_5 ?_
  refine j_istore_n C (lv' := [some (aR 10), some (aI y), some (aI (A 26 y))]) dX2_bestBefore_6 rfl (by decide) rfl ?_
  refine j_iload_n C dX2_bestBefore_7 rfl rfl ?_
  refine j_if_le C (tgt := 24) dX2_bestBefore_8 (by decide) ⟨by omega, by omega⟩ (fun c8 => ?_) (fun c8 => ?_)
  · refine j_iload_n C dX2_bestBefore_24 rfl rfl ?_
    refine j_bipush C dX2_bestBefore_25 rfl ?_
    refine j_icmp_ge C (tgt := 43) dX2_bestBefore_27 (by decide) ⟨by omega, by omega⟩ ⟨by omega, by omega⟩ (fun c27 => ?_) (fun c27 => ?_)
    · refine j_iload_n C dX2_bestBefore_43 rfl rfl ?_
      exact j_iret C hr (Nat.le_refl _) (Nat.le_refl _) dX2_bestBefore_44 ⟨rfl, rfl, rfl, congrArg (fun z => some (aI z)) (by unfold mx3; by_cases q1 : 0 < y <;> by_cases q2 : y < 13 <;> simp only [q1, q2, if_true, if_false] <;> omega)⟩
    · have h26b := hr26 (y + 1) (by omega) (by omega)
      refine j_iload_n C dX2_bestBefore_30 rfl rfl ?_
      refine j_aload_n C dX2_bestBefore_31 rfl rfl ?_
      refine j_getR C (j := 26) fl_X2_15 ((sC_10 hS)) rfl dX2_bestBefore_32 ?_
      refine j_iload_n C dX2_bestBefore_35 rfl rfl ?_
      refine j_iconst C dX2_bestBefore_36 ?_
      refine j_iadd C dX2_bestBefore_37 ?_
      refine j_iald C ((sC_26 hS)) (by omega) (by omega) (by decide) dX2_bestBefore_38 ?_
      refine j_mmax C (ab_t2 (List.mem_of_getElem? (i := 231) rfl) rfl) ⟨by omega, by omega⟩ ⟨by omega, by omega⟩ (by decide) (fun _ => Nat.le_of_ble_eq_true rfl) ⟨by decide, by decide⟩ dX2_bestBefore_39 ?_
      refine j_istore_n C (lv' := [some (aR 10), some (aI y), some (aI ((max (A 26 y) (A 26 (y + 1)) : Int)))]) dX2_bestBefore_42 rfl (by decide) rfl ?_
      refine j_iload_n C dX2_bestBefore_43 rfl rfl ?_
      exact j_iret C hr (Nat.le_refl _) (Nat.le_refl _) dX2_bestBefore_44 ⟨rfl, rfl, rfl, congrArg (fun z => some (aI z)) (by unfold mx3; by_cases q1 : 0 < y <;> by_cases q2 : y < 13 <;> simp only [q1, q2, if_true, if_false] <;> omega)⟩
  · have h26a := hr26 (y - 1) (by omega) (by omega)
    refine j_iload_n C dX2_bestBefore_11 rfl rfl ?_
    refine j_aload_n C dX2_bestBefore_12 rfl rfl ?_
    refine j_getR C (j := 26) fl_X2_15 ((sC_10 hS)) rfl dX2_bestBefore_13 ?_
    refine j_iload_n C dX2_bestBefore_16 rfl rfl ?_
    refine j_iconst C dX2_bestBefore_17 ?_
    refine j_isub C dX2_bestBefore_18 ?_
    refine j_iald C ((sC_26 hS)) (by omega) (by omega) (by decide) dX2_bestBefore_19 ?_
    refine j_mmax C (ab_t2 (List.mem_of_getElem? (i := 231) rfl) rfl) ⟨by omega, by omega⟩ ⟨by omega, by omega⟩ (by decide) (fun _ => Nat.le_of_ble_eq_true rfl) ⟨by decide, by decide⟩ dX2_bestBefore_20 ?_
    refine j_istore_n C (lv' := [some (aR 10), some (aI y), some (aI ((max (A 26 y) (A 26 (y - 1)) : Int)))]) dX2_bestBefore_23 rfl (by decide) rfl ?_
    refine j_iload_n C dX2_bestBefore_24 rfl rfl ?_
    refine j_bipush C dX2_bestBefore_25 rfl ?_
    refine j_icmp_ge C (tgt := 43) dX2_bestBefore_27 (by decide) ⟨by omega, by omega⟩ ⟨by omega, by omega⟩ (fun c27 => ?_) (fun c27 => ?_)
    · refine j_iload_n C dX2_bestBefore_43 rfl rfl ?_
      exact j_iret C hr (Nat.le_refl _) (Nat.le_refl _) dX2_bestBefore_44 ⟨rfl, rfl, rfl, congrArg (fun z => some (aI z)) (by unfold mx3; by_cases q1 : 0 < y <;> by_cases q2 : y < 13 <;> simp only [q1, q2, if_true, if_false] <;> omega)⟩
    · have h26b := hr26 (y + 1) (by omega) (by omega)
      refine j_iload_n C dX2_bestBefore_30 rfl rfl ?_
      refine j_aload_n C dX2_bestBefore_31 rfl rfl ?_
      refine j_getR C (j := 26) fl_X2_15 ((sC_10 hS)) rfl dX2_bestBefore_32 ?_
      refine j_iload_n C dX2_bestBefore_35 rfl rfl ?_
      refine j_iconst C dX2_bestBefore_36 ?_
      refine j_iadd C dX2_bestBefore_37 ?_
      refine j_iald C ((sC_26 hS)) (by omega) (by omega) (by decide) dX2_bestBefore_38 ?_
      refine j_mmax C (ab_t2 (List.mem_of_getElem? (i := 231) rfl) rfl) ⟨by omega, by omega⟩ ⟨by omega, by omega⟩ (by decide) (fun _ => Nat.le_of_ble_eq_true rfl) ⟨by decide, by decide⟩ dX2_bestBefore_39 ?_
      refine j_istore_n C (lv' := [some (aR 10), some (aI y), some (aI ((max ((max (A 26 y) (A 26 (y - 1)) : Int)) (A 26 (y + 1)) : Int)))]) dX2_bestBefore_42 rfl (by decide) rfl ?_
      refine j_iload_n C dX2_bestBefore_43 rfl rfl ?_
      exact j_iret C hr (Nat.le_refl _) (Nat.le_refl _) dX2_bestBefore_44 ⟨rfl, rfl, rfl, congrArg (fun z => some (aI z)) (by unfold mx3; by_cases q1 : 0 < y <;> by_cases q2 : y < 13 <;> simp only [q1, q2, if_true, if_false] <;> omega)⟩

set_option maxHeartbeats 4000000 in
set_option maxRecDepth 100000 in
theorem c_most (l : Launch) (S : ab_St) (F : ab_Fn) (A : ab_An) (hS : ab_SC S) (g : Int → Int) (hg : ∀ k, 0 ≤ k → k < 280 → A 27 k = g k) (hgr : ∀ k, 0 ≤ k → k < 280 → 0 ≤ g k ∧ g k ≤ 10000000) : ab_Met l yX2_most cX2_most 4 (some .int) { frames := 2, cells := 0, slots := 0, locals := 52 } 0 0 [aR 10, aR 27] S F A (fun v S' F' A' => S = S' ∧ F = F' ∧ v = some (aI (mz (fl g 20) 0 14)) ∧ ∀ i, i ≠ 25 → i ≠ 26 → A' i = A i) := by
  refine ab_enter (by decide) (by simp [aI, aR, aX, ab_val, Value.category]) (Nat.le_of_ble_eq_true rfl) (fun E C hr => ?_)
  refine j_eq (lv' := [some (aR 10), some (aR 27), none, none]) ?_
  have hfl : ∀ (n : Nat) (y : Int), n ≤ 20 → 0 ≤ y → y < 14 → 0 ≤ fl g n y ∧ fl g n y ≤ 200000000 := by
    intro n y q1 q2 q3
    have := fl_rng hgr n y q1 q2 q3
    omega
  refine j_aload_n C dX2_most_0 rfl rfl ?_
  refine j_getR C (j := 25) fl_X2_9 ((sC_10 hS)) rfl dX2_most_1 ?_
  refine j_iconst C dX2_most_4 ?_
  refine j_callS C (vs := [aR 25, aI 0]) (st := []) cl_X2_18 sc_yJ7_fill_53178 (fun _ => (t_fill _ S F A _ _ _ ((sC_25 hS)) (by decide))) rfl ⟨rfl, rfl, by decide, by decide⟩ ⟨by decide, by decide⟩ (fun _ => Nat.le_of_ble_eq_true rfl) (fun v hv => by cases hv) (fun v hv => by simp only [List.mem_cons, List.not_mem_nil, or_false, Option.some.injEq, reduceCtorEq, false_or] at hv; rcases hv with rfl | rfl <;> first | exact (lS ((sC_10 hS))) | exact (lS ((sC_27 hS)))) dX2_most_5 (fun v_5 S_5 F_5 A_5 hP_5 => ?_)
  obtain ⟨rfl, rfl, rfl, rfl⟩ := hP_5
  show ab_J E 4 0 0 S F (setRow A 25 0 14 (fun _ => 0)) 8 [some (aR 10), some (aR 27), none, none] []
  refine j_iconst C dX2_most_8 ?_
  refine j_istore_n C (lv' := [some (aR 10), some (aR 27), some (aI 0), none]) dX2_most_9 rfl (by decide) rfl ?_
  have K10 : ∀ (N : Nat) (x : Int) (B : ab_An), (0 ≤ x ∧ x ≤ 20) → (∀ y, 0 ≤ y → y < 14 → B 25 y = fl g x.toNat y) → (∀ i, i ≠ 25 → i ≠ 26 → B i = A i) → ((20 - x).toNat) < N → ab_J E 4 0 0 S F B 10 [some (aR 10), some (aR 27), some (aI x), none] [] := by
    intro N
    induction N with
    | zero => intro x B hx hc hO hm; exact absurd hm (Nat.not_lt_zero _)
    | succ N ih =>
      have ih10 := ih
      clear ih
      intro x B hx hc hO hm10
      refine j_iload_n C dX2_most_10 rfl rfl ?_
      refine j_bipush C dX2_most_11 rfl ?_
      refine j_icmp_ge C (tgt := 71) dX2_most_13 (by decide) ⟨by omega, by omega⟩ ⟨by omega, by omega⟩ (fun c13 => ?_) (fun c13 => ?_)
      · refine j_iconst C dX2_most_71 ?_
        refine j_istore_n C (lv' := [some (aR 10), some (aR 27), some (aI 0), none]) dX2_most_72 rfl (by decide) rfl ?_
        refine j_iconst C dX2_most_73 ?_
        refine j_istore_n C (lv' := [some (aR 10), some (aR 27), some (aI 0), some (aI 0)]) dX2_most_74 rfl (by decide) rfl ?_
        have K75 : ∀ (N : Nat) (m y : Int), (0 ≤ y ∧ y ≤ 14) → (m = mz (fl g 20) 0 (y - 0).toNat) → ((14 - y).toNat) < N → ab_J E 4 0 0 S F B 75 [some (aR 10), some (aR 27), some (aI m), some (aI y)] [] := by
          intro N
          induction N with
          | zero => intro m y hy hm0 hm; exact absurd hm (Nat.not_lt_zero _)
          | succ N ih =>
            have ih75 := ih
            clear ih
            intro m y hy hm0 hm75
            have hwr := mz_rng (f := fl g 20) (lo := 0) (c := 200000000) (by decide) (n := (y - 0).toNat) (fun k a c => (hfl 20 k (by omega) (by omega) (by omega)).2)
            rw [← hm0] at hwr
            refine j_iload_n C dX2_most_75 rfl rfl ?_
            refine j_bipush C dX2_most_76 rfl ?_
            refine j_icmp_ge C (tgt := 98) dX2_most_78 (by decide) ⟨by omega, by omega⟩ ⟨by omega, by omega⟩ (fun c78 => ?_) (fun c78 => ?_)
            · refine j_iload_n C dX2_most_98 rfl rfl ?_
              exact j_iret C hr (Nat.le_refl _) (Nat.le_refl _) dX2_most_99 ⟨rfl, rfl, by rw [hm0, show (y - 0).toNat = 14 by omega], hO⟩
            · refine j_iload_n C dX2_most_81 rfl rfl ?_
              refine j_aload_n C dX2_most_82 rfl rfl ?_
              refine j_getR C (j := 25) fl_X2_9 ((sC_10 hS)) rfl dX2_most_83 ?_
              refine j_iload_n C dX2_most_86 rfl rfl ?_
              refine j_iald C ((sC_25 hS)) (by omega) (by omega) (by decide) dX2_most_87 ?_
              refine j_eq (st' := [aI (fl g 20 y), aI m]) ?_ (e1 := by first | rfl | (simp only [List.cons.injEq, and_true]; exact congrArg aI ((by rw [hc y (by omega) (by omega), show x.toNat = 20 by omega]))))
              have hf88 := hfl 20 y (by decide) (by omega) (by omega)
              refine j_mmax C (ab_t2 (List.mem_of_getElem? (i := 231) rfl) rfl) ⟨by omega, by omega⟩ ⟨by omega, by omega⟩ (by decide) (fun _ => Nat.le_of_ble_eq_true rfl) ⟨by decide, by decide⟩ dX2_most_88 ?_
              refine j_istore_n C (lv' := [some (aR 10), some (aR 27), some (aI ((max m (fl g 20 y) : Int))), some (aI y)]) dX2_most_91 rfl (by decide) rfl ?_
              refine j_iinc C (lv' := [some (aR 10), some (aR 27), some (aI ((max m (fl g 20 y) : Int))), some (aI (y + 1))]) dX2_most_92 rfl (by decide) rfl ?_
              refine j_goto C (tgt := 75) dX2_most_95 (by decide) ?_
              exact ih75 ((max m (fl g 20 y) : Int)) (y + 1) (by omega) (by rw [mz_step (by omega), ← hm0]) (by omega)
        exact K75 _ 0 0 (by omega) rfl (Nat.lt_succ_self _)
      · refine j_aload_n C dX2_most_16 rfl rfl ?_
        refine j_getR C (j := 25) fl_X2_9 ((sC_10 hS)) rfl dX2_most_17 ?_
        refine j_iconst C dX2_most_20 ?_
        refine j_aload_n C dX2_most_21 rfl rfl ?_
        refine j_getR C (j := 26) fl_X2_15 ((sC_10 hS)) rfl dX2_most_22 ?_
        refine j_iconst C dX2_most_25 ?_
        refine j_bipush C dX2_most_26 rfl ?_
        refine j_copy C (ab_t2 (List.mem_of_getElem? (i := 226) rfl) rfl) (ab_t2 (List.mem_of_getElem? (i := 120) rfl) rfl) (ab_t2 (List.mem_of_getElem? (i := 119) rfl) rfl) (ab_t1 (List.mem_of_getElem? (i := 26) rfl) rfl) ((sC_25 hS)) ((sC_26 hS)) (by omega) (by omega) (by decide) (fun _ => Nat.le_of_ble_eq_true rfl) dX2_most_28 ?_
        refine j_iconst C dX2_most_31 ?_
        refine j_istore_n C (lv' := [some (aR 10), some (aR 27), some (aI x), some (aI 0)]) dX2_most_32 rfl (by decide) rfl ?_
        have K33 : ∀ (N : Nat) (y : Int) (B2 : ab_An), (0 ≤ y ∧ y ≤ 14) → (∀ y, 0 ≤ y → y < 14 → B2 26 y = fl g x.toNat y) → (∀ y', 0 ≤ y' → y' < y → B2 25 y' = fl g (x + 1).toNat y') → (∀ i, i ≠ 25 → i ≠ 26 → B2 i = A i) → ((14 - y).toNat) < N → ab_J E 4 0 0 S F B2 33 [some (aR 10), some (aR 27), some (aI x), some (aI y)] [] := by
          intro N
          induction N with
          | zero => intro y B2 hy hc2 hd hO2 hm; exact absurd hm (Nat.not_lt_zero _)
          | succ N ih =>
            have ih33 := ih
            clear ih
            intro y B2 hy hc2 hd hO2 hm33
            refine j_iload_n C dX2_most_33 rfl rfl ?_
            refine j_bipush C dX2_most_34 rfl ?_
            refine j_icmp_ge C (tgt := 65) dX2_most_36 (by decide) ⟨by omega, by omega⟩ ⟨by omega, by omega⟩ (fun c36 => ?_) (fun c36 => ?_)
            · refine j_iinc C (lv' := [some (aR 10), some (aR 27), some (aI (x + 1)), some (aI y)]) dX2_most_65 rfl (by decide) rfl ?_
              refine j_goto C (tgt := 10) dX2_most_68 (by decide) ?_
              refine j_lv (lv' := [some (aR 10), some (aR 27), some (aI (x + 1)), none]) ?_ ⟨rfl, rfl, rfl, trivial⟩
              exact ih10 (x + 1) B2 (by omega) (fun y' q1 q2 => hd y' q1 (by omega)) hO2 (by omega)
            · refine j_aload_n C dX2_most_39 rfl rfl ?_
              refine j_getR C (j := 25) fl_X2_9 ((sC_10 hS)) rfl dX2_most_40 ?_
              refine j_iload_n C dX2_most_43 rfl rfl ?_
              refine j_aload_n C dX2_most_44 rfl rfl ?_
              refine j_iload_n C dX2_most_45 rfl rfl ?_
              refine j_callV C (vs := [aI y]) (st := [aI y, aR 25]) cl_X2_30 im_yX2_bestBefore se_yX2_bestBefore (fun _ => (c_best _ S F B2 hS _ (by omega) (fun y a c => by rw [hc2 y a c]; exact hfl x.toNat y (by omega) a c))) ((sC_10 hS)) rfl rfl rfl ⟨rfl, rfl, by decide, by decide⟩ ⟨by decide, by decide⟩ (fun _ => Nat.le_of_ble_eq_true rfl) (fun v hv => by simp only [List.mem_cons, List.not_mem_nil, or_false] at hv; rcases hv with rfl | rfl <;> first | exact (lS ((sC_25 hS))) | exact trivial) (fun v hv => by simp only [List.mem_cons, List.not_mem_nil, or_false, Option.some.injEq, reduceCtorEq, false_or] at hv; rcases hv with rfl | rfl | rfl | rfl <;> first | exact (lS ((sC_10 hS))) | exact (lS ((sC_27 hS))) | exact trivial) dX2_most_46 (fun v_46 S_46 F_46 A_46 hP_46 => ?_)
              obtain ⟨rfl, rfl, rfl, rfl⟩ := hP_46
              show ab_J E 4 0 0 S F B2 49 [some (aR 10), some (aR 27), some (aI x), some (aI y)] [aI (mx3 (B2 26) y), aI y, aR 25]
              refine j_aload_n C dX2_most_49 rfl rfl ?_
              refine j_iload_n C dX2_most_50 rfl rfl ?_
              refine j_bipush C dX2_most_51 rfl ?_
              refine j_imul C dX2_most_53 ?_
              refine j_iload_n C dX2_most_54 rfl rfl ?_
              refine j_iadd C dX2_most_55 ?_
              refine j_iald C ((sC_27 hS)) (by omega) (by omega) (by decide) dX2_most_56 ?_
              refine j_eq (st' := [aI (g (20 * y + x)), aI (mx3 (B2 26) y), aI y, aR 25]) ?_ (e1 := by first | rfl | (simp only [List.cons.injEq, and_true]; exact congrArg aI ((by rw [hO2 27 (by decide) (by decide), show (y * 20) + x = 20 * y + x by omega]; exact hg _ (by omega) (by omega)))))
              refine j_iadd C dX2_most_57 ?_
              refine j_iast C ((sC_25 hS)) (by omega) (by omega) (by decide) dX2_most_58 ?_
              have hnew : mx3 (B2 26) y + g (20 * y + x) = fl g (x + 1).toNat y := by
                have e1 : mx3 (B2 26) y = mx3 (fl g x.toNat) y := by
                  unfold mx3
                  by_cases q1 : 0 < y <;> by_cases q2 : y < 13 <;> simp only [q1, q2, if_true, if_false]
                  · rw [hc2 y (by omega) (by omega), hc2 (y - 1) (by omega) (by omega), hc2 (y + 1) (by omega) (by omega)]
                  · rw [hc2 y (by omega) (by omega), hc2 (y - 1) (by omega) (by omega)]
                  · rw [hc2 y (by omega) (by omega), hc2 (y + 1) (by omega) (by omega)]
                  · rw [hc2 y (by omega) (by omega)]
                rw [e1, show (x + 1).toNat = x.toNat + 1 by omega]
                show _ = mx3 (fl g x.toNat) y + g (20 * y + ((x.toNat : Nat) : Int))
                rw [show ((x.toNat : Nat) : Int) = x by omega]
              refine j_iinc C (lv' := [some (aR 10), some (aR 27), some (aI x), some (aI (y + 1))]) dX2_most_59 rfl (by decide) rfl ?_
              refine j_goto C (tgt := 33) dX2_most_62 (by decide) ?_
              exact ih33 (y + 1) ((upA B2 25 y ((mx3 (B2 26) y) + (g (20 * y + x))))) (by omega) (fun y a c => by rw [upA_other (by decide)]; exact hc2 y a c) (fun y' q1 q2 => if q : y' = y then by rw [q, upA_at]; exact hnew else by rw [upA_ne q]; exact hd y' q1 (by omega)) (fun i q1 q2 => by rw [upA_other q1]; exact hO2 i q1 q2) (by omega)
        exact K33 _ 0 ((setRow B 26 0 14 (B 25))) (by omega) (fun y a c => by rw [setRow_in (by omega) (by omega), show y - 0 = y by omega]; exact hc y a c) (fun y' q1 q2 => by omega) (fun i q1 q2 => by rw [setRow_other q2]; exact hO i q1 q2) (Nat.lt_succ_self _)
  exact K10 _ 0 ((setRow A 25 0 14 (fun _ => 0))) (by omega) (fun y a c => by rw [setRow_in (by omega) (by omega)]; rfl) (fun i q1 q2 => by rw [setRow_other q1]) (Nat.lt_succ_self _)

set_option maxHeartbeats 4000000 in
set_option maxRecDepth 100000 in
theorem c_flight (l : Launch) (S : ab_St) (F : ab_Fn) (A : ab_An) (hS : ab_SC S) (hBg : BG S (F 2 2)) (hb : 0 ≤ F 2 2 ∧ F 2 2 ≤ 10) (hp : ∀ b k, 0 ≤ b → b < F 2 2 → 0 ≤ k → k < 280 → 0 ≤ A (220 + b.toNat) k ∧ A (220 + b.toNat) k ≤ 1000000) : ab_Met l yX9_flight cX9_flight 1 (some .int) { frames := 4, cells := 0, slots := 0, locals := 87 } 0 0 [aR 0] S F A (fun v S' F' A' => S = S' ∧ F = F' ∧ v = some (aI (mz (fl (fun k => sm (fun bb => A (220 + bb.toNat) k) (F 2 2).toNat) 20) 0 14)) ∧ ∀ i, i ≠ 25 → i ≠ 26 → i ≠ 27 → A' i = A i) := by
  refine ab_enter (by decide) (by simp [aI, aR, aX, ab_val, Value.category]) (Nat.le_of_ble_eq_true rfl) (fun E C hr => ?_)
  refine j_eq (lv' := [some (aR 0)]) ?_
  refine j_aload_n C dX9_flight_0 rfl rfl ?_
  refine j_callV C (vs := []) (st := []) cl_X9_191 im_yX9_gatherParts se_yX9_gatherParts (fun _ => (c_gather _ S F A hS hBg hb)) ((sC_0 hS)) rfl rfl rfl ⟨rfl, rfl, by decide, by decide⟩ ⟨by decide, by decide⟩ (fun _ => Nat.le_of_ble_eq_true rfl) (fun v hv => by cases hv) (fun v hv => by simp only [List.mem_cons, List.not_mem_nil, or_false, Option.some.injEq, reduceCtorEq, false_or] at hv; rcases hv with rfl <;> first | exact (lS ((sC_0 hS)))) dX9_flight_1 (fun v_1 S_1 F_1 A_1 hP_1 => ?_)
  obtain ⟨rfl, rfl, rfl, hO1, hg1⟩ := hP_1
  show ab_J E 1 0 0 S F A_1 4 [some (aR 0)] []
  refine j_aload_n C dX9_flight_4 rfl rfl ?_
  refine j_getR C (j := 10) fl_X9_55 ((sC_0 hS)) rfl dX9_flight_5 ?_
  refine j_aload_n C dX9_flight_8 rfl rfl ?_
  refine j_getR C (j := 27) fl_X9_59 ((sC_0 hS)) rfl dX9_flight_9 ?_
  refine j_callV C (vs := [aR 27]) (st := []) cl_X9_266 im_yX2_most se_yX2_most (fun _ => (c_most _ S F A_1 hS _ hg1 (fun k a c => gs_rng hb (fun b q1 q2 => hp b k q1 q2 a c)))) ((sC_10 hS)) rfl rfl rfl ⟨rfl, rfl, by decide, by decide⟩ ⟨by decide, by decide⟩ (fun _ => Nat.le_of_ble_eq_true rfl) (fun v hv => by cases hv) (fun v hv => by simp only [List.mem_cons, List.not_mem_nil, or_false, Option.some.injEq, reduceCtorEq, false_or] at hv; rcases hv with rfl <;> first | exact (lS ((sC_0 hS)))) dX9_flight_12 (fun v_12 S_12 F_12 A_12 hP_12 => ?_)
  obtain ⟨rfl, rfl, hv12, hO12⟩ := hP_12
  cases hv12
  show ab_J E 1 0 0 S F A_12 15 [some (aR 0)] [aI (mz (fl (fun k => sm (fun bb => A (220 + bb.toNat) k) (F 2 2).toNat) 20) 0 14)]
  exact j_iret C hr (Nat.le_refl _) (Nat.le_refl _) dX9_flight_15 ⟨rfl, rfl, rfl, fun i q1 q2 q3 => by rw [hO12 i q1 q2]; exact hO1 i q3⟩

set_option maxHeartbeats 4000000 in
set_option maxRecDepth 100000 in
theorem c_write (l : Launch) (S : ab_St) (F : ab_Fn) (A : ab_An) (hS : ab_SC S) (w : Int) (h1 : 0 ≤ w ∧ w < F 3 2) (nc : Nat → Nat) (hWg : WG S nc (F 3 2)) (hw9 : 0 ≤ F 3 2 ∧ F 3 2 ≤ 40) (hnc : 1 ≤ nc w.toNat ∧ nc w.toNat ≤ 40) (hxy : ∀ k : Int, 0 ≤ k → k < (nc w.toNat : Nat) → 0 ≤ A (350 + w.toNat) k ∧ A (350 + w.toNat) k ≤ 20 ∧ 0 ≤ A (400 + w.toNat) k ∧ A (400 + w.toNat) k ≤ 14) : ab_Met l yX9_write cX9_write 4 (some .int) { frames := 6, cells := 0, slots := 0, locals := 128 } 0 0 [aR 0, aI w] S F A (fun v S' F' A' => S = S' ∧ ∃ t : Int, v = some (aI t) ∧ F' = upF F 4 1 t ∧ (∀ j, j ≠ 15 → A' j = A j) ∧ tp A' 15 t (wtx (A (350 + w.toNat)) (A (400 + w.toNat)) (nc w.toNat : Nat))) := by
  refine ab_enter (by decide) (by simp [aI, aR, aX, ab_val, Value.category]) (Nat.le_of_ble_eq_true rfl) (fun E C hr => ?_)
  refine j_eq (lv' := [some (aR 0), some (aI w), none, none]) ?_
  have hWg2 := hWg
  obtain ⟨hW1, ew, Nw, hl3, hN3, hW3, hW4, hW5⟩ := hWg
  refine j_aload_n C dX9_write_0 rfl rfl ?_
  refine j_iload_n C dX9_write_1 rfl rfl ?_
  refine j_callV C (vs := [aI w]) (st := []) cl_X9_223 im_yX9_checkWarning se_yX9_checkWarning (fun _ => (c_checkWarning _ S F A hS nc hWg2 hw9 _ h1)) ((sC_0 hS)) rfl rfl rfl ⟨rfl, rfl, by decide, by decide⟩ ⟨by decide, by decide⟩ (fun _ => Nat.le_of_ble_eq_true rfl) (fun v hv => by cases hv) (fun v hv => by simp only [List.mem_cons, List.not_mem_nil, or_false, Option.some.injEq, reduceCtorEq, false_or] at hv; rcases hv with rfl | rfl <;> first | exact (lS ((sC_0 hS))) | exact trivial) dX9_write_2 (fun v_2 S_2 F_2 A_2 hP_2 => ?_)
  obtain ⟨rfl, rfl, rfl, rfl⟩ := hP_2
  show ab_J E 4 0 0 S F A 5 [some (aR 0), some (aI w), none, none] []
  refine j_aload_n C dX9_write_5 rfl rfl ?_
  refine j_getR C (j := 3) fl_X9_23 ((sC_0 hS)) rfl dX9_write_6 ?_
  refine j_iload_n C dX9_write_9 rfl rfl ?_
  obtain ⟨c3_10, he3_10, hc3_10⟩ := hW3 (by omega)
  refine j_callV C (vs := [aI w]) (st := []) cl_X9_142 im_yJx4a65c_get_915e3 se_yJx4a65c_get_915e3 (fun _ => (t_get _ S F A _ _ _ (300 + (w).toNat) _ _ (hl3) he3_10 (by show 0 ≤ w ∧ w < F 3 2; omega) (by show F 3 2 ≤ _; omega) (by omega) (hc3_10 _ (by omega)))) (hl3) rfl rfl rfl ⟨rfl, rfl, by decide, by decide⟩ ⟨by decide, by decide⟩ (fun _ => Nat.le_of_ble_eq_true rfl) (fun v hv => by cases hv) (fun v hv => by simp only [List.mem_cons, List.not_mem_nil, or_false, Option.some.injEq, reduceCtorEq, false_or] at hv; rcases hv with rfl | rfl <;> first | exact (lS ((sC_0 hS))) | exact trivial) dX9_write_10 (fun v_10 S_10 F_10 A_10 hP_10 => ?_)
  obtain ⟨rfl, rfl, rfl, rfl⟩ := hP_10
  show ab_J E 4 0 0 S F A 13 [some (aR 0), some (aI w), none, none] [aR (300 + (w).toNat)]
  refine j_cast C ((hW1 ((w).toNat) (by omega)).1) rfl (ab_t2 (List.mem_of_getElem? (i := 99) rfl) rfl) dX9_write_13 ?_
  refine j_astore_n C (lv' := [some (aR 0), some (aI w), some (aR (300 + (w).toNat)), none]) dX9_write_16 rfl (by decide) rfl ?_
  refine j_aload_n C dX9_write_17 rfl rfl ?_
  refine j_getR C (j := 4) fl_X9_37 ((sC_0 hS)) rfl dX9_write_18 ?_
  refine j_iconst C dX9_write_21 ?_
  refine j_putI C fp_X9_76 ((sC_4 hS)) rfl dX9_write_22 ?_
  refine j_aload_n C dX9_write_25 rfl rfl ?_
  refine j_getR C (j := 4) fl_X9_37 ((sC_0 hS)) rfl dX9_write_26 ?_
  refine j_ldcS C (tx := "ring ") 2 (by decide) rfl (lw_t4 (List.mem_of_getElem? (i := 167) rfl)) dX9_write_29 ?_
  refine j_callV C (vs := [aR (1000000 + 2)]) (st := []) cl_X9_239 im_yX6_putWord se_yX6_putWord (fun _ => c_putWord _ S (upF F 4 1 0) A hS _ _ (by omega) tp_0 (by decide)) ((sC_4 hS)) rfl rfl rfl ⟨rfl, rfl, by decide, by decide⟩ ⟨by decide, by decide⟩ (fun _ => Nat.le_of_ble_eq_true rfl) (fun v hv => by cases hv) (fun v hv => by simp only [List.mem_cons, List.not_mem_nil, or_false, Option.some.injEq, reduceCtorEq, false_or] at hv; rcases hv with rfl | rfl | rfl <;> first | exact (lS ((hW1 ((w).toNat) (by omega)).1)) | exact (lS ((sC_0 hS))) | exact trivial) dX9_write_31 (fun v_31 S_31 F_31 A_31 hP_31 => ?_)
  obtain ⟨rfl, rfl, t31, rfl, hO31, ht31⟩ := hP_31
  show ab_J E 4 0 0 S (upF (upF F 4 1 0) 4 1 t31) A_31 34 [some (aR 0), some (aI w), some (aR (300 + (w).toNat)), none] []
  refine j_iconst C dX9_write_34 ?_
  refine j_istore_n C (lv' := [some (aR 0), some (aI w), some (aR (300 + (w).toNat)), some (aI 0)]) dX9_write_35 rfl (by decide) rfl ?_
  have K36 : ∀ (N : Nat) (k t : Int) (B : ab_An), (0 ≤ k ∧ k ≤ (nc w.toNat : Nat)) → (∀ i, i ≠ 15 → B i = A i) → (tp B 15 t (wpre (A (350 + w.toNat)) (A (400 + w.toNat)) k.toNat)) → (((nc w.toNat : Nat) - k).toNat) < N → ab_J E 4 0 0 S (upF F 4 1 t) B 36 [some (aR 0), some (aI w), some (aR (300 + (w).toNat)), some (aI k)] [] := by
    intro N
    induction N with
    | zero => intro k t B hk hO ht hm; exact absurd hm (Nat.not_lt_zero _)
    | succ N ih =>
      have ih36 := ih
      clear ih
      intro k t B hk hO ht hm36
      refine j_iload_n C dX9_write_36 rfl rfl ?_
      refine j_aload_n C dX9_write_37 rfl rfl ?_
      refine j_getR C (j := (350 + (w).toNat)) fl_X9_242 ((hW1 ((w).toNat) (by omega)).1) rfl dX9_write_38 ?_
      refine j_alen C ((hW1 ((w).toNat) (by omega)).2.1) 0 (fun _ => rfl) dX9_write_41 ?_
      refine j_eq (st' := [aI (nc ((w).toNat)), aI k]) ?_
      have hwl := wpre_len (A (350 + w.toNat)) (A (400 + w.toNat)) k.toNat
      have htl := ht.1
      refine j_icmp_ge C (tgt := 108) dX9_write_42 (by decide) ⟨by omega, by omega⟩ ⟨by omega, by omega⟩ (fun c42 => ?_) (fun c42 => ?_)
      · have hwl := wpre_len (A (350 + w.toNat)) (A (400 + w.toNat)) k.toNat
        have htl := ht.1
        refine j_aload_n C dX9_write_108 rfl rfl ?_
        refine j_getR C (j := 4) fl_X9_37 ((sC_0 hS)) rfl dX9_write_109 ?_
        refine j_ldcS C (tx := " end") 3 (by decide) rfl (lw_t4 (List.mem_of_getElem? (i := 179) rfl)) dX9_write_112 ?_
        refine j_callV C (vs := [aR (1000000 + 3)]) (st := []) cl_X9_239 im_yX6_putWord se_yX6_putWord (fun _ => c_putWord _ S (upF F 4 1 t) B hS _ _ (by omega) ht (by omega)) ((sC_4 hS)) rfl rfl rfl ⟨rfl, rfl, by decide, by decide⟩ ⟨by decide, by decide⟩ (fun _ => Nat.le_of_ble_eq_true rfl) (fun v hv => by cases hv) (fun v hv => by simp only [List.mem_cons, List.not_mem_nil, or_false, Option.some.injEq, reduceCtorEq, false_or] at hv; rcases hv with rfl | rfl | rfl | rfl <;> first | exact (lS ((hW1 ((w).toNat) (by omega)).1)) | exact (lS ((sC_0 hS))) | exact trivial) dX9_write_114 (fun v_114 S_114 F_114 A_114 hP_114 => ?_)
        obtain ⟨rfl, rfl, t114, rfl, hO114, ht114⟩ := hP_114
        show ab_J E 4 0 0 S (upF (upF F 4 1 t) 4 1 t114) A_114 117 [some (aR 0), some (aI w), some (aR (300 + (w).toNat)), some (aI k)] []
        refine j_aload_n C dX9_write_117 rfl rfl ?_
        refine j_getR C (j := 4) fl_X9_37 ((sC_0 hS)) rfl dX9_write_118 ?_
        refine j_get C (aI t114) fl_X9_76 ((sC_4 hS)) (fun _ => rfl) dX9_write_121 ?_
        exact j_iret C hr (Nat.le_refl _) (Nat.le_refl _) dX9_write_124 ⟨rfl, _, rfl, (by first | rfl | exact upF_up _ _ _ _ _ | simp only [upF_up]), fun j q => by rw [hO114 j q, hO j q], by have e : k = (nc w.toNat : Nat) := (by omega); unfold wtx; rw [e] at ht114; exact ht114⟩
      · refine j_iload_n C dX9_write_45 rfl rfl ?_
        refine j_aload_n C dX9_write_46 rfl rfl ?_
        refine j_getR C (j := (400 + (w).toNat)) fl_X9_243 ((hW1 ((w).toNat) (by omega)).1) rfl dX9_write_47 ?_
        refine j_alen C ((hW1 ((w).toNat) (by omega)).2.2.1) 0 (fun _ => rfl) dX9_write_50 ?_
        refine j_eq (st' := [aI (nc ((w).toNat)), aI k]) ?_
        refine j_icmp_ge C (tgt := 108) dX9_write_51 (by decide) ⟨by omega, by omega⟩ ⟨by omega, by omega⟩ (fun c51 => ?_) (fun c51 => ?_)
        · exact absurd c51 (by omega)
        · have hv8 := hxy k (by omega) (by omega)
          refine j_iload_n C dX9_write_54 rfl rfl ?_
          refine j_if_le C (tgt := 67) dX9_write_55 (by decide) ⟨by omega, by omega⟩ (fun c55 => ?_) (fun c55 => ?_)
          · refine j_aload_n C dX9_write_67 rfl rfl ?_
            refine j_getR C (j := 4) fl_X9_37 ((sC_0 hS)) rfl dX9_write_68 ?_
            refine j_aload_n C dX9_write_71 rfl rfl ?_
            refine j_getR C (j := (350 + (w).toNat)) fl_X9_242 ((hW1 ((w).toNat) (by omega)).1) rfl dX9_write_72 ?_
            refine j_iload_n C dX9_write_75 rfl rfl ?_
            refine j_iald C ((hW1 ((w).toNat) (by omega)).2.1) (by omega) (by omega) (by omega) dX9_write_76 ?_
            refine j_eq (st' := [aI (A (350 + (w).toNat) k), aR 4]) ?_ (e1 := by first | rfl | (simp only [List.cons.injEq, and_true]; exact congrArg aI ((by first | exact congrFun (hO _ (by omega)) _ | exact (congrFun (upA_other (by omega)) _).trans (congrFun (hO _ (by omega)) _)))))
            refine j_callV C (vs := [aI (A (350 + (w).toNat) k)]) (st := []) cl_X9_247 im_yX6_putNumber se_yX6_putNumber (fun _ => c_putNumber _ S (upF F 4 1 t) B hS _ _ (by omega) (by first | exact ht | exact tp_put ht) (by (try simp only [List.length_append, List.length_cons, List.length_nil]); have q1 := nu_len (A (350 + w.toNat) k); omega)) ((sC_4 hS)) rfl rfl rfl ⟨rfl, rfl, by decide, by decide⟩ ⟨by decide, by decide⟩ (fun _ => Nat.le_of_ble_eq_true rfl) (fun v hv => by cases hv) (fun v hv => by simp only [List.mem_cons, List.not_mem_nil, or_false, Option.some.injEq, reduceCtorEq, false_or] at hv; rcases hv with rfl | rfl | rfl | rfl <;> first | exact (lS ((hW1 ((w).toNat) (by omega)).1)) | exact (lS ((sC_0 hS))) | exact trivial) dX9_write_77 (fun v_77 S_77 F_77 A_77 hP_77 => ?_)
            obtain ⟨rfl, rfl, t77, rfl, hO77, ht77⟩ := hP_77
            show ab_J E 4 0 0 S (upF (upF F 4 1 t) 4 1 t77) A_77 80 [some (aR 0), some (aI w), some (aR (300 + (w).toNat)), some (aI k)] []
            refine j_aload_n C dX9_write_80 rfl rfl ?_
            refine j_getR C (j := 4) fl_X9_37 ((sC_0 hS)) rfl dX9_write_81 ?_
            refine j_bipush C dX9_write_84 rfl ?_
            refine j_callV C (vs := [aI 32]) (st := []) cl_X9_244 im_yX6_put se_yX6_put (fun _ => c_put _ S (upF (upF F 4 1 t) 4 1 t77) A_77 hS _ (by show 0 ≤ t77 ∧ t77 < 400; have := ht77.1; simp only [List.length_append, List.length_cons, List.length_nil] at this; have q1 := nu_len (A (350 + w.toNat) k); omega)) ((sC_4 hS)) rfl rfl rfl ⟨rfl, rfl, by decide, by decide⟩ ⟨by decide, by decide⟩ (fun _ => Nat.le_of_ble_eq_true rfl) (fun v hv => by cases hv) (fun v hv => by simp only [List.mem_cons, List.not_mem_nil, or_false, Option.some.injEq, reduceCtorEq, false_or] at hv; rcases hv with rfl | rfl | rfl | rfl <;> first | exact (lS ((hW1 ((w).toNat) (by omega)).1)) | exact (lS ((sC_0 hS))) | exact trivial) dX9_write_86 (fun v_86 S_86 F_86 A_86 hP_86 => ?_)
            obtain ⟨rfl, rfl, rfl, rfl⟩ := hP_86
            show ab_J E 4 0 0 S (upF (upF (upF F 4 1 t) 4 1 t77) 4 1 (t77 + 1)) (upA A_77 15 t77 (32 % 256)) 89 [some (aR 0), some (aI w), some (aR (300 + (w).toNat)), some (aI k)] []
            refine j_aload_n C dX9_write_89 rfl rfl ?_
            refine j_getR C (j := 4) fl_X9_37 ((sC_0 hS)) rfl dX9_write_90 ?_
            refine j_aload_n C dX9_write_93 rfl rfl ?_
            refine j_getR C (j := (400 + (w).toNat)) fl_X9_243 ((hW1 ((w).toNat) (by omega)).1) rfl dX9_write_94 ?_
            refine j_iload_n C dX9_write_97 rfl rfl ?_
            refine j_iald C ((hW1 ((w).toNat) (by omega)).2.2.1) (by omega) (by omega) (by omega) dX9_write_98 ?_
            refine j_eq (st' := [aI (A (400 + (w).toNat) k), aR 4]) ?_ (e1 := by first | rfl | (simp only [List.cons.injEq, and_true]; exact congrArg aI ((by first | exact (congrFun (upA_other (by omega)) _).trans ((congrFun (hO77 _ (by omega)) _).trans (congrFun (hO _ (by omega)) _)) | exact (congrFun (upA_other (by omega)) _).trans ((congrFun (hO77 _ (by omega)) _).trans ((congrFun (upA_other (by omega)) _).trans (congrFun (hO _ (by omega)) _)))))))
            refine j_callV C (vs := [aI (A (400 + (w).toNat) k)]) (st := []) cl_X9_247 im_yX6_putNumber se_yX6_putNumber (fun _ => c_putNumber _ S (upF (upF (upF F 4 1 t) 4 1 t77) 4 1 (t77 + 1)) (upA A_77 15 t77 (32 % 256)) hS _ _ (by omega) (tp_put ht77) (by (try simp only [List.length_append, List.length_cons, List.length_nil]); have q1 := nu_len (A (350 + w.toNat) k); omega)) ((sC_4 hS)) rfl rfl rfl ⟨rfl, rfl, by decide, by decide⟩ ⟨by decide, by decide⟩ (fun _ => Nat.le_of_ble_eq_true rfl) (fun v hv => by cases hv) (fun v hv => by simp only [List.mem_cons, List.not_mem_nil, or_false, Option.some.injEq, reduceCtorEq, false_or] at hv; rcases hv with rfl | rfl | rfl | rfl <;> first | exact (lS ((hW1 ((w).toNat) (by omega)).1)) | exact (lS ((sC_0 hS))) | exact trivial) dX9_write_99 (fun v_99 S_99 F_99 A_99 hP_99 => ?_)
            obtain ⟨rfl, rfl, t99, rfl, hO99, ht99⟩ := hP_99
            show ab_J E 4 0 0 S (upF (upF (upF (upF F 4 1 t) 4 1 t77) 4 1 (t77 + 1)) 4 1 t99) A_99 102 [some (aR 0), some (aI w), some (aR (300 + (w).toNat)), some (aI k)] []
            refine j_iinc C (lv' := [some (aR 0), some (aI w), some (aR (300 + (w).toNat)), some (aI (k + 1))]) dX9_write_102 rfl (by decide) rfl ?_
            refine j_goto C (tgt := 36) dX9_write_105 (by decide) ?_
            refine j_eq (F' := (upF F 4 1 t99)) ?_ (e3 := (by first | rfl | exact upF_up _ _ _ _ _ | simp only [upF_up]))
            exact ih36 (k + 1) t99 A_99 (by omega) (fun i q => by rw [hO99 i q, upA_other q, hO77 i q]; first | exact hO i q | (rw [upA_other q]; exact hO i q)) (by rw [show (32 : Int) % 256 = 32 from rfl] at ht99; have e : k = 0 := (by omega); subst e; exact ht99) (by omega)
          · refine j_aload_n C dX9_write_58 rfl rfl ?_
            refine j_getR C (j := 4) fl_X9_37 ((sC_0 hS)) rfl dX9_write_59 ?_
            refine j_bipush C dX9_write_62 rfl ?_
            refine j_callV C (vs := [aI 44]) (st := []) cl_X9_244 im_yX6_put se_yX6_put (fun _ => c_put _ S (upF F 4 1 t) B hS _ (by show 0 ≤ t ∧ t < 400; omega)) ((sC_4 hS)) rfl rfl rfl ⟨rfl, rfl, by decide, by decide⟩ ⟨by decide, by decide⟩ (fun _ => Nat.le_of_ble_eq_true rfl) (fun v hv => by cases hv) (fun v hv => by simp only [List.mem_cons, List.not_mem_nil, or_false, Option.some.injEq, reduceCtorEq, false_or] at hv; rcases hv with rfl | rfl | rfl | rfl <;> first | exact (lS ((hW1 ((w).toNat) (by omega)).1)) | exact (lS ((sC_0 hS))) | exact trivial) dX9_write_64 (fun v_64 S_64 F_64 A_64 hP_64 => ?_)
            obtain ⟨rfl, rfl, rfl, rfl⟩ := hP_64
            show ab_J E 4 0 0 S (upF (upF F 4 1 t) 4 1 (t + 1)) (upA B 15 t (44 % 256)) 67 [some (aR 0), some (aI w), some (aR (300 + (w).toNat)), some (aI k)] []
            refine j_aload_n C dX9_write_67 rfl rfl ?_
            refine j_getR C (j := 4) fl_X9_37 ((sC_0 hS)) rfl dX9_write_68 ?_
            refine j_aload_n C dX9_write_71 rfl rfl ?_
            refine j_getR C (j := (350 + (w).toNat)) fl_X9_242 ((hW1 ((w).toNat) (by omega)).1) rfl dX9_write_72 ?_
            refine j_iload_n C dX9_write_75 rfl rfl ?_
            refine j_iald C ((hW1 ((w).toNat) (by omega)).2.1) (by omega) (by omega) (by omega) dX9_write_76 ?_
            refine j_eq (st' := [aI (A (350 + (w).toNat) k), aR 4]) ?_ (e1 := by first | rfl | (simp only [List.cons.injEq, and_true]; exact congrArg aI ((by first | exact congrFun (hO _ (by omega)) _ | exact (congrFun (upA_other (by omega)) _).trans (congrFun (hO _ (by omega)) _)))))
            refine j_callV C (vs := [aI (A (350 + (w).toNat) k)]) (st := []) cl_X9_247 im_yX6_putNumber se_yX6_putNumber (fun _ => c_putNumber _ S (upF (upF F 4 1 t) 4 1 (t + 1)) (upA B 15 t (44 % 256)) hS _ _ (by omega) (by first | exact ht | exact tp_put ht) (by (try simp only [List.length_append, List.length_cons, List.length_nil]); have q1 := nu_len (A (350 + w.toNat) k); omega)) ((sC_4 hS)) rfl rfl rfl ⟨rfl, rfl, by decide, by decide⟩ ⟨by decide, by decide⟩ (fun _ => Nat.le_of_ble_eq_true rfl) (fun v hv => by cases hv) (fun v hv => by simp only [List.mem_cons, List.not_mem_nil, or_false, Option.some.injEq, reduceCtorEq, false_or] at hv; rcases hv with rfl | rfl | rfl | rfl <;> first | exact (lS ((hW1 ((w).toNat) (by omega)).1)) | exact (lS ((sC_0 hS))) | exact trivial) dX9_write_77 (fun v_77 S_77 F_77 A_77 hP_77 => ?_)
            obtain ⟨rfl, rfl, t77, rfl, hO77, ht77⟩ := hP_77
            show ab_J E 4 0 0 S (upF (upF (upF F 4 1 t) 4 1 (t + 1)) 4 1 t77) A_77 80 [some (aR 0), some (aI w), some (aR (300 + (w).toNat)), some (aI k)] []
            refine j_aload_n C dX9_write_80 rfl rfl ?_
            refine j_getR C (j := 4) fl_X9_37 ((sC_0 hS)) rfl dX9_write_81 ?_
            refine j_bipush C dX9_write_84 rfl ?_
            refine j_callV C (vs := [aI 32]) (st := []) cl_X9_244 im_yX6_put se_yX6_put (fun _ => c_put _ S (upF (upF (upF F 4 1 t) 4 1 (t + 1)) 4 1 t77) A_77 hS _ (by show 0 ≤ t77 ∧ t77 < 400; have := ht77.1; simp only [List.length_append, List.length_cons, List.length_nil] at this; have q1 := nu_len (A (350 + w.toNat) k); omega)) ((sC_4 hS)) rfl rfl rfl ⟨rfl, rfl, by decide, by decide⟩ ⟨by decide, by decide⟩ (fun _ => Nat.le_of_ble_eq_true rfl) (fun v hv => by cases hv) (fun v hv => by simp only [List.mem_cons, List.not_mem_nil, or_false, Option.some.injEq, reduceCtorEq, false_or] at hv; rcases hv with rfl | rfl | rfl | rfl <;> first | exact (lS ((hW1 ((w).toNat) (by omega)).1)) | exact (lS ((sC_0 hS))) | exact trivial) dX9_write_86 (fun v_86 S_86 F_86 A_86 hP_86 => ?_)
            obtain ⟨rfl, rfl, rfl, rfl⟩ := hP_86
            show ab_J E 4 0 0 S (upF (upF (upF (upF F 4 1 t) 4 1 (t + 1)) 4 1 t77) 4 1 (t77 + 1)) (upA A_77 15 t77 (32 % 256)) 89 [some (aR 0), some (aI w), some (aR (300 + (w).toNat)), some (aI k)] []
            refine j_aload_n C dX9_write_89 rfl rfl ?_
            refine j_getR C (j := 4) fl_X9_37 ((sC_0 hS)) rfl dX9_write_90 ?_
            refine j_aload_n C dX9_write_93 rfl rfl ?_
            refine j_getR C (j := (400 + (w).toNat)) fl_X9_243 ((hW1 ((w).toNat) (by omega)).1) rfl dX9_write_94 ?_
            refine j_iload_n C dX9_write_97 rfl rfl ?_
            refine j_iald C ((hW1 ((w).toNat) (by omega)).2.2.1) (by omega) (by omega) (by omega) dX9_write_98 ?_
            refine j_eq (st' := [aI (A (400 + (w).toNat) k), aR 4]) ?_ (e1 := by first | rfl | (simp only [List.cons.injEq, and_true]; exact congrArg aI ((by first | exact (congrFun (upA_other (by omega)) _).trans ((congrFun (hO77 _ (by omega)) _).trans (congrFun (hO _ (by omega)) _)) | exact (congrFun (upA_other (by omega)) _).trans ((congrFun (hO77 _ (by omega)) _).trans ((congrFun (upA_other (by omega)) _).trans (congrFun (hO _ (by omega)) _)))))))
            refine j_callV C (vs := [aI (A (400 + (w).toNat) k)]) (st := []) cl_X9_247 im_yX6_putNumber se_yX6_putNumber (fun _ => c_putNumber _ S (upF (upF (upF (upF F 4 1 t) 4 1 (t + 1)) 4 1 t77) 4 1 (t77 + 1)) (upA A_77 15 t77 (32 % 256)) hS _ _ (by omega) (tp_put ht77) (by (try simp only [List.length_append, List.length_cons, List.length_nil]); have q1 := nu_len (A (350 + w.toNat) k); omega)) ((sC_4 hS)) rfl rfl rfl ⟨rfl, rfl, by decide, by decide⟩ ⟨by decide, by decide⟩ (fun _ => Nat.le_of_ble_eq_true rfl) (fun v hv => by cases hv) (fun v hv => by simp only [List.mem_cons, List.not_mem_nil, or_false, Option.some.injEq, reduceCtorEq, false_or] at hv; rcases hv with rfl | rfl | rfl | rfl <;> first | exact (lS ((hW1 ((w).toNat) (by omega)).1)) | exact (lS ((sC_0 hS))) | exact trivial) dX9_write_99 (fun v_99 S_99 F_99 A_99 hP_99 => ?_)
            obtain ⟨rfl, rfl, t99, rfl, hO99, ht99⟩ := hP_99
            show ab_J E 4 0 0 S (upF (upF (upF (upF (upF F 4 1 t) 4 1 (t + 1)) 4 1 t77) 4 1 (t77 + 1)) 4 1 t99) A_99 102 [some (aR 0), some (aI w), some (aR (300 + (w).toNat)), some (aI k)] []
            refine j_iinc C (lv' := [some (aR 0), some (aI w), some (aR (300 + (w).toNat)), some (aI (k + 1))]) dX9_write_102 rfl (by decide) rfl ?_
            refine j_goto C (tgt := 36) dX9_write_105 (by decide) ?_
            refine j_eq (F' := (upF F 4 1 t99)) ?_ (e3 := (by first | rfl | exact upF_up _ _ _ _ _ | simp only [upF_up]))
            exact ih36 (k + 1) t99 A_99 (by omega) (fun i q => by rw [hO99 i q, upA_other q, hO77 i q]; first | exact hO i q | (rw [upA_other q]; exact hO i q)) (by rw [show (32 : Int) % 256 = 32 from rfl] at ht99; rw [show (44 : Int) % 256 = 44 from rfl] at ht99; rw [wpre_s (by omega)]; exact ht99) (by omega)
  refine j_eq (F' := (upF F 4 1 t31)) ?_ (e3 := (by first | rfl | exact upF_up _ _ _ _ _ | simp only [upF_up]))
  exact K36 _ 0 t31 A_31 (by omega) hO31 ht31 (Nat.lt_succ_self _)
