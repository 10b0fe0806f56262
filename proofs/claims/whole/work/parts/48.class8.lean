theorem gs_rng {f : Int → Int} {nb : Int} (hb : 0 ≤ nb ∧ nb ≤ 10) (h : ∀ b, 0 ≤ b → b < nb → 0 ≤ f b ∧ f b ≤ 1000000) : 0 ≤ sm f nb.toNat ∧ sm f nb.toNat ≤ 10000000 := by
  have h1 := sm_nonneg (f := f) (n := nb.toNat) (fun b a c => (h b a (by omega)).1)
  have h2 := sm_ge (f := f) (c := 1000000) (n := nb.toNat) (fun b a c => (h b a (by omega)).2)
  omega

set_option maxHeartbeats 4000000 in
set_option maxRecDepth 100000 in
theorem c_checkSquare (l : Launch) (S : ab_St) (F : ab_Fn) (A : ab_An) (hS : ab_SC S) (sq : Int) (h1 : 0 ≤ sq ∧ sq ≤ 279) : ab_Met l yX9_checkSquare cX9_checkSquare 1 none { frames := 0, cells := 0, slots := 0, locals := 0 } 0 0 [aI sq] S F A (fun v S' F' A' => S = S' ∧ F = F' ∧ A = A' ∧ v = none) := by
  refine ab_enter (by decide) (by simp [aI, aR, aX, ab_val, Value.category]) (Nat.le_of_ble_eq_true rfl) (fun E C hr => ?_)
  refine j_eq (lv' := [some (aI sq)]) ?_
  refine j_iload_n C dX9_checkSquare_0 rfl rfl ?_
  refine j_if_lt C (tgt := 11) dX9_checkSquare_1 (by decide) ⟨by omega, by omega⟩ (fun c1 => ?_) (fun c1 => ?_)
  · exact absurd c1 (by omega)
  · refine j_iload_n C dX9_checkSquare_4 rfl rfl ?_
    refine j_sipush C dX9_checkSquare_5 rfl ?_
    refine j_icmp_lt C (tgt := 22) dX9_checkSquare_8 (by decide) ⟨by omega, by omega⟩ ⟨by omega, by omega⟩ (fun c8 => ?_) (fun c8 => ?_)
    · exact j_vret C hr (Nat.le_refl _) (Nat.le_refl _) dX9_checkSquare_22 ⟨rfl, rfl, rfl, rfl⟩
    · exact absurd c8 (by omega)

set_option maxHeartbeats 4000000 in
set_option maxRecDepth 100000 in
theorem c_checkBerg (l : Launch) (S : ab_St) (F : ab_Fn) (A : ab_An) (hS : ab_SC S) (hB : BG S (F 2 2)) (hb : 0 ≤ F 2 2 ∧ F 2 2 ≤ 10) (b : Int) (h1 : 0 ≤ b ∧ b < F 2 2) : ab_Met l yX9_checkBerg cX9_checkBerg 2 none { frames := 1, cells := 0, slots := 0, locals := 20 } 0 0 [aR 0, aI b] S F A (fun v S' F' A' => S = S' ∧ F = F' ∧ A = A' ∧ v = none) := by
  refine ab_enter (by decide) (by simp [aI, aR, aX, ab_val, Value.category]) (Nat.le_of_ble_eq_true rfl) (fun E C hr => ?_)
  refine j_eq (lv' := [some (aR 0), some (aI b)]) ?_
  obtain ⟨hB1, eb, hl2, hB3, hB4, hB5⟩ := hB
  refine j_iload_n C dX9_checkBerg_0 rfl rfl ?_
  refine j_if_lt C (tgt := 15) dX9_checkBerg_1 (by decide) ⟨by omega, by omega⟩ (fun c1 => ?_) (fun c1 => ?_)
  · exact absurd c1 (by omega)
  · refine j_iload_n C dX9_checkBerg_4 rfl rfl ?_
    refine j_aload_n C dX9_checkBerg_5 rfl rfl ?_
    refine j_getR C (j := 2) fl_X9_19 ((sC_0 hS)) rfl dX9_checkBerg_6 ?_
    refine j_callV C (vs := []) (st := [aI b]) cl_X9_126 im_yJx4a65c_size_8abf5 se_yJx4a65c_size_8abf5 (fun _ => (t_size _ S F A _ _ (hl2))) (hl2) rfl rfl rfl ⟨rfl, rfl, by decide, by decide⟩ ⟨by decide, by decide⟩ (fun _ => Nat.le_of_ble_eq_true rfl) (fun v hv => by simp only [List.mem_cons, List.not_mem_nil, or_false] at hv; rcases hv with rfl <;> first | exact trivial) (fun v hv => by simp only [List.mem_cons, List.not_mem_nil, or_false, Option.some.injEq, reduceCtorEq, false_or] at hv; rcases hv with rfl | rfl <;> first | exact (lS ((sC_0 hS))) | exact trivial) dX9_checkBerg_9 (fun v_9 S_9 F_9 A_9 hP_9 => ?_)
    obtain ⟨rfl, rfl, rfl, rfl⟩ := hP_9
    show ab_J E 2 0 0 S F A 12 [some (aR 0), some (aI b)] [aI (F 2 2), aI b]
    refine j_icmp_lt C (tgt := 26) dX9_checkBerg_12 (by decide) ⟨by omega, by omega⟩ ⟨by omega, by omega⟩ (fun c12 => ?_) (fun c12 => ?_)
    · exact j_vret C hr (Nat.le_refl _) (Nat.le_refl _) dX9_checkBerg_26 ⟨rfl, rfl, rfl, rfl⟩
    · exact absurd c12 (by omega)

set_option maxHeartbeats 4000000 in
set_option maxRecDepth 100000 in
theorem c_checkWarning (l : Launch) (S : ab_St) (F : ab_Fn) (A : ab_An) (hS : ab_SC S) (nc : Nat → Nat) (hWg : WG S nc (F 3 2)) (hw9 : 0 ≤ F 3 2 ∧ F 3 2 ≤ 40) (w : Int) (h1 : 0 ≤ w ∧ w < F 3 2) : ab_Met l yX9_checkWarning cX9_checkWarning 2 none { frames := 1, cells := 0, slots := 0, locals := 20 } 0 0 [aR 0, aI w] S F A (fun v S' F' A' => S = S' ∧ F = F' ∧ A = A' ∧ v = none) := by
  refine ab_enter (by decide) (by simp [aI, aR, aX, ab_val, Value.category]) (Nat.le_of_ble_eq_true rfl) (fun E C hr => ?_)
  refine j_eq (lv' := [some (aR 0), some (aI w)]) ?_
  obtain ⟨hW1, ew, Nw, hl3, hN3, hW3, hW4, hW5⟩ := hWg
  refine j_iload_n C dX9_checkWarning_0 rfl rfl ?_
  refine j_if_lt C (tgt := 15) dX9_checkWarning_1 (by decide) ⟨by omega, by omega⟩ (fun c1 => ?_) (fun c1 => ?_)
  · exact absurd c1 (by omega)
  · refine j_iload_n C dX9_checkWarning_4 rfl rfl ?_
    refine j_aload_n C dX9_checkWarning_5 rfl rfl ?_
    refine j_getR C (j := 3) fl_X9_23 ((sC_0 hS)) rfl dX9_checkWarning_6 ?_
    refine j_callV C (vs := []) (st := [aI w]) cl_X9_126 im_yJx4a65c_size_8abf5 se_yJx4a65c_size_8abf5 (fun _ => (t_size _ S F A _ _ (hl3))) (hl3) rfl rfl rfl ⟨rfl, rfl, by decide, by decide⟩ ⟨by decide, by decide⟩ (fun _ => Nat.le_of_ble_eq_true rfl) (fun v hv => by simp only [List.mem_cons, List.not_mem_nil, or_false] at hv; rcases hv with rfl <;> first | exact trivial) (fun v hv => by simp only [List.mem_cons, List.not_mem_nil, or_false, Option.some.injEq, reduceCtorEq, false_or] at hv; rcases hv with rfl | rfl <;> first | exact (lS ((sC_0 hS))) | exact trivial) dX9_checkWarning_9 (fun v_9 S_9 F_9 A_9 hP_9 => ?_)
    obtain ⟨rfl, rfl, rfl, rfl⟩ := hP_9
    show ab_J E 2 0 0 S F A 12 [some (aR 0), some (aI w)] [aI (F 3 2), aI w]
    refine j_icmp_lt C (tgt := 26) dX9_checkWarning_12 (by decide) ⟨by omega, by omega⟩ ⟨by omega, by omega⟩ (fun c12 => ?_) (fun c12 => ?_)
    · exact j_vret C hr (Nat.le_refl _) (Nat.le_refl _) dX9_checkWarning_26 ⟨rfl, rfl, rfl, rfl⟩
    · exact absurd c12 (by omega)

set_option maxHeartbeats 4000000 in
set_option maxRecDepth 100000 in
theorem c_isCurrent (l : Launch) (S : ab_St) (F : ab_Fn) (A : ab_An) (hS : ab_SC S) (a : Int) (ra : inR a) : ab_Met l yX9_isCurrent cX9_isCurrent 1 (some .boolean) { frames := 0, cells := 0, slots := 0, locals := 0 } 0 0 [aI a] S F A (fun v S' F' A' => S = S' ∧ F = F' ∧ A = A' ∧ ∃ z : Int, v = some (aI z) ∧ zb z (-2 ≤ a ∧ a ≤ 2)) := by
  refine ab_enter (by decide) (by simp [aI, aR, aX, ab_val, Value.category]) (Nat.le_of_ble_eq_true rfl) (fun E C hr => ?_)
  refine j_eq (lv' := [some (aI a)]) ?_
  refine j_iload_n C dX9_isCurrent_0 rfl rfl ?_
  refine j_bipush C dX9_isCurrent_1 rfl ?_
  refine j_icmp_lt C (tgt := 15) dX9_isCurrent_3 (by decide) ra ⟨by omega, by omega⟩ (fun c3 => ?_) (fun c3 => ?_)
  · refine j_iconst C dX9_isCurrent_15 ?_
    exact j_zret C hr (ab_nz01 (by omega)) (Nat.le_refl _) (Nat.le_refl _) dX9_isCurrent_16 ⟨rfl, rfl, rfl, _, rfl, by unfold zb; omega⟩
  · refine j_iload_n C dX9_isCurrent_6 rfl rfl ?_
    refine j_iconst C dX9_isCurrent_7 ?_
    refine j_icmp_gt C (tgt := 15) dX9_isCurrent_8 (by decide) ra ⟨by omega, by omega⟩ (fun c8 => ?_) (fun c8 => ?_)
    · refine j_iconst C dX9_isCurrent_15 ?_
      exact j_zret C hr (ab_nz01 (by omega)) (Nat.le_refl _) (Nat.le_refl _) dX9_isCurrent_16 ⟨rfl, rfl, rfl, _, rfl, by unfold zb; omega⟩
    · refine j_iconst C dX9_isCurrent_11 ?_
      refine j_goto C (tgt := 16) dX9_isCurrent_12 (by decide) ?_
      exact j_zret C hr (ab_nz01 (by omega)) (Nat.le_refl _) (Nat.le_refl _) dX9_isCurrent_16 ⟨rfl, rfl, rfl, _, rfl, by unfold zb; omega⟩

set_option maxHeartbeats 4000000 in
set_option maxRecDepth 100000 in
theorem c_water (l : Launch) (S : ab_St) (F : ab_Fn) (A : ab_An) (hS : ab_SC S) (sq a d w : Int) (h1 : 0 ≤ sq ∧ sq ≤ 279) (h2 : -2 ≤ a ∧ a ≤ 2 ∧ -2 ≤ d ∧ d ≤ 2 ∧ 0 ≤ w ∧ w ≤ 50) : ab_Met l yX9_water cX9_water 5 none { frames := 1, cells := 0, slots := 0, locals := 20 } 0 0 [aR 0, aI sq, aI a, aI d, aI w] S F A (fun v S' F' A' => S = S' ∧ F = F' ∧ v = none ∧ A' = upA (upA (upA A 12 sq a) 13 sq d) 14 sq w) := by
  refine ab_enter (by decide) (by simp [aI, aR, aX, ab_val, Value.category]) (Nat.le_of_ble_eq_true rfl) (fun E C hr => ?_)
  refine j_eq (lv' := [some (aR 0), some (aI sq), some (aI a), some (aI d), some (aI w)]) ?_
  refine j_iload_n C dX9_water_0 rfl rfl ?_
  refine j_callS C (vs := [aI sq]) (st := []) cl_X9_85 sc_yX9_checkSquare (fun _ => (c_checkSquare _ S F A hS _ h1)) rfl ⟨rfl, rfl, by decide, by decide⟩ ⟨by decide, by decide⟩ (fun _ => Nat.le_of_ble_eq_true rfl) (fun v hv => by cases hv) (fun v hv => by simp only [List.mem_cons, List.not_mem_nil, or_false, Option.some.injEq, reduceCtorEq, false_or] at hv; rcases hv with rfl | rfl | rfl | rfl | rfl <;> first | exact (lS ((sC_0 hS))) | exact trivial) dX9_water_1 (fun v_1 S_1 F_1 A_1 hP_1 => ?_)
  obtain ⟨rfl, rfl, rfl, rfl⟩ := hP_1
  show ab_J E 5 0 0 S F A 4 [some (aR 0), some (aI sq), some (aI a), some (aI d), some (aI w)] []
  refine j_iload_n C dX9_water_4 rfl rfl ?_
  refine j_callS C (vs := [aI a]) (st := []) cl_X9_88 sc_yX9_isCurrent (fun _ => (c_isCurrent _ S F A hS _ ⟨by omega, by omega⟩)) rfl ⟨rfl, rfl, by decide, by decide⟩ ⟨by decide, by decide⟩ (fun _ => Nat.le_of_ble_eq_true rfl) (fun v hv => by cases hv) (fun v hv => by simp only [List.mem_cons, List.not_mem_nil, or_false, Option.some.injEq, reduceCtorEq, false_or] at hv; rcases hv with rfl | rfl | rfl | rfl | rfl <;> first | exact (lS ((sC_0 hS))) | exact trivial) dX9_water_5 (fun v_5 S_5 F_5 A_5 hP_5 => ?_)
  obtain ⟨rfl, rfl, rfl, z_5, rfl, ⟨rfl, hz_5⟩ | ⟨rfl, hz_5⟩⟩ := hP_5
  · show ab_J E 5 0 0 S F A 8 [some (aR 0), some (aI sq), some (aI a), some (aI d), some (aI w)] [aI 1]
    refine j_if_eq C (tgt := 30) dX9_water_8 (by decide) ⟨by omega, by omega⟩ (fun c8 => ?_) (fun c8 => ?_)
    · exact absurd c8 (by decide)
    · refine j_iload_n C dX9_water_11 rfl rfl ?_
      refine j_callS C (vs := [aI d]) (st := []) cl_X9_88 sc_yX9_isCurrent (fun _ => (c_isCurrent _ S F A hS _ ⟨by omega, by omega⟩)) rfl ⟨rfl, rfl, by decide, by decide⟩ ⟨by decide, by decide⟩ (fun _ => Nat.le_of_ble_eq_true rfl) (fun v hv => by cases hv) (fun v hv => by simp only [List.mem_cons, List.not_mem_nil, or_false, Option.some.injEq, reduceCtorEq, false_or] at hv; rcases hv with rfl | rfl | rfl | rfl | rfl <;> first | exact (lS ((sC_0 hS))) | exact trivial) dX9_water_12 (fun v_12 S_12 F_12 A_12 hP_12 => ?_)
      obtain ⟨rfl, rfl, rfl, z_12, rfl, ⟨rfl, hz_12⟩ | ⟨rfl, hz_12⟩⟩ := hP_12
      · show ab_J E 5 0 0 S F A 15 [some (aR 0), some (aI sq), some (aI a), some (aI d), some (aI w)] [aI 1]
        refine j_if_eq C (tgt := 30) dX9_water_15 (by decide) ⟨by omega, by omega⟩ (fun c15 => ?_) (fun c15 => ?_)
        · exact absurd c15 (by decide)
        · refine j_iload C dX9_water_18 rfl ?_
          refine j_if_lt C (tgt := 30) dX9_water_20 (by decide) ⟨by omega, by omega⟩ (fun c20 => ?_) (fun c20 => ?_)
          · exact absurd c20 (by omega)
          · refine j_iload C dX9_water_23 rfl ?_
            refine j_bipush C dX9_water_25 rfl ?_
            refine j_icmp_le C (tgt := 40) dX9_water_27 (by decide) ⟨by omega, by omega⟩ ⟨by omega, by omega⟩ (fun c27 => ?_) (fun c27 => ?_)
            · refine j_aload_n C dX9_water_40 rfl rfl ?_
              refine j_getR C (j := 1) fl_X9_12 ((sC_0 hS)) rfl dX9_water_41 ?_
              refine j_getR C (j := 12) fl_X9_99 ((sC_1 hS)) rfl dX9_water_44 ?_
              refine j_iload_n C dX9_water_47 rfl rfl ?_
              refine j_iload_n C dX9_water_48 rfl rfl ?_
              refine j_iast C ((sC_12 hS)) (by omega) (by omega) (by decide) dX9_water_49 ?_
              refine j_aload_n C dX9_water_50 rfl rfl ?_
              refine j_getR C (j := 1) fl_X9_12 ((sC_0 hS)) rfl dX9_water_51 ?_
              refine j_getR C (j := 13) fl_X9_102 ((sC_1 hS)) rfl dX9_water_54 ?_
              refine j_iload_n C dX9_water_57 rfl rfl ?_
              refine j_iload_n C dX9_water_58 rfl rfl ?_
              refine j_iast C ((sC_13 hS)) (by omega) (by omega) (by decide) dX9_water_59 ?_
              refine j_aload_n C dX9_water_60 rfl rfl ?_
              refine j_getR C (j := 1) fl_X9_12 ((sC_0 hS)) rfl dX9_water_61 ?_
              refine j_getR C (j := 14) fl_X9_105 ((sC_1 hS)) rfl dX9_water_64 ?_
              refine j_iload_n C dX9_water_67 rfl rfl ?_
              refine j_iload C dX9_water_68 rfl ?_
              refine j_iast C ((sC_14 hS)) (by omega) (by omega) (by decide) dX9_water_70 ?_
              exact j_vret C hr (Nat.le_refl _) (Nat.le_refl _) dX9_water_71 ⟨rfl, rfl, rfl, rfl⟩
            · exact absurd c27 (by omega)
      · show ab_J E 5 0 0 S F A 15 [some (aR 0), some (aI sq), some (aI a), some (aI d), some (aI w)] [aI 0]
        refine j_if_eq C (tgt := 30) dX9_water_15 (by decide) ⟨by omega, by omega⟩ (fun c15 => ?_) (fun c15 => ?_)
        · exfalso; omega
        · exact absurd c15 (by decide)
  · show ab_J E 5 0 0 S F A 8 [some (aR 0), some (aI sq), some (aI a), some (aI d), some (aI w)] [aI 0]
    refine j_if_eq C (tgt := 30) dX9_water_8 (by decide) ⟨by omega, by omega⟩ (fun c8 => ?_) (fun c8 => ?_)
    · exfalso; omega
    · exact absurd c8 (by decide)

set_option maxHeartbeats 4000000 in
set_option maxRecDepth 100000 in
theorem c_land (l : Launch) (S : ab_St) (F : ab_Fn) (A : ab_An) (hS : ab_SC S) (sq z : Int) (h1 : 0 ≤ sq ∧ sq ≤ 279) (hz : z = 0 ∨ z = 1) (hBg : BG S (F 2 2)) (hb : 0 ≤ F 2 2 ∧ F 2 2 ≤ 10) (hp : ∀ b, 0 ≤ b → b < F 2 2 → inR (A (220 + b.toNat) sq)) (h2 : ¬ (z = 1 ∧ exB (fun bb => 0 < A (220 + bb.toNat) sq) (F 2 2))) : ab_Met l yX9_land cX9_land 3 none { frames := 4, cells := 0, slots := 0, locals := 86 } 0 0 [aR 0, aI sq, aI z] S F A (fun v S' F' A' => S = S' ∧ F = F' ∧ v = none ∧ A' = upA A 11 sq z) := by
  refine ab_enter (by decide) (by simp [aI, aR, aX, ab_val, Value.category]) (Nat.le_of_ble_eq_true rfl) (fun E C hr => ?_)
  refine j_eq (lv' := [some (aR 0), some (aI sq), some (aI z)]) ?_
  refine j_iload_n C dX9_land_0 rfl rfl ?_
  refine j_callS C (vs := [aI sq]) (st := []) cl_X9_85 sc_yX9_checkSquare (fun _ => (c_checkSquare _ S F A hS _ h1)) rfl ⟨rfl, rfl, by decide, by decide⟩ ⟨by decide, by decide⟩ (fun _ => Nat.le_of_ble_eq_true rfl) (fun v hv => by cases hv) (fun v hv => by simp only [List.mem_cons, List.not_mem_nil, or_false, Option.some.injEq, reduceCtorEq, false_or] at hv; rcases hv with rfl | rfl | rfl <;> first | exact (lS ((sC_0 hS))) | exact trivial) dX9_land_1 (fun v_1 S_1 F_1 A_1 hP_1 => ?_)
  obtain ⟨rfl, rfl, rfl, rfl⟩ := hP_1
  show ab_J E 3 0 0 S F A 4 [some (aR 0), some (aI sq), some (aI z)] []
  refine j_iload_n C dX9_land_4 rfl rfl ?_
  refine j_if_eq C (tgt := 26) dX9_land_5 (by decide) ⟨by omega, by omega⟩ (fun c5 => ?_) (fun c5 => ?_)
  · refine j_aload_n C dX9_land_26 rfl rfl ?_
    refine j_getR C (j := 1) fl_X9_12 ((sC_0 hS)) rfl dX9_land_27 ?_
    refine j_getR C (j := 11) fl_X9_116 ((sC_1 hS)) rfl dX9_land_30 ?_
    refine j_iload_n C dX9_land_33 rfl rfl ?_
    refine j_iload_n C dX9_land_34 rfl rfl ?_
    refine j_zast C ((sC_11 hS)) (by omega) (by omega) (by decide) hz dX9_land_35 ?_
    exact j_vret C hr (Nat.le_refl _) (Nat.le_refl _) dX9_land_36 ⟨rfl, rfl, rfl, rfl⟩
  · refine j_aload_n C dX9_land_8 rfl rfl ?_
    refine j_iload_n C dX9_land_9 rfl rfl ?_
    refine j_callV C (vs := [aI sq]) (st := []) cl_X9_108 im_yX9_someBergMayBe se_yX9_someBergMayBe (fun _ => (c_someBerg _ S F A hS _ (by omega) hBg hb hp)) ((sC_0 hS)) rfl rfl rfl ⟨rfl, rfl, by decide, by decide⟩ ⟨by decide, by decide⟩ (fun _ => Nat.le_of_ble_eq_true rfl) (fun v hv => by cases hv) (fun v hv => by simp only [List.mem_cons, List.not_mem_nil, or_false, Option.some.injEq, reduceCtorEq, false_or] at hv; rcases hv with rfl | rfl | rfl <;> first | exact (lS ((sC_0 hS))) | exact trivial) dX9_land_10 (fun v_10 S_10 F_10 A_10 hP_10 => ?_)
    obtain ⟨rfl, rfl, rfl, z_10, rfl, ⟨rfl, hz_10⟩ | ⟨rfl, hz_10⟩⟩ := hP_10
    · show ab_J E 3 0 0 S F A 13 [some (aR 0), some (aI sq), some (aI z)] [aI 1]
      refine j_if_eq C (tgt := 26) dX9_land_13 (by decide) ⟨by omega, by omega⟩ (fun c13 => ?_) (fun c13 => ?_)
      · exact absurd c13 (by decide)
      · exact absurd hz_10 (fun q => h2 ⟨by omega, q⟩)
    · show ab_J E 3 0 0 S F A 13 [some (aR 0), some (aI sq), some (aI z)] [aI 0]
      refine j_if_eq C (tgt := 26) dX9_land_13 (by decide) ⟨by omega, by omega⟩ (fun c13 => ?_) (fun c13 => ?_)
      · refine j_aload_n C dX9_land_26 rfl rfl ?_
        refine j_getR C (j := 1) fl_X9_12 ((sC_0 hS)) rfl dX9_land_27 ?_
        refine j_getR C (j := 11) fl_X9_116 ((sC_1 hS)) rfl dX9_land_30 ?_
        refine j_iload_n C dX9_land_33 rfl rfl ?_
        refine j_iload_n C dX9_land_34 rfl rfl ?_
        refine j_zast C ((sC_11 hS)) (by omega) (by omega) (by decide) hz dX9_land_35 ?_
        exact j_vret C hr (Nat.le_refl _) (Nat.le_refl _) dX9_land_36 ⟨rfl, rfl, rfl, rfl⟩
      · exact absurd c13 (by decide)

set_option maxHeartbeats 4000000 in
set_option maxRecDepth 100000 in
theorem c_bergToJoin (l : Launch) (S : ab_St) (F : ab_Fn) (A : ab_An) (hS : ab_SC S) (sq z : Int) (h1 : 0 ≤ sq ∧ sq ≤ 279) (h2 : 1 ≤ z ∧ z ≤ 1000) (hB : BG S (F 2 2)) (hb : 0 ≤ F 2 2 ∧ F 2 2 ≤ 10) (U : Int → bst) (hU : ∀ b, 0 ≤ b → b < F 2 2 → BC F A b.toNat (U b) ∧ BW (U b)) : ab_Met l yX9_bergToJoin cX9_bergToJoin 7 (some .int) { frames := 3, cells := 0, slots := 0, locals := 64 } 0 0 [aR 0, aI sq, aI z] S F A (fun v S' F' A' => S = S' ∧ F = F' ∧ A = A' ∧ ∃ r : Int, v = some (aI r) ∧ bBest U sq z (F 2 2) r) := by
  refine ab_enter (by decide) (by simp [aI, aR, aX, ab_val, Value.category]) (Nat.le_of_ble_eq_true rfl) (fun E C hr => ?_)
  refine j_eq (lv' := [some (aR 0), some (aI sq), some (aI z), none, none, none, none]) ?_
  obtain ⟨hB1, eb, hl2, hB3, hB4, hB5⟩ := hB
  refine j_iconst C dX9_bergToJoin_0 ?_
  refine j_istore_n C (lv' := [some (aR 0), some (aI sq), some (aI z), some (aI ((-1))), none, none, none]) dX9_bergToJoin_1 rfl (by decide) rfl ?_
  refine j_iconst C dX9_bergToJoin_2 ?_
  refine j_istore C (lv' := [some (aR 0), some (aI sq), some (aI z), some (aI ((-1))), some (aI 0), none, none]) dX9_bergToJoin_3 (by decide) rfl ?_
  refine j_iconst C dX9_bergToJoin_5 ?_
  refine j_istore C (lv' := [some (aR 0), some (aI sq), some (aI z), some (aI ((-1))), some (aI 0), some (aI 0), none]) dX9_bergToJoin_6 (by decide) rfl ?_
  have K8 : ∀ (N : Nat) (m q b : Int), (0 ≤ b ∧ b ≤ F 2 2) → (bBest U sq z b m) → ((m = -1 ∧ q = 0) ∨ (0 ≤ m ∧ q = (U m).1 sq ∧ 0 ≤ q ∧ q ≤ 1000000)) → ((F 2 2 - b).toNat) < N → ab_J E 7 0 0 S F A 8 [some (aR 0), some (aI sq), some (aI z), some (aI m), some (aI q), some (aI b), none] [] := by
    intro N
    induction N with
    | zero => intro m q b hb0 hB9 hM hm; exact absurd hm (Nat.not_lt_zero _)
    | succ N ih =>
      have ih8 := ih
      clear ih
      intro m q b hb0 hB9 hM hm8
      refine j_iload C dX9_bergToJoin_8 rfl ?_
      refine j_aload_n C dX9_bergToJoin_10 rfl rfl ?_
      refine j_getR C (j := 2) fl_X9_19 ((sC_0 hS)) rfl dX9_bergToJoin_11 ?_
      refine j_callV C (vs := []) (st := [aI b]) cl_X9_126 im_yJx4a65c_size_8abf5 se_yJx4a65c_size_8abf5 (fun _ => (t_size _ S F A _ _ (hl2))) (hl2) rfl rfl rfl ⟨rfl, rfl, by decide, by decide⟩ ⟨by decide, by decide⟩ (fun _ => Nat.le_of_ble_eq_true rfl) (fun v hv => by simp only [List.mem_cons, List.not_mem_nil, or_false] at hv; rcases hv with rfl <;> first | exact trivial) (fun v hv => by simp only [List.mem_cons, List.not_mem_nil, or_false, Option.some.injEq, reduceCtorEq, false_or] at hv; rcases hv with rfl | rfl | rfl | rfl | rfl | rfl <;> first | exact (lS ((sC_0 hS))) | exact trivial) dX9_bergToJoin_14 (fun v_14 S_14 F_14 A_14 hP_14 => ?_)
      obtain ⟨rfl, rfl, rfl, rfl⟩ := hP_14
      show ab_J E 7 0 0 S F A 17 [some (aR 0), some (aI sq), some (aI z), some (aI m), some (aI q), some (aI b), none] [aI (F 2 2), aI b]
      refine j_icmp_ge C (tgt := 81) dX9_bergToJoin_17 (by decide) ⟨by omega, by omega⟩ ⟨by omega, by omega⟩ (fun c17 => ?_) (fun c17 => ?_)
      · refine j_iload_n C dX9_bergToJoin_81 rfl rfl ?_
        exact j_iret C hr (Nat.le_refl _) (Nat.le_refl _) dX9_bergToJoin_82 ⟨rfl, rfl, rfl, m, rfl, by rw [← show b = F 2 2 by omega]; exact hB9⟩
      · refine j_aload_n C dX9_bergToJoin_20 rfl rfl ?_
        refine j_getR C (j := 2) fl_X9_19 ((sC_0 hS)) rfl dX9_bergToJoin_21 ?_
        refine j_iload C dX9_bergToJoin_24 rfl ?_
        obtain ⟨c2_26, he2_26, hc2_26⟩ := hB3 (by omega)
        refine j_callV C (vs := [aI b]) (st := []) cl_X9_142 im_yJx4a65c_get_915e3 se_yJx4a65c_get_915e3 (fun _ => (t_get _ S F A _ _ _ (200 + (b).toNat) _ _ (hl2) he2_26 (by show 0 ≤ b ∧ b < F 2 2; omega) (by show F 2 2 ≤ 10; omega) (by decide) (hc2_26 _ (by omega)))) (hl2) rfl rfl rfl ⟨rfl, rfl, by decide, by decide⟩ ⟨by decide, by decide⟩ (fun _ => Nat.le_of_ble_eq_true rfl) (fun v hv => by cases hv) (fun v hv => by simp only [List.mem_cons, List.not_mem_nil, or_false, Option.some.injEq, reduceCtorEq, false_or] at hv; rcases hv with rfl | rfl | rfl | rfl | rfl | rfl <;> first | exact (lS ((sC_0 hS))) | exact trivial) dX9_bergToJoin_26 (fun v_26 S_26 F_26 A_26 hP_26 => ?_)
        obtain ⟨rfl, rfl, rfl, rfl⟩ := hP_26
        show ab_J E 7 0 0 S F A 29 [some (aR 0), some (aI sq), some (aI z), some (aI m), some (aI q), some (aI b), none] [aR (200 + (b).toNat)]
        refine j_cast C ((hB1 ((b).toNat) (by omega)).1) rfl (ab_t2 (List.mem_of_getElem? (i := 51) rfl) rfl) dX9_bergToJoin_29 ?_
        refine j_astore C (lv' := [some (aR 0), some (aI sq), some (aI z), some (aI m), some (aI q), some (aI b), some (aR (200 + (b).toNat))]) dX9_bergToJoin_32 (by decide) rfl ?_
        have hu := hU b (by omega) (by omega)
        have hu1 := hu.1.1 sq h1.1 (by omega)
        have hu2 := hu.2.le (k := sq) h1.1 (by omega)
        have hu3 := hu.1.2.1
        have hu4 := hu.1.2.2.2.2
        have hu5 := hu.2.2.2.2.2.1
        have hu6 := hu.2.2.2.1
        have hu7 := hu.2.2.2.2.1
        refine j_aload C dX9_bergToJoin_34 rfl ?_
        refine j_get C (aI (F (200 + (b).toNat) 4)) fl_X9_172 ((hB1 ((b).toNat) (by omega)).1) (fun _ => rfl) dX9_bergToJoin_36 ?_
        refine j_if_ne C (tgt := 75) dX9_bergToJoin_39 (by decide) ⟨by omega, by omega⟩ (fun c39 => ?_) (fun c39 => ?_)
        · refine j_iinc C (lv' := [some (aR 0), some (aI sq), some (aI z), some (aI m), some (aI q), some (aI (b + 1)), some (aR (200 + (b).toNat))]) dX9_bergToJoin_75 rfl (by decide) rfl ?_
          refine j_goto C (tgt := 8) dX9_bergToJoin_78 (by decide) ?_
          refine j_lv (lv' := [some (aR 0), some (aI sq), some (aI z), some (aI m), some (aI q), some (aI (b + 1)), none]) ?_ ⟨rfl, rfl, rfl, rfl, rfl, rfl, trivial⟩
          exact ih8 m q (b + 1) (by omega) (bBest_no hb0.1 hB9 (fun q => by have := q.1; omega)) hM (by omega)
        · refine j_aload C dX9_bergToJoin_42 rfl ?_
          refine j_get C (aI (F (200 + (b).toNat) 1)) fl_X9_167 ((hB1 ((b).toNat) (by omega)).1) (fun _ => rfl) dX9_bergToJoin_44 ?_
          refine j_iload_n C dX9_bergToJoin_47 rfl rfl ?_
          refine j_icmp_lt C (tgt := 75) dX9_bergToJoin_48 (by decide) ⟨by omega, by omega⟩ ⟨by omega, by omega⟩ (fun c48 => ?_) (fun c48 => ?_)
          · refine j_iinc C (lv' := [some (aR 0), some (aI sq), some (aI z), some (aI m), some (aI q), some (aI (b + 1)), some (aR (200 + (b).toNat))]) dX9_bergToJoin_75 rfl (by decide) rfl ?_
            refine j_goto C (tgt := 8) dX9_bergToJoin_78 (by decide) ?_
            refine j_lv (lv' := [some (aR 0), some (aI sq), some (aI z), some (aI m), some (aI q), some (aI (b + 1)), none]) ?_ ⟨rfl, rfl, rfl, rfl, rfl, rfl, trivial⟩
            exact ih8 m q (b + 1) (by omega) (bBest_no hb0.1 hB9 (fun q => by have := q.2.2; omega)) hM (by omega)
          · refine j_aload C dX9_bergToJoin_51 rfl ?_
            refine j_getR C (j := (220 + (b).toNat)) fl_X9_164 ((hB1 ((b).toNat) (by omega)).1) rfl dX9_bergToJoin_53 ?_
            refine j_iload_n C dX9_bergToJoin_56 rfl rfl ?_
            refine j_iald C ((hB1 ((b).toNat) (by omega)).2) (by omega) (by omega) (by decide) dX9_bergToJoin_57 ?_
            refine j_eq (st' := [aI ((U b).1 sq)]) ?_ (e1 := by first | rfl | (simp only [List.cons.injEq, and_true]; exact congrArg aI (hu1)))
            refine j_iload C dX9_bergToJoin_58 rfl ?_
            refine j_icmp_le C (tgt := 75) dX9_bergToJoin_60 (by decide) ⟨by omega, by omega⟩ ⟨by omega, by omega⟩ (fun c60 => ?_) (fun c60 => ?_)
            · refine j_iinc C (lv' := [some (aR 0), some (aI sq), some (aI z), some (aI m), some (aI q), some (aI (b + 1)), some (aR (200 + (b).toNat))]) dX9_bergToJoin_75 rfl (by decide) rfl ?_
              refine j_goto C (tgt := 8) dX9_bergToJoin_78 (by decide) ?_
              refine j_lv (lv' := [some (aR 0), some (aI sq), some (aI z), some (aI m), some (aI q), some (aI (b + 1)), none]) ?_ ⟨rfl, rfl, rfl, rfl, rfl, rfl, trivial⟩
              exact ih8 m q (b + 1) (by omega) (by rcases hM with hM | hM; exact (bBest_no hb0.1 hB9 (fun q => by have := q.2.1; omega)); exact (bBest_less hb0.1 hB9 (by omega) (by omega))) hM (by omega)
            · refine j_iload C dX9_bergToJoin_63 rfl ?_
              refine j_istore_n C (lv' := [some (aR 0), some (aI sq), some (aI z), some (aI b), some (aI q), some (aI b), some (aR (200 + (b).toNat))]) dX9_bergToJoin_65 rfl (by decide) rfl ?_
              refine j_aload C dX9_bergToJoin_66 rfl ?_
              refine j_getR C (j := (220 + (b).toNat)) fl_X9_164 ((hB1 ((b).toNat) (by omega)).1) rfl dX9_bergToJoin_68 ?_
              refine j_iload_n C dX9_bergToJoin_71 rfl rfl ?_
              refine j_iald C ((hB1 ((b).toNat) (by omega)).2) (by omega) (by omega) (by decide) dX9_bergToJoin_72 ?_
              refine j_eq (st' := [aI ((U b).1 sq)]) ?_ (e1 := by first | rfl | (simp only [List.cons.injEq, and_true]; exact congrArg aI (hu1)))
              refine j_istore C (lv' := [some (aR 0), some (aI sq), some (aI z), some (aI b), some (aI ((U b).1 sq)), some (aI b), some (aR (200 + (b).toNat))]) dX9_bergToJoin_73 (by decide) rfl ?_
              refine j_iinc C (lv' := [some (aR 0), some (aI sq), some (aI z), some (aI b), some (aI ((U b).1 sq)), some (aI (b + 1)), some (aR (200 + (b).toNat))]) dX9_bergToJoin_75 rfl (by decide) rfl ?_
              refine j_goto C (tgt := 8) dX9_bergToJoin_78 (by decide) ?_
              refine j_lv (lv' := [some (aR 0), some (aI sq), some (aI z), some (aI b), some (aI ((U b).1 sq)), some (aI (b + 1)), none]) ?_ ⟨rfl, rfl, rfl, rfl, rfl, rfl, trivial⟩
              exact ih8 b ((U b).1 sq) (b + 1) (by omega) (bBest_new hb0.1 hB9 ⟨by omega, by omega, by omega⟩ (by rcases hM with hM | hM; exact Or.inl (by omega); exact Or.inr (by omega))) (Or.inr ⟨hb0.1, rfl, by omega, by omega⟩) (by omega)
  exact K8 _ ((-1)) 0 0 (by omega) bBest_0 (Or.inl ⟨rfl, rfl⟩) (Nat.lt_succ_self _)

set_option maxHeartbeats 4000000 in
set_option maxRecDepth 100000 in
theorem c_step (l : Launch) (S : ab_St) (F : ab_Fn) (A : ab_An) (hS : ab_SC S) (n : Int) (h1 : 0 ≤ n ∧ n ≤ 50) (hB : BG S (F 2 2)) (hb : 0 ≤ F 2 2 ∧ F 2 2 ≤ 10) (hl : ∀ k, 0 ≤ k → k < 280 → A 11 k = 0 ∨ A 11 k = 1) (hc : ∀ k, 0 ≤ k → k < 280 → -2 ≤ A 12 k ∧ A 12 k ≤ 2 ∧ -2 ≤ A 13 k ∧ A 13 k ≤ 2) (hw : ∀ k, 0 ≤ k → k < 280 → 0 ≤ A 14 k ∧ A 14 k ≤ 50) (U : Int → bst) (hU : ∀ b, 0 ≤ b → b < F 2 2 → BC F A b.toNat (U b) ∧ BW (U b)) : ab_Met l yX9_step cX9_step 4 (some .int) { frames := 4, cells := 0, slots := 0, locals := 92 } 0 0 [aR 0, aI n] S F A (fun v S' F' A' => S = S' ∧ v = some (aI (F 0 10 + n)) ∧ (∀ k, k ≠ 10 → F' 0 k = F 0 k) ∧ F' 0 10 = F 0 10 + n ∧ (∀ i, i ≠ 0 → (i < 200 ∨ 210 ≤ i) → F' i = F i) ∧ (∀ b, 0 ≤ b → b < F 2 2 → BC F' A' b.toNat (bsn (A 11) (A 12) (A 13) (A 14) n.toNat (U b))) ∧ ∀ i, i ≠ 28 → (i < 220 ∨ 230 ≤ i) → A' i = A i) := by
  refine ab_enter (by decide) (by simp [aI, aR, aX, ab_val, Value.category]) (Nat.le_of_ble_eq_true rfl) (fun E C hr => ?_)
  refine j_eq (lv' := [some (aR 0), some (aI n), none, none]) ?_
  obtain ⟨hB1, eb, hl2, hB3, hB4, hB5⟩ := hB
  refine j_iload_n C dX9_step_0 rfl rfl ?_
  refine j_if_lt C (tgt := 10) dX9_step_1 (by decide) ⟨by omega, by omega⟩ (fun c1 => ?_) (fun c1 => ?_)
  · exact absurd c1 (by omega)
  · refine j_iload_n C dX9_step_4 rfl rfl ?_
    refine j_bipush C dX9_step_5 rfl ?_
    refine j_icmp_le C (tgt := 20) dX9_step_7 (by decide) ⟨by omega, by omega⟩ ⟨by omega, by omega⟩ (fun c7 => ?_) (fun c7 => ?_)
    · refine j_iconst C dX9_step_20 ?_
      refine j_istore_n C (lv' := [some (aR 0), some (aI n), some (aI 0), none]) dX9_step_21 rfl (by decide) rfl ?_
      have K22 : ∀ (N : Nat) (t : Int) (G : ab_Fn) (B : ab_An), (0 ≤ t ∧ t ≤ n) → (∀ k, k ≠ 10 → G 0 k = F 0 k) → (G 0 10 = F 0 10 + t) → (∀ i, i ≠ 0 → (i < 200 ∨ 210 ≤ i) → G i = F i) → (G 2 2 = F 2 2) → (∀ b, 0 ≤ b → b < F 2 2 → BC G B b.toNat (bsn (A 11) (A 12) (A 13) (A 14) t.toNat (U b))) → (∀ i, i ≠ 28 → (i < 220 ∨ 230 ≤ i) → B i = A i) → ((n - t).toNat) < N → ab_J E 4 0 0 S G B 22 [some (aR 0), some (aI n), some (aI t), none] [] := by
        intro N
        induction N with
        | zero => intro t G B ht hG0 hG10 hGo hG2 hC hO hm; exact absurd hm (Nat.not_lt_zero _)
        | succ N ih =>
          have ih22 := ih
          clear ih
          intro t G B ht hG0 hG10 hGo hG2 hC hO hm22
          refine j_iload_n C dX9_step_22 rfl rfl ?_
          refine j_iload_n C dX9_step_23 rfl rfl ?_
          refine j_icmp_ge C (tgt := 84) dX9_step_24 (by decide) ⟨by omega, by omega⟩ ⟨by omega, by omega⟩ (fun c24 => ?_) (fun c24 => ?_)
          · have e : t = n := by omega
            subst e
            refine j_aload_n C dX9_step_84 rfl rfl ?_
            refine j_get C (aI (G 0 10)) fl_X9_66 ((sC_0 hS)) (fun _ => rfl) dX9_step_85 ?_
            exact j_iret C hr (Nat.le_refl _) (Nat.le_refl _) dX9_step_88 ⟨rfl, congrArg (fun z => some (aI z)) hG10, hG0, hG10, hGo, hC, hO⟩
          · refine j_aload_n C dX9_step_27 rfl rfl ?_
            refine j_dup C dX9_step_28 (fun _ => rfl) ?_
            refine j_get C (aI (G 0 10)) fl_X9_66 ((sC_0 hS)) (fun _ => rfl) dX9_step_29 ?_
            refine j_iconst C dX9_step_32 ?_
            refine j_iadd C dX9_step_33 ?_
            refine j_putI C fp_X9_66 ((sC_0 hS)) rfl dX9_step_34 ?_
            refine j_iconst C dX9_step_37 ?_
            refine j_istore_n C (lv' := [some (aR 0), some (aI n), some (aI t), some (aI 0)]) dX9_step_38 rfl (by decide) rfl ?_
            have K39 : ∀ (N : Nat) (b : Int) (G2 : ab_Fn) (B2 : ab_An), (0 ≤ b ∧ b ≤ F 2 2) → (∀ k, k ≠ 10 → G2 0 k = F 0 k) → (G2 0 10 = F 0 10 + (t + 1)) → (∀ i, i ≠ 0 → (i < 200 ∨ 210 ≤ i) → G2 i = F i) → (G2 2 2 = F 2 2) → (∀ b', 0 ≤ b' → b' < b → BC G2 B2 b'.toNat (bsn (A 11) (A 12) (A 13) (A 14) (t + 1).toNat (U b'))) → (∀ b', b ≤ b' → b' < F 2 2 → BC G2 B2 b'.toNat (bsn (A 11) (A 12) (A 13) (A 14) t.toNat (U b'))) → (∀ i, i ≠ 28 → (i < 220 ∨ 230 ≤ i) → B2 i = A i) → ((F 2 2 - b).toNat) < N → ab_J E 4 0 0 S G2 B2 39 [some (aR 0), some (aI n), some (aI t), some (aI b)] [] := by
              intro N
              induction N with
              | zero => intro b G2 B2 hb0 hG02 hG102 hGo2 hG22 hC1 hC2 hO2 hm; exact absurd hm (Nat.not_lt_zero _)
              | succ N ih =>
                have ih39 := ih
                clear ih
                intro b G2 B2 hb0 hG02 hG102 hGo2 hG22 hC1 hC2 hO2 hm39
                refine j_iload_n C dX9_step_39 rfl rfl ?_
                refine j_aload_n C dX9_step_40 rfl rfl ?_
                refine j_getR C (j := 2) fl_X9_19 ((sC_0 hS)) rfl dX9_step_41 ?_
                refine j_callV C (vs := []) (st := [aI b]) cl_X9_126 im_yJx4a65c_size_8abf5 se_yJx4a65c_size_8abf5 (fun _ => (t_size _ S G2 B2 _ _ (hl2))) (hl2) rfl rfl rfl ⟨rfl, rfl, by decide, by decide⟩ ⟨by decide, by decide⟩ (fun _ => Nat.le_of_ble_eq_true rfl) (fun v hv => by simp only [List.mem_cons, List.not_mem_nil, or_false] at hv; rcases hv with rfl <;> first | exact trivial) (fun v hv => by simp only [List.mem_cons, List.not_mem_nil, or_false, Option.some.injEq, reduceCtorEq, false_or] at hv; rcases hv with rfl | rfl | rfl | rfl <;> first | exact (lS ((sC_0 hS))) | exact trivial) dX9_step_44 (fun v_44 S_44 F_44 A_44 hP_44 => ?_)
                obtain ⟨rfl, rfl, rfl, rfl⟩ := hP_44
                show ab_J E 4 0 0 S G2 B2 47 [some (aR 0), some (aI n), some (aI t), some (aI b)] [aI (G2 2 2), aI b]
                refine j_icmp_ge C (tgt := 78) dX9_step_47 (by decide) ⟨by omega, by omega⟩ ⟨by omega, by omega⟩ (fun c47 => ?_) (fun c47 => ?_)
                · refine j_iinc C (lv' := [some (aR 0), some (aI n), some (aI (t + 1)), some (aI b)]) dX9_step_78 rfl (by decide) rfl ?_
                  refine j_goto C (tgt := 22) dX9_step_81 (by decide) ?_
                  refine j_lv (lv' := [some (aR 0), some (aI n), some (aI (t + 1)), none]) ?_ ⟨rfl, rfl, rfl, trivial⟩
                  exact ih22 (t + 1) G2 B2 (by omega) hG02 hG102 hGo2 hG22 (fun b' q1 q2 => hC1 b' q1 (by omega)) hO2 (by omega)
                · refine j_aload_n C dX9_step_50 rfl rfl ?_
                  refine j_getR C (j := 2) fl_X9_19 ((sC_0 hS)) rfl dX9_step_51 ?_
                  refine j_iload_n C dX9_step_54 rfl rfl ?_
                  obtain ⟨c2_55, he2_55, hc2_55⟩ := hB3 (by omega)
                  refine j_callV C (vs := [aI b]) (st := []) cl_X9_142 im_yJx4a65c_get_915e3 se_yJx4a65c_get_915e3 (fun _ => (t_get _ S G2 B2 _ _ _ (200 + (b).toNat) _ _ (hl2) he2_55 (by show 0 ≤ b ∧ b < G2 2 2; omega) (by show G2 2 2 ≤ 10; omega) (by decide) (hc2_55 _ (by omega)))) (hl2) rfl rfl rfl ⟨rfl, rfl, by decide, by decide⟩ ⟨by decide, by decide⟩ (fun _ => Nat.le_of_ble_eq_true rfl) (fun v hv => by cases hv) (fun v hv => by simp only [List.mem_cons, List.not_mem_nil, or_false, Option.some.injEq, reduceCtorEq, false_or] at hv; rcases hv with rfl | rfl | rfl | rfl <;> first | exact (lS ((sC_0 hS))) | exact trivial) dX9_step_55 (fun v_55 S_55 F_55 A_55 hP_55 => ?_)
                  obtain ⟨rfl, rfl, rfl, rfl⟩ := hP_55
                  show ab_J E 4 0 0 S G2 B2 58 [some (aR 0), some (aI n), some (aI t), some (aI b)] [aR (200 + (b).toNat)]
                  refine j_cast C ((hB1 ((b).toNat) (by omega)).1) rfl (ab_t2 (List.mem_of_getElem? (i := 51) rfl) rfl) dX9_step_58 ?_
                  refine j_aload_n C dX9_step_61 rfl rfl ?_
                  refine j_getR C (j := 1) fl_X9_12 ((sC_0 hS)) rfl dX9_step_62 ?_
                  refine j_aload_n C dX9_step_65 rfl rfl ?_
                  refine j_getR C (j := 28) fl_X9_63 ((sC_0 hS)) rfl dX9_step_66 ?_
                  refine j_callV C (vs := [aR 1, aR 28]) (st := []) cl_X9_152 im_yX0_goOn se_yX0_goOn (fun _ => (c_goOn _ S G2 B2 hS ((b).toNat) (by omega) ((hB1 ((b).toNat) (by omega)).1) ((hB1 ((b).toNat) (by omega)).2) _ (hC2 b (by omega) (by omega)) (bsn_W (hU b (by omega) (by omega)).2 hw t.toNat) (by rw [hO2 11 (by omega) (by omega)]; exact hl) (by rw [hO2 12 (by omega) (by omega), hO2 13 (by omega) (by omega)]; exact hc) (by rw [hO2 14 (by omega) (by omega)]; exact hw))) ((hB1 ((b).toNat) (by omega)).1) rfl rfl rfl ⟨rfl, rfl, by decide, by decide⟩ ⟨by decide, by decide⟩ (fun _ => Nat.le_of_ble_eq_true rfl) (fun v hv => by cases hv) (fun v hv => by simp only [List.mem_cons, List.not_mem_nil, or_false, Option.some.injEq, reduceCtorEq, false_or] at hv; rcases hv with rfl | rfl | rfl | rfl <;> first | exact (lS ((sC_0 hS))) | exact trivial) dX9_step_69 (fun v_69 S_69 F_69 A_69 hP_69 => ?_)
                  obtain ⟨rfl, rfl, hC69, hA69, hF69⟩ := hP_69
                  show ab_J E 4 0 0 S F_69 A_69 72 [some (aR 0), some (aI n), some (aI t), some (aI b)] []
                  rw [hO2 11 (by omega) (by omega), hO2 12 (by omega) (by omega), hO2 13 (by omega) (by omega), hO2 14 (by omega) (by omega)] at hC69
                  refine j_iinc C (lv' := [some (aR 0), some (aI n), some (aI t), some (aI (b + 1))]) dX9_step_72 rfl (by decide) rfl ?_
                  refine j_goto C (tgt := 39) dX9_step_75 (by decide) ?_
                  exact ih39 (b + 1) F_69 A_69 (by omega) (fun k q => by rw [hF69 0 (by omega)]; exact hG02 k q) (by rw [hF69 0 (by omega)]; exact hG102) (fun i q1 q2 => by rw [hF69 i (by omega)]; exact hGo2 i q1 q2) (by rw [hF69 2 (by omega)]; exact hG22) (fun b' q1 q2 => if q : b' = b then by rw [q, bsn_step ht.1]; exact hC69 else (hC1 b' q1 (by omega)).to (hF69 _ (by omega)) (hA69 _ (by omega) (by omega))) (fun b' q1 q2 => (hC2 b' (by omega) q2).to (hF69 _ (by omega)) (hA69 _ (by omega) (by omega))) (fun i q1 q2 => by rw [hA69 i q1 (by omega)]; exact hO2 i q1 q2) (by omega)
            exact K39 _ 0 ((upF G 0 10 ((G 0 10) + 1))) B (by omega) (fun k q => by rw [upF_ne q]; exact hG0 k q) (by rw [upF_at]; omega) (fun i q1 q2 => by rw [upF_o q1]; exact hGo i q1 q2) (by rw [upF_o (by decide)]; exact hG2) (fun b' q1 q2 => by omega) (fun b' q1 q2 => (hC b' (by omega) q2).to (by rw [upF_o (by omega)]) rfl) hO (Nat.lt_succ_self _)
      exact K22 _ 0 F A (by omega) (fun _ _ => rfl) (by omega) (fun _ _ _ => rfl) rfl (fun b q1 q2 => (hU b q1 q2).1) (fun _ _ _ => rfl) (Nat.lt_succ_self _)
    · exact absurd c7 (by omega)

set_option maxHeartbeats 4000000 in
set_option maxRecDepth 100000 in
theorem c_look (l : Launch) (S : ab_St) (F : ab_Fn) (A : ab_An) (hS : ab_SC S) (sq sh : Int) (h1 : 0 ≤ sq ∧ sq ≤ 279) (h2 : 0 ≤ sh ∧ sh ≤ 100) (hB : BG S (F 2 2)) (hb : 0 ≤ F 2 2 ∧ F 2 2 ≤ 10) (U : Int → bst) (hU : ∀ b, 0 ≤ b → b < F 2 2 → BC F A b.toNat (U b) ∧ BW (U b)) : ab_Met l yX9_look cX9_look 5 (some .int) { frames := 3, cells := 0, slots := 0, locals := 64 } 0 0 [aR 0, aI sq, aI sh] S F A (fun v S' F' A' => S = S' ∧ v = some (aI (sm (fun x => awy sq sh (U x)) (F 2 2).toNat)) ∧ (∀ b, 0 ≤ b → b < F 2 2 → BC F' A' b.toNat (blk sq sh (U b))) ∧ (∀ i, (i < 200 ∨ 210 ≤ i) → F' i = F i) ∧ ∀ i, (i < 220 ∨ 230 ≤ i) → A' i = A i) := by
  refine ab_enter (by decide) (by simp [aI, aR, aX, ab_val, Value.category]) (Nat.le_of_ble_eq_true rfl) (fun E C hr => ?_)
  refine j_eq (lv' := [some (aR 0), some (aI sq), some (aI sh), none, none]) ?_
  obtain ⟨hB1, eb, hl2, hB3, hB4, hB5⟩ := hB
  refine j_iload_n C dX9_look_0 rfl rfl ?_
  refine j_callS C (vs := [aI sq]) (st := []) cl_X9_85 sc_yX9_checkSquare (fun _ => (c_checkSquare _ S F A hS _ h1)) rfl ⟨rfl, rfl, by decide, by decide⟩ ⟨by decide, by decide⟩ (fun _ => Nat.le_of_ble_eq_true rfl) (fun v hv => by cases hv) (fun v hv => by simp only [List.mem_cons, List.not_mem_nil, or_false, Option.some.injEq, reduceCtorEq, false_or] at hv; rcases hv with rfl | rfl | rfl <;> first | exact (lS ((sC_0 hS))) | exact trivial) dX9_look_1 (fun v_1 S_1 F_1 A_1 hP_1 => ?_)
  obtain ⟨rfl, rfl, rfl, rfl⟩ := hP_1
  show ab_J E 5 0 0 S F A 4 [some (aR 0), some (aI sq), some (aI sh), none, none] []
  refine j_iload_n C dX9_look_4 rfl rfl ?_
  refine j_if_lt C (tgt := 14) dX9_look_5 (by decide) ⟨by omega, by omega⟩ (fun c5 => ?_) (fun c5 => ?_)
  · exact absurd c5 (by omega)
  · refine j_iload_n C dX9_look_8 rfl rfl ?_
    refine j_bipush C dX9_look_9 rfl ?_
    refine j_icmp_le C (tgt := 24) dX9_look_11 (by decide) ⟨by omega, by omega⟩ ⟨by omega, by omega⟩ (fun c11 => ?_) (fun c11 => ?_)
    · refine j_iconst C dX9_look_24 ?_
      refine j_istore_n C (lv' := [some (aR 0), some (aI sq), some (aI sh), some (aI 0), none]) dX9_look_25 rfl (by decide) rfl ?_
      refine j_iconst C dX9_look_26 ?_
      refine j_istore C (lv' := [some (aR 0), some (aI sq), some (aI sh), some (aI 0), some (aI 0)]) dX9_look_27 (by decide) rfl ?_
      have K29 : ∀ (N : Nat) (s b : Int) (G : ab_Fn) (B : ab_An), (0 ≤ b ∧ b ≤ F 2 2) → (∀ i, (i < 200 ∨ 210 ≤ i) → G i = F i) → (G 2 2 = F 2 2) → (∀ i, (i < 220 ∨ 230 ≤ i) → B i = A i) → (s = sm (fun x => awy sq sh (U x)) b.toNat) → (∀ b', 0 ≤ b' → b' < b → BC G B b'.toNat (blk sq sh (U b'))) → (∀ b', b ≤ b' → b' < F 2 2 → BC G B b'.toNat (U b')) → ((F 2 2 - b).toNat) < N → ab_J E 5 0 0 S G B 29 [some (aR 0), some (aI sq), some (aI sh), some (aI s), some (aI b)] [] := by
        intro N
        induction N with
        | zero => intro s b G B hb0 hGo hG2 hO hs hC1 hC2 hm; exact absurd hm (Nat.not_lt_zero _)
        | succ N ih =>
          have ih29 := ih
          clear ih
          intro s b G B hb0 hGo hG2 hO hs hC1 hC2 hm29
          refine j_iload C dX9_look_29 rfl ?_
          refine j_aload_n C dX9_look_31 rfl rfl ?_
          refine j_getR C (j := 2) fl_X9_19 ((sC_0 hS)) rfl dX9_look_32 ?_
          refine j_callV C (vs := []) (st := [aI b]) cl_X9_126 im_yJx4a65c_size_8abf5 se_yJx4a65c_size_8abf5 (fun _ => (t_size _ S G B _ _ (hl2))) (hl2) rfl rfl rfl ⟨rfl, rfl, by decide, by decide⟩ ⟨by decide, by decide⟩ (fun _ => Nat.le_of_ble_eq_true rfl) (fun v hv => by simp only [List.mem_cons, List.not_mem_nil, or_false] at hv; rcases hv with rfl <;> first | exact trivial) (fun v hv => by simp only [List.mem_cons, List.not_mem_nil, or_false, Option.some.injEq, reduceCtorEq, false_or] at hv; rcases hv with rfl | rfl | rfl | rfl | rfl <;> first | exact (lS ((sC_0 hS))) | exact trivial) dX9_look_35 (fun v_35 S_35 F_35 A_35 hP_35 => ?_)
          obtain ⟨rfl, rfl, rfl, rfl⟩ := hP_35
          show ab_J E 5 0 0 S G B 38 [some (aR 0), some (aI sq), some (aI sh), some (aI s), some (aI b)] [aI (G 2 2), aI b]
          refine j_icmp_ge C (tgt := 67) dX9_look_38 (by decide) ⟨by omega, by omega⟩ ⟨by omega, by omega⟩ (fun c38 => ?_) (fun c38 => ?_)
          · refine j_iload_n C dX9_look_67 rfl rfl ?_
            exact j_iret C hr (Nat.le_refl _) (Nat.le_refl _) dX9_look_68 ⟨rfl, by rw [hs, show b = F 2 2 by omega], fun b' q1 q2 => hC1 b' q1 (by omega), hGo, hO⟩
          · refine j_iload_n C dX9_look_41 rfl rfl ?_
            refine j_aload_n C dX9_look_42 rfl rfl ?_
            refine j_getR C (j := 2) fl_X9_19 ((sC_0 hS)) rfl dX9_look_43 ?_
            refine j_iload C dX9_look_46 rfl ?_
            obtain ⟨c2_48, he2_48, hc2_48⟩ := hB3 (by omega)
            refine j_callV C (vs := [aI b]) (st := [aI s]) cl_X9_142 im_yJx4a65c_get_915e3 se_yJx4a65c_get_915e3 (fun _ => (t_get _ S G B _ _ _ (200 + (b).toNat) _ _ (hl2) he2_48 (by show 0 ≤ b ∧ b < G 2 2; omega) (by show G 2 2 ≤ 10; omega) (by decide) (hc2_48 _ (by omega)))) (hl2) rfl rfl rfl ⟨rfl, rfl, by decide, by decide⟩ ⟨by decide, by decide⟩ (fun _ => Nat.le_of_ble_eq_true rfl) (fun v hv => by simp only [List.mem_cons, List.not_mem_nil, or_false] at hv; rcases hv with rfl <;> first | exact trivial) (fun v hv => by simp only [List.mem_cons, List.not_mem_nil, or_false, Option.some.injEq, reduceCtorEq, false_or] at hv; rcases hv with rfl | rfl | rfl | rfl | rfl <;> first | exact (lS ((sC_0 hS))) | exact trivial) dX9_look_48 (fun v_48 S_48 F_48 A_48 hP_48 => ?_)
            obtain ⟨rfl, rfl, rfl, rfl⟩ := hP_48
            show ab_J E 5 0 0 S G B 51 [some (aR 0), some (aI sq), some (aI sh), some (aI s), some (aI b)] [aR (200 + (b).toNat), aI s]
            refine j_cast C ((hB1 ((b).toNat) (by omega)).1) rfl (ab_t2 (List.mem_of_getElem? (i := 51) rfl) rfl) dX9_look_51 ?_
            refine j_iload_n C dX9_look_54 rfl rfl ?_
            refine j_iload_n C dX9_look_55 rfl rfl ?_
            refine j_callV C (vs := [aI sq, aI sh]) (st := [aI s]) cl_X9_158 im_yX0_lower se_yX0_lower (fun _ => (c_lower _ S G B hS ((b).toNat) (by omega) ((hB1 ((b).toNat) (by omega)).1) ((hB1 ((b).toNat) (by omega)).2) _ _ h1 h2 _ (hC2 b (by omega) (by omega)) (hU b (by omega) (by omega)).2)) ((hB1 ((b).toNat) (by omega)).1) rfl rfl rfl ⟨rfl, rfl, by decide, by decide⟩ ⟨by decide, by decide⟩ (fun _ => Nat.le_of_ble_eq_true rfl) (fun v hv => by simp only [List.mem_cons, List.not_mem_nil, or_false] at hv; rcases hv with rfl <;> first | exact trivial) (fun v hv => by simp only [List.mem_cons, List.not_mem_nil, or_false, Option.some.injEq, reduceCtorEq, false_or] at hv; rcases hv with rfl | rfl | rfl | rfl | rfl <;> first | exact (lS ((sC_0 hS))) | exact trivial) dX9_look_56 (fun v_56 S_56 F_56 A_56 hP_56 => ?_)
            obtain ⟨rfl, rfl, hC56, hA56, hF56⟩ := hP_56
            show ab_J E 5 0 0 S F_56 A_56 59 [some (aR 0), some (aI sq), some (aI sh), some (aI s), some (aI b)] [aI (awy sq sh (U b)), aI s]
            refine j_iadd C dX9_look_59 ?_
            refine j_istore_n C (lv' := [some (aR 0), some (aI sq), some (aI sh), some (aI (s + (awy sq sh (U b)))), some (aI b)]) dX9_look_60 rfl (by decide) rfl ?_
            refine j_iinc C (lv' := [some (aR 0), some (aI sq), some (aI sh), some (aI (s + (awy sq sh (U b)))), some (aI (b + 1))]) dX9_look_61 rfl (by decide) rfl ?_
            refine j_goto C (tgt := 29) dX9_look_64 (by decide) ?_
            exact ih29 (s + (awy sq sh (U b))) (b + 1) F_56 A_56 (by omega) (fun i q => by rw [hF56 i (by omega)]; exact hGo i q) (by rw [hF56 2 (by omega)]; exact hG2) (fun i q => by rw [hA56 i (by omega)]; exact hO i q) (by rw [sm_step _ hb0.1, ← hs]) (fun b' q1 q2 => if q : b' = b then by rw [q]; exact hC56 else (hC1 b' q1 (by omega)).to (hF56 _ (by omega)) (hA56 _ (by omega))) (fun b' q1 q2 => (hC2 b' (by omega) q2).to (hF56 _ (by omega)) (hA56 _ (by omega))) (by omega)
      exact K29 _ 0 0 F A (by omega) (fun _ _ => rfl) rfl (fun _ _ => rfl) rfl (fun b' q1 q2 => by omega) (fun b' q1 q2 => (hU b' (by omega) q2).1) (Nat.lt_succ_self _)
    · exact absurd c11 (by omega)

set_option maxHeartbeats 4000000 in
set_option maxRecDepth 100000 in
theorem c_parts (l : Launch) (S : ab_St) (F : ab_Fn) (A : ab_An) (hS : ab_SC S) (b sq : Int) (h1 : 0 ≤ b ∧ b < F 2 2) (h2 : 0 ≤ sq ∧ sq ≤ 279) (hBg : BG S (F 2 2)) (hb : 0 ≤ F 2 2 ∧ F 2 2 ≤ 10) : ab_Met l yX9_parts cX9_parts 3 (some .int) { frames := 3, cells := 0, slots := 0, locals := 64 } 0 0 [aR 0, aI b, aI sq] S F A (fun v S' F' A' => S = S' ∧ F = F' ∧ A = A' ∧ v = some (aI (A (220 + b.toNat) sq))) := by
  refine ab_enter (by decide) (by simp [aI, aR, aX, ab_val, Value.category]) (Nat.le_of_ble_eq_true rfl) (fun E C hr => ?_)
  refine j_eq (lv' := [some (aR 0), some (aI b), some (aI sq)]) ?_
  have hB := hBg
  obtain ⟨hB1, eb, hl2, hB3, hB4, hB5⟩ := hB
  refine j_aload_n C dX9_parts_0 rfl rfl ?_
  refine j_iload_n C dX9_parts_1 rfl rfl ?_
  refine j_callV C (vs := [aI b]) (st := []) cl_X9_161 im_yX9_checkBerg se_yX9_checkBerg (fun _ => (c_checkBerg _ S F A hS hBg hb _ h1)) ((sC_0 hS)) rfl rfl rfl ⟨rfl, rfl, by decide, by decide⟩ ⟨by decide, by decide⟩ (fun _ => Nat.le_of_ble_eq_true rfl) (fun v hv => by cases hv) (fun v hv => by simp only [List.mem_cons, List.not_mem_nil, or_false, Option.some.injEq, reduceCtorEq, false_or] at hv; rcases hv with rfl | rfl | rfl <;> first | exact (lS ((sC_0 hS))) | exact trivial) dX9_parts_2 (fun v_2 S_2 F_2 A_2 hP_2 => ?_)
  obtain ⟨rfl, rfl, rfl, rfl⟩ := hP_2
  show ab_J E 3 0 0 S F A 5 [some (aR 0), some (aI b), some (aI sq)] []
  refine j_iload_n C dX9_parts_5 rfl rfl ?_
  refine j_callS C (vs := [aI sq]) (st := []) cl_X9_85 sc_yX9_checkSquare (fun _ => (c_checkSquare _ S F A hS _ h2)) rfl ⟨rfl, rfl, by decide, by decide⟩ ⟨by decide, by decide⟩ (fun _ => Nat.le_of_ble_eq_true rfl) (fun v hv => by cases hv) (fun v hv => by simp only [List.mem_cons, List.not_mem_nil, or_false, Option.some.injEq, reduceCtorEq, false_or] at hv; rcases hv with rfl | rfl | rfl <;> first | exact (lS ((sC_0 hS))) | exact trivial) dX9_parts_6 (fun v_6 S_6 F_6 A_6 hP_6 => ?_)
  obtain ⟨rfl, rfl, rfl, rfl⟩ := hP_6
  show ab_J E 3 0 0 S F A 9 [some (aR 0), some (aI b), some (aI sq)] []
  refine j_aload_n C dX9_parts_9 rfl rfl ?_
  refine j_getR C (j := 2) fl_X9_19 ((sC_0 hS)) rfl dX9_parts_10 ?_
  refine j_iload_n C dX9_parts_13 rfl rfl ?_
  obtain ⟨c2_14, he2_14, hc2_14⟩ := hB3 (by omega)
  refine j_callV C (vs := [aI b]) (st := []) cl_X9_142 im_yJx4a65c_get_915e3 se_yJx4a65c_get_915e3 (fun _ => (t_get _ S F A _ _ _ (200 + (b).toNat) _ _ (hl2) he2_14 (by show 0 ≤ b ∧ b < F 2 2; omega) (by show F 2 2 ≤ 10; omega) (by decide) (hc2_14 _ (by omega)))) (hl2) rfl rfl rfl ⟨rfl, rfl, by decide, by decide⟩ ⟨by decide, by decide⟩ (fun _ => Nat.le_of_ble_eq_true rfl) (fun v hv => by cases hv) (fun v hv => by simp only [List.mem_cons, List.not_mem_nil, or_false, Option.some.injEq, reduceCtorEq, false_or] at hv; rcases hv with rfl | rfl | rfl <;> first | exact (lS ((sC_0 hS))) | exact trivial) dX9_parts_14 (fun v_14 S_14 F_14 A_14 hP_14 => ?_)
  obtain ⟨rfl, rfl, rfl, rfl⟩ := hP_14
  show ab_J E 3 0 0 S F A 17 [some (aR 0), some (aI b), some (aI sq)] [aR (200 + (b).toNat)]
  refine j_cast C ((hB1 ((b).toNat) (by omega)).1) rfl (ab_t2 (List.mem_of_getElem? (i := 51) rfl) rfl) dX9_parts_17 ?_
  refine j_getR C (j := (220 + (b).toNat)) fl_X9_164 ((hB1 ((b).toNat) (by omega)).1) rfl dX9_parts_20 ?_
  refine j_iload_n C dX9_parts_23 rfl rfl ?_
  refine j_iald C ((hB1 ((b).toNat) (by omega)).2) (by omega) (by omega) (by decide) dX9_parts_24 ?_
  exact j_iret C hr (Nat.le_refl _) (Nat.le_refl _) dX9_parts_25 ⟨rfl, rfl, rfl, rfl⟩

set_option maxHeartbeats 4000000 in
set_option maxRecDepth 100000 in
theorem c_berg (l : Launch) (S : ab_St) (F : ab_Fn) (A : ab_An) (hS : ab_SC S) (b w : Int) (h1 : 0 ≤ b ∧ b < F 2 2) (h2 : 0 ≤ w ∧ w ≤ 5) (hBg : BG S (F 2 2)) (hb : 0 ≤ F 2 2 ∧ F 2 2 ≤ 10) (hp : ∀ k, 0 ≤ k → k < 280 → inR (A (220 + b.toNat) k)) (hg : F (200 + b.toNat) 4 = 0 ∨ F (200 + b.toNat) 4 = 1) : ab_Met l yX9_berg cX9_berg 4 (some .int) { frames := 3, cells := 0, slots := 0, locals := 64 } 0 0 [aR 0, aI b, aI w] S F A (fun v S' F' A' => S = S' ∧ F = F' ∧ A = A' ∧ ∃ r : Int, v = some (aI r) ∧ ((w = 0 ∧ r = F (200 + b.toNat) 1) ∨ (w = 1 ∧ r = F (200 + b.toNat) 2) ∨ (w = 2 ∧ r = F (200 + b.toNat) 4) ∨ (w = 3 ∧ r = sm (fun x => if 0 < A (220 + b.toNat) x then 1 else 0) 280) ∨ (w = 4 ∧ r = sm (A (220 + b.toNat)) 280) ∨ (w = 5 ∧ r = F (200 + b.toNat) 3))) := by
  refine ab_enter (by decide) (by simp [aI, aR, aX, ab_val, Value.category]) (Nat.le_of_ble_eq_true rfl) (fun E C hr => ?_)
  refine j_eq (lv' := [some (aR 0), some (aI b), some (aI w), none]) ?_
  have hB := hBg
  obtain ⟨hB1, eb, hl2, hB3, hB4, hB5⟩ := hB
  refine j_aload_n C dX9_berg_0 rfl rfl ?_
  refine j_iload_n C dX9_berg_1 rfl rfl ?_
  refine j_callV C (vs := [aI b]) (st := []) cl_X9_161 im_yX9_checkBerg se_yX9_checkBerg (fun _ => (c_checkBerg _ S F A hS hBg hb _ h1)) ((sC_0 hS)) rfl rfl rfl ⟨rfl, rfl, by decide, by decide⟩ ⟨by decide, by decide⟩ (fun _ => Nat.le_of_ble_eq_true rfl) (fun v hv => by cases hv) (fun v hv => by simp only [List.mem_cons, List.not_mem_nil, or_false, Option.some.injEq, reduceCtorEq, false_or] at hv; rcases hv with rfl | rfl | rfl <;> first | exact (lS ((sC_0 hS))) | exact trivial) dX9_berg_2 (fun v_2 S_2 F_2 A_2 hP_2 => ?_)
  obtain ⟨rfl, rfl, rfl, rfl⟩ := hP_2
  show ab_J E 4 0 0 S F A 5 [some (aR 0), some (aI b), some (aI w), none] []
  refine j_aload_n C dX9_berg_5 rfl rfl ?_
  refine j_getR C (j := 2) fl_X9_19 ((sC_0 hS)) rfl dX9_berg_6 ?_
  refine j_iload_n C dX9_berg_9 rfl rfl ?_
  obtain ⟨c2_10, he2_10, hc2_10⟩ := hB3 (by omega)
  refine j_callV C (vs := [aI b]) (st := []) cl_X9_142 im_yJx4a65c_get_915e3 se_yJx4a65c_get_915e3 (fun _ => (t_get _ S F A _ _ _ (200 + (b).toNat) _ _ (hl2) he2_10 (by show 0 ≤ b ∧ b < F 2 2; omega) (by show F 2 2 ≤ 10; omega) (by decide) (hc2_10 _ (by omega)))) (hl2) rfl rfl rfl ⟨rfl, rfl, by decide, by decide⟩ ⟨by decide, by decide⟩ (fun _ => Nat.le_of_ble_eq_true rfl) (fun v hv => by cases hv) (fun v hv => by simp only [List.mem_cons, List.not_mem_nil, or_false, Option.some.injEq, reduceCtorEq, false_or] at hv; rcases hv with rfl | rfl | rfl <;> first | exact (lS ((sC_0 hS))) | exact trivial) dX9_berg_10 (fun v_10 S_10 F_10 A_10 hP_10 => ?_)
  obtain ⟨rfl, rfl, rfl, rfl⟩ := hP_10
  show ab_J E 4 0 0 S F A 13 [some (aR 0), some (aI b), some (aI w), none] [aR (200 + (b).toNat)]
  refine j_cast C ((hB1 ((b).toNat) (by omega)).1) rfl (ab_t2 (List.mem_of_getElem? (i := 51) rfl) rfl) dX9_berg_13 ?_
  refine j_astore_n C (lv' := [some (aR 0), some (aI b), some (aI w), some (aR (200 + (b).toNat))]) dX9_berg_16 rfl (by decide) rfl ?_
  refine j_iload_n C dX9_berg_17 rfl rfl ?_
  rcases (show w < 0 ∨ 5 < w ∨ w = 0 ∨ w = 1 ∨ w = 2 ∨ w = 3 ∨ w = 4 ∨ w = 5 by omega) with c18 | c18 | c18 | c18 | c18 | c18 | c18 | c18
  · refine j_tableOut C (tgt := 97) dX9_berg_18 ⟨by omega, by omega⟩ (Or.inl c18) (by decide) ?_
    exfalso; omega
  · refine j_tableOut C (tgt := 97) dX9_berg_18 ⟨by omega, by omega⟩ (Or.inr c18) (by decide) ?_
    exfalso; omega
  · refine j_tableIn C (tgt := 56) 0 dX9_berg_18 c18 ⟨by omega, by omega⟩ (by decide) (by decide) rfl (by decide) ?_
    refine j_aload_n C dX9_berg_56 rfl rfl ?_
    refine j_get C (aI (F (200 + (b).toNat) 1)) fl_X9_167 ((hB1 ((b).toNat) (by omega)).1) (fun _ => rfl) dX9_berg_57 ?_
    exact j_iret C hr (Nat.le_refl _) (Nat.le_refl _) dX9_berg_60 ⟨rfl, rfl, rfl, _, rfl, Or.inl ⟨by omega, rfl⟩⟩
  · refine j_tableIn C (tgt := 61) 1 dX9_berg_18 c18 ⟨by omega, by omega⟩ (by decide) (by decide) rfl (by decide) ?_
    refine j_aload_n C dX9_berg_61 rfl rfl ?_
    refine j_get C (aI (F (200 + (b).toNat) 2)) fl_X9_169 ((hB1 ((b).toNat) (by omega)).1) (fun _ => rfl) dX9_berg_62 ?_
    exact j_iret C hr (Nat.le_refl _) (Nat.le_refl _) dX9_berg_65 ⟨rfl, rfl, rfl, _, rfl, Or.inr (Or.inl ⟨by omega, rfl⟩)⟩
  · refine j_tableIn C (tgt := 66) 2 dX9_berg_18 c18 ⟨by omega, by omega⟩ (by decide) (by decide) rfl (by decide) ?_
    refine j_aload_n C dX9_berg_66 rfl rfl ?_
    refine j_get C (aI (F (200 + (b).toNat) 4)) fl_X9_172 ((hB1 ((b).toNat) (by omega)).1) (fun _ => rfl) dX9_berg_67 ?_
    refine j_if_eq C (tgt := 77) dX9_berg_70 (by decide) ⟨by omega, by omega⟩ (fun c70 => ?_) (fun c70 => ?_)
    · refine j_iconst C dX9_berg_77 ?_
      exact j_iret C hr (Nat.le_refl _) (Nat.le_refl _) dX9_berg_78 ⟨rfl, rfl, rfl, _, rfl, Or.inr (Or.inr (Or.inl ⟨by omega, by omega⟩))⟩
    · refine j_iconst C dX9_berg_73 ?_
      refine j_goto C (tgt := 78) dX9_berg_74 (by decide) ?_
      exact j_iret C hr (Nat.le_refl _) (Nat.le_refl _) dX9_berg_78 ⟨rfl, rfl, rfl, _, rfl, Or.inr (Or.inr (Or.inl ⟨by omega, by omega⟩))⟩
  · refine j_tableIn C (tgt := 79) 3 dX9_berg_18 c18 ⟨by omega, by omega⟩ (by decide) (by decide) rfl (by decide) ?_
    refine j_aload_n C dX9_berg_79 rfl rfl ?_
    refine j_getR C (j := (220 + (b).toNat)) fl_X9_164 ((hB1 ((b).toNat) (by omega)).1) rfl dX9_berg_80 ?_
    refine j_callS C (vs := [aR (220 + (b).toNat)]) (st := []) cl_X9_176 sc_yX9_squaresAboveZero (fun _ => (c_squares _ S F A hS _ ((hB1 ((b).toNat) (by omega)).2) hp)) rfl ⟨rfl, rfl, by decide, by decide⟩ ⟨by decide, by decide⟩ (fun _ => Nat.le_of_ble_eq_true rfl) (fun v hv => by cases hv) (fun v hv => by simp only [List.mem_cons, List.not_mem_nil, or_false, Option.some.injEq, reduceCtorEq, false_or] at hv; rcases hv with rfl | rfl | rfl | rfl <;> first | exact (lS ((hB1 ((b).toNat) (by omega)).1)) | exact (lS ((sC_0 hS))) | exact trivial) dX9_berg_83 (fun v_83 S_83 F_83 A_83 hP_83 => ?_)
    obtain ⟨rfl, rfl, rfl, rfl⟩ := hP_83
    show ab_J E 4 0 0 S F A 86 [some (aR 0), some (aI b), some (aI w), some (aR (200 + (b).toNat))] [aI (sm (fun x => if 0 < A (220 + (b).toNat) x then 1 else 0) 280)]
    exact j_iret C hr (Nat.le_refl _) (Nat.le_refl _) dX9_berg_86 ⟨rfl, rfl, rfl, _, rfl, Or.inr (Or.inr (Or.inr (Or.inl ⟨by omega, rfl⟩)))⟩
  · refine j_tableIn C (tgt := 87) 4 dX9_berg_18 c18 ⟨by omega, by omega⟩ (by decide) (by decide) rfl (by decide) ?_
    refine j_aload_n C dX9_berg_87 rfl rfl ?_
    refine j_callV C (vs := []) (st := []) cl_X9_180 im_yX0_allParts se_yX0_allParts (fun _ => (c_allParts _ S F A hS ((b).toNat) (by omega) ((hB1 ((b).toNat) (by omega)).1) ((hB1 ((b).toNat) (by omega)).2))) ((hB1 ((b).toNat) (by omega)).1) rfl rfl rfl ⟨rfl, rfl, by decide, by decide⟩ ⟨by decide, by decide⟩ (fun _ => Nat.le_of_ble_eq_true rfl) (fun v hv => by cases hv) (fun v hv => by simp only [List.mem_cons, List.not_mem_nil, or_false, Option.some.injEq, reduceCtorEq, false_or] at hv; rcases hv with rfl | rfl | rfl | rfl <;> first | exact (lS ((hB1 ((b).toNat) (by omega)).1)) | exact (lS ((sC_0 hS))) | exact trivial) dX9_berg_88 (fun v_88 S_88 F_88 A_88 hP_88 => ?_)
    obtain ⟨rfl, rfl, rfl, rfl⟩ := hP_88
    show ab_J E 4 0 0 S F A 91 [some (aR 0), some (aI b), some (aI w), some (aR (200 + (b).toNat))] [aI (sm (A (220 + ((b).toNat))) 280)]
    exact j_iret C hr (Nat.le_refl _) (Nat.le_refl _) dX9_berg_91 ⟨rfl, rfl, rfl, _, rfl, Or.inr (Or.inr (Or.inr (Or.inr (Or.inl ⟨by omega, rfl⟩))))⟩
  · refine j_tableIn C (tgt := 92) 5 dX9_berg_18 c18 ⟨by omega, by omega⟩ (by decide) (by decide) rfl (by decide) ?_
    refine j_aload_n C dX9_berg_92 rfl rfl ?_
    refine j_get C (aI (F (200 + (b).toNat) 3)) fl_X9_183 ((hB1 ((b).toNat) (by omega)).1) (fun _ => rfl) dX9_berg_93 ?_
    exact j_iret C hr (Nat.le_refl _) (Nat.le_refl _) dX9_berg_96 ⟨rfl, rfl, rfl, _, rfl, Or.inr (Or.inr (Or.inr (Or.inr (Or.inr (⟨by omega, rfl⟩)))))⟩

set_option maxHeartbeats 4000000 in
set_option maxRecDepth 100000 in
theorem c_holdsAt (l : Launch) (S : ab_St) (F : ab_Fn) (A : ab_An) (hS : ab_SC S) (w : Nat) (nc : Nat → Nat) (hwO : S (300 + w) = some (sC 9 (slW (350 + w) (400 + w) (450 + w)))) (st : Int) (rst : inR st) (hv : inR (F (300 + w) 2) ∧ (F (300 + w) 4 = 0 ∨ F (300 + w) 4 = 1) ∧ inR (F (300 + w) 5)) : ab_Met l yX8_holdsAt cX8_holdsAt 2 (some .boolean) { frames := 0, cells := 0, slots := 0, locals := 0 } 0 0 [aR (300 + w), aI st] S F A (fun v S' F' A' => S = S' ∧ F = F' ∧ A = A' ∧ ∃ z : Int, v = some (aI z) ∧ zb z (F (300 + w) 2 ≤ st ∧ (F (300 + w) 4 = 0 ∨ st < F (300 + w) 5))) := by
  refine ab_enter (by decide) (by simp [aI, aR, aX, ab_val, Value.category]) (Nat.le_of_ble_eq_true rfl) (fun E C hr => ?_)
  refine j_eq (lv' := [some (aR (300 + w)), some (aI st)]) ?_
  refine j_iload_n C dX8_holdsAt_0 rfl rfl ?_
  refine j_aload_n C dX8_holdsAt_1 rfl rfl ?_
  refine j_get C (aI (F (300 + w) 2)) fl_X8_41 (hwO) (fun _ => rfl) dX8_holdsAt_2 ?_
  refine j_icmp_lt C (tgt := 27) dX8_holdsAt_5 (by decide) rst hv.1 (fun c5 => ?_) (fun c5 => ?_)
  · refine j_iconst C dX8_holdsAt_27 ?_
    exact j_zret C hr (ab_nz01 (by omega)) (Nat.le_refl _) (Nat.le_refl _) dX8_holdsAt_28 ⟨rfl, rfl, rfl, _, rfl, by unfold zb; omega⟩
  · refine j_aload_n C dX8_holdsAt_8 rfl rfl ?_
    refine j_get C (aI (F (300 + w) 4)) fl_X8_47 (hwO) (fun _ => rfl) dX8_holdsAt_9 ?_
    refine j_if_eq C (tgt := 23) dX8_holdsAt_12 (by decide) (by rcases hv.2.1 with q | q <;> rw [q] <;> exact ⟨by decide, by decide⟩) (fun c12 => ?_) (fun c12 => ?_)
    · refine j_iconst C dX8_holdsAt_23 ?_
      refine j_goto C (tgt := 28) dX8_holdsAt_24 (by decide) ?_
      exact j_zret C hr (ab_nz01 (by omega)) (Nat.le_refl _) (Nat.le_refl _) dX8_holdsAt_28 ⟨rfl, rfl, rfl, _, rfl, by unfold zb; omega⟩
    · refine j_iload_n C dX8_holdsAt_15 rfl rfl ?_
      refine j_aload_n C dX8_holdsAt_16 rfl rfl ?_
      refine j_get C (aI (F (300 + w) 5)) fl_X8_51 (hwO) (fun _ => rfl) dX8_holdsAt_17 ?_
      refine j_icmp_ge C (tgt := 27) dX8_holdsAt_20 (by decide) rst hv.2.2 (fun c20 => ?_) (fun c20 => ?_)
      · refine j_iconst C dX8_holdsAt_27 ?_
        exact j_zret C hr (ab_nz01 (by omega)) (Nat.le_refl _) (Nat.le_refl _) dX8_holdsAt_28 ⟨rfl, rfl, rfl, _, rfl, by unfold zb; omega⟩
      · refine j_iconst C dX8_holdsAt_23 ?_
        refine j_goto C (tgt := 28) dX8_holdsAt_24 (by decide) ?_
        exact j_zret C hr (ab_nz01 (by omega)) (Nat.le_refl _) (Nat.le_refl _) dX8_holdsAt_28 ⟨rfl, rfl, rfl, _, rfl, by unfold zb; omega⟩

set_option maxHeartbeats 4000000 in
set_option maxRecDepth 100000 in
theorem c_holding (l : Launch) (S : ab_St) (F : ab_Fn) (A : ab_An) (hS : ab_SC S) (nc : Nat → Nat) (hWg : WG S nc (F 3 2)) (hw9 : 0 ≤ F 3 2 ∧ F 3 2 ≤ 40) (hv : ∀ w, 0 ≤ w → w < F 3 2 → inR (F (300 + w.toNat) 2) ∧ (F (300 + w.toNat) 4 = 0 ∨ F (300 + w.toNat) 4 = 1) ∧ inR (F (300 + w.toNat) 5)) (rn : inR (F 0 10)) : ab_Met l yX9_warningsHolding cX9_warningsHolding 3 (some .int) { frames := 3, cells := 0, slots := 0, locals := 64 } 0 0 [aR 0] S F A (fun v S' F' A' => S = S' ∧ F = F' ∧ A = A' ∧ v = some (aI (sm (fun x => if (F (300 + x.toNat) 2 ≤ F 0 10 ∧ (F (300 + x.toNat) 4 = 0 ∨ F 0 10 < F (300 + x.toNat) 5)) then 1 else 0) (F 3 2).toNat))) := by
  refine ab_enter (by decide) (by simp [aI, aR, aX, ab_val, Value.category]) (Nat.le_of_ble_eq_true rfl) (fun E C hr => ?_)
  refine j_eq (lv' := [some (aR 0), none, none]) ?_
  obtain ⟨hW1, ew, Nw, hl3, hN3, hW3, hW4, hW5⟩ := hWg
  refine j_iconst C dX9_warningsHolding_0 ?_
  refine j_istore_n C (lv' := [some (aR 0), some (aI 0), none]) dX9_warningsHolding_1 rfl (by decide) rfl ?_
  refine j_iconst C dX9_warningsHolding_2 ?_
  refine j_istore_n C (lv' := [some (aR 0), some (aI 0), some (aI 0)]) dX9_warningsHolding_3 rfl (by decide) rfl ?_
  have K4 : ∀ (N : Nat) (m b : Int), (0 ≤ b ∧ b ≤ F 3 2) → (m = sm (fun x => if (F (300 + x.toNat) 2 ≤ F 0 10 ∧ (F (300 + x.toNat) 4 = 0 ∨ F 0 10 < F (300 + x.toNat) 5)) then 1 else 0) b.toNat) → ((F 3 2 - b).toNat) < N → ab_J E 3 0 0 S F A 4 [some (aR 0), some (aI m), some (aI b)] [] := by
    intro N
    induction N with
    | zero => intro m b hb0 hm0 hm; exact absurd hm (Nat.not_lt_zero _)
    | succ N ih =>
      have ih4 := ih
      clear ih
      intro m b hb0 hm0 hm4
      refine j_iload_n C dX9_warningsHolding_4 rfl rfl ?_
      refine j_aload_n C dX9_warningsHolding_5 rfl rfl ?_
      refine j_getR C (j := 3) fl_X9_23 ((sC_0 hS)) rfl dX9_warningsHolding_6 ?_
      refine j_callV C (vs := []) (st := [aI b]) cl_X9_126 im_yJx4a65c_size_8abf5 se_yJx4a65c_size_8abf5 (fun _ => (t_size _ S F A _ _ (hl3))) (hl3) rfl rfl rfl ⟨rfl, rfl, by decide, by decide⟩ ⟨by decide, by decide⟩ (fun _ => Nat.le_of_ble_eq_true rfl) (fun v hv => by simp only [List.mem_cons, List.not_mem_nil, or_false] at hv; rcases hv with rfl <;> first | exact trivial) (fun v hv => by simp only [List.mem_cons, List.not_mem_nil, or_false, Option.some.injEq, reduceCtorEq, false_or] at hv; rcases hv with rfl | rfl | rfl <;> first | exact (lS ((sC_0 hS))) | exact trivial) dX9_warningsHolding_9 (fun v_9 S_9 F_9 A_9 hP_9 => ?_)
      obtain ⟨rfl, rfl, rfl, rfl⟩ := hP_9
      show ab_J E 3 0 0 S F A 12 [some (aR 0), some (aI m), some (aI b)] [aI (F 3 2), aI b]
      refine j_icmp_ge C (tgt := 45) dX9_warningsHolding_12 (by decide) ⟨by omega, by omega⟩ ⟨by omega, by omega⟩ (fun c12 => ?_) (fun c12 => ?_)
      · refine j_iload_n C dX9_warningsHolding_45 rfl rfl ?_
        exact j_iret C hr (Nat.le_refl _) (Nat.le_refl _) dX9_warningsHolding_46 ⟨rfl, rfl, rfl, by rw [hm0, show b = F 3 2 by omega]⟩
      · refine j_aload_n C dX9_warningsHolding_15 rfl rfl ?_
        refine j_getR C (j := 3) fl_X9_23 ((sC_0 hS)) rfl dX9_warningsHolding_16 ?_
        refine j_iload_n C dX9_warningsHolding_19 rfl rfl ?_
        obtain ⟨c3_20, he3_20, hc3_20⟩ := hW3 (by omega)
        refine j_callV C (vs := [aI b]) (st := []) cl_X9_142 im_yJx4a65c_get_915e3 se_yJx4a65c_get_915e3 (fun _ => (t_get _ S F A _ _ _ (300 + (b).toNat) _ _ (hl3) he3_20 (by show 0 ≤ b ∧ b < F 3 2; omega) (by show F 3 2 ≤ _; omega) (by omega) (hc3_20 _ (by omega)))) (hl3) rfl rfl rfl ⟨rfl, rfl, by decide, by decide⟩ ⟨by decide, by decide⟩ (fun _ => Nat.le_of_ble_eq_true rfl) (fun v hv => by cases hv) (fun v hv => by simp only [List.mem_cons, List.not_mem_nil, or_false, Option.some.injEq, reduceCtorEq, false_or] at hv; rcases hv with rfl | rfl | rfl <;> first | exact (lS ((sC_0 hS))) | exact trivial) dX9_warningsHolding_20 (fun v_20 S_20 F_20 A_20 hP_20 => ?_)
        obtain ⟨rfl, rfl, rfl, rfl⟩ := hP_20
        show ab_J E 3 0 0 S F A 23 [some (aR 0), some (aI m), some (aI b)] [aR (300 + (b).toNat)]
        refine j_cast C ((hW1 ((b).toNat) (by omega)).1) rfl (ab_t2 (List.mem_of_getElem? (i := 99) rfl) rfl) dX9_warningsHolding_23 ?_
        refine j_aload_n C dX9_warningsHolding_26 rfl rfl ?_
        refine j_get C (aI (F 0 10)) fl_X9_66 ((sC_0 hS)) (fun _ => rfl) dX9_warningsHolding_27 ?_
        refine j_callV C (vs := [aI (F 0 10)]) (st := []) cl_X9_234 im_yX8_holdsAt se_yX8_holdsAt (fun _ => (c_holdsAt _ S F A hS ((b).toNat) nc ((hW1 ((b).toNat) (by omega)).1) _ rn (hv _ (by omega) (by omega)))) ((hW1 ((b).toNat) (by omega)).1) rfl rfl rfl ⟨rfl, rfl, by decide, by decide⟩ ⟨by decide, by decide⟩ (fun _ => Nat.le_of_ble_eq_true rfl) (fun v hv => by cases hv) (fun v hv => by simp only [List.mem_cons, List.not_mem_nil, or_false, Option.some.injEq, reduceCtorEq, false_or] at hv; rcases hv with rfl | rfl | rfl <;> first | exact (lS ((sC_0 hS))) | exact trivial) dX9_warningsHolding_30 (fun v_30 S_30 F_30 A_30 hP_30 => ?_)
        obtain ⟨rfl, rfl, rfl, z_30, rfl, ⟨rfl, hz_30⟩ | ⟨rfl, hz_30⟩⟩ := hP_30
        · have hz_30 : F (300 + (b).toNat) 2 ≤ F 0 10 ∧ (F (300 + (b).toNat) 4 = 0 ∨ F 0 10 < F (300 + (b).toNat) 5) := hz_30
          show ab_J E 3 0 0 S F A 33 [some (aR 0), some (aI m), some (aI b)] [aI 1]
          refine j_if_eq C (tgt := 39) dX9_warningsHolding_33 (by decide) ⟨by omega, by omega⟩ (fun c33 => ?_) (fun c33 => ?_)
          · exact absurd c33 (by decide)
          · refine j_iinc C (lv' := [some (aR 0), some (aI (m + 1)), some (aI b)]) dX9_warningsHolding_36 rfl (by decide) rfl ?_
            refine j_iinc C (lv' := [some (aR 0), some (aI (m + 1)), some (aI (b + 1))]) dX9_warningsHolding_39 rfl (by decide) rfl ?_
            refine j_goto C (tgt := 4) dX9_warningsHolding_42 (by decide) ?_
            exact ih4 (m + 1) (b + 1) (by omega) (by rw [sm_step _ hb0.1, ← hm0]; first | (rw [if_pos hz_30]) | (rw [if_neg hz_30]; omega)) (by omega)
        · have hz_30 : ¬ (F (300 + (b).toNat) 2 ≤ F 0 10 ∧ (F (300 + (b).toNat) 4 = 0 ∨ F 0 10 < F (300 + (b).toNat) 5)) := hz_30
          show ab_J E 3 0 0 S F A 33 [some (aR 0), some (aI m), some (aI b)] [aI 0]
          refine j_if_eq C (tgt := 39) dX9_warningsHolding_33 (by decide) ⟨by omega, by omega⟩ (fun c33 => ?_) (fun c33 => ?_)
          · refine j_iinc C (lv' := [some (aR 0), some (aI m), some (aI (b + 1))]) dX9_warningsHolding_39 rfl (by decide) rfl ?_
            refine j_goto C (tgt := 4) dX9_warningsHolding_42 (by decide) ?_
            exact ih4 m (b + 1) (by omega) (by rw [sm_step _ hb0.1, ← hm0]; first | (rw [if_pos hz_30]) | (rw [if_neg hz_30]; omega)) (by omega)
          · exact absurd c33 (by decide)
  exact K4 _ 0 0 (by omega) rfl (Nat.lt_succ_self _)

set_option maxHeartbeats 4000000 in
set_option maxRecDepth 100000 in
theorem c_count (l : Launch) (S : ab_St) (F : ab_Fn) (A : ab_An) (hS : ab_SC S) (w : Int) (rw1 : inR w) (hBg : BG S (F 2 2)) (hb : 0 ≤ F 2 2 ∧ F 2 2 ≤ 10) (hg : ∀ b, 0 ≤ b → b < F 2 2 → F (200 + b.toNat) 4 = 0 ∨ F (200 + b.toNat) 4 = 1) (hp : ∀ b k, 0 ≤ b → b < F 2 2 → 0 ≤ k → k < 280 → 0 ≤ A (220 + b.toNat) k ∧ A (220 + b.toNat) k ≤ 1000000) (nc : Nat → Nat) (hWg : WG S nc (F 3 2)) (hw9 : 0 ≤ F 3 2 ∧ F 3 2 ≤ 40) (hv : ∀ w, 0 ≤ w → w < F 3 2 → inR (F (300 + w.toNat) 2) ∧ (F (300 + w.toNat) 4 = 0 ∨ F (300 + w.toNat) 4 = 1) ∧ inR (F (300 + w.toNat) 5)) (rn : inR (F 0 10)) : ab_Met l yX9_count cX9_count 2 (some .int) { frames := 4, cells := 0, slots := 0, locals := 87 } 0 0 [aR 0, aI w] S F A (fun v S' F' A' => S = S' ∧ F = F' ∧ (∀ i, i ≠ 27 → A' i = A i) ∧ ∃ r : Int, v = some (aI r) ∧ ((w = 0 ∧ r = F 0 10) ∨ (w = 1 ∧ r = F 2 2) ∨ (w = 2 ∧ r = sm (fun x => if F (200 + x.toNat) 4 = 0 then 1 else 0) (F 2 2).toNat) ∨ (w = 3 ∧ r = F 3 2) ∨ (w = 4 ∧ r = sm (fun x => if (F (300 + x.toNat) 2 ≤ F 0 10 ∧ (F (300 + x.toNat) 4 = 0 ∨ F 0 10 < F (300 + x.toNat) 5)) then 1 else 0) (F 3 2).toNat) ∨ (w = 5 ∧ r = sm (fun x => if 0 < sm (fun bb => A (220 + bb.toNat) x) (F 2 2).toNat then 1 else 0) 280) ∨ (w = 6 ∧ r = F 4 1) ∨ (w = 7 ∧ r = F 0 11) ∨ (¬ (0 ≤ w ∧ w ≤ 7) ∧ r = -1))) := by
  refine ab_enter (by decide) (by simp [aI, aR, aX, ab_val, Value.category]) (Nat.le_of_ble_eq_true rfl) (fun E C hr => ?_)
  refine j_eq (lv' := [some (aR 0), some (aI w)]) ?_
  have hB := hBg
  obtain ⟨hB1, eb, hl2, hB3, hB4, hB5⟩ := hB
  have hWg2 := hWg
  obtain ⟨hW1, ew, Nw, hl3, hN3, hW3, hW4, hW5⟩ := hWg
  refine j_iload_n C dX9_count_0 rfl rfl ?_
  rcases (show w < 0 ∨ 7 < w ∨ w = 0 ∨ w = 1 ∨ w = 2 ∨ w = 3 ∨ w = 4 ∨ w = 5 ∨ w = 6 ∨ w = 7 by omega) with c1 | c1 | c1 | c1 | c1 | c1 | c1 | c1 | c1 | c1
  · refine j_tableOut C (tgt := 104) dX9_count_1 rw1 (Or.inl c1) (by decide) ?_
    refine j_iconst C dX9_count_104 ?_
    exact j_iret C hr (Nat.le_refl _) (Nat.le_refl _) dX9_count_105 ⟨rfl, rfl, fun _ _ => rfl, _, rfl, Or.inr (Or.inr (Or.inr (Or.inr (Or.inr (Or.inr (Or.inr (Or.inr (⟨by omega, rfl⟩))))))))⟩
  · refine j_tableOut C (tgt := 104) dX9_count_1 rw1 (Or.inr c1) (by decide) ?_
    refine j_iconst C dX9_count_104 ?_
    exact j_iret C hr (Nat.le_refl _) (Nat.le_refl _) dX9_count_105 ⟨rfl, rfl, fun _ _ => rfl, _, rfl, Or.inr (Or.inr (Or.inr (Or.inr (Or.inr (Or.inr (Or.inr (Or.inr (⟨by omega, rfl⟩))))))))⟩
  · refine j_tableIn C (tgt := 48) 0 dX9_count_1 c1 ⟨by omega, by omega⟩ (by decide) (by decide) rfl (by decide) ?_
    refine j_aload_n C dX9_count_48 rfl rfl ?_
    refine j_get C (aI (F 0 10)) fl_X9_66 ((sC_0 hS)) (fun _ => rfl) dX9_count_49 ?_
    exact j_iret C hr (Nat.le_refl _) (Nat.le_refl _) dX9_count_52 ⟨rfl, rfl, fun _ _ => rfl, _, rfl, Or.inl ⟨by omega, rfl⟩⟩
  · refine j_tableIn C (tgt := 53) 1 dX9_count_1 c1 ⟨by omega, by omega⟩ (by decide) (by decide) rfl (by decide) ?_
    refine j_aload_n C dX9_count_53 rfl rfl ?_
    refine j_getR C (j := 2) fl_X9_19 ((sC_0 hS)) rfl dX9_count_54 ?_
    refine j_callV C (vs := []) (st := []) cl_X9_126 im_yJx4a65c_size_8abf5 se_yJx4a65c_size_8abf5 (fun _ => (t_size _ S F A _ _ (hl2))) (hl2) rfl rfl rfl ⟨rfl, rfl, by decide, by decide⟩ ⟨by decide, by decide⟩ (fun _ => Nat.le_of_ble_eq_true rfl) (fun v hv => by cases hv) (fun v hv => by simp only [List.mem_cons, List.not_mem_nil, or_false, Option.some.injEq, reduceCtorEq, false_or] at hv; rcases hv with rfl | rfl <;> first | exact (lS ((sC_0 hS))) | exact trivial) dX9_count_57 (fun v_57 S_57 F_57 A_57 hP_57 => ?_)
    obtain ⟨rfl, rfl, rfl, rfl⟩ := hP_57
    show ab_J E 2 0 0 S F A 60 [some (aR 0), some (aI w)] [aI (F 2 2)]
    exact j_iret C hr (Nat.le_refl _) (Nat.le_refl _) dX9_count_60 ⟨rfl, rfl, fun _ _ => rfl, _, rfl, Or.inr (Or.inl ⟨by omega, rfl⟩)⟩
  · refine j_tableIn C (tgt := 61) 2 dX9_count_1 c1 ⟨by omega, by omega⟩ (by decide) (by decide) rfl (by decide) ?_
    refine j_aload_n C dX9_count_61 rfl rfl ?_
    refine j_callV C (vs := []) (st := []) cl_X9_269 im_yX9_bergsLeft se_yX9_bergsLeft (fun _ => (c_bergsLeft _ S F A hS hBg hb hg)) ((sC_0 hS)) rfl rfl rfl ⟨rfl, rfl, by decide, by decide⟩ ⟨by decide, by decide⟩ (fun _ => Nat.le_of_ble_eq_true rfl) (fun v hv => by cases hv) (fun v hv => by simp only [List.mem_cons, List.not_mem_nil, or_false, Option.some.injEq, reduceCtorEq, false_or] at hv; rcases hv with rfl | rfl <;> first | exact (lS ((sC_0 hS))) | exact trivial) dX9_count_62 (fun v_62 S_62 F_62 A_62 hP_62 => ?_)
    obtain ⟨rfl, rfl, rfl, rfl⟩ := hP_62
    show ab_J E 2 0 0 S F A 65 [some (aR 0), some (aI w)] [aI (sm (fun x => if F (200 + x.toNat) 4 = 0 then 1 else 0) (F 2 2).toNat)]
    exact j_iret C hr (Nat.le_refl _) (Nat.le_refl _) dX9_count_65 ⟨rfl, rfl, fun _ _ => rfl, _, rfl, Or.inr (Or.inr (Or.inl ⟨by omega, rfl⟩))⟩
  · refine j_tableIn C (tgt := 66) 3 dX9_count_1 c1 ⟨by omega, by omega⟩ (by decide) (by decide) rfl (by decide) ?_
    refine j_aload_n C dX9_count_66 rfl rfl ?_
    refine j_getR C (j := 3) fl_X9_23 ((sC_0 hS)) rfl dX9_count_67 ?_
    refine j_callV C (vs := []) (st := []) cl_X9_126 im_yJx4a65c_size_8abf5 se_yJx4a65c_size_8abf5 (fun _ => (t_size _ S F A _ _ (hl3))) (hl3) rfl rfl rfl ⟨rfl, rfl, by decide, by decide⟩ ⟨by decide, by decide⟩ (fun _ => Nat.le_of_ble_eq_true rfl) (fun v hv => by cases hv) (fun v hv => by simp only [List.mem_cons, List.not_mem_nil, or_false, Option.some.injEq, reduceCtorEq, false_or] at hv; rcases hv with rfl | rfl <;> first | exact (lS ((sC_0 hS))) | exact trivial) dX9_count_70 (fun v_70 S_70 F_70 A_70 hP_70 => ?_)
    obtain ⟨rfl, rfl, rfl, rfl⟩ := hP_70
    show ab_J E 2 0 0 S F A 73 [some (aR 0), some (aI w)] [aI (F 3 2)]
    exact j_iret C hr (Nat.le_refl _) (Nat.le_refl _) dX9_count_73 ⟨rfl, rfl, fun _ _ => rfl, _, rfl, Or.inr (Or.inr (Or.inr (Or.inl ⟨by omega, rfl⟩)))⟩
  · refine j_tableIn C (tgt := 74) 4 dX9_count_1 c1 ⟨by omega, by omega⟩ (by decide) (by decide) rfl (by decide) ?_
    refine j_aload_n C dX9_count_74 rfl rfl ?_
    refine j_callV C (vs := []) (st := []) cl_X9_272 im_yX9_warningsHolding se_yX9_warningsHolding (fun _ => (c_holding _ S F A hS nc hWg2 hw9 hv rn)) ((sC_0 hS)) rfl rfl rfl ⟨rfl, rfl, by decide, by decide⟩ ⟨by decide, by decide⟩ (fun _ => Nat.le_of_ble_eq_true rfl) (fun v hv => by cases hv) (fun v hv => by simp only [List.mem_cons, List.not_mem_nil, or_false, Option.some.injEq, reduceCtorEq, false_or] at hv; rcases hv with rfl | rfl <;> first | exact (lS ((sC_0 hS))) | exact trivial) dX9_count_75 (fun v_75 S_75 F_75 A_75 hP_75 => ?_)
    obtain ⟨rfl, rfl, rfl, rfl⟩ := hP_75
    show ab_J E 2 0 0 S F A 78 [some (aR 0), some (aI w)] [aI (sm (fun x => if (F (300 + x.toNat) 2 ≤ F 0 10 ∧ (F (300 + x.toNat) 4 = 0 ∨ F 0 10 < F (300 + x.toNat) 5)) then 1 else 0) (F 3 2).toNat)]
    exact j_iret C hr (Nat.le_refl _) (Nat.le_refl _) dX9_count_78 ⟨rfl, rfl, fun _ _ => rfl, _, rfl, Or.inr (Or.inr (Or.inr (Or.inr (Or.inl ⟨by omega, rfl⟩))))⟩
  · refine j_tableIn C (tgt := 79) 5 dX9_count_1 c1 ⟨by omega, by omega⟩ (by decide) (by decide) rfl (by decide) ?_
    refine j_aload_n C dX9_count_79 rfl rfl ?_
    refine j_callV C (vs := []) (st := []) cl_X9_191 im_yX9_gatherParts se_yX9_gatherParts (fun _ => (c_gather _ S F A hS hBg hb)) ((sC_0 hS)) rfl rfl rfl ⟨rfl, rfl, by decide, by decide⟩ ⟨by decide, by decide⟩ (fun _ => Nat.le_of_ble_eq_true rfl) (fun v hv => by cases hv) (fun v hv => by simp only [List.mem_cons, List.not_mem_nil, or_false, Option.some.injEq, reduceCtorEq, false_or] at hv; rcases hv with rfl | rfl <;> first | exact (lS ((sC_0 hS))) | exact trivial) dX9_count_80 (fun v_80 S_80 F_80 A_80 hP_80 => ?_)
    obtain ⟨rfl, rfl, rfl, hO80, hg80⟩ := hP_80
    show ab_J E 2 0 0 S F A_80 83 [some (aR 0), some (aI w)] []
    refine j_aload_n C dX9_count_83 rfl rfl ?_
    refine j_getR C (j := 27) fl_X9_59 ((sC_0 hS)) rfl dX9_count_84 ?_
    refine j_callS C (vs := [aR 27]) (st := []) cl_X9_176 sc_yX9_squaresAboveZero (fun _ => (c_squares _ S F A_80 hS _ ((sC_27 hS)) (fun k q1 q2 => by rw [hg80 k q1 q2]; have := gs_rng hb (fun b a c => hp b k a c q1 q2); exact ⟨by omega, by omega⟩))) rfl ⟨rfl, rfl, by decide, by decide⟩ ⟨by decide, by decide⟩ (fun _ => Nat.le_of_ble_eq_true rfl) (fun v hv => by cases hv) (fun v hv => by simp only [List.mem_cons, List.not_mem_nil, or_false, Option.some.injEq, reduceCtorEq, false_or] at hv; rcases hv with rfl | rfl <;> first | exact (lS ((sC_0 hS))) | exact trivial) dX9_count_87 (fun v_87 S_87 F_87 A_87 hP_87 => ?_)
    obtain ⟨rfl, rfl, rfl, rfl⟩ := hP_87
    show ab_J E 2 0 0 S F A_80 90 [some (aR 0), some (aI w)] [aI (sm (fun x => if 0 < A_80 27 x then 1 else 0) 280)]
    exact j_iret C hr (Nat.le_refl _) (Nat.le_refl _) dX9_count_90 ⟨rfl, rfl, hO80, _, rfl, Or.inr (Or.inr (Or.inr (Or.inr (Or.inr (Or.inl ⟨by omega, sm_cong (n := 280) (fun x q1 q2 => by rw [hg80 x q1 (by omega)])⟩)))))⟩
  · refine j_tableIn C (tgt := 91) 6 dX9_count_1 c1 ⟨by omega, by omega⟩ (by decide) (by decide) rfl (by decide) ?_
    refine j_aload_n C dX9_count_91 rfl rfl ?_
    refine j_getR C (j := 4) fl_X9_37 ((sC_0 hS)) rfl dX9_count_92 ?_
    refine j_get C (aI (F 4 1)) fl_X9_76 ((sC_4 hS)) (fun _ => rfl) dX9_count_95 ?_
    exact j_iret C hr (Nat.le_refl _) (Nat.le_refl _) dX9_count_98 ⟨rfl, rfl, fun _ _ => rfl, _, rfl, Or.inr (Or.inr (Or.inr (Or.inr (Or.inr (Or.inr (Or.inl ⟨by omega, rfl⟩))))))⟩
  · refine j_tableIn C (tgt := 99) 7 dX9_count_1 c1 ⟨by omega, by omega⟩ (by decide) (by decide) rfl (by decide) ?_
    refine j_aload_n C dX9_count_99 rfl rfl ?_
    refine j_get C (aI (F 0 11)) fl_X9_70 ((sC_0 hS)) (fun _ => rfl) dX9_count_100 ?_
    exact j_iret C hr (Nat.le_refl _) (Nat.le_refl _) dX9_count_103 ⟨rfl, rfl, fun _ _ => rfl, _, rfl, Or.inr (Or.inr (Or.inr (Or.inr (Or.inr (Or.inr (Or.inr (Or.inl ⟨by omega, rfl⟩)))))))⟩

set_option maxHeartbeats 4000000 in
set_option maxRecDepth 100000 in
theorem c_force (l : Launch) (S : ab_St) (F : ab_Fn) (A : ab_An) (hS : ab_SC S) (w st : Int) (h1 : 0 ≤ w ∧ w < F 3 2) (rst : inR st) (nc : Nat → Nat) (hWg : WG S nc (F 3 2)) (hw9 : 0 ≤ F 3 2 ∧ F 3 2 ≤ 40) (hv : ∀ w, 0 ≤ w → w < F 3 2 → inR (F (300 + w.toNat) 2) ∧ (F (300 + w.toNat) 4 = 0 ∨ F (300 + w.toNat) 4 = 1) ∧ inR (F (300 + w.toNat) 5)) : ab_Met l yX9_force cX9_force 3 (some .boolean) { frames := 3, cells := 0, slots := 0, locals := 64 } 0 0 [aR 0, aI w, aI st] S F A (fun v S' F' A' => S = S' ∧ F = F' ∧ A = A' ∧ ∃ z : Int, v = some (aI z) ∧ zb z (F (300 + w.toNat) 2 ≤ st ∧ (F (300 + w.toNat) 4 = 0 ∨ st < F (300 + w.toNat) 5))) := by
  refine ab_enter (by decide) (by simp [aI, aR, aX, ab_val, Value.category]) (Nat.le_of_ble_eq_true rfl) (fun E C hr => ?_)
  refine j_eq (lv' := [some (aR 0), some (aI w), some (aI st)]) ?_
  have hWg2 := hWg
  obtain ⟨hW1, ew, Nw, hl3, hN3, hW3, hW4, hW5⟩ := hWg
  refine j_aload_n C dX9_force_0 rfl rfl ?_
  refine j_iload_n C dX9_force_1 rfl rfl ?_
  refine j_callV C (vs := [aI w]) (st := []) cl_X9_223 im_yX9_checkWarning se_yX9_checkWarning (fun _ => (c_checkWarning _ S F A hS nc hWg2 hw9 _ h1)) ((sC_0 hS)) rfl rfl rfl ⟨rfl, rfl, by decide, by decide⟩ ⟨by decide, by decide⟩ (fun _ => Nat.le_of_ble_eq_true rfl) (fun v hv => by cases hv) (fun v hv => by simp only [List.mem_cons, List.not_mem_nil, or_false, Option.some.injEq, reduceCtorEq, false_or] at hv; rcases hv with rfl | rfl | rfl <;> first | exact (lS ((sC_0 hS))) | exact trivial) dX9_force_2 (fun v_2 S_2 F_2 A_2 hP_2 => ?_)
  obtain ⟨rfl, rfl, rfl, rfl⟩ := hP_2
  show ab_J E 3 0 0 S F A 5 [some (aR 0), some (aI w), some (aI st)] []
  refine j_aload_n C dX9_force_5 rfl rfl ?_
  refine j_getR C (j := 3) fl_X9_23 ((sC_0 hS)) rfl dX9_force_6 ?_
  refine j_iload_n C dX9_force_9 rfl rfl ?_
  obtain ⟨c3_10, he3_10, hc3_10⟩ := hW3 (by omega)
  refine j_callV C (vs := [aI w]) (st := []) cl_X9_142 im_yJx4a65c_get_915e3 se_yJx4a65c_get_915e3 (fun _ => (t_get _ S F A _ _ _ (300 + (w).toNat) _ _ (hl3) he3_10 (by show 0 ≤ w ∧ w < F 3 2; omega) (by show F 3 2 ≤ _; omega) (by omega) (hc3_10 _ (by omega)))) (hl3) rfl rfl rfl ⟨rfl, rfl, by decide, by decide⟩ ⟨by decide, by decide⟩ (fun _ => Nat.le_of_ble_eq_true rfl) (fun v hv => by cases hv) (fun v hv => by simp only [List.mem_cons, List.not_mem_nil, or_false, Option.some.injEq, reduceCtorEq, false_or] at hv; rcases hv with rfl | rfl | rfl <;> first | exact (lS ((sC_0 hS))) | exact trivial) dX9_force_10 (fun v_10 S_10 F_10 A_10 hP_10 => ?_)
  obtain ⟨rfl, rfl, rfl, rfl⟩ := hP_10
  show ab_J E 3 0 0 S F A 13 [some (aR 0), some (aI w), some (aI st)] [aR (300 + (w).toNat)]
  refine j_cast C ((hW1 ((w).toNat) (by omega)).1) rfl (ab_t2 (List.mem_of_getElem? (i := 99) rfl) rfl) dX9_force_13 ?_
  refine j_iload_n C dX9_force_16 rfl rfl ?_
  refine j_callV C (vs := [aI st]) (st := []) cl_X9_234 im_yX8_holdsAt se_yX8_holdsAt (fun _ => (c_holdsAt _ S F A hS ((w).toNat) nc ((hW1 ((w).toNat) (by omega)).1) _ rst (hv _ (by omega) (by omega)))) ((hW1 ((w).toNat) (by omega)).1) rfl rfl rfl ⟨rfl, rfl, by decide, by decide⟩ ⟨by decide, by decide⟩ (fun _ => Nat.le_of_ble_eq_true rfl) (fun v hv => by cases hv) (fun v hv => by simp only [List.mem_cons, List.not_mem_nil, or_false, Option.some.injEq, reduceCtorEq, false_or] at hv; rcases hv with rfl | rfl | rfl <;> first | exact (lS ((sC_0 hS))) | exact trivial) dX9_force_17 (fun v_17 S_17 F_17 A_17 hP_17 => ?_)
  obtain ⟨rfl, rfl, rfl, z_17, rfl, ⟨rfl, hz_17⟩ | ⟨rfl, hz_17⟩⟩ := hP_17
  · have hz_17 : F (300 + (w).toNat) 2 ≤ st ∧ (F (300 + (w).toNat) 4 = 0 ∨ st < F (300 + (w).toNat) 5) := hz_17
    show ab_J E 3 0 0 S F A 20 [some (aR 0), some (aI w), some (aI st)] [aI 1]
    exact j_zret C hr rfl (Nat.le_refl _) (Nat.le_refl _) dX9_force_20 ⟨rfl, rfl, rfl, _, rfl, (by first | exact zb.one hz_17 | exact zb.zero hz_17)⟩
  · have hz_17 : ¬ (F (300 + (w).toNat) 2 ≤ st ∧ (F (300 + (w).toNat) 4 = 0 ∨ st < F (300 + (w).toNat) 5)) := hz_17
    show ab_J E 3 0 0 S F A 20 [some (aR 0), some (aI w), some (aI st)] [aI 0]
    exact j_zret C hr rfl (Nat.le_refl _) (Nat.le_refl _) dX9_force_20 ⟨rfl, rfl, rfl, _, rfl, (by first | exact zb.one hz_17 | exact zb.zero hz_17)⟩

set_option maxHeartbeats 4000000 in
set_option maxRecDepth 100000 in
theorem c_cancel (l : Launch) (S : ab_St) (F : ab_Fn) (A : ab_An) (hS : ab_SC S) (w : Int) (h1 : 0 ≤ w ∧ w < F 3 2) (nc : Nat → Nat) (hWg : WG S nc (F 3 2)) (hw9 : 0 ≤ F 3 2 ∧ F 3 2 ≤ 40) (hc : F (300 + w.toNat) 4 = 0 ∨ F (300 + w.toNat) 4 = 1) : ab_Met l yX9_cancel cX9_cancel 3 (some .boolean) { frames := 3, cells := 0, slots := 0, locals := 64 } 0 0 [aR 0, aI w] S F A (fun v S' F' A' => S = S' ∧ A = A' ∧ ∃ z : Int, v = some (aI z) ∧ ((z = 0 ∧ F (300 + w.toNat) 4 = 1 ∧ F = F') ∨ (z = 1 ∧ F (300 + w.toNat) 4 = 0 ∧ F' = upF (upF F (300 + w.toNat) 4 1) (300 + w.toNat) 5 (F 0 10)))) := by
  refine ab_enter (by decide) (by simp [aI, aR, aX, ab_val, Value.category]) (Nat.le_of_ble_eq_true rfl) (fun E C hr => ?_)
  refine j_eq (lv' := [some (aR 0), some (aI w), none]) ?_
  have hWg2 := hWg
  obtain ⟨hW1, ew, Nw, hl3, hN3, hW3, hW4, hW5⟩ := hWg
  refine j_aload_n C dX9_cancel_0 rfl rfl ?_
  refine j_iload_n C dX9_cancel_1 rfl rfl ?_
  refine j_callV C (vs := [aI w]) (st := []) cl_X9_223 im_yX9_checkWarning se_yX9_checkWarning (fun _ => (c_checkWarning _ S F A hS nc hWg2 hw9 _ h1)) ((sC_0 hS)) rfl rfl rfl ⟨rfl, rfl, by decide, by decide⟩ ⟨by decide, by decide⟩ (fun _ => Nat.le_of_ble_eq_true rfl) (fun v hv => by cases hv) (fun v hv => by simp only [List.mem_cons, List.not_mem_nil, or_false, Option.some.injEq, reduceCtorEq, false_or] at hv; rcases hv with rfl | rfl <;> first | exact (lS ((sC_0 hS))) | exact trivial) dX9_cancel_2 (fun v_2 S_2 F_2 A_2 hP_2 => ?_)
  obtain ⟨rfl, rfl, rfl, rfl⟩ := hP_2
  show ab_J E 3 0 0 S F A 5 [some (aR 0), some (aI w), none] []
  refine j_aload_n C dX9_cancel_5 rfl rfl ?_
  refine j_getR C (j := 3) fl_X9_23 ((sC_0 hS)) rfl dX9_cancel_6 ?_
  refine j_iload_n C dX9_cancel_9 rfl rfl ?_
  obtain ⟨c3_10, he3_10, hc3_10⟩ := hW3 (by omega)
  refine j_callV C (vs := [aI w]) (st := []) cl_X9_142 im_yJx4a65c_get_915e3 se_yJx4a65c_get_915e3 (fun _ => (t_get _ S F A _ _ _ (300 + (w).toNat) _ _ (hl3) he3_10 (by show 0 ≤ w ∧ w < F 3 2; omega) (by show F 3 2 ≤ _; omega) (by omega) (hc3_10 _ (by omega)))) (hl3) rfl rfl rfl ⟨rfl, rfl, by decide, by decide⟩ ⟨by decide, by decide⟩ (fun _ => Nat.le_of_ble_eq_true rfl) (fun v hv => by cases hv) (fun v hv => by simp only [List.mem_cons, List.not_mem_nil, or_false, Option.some.injEq, reduceCtorEq, false_or] at hv; rcases hv with rfl | rfl <;> first | exact (lS ((sC_0 hS))) | exact trivial) dX9_cancel_10 (fun v_10 S_10 F_10 A_10 hP_10 => ?_)
  obtain ⟨rfl, rfl, rfl, rfl⟩ := hP_10
  show ab_J E 3 0 0 S F A 13 [some (aR 0), some (aI w), none] [aR (300 + (w).toNat)]
  refine j_cast C ((hW1 ((w).toNat) (by omega)).1) rfl (ab_t2 (List.mem_of_getElem? (i := 99) rfl) rfl) dX9_cancel_13 ?_
  refine j_astore_n C (lv' := [some (aR 0), some (aI w), some (aR (300 + (w).toNat))]) dX9_cancel_16 rfl (by decide) rfl ?_
  refine j_aload_n C dX9_cancel_17 rfl rfl ?_
  refine j_get C (aI (F (300 + (w).toNat) 4)) fl_X9_228 ((hW1 ((w).toNat) (by omega)).1) (fun _ => rfl) dX9_cancel_18 ?_
  refine j_if_eq C (tgt := 26) dX9_cancel_21 (by decide) ⟨by omega, by omega⟩ (fun c21 => ?_) (fun c21 => ?_)
  · refine j_aload_n C dX9_cancel_26 rfl rfl ?_
    refine j_iconst C dX9_cancel_27 ?_
    refine j_putZ C fp_X9_228 ((hW1 ((w).toNat) (by omega)).1) rfl (by omega) dX9_cancel_28 ?_
    refine j_aload_n C dX9_cancel_31 rfl rfl ?_
    refine j_aload_n C dX9_cancel_32 rfl rfl ?_
    refine j_get C (aI (F 0 10)) fl_X9_66 ((sC_0 hS)) (fun _ => congrArg (fun z => Value.int (Int32.ofInt z)) ((congrFun (upF_o (by omega)) _).trans (rfl))) dX9_cancel_33 ?_
    refine j_putI C fp_X9_231 ((hW1 ((w).toNat) (by omega)).1) rfl dX9_cancel_36 ?_
    refine j_iconst C dX9_cancel_39 ?_
    exact j_zret C hr rfl (Nat.le_refl _) (Nat.le_refl _) dX9_cancel_40 ⟨rfl, rfl, _, rfl, Or.inr ⟨rfl, by omega, rfl⟩⟩
  · refine j_iconst C dX9_cancel_24 ?_
    exact j_zret C hr rfl (Nat.le_refl _) (Nat.le_refl _) dX9_cancel_25 ⟨rfl, rfl, _, rfl, Or.inl ⟨rfl, by omega, rfl⟩⟩
