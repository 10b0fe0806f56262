set_option maxHeartbeats 4000000 in
set_option maxRecDepth 100000 in
theorem x_checkSquare (l : Launch) (S : ab_St) (F : ab_Fn) (A : ab_An) (hS : ab_SC S) (sq : Int) (rs : inR sq) (h1 : ¬ (0 ≤ sq ∧ sq ≤ 279)) : ab_XMet l yX9_checkSquare cX9_checkSquare 1 none { frames := 6, cells := 1, slots := 6, locals := 90 } 1 6 [aI sq] S F A (fun X9 S' F' A' => X9 = "java/lang/IndexOutOfBoundsException" ∧ (S = S' ∧ F = F' ∧ A = A')) := by
  refine ab_enterX (by decide) (by simp [aI, aR, aX, ab_val, Value.category]) (Nat.le_of_ble_eq_true rfl) (fun E C hr => ?_)
  refine j_eq (lv' := [some (aI sq)]) ?_
  refine j_iload_n C dX9_checkSquare_0 rfl rfl ?_
  refine j_if_lt C (tgt := 11) dX9_checkSquare_1 (by decide) rs (fun c1 => ?_) (fun c1 => ?_)
  · exact j_throwSW C hr (cls := "java/lang/IndexOutOfBoundsException") (names := ["java/lang/RuntimeException", "java/lang/Exception"]) (text := "no such square") (j := 8) (by decide +kernel) (by decide +kernel) (ab_t3 (List.mem_of_getElem? (i := 23) rfl) rfl) (ab_t1 (List.mem_of_getElem? (i := 17) rfl) rfl) at_IOB (by decide) rfl (lw_t3 (List.mem_of_getElem? (i := 66) rfl)) ⟨by decide, Nat.le_of_ble_eq_true rfl, Nat.le_of_ble_eq_true rfl⟩ (fun _ => Nat.le_of_ble_eq_true rfl) ⟨Nat.le_of_ble_eq_true rfl, Nat.le_of_ble_eq_true rfl⟩ dX9_checkSquare_11 dX9_checkSquare_14 dX9_checkSquare_15 dX9_checkSquare_18 dX9_checkSquare_21 ⟨rfl, ⟨rfl, rfl, rfl⟩⟩
  · refine j_iload_n C dX9_checkSquare_4 rfl rfl ?_
    refine j_sipush C dX9_checkSquare_5 rfl ?_
    refine j_icmp_lt C (tgt := 22) dX9_checkSquare_8 (by decide) rs ⟨by omega, by omega⟩ (fun c8 => ?_) (fun c8 => ?_)
    · exact absurd c8 (by omega)
    · exact j_throwSW C hr (cls := "java/lang/IndexOutOfBoundsException") (names := ["java/lang/RuntimeException", "java/lang/Exception"]) (text := "no such square") (j := 8) (by decide +kernel) (by decide +kernel) (ab_t3 (List.mem_of_getElem? (i := 23) rfl) rfl) (ab_t1 (List.mem_of_getElem? (i := 17) rfl) rfl) at_IOB (by decide) rfl (lw_t3 (List.mem_of_getElem? (i := 66) rfl)) ⟨by decide, Nat.le_of_ble_eq_true rfl, Nat.le_of_ble_eq_true rfl⟩ (fun _ => Nat.le_of_ble_eq_true rfl) ⟨Nat.le_of_ble_eq_true rfl, Nat.le_of_ble_eq_true rfl⟩ dX9_checkSquare_11 dX9_checkSquare_14 dX9_checkSquare_15 dX9_checkSquare_18 dX9_checkSquare_21 ⟨rfl, ⟨rfl, rfl, rfl⟩⟩

set_option maxHeartbeats 4000000 in
set_option maxRecDepth 100000 in
theorem x_checkBerg (l : Launch) (S : ab_St) (F : ab_Fn) (A : ab_An) (hS : ab_SC S) (hBg : BG S (F 2 2)) (hb : 0 ≤ F 2 2 ∧ F 2 2 ≤ 10) (b : Int) (rb : inR b) (h1 : ¬ (0 ≤ b ∧ b < F 2 2)) : ab_XMet l yX9_checkBerg cX9_checkBerg 2 none { frames := 6, cells := 1, slots := 6, locals := 90 } 1 6 [aR 0, aI b] S F A (fun X9 S' F' A' => X9 = "java/lang/IndexOutOfBoundsException" ∧ (S = S' ∧ F = F' ∧ A = A')) := by
  refine ab_enterX (by decide) (by simp [aI, aR, aX, ab_val, Value.category]) (Nat.le_of_ble_eq_true rfl) (fun E C hr => ?_)
  refine j_eq (lv' := [some (aR 0), some (aI b)]) ?_
  have hB := hBg
  obtain ⟨hB1, eb, hl2, hB3, hB4, hB5⟩ := hB
  refine j_iload_n C dX9_checkBerg_0 rfl rfl ?_
  refine j_if_lt C (tgt := 15) dX9_checkBerg_1 (by decide) rb (fun c1 => ?_) (fun c1 => ?_)
  · exact j_throwSW C hr (cls := "java/lang/IndexOutOfBoundsException") (names := ["java/lang/RuntimeException", "java/lang/Exception"]) (text := "no such berg") (j := 15) (by decide +kernel) (by decide +kernel) (ab_t3 (List.mem_of_getElem? (i := 23) rfl) rfl) (ab_t1 (List.mem_of_getElem? (i := 17) rfl) rfl) at_IOB (by decide) rfl (lw_t4 (List.mem_of_getElem? (i := 23) rfl)) ⟨by decide, Nat.le_of_ble_eq_true rfl, Nat.le_of_ble_eq_true rfl⟩ (fun _ => Nat.le_of_ble_eq_true rfl) ⟨Nat.le_of_ble_eq_true rfl, Nat.le_of_ble_eq_true rfl⟩ dX9_checkBerg_15 dX9_checkBerg_18 dX9_checkBerg_19 dX9_checkBerg_22 dX9_checkBerg_25 ⟨rfl, ⟨rfl, rfl, rfl⟩⟩
  · refine j_iload_n C dX9_checkBerg_4 rfl rfl ?_
    refine j_aload_n C dX9_checkBerg_5 rfl rfl ?_
    refine j_getR C (j := 2) fl_X9_19 ((sC_0 hS)) rfl dX9_checkBerg_6 ?_
    refine j_callV C (vs := []) (st := [aI b]) cl_X9_126 im_yJx4a65c_size_8abf5 se_yJx4a65c_size_8abf5 (fun _ => (t_size _ S F A _ _ (hl2))) (hl2) rfl rfl rfl ⟨rfl, rfl, by decide, by decide⟩ ⟨by decide, by decide⟩ (fun _ => Nat.le_of_ble_eq_true rfl) (fun v hv => by simp only [List.mem_cons, List.not_mem_nil, or_false] at hv; rcases hv with rfl <;> first | exact trivial) (fun v hv => by simp only [List.mem_cons, List.not_mem_nil, or_false, Option.some.injEq, reduceCtorEq, false_or] at hv; rcases hv with rfl | rfl <;> first | exact (lS ((sC_0 hS))) | exact trivial) dX9_checkBerg_9 (fun v_9 S_9 F_9 A_9 hP_9 => ?_)
    obtain ⟨rfl, rfl, rfl, rfl⟩ := hP_9
    show ab_J E 2 0 0 S F A 12 [some (aR 0), some (aI b)] [aI (F 2 2), aI b]
    refine j_icmp_lt C (tgt := 26) dX9_checkBerg_12 (by decide) rb ⟨by omega, by omega⟩ (fun c12 => ?_) (fun c12 => ?_)
    · exact absurd c12 (by omega)
    · exact j_throwSW C hr (cls := "java/lang/IndexOutOfBoundsException") (names := ["java/lang/RuntimeException", "java/lang/Exception"]) (text := "no such berg") (j := 15) (by decide +kernel) (by decide +kernel) (ab_t3 (List.mem_of_getElem? (i := 23) rfl) rfl) (ab_t1 (List.mem_of_getElem? (i := 17) rfl) rfl) at_IOB (by decide) rfl (lw_t4 (List.mem_of_getElem? (i := 23) rfl)) ⟨by decide, Nat.le_of_ble_eq_true rfl, Nat.le_of_ble_eq_true rfl⟩ (fun _ => Nat.le_of_ble_eq_true rfl) ⟨Nat.le_of_ble_eq_true rfl, Nat.le_of_ble_eq_true rfl⟩ dX9_checkBerg_15 dX9_checkBerg_18 dX9_checkBerg_19 dX9_checkBerg_22 dX9_checkBerg_25 ⟨rfl, ⟨rfl, rfl, rfl⟩⟩

set_option maxHeartbeats 4000000 in
set_option maxRecDepth 100000 in
theorem x_checkWarning (l : Launch) (S : ab_St) (F : ab_Fn) (A : ab_An) (hS : ab_SC S) (nc : Nat → Nat) (hWg : WG S nc (F 3 2)) (hw9 : 0 ≤ F 3 2 ∧ F 3 2 ≤ 40) (w : Int) (rw1 : inR w) (h1 : ¬ (0 ≤ w ∧ w < F 3 2)) : ab_XMet l yX9_checkWarning cX9_checkWarning 2 none { frames := 6, cells := 1, slots := 6, locals := 90 } 1 6 [aR 0, aI w] S F A (fun X9 S' F' A' => X9 = "java/lang/IndexOutOfBoundsException" ∧ (S = S' ∧ F = F' ∧ A = A')) := by
  refine ab_enterX (by decide) (by simp [aI, aR, aX, ab_val, Value.category]) (Nat.le_of_ble_eq_true rfl) (fun E C hr => ?_)
  refine j_eq (lv' := [some (aR 0), some (aI w)]) ?_
  have hWg2 := hWg
  obtain ⟨hW1, ew, Nw, hl3, hN3, hW3, hW4, hW5⟩ := hWg
  refine j_iload_n C dX9_checkWarning_0 rfl rfl ?_
  refine j_if_lt C (tgt := 15) dX9_checkWarning_1 (by decide) rw1 (fun c1 => ?_) (fun c1 => ?_)
  · exact j_throwSW C hr (cls := "java/lang/IndexOutOfBoundsException") (names := ["java/lang/RuntimeException", "java/lang/Exception"]) (text := "no such warning") (j := 19) (by decide +kernel) (by decide +kernel) (ab_t3 (List.mem_of_getElem? (i := 23) rfl) rfl) (ab_t1 (List.mem_of_getElem? (i := 17) rfl) rfl) at_IOB (by decide) rfl (lw_t4 (List.mem_of_getElem? (i := 152) rfl)) ⟨by decide, Nat.le_of_ble_eq_true rfl, Nat.le_of_ble_eq_true rfl⟩ (fun _ => Nat.le_of_ble_eq_true rfl) ⟨Nat.le_of_ble_eq_true rfl, Nat.le_of_ble_eq_true rfl⟩ dX9_checkWarning_15 dX9_checkWarning_18 dX9_checkWarning_19 dX9_checkWarning_22 dX9_checkWarning_25 ⟨rfl, ⟨rfl, rfl, rfl⟩⟩
  · refine j_iload_n C dX9_checkWarning_4 rfl rfl ?_
    refine j_aload_n C dX9_checkWarning_5 rfl rfl ?_
    refine j_getR C (j := 3) fl_X9_23 ((sC_0 hS)) rfl dX9_checkWarning_6 ?_
    refine j_callV C (vs := []) (st := [aI w]) cl_X9_126 im_yJx4a65c_size_8abf5 se_yJx4a65c_size_8abf5 (fun _ => (t_size _ S F A _ _ (hl3))) (hl3) rfl rfl rfl ⟨rfl, rfl, by decide, by decide⟩ ⟨by decide, by decide⟩ (fun _ => Nat.le_of_ble_eq_true rfl) (fun v hv => by simp only [List.mem_cons, List.not_mem_nil, or_false] at hv; rcases hv with rfl <;> first | exact trivial) (fun v hv => by simp only [List.mem_cons, List.not_mem_nil, or_false, Option.some.injEq, reduceCtorEq, false_or] at hv; rcases hv with rfl | rfl <;> first | exact (lS ((sC_0 hS))) | exact trivial) dX9_checkWarning_9 (fun v_9 S_9 F_9 A_9 hP_9 => ?_)
    obtain ⟨rfl, rfl, rfl, rfl⟩ := hP_9
    show ab_J E 2 0 0 S F A 12 [some (aR 0), some (aI w)] [aI (F 3 2), aI w]
    refine j_icmp_lt C (tgt := 26) dX9_checkWarning_12 (by decide) rw1 ⟨by omega, by omega⟩ (fun c12 => ?_) (fun c12 => ?_)
    · exact absurd c12 (by omega)
    · exact j_throwSW C hr (cls := "java/lang/IndexOutOfBoundsException") (names := ["java/lang/RuntimeException", "java/lang/Exception"]) (text := "no such warning") (j := 19) (by decide +kernel) (by decide +kernel) (ab_t3 (List.mem_of_getElem? (i := 23) rfl) rfl) (ab_t1 (List.mem_of_getElem? (i := 17) rfl) rfl) at_IOB (by decide) rfl (lw_t4 (List.mem_of_getElem? (i := 152) rfl)) ⟨by decide, Nat.le_of_ble_eq_true rfl, Nat.le_of_ble_eq_true rfl⟩ (fun _ => Nat.le_of_ble_eq_true rfl) ⟨Nat.le_of_ble_eq_true rfl, Nat.le_of_ble_eq_true rfl⟩ dX9_checkWarning_15 dX9_checkWarning_18 dX9_checkWarning_19 dX9_checkWarning_22 dX9_checkWarning_25 ⟨rfl, ⟨rfl, rfl, rfl⟩⟩

set_option maxHeartbeats 4000000 in
set_option maxRecDepth 100000 in
theorem x_water1 (l : Launch) (S : ab_St) (F : ab_Fn) (A : ab_An) (hS : ab_SC S) (sq a d w : Int) (rs : inR sq) (h1 : ¬ (0 ≤ sq ∧ sq ≤ 279)) : ab_XMet l yX9_water cX9_water 5 none { frames := 7, cells := 1, slots := 6, locals := 110 } 1 6 [aR 0, aI sq, aI a, aI d, aI w] S F A (fun X9 S' F' A' => X9 = "java/lang/IndexOutOfBoundsException" ∧ (S = S' ∧ F = F' ∧ A = A')) := by
  refine ab_enterX (by decide) (by simp [aI, aR, aX, ab_val, Value.category]) (Nat.le_of_ble_eq_true rfl) (fun E C hr => ?_)
  refine j_eq (lv' := [some (aR 0), some (aI sq), some (aI a), some (aI d), some (aI w)]) ?_
  refine j_iload_n C dX9_water_0 rfl rfl ?_
  exact j_callXS C hr (vs := [aI sq]) (st := []) cl_X9_85 sc_yX9_checkSquare (fun _ => (x_checkSquare _ S F A hS _ rs h1)) rfl ⟨rfl, rfl, by decide, by decide⟩ ⟨by decide, by decide⟩ (fun _ => Nat.le_of_ble_eq_true rfl) dX9_water_1 ⟨by decide, by decide⟩ (fun _ _ _ _ h => h)

set_option maxHeartbeats 4000000 in
set_option maxRecDepth 100000 in
theorem x_water2 (l : Launch) (S : ab_St) (F : ab_Fn) (A : ab_An) (hS : ab_SC S) (sq a d w : Int) (h1 : 0 ≤ sq ∧ sq ≤ 279) (ra : inR a) (rd : inR d) (rw1 : inR w) (h2 : ¬ (-2 ≤ a ∧ a ≤ 2 ∧ -2 ≤ d ∧ d ≤ 2 ∧ 0 ≤ w ∧ w ≤ 50)) : ab_XMet l yX9_water cX9_water 5 none { frames := 7, cells := 1, slots := 6, locals := 110 } 1 6 [aR 0, aI sq, aI a, aI d, aI w] S F A (fun X9 S' F' A' => X9 = "java/lang/IllegalArgumentException" ∧ (S = S' ∧ F = F' ∧ A = A')) := by
  refine ab_enterX (by decide) (by simp [aI, aR, aX, ab_val, Value.category]) (Nat.le_of_ble_eq_true rfl) (fun E C hr => ?_)
  refine j_eq (lv' := [some (aR 0), some (aI sq), some (aI a), some (aI d), some (aI w)]) ?_
  refine j_iload_n C dX9_water_0 rfl rfl ?_
  refine j_callS C (vs := [aI sq]) (st := []) cl_X9_85 sc_yX9_checkSquare (fun _ => (c_checkSquare _ S F A hS _ h1)) rfl ⟨rfl, rfl, by decide, by decide⟩ ⟨by decide, by decide⟩ (fun _ => Nat.le_of_ble_eq_true rfl) (fun v hv => by cases hv) (fun v hv => by simp only [List.mem_cons, List.not_mem_nil, or_false, Option.some.injEq, reduceCtorEq, false_or] at hv; rcases hv with rfl | rfl | rfl | rfl | rfl <;> first | exact (lS ((sC_0 hS))) | exact trivial) dX9_water_1 (fun v_1 S_1 F_1 A_1 hP_1 => ?_)
  obtain ⟨rfl, rfl, rfl, rfl⟩ := hP_1
  show ab_J E 5 0 0 S F A 4 [some (aR 0), some (aI sq), some (aI a), some (aI d), some (aI w)] []
  refine j_iload_n C dX9_water_4 rfl rfl ?_
  refine j_callS C (vs := [aI a]) (st := []) cl_X9_88 sc_yX9_isCurrent (fun _ => (c_isCurrent _ S F A hS _ ra)) rfl ⟨rfl, rfl, by decide, by decide⟩ ⟨by decide, by decide⟩ (fun _ => Nat.le_of_ble_eq_true rfl) (fun v hv => by cases hv) (fun v hv => by simp only [List.mem_cons, List.not_mem_nil, or_false, Option.some.injEq, reduceCtorEq, false_or] at hv; rcases hv with rfl | rfl | rfl | rfl | rfl <;> first | exact (lS ((sC_0 hS))) | exact trivial) dX9_water_5 (fun v_5 S_5 F_5 A_5 hP_5 => ?_)
  obtain ⟨rfl, rfl, rfl, z_5, rfl, ⟨rfl, hz_5⟩ | ⟨rfl, hz_5⟩⟩ := hP_5
  · show ab_J E 5 0 0 S F A 8 [some (aR 0), some (aI sq), some (aI a), some (aI d), some (aI w)] [aI 1]
    refine j_if_eq C (tgt := 30) dX9_water_8 (by decide) ⟨by omega, by omega⟩ (fun c8 => ?_) (fun c8 => ?_)
    · exact absurd c8 (by decide)
    · refine j_iload_n C dX9_water_11 rfl rfl ?_
      refine j_callS C (vs := [aI d]) (st := []) cl_X9_88 sc_yX9_isCurrent (fun _ => (c_isCurrent _ S F A hS _ rd)) rfl ⟨rfl, rfl, by decide, by decide⟩ ⟨by decide, by decide⟩ (fun _ => Nat.le_of_ble_eq_true rfl) (fun v hv => by cases hv) (fun v hv => by simp only [List.mem_cons, List.not_mem_nil, or_false, Option.some.injEq, reduceCtorEq, false_or] at hv; rcases hv with rfl | rfl | rfl | rfl | rfl <;> first | exact (lS ((sC_0 hS))) | exact trivial) dX9_water_12 (fun v_12 S_12 F_12 A_12 hP_12 => ?_)
      obtain ⟨rfl, rfl, rfl, z_12, rfl, ⟨rfl, hz_12⟩ | ⟨rfl, hz_12⟩⟩ := hP_12
      · show ab_J E 5 0 0 S F A 15 [some (aR 0), some (aI sq), some (aI a), some (aI d), some (aI w)] [aI 1]
        refine j_if_eq C (tgt := 30) dX9_water_15 (by decide) ⟨by omega, by omega⟩ (fun c15 => ?_) (fun c15 => ?_)
        · exact absurd c15 (by decide)
        · refine j_iload C dX9_water_18 rfl ?_
          refine j_if_lt C (tgt := 30) dX9_water_20 (by decide) rw1 (fun c20 => ?_) (fun c20 => ?_)
          · exact j_throwS C hr (cls := "java/lang/IllegalArgumentException") (names := ["java/lang/RuntimeException", "java/lang/Exception"]) (text := "no such current or warmth") (j := 9) (by decide +kernel) (by decide +kernel) (ab_t3 (List.mem_of_getElem? (i := 96) rfl) rfl) (ab_t1 (List.mem_of_getElem? (i := 18) rfl) rfl) at_IAE (by decide) rfl (lw_t3 (List.mem_of_getElem? (i := 105) rfl)) ⟨by decide, Nat.le_of_ble_eq_true rfl, Nat.le_of_ble_eq_true rfl⟩ (fun _ => Nat.le_of_ble_eq_true rfl) ⟨Nat.le_of_ble_eq_true rfl, Nat.le_of_ble_eq_true rfl⟩ dX9_water_30 dX9_water_33 dX9_water_34 dX9_water_36 dX9_water_39 ⟨rfl, ⟨rfl, rfl, rfl⟩⟩
          · refine j_iload C dX9_water_23 rfl ?_
            refine j_bipush C dX9_water_25 rfl ?_
            refine j_icmp_le C (tgt := 40) dX9_water_27 (by decide) rw1 ⟨by omega, by omega⟩ (fun c27 => ?_) (fun c27 => ?_)
            · exfalso; omega
            · exact j_throwS C hr (cls := "java/lang/IllegalArgumentException") (names := ["java/lang/RuntimeException", "java/lang/Exception"]) (text := "no such current or warmth") (j := 9) (by decide +kernel) (by decide +kernel) (ab_t3 (List.mem_of_getElem? (i := 96) rfl) rfl) (ab_t1 (List.mem_of_getElem? (i := 18) rfl) rfl) at_IAE (by decide) rfl (lw_t3 (List.mem_of_getElem? (i := 105) rfl)) ⟨by decide, Nat.le_of_ble_eq_true rfl, Nat.le_of_ble_eq_true rfl⟩ (fun _ => Nat.le_of_ble_eq_true rfl) ⟨Nat.le_of_ble_eq_true rfl, Nat.le_of_ble_eq_true rfl⟩ dX9_water_30 dX9_water_33 dX9_water_34 dX9_water_36 dX9_water_39 ⟨rfl, ⟨rfl, rfl, rfl⟩⟩
      · show ab_J E 5 0 0 S F A 15 [some (aR 0), some (aI sq), some (aI a), some (aI d), some (aI w)] [aI 0]
        refine j_if_eq C (tgt := 30) dX9_water_15 (by decide) ⟨by omega, by omega⟩ (fun c15 => ?_) (fun c15 => ?_)
        · exact j_throwS C hr (cls := "java/lang/IllegalArgumentException") (names := ["java/lang/RuntimeException", "java/lang/Exception"]) (text := "no such current or warmth") (j := 9) (by decide +kernel) (by decide +kernel) (ab_t3 (List.mem_of_getElem? (i := 96) rfl) rfl) (ab_t1 (List.mem_of_getElem? (i := 18) rfl) rfl) at_IAE (by decide) rfl (lw_t3 (List.mem_of_getElem? (i := 105) rfl)) ⟨by decide, Nat.le_of_ble_eq_true rfl, Nat.le_of_ble_eq_true rfl⟩ (fun _ => Nat.le_of_ble_eq_true rfl) ⟨Nat.le_of_ble_eq_true rfl, Nat.le_of_ble_eq_true rfl⟩ dX9_water_30 dX9_water_33 dX9_water_34 dX9_water_36 dX9_water_39 ⟨rfl, ⟨rfl, rfl, rfl⟩⟩
        · exact absurd c15 (by decide)
  · show ab_J E 5 0 0 S F A 8 [some (aR 0), some (aI sq), some (aI a), some (aI d), some (aI w)] [aI 0]
    refine j_if_eq C (tgt := 30) dX9_water_8 (by decide) ⟨by omega, by omega⟩ (fun c8 => ?_) (fun c8 => ?_)
    · exact j_throwS C hr (cls := "java/lang/IllegalArgumentException") (names := ["java/lang/RuntimeException", "java/lang/Exception"]) (text := "no such current or warmth") (j := 9) (by decide +kernel) (by decide +kernel) (ab_t3 (List.mem_of_getElem? (i := 96) rfl) rfl) (ab_t1 (List.mem_of_getElem? (i := 18) rfl) rfl) at_IAE (by decide) rfl (lw_t3 (List.mem_of_getElem? (i := 105) rfl)) ⟨by decide, Nat.le_of_ble_eq_true rfl, Nat.le_of_ble_eq_true rfl⟩ (fun _ => Nat.le_of_ble_eq_true rfl) ⟨Nat.le_of_ble_eq_true rfl, Nat.le_of_ble_eq_true rfl⟩ dX9_water_30 dX9_water_33 dX9_water_34 dX9_water_36 dX9_water_39 ⟨rfl, ⟨rfl, rfl, rfl⟩⟩
    · exact absurd c8 (by decide)

set_option maxHeartbeats 4000000 in
set_option maxRecDepth 100000 in
theorem x_land1 (l : Launch) (S : ab_St) (F : ab_Fn) (A : ab_An) (hS : ab_SC S) (sq z : Int) (rs : inR sq) (h1 : ¬ (0 ≤ sq ∧ sq ≤ 279)) : ab_XMet l yX9_land cX9_land 3 none { frames := 7, cells := 1, slots := 6, locals := 110 } 1 6 [aR 0, aI sq, aI z] S F A (fun X9 S' F' A' => X9 = "java/lang/IndexOutOfBoundsException" ∧ (S = S' ∧ F = F' ∧ A = A')) := by
  refine ab_enterX (by decide) (by simp [aI, aR, aX, ab_val, Value.category]) (Nat.le_of_ble_eq_true rfl) (fun E C hr => ?_)
  refine j_eq (lv' := [some (aR 0), some (aI sq), some (aI z)]) ?_
  refine j_iload_n C dX9_land_0 rfl rfl ?_
  exact j_callXS C hr (vs := [aI sq]) (st := []) cl_X9_85 sc_yX9_checkSquare (fun _ => (x_checkSquare _ S F A hS _ rs h1)) rfl ⟨rfl, rfl, by decide, by decide⟩ ⟨by decide, by decide⟩ (fun _ => Nat.le_of_ble_eq_true rfl) dX9_land_1 ⟨by decide, by decide⟩ (fun _ _ _ _ h => h)

set_option maxHeartbeats 4000000 in
set_option maxRecDepth 100000 in
theorem x_land2 (l : Launch) (S : ab_St) (F : ab_Fn) (A : ab_An) (hS : ab_SC S) (sq z : Int) (h1 : 0 ≤ sq ∧ sq ≤ 279) (hz : z = 0 ∨ z = 1) (hBg : BG S (F 2 2)) (hb : 0 ≤ F 2 2 ∧ F 2 2 ≤ 10) (hp : ∀ b, 0 ≤ b → b < F 2 2 → inR (A (220 + b.toNat) sq)) (h2 : z = 1 ∧ exB (fun bb => 0 < A (220 + bb.toNat) sq) (F 2 2)) : ab_XMet l yX9_land cX9_land 3 none { frames := 7, cells := 1, slots := 6, locals := 110 } 1 6 [aR 0, aI sq, aI z] S F A (fun X9 S' F' A' => X9 = "java/lang/IllegalStateException" ∧ (S = S' ∧ F = F' ∧ A = A')) := by
  refine ab_enterX (by decide) (by simp [aI, aR, aX, ab_val, Value.category]) (Nat.le_of_ble_eq_true rfl) (fun E C hr => ?_)
  refine j_eq (lv' := [some (aR 0), some (aI sq), some (aI z)]) ?_
  refine j_iload_n C dX9_land_0 rfl rfl ?_
  refine j_callS C (vs := [aI sq]) (st := []) cl_X9_85 sc_yX9_checkSquare (fun _ => (c_checkSquare _ S F A hS _ h1)) rfl ⟨rfl, rfl, by decide, by decide⟩ ⟨by decide, by decide⟩ (fun _ => Nat.le_of_ble_eq_true rfl) (fun v hv => by cases hv) (fun v hv => by simp only [List.mem_cons, List.not_mem_nil, or_false, Option.some.injEq, reduceCtorEq, false_or] at hv; rcases hv with rfl | rfl | rfl <;> first | exact (lS ((sC_0 hS))) | exact trivial) dX9_land_1 (fun v_1 S_1 F_1 A_1 hP_1 => ?_)
  obtain ⟨rfl, rfl, rfl, rfl⟩ := hP_1
  show ab_J E 3 0 0 S F A 4 [some (aR 0), some (aI sq), some (aI z)] []
  refine j_iload_n C dX9_land_4 rfl rfl ?_
  refine j_if_eq C (tgt := 26) dX9_land_5 (by decide) ⟨by omega, by omega⟩ (fun c5 => ?_) (fun c5 => ?_)
  · exfalso; omega
  · refine j_aload_n C dX9_land_8 rfl rfl ?_
    refine j_iload_n C dX9_land_9 rfl rfl ?_
    refine j_callV C (vs := [aI sq]) (st := []) cl_X9_108 im_yX9_someBergMayBe se_yX9_someBergMayBe (fun _ => (c_someBerg _ S F A hS _ (by omega) hBg hb hp)) ((sC_0 hS)) rfl rfl rfl ⟨rfl, rfl, by decide, by decide⟩ ⟨by decide, by decide⟩ (fun _ => Nat.le_of_ble_eq_true rfl) (fun v hv => by cases hv) (fun v hv => by simp only [List.mem_cons, List.not_mem_nil, or_false, Option.some.injEq, reduceCtorEq, false_or] at hv; rcases hv with rfl | rfl | rfl <;> first | exact (lS ((sC_0 hS))) | exact trivial) dX9_land_10 (fun v_10 S_10 F_10 A_10 hP_10 => ?_)
    obtain ⟨rfl, rfl, rfl, z_10, rfl, ⟨rfl, hz_10⟩ | ⟨rfl, hz_10⟩⟩ := hP_10
    · show ab_J E 3 0 0 S F A 13 [some (aR 0), some (aI sq), some (aI z)] [aI 1]
      refine j_if_eq C (tgt := 26) dX9_land_13 (by decide) ⟨by omega, by omega⟩ (fun c13 => ?_) (fun c13 => ?_)
      · exact absurd c13 (by decide)
      · exact j_throwS C hr (cls := "java/lang/IllegalStateException") (names := ["java/lang/RuntimeException", "java/lang/Exception"]) (text := "a berg may be there") (j := 10) (by decide +kernel) (by decide +kernel) (ab_t3 (List.mem_of_getElem? (i := 124) rfl) rfl) (ab_t1 (List.mem_of_getElem? (i := 21) rfl) rfl) at_ISE (by decide) rfl (lw_t3 (List.mem_of_getElem? (i := 133) rfl)) ⟨by decide, Nat.le_of_ble_eq_true rfl, Nat.le_of_ble_eq_true rfl⟩ (fun _ => Nat.le_of_ble_eq_true rfl) ⟨Nat.le_of_ble_eq_true rfl, Nat.le_of_ble_eq_true rfl⟩ dX9_land_16 dX9_land_19 dX9_land_20 dX9_land_22 dX9_land_25 ⟨rfl, ⟨rfl, rfl, rfl⟩⟩
    · show ab_J E 3 0 0 S F A 13 [some (aR 0), some (aI sq), some (aI z)] [aI 0]
      refine j_if_eq C (tgt := 26) dX9_land_13 (by decide) ⟨by omega, by omega⟩ (fun c13 => ?_) (fun c13 => ?_)
      · exact absurd h2.2 hz_10
      · exact absurd c13 (by decide)

set_option maxHeartbeats 4000000 in
set_option maxRecDepth 100000 in
theorem x_tell1 (l : Launch) (S : ab_St) (F : ab_Fn) (A : ab_An) (hS : ab_SC S) (sq z : Int) (rs : inR sq) (h1 : ¬ (0 ≤ sq ∧ sq ≤ 279)) : ab_XMet l yX9_tell cX9_tell 4 (some .int) { frames := 7, cells := 1, slots := 6, locals := 171 } 1 6 [aR 0, aI sq, aI z] S F A (fun X9 S' F' A' => X9 = "java/lang/IndexOutOfBoundsException" ∧ (S = S' ∧ F = F' ∧ A = A')) := by
  refine ab_enterX (by decide) (by simp [aI, aR, aX, ab_val, Value.category]) (Nat.le_of_ble_eq_true rfl) (fun E C hr => ?_)
  refine j_eq (lv' := [some (aR 0), some (aI sq), some (aI z), none]) ?_
  refine j_iload_n C dX9_tell_0 rfl rfl ?_
  exact j_callXS C hr (vs := [aI sq]) (st := []) cl_X9_85 sc_yX9_checkSquare (fun _ => (x_checkSquare _ S F A hS _ rs h1)) rfl ⟨rfl, rfl, by decide, by decide⟩ ⟨by decide, by decide⟩ (fun _ => Nat.le_of_ble_eq_true rfl) dX9_tell_1 ⟨by decide, by decide⟩ (fun _ _ _ _ h => h)

set_option maxHeartbeats 4000000 in
set_option maxRecDepth 100000 in
theorem x_tell2 (l : Launch) (S : ab_St) (F : ab_Fn) (A : ab_An) (hS : ab_SC S) (sq z : Int) (h1 : 0 ≤ sq ∧ sq ≤ 279) (rz : inR z) (hdr : A 11 sq = 0 ∨ A 11 sq = 1) (h2 : ¬ (1 ≤ z ∧ z ≤ 1000 ∧ A 11 sq = 0)) : ab_XMet l yX9_tell cX9_tell 4 (some .int) { frames := 7, cells := 1, slots := 6, locals := 171 } 1 6 [aR 0, aI sq, aI z] S F A (fun X9 S' F' A' => X9 = "java/lang/IllegalArgumentException" ∧ (S = S' ∧ F = F' ∧ A = A')) := by
  refine ab_enterX (by decide) (by simp [aI, aR, aX, ab_val, Value.category]) (Nat.le_of_ble_eq_true rfl) (fun E C hr => ?_)
  refine j_eq (lv' := [some (aR 0), some (aI sq), some (aI z), none]) ?_
  refine j_iload_n C dX9_tell_0 rfl rfl ?_
  refine j_callS C (vs := [aI sq]) (st := []) cl_X9_85 sc_yX9_checkSquare (fun _ => (c_checkSquare _ S F A hS _ h1)) rfl ⟨rfl, rfl, by decide, by decide⟩ ⟨by decide, by decide⟩ (fun _ => Nat.le_of_ble_eq_true rfl) (fun v hv => by cases hv) (fun v hv => by simp only [List.mem_cons, List.not_mem_nil, or_false, Option.some.injEq, reduceCtorEq, false_or] at hv; rcases hv with rfl | rfl | rfl <;> first | exact (lS ((sC_0 hS))) | exact trivial) dX9_tell_1 (fun v_1 S_1 F_1 A_1 hP_1 => ?_)
  obtain ⟨rfl, rfl, rfl, rfl⟩ := hP_1
  show ab_J E 4 0 0 S F A 4 [some (aR 0), some (aI sq), some (aI z), none] []
  refine j_iload_n C dX9_tell_4 rfl rfl ?_
  refine j_iconst C dX9_tell_5 ?_
  refine j_icmp_lt C (tgt := 28) dX9_tell_6 (by decide) rz ⟨by omega, by omega⟩ (fun c6 => ?_) (fun c6 => ?_)
  · exact j_throwS C hr (cls := "java/lang/IllegalArgumentException") (names := ["java/lang/RuntimeException", "java/lang/Exception"]) (text := "no such size, or land") (j := 11) (by decide +kernel) (by decide +kernel) (ab_t3 (List.mem_of_getElem? (i := 96) rfl) rfl) (ab_t1 (List.mem_of_getElem? (i := 18) rfl) rfl) at_IAE (by decide) rfl (lw_t3 (List.mem_of_getElem? (i := 148) rfl)) ⟨by decide, Nat.le_of_ble_eq_true rfl, Nat.le_of_ble_eq_true rfl⟩ (fun _ => Nat.le_of_ble_eq_true rfl) ⟨Nat.le_of_ble_eq_true rfl, Nat.le_of_ble_eq_true rfl⟩ dX9_tell_28 dX9_tell_31 dX9_tell_32 dX9_tell_34 dX9_tell_37 ⟨rfl, ⟨rfl, rfl, rfl⟩⟩
  · refine j_iload_n C dX9_tell_9 rfl rfl ?_
    refine j_sipush C dX9_tell_10 rfl ?_
    refine j_icmp_gt C (tgt := 28) dX9_tell_13 (by decide) rz ⟨by omega, by omega⟩ (fun c13 => ?_) (fun c13 => ?_)
    · exact j_throwS C hr (cls := "java/lang/IllegalArgumentException") (names := ["java/lang/RuntimeException", "java/lang/Exception"]) (text := "no such size, or land") (j := 11) (by decide +kernel) (by decide +kernel) (ab_t3 (List.mem_of_getElem? (i := 96) rfl) rfl) (ab_t1 (List.mem_of_getElem? (i := 18) rfl) rfl) at_IAE (by decide) rfl (lw_t3 (List.mem_of_getElem? (i := 148) rfl)) ⟨by decide, Nat.le_of_ble_eq_true rfl, Nat.le_of_ble_eq_true rfl⟩ (fun _ => Nat.le_of_ble_eq_true rfl) ⟨Nat.le_of_ble_eq_true rfl, Nat.le_of_ble_eq_true rfl⟩ dX9_tell_28 dX9_tell_31 dX9_tell_32 dX9_tell_34 dX9_tell_37 ⟨rfl, ⟨rfl, rfl, rfl⟩⟩
    · refine j_aload_n C dX9_tell_16 rfl rfl ?_
      refine j_getR C (j := 1) fl_X9_12 ((sC_0 hS)) rfl dX9_tell_17 ?_
      refine j_getR C (j := 11) fl_X9_116 ((sC_1 hS)) rfl dX9_tell_20 ?_
      refine j_iload_n C dX9_tell_23 rfl rfl ?_
      refine j_zald C ((sC_11 hS)) (by omega) (by omega) (by decide) dX9_tell_24 ?_
      refine j_if_eq C (tgt := 38) dX9_tell_25 (by decide) ⟨by omega, by omega⟩ (fun c25 => ?_) (fun c25 => ?_)
      · exfalso; omega
      · exact j_throwS C hr (cls := "java/lang/IllegalArgumentException") (names := ["java/lang/RuntimeException", "java/lang/Exception"]) (text := "no such size, or land") (j := 11) (by decide +kernel) (by decide +kernel) (ab_t3 (List.mem_of_getElem? (i := 96) rfl) rfl) (ab_t1 (List.mem_of_getElem? (i := 18) rfl) rfl) at_IAE (by decide) rfl (lw_t3 (List.mem_of_getElem? (i := 148) rfl)) ⟨by decide, Nat.le_of_ble_eq_true rfl, Nat.le_of_ble_eq_true rfl⟩ (fun _ => Nat.le_of_ble_eq_true rfl) ⟨Nat.le_of_ble_eq_true rfl, Nat.le_of_ble_eq_true rfl⟩ dX9_tell_28 dX9_tell_31 dX9_tell_32 dX9_tell_34 dX9_tell_37 ⟨rfl, ⟨rfl, rfl, rfl⟩⟩

set_option maxHeartbeats 4000000 in
set_option maxRecDepth 100000 in
theorem x_tell3 (l : Launch) (S : ab_St) (F : ab_Fn) (A : ab_An) (hS : ab_SC S) (sq z : Int) (h1 : 0 ≤ sq ∧ sq ≤ 279) (h2 : 1 ≤ z ∧ z ≤ 1000) (hdry : A 11 sq = 0) (hBg : BG S (F 2 2)) (hb : 0 ≤ F 2 2 ∧ F 2 2 ≤ 10) (U : Int → bst) (hU : ∀ b, 0 ≤ b → b < F 2 2 → BC F A b.toNat (U b) ∧ BW (U b)) (h3 : bBest U sq z (F 2 2) (-1)) (h4 : F 2 2 = 10) (hb1 : ∀ r, bBest U sq z (F 2 2) r → r = -1) : ab_XMet l yX9_tell cX9_tell 4 (some .int) { frames := 7, cells := 1, slots := 6, locals := 171 } 1 6 [aR 0, aI sq, aI z] S F A (fun X9 S' F' A' => X9 = "java/lang/UnsupportedOperationException" ∧ (S = S' ∧ F = F' ∧ A = A')) := by
  refine ab_enterX (by decide) (by simp [aI, aR, aX, ab_val, Value.category]) (Nat.le_of_ble_eq_true rfl) (fun E C hr => ?_)
  refine j_eq (lv' := [some (aR 0), some (aI sq), some (aI z), none]) ?_
  have hB := hBg
  obtain ⟨hB1, eb, hl2, hB3, hB4, hB5⟩ := hB
  refine j_iload_n C dX9_tell_0 rfl rfl ?_
  refine j_callS C (vs := [aI sq]) (st := []) cl_X9_85 sc_yX9_checkSquare (fun _ => (c_checkSquare _ S F A hS _ h1)) rfl ⟨rfl, rfl, by decide, by decide⟩ ⟨by decide, by decide⟩ (fun _ => Nat.le_of_ble_eq_true rfl) (fun v hv => by cases hv) (fun v hv => by simp only [List.mem_cons, List.not_mem_nil, or_false, Option.some.injEq, reduceCtorEq, false_or] at hv; rcases hv with rfl | rfl | rfl <;> first | exact (lS ((sC_0 hS))) | exact trivial) dX9_tell_1 (fun v_1 S_1 F_1 A_1 hP_1 => ?_)
  obtain ⟨rfl, rfl, rfl, rfl⟩ := hP_1
  show ab_J E 4 0 0 S F A 4 [some (aR 0), some (aI sq), some (aI z), none] []
  refine j_iload_n C dX9_tell_4 rfl rfl ?_
  refine j_iconst C dX9_tell_5 ?_
  refine j_icmp_lt C (tgt := 28) dX9_tell_6 (by decide) ⟨by omega, by omega⟩ ⟨by omega, by omega⟩ (fun c6 => ?_) (fun c6 => ?_)
  · exact absurd c6 (by omega)
  · refine j_iload_n C dX9_tell_9 rfl rfl ?_
    refine j_sipush C dX9_tell_10 rfl ?_
    refine j_icmp_gt C (tgt := 28) dX9_tell_13 (by decide) ⟨by omega, by omega⟩ ⟨by omega, by omega⟩ (fun c13 => ?_) (fun c13 => ?_)
    · exact absurd c13 (by omega)
    · refine j_aload_n C dX9_tell_16 rfl rfl ?_
      refine j_getR C (j := 1) fl_X9_12 ((sC_0 hS)) rfl dX9_tell_17 ?_
      refine j_getR C (j := 11) fl_X9_116 ((sC_1 hS)) rfl dX9_tell_20 ?_
      refine j_iload_n C dX9_tell_23 rfl rfl ?_
      refine j_zald C ((sC_11 hS)) (by omega) (by omega) (by decide) dX9_tell_24 ?_
      refine j_if_eq C (tgt := 38) dX9_tell_25 (by decide) ⟨by omega, by omega⟩ (fun c25 => ?_) (fun c25 => ?_)
      · refine j_aload_n C dX9_tell_38 rfl rfl ?_
        refine j_iload_n C dX9_tell_39 rfl rfl ?_
        refine j_iload_n C dX9_tell_40 rfl rfl ?_
        refine j_callV C (vs := [aI sq, aI z]) (st := []) cl_X9_122 im_yX9_bergToJoin se_yX9_bergToJoin (fun _ => (c_bergToJoin _ S F A hS _ _ h1 h2 hBg hb U hU)) ((sC_0 hS)) rfl rfl rfl ⟨rfl, rfl, by decide, by decide⟩ ⟨by decide, by decide⟩ (fun _ => Nat.le_of_ble_eq_true rfl) (fun v hv => by cases hv) (fun v hv => by simp only [List.mem_cons, List.not_mem_nil, or_false, Option.some.injEq, reduceCtorEq, false_or] at hv; rcases hv with rfl | rfl | rfl <;> first | exact (lS ((sC_0 hS))) | exact trivial) dX9_tell_41 (fun v_41 S_41 F_41 A_41 hP_41 => ?_)
        obtain ⟨rfl, rfl, rfl, r41, rfl, hj41⟩ := hP_41
        show ab_J E 4 0 0 S F A 44 [some (aR 0), some (aI sq), some (aI z), none] [aI r41]
        refine j_istore_n C (lv' := [some (aR 0), some (aI sq), some (aI z), some (aI r41)]) dX9_tell_44 rfl (by decide) rfl ?_
        refine j_iload_n C dX9_tell_45 rfl rfl ?_
        refine j_iconst C dX9_tell_46 ?_
        refine j_icmp_ne C (tgt := 98) dX9_tell_47 (by decide) (by rw [hb1 _ hj41]; exact ⟨by decide, by decide⟩) ⟨by omega, by omega⟩ (fun c47 => ?_) (fun c47 => ?_)
        · exact absurd (hb1 _ hj41) c47
        · refine j_aload_n C dX9_tell_50 rfl rfl ?_
          refine j_getR C (j := 2) fl_X9_19 ((sC_0 hS)) rfl dX9_tell_51 ?_
          refine j_callV C (vs := []) (st := []) cl_X9_126 im_yJx4a65c_size_8abf5 se_yJx4a65c_size_8abf5 (fun _ => (t_size _ S F A _ _ (hl2))) (hl2) rfl rfl rfl ⟨rfl, rfl, by decide, by decide⟩ ⟨by decide, by decide⟩ (fun _ => Nat.le_of_ble_eq_true rfl) (fun v hv => by cases hv) (fun v hv => by simp only [List.mem_cons, List.not_mem_nil, or_false, Option.some.injEq, reduceCtorEq, false_or] at hv; rcases hv with rfl | rfl | rfl | rfl <;> first | exact (lS ((sC_0 hS))) | exact trivial) dX9_tell_54 (fun v_54 S_54 F_54 A_54 hP_54 => ?_)
          obtain ⟨rfl, rfl, rfl, rfl⟩ := hP_54
          show ab_J E 4 0 0 S F A 57 [some (aR 0), some (aI sq), some (aI z), some (aI r41)] [aI (F 2 2)]
          refine j_bipush C dX9_tell_57 rfl ?_
          refine j_icmp_lt C (tgt := 72) dX9_tell_59 (by decide) ⟨by omega, by omega⟩ ⟨by omega, by omega⟩ (fun c59 => ?_) (fun c59 => ?_)
          · exact absurd c59 (by omega)
          · exact j_throwS C hr (cls := "java/lang/UnsupportedOperationException") (names := ["java/lang/RuntimeException", "java/lang/Exception"]) (text := "no more bergs") (j := 12) (by decide +kernel) (by decide +kernel) (ab_t3 (List.mem_of_getElem? (i := 153) rfl) rfl) (ab_t1 (List.mem_of_getElem? (i := 22) rfl) rfl) at_UOE (by decide) rfl (lw_t3 (List.mem_of_getElem? (i := 162) rfl)) ⟨by decide, Nat.le_of_ble_eq_true rfl, Nat.le_of_ble_eq_true rfl⟩ (fun _ => Nat.le_of_ble_eq_true rfl) ⟨Nat.le_of_ble_eq_true rfl, Nat.le_of_ble_eq_true rfl⟩ dX9_tell_62 dX9_tell_65 dX9_tell_66 dX9_tell_68 dX9_tell_71 ⟨rfl, ⟨rfl, rfl, rfl⟩⟩
      · exact absurd hdry c25

set_option maxHeartbeats 4000000 in
set_option maxRecDepth 100000 in
theorem x_step (l : Launch) (S : ab_St) (F : ab_Fn) (A : ab_An) (hS : ab_SC S) (n : Int) (rn : inR n) (h1 : ¬ (0 ≤ n ∧ n ≤ 50)) : ab_XMet l yX9_step cX9_step 4 (some .int) { frames := 6, cells := 1, slots := 6, locals := 92 } 1 6 [aR 0, aI n] S F A (fun X9 S' F' A' => X9 = "java/lang/IllegalArgumentException" ∧ (S = S' ∧ F = F' ∧ A = A')) := by
  refine ab_enterX (by decide) (by simp [aI, aR, aX, ab_val, Value.category]) (Nat.le_of_ble_eq_true rfl) (fun E C hr => ?_)
  refine j_eq (lv' := [some (aR 0), some (aI n), none, none]) ?_
  refine j_iload_n C dX9_step_0 rfl rfl ?_
  refine j_if_lt C (tgt := 10) dX9_step_1 (by decide) rn (fun c1 => ?_) (fun c1 => ?_)
  · exact j_throwS C hr (cls := "java/lang/IllegalArgumentException") (names := ["java/lang/RuntimeException", "java/lang/Exception"]) (text := "no such number of steps") (j := 13) (by decide +kernel) (by decide +kernel) (ab_t3 (List.mem_of_getElem? (i := 96) rfl) rfl) (ab_t1 (List.mem_of_getElem? (i := 18) rfl) rfl) at_IAE (by decide) rfl (lw_t3 (List.mem_of_getElem? (i := 208) rfl)) ⟨by decide, Nat.le_of_ble_eq_true rfl, Nat.le_of_ble_eq_true rfl⟩ (fun _ => Nat.le_of_ble_eq_true rfl) ⟨Nat.le_of_ble_eq_true rfl, Nat.le_of_ble_eq_true rfl⟩ dX9_step_10 dX9_step_13 dX9_step_14 dX9_step_16 dX9_step_19 ⟨rfl, ⟨rfl, rfl, rfl⟩⟩
  · refine j_iload_n C dX9_step_4 rfl rfl ?_
    refine j_bipush C dX9_step_5 rfl ?_
    refine j_icmp_le C (tgt := 20) dX9_step_7 (by decide) rn ⟨by omega, by omega⟩ (fun c7 => ?_) (fun c7 => ?_)
    · exfalso; omega
    · exact j_throwS C hr (cls := "java/lang/IllegalArgumentException") (names := ["java/lang/RuntimeException", "java/lang/Exception"]) (text := "no such number of steps") (j := 13) (by decide +kernel) (by decide +kernel) (ab_t3 (List.mem_of_getElem? (i := 96) rfl) rfl) (ab_t1 (List.mem_of_getElem? (i := 18) rfl) rfl) at_IAE (by decide) rfl (lw_t3 (List.mem_of_getElem? (i := 208) rfl)) ⟨by decide, Nat.le_of_ble_eq_true rfl, Nat.le_of_ble_eq_true rfl⟩ (fun _ => Nat.le_of_ble_eq_true rfl) ⟨Nat.le_of_ble_eq_true rfl, Nat.le_of_ble_eq_true rfl⟩ dX9_step_10 dX9_step_13 dX9_step_14 dX9_step_16 dX9_step_19 ⟨rfl, ⟨rfl, rfl, rfl⟩⟩

set_option maxHeartbeats 4000000 in
set_option maxRecDepth 100000 in
theorem x_look1 (l : Launch) (S : ab_St) (F : ab_Fn) (A : ab_An) (hS : ab_SC S) (sq z : Int) (rs : inR sq) (h1 : ¬ (0 ≤ sq ∧ sq ≤ 279)) : ab_XMet l yX9_look cX9_look 5 (some .int) { frames := 7, cells := 1, slots := 6, locals := 110 } 1 6 [aR 0, aI sq, aI z] S F A (fun X9 S' F' A' => X9 = "java/lang/IndexOutOfBoundsException" ∧ (S = S' ∧ F = F' ∧ A = A')) := by
  refine ab_enterX (by decide) (by simp [aI, aR, aX, ab_val, Value.category]) (Nat.le_of_ble_eq_true rfl) (fun E C hr => ?_)
  refine j_eq (lv' := [some (aR 0), some (aI sq), some (aI z), none, none]) ?_
  refine j_iload_n C dX9_look_0 rfl rfl ?_
  exact j_callXS C hr (vs := [aI sq]) (st := []) cl_X9_85 sc_yX9_checkSquare (fun _ => (x_checkSquare _ S F A hS _ rs h1)) rfl ⟨rfl, rfl, by decide, by decide⟩ ⟨by decide, by decide⟩ (fun _ => Nat.le_of_ble_eq_true rfl) dX9_look_1 ⟨by decide, by decide⟩ (fun _ _ _ _ h => h)

set_option maxHeartbeats 4000000 in
set_option maxRecDepth 100000 in
theorem x_look2 (l : Launch) (S : ab_St) (F : ab_Fn) (A : ab_An) (hS : ab_SC S) (sq z : Int) (h1 : 0 ≤ sq ∧ sq ≤ 279) (rz : inR z) (h2 : ¬ (0 ≤ z ∧ z ≤ 100)) : ab_XMet l yX9_look cX9_look 5 (some .int) { frames := 7, cells := 1, slots := 6, locals := 110 } 1 6 [aR 0, aI sq, aI z] S F A (fun X9 S' F' A' => X9 = "java/lang/IllegalArgumentException" ∧ (S = S' ∧ F = F' ∧ A = A')) := by
  refine ab_enterX (by decide) (by simp [aI, aR, aX, ab_val, Value.category]) (Nat.le_of_ble_eq_true rfl) (fun E C hr => ?_)
  refine j_eq (lv' := [some (aR 0), some (aI sq), some (aI z), none, none]) ?_
  refine j_iload_n C dX9_look_0 rfl rfl ?_
  refine j_callS C (vs := [aI sq]) (st := []) cl_X9_85 sc_yX9_checkSquare (fun _ => (c_checkSquare _ S F A hS _ h1)) rfl ⟨rfl, rfl, by decide, by decide⟩ ⟨by decide, by decide⟩ (fun _ => Nat.le_of_ble_eq_true rfl) (fun v hv => by cases hv) (fun v hv => by simp only [List.mem_cons, List.not_mem_nil, or_false, Option.some.injEq, reduceCtorEq, false_or] at hv; rcases hv with rfl | rfl | rfl <;> first | exact (lS ((sC_0 hS))) | exact trivial) dX9_look_1 (fun v_1 S_1 F_1 A_1 hP_1 => ?_)
  obtain ⟨rfl, rfl, rfl, rfl⟩ := hP_1
  show ab_J E 5 0 0 S F A 4 [some (aR 0), some (aI sq), some (aI z), none, none] []
  refine j_iload_n C dX9_look_4 rfl rfl ?_
  refine j_if_lt C (tgt := 14) dX9_look_5 (by decide) rz (fun c5 => ?_) (fun c5 => ?_)
  · exact j_throwS C hr (cls := "java/lang/IllegalArgumentException") (names := ["java/lang/RuntimeException", "java/lang/Exception"]) (text := "no such sharpness") (j := 14) (by decide +kernel) (by decide +kernel) (ab_t3 (List.mem_of_getElem? (i := 96) rfl) rfl) (ab_t1 (List.mem_of_getElem? (i := 18) rfl) rfl) at_IAE (by decide) rfl (lw_t4 (List.mem_of_getElem? (i := 3) rfl)) ⟨by decide, Nat.le_of_ble_eq_true rfl, Nat.le_of_ble_eq_true rfl⟩ (fun _ => Nat.le_of_ble_eq_true rfl) ⟨Nat.le_of_ble_eq_true rfl, Nat.le_of_ble_eq_true rfl⟩ dX9_look_14 dX9_look_17 dX9_look_18 dX9_look_20 dX9_look_23 ⟨rfl, ⟨rfl, rfl, rfl⟩⟩
  · refine j_iload_n C dX9_look_8 rfl rfl ?_
    refine j_bipush C dX9_look_9 rfl ?_
    refine j_icmp_le C (tgt := 24) dX9_look_11 (by decide) rz ⟨by omega, by omega⟩ (fun c11 => ?_) (fun c11 => ?_)
    · exfalso; omega
    · exact j_throwS C hr (cls := "java/lang/IllegalArgumentException") (names := ["java/lang/RuntimeException", "java/lang/Exception"]) (text := "no such sharpness") (j := 14) (by decide +kernel) (by decide +kernel) (ab_t3 (List.mem_of_getElem? (i := 96) rfl) rfl) (ab_t1 (List.mem_of_getElem? (i := 18) rfl) rfl) at_IAE (by decide) rfl (lw_t4 (List.mem_of_getElem? (i := 3) rfl)) ⟨by decide, Nat.le_of_ble_eq_true rfl, Nat.le_of_ble_eq_true rfl⟩ (fun _ => Nat.le_of_ble_eq_true rfl) ⟨Nat.le_of_ble_eq_true rfl, Nat.le_of_ble_eq_true rfl⟩ dX9_look_14 dX9_look_17 dX9_look_18 dX9_look_20 dX9_look_23 ⟨rfl, ⟨rfl, rfl, rfl⟩⟩

set_option maxHeartbeats 4000000 in
set_option maxRecDepth 100000 in
theorem x_parts1 (l : Launch) (S : ab_St) (F : ab_Fn) (A : ab_An) (hS : ab_SC S) (hBg : BG S (F 2 2)) (hb : 0 ≤ F 2 2 ∧ F 2 2 ≤ 10) (b sq : Int) (rb : inR b) (h1 : ¬ (0 ≤ b ∧ b < F 2 2)) : ab_XMet l yX9_parts cX9_parts 3 (some .int) { frames := 7, cells := 1, slots := 6, locals := 111 } 1 6 [aR 0, aI b, aI sq] S F A (fun X9 S' F' A' => X9 = "java/lang/IndexOutOfBoundsException" ∧ (S = S' ∧ F = F' ∧ A = A')) := by
  refine ab_enterX (by decide) (by simp [aI, aR, aX, ab_val, Value.category]) (Nat.le_of_ble_eq_true rfl) (fun E C hr => ?_)
  refine j_eq (lv' := [some (aR 0), some (aI b), some (aI sq)]) ?_
  refine j_aload_n C dX9_parts_0 rfl rfl ?_
  refine j_iload_n C dX9_parts_1 rfl rfl ?_
  exact j_callXV C hr (vs := [aI b]) (st := []) cl_X9_161 im_yX9_checkBerg se_yX9_checkBerg (fun _ => (x_checkBerg _ S F A hS hBg hb _ rb h1)) ((sC_0 hS)) rfl rfl rfl ⟨rfl, rfl, by decide, by decide⟩ ⟨by decide, by decide⟩ (fun _ => Nat.le_of_ble_eq_true rfl) dX9_parts_2 ⟨by decide, by decide⟩ (fun _ _ _ _ h => h)

set_option maxHeartbeats 4000000 in
set_option maxRecDepth 100000 in
theorem x_parts2 (l : Launch) (S : ab_St) (F : ab_Fn) (A : ab_An) (hS : ab_SC S) (hBg : BG S (F 2 2)) (hb : 0 ≤ F 2 2 ∧ F 2 2 ≤ 10) (b sq : Int) (h0 : 0 ≤ b ∧ b < F 2 2) (rs : inR sq) (h1 : ¬ (0 ≤ sq ∧ sq ≤ 279)) : ab_XMet l yX9_parts cX9_parts 3 (some .int) { frames := 7, cells := 1, slots := 6, locals := 111 } 1 6 [aR 0, aI b, aI sq] S F A (fun X9 S' F' A' => X9 = "java/lang/IndexOutOfBoundsException" ∧ (S = S' ∧ F = F' ∧ A = A')) := by
  refine ab_enterX (by decide) (by simp [aI, aR, aX, ab_val, Value.category]) (Nat.le_of_ble_eq_true rfl) (fun E C hr => ?_)
  refine j_eq (lv' := [some (aR 0), some (aI b), some (aI sq)]) ?_
  refine j_aload_n C dX9_parts_0 rfl rfl ?_
  refine j_iload_n C dX9_parts_1 rfl rfl ?_
  refine j_callV C (vs := [aI b]) (st := []) cl_X9_161 im_yX9_checkBerg se_yX9_checkBerg (fun _ => (c_checkBerg _ S F A hS hBg hb _ h0)) ((sC_0 hS)) rfl rfl rfl ⟨rfl, rfl, by decide, by decide⟩ ⟨by decide, by decide⟩ (fun _ => Nat.le_of_ble_eq_true rfl) (fun v hv => by cases hv) (fun v hv => by simp only [List.mem_cons, List.not_mem_nil, or_false, Option.some.injEq, reduceCtorEq, false_or] at hv; rcases hv with rfl | rfl | rfl <;> first | exact (lS ((sC_0 hS))) | exact trivial) dX9_parts_2 (fun v_2 S_2 F_2 A_2 hP_2 => ?_)
  obtain ⟨rfl, rfl, rfl, rfl⟩ := hP_2
  show ab_J E 3 0 0 S F A 5 [some (aR 0), some (aI b), some (aI sq)] []
  refine j_iload_n C dX9_parts_5 rfl rfl ?_
  exact j_callXS C hr (vs := [aI sq]) (st := []) cl_X9_85 sc_yX9_checkSquare (fun _ => (x_checkSquare _ S F A hS _ rs h1)) rfl ⟨rfl, rfl, by decide, by decide⟩ ⟨by decide, by decide⟩ (fun _ => Nat.le_of_ble_eq_true rfl) dX9_parts_6 ⟨by decide, by decide⟩ (fun _ _ _ _ h => h)

set_option maxHeartbeats 4000000 in
set_option maxRecDepth 100000 in
theorem x_berg1 (l : Launch) (S : ab_St) (F : ab_Fn) (A : ab_An) (hS : ab_SC S) (hBg : BG S (F 2 2)) (hb : 0 ≤ F 2 2 ∧ F 2 2 ≤ 10) (b w : Int) (rb : inR b) (h1 : ¬ (0 ≤ b ∧ b < F 2 2)) : ab_XMet l yX9_berg cX9_berg 4 (some .int) { frames := 7, cells := 1, slots := 6, locals := 111 } 1 6 [aR 0, aI b, aI w] S F A (fun X9 S' F' A' => X9 = "java/lang/IndexOutOfBoundsException" ∧ (S = S' ∧ F = F' ∧ A = A')) := by
  refine ab_enterX (by decide) (by simp [aI, aR, aX, ab_val, Value.category]) (Nat.le_of_ble_eq_true rfl) (fun E C hr => ?_)
  refine j_eq (lv' := [some (aR 0), some (aI b), some (aI w), none]) ?_
  refine j_aload_n C dX9_berg_0 rfl rfl ?_
  refine j_iload_n C dX9_berg_1 rfl rfl ?_
  exact j_callXV C hr (vs := [aI b]) (st := []) cl_X9_161 im_yX9_checkBerg se_yX9_checkBerg (fun _ => (x_checkBerg _ S F A hS hBg hb _ rb h1)) ((sC_0 hS)) rfl rfl rfl ⟨rfl, rfl, by decide, by decide⟩ ⟨by decide, by decide⟩ (fun _ => Nat.le_of_ble_eq_true rfl) dX9_berg_2 ⟨by decide, by decide⟩ (fun _ _ _ _ h => h)

set_option maxHeartbeats 4000000 in
set_option maxRecDepth 100000 in
theorem x_read1 (l : Launch) (S : ab_St) (F : ab_Fn) (A : ab_An) (hS : ab_SC S) (he : 0 ≤ F 4 1 ∧ F 4 1 ≤ 400) (hT : ∀ i, 0 ≤ i → i < F 4 1 → 0 ≤ A 15 i ∧ A 15 i ≤ 255) (hrd : (rdS (byt (A 15) (F 4 1)) (F 4 1)).1 ≠ -1) : ab_XMet l yX9_read cX9_read 1 (some .int) { frames := 8, cells := 1, slots := 6, locals := 192 } 1 6 [aR 0] S F A (fun X9 S' F' A' => X9 = "java/lang/IllegalArgumentException" ∧ (S = S' ∧ F' 0 12 = (rdS (byt (A 15) (F 4 1)) (F 4 1)).1 ∧ (∀ k, k ≠ 12 → F' 0 k = F 0 k) ∧ F' 4 1 = 0 ∧ (∀ k, k ≠ 1 → F' 4 k = F 4 k) ∧ (∀ i, i ≠ 0 → i ≠ 4 → i ≠ 5 → i ≠ 6 → F' i = F i) ∧ (∀ i, i ≠ 16 → i ≠ 17 → A' i = A i) ∧ -1 ≤ (rdS (byt (A 15) (F 4 1)) (F 4 1)).1 ∧ (rdS (byt (A 15) (F 4 1)) (F 4 1)).1 ≤ 400)) := by
  refine ab_enterX (by decide) (by simp [aI, aR, aX, ab_val, Value.category]) (Nat.le_of_ble_eq_true rfl) (fun E C hr => ?_)
  refine j_eq (lv' := [some (aR 0)]) ?_
  refine j_aload_n C dX9_read_0 rfl rfl ?_
  refine j_aload_n C dX9_read_1 rfl rfl ?_
  refine j_getR C (j := 5) fl_X9_29 ((sC_0 hS)) rfl dX9_read_2 ?_
  refine j_callV C (vs := []) (st := [aR 0]) cl_X9_215 im_yX7_findFirstWrong se_yX7_findFirstWrong (fun _ => (c_findFirstWrong _ S F A hS he hT)) ((sC_5 hS)) rfl rfl rfl ⟨rfl, rfl, by decide, by decide⟩ ⟨by decide, by decide⟩ (fun _ => Nat.le_of_ble_eq_true rfl) (fun v hv => by simp only [List.mem_cons, List.not_mem_nil, or_false] at hv; rcases hv with rfl <;> first | exact (lS ((sC_0 hS)))) (fun v hv => by simp only [List.mem_cons, List.not_mem_nil, or_false, Option.some.injEq, reduceCtorEq, false_or] at hv; rcases hv with rfl <;> first | exact (lS ((sC_0 hS)))) dX9_read_5 (fun v_5 S_5 F_5 A_5 hP_5 => ?_)
  obtain ⟨rfl, a5, c5, rfl, rfl, hO5, hc5, hri5⟩ := hP_5
  show ab_J E 1 0 0 S (upF (upF F 5 2 a5) 6 2 c5) A_5 8 [some (aR 0)] [aI ((rdS (byt (A 15) (F 4 1)) (F 4 1)).1), aR 0]
  refine j_putI C fp_X9_73 ((sC_0 hS)) rfl dX9_read_8 ?_
  refine j_aload_n C dX9_read_11 rfl rfl ?_
  refine j_getR C (j := 4) fl_X9_37 ((sC_0 hS)) rfl dX9_read_12 ?_
  refine j_iconst C dX9_read_15 ?_
  refine j_putI C fp_X9_76 ((sC_4 hS)) rfl dX9_read_16 ?_
  refine j_aload_n C dX9_read_19 rfl rfl ?_
  refine j_get C (aI ((rdS (byt (A 15) (F 4 1)) (F 4 1)).1)) fl_X9_73 ((sC_0 hS)) (fun _ => rfl) dX9_read_20 ?_
  refine j_iconst C dX9_read_23 ?_
  refine j_icmp_eq C (tgt := 37) dX9_read_24 (by decide) ⟨by omega, by omega⟩ ⟨by omega, by omega⟩ (fun c24 => ?_) (fun c24 => ?_)
  · exact absurd c24 hrd
  · exact j_throwS C hr (cls := "java/lang/IllegalArgumentException") (names := ["java/lang/RuntimeException", "java/lang/Exception"]) (text := "the text is wrong") (j := 17) (by decide +kernel) (by decide +kernel) (ab_t3 (List.mem_of_getElem? (i := 96) rfl) rfl) (ab_t1 (List.mem_of_getElem? (i := 18) rfl) rfl) at_IAE (by decide) rfl (lw_t4 (List.mem_of_getElem? (i := 139) rfl)) ⟨by decide, Nat.le_of_ble_eq_true rfl, Nat.le_of_ble_eq_true rfl⟩ (fun _ => Nat.le_of_ble_eq_true rfl) ⟨Nat.le_of_ble_eq_true rfl, Nat.le_of_ble_eq_true rfl⟩ dX9_read_27 dX9_read_30 dX9_read_31 dX9_read_33 dX9_read_36 ⟨rfl, ⟨rfl, by first | rfl | (rw [upF_o (by decide), upF_at]), fun k z => by rw [upF_o (by decide), upF_ne z, upF_o (by decide), upF_o (by decide)], upF_at _ _ _ _, fun k z => by rw [upF_ne z, upF_o (by decide), upF_o (by decide), upF_o (by decide)], fun i z1 z2 z3 z4 => by rw [upF_o z2, upF_o z1, upF_o z4, upF_o z3], hO5, hri5⟩⟩

set_option maxHeartbeats 4000000 in
set_option maxRecDepth 100000 in
theorem x_read2 (l : Launch) (S : ab_St) (F : ab_Fn) (A : ab_An) (hS : ab_SC S) (he : 0 ≤ F 4 1 ∧ F 4 1 ≤ 400) (hT : ∀ i, 0 ≤ i → i < F 4 1 → 0 ≤ A 15 i ∧ A 15 i ≤ 255) (hrd : (rdS (byt (A 15) (F 4 1)) (F 4 1)).1 = -1) (nc : Nat → Nat) (hWg : WG S nc (F 3 2)) (hw9 : 0 ≤ F 3 2 ∧ F 3 2 ≤ 40) (h40 : F 3 2 = 40) : ab_XMet l yX9_read cX9_read 1 (some .int) { frames := 8, cells := 1, slots := 6, locals := 192 } 1 6 [aR 0] S F A (fun X9 S' F' A' => X9 = "java/lang/UnsupportedOperationException" ∧ (S = S' ∧ F' 0 12 = (rdS (byt (A 15) (F 4 1)) (F 4 1)).1 ∧ (∀ k, k ≠ 12 → F' 0 k = F 0 k) ∧ F' 4 1 = 0 ∧ (∀ k, k ≠ 1 → F' 4 k = F 4 k) ∧ (∀ i, i ≠ 0 → i ≠ 4 → i ≠ 5 → i ≠ 6 → F' i = F i) ∧ (∀ i, i ≠ 16 → i ≠ 17 → A' i = A i) ∧ -1 ≤ (rdS (byt (A 15) (F 4 1)) (F 4 1)).1 ∧ (rdS (byt (A 15) (F 4 1)) (F 4 1)).1 ≤ 400)) := by
  refine ab_enterX (by decide) (by simp [aI, aR, aX, ab_val, Value.category]) (Nat.le_of_ble_eq_true rfl) (fun E C hr => ?_)
  refine j_eq (lv' := [some (aR 0)]) ?_
  have hWg2 := hWg
  obtain ⟨hW1, ew, Nw, hl3, hN3, hW3, hW4, hW5⟩ := hWg
  have hri : inR ((rdS (byt (A 15) (F 4 1)) (F 4 1)).1) := by rw [hrd]; exact ⟨by decide, by decide⟩
  refine j_aload_n C dX9_read_0 rfl rfl ?_
  refine j_aload_n C dX9_read_1 rfl rfl ?_
  refine j_getR C (j := 5) fl_X9_29 ((sC_0 hS)) rfl dX9_read_2 ?_
  refine j_callV C (vs := []) (st := [aR 0]) cl_X9_215 im_yX7_findFirstWrong se_yX7_findFirstWrong (fun _ => (c_findFirstWrong _ S F A hS he hT)) ((sC_5 hS)) rfl rfl rfl ⟨rfl, rfl, by decide, by decide⟩ ⟨by decide, by decide⟩ (fun _ => Nat.le_of_ble_eq_true rfl) (fun v hv => by simp only [List.mem_cons, List.not_mem_nil, or_false] at hv; rcases hv with rfl <;> first | exact (lS ((sC_0 hS)))) (fun v hv => by simp only [List.mem_cons, List.not_mem_nil, or_false, Option.some.injEq, reduceCtorEq, false_or] at hv; rcases hv with rfl <;> first | exact (lS ((sC_0 hS)))) dX9_read_5 (fun v_5 S_5 F_5 A_5 hP_5 => ?_)
  obtain ⟨rfl, a5, c5, rfl, rfl, hO5, hc5, hri5⟩ := hP_5
  show ab_J E 1 0 0 S (upF (upF F 5 2 a5) 6 2 c5) A_5 8 [some (aR 0)] [aI ((rdS (byt (A 15) (F 4 1)) (F 4 1)).1), aR 0]
  refine j_putI C fp_X9_73 ((sC_0 hS)) rfl dX9_read_8 ?_
  refine j_aload_n C dX9_read_11 rfl rfl ?_
  refine j_getR C (j := 4) fl_X9_37 ((sC_0 hS)) rfl dX9_read_12 ?_
  refine j_iconst C dX9_read_15 ?_
  refine j_putI C fp_X9_76 ((sC_4 hS)) rfl dX9_read_16 ?_
  refine j_aload_n C dX9_read_19 rfl rfl ?_
  refine j_get C (aI ((rdS (byt (A 15) (F 4 1)) (F 4 1)).1)) fl_X9_73 ((sC_0 hS)) (fun _ => rfl) dX9_read_20 ?_
  refine j_iconst C dX9_read_23 ?_
  refine j_icmp_eq C (tgt := 37) dX9_read_24 (by decide) hri ⟨by omega, by omega⟩ (fun c24 => ?_) (fun c24 => ?_)
  · refine j_aload_n C dX9_read_37 rfl rfl ?_
    refine j_getR C (j := 3) fl_X9_23 ((sC_0 hS)) rfl dX9_read_38 ?_
    refine j_callV C (vs := []) (st := []) cl_X9_126 im_yJx4a65c_size_8abf5 se_yJx4a65c_size_8abf5 (fun _ => (t_size _ S (upF (upF (upF (upF F 5 2 a5) 6 2 c5) 0 12 ((rdS (byt (A 15) (F 4 1)) (F 4 1)).1)) 4 1 0) A_5 _ _ (hl3))) (hl3) rfl rfl rfl ⟨rfl, rfl, by decide, by decide⟩ ⟨by decide, by decide⟩ (fun _ => Nat.le_of_ble_eq_true rfl) (fun v hv => by cases hv) (fun v hv => by simp only [List.mem_cons, List.not_mem_nil, or_false, Option.some.injEq, reduceCtorEq, false_or] at hv; rcases hv with rfl <;> first | exact (lS ((sC_0 hS)))) dX9_read_41 (fun v_41 S_41 F_41 A_41 hP_41 => ?_)
    obtain ⟨rfl, rfl, rfl, rfl⟩ := hP_41
    show ab_J E 1 0 0 S (upF (upF (upF (upF F 5 2 a5) 6 2 c5) 0 12 ((rdS (byt (A 15) (F 4 1)) (F 4 1)).1)) 4 1 0) A_5 44 [some (aR 0)] [aI (F 3 2)]
    refine j_bipush C dX9_read_44 rfl ?_
    refine j_icmp_lt C (tgt := 59) dX9_read_46 (by decide) ⟨by omega, by omega⟩ ⟨by omega, by omega⟩ (fun c46 => ?_) (fun c46 => ?_)
    · exact absurd c46 (by omega)
    · exact j_throwS C hr (cls := "java/lang/UnsupportedOperationException") (names := ["java/lang/RuntimeException", "java/lang/Exception"]) (text := "no more warnings") (j := 18) (by decide +kernel) (by decide +kernel) (ab_t3 (List.mem_of_getElem? (i := 153) rfl) rfl) (ab_t1 (List.mem_of_getElem? (i := 22) rfl) rfl) at_UOE (by decide) rfl (lw_t4 (List.mem_of_getElem? (i := 140) rfl)) ⟨by decide, Nat.le_of_ble_eq_true rfl, Nat.le_of_ble_eq_true rfl⟩ (fun _ => Nat.le_of_ble_eq_true rfl) ⟨Nat.le_of_ble_eq_true rfl, Nat.le_of_ble_eq_true rfl⟩ dX9_read_49 dX9_read_52 dX9_read_53 dX9_read_55 dX9_read_58 ⟨rfl, ⟨rfl, by first | rfl | (rw [upF_o (by decide), upF_at]), fun k z => by rw [upF_o (by decide), upF_ne z, upF_o (by decide), upF_o (by decide)], upF_at _ _ _ _, fun k z => by rw [upF_ne z, upF_o (by decide), upF_o (by decide), upF_o (by decide)], fun i z1 z2 z3 z4 => by rw [upF_o z2, upF_o z1, upF_o z4, upF_o z3], hO5, hri5⟩⟩
  · exact absurd hrd c24

set_option maxHeartbeats 4000000 in
set_option maxRecDepth 100000 in
theorem x_cancel (l : Launch) (S : ab_St) (F : ab_Fn) (A : ab_An) (hS : ab_SC S) (nc : Nat → Nat) (hWg : WG S nc (F 3 2)) (hw9 : 0 ≤ F 3 2 ∧ F 3 2 ≤ 40) (w : Int) (rw1 : inR w) (h1 : ¬ (0 ≤ w ∧ w < F 3 2)) : ab_XMet l yX9_cancel cX9_cancel 3 (some .boolean) { frames := 7, cells := 1, slots := 6, locals := 111 } 1 6 [aR 0, aI w] S F A (fun X9 S' F' A' => X9 = "java/lang/IndexOutOfBoundsException" ∧ (S = S' ∧ F = F' ∧ A = A')) := by
  refine ab_enterX (by decide) (by simp [aI, aR, aX, ab_val, Value.category]) (Nat.le_of_ble_eq_true rfl) (fun E C hr => ?_)
  refine j_eq (lv' := [some (aR 0), some (aI w), none]) ?_
  have hWg2 := hWg
  refine j_aload_n C dX9_cancel_0 rfl rfl ?_
  refine j_iload_n C dX9_cancel_1 rfl rfl ?_
  exact j_callXV C hr (vs := [aI w]) (st := []) cl_X9_223 im_yX9_checkWarning se_yX9_checkWarning (fun _ => (x_checkWarning _ S F A hS nc hWg2 hw9 _ rw1 h1)) ((sC_0 hS)) rfl rfl rfl ⟨rfl, rfl, by decide, by decide⟩ ⟨by decide, by decide⟩ (fun _ => Nat.le_of_ble_eq_true rfl) dX9_cancel_2 ⟨by decide, by decide⟩ (fun _ _ _ _ h => h)

set_option maxHeartbeats 4000000 in
set_option maxRecDepth 100000 in
theorem x_force (l : Launch) (S : ab_St) (F : ab_Fn) (A : ab_An) (hS : ab_SC S) (nc : Nat → Nat) (hWg : WG S nc (F 3 2)) (hw9 : 0 ≤ F 3 2 ∧ F 3 2 ≤ 40) (w st : Int) (rw1 : inR w) (h1 : ¬ (0 ≤ w ∧ w < F 3 2)) : ab_XMet l yX9_force cX9_force 3 (some .boolean) { frames := 7, cells := 1, slots := 6, locals := 111 } 1 6 [aR 0, aI w, aI st] S F A (fun X9 S' F' A' => X9 = "java/lang/IndexOutOfBoundsException" ∧ (S = S' ∧ F = F' ∧ A = A')) := by
  refine ab_enterX (by decide) (by simp [aI, aR, aX, ab_val, Value.category]) (Nat.le_of_ble_eq_true rfl) (fun E C hr => ?_)
  refine j_eq (lv' := [some (aR 0), some (aI w), some (aI st)]) ?_
  have hWg2 := hWg
  refine j_aload_n C dX9_force_0 rfl rfl ?_
  refine j_iload_n C dX9_force_1 rfl rfl ?_
  exact j_callXV C hr (vs := [aI w]) (st := []) cl_X9_223 im_yX9_checkWarning se_yX9_checkWarning (fun _ => (x_checkWarning _ S F A hS nc hWg2 hw9 _ rw1 h1)) ((sC_0 hS)) rfl rfl rfl ⟨rfl, rfl, by decide, by decide⟩ ⟨by decide, by decide⟩ (fun _ => Nat.le_of_ble_eq_true rfl) dX9_force_2 ⟨by decide, by decide⟩ (fun _ _ _ _ h => h)

set_option maxHeartbeats 4000000 in
set_option maxRecDepth 100000 in
theorem x_write (l : Launch) (S : ab_St) (F : ab_Fn) (A : ab_An) (hS : ab_SC S) (nc : Nat → Nat) (hWg : WG S nc (F 3 2)) (hw9 : 0 ≤ F 3 2 ∧ F 3 2 ≤ 40) (w : Int) (rw1 : inR w) (h1 : ¬ (0 ≤ w ∧ w < F 3 2)) : ab_XMet l yX9_write cX9_write 4 (some .int) { frames := 7, cells := 1, slots := 6, locals := 128 } 1 6 [aR 0, aI w] S F A (fun X9 S' F' A' => X9 = "java/lang/IndexOutOfBoundsException" ∧ (S = S' ∧ F = F' ∧ A = A')) := by
  refine ab_enterX (by decide) (by simp [aI, aR, aX, ab_val, Value.category]) (Nat.le_of_ble_eq_true rfl) (fun E C hr => ?_)
  refine j_eq (lv' := [some (aR 0), some (aI w), none, none]) ?_
  have hWg2 := hWg
  refine j_aload_n C dX9_write_0 rfl rfl ?_
  refine j_iload_n C dX9_write_1 rfl rfl ?_
  exact j_callXV C hr (vs := [aI w]) (st := []) cl_X9_223 im_yX9_checkWarning se_yX9_checkWarning (fun _ => (x_checkWarning _ S F A hS nc hWg2 hw9 _ rw1 h1)) ((sC_0 hS)) rfl rfl rfl ⟨rfl, rfl, by decide, by decide⟩ ⟨by decide, by decide⟩ (fun _ => Nat.le_of_ble_eq_true rfl) dX9_write_2 ⟨by decide, by decide⟩ (fun _ _ _ _ h => h)

set_option maxHeartbeats 4000000 in
set_option maxRecDepth 100000 in
theorem x_way1 (l : Launch) (S : ab_St) (F : ab_Fn) (A : ab_An) (hS : ab_SC S) (sq b st : Int) (rs : inR sq) (h1 : ¬ (0 ≤ sq ∧ sq ≤ 279)) : ab_XMet l yX9_way cX9_way 5 (some .int) { frames := 7, cells := 1, slots := 6, locals := 110 } 1 6 [aR 0, aI sq, aI b, aI st] S F A (fun X9 S' F' A' => X9 = "java/lang/IndexOutOfBoundsException" ∧ (S = S' ∧ F = F' ∧ A = A')) := by
  refine ab_enterX (by decide) (by simp [aI, aR, aX, ab_val, Value.category]) (Nat.le_of_ble_eq_true rfl) (fun E C hr => ?_)
  refine j_eq (lv' := [some (aR 0), some (aI sq), some (aI b), some (aI st), none]) ?_
  refine j_iload_n C dX9_way_0 rfl rfl ?_
  exact j_callXS C hr (vs := [aI sq]) (st := []) cl_X9_85 sc_yX9_checkSquare (fun _ => (x_checkSquare _ S F A hS _ rs h1)) rfl ⟨rfl, rfl, by decide, by decide⟩ ⟨by decide, by decide⟩ (fun _ => Nat.le_of_ble_eq_true rfl) dX9_way_1 ⟨by decide, by decide⟩ (fun _ _ _ _ h => h)

set_option maxHeartbeats 4000000 in
set_option maxRecDepth 100000 in
theorem x_way2 (l : Launch) (S : ab_St) (F : ab_Fn) (A : ab_An) (hS : ab_SC S) (a sq st : Int) (h0 : 0 ≤ a ∧ a ≤ 279) (rs : inR sq) (h1 : ¬ (0 ≤ sq ∧ sq ≤ 279)) : ab_XMet l yX9_way cX9_way 5 (some .int) { frames := 7, cells := 1, slots := 6, locals := 110 } 1 6 [aR 0, aI a, aI sq, aI st] S F A (fun X9 S' F' A' => X9 = "java/lang/IndexOutOfBoundsException" ∧ (S = S' ∧ F = F' ∧ A = A')) := by
  refine ab_enterX (by decide) (by simp [aI, aR, aX, ab_val, Value.category]) (Nat.le_of_ble_eq_true rfl) (fun E C hr => ?_)
  refine j_eq (lv' := [some (aR 0), some (aI a), some (aI sq), some (aI st), none]) ?_
  refine j_iload_n C dX9_way_0 rfl rfl ?_
  refine j_callS C (vs := [aI a]) (st := []) cl_X9_85 sc_yX9_checkSquare (fun _ => (c_checkSquare _ S F A hS _ h0)) rfl ⟨rfl, rfl, by decide, by decide⟩ ⟨by decide, by decide⟩ (fun _ => Nat.le_of_ble_eq_true rfl) (fun v hv => by cases hv) (fun v hv => by simp only [List.mem_cons, List.not_mem_nil, or_false, Option.some.injEq, reduceCtorEq, false_or] at hv; rcases hv with rfl | rfl | rfl | rfl <;> first | exact (lS ((sC_0 hS))) | exact trivial) dX9_way_1 (fun v_1 S_1 F_1 A_1 hP_1 => ?_)
  obtain ⟨rfl, rfl, rfl, rfl⟩ := hP_1
  show ab_J E 5 0 0 S F A 4 [some (aR 0), some (aI a), some (aI sq), some (aI st), none] []
  refine j_iload_n C dX9_way_4 rfl rfl ?_
  exact j_callXS C hr (vs := [aI sq]) (st := []) cl_X9_85 sc_yX9_checkSquare (fun _ => (x_checkSquare _ S F A hS _ rs h1)) rfl ⟨rfl, rfl, by decide, by decide⟩ ⟨by decide, by decide⟩ (fun _ => Nat.le_of_ble_eq_true rfl) dX9_way_5 ⟨by decide, by decide⟩ (fun _ _ _ _ h => h)
