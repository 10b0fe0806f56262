set_option maxHeartbeats 4000000 in
set_option maxRecDepth 100000 in
theorem x_berg2 (l : Launch) (S : ab_St) (F : ab_Fn) (A : ab_An) (hS : ab_SC S) (hBg : BG S (F 2 2)) (hb : 0 ≤ F 2 2 ∧ F 2 2 ≤ 10) (b w : Int) (h1 : 0 ≤ b ∧ b < F 2 2) (rw1 : inR w) (h2 : ¬ (0 ≤ w ∧ w ≤ 5)) : ab_XMet l yX9_berg cX9_berg 4 (some .int) { frames := 7, cells := 1, slots := 6, locals := 111 } 1 6 [aR 0, aI b, aI w] S F A (fun X9 S' F' A' => X9 = "java/util/NoSuchElementException" ∧ (S = S' ∧ F = F' ∧ A = A')) := by
  refine ab_enterX (by decide) (by simp [aI, aR, aX, ab_val, Value.category]) (Nat.le_of_ble_eq_true rfl) (fun E C hr => ?_)
  refine j_eq (lv' := [some (aR 0), some (aI b), some (aI w), none]) ?_
  have hB := hBg
  obtain ⟨hB1, eb, hl2, hB3, hB4, hB5⟩ := hB
  refine j_aload_n C dX9_berg_0 rfl rfl ?_
  refine j_iload_n C dX9_berg_1 rfl rfl ?_
  refine j_callV C (vs := [aI b]) (st := []) cl_X9_161 im_yX9_checkBerg se_yX9_checkBerg (fun _ => (c_checkBerg _ S F A hS hBg hb _ h1)) ((sC_0 hS)) rfl rfl rfl ⟨rfl, rfl, by decide, by decide⟩ ⟨by decide, by decide⟩ (fun _ => Nat.le_of_ble_eq_true rfl) (fun v hv => by cases hv) (fun v hv => by simp only [List.mem_cons, List.not_mem_nil, or_false, Option.some.injEq, reduceCtorEq, false_or] at hv; rcases hv with rfl | rfl | rfl <;> first | exact (lS ((sC_0 hS))) | exact trivial) dX9_berg_2 (fun v_2 S_2 F_2 A_2 hP_2 => ?_)
  obtain ⟨rfl, rfl, rfl, rfl⟩ := hP_2
  show ab_J E 4 0 0 S F A 5 [some (aR 0), some (aI b), some (aI w), none] []
  refine j_aload_n C dX9_berg_5 rfl rfl ?_
  refine j_getR C (j := 2) fl_X9_19 ((sC_0 hS)) rfl dX9_berg_6 ?_
  refine j_iload_n C dX9_berg_9 rfl rfl ?_
  obtain ⟨c2_10, he2_10, hc2_10⟩ := hB3 (by omega)
  refine j_callV C (vs := [aI b]) (st := []) cl_X9_142 im_yJx4a65c_get_915e3 se_yJx4a65c_get_915e3 (fun _ => (t_get _ S F A _ _ _ (200 + (b).toNat) _ _ (hl2) he2_10 (by show 0 ≤ b ∧ b < F 2 2; omega) (by show F 2 2 ≤ 10; omega) (by decide) (hc2_10 _ (by omega)))) (hl2) rfl rfl rfl ⟨rfl, rfl, by decide, by decide⟩ ⟨by decide, by decide⟩ (fun _ => Nat.le_of_ble_eq_true rfl) (fun v hv => by cases hv) (fun v hv => by simp only [List.mem_cons, List.not_mem_nil, or_false, Option.some.injEq, reduceCtorEq, false_or] at hv; rcases hv with rfl | rfl | rfl <;> first | exact (lS ((sC_0 hS))) | exact trivial) dX9_berg_10 (fun v_10 S_10 F_10 A_10 hP_10 => ?_)
  obtain ⟨rfl, rfl, rfl, rfl⟩ := hP_10
  show ab_J E 4 0 0 S F A 13 [some (aR 0), some (aI b), some (aI w), none] [aR (200 + (b).toNat)]
  refine j_cast C ((hB1 ((b).toNat) (by omega)).1) rfl (ab_t2 (List.mem_of_getElem? (i := 51) rfl) rfl) dX9_berg_13 ?_
  refine j_astore_n C (lv' := [some (aR 0), some (aI b), some (aI w), some (aR (200 + (b).toNat))]) dX9_berg_16 rfl (by decide) rfl ?_
  refine j_iload_n C dX9_berg_17 rfl rfl ?_
  rcases (show w < 0 ∨ 5 < w ∨ w = 0 ∨ w = 1 ∨ w = 2 ∨ w = 3 ∨ w = 4 ∨ w = 5 by omega) with c18 | c18 | c18 | c18 | c18 | c18 | c18 | c18
  · refine j_tableOut C (tgt := 97) dX9_berg_18 rw1 (Or.inl c18) (by decide) ?_
    exact j_throwSN C rfl hr (text := "nothing such is known of a berg") (j := 16) (by decide) rfl (lw_t4 (List.mem_of_getElem? (i := 42) rfl)) ⟨by decide, Nat.le_of_ble_eq_true rfl, Nat.le_of_ble_eq_true rfl⟩ (fun _ => Nat.le_of_ble_eq_true rfl) ⟨Nat.le_of_ble_eq_true rfl, Nat.le_of_ble_eq_true rfl⟩ dX9_berg_97 dX9_berg_100 dX9_berg_101 dX9_berg_103 dX9_berg_106 ⟨rfl, ⟨rfl, rfl, rfl⟩⟩
  · refine j_tableOut C (tgt := 97) dX9_berg_18 rw1 (Or.inr c18) (by decide) ?_
    exact j_throwSN C rfl hr (text := "nothing such is known of a berg") (j := 16) (by decide) rfl (lw_t4 (List.mem_of_getElem? (i := 42) rfl)) ⟨by decide, Nat.le_of_ble_eq_true rfl, Nat.le_of_ble_eq_true rfl⟩ (fun _ => Nat.le_of_ble_eq_true rfl) ⟨Nat.le_of_ble_eq_true rfl, Nat.le_of_ble_eq_true rfl⟩ dX9_berg_97 dX9_berg_100 dX9_berg_101 dX9_berg_103 dX9_berg_106 ⟨rfl, ⟨rfl, rfl, rfl⟩⟩
  · refine j_tableIn C (tgt := 56) 0 dX9_berg_18 c18 ⟨by omega, by omega⟩ (by decide) (by decide) rfl (by decide) ?_
    exfalso; omega
  · refine j_tableIn C (tgt := 61) 1 dX9_berg_18 c18 ⟨by omega, by omega⟩ (by decide) (by decide) rfl (by decide) ?_
    exfalso; omega
  · refine j_tableIn C (tgt := 66) 2 dX9_berg_18 c18 ⟨by omega, by omega⟩ (by decide) (by decide) rfl (by decide) ?_
    exfalso; omega
  · refine j_tableIn C (tgt := 79) 3 dX9_berg_18 c18 ⟨by omega, by omega⟩ (by decide) (by decide) rfl (by decide) ?_
    exfalso; omega
  · refine j_tableIn C (tgt := 87) 4 dX9_berg_18 c18 ⟨by omega, by omega⟩ (by decide) (by decide) rfl (by decide) ?_
    exfalso; omega
  · refine j_tableIn C (tgt := 92) 5 dX9_berg_18 c18 ⟨by omega, by omega⟩ (by decide) (by decide) rfl (by decide) ?_
    exfalso; omega

set_option maxHeartbeats 4000000 in
set_option maxRecDepth 100000 in
theorem h_water_ok (l : Launch) (S : ab_St) (F : ab_Fn) (A : ab_An) (h0 : S 0 = some (sC 10 slC_0)) (a0 a1 a2 a3 : Int) (P : Option ab_V → ab_St → ab_Fn → ab_An → Prop) (hM : ∀ l, ab_Met l yX9_water cX9_water 5 none { frames := 1, cells := 0, slots := 0, locals := 20 } 0 0 [aR 0, aI a0, aI a1, aI a2, aI a3] S F A P) (hP : ∀ v S' F' A', P v S' F' A' → v = none) : ab_MetH l yL_water cL_water 6 (some .int) [(0, 9, 12, 13), (0, 9, 16, 15)] { frames := 2, cells := 0, slots := 0, locals := 44 } 0 0 [aR 0, aI a0, aI a1, aI a2, aI a3] S F A (fun v S' F' A' => v = some (aI 0) ∧ P none S' F' A') := by
  refine ab_enterH (by decide) (by simp [aI, aR, aX, ab_val, Value.category]) (Nat.le_of_ble_eq_true rfl) (fun E C hT hr => ?_)
  refine j_eq (lv' := [some (aR 0), some (aI a0), some (aI a1), some (aI a2), some (aI a3), none]) ?_
  refine j_aload_n C dL_water_0 rfl rfl ?_
  refine j_iload_n C dL_water_1 rfl rfl ?_
  refine j_iload_n C dL_water_2 rfl rfl ?_
  refine j_iload_n C dL_water_3 rfl rfl ?_
  refine j_iload C dL_water_4 rfl ?_
  refine j_callV C (vs := [aI a0, aI a1, aI a2, aI a3]) (st := []) cl_L_7 im_yX9_water se_yX9_water (fun _ => (hM _)) h0 rfl rfl rfl ⟨rfl, rfl, by decide, by decide⟩ ⟨by decide, by decide⟩ (fun _ => Nat.le_of_ble_eq_true rfl) (fun v hv => by cases hv) (fun v hv => by simp only [List.mem_cons, List.not_mem_nil, or_false, Option.some.injEq, reduceCtorEq, false_or] at hv; rcases hv with rfl | rfl | rfl | rfl | rfl <;> first | exact (lS h0) | exact trivial) dL_water_6 (fun v_6 S_6 F_6 A_6 hP_6 => ?_)
  obtain hp := hP_6
  have hp := hP_6
  obtain rfl := hP _ _ _ _ hp
  show ab_J E 6 0 0 S_6 F_6 A_6 9 [some (aR 0), some (aI a0), some (aI a1), some (aI a2), some (aI a3), none] []
  refine j_goto C (tgt := 20) dL_water_9 (by decide) ?_
  refine j_iconst C dL_water_20 ?_
  exact j_iret C hr (Nat.le_refl _) (Nat.le_refl _) dL_water_21 ⟨rfl, hp⟩

set_option maxHeartbeats 4000000 in
set_option maxRecDepth 100000 in
theorem h_water_IOB (l : Launch) (S : ab_St) (F : ab_Fn) (A : ab_An) (h0 : S 0 = some (sC 10 slC_0)) (a0 a1 a2 a3 : Int) (P : ab_St → ab_Fn → ab_An → Prop) (hM : ∀ l, ab_XMet l yX9_water cX9_water 5 none { frames := 7, cells := 1, slots := 6, locals := 110 } 1 6 [aR 0, aI a0, aI a1, aI a2, aI a3] S F A (fun X9 S' F' A' => X9 = "java/lang/IndexOutOfBoundsException" ∧ P S' F' A')) : ab_MetH l yL_water cL_water 6 (some .int) [(0, 9, 12, 13), (0, 9, 16, 15)] { frames := 8, cells := 1, slots := 6, locals := 134 } 1 6 [aR 0, aI a0, aI a1, aI a2, aI a3] S F A (fun v S' F' A' => v = some (aI 1) ∧ P S' F' A') := by
  refine ab_enterH (by decide) (by simp [aI, aR, aX, ab_val, Value.category]) (Nat.le_of_ble_eq_true rfl) (fun E C hT hr => ?_)
  refine j_eq (lv' := [some (aR 0), some (aI a0), some (aI a1), some (aI a2), some (aI a3), none]) ?_
  refine j_aload_n C dL_water_0 rfl rfl ?_
  refine j_iload_n C dL_water_1 rfl rfl ?_
  refine j_iload_n C dL_water_2 rfl rfl ?_
  refine j_iload_n C dL_water_3 rfl rfl ?_
  refine j_iload C dL_water_4 rfl ?_
  refine j_catchV C hT (pre := []) (x := (0, 9, 12, 13)) (suf := [(0, 9, 16, 15)]) (vs := [aI a0, aI a1, aI a2, aI a3]) (st := []) (X0 := "java/lang/IndexOutOfBoundsException") (P := P) cl_L_7 im_yX9_water se_yX9_water (fun _ => (hM _)) h0 rfl rfl rfl ⟨rfl, rfl, by decide, by decide⟩ ⟨by decide, by decide⟩ (fun _ => Nat.le_of_ble_eq_true rfl) dL_water_6 (fun v hv => by simp only [List.mem_cons, List.not_mem_nil, or_false, Option.some.injEq, reduceCtorEq, false_or] at hv; rcases hv with rfl | rfl | rfl | rfl | rfl <;> first | exact (lS h0) | exact trivial) (fun q hq => by cases hq) ⟨by decide, by decide⟩ (by decide) (ab_t3 (List.mem_of_getElem? (i := 14) rfl) rfl) (lw_t3 (List.mem_of_getElem? (i := 25) rfl)) (fun S_6 F_6 A_6 q_6 hP_6 => ?_)
  show ab_J E 6 1 6 S_6 F_6 A_6 12 [some (aR 0), some (aI a0), some (aI a1), some (aI a2), some (aI a3), none] [aX (.ref q_6)]
  refine j_xstore C (lv' := [some (aR 0), some (aI a0), some (aI a1), some (aI a2), some (aI a3), some (aX (.ref q_6))]) dL_water_12 (by decide) rfl ?_
  refine j_iconst C dL_water_14 ?_
  exact j_iret C hr (Nat.le_refl _) (Nat.le_refl _) dL_water_15 ⟨rfl, hP_6⟩

set_option maxHeartbeats 4000000 in
set_option maxRecDepth 100000 in
theorem h_water_IAE (l : Launch) (S : ab_St) (F : ab_Fn) (A : ab_An) (h0 : S 0 = some (sC 10 slC_0)) (a0 a1 a2 a3 : Int) (P : ab_St → ab_Fn → ab_An → Prop) (hM : ∀ l, ab_XMet l yX9_water cX9_water 5 none { frames := 7, cells := 1, slots := 6, locals := 110 } 1 6 [aR 0, aI a0, aI a1, aI a2, aI a3] S F A (fun X9 S' F' A' => X9 = "java/lang/IllegalArgumentException" ∧ P S' F' A')) : ab_MetH l yL_water cL_water 6 (some .int) [(0, 9, 12, 13), (0, 9, 16, 15)] { frames := 8, cells := 1, slots := 6, locals := 134 } 1 6 [aR 0, aI a0, aI a1, aI a2, aI a3] S F A (fun v S' F' A' => v = some (aI 2) ∧ P S' F' A') := by
  refine ab_enterH (by decide) (by simp [aI, aR, aX, ab_val, Value.category]) (Nat.le_of_ble_eq_true rfl) (fun E C hT hr => ?_)
  refine j_eq (lv' := [some (aR 0), some (aI a0), some (aI a1), some (aI a2), some (aI a3), none]) ?_
  refine j_aload_n C dL_water_0 rfl rfl ?_
  refine j_iload_n C dL_water_1 rfl rfl ?_
  refine j_iload_n C dL_water_2 rfl rfl ?_
  refine j_iload_n C dL_water_3 rfl rfl ?_
  refine j_iload C dL_water_4 rfl ?_
  refine j_catchV C hT (pre := [(0, 9, 12, 13)]) (x := (0, 9, 16, 15)) (suf := []) (vs := [aI a0, aI a1, aI a2, aI a3]) (st := []) (X0 := "java/lang/IllegalArgumentException") (P := P) cl_L_7 im_yX9_water se_yX9_water (fun _ => (hM _)) h0 rfl rfl rfl ⟨rfl, rfl, by decide, by decide⟩ ⟨by decide, by decide⟩ (fun _ => Nat.le_of_ble_eq_true rfl) dL_water_6 (fun v hv => by simp only [List.mem_cons, List.not_mem_nil, or_false, Option.some.injEq, reduceCtorEq, false_or] at hv; rcases hv with rfl | rfl | rfl | rfl | rfl <;> first | exact (lS h0) | exact trivial) (fun q hq => by simp only [List.mem_cons, List.not_mem_nil, or_false] at hq; rcases hq with rfl; exact ⟨by decide, _, (ab_t3 (List.mem_of_getElem? (i := 14) rfl) rfl), fun _ _ h => lf_IAE_IOB h⟩) ⟨by decide, by decide⟩ (by decide) (ab_t3 (List.mem_of_getElem? (i := 15) rfl) rfl) (lw_t3 (List.mem_of_getElem? (i := 98) rfl)) (fun S_6 F_6 A_6 q_6 hP_6 => ?_)
  show ab_J E 6 1 6 S_6 F_6 A_6 16 [some (aR 0), some (aI a0), some (aI a1), some (aI a2), some (aI a3), none] [aX (.ref q_6)]
  refine j_xstore C (lv' := [some (aR 0), some (aI a0), some (aI a1), some (aI a2), some (aI a3), some (aX (.ref q_6))]) dL_water_16 (by decide) rfl ?_
  refine j_iconst C dL_water_18 ?_
  exact j_iret C hr (Nat.le_refl _) (Nat.le_refl _) dL_water_19 ⟨rfl, hP_6⟩

theorem clh_water : ab_ClH RL 76 yL_water cL_water 6 (some .int) [(0, 9, 12, 13), (0, 9, 16, 15)] 5 := ⟨(ab_t3 (List.mem_of_getElem? (i := 13) rfl) rfl), (ab_t3 (List.mem_of_getElem? (i := 11) rfl) rfl), (ab_t1 (List.mem_of_getElem? (i := 0) rfl) rfl), ⟨by decide +kernel, by decide +kernel⟩, by decide +kernel⟩

set_option maxHeartbeats 4000000 in
set_option maxRecDepth 100000 in
theorem h_land_ok (l : Launch) (S : ab_St) (F : ab_Fn) (A : ab_An) (h0 : S 0 = some (sC 10 slC_0)) (a0 a1 : Int) (P : Option ab_V → ab_St → ab_Fn → ab_An → Prop) (hM : ∀ l, ab_Met l yX9_land cX9_land 3 none { frames := 4, cells := 0, slots := 0, locals := 86 } 0 0 [aR 0, aI a0, aI a1] S F A P) (hP : ∀ v S' F' A', P v S' F' A' → v = none) : ab_MetH l yL_land cL_land 4 (some .int) [(0, 6, 9, 13), (0, 6, 12, 21)] { frames := 5, cells := 0, slots := 0, locals := 108 } 0 0 [aR 0, aI a0, aI a1] S F A (fun v S' F' A' => v = some (aI 0) ∧ P none S' F' A') := by
  refine ab_enterH (by decide) (by simp [aI, aR, aX, ab_val, Value.category]) (Nat.le_of_ble_eq_true rfl) (fun E C hT hr => ?_)
  refine j_eq (lv' := [some (aR 0), some (aI a0), some (aI a1), none]) ?_
  refine j_aload_n C dL_land_0 rfl rfl ?_
  refine j_iload_n C dL_land_1 rfl rfl ?_
  refine j_iload_n C dL_land_2 rfl rfl ?_
  refine j_callV C (vs := [aI a0, aI a1]) (st := []) cl_L_17 im_yX9_land se_yX9_land (fun _ => (hM _)) h0 rfl rfl rfl ⟨rfl, rfl, by decide, by decide⟩ ⟨by decide, by decide⟩ (fun _ => Nat.le_of_ble_eq_true rfl) (fun v hv => by cases hv) (fun v hv => by simp only [List.mem_cons, List.not_mem_nil, or_false, Option.some.injEq, reduceCtorEq, false_or] at hv; rcases hv with rfl | rfl | rfl <;> first | exact (lS h0) | exact trivial) dL_land_3 (fun v_3 S_3 F_3 A_3 hP_3 => ?_)
  obtain hp := hP_3
  have hp := hP_3
  obtain rfl := hP _ _ _ _ hp
  show ab_J E 4 0 0 S_3 F_3 A_3 6 [some (aR 0), some (aI a0), some (aI a1), none] []
  refine j_goto C (tgt := 15) dL_land_6 (by decide) ?_
  refine j_iconst C dL_land_15 ?_
  exact j_iret C hr (Nat.le_refl _) (Nat.le_refl _) dL_land_16 ⟨rfl, hp⟩

set_option maxHeartbeats 4000000 in
set_option maxRecDepth 100000 in
theorem h_land_IOB (l : Launch) (S : ab_St) (F : ab_Fn) (A : ab_An) (h0 : S 0 = some (sC 10 slC_0)) (a0 a1 : Int) (P : ab_St → ab_Fn → ab_An → Prop) (hM : ∀ l, ab_XMet l yX9_land cX9_land 3 none { frames := 7, cells := 1, slots := 6, locals := 110 } 1 6 [aR 0, aI a0, aI a1] S F A (fun X9 S' F' A' => X9 = "java/lang/IndexOutOfBoundsException" ∧ P S' F' A')) : ab_MetH l yL_land cL_land 4 (some .int) [(0, 6, 9, 13), (0, 6, 12, 21)] { frames := 8, cells := 1, slots := 6, locals := 132 } 1 6 [aR 0, aI a0, aI a1] S F A (fun v S' F' A' => v = some (aI 1) ∧ P S' F' A') := by
  refine ab_enterH (by decide) (by simp [aI, aR, aX, ab_val, Value.category]) (Nat.le_of_ble_eq_true rfl) (fun E C hT hr => ?_)
  refine j_eq (lv' := [some (aR 0), some (aI a0), some (aI a1), none]) ?_
  refine j_aload_n C dL_land_0 rfl rfl ?_
  refine j_iload_n C dL_land_1 rfl rfl ?_
  refine j_iload_n C dL_land_2 rfl rfl ?_
  refine j_catchV C hT (pre := []) (x := (0, 6, 9, 13)) (suf := [(0, 6, 12, 21)]) (vs := [aI a0, aI a1]) (st := []) (X0 := "java/lang/IndexOutOfBoundsException") (P := P) cl_L_17 im_yX9_land se_yX9_land (fun _ => (hM _)) h0 rfl rfl rfl ⟨rfl, rfl, by decide, by decide⟩ ⟨by decide, by decide⟩ (fun _ => Nat.le_of_ble_eq_true rfl) dL_land_3 (fun v hv => by simp only [List.mem_cons, List.not_mem_nil, or_false, Option.some.injEq, reduceCtorEq, false_or] at hv; rcases hv with rfl | rfl | rfl <;> first | exact (lS h0) | exact trivial) (fun q hq => by cases hq) ⟨by decide, by decide⟩ (by decide) (ab_t3 (List.mem_of_getElem? (i := 14) rfl) rfl) (lw_t3 (List.mem_of_getElem? (i := 25) rfl)) (fun S_3 F_3 A_3 q_3 hP_3 => ?_)
  show ab_J E 4 1 6 S_3 F_3 A_3 9 [some (aR 0), some (aI a0), some (aI a1), none] [aX (.ref q_3)]
  refine j_xstore_n C (lv' := [some (aR 0), some (aI a0), some (aI a1), some (aX (.ref q_3))]) dL_land_9 rfl (by decide) rfl ?_
  refine j_iconst C dL_land_10 ?_
  exact j_iret C hr (Nat.le_refl _) (Nat.le_refl _) dL_land_11 ⟨rfl, hP_3⟩

set_option maxHeartbeats 4000000 in
set_option maxRecDepth 100000 in
theorem h_land_ISE (l : Launch) (S : ab_St) (F : ab_Fn) (A : ab_An) (h0 : S 0 = some (sC 10 slC_0)) (a0 a1 : Int) (P : ab_St → ab_Fn → ab_An → Prop) (hM : ∀ l, ab_XMet l yX9_land cX9_land 3 none { frames := 7, cells := 1, slots := 6, locals := 110 } 1 6 [aR 0, aI a0, aI a1] S F A (fun X9 S' F' A' => X9 = "java/lang/IllegalStateException" ∧ P S' F' A')) : ab_MetH l yL_land cL_land 4 (some .int) [(0, 6, 9, 13), (0, 6, 12, 21)] { frames := 8, cells := 1, slots := 6, locals := 132 } 1 6 [aR 0, aI a0, aI a1] S F A (fun v S' F' A' => v = some (aI 2) ∧ P S' F' A') := by
  refine ab_enterH (by decide) (by simp [aI, aR, aX, ab_val, Value.category]) (Nat.le_of_ble_eq_true rfl) (fun E C hT hr => ?_)
  refine j_eq (lv' := [some (aR 0), some (aI a0), some (aI a1), none]) ?_
  refine j_aload_n C dL_land_0 rfl rfl ?_
  refine j_iload_n C dL_land_1 rfl rfl ?_
  refine j_iload_n C dL_land_2 rfl rfl ?_
  refine j_catchV C hT (pre := [(0, 6, 9, 13)]) (x := (0, 6, 12, 21)) (suf := []) (vs := [aI a0, aI a1]) (st := []) (X0 := "java/lang/IllegalStateException") (P := P) cl_L_17 im_yX9_land se_yX9_land (fun _ => (hM _)) h0 rfl rfl rfl ⟨rfl, rfl, by decide, by decide⟩ ⟨by decide, by decide⟩ (fun _ => Nat.le_of_ble_eq_true rfl) dL_land_3 (fun v hv => by simp only [List.mem_cons, List.not_mem_nil, or_false, Option.some.injEq, reduceCtorEq, false_or] at hv; rcases hv with rfl | rfl | rfl <;> first | exact (lS h0) | exact trivial) (fun q hq => by simp only [List.mem_cons, List.not_mem_nil, or_false] at hq; rcases hq with rfl; exact ⟨by decide, _, (ab_t3 (List.mem_of_getElem? (i := 14) rfl) rfl), fun _ _ h => lf_ISE_IOB h⟩) ⟨by decide, by decide⟩ (by decide) (ab_t3 (List.mem_of_getElem? (i := 115) rfl) rfl) (lw_t3 (List.mem_of_getElem? (i := 126) rfl)) (fun S_3 F_3 A_3 q_3 hP_3 => ?_)
  show ab_J E 4 1 6 S_3 F_3 A_3 12 [some (aR 0), some (aI a0), some (aI a1), none] [aX (.ref q_3)]
  refine j_xstore_n C (lv' := [some (aR 0), some (aI a0), some (aI a1), some (aX (.ref q_3))]) dL_land_12 rfl (by decide) rfl ?_
  refine j_iconst C dL_land_13 ?_
  exact j_iret C hr (Nat.le_refl _) (Nat.le_refl _) dL_land_14 ⟨rfl, hP_3⟩

theorem clh_land : ab_ClH RL 85 yL_land cL_land 4 (some .int) [(0, 6, 9, 13), (0, 6, 12, 21)] 3 := ⟨(ab_t3 (List.mem_of_getElem? (i := 114) rfl) rfl), (ab_t3 (List.mem_of_getElem? (i := 112) rfl) rfl), (ab_t1 (List.mem_of_getElem? (i := 0) rfl) rfl), ⟨by decide +kernel, by decide +kernel⟩, by decide +kernel⟩

set_option maxHeartbeats 4000000 in
set_option maxRecDepth 100000 in
theorem h_tell_ok (l : Launch) (S : ab_St) (F : ab_Fn) (A : ab_An) (h0 : S 0 = some (sC 10 slC_0)) (hO : S 90 = some (sA .long 1)) (a0 a1 : Int) (P : Option ab_V → ab_St → ab_Fn → ab_An → Prop) (hM : ∀ l, ab_Met l yX9_tell cX9_tell 4 (some .int) { frames := 7, cells := 3, slots := 345, locals := 171 } 3 345 [aR 0, aI a0, aI a1] S F A P) (hP : ∀ v S' F' A', P v S' F' A' → (∃ r : Int, v = some (aI r)) ∧ S' 90 = some (sA .long 1)) : ab_MetH l yL_tell cL_tell 5 (some .int) [(0, 10, 13, 13), (0, 10, 17, 15), (0, 10, 21, 27)] { frames := 8, cells := 3, slots := 345, locals := 194 } 3 345 [aR 0, aI a0, aI a1, aR 90] S F A (fun v S' F' A' => v = some (aI 0) ∧ ∃ (r : Int) (A1 : ab_An), P (some (aI r)) S' F' A1 ∧ A' = upA A1 90 0 ((Int32.ofInt r).toInt)) := by
  refine ab_enterH (by decide) (by simp [aI, aR, aX, ab_val, Value.category]) (Nat.le_of_ble_eq_true rfl) (fun E C hT hr => ?_)
  refine j_eq (lv' := [some (aR 0), some (aI a0), some (aI a1), some (aR 90), none]) ?_
  refine j_aload_n C dL_tell_0 rfl rfl ?_
  refine j_iconst C dL_tell_1 ?_
  refine j_aload_n C dL_tell_2 rfl rfl ?_
  refine j_iload_n C dL_tell_3 rfl rfl ?_
  refine j_iload_n C dL_tell_4 rfl rfl ?_
  refine j_callV C (vs := [aI a0, aI a1]) (st := [aI 0, aR 90]) cl_L_23 im_yX9_tell se_yX9_tell (fun _ => (hM _)) h0 rfl rfl rfl ⟨rfl, rfl, by decide, by decide⟩ ⟨by decide, by decide⟩ (fun _ => Nat.le_of_ble_eq_true rfl) (fun v hv => by simp only [List.mem_cons, List.not_mem_nil, or_false] at hv; rcases hv with rfl | rfl <;> first | exact (lS hO) | exact trivial) (fun v hv => by simp only [List.mem_cons, List.not_mem_nil, or_false, Option.some.injEq, reduceCtorEq, false_or] at hv; rcases hv with rfl | rfl | rfl | rfl <;> first | exact (lS h0) | exact (lS hO) | exact trivial) dL_tell_5 (fun v_5 S_5 F_5 A_5 hP_5 => ?_)
  obtain hp := hP_5
  have hp := hP_5
  obtain ⟨⟨r, rfl⟩, ho⟩ := hP _ _ _ _ hp
  show ab_J E 5 3 345 S_5 F_5 A_5 8 [some (aR 0), some (aI a0), some (aI a1), some (aR 90), none] [aI r, aI 0, aR 90]
  refine j_i2l C dL_tell_8 ?_
  refine j_last C ho (by omega) (by omega) (by decide) dL_tell_9 ?_
  refine j_goto C (tgt := 25) dL_tell_10 (by decide) ?_
  refine j_iconst C dL_tell_25 ?_
  exact j_iret C hr (Nat.le_refl _) (Nat.le_refl _) dL_tell_26 ⟨rfl, r, _, hp, rfl⟩

set_option maxHeartbeats 4000000 in
set_option maxRecDepth 100000 in
theorem h_tell_IOB (l : Launch) (S : ab_St) (F : ab_Fn) (A : ab_An) (h0 : S 0 = some (sC 10 slC_0)) (hO : S 90 = some (sA .long 1)) (a0 a1 : Int) (P : ab_St → ab_Fn → ab_An → Prop) (hM : ∀ l, ab_XMet l yX9_tell cX9_tell 4 (some .int) { frames := 7, cells := 1, slots := 6, locals := 171 } 1 6 [aR 0, aI a0, aI a1] S F A (fun X9 S' F' A' => X9 = "java/lang/IndexOutOfBoundsException" ∧ P S' F' A')) : ab_MetH l yL_tell cL_tell 5 (some .int) [(0, 10, 13, 13), (0, 10, 17, 15), (0, 10, 21, 27)] { frames := 8, cells := 1, slots := 6, locals := 194 } 1 6 [aR 0, aI a0, aI a1, aR 90] S F A (fun v S' F' A' => v = some (aI 1) ∧ P S' F' A') := by
  refine ab_enterH (by decide) (by simp [aI, aR, aX, ab_val, Value.category]) (Nat.le_of_ble_eq_true rfl) (fun E C hT hr => ?_)
  refine j_eq (lv' := [some (aR 0), some (aI a0), some (aI a1), some (aR 90), none]) ?_
  refine j_aload_n C dL_tell_0 rfl rfl ?_
  refine j_iconst C dL_tell_1 ?_
  refine j_aload_n C dL_tell_2 rfl rfl ?_
  refine j_iload_n C dL_tell_3 rfl rfl ?_
  refine j_iload_n C dL_tell_4 rfl rfl ?_
  refine j_catchV C hT (pre := []) (x := (0, 10, 13, 13)) (suf := [(0, 10, 17, 15), (0, 10, 21, 27)]) (vs := [aI a0, aI a1]) (st := [aI 0, aR 90]) (X0 := "java/lang/IndexOutOfBoundsException") (P := P) cl_L_23 im_yX9_tell se_yX9_tell (fun _ => (hM _)) h0 rfl rfl rfl ⟨rfl, rfl, by decide, by decide⟩ ⟨by decide, by decide⟩ (fun _ => Nat.le_of_ble_eq_true rfl) dL_tell_5 (fun v hv => by simp only [List.mem_cons, List.not_mem_nil, or_false, Option.some.injEq, reduceCtorEq, false_or] at hv; rcases hv with rfl | rfl | rfl | rfl <;> first | exact (lS h0) | exact (lS hO) | exact trivial) (fun q hq => by cases hq) ⟨by decide, by decide⟩ (by decide) (ab_t3 (List.mem_of_getElem? (i := 14) rfl) rfl) (lw_t3 (List.mem_of_getElem? (i := 25) rfl)) (fun S_5 F_5 A_5 q_5 hP_5 => ?_)
  show ab_J E 5 1 6 S_5 F_5 A_5 13 [some (aR 0), some (aI a0), some (aI a1), some (aR 90), none] [aX (.ref q_5)]
  refine j_xstore C (lv' := [some (aR 0), some (aI a0), some (aI a1), some (aR 90), some (aX (.ref q_5))]) dL_tell_13 (by decide) rfl ?_
  refine j_iconst C dL_tell_15 ?_
  exact j_iret C hr (Nat.le_refl _) (Nat.le_refl _) dL_tell_16 ⟨rfl, hP_5⟩

set_option maxHeartbeats 4000000 in
set_option maxRecDepth 100000 in
theorem h_tell_IAE (l : Launch) (S : ab_St) (F : ab_Fn) (A : ab_An) (h0 : S 0 = some (sC 10 slC_0)) (hO : S 90 = some (sA .long 1)) (a0 a1 : Int) (P : ab_St → ab_Fn → ab_An → Prop) (hM : ∀ l, ab_XMet l yX9_tell cX9_tell 4 (some .int) { frames := 7, cells := 1, slots := 6, locals := 171 } 1 6 [aR 0, aI a0, aI a1] S F A (fun X9 S' F' A' => X9 = "java/lang/IllegalArgumentException" ∧ P S' F' A')) : ab_MetH l yL_tell cL_tell 5 (some .int) [(0, 10, 13, 13), (0, 10, 17, 15), (0, 10, 21, 27)] { frames := 8, cells := 1, slots := 6, locals := 194 } 1 6 [aR 0, aI a0, aI a1, aR 90] S F A (fun v S' F' A' => v = some (aI 2) ∧ P S' F' A') := by
  refine ab_enterH (by decide) (by simp [aI, aR, aX, ab_val, Value.category]) (Nat.le_of_ble_eq_true rfl) (fun E C hT hr => ?_)
  refine j_eq (lv' := [some (aR 0), some (aI a0), some (aI a1), some (aR 90), none]) ?_
  refine j_aload_n C dL_tell_0 rfl rfl ?_
  refine j_iconst C dL_tell_1 ?_
  refine j_aload_n C dL_tell_2 rfl rfl ?_
  refine j_iload_n C dL_tell_3 rfl rfl ?_
  refine j_iload_n C dL_tell_4 rfl rfl ?_
  refine j_catchV C hT (pre := [(0, 10, 13, 13)]) (x := (0, 10, 17, 15)) (suf := [(0, 10, 21, 27)]) (vs := [aI a0, aI a1]) (st := [aI 0, aR 90]) (X0 := "java/lang/IllegalArgumentException") (P := P) cl_L_23 im_yX9_tell se_yX9_tell (fun _ => (hM _)) h0 rfl rfl rfl ⟨rfl, rfl, by decide, by decide⟩ ⟨by decide, by decide⟩ (fun _ => Nat.le_of_ble_eq_true rfl) dL_tell_5 (fun v hv => by simp only [List.mem_cons, List.not_mem_nil, or_false, Option.some.injEq, reduceCtorEq, false_or] at hv; rcases hv with rfl | rfl | rfl | rfl <;> first | exact (lS h0) | exact (lS hO) | exact trivial) (fun q hq => by simp only [List.mem_cons, List.not_mem_nil, or_false] at hq; rcases hq with rfl; exact ⟨by decide, _, (ab_t3 (List.mem_of_getElem? (i := 14) rfl) rfl), fun _ _ h => lf_IAE_IOB h⟩) ⟨by decide, by decide⟩ (by decide) (ab_t3 (List.mem_of_getElem? (i := 15) rfl) rfl) (lw_t3 (List.mem_of_getElem? (i := 98) rfl)) (fun S_5 F_5 A_5 q_5 hP_5 => ?_)
  show ab_J E 5 1 6 S_5 F_5 A_5 17 [some (aR 0), some (aI a0), some (aI a1), some (aR 90), none] [aX (.ref q_5)]
  refine j_xstore C (lv' := [some (aR 0), some (aI a0), some (aI a1), some (aR 90), some (aX (.ref q_5))]) dL_tell_17 (by decide) rfl ?_
  refine j_iconst C dL_tell_19 ?_
  exact j_iret C hr (Nat.le_refl _) (Nat.le_refl _) dL_tell_20 ⟨rfl, hP_5⟩

set_option maxHeartbeats 4000000 in
set_option maxRecDepth 100000 in
theorem h_tell_UOE (l : Launch) (S : ab_St) (F : ab_Fn) (A : ab_An) (h0 : S 0 = some (sC 10 slC_0)) (hO : S 90 = some (sA .long 1)) (a0 a1 : Int) (P : ab_St → ab_Fn → ab_An → Prop) (hM : ∀ l, ab_XMet l yX9_tell cX9_tell 4 (some .int) { frames := 7, cells := 1, slots := 6, locals := 171 } 1 6 [aR 0, aI a0, aI a1] S F A (fun X9 S' F' A' => X9 = "java/lang/UnsupportedOperationException" ∧ P S' F' A')) : ab_MetH l yL_tell cL_tell 5 (some .int) [(0, 10, 13, 13), (0, 10, 17, 15), (0, 10, 21, 27)] { frames := 8, cells := 1, slots := 6, locals := 194 } 1 6 [aR 0, aI a0, aI a1, aR 90] S F A (fun v S' F' A' => v = some (aI 3) ∧ P S' F' A') := by
  refine ab_enterH (by decide) (by simp [aI, aR, aX, ab_val, Value.category]) (Nat.le_of_ble_eq_true rfl) (fun E C hT hr => ?_)
  refine j_eq (lv' := [some (aR 0), some (aI a0), some (aI a1), some (aR 90), none]) ?_
  refine j_aload_n C dL_tell_0 rfl rfl ?_
  refine j_iconst C dL_tell_1 ?_
  refine j_aload_n C dL_tell_2 rfl rfl ?_
  refine j_iload_n C dL_tell_3 rfl rfl ?_
  refine j_iload_n C dL_tell_4 rfl rfl ?_
  refine j_catchV C hT (pre := [(0, 10, 13, 13), (0, 10, 17, 15)]) (x := (0, 10, 21, 27)) (suf := []) (vs := [aI a0, aI a1]) (st := [aI 0, aR 90]) (X0 := "java/lang/UnsupportedOperationException") (P := P) cl_L_23 im_yX9_tell se_yX9_tell (fun _ => (hM _)) h0 rfl rfl rfl ⟨rfl, rfl, by decide, by decide⟩ ⟨by decide, by decide⟩ (fun _ => Nat.le_of_ble_eq_true rfl) dL_tell_5 (fun v hv => by simp only [List.mem_cons, List.not_mem_nil, or_false, Option.some.injEq, reduceCtorEq, false_or] at hv; rcases hv with rfl | rfl | rfl | rfl <;> first | exact (lS h0) | exact (lS hO) | exact trivial) (fun q hq => by simp only [List.mem_cons, List.not_mem_nil, or_false] at hq; rcases hq with rfl | rfl; exact ⟨by decide, _, (ab_t3 (List.mem_of_getElem? (i := 14) rfl) rfl), fun _ _ h => lf_UOE_IOB h⟩; exact ⟨by decide, _, (ab_t3 (List.mem_of_getElem? (i := 15) rfl) rfl), fun _ _ h => lf_UOE_IAE h⟩) ⟨by decide, by decide⟩ (by decide) (ab_t3 (List.mem_of_getElem? (i := 143) rfl) rfl) (lw_t3 (List.mem_of_getElem? (i := 155) rfl)) (fun S_5 F_5 A_5 q_5 hP_5 => ?_)
  show ab_J E 5 1 6 S_5 F_5 A_5 21 [some (aR 0), some (aI a0), some (aI a1), some (aR 90), none] [aX (.ref q_5)]
  refine j_xstore C (lv' := [some (aR 0), some (aI a0), some (aI a1), some (aR 90), some (aX (.ref q_5))]) dL_tell_21 (by decide) rfl ?_
  refine j_iconst C dL_tell_23 ?_
  exact j_iret C hr (Nat.le_refl _) (Nat.le_refl _) dL_tell_24 ⟨rfl, hP_5⟩

theorem clh_tell : ab_ClH RL 89 yL_tell cL_tell 5 (some .int) [(0, 10, 13, 13), (0, 10, 17, 15), (0, 10, 21, 27)] 4 := ⟨(ab_t3 (List.mem_of_getElem? (i := 142) rfl) rfl), (ab_t3 (List.mem_of_getElem? (i := 140) rfl) rfl), (ab_t1 (List.mem_of_getElem? (i := 0) rfl) rfl), ⟨by decide +kernel, by decide +kernel⟩, by decide +kernel⟩

set_option maxHeartbeats 4000000 in
set_option maxRecDepth 100000 in
theorem h_step_ok (l : Launch) (S : ab_St) (F : ab_Fn) (A : ab_An) (h0 : S 0 = some (sC 10 slC_0)) (hO : S 90 = some (sA .long 1)) (a0 : Int) (P : Option ab_V → ab_St → ab_Fn → ab_An → Prop) (hM : ∀ l, ab_Met l yX9_step cX9_step 4 (some .int) { frames := 4, cells := 0, slots := 0, locals := 92 } 0 0 [aR 0, aI a0] S F A P) (hP : ∀ v S' F' A', P v S' F' A' → (∃ r : Int, v = some (aI r)) ∧ S' 90 = some (sA .long 1)) : ab_MetH l yL_step cL_step 4 (some .int) [(0, 9, 12, 15)] { frames := 5, cells := 0, slots := 0, locals := 115 } 0 0 [aR 0, aI a0, aR 90] S F A (fun v S' F' A' => v = some (aI 0) ∧ ∃ (r : Int) (A1 : ab_An), P (some (aI r)) S' F' A1 ∧ A' = upA A1 90 0 ((Int32.ofInt r).toInt)) := by
  refine ab_enterH (by decide) (by simp [aI, aR, aX, ab_val, Value.category]) (Nat.le_of_ble_eq_true rfl) (fun E C hT hr => ?_)
  refine j_eq (lv' := [some (aR 0), some (aI a0), some (aR 90), none]) ?_
  refine j_aload_n C dL_step_0 rfl rfl ?_
  refine j_iconst C dL_step_1 ?_
  refine j_aload_n C dL_step_2 rfl rfl ?_
  refine j_iload_n C dL_step_3 rfl rfl ?_
  refine j_callV C (vs := [aI a0]) (st := [aI 0, aR 90]) cl_L_29 im_yX9_step se_yX9_step (fun _ => (hM _)) h0 rfl rfl rfl ⟨rfl, rfl, by decide, by decide⟩ ⟨by decide, by decide⟩ (fun _ => Nat.le_of_ble_eq_true rfl) (fun v hv => by simp only [List.mem_cons, List.not_mem_nil, or_false] at hv; rcases hv with rfl | rfl <;> first | exact (lS hO) | exact trivial) (fun v hv => by simp only [List.mem_cons, List.not_mem_nil, or_false, Option.some.injEq, reduceCtorEq, false_or] at hv; rcases hv with rfl | rfl | rfl <;> first | exact (lS h0) | exact (lS hO) | exact trivial) dL_step_4 (fun v_4 S_4 F_4 A_4 hP_4 => ?_)
  obtain hp := hP_4
  have hp := hP_4
  obtain ⟨⟨r, rfl⟩, ho⟩ := hP _ _ _ _ hp
  show ab_J E 4 0 0 S_4 F_4 A_4 7 [some (aR 0), some (aI a0), some (aR 90), none] [aI r, aI 0, aR 90]
  refine j_i2l C dL_step_7 ?_
  refine j_last C ho (by omega) (by omega) (by decide) dL_step_8 ?_
  refine j_goto C (tgt := 15) dL_step_9 (by decide) ?_
  refine j_iconst C dL_step_15 ?_
  exact j_iret C hr (Nat.le_refl _) (Nat.le_refl _) dL_step_16 ⟨rfl, r, _, hp, rfl⟩

set_option maxHeartbeats 4000000 in
set_option maxRecDepth 100000 in
theorem h_step_IAE (l : Launch) (S : ab_St) (F : ab_Fn) (A : ab_An) (h0 : S 0 = some (sC 10 slC_0)) (hO : S 90 = some (sA .long 1)) (a0 : Int) (P : ab_St → ab_Fn → ab_An → Prop) (hM : ∀ l, ab_XMet l yX9_step cX9_step 4 (some .int) { frames := 6, cells := 1, slots := 6, locals := 92 } 1 6 [aR 0, aI a0] S F A (fun X9 S' F' A' => X9 = "java/lang/IllegalArgumentException" ∧ P S' F' A')) : ab_MetH l yL_step cL_step 4 (some .int) [(0, 9, 12, 15)] { frames := 7, cells := 1, slots := 6, locals := 115 } 1 6 [aR 0, aI a0, aR 90] S F A (fun v S' F' A' => v = some (aI 1) ∧ P S' F' A') := by
  refine ab_enterH (by decide) (by simp [aI, aR, aX, ab_val, Value.category]) (Nat.le_of_ble_eq_true rfl) (fun E C hT hr => ?_)
  refine j_eq (lv' := [some (aR 0), some (aI a0), some (aR 90), none]) ?_
  refine j_aload_n C dL_step_0 rfl rfl ?_
  refine j_iconst C dL_step_1 ?_
  refine j_aload_n C dL_step_2 rfl rfl ?_
  refine j_iload_n C dL_step_3 rfl rfl ?_
  refine j_catchV C hT (pre := []) (x := (0, 9, 12, 15)) (suf := []) (vs := [aI a0]) (st := [aI 0, aR 90]) (X0 := "java/lang/IllegalArgumentException") (P := P) cl_L_29 im_yX9_step se_yX9_step (fun _ => (hM _)) h0 rfl rfl rfl ⟨rfl, rfl, by decide, by decide⟩ ⟨by decide, by decide⟩ (fun _ => Nat.le_of_ble_eq_true rfl) dL_step_4 (fun v hv => by simp only [List.mem_cons, List.not_mem_nil, or_false, Option.some.injEq, reduceCtorEq, false_or] at hv; rcases hv with rfl | rfl | rfl <;> first | exact (lS h0) | exact (lS hO) | exact trivial) (fun q hq => by cases hq) ⟨by decide, by decide⟩ (by decide) (ab_t3 (List.mem_of_getElem? (i := 15) rfl) rfl) (lw_t3 (List.mem_of_getElem? (i := 98) rfl)) (fun S_4 F_4 A_4 q_4 hP_4 => ?_)
  show ab_J E 4 1 6 S_4 F_4 A_4 12 [some (aR 0), some (aI a0), some (aR 90), none] [aX (.ref q_4)]
  refine j_xstore_n C (lv' := [some (aR 0), some (aI a0), some (aR 90), some (aX (.ref q_4))]) dL_step_12 rfl (by decide) rfl ?_
  refine j_iconst C dL_step_13 ?_
  exact j_iret C hr (Nat.le_refl _) (Nat.le_refl _) dL_step_14 ⟨rfl, hP_4⟩

theorem clh_step : ab_ClH RL 93 yL_step cL_step 4 (some .int) [(0, 9, 12, 15)] 3 := ⟨(ab_t3 (List.mem_of_getElem? (i := 203) rfl) rfl), (ab_t3 (List.mem_of_getElem? (i := 201) rfl) rfl), (ab_t1 (List.mem_of_getElem? (i := 0) rfl) rfl), ⟨by decide +kernel, by decide +kernel⟩, by decide +kernel⟩

set_option maxHeartbeats 4000000 in
set_option maxRecDepth 100000 in
theorem h_look_ok (l : Launch) (S : ab_St) (F : ab_Fn) (A : ab_An) (h0 : S 0 = some (sC 10 slC_0)) (hO : S 90 = some (sA .long 1)) (a0 a1 : Int) (P : Option ab_V → ab_St → ab_Fn → ab_An → Prop) (hM : ∀ l, ab_Met l yX9_look cX9_look 5 (some .int) { frames := 3, cells := 0, slots := 0, locals := 64 } 0 0 [aR 0, aI a0, aI a1] S F A P) (hP : ∀ v S' F' A', P v S' F' A' → (∃ r : Int, v = some (aI r)) ∧ S' 90 = some (sA .long 1)) : ab_MetH l yL_look cL_look 5 (some .int) [(0, 10, 13, 13), (0, 10, 17, 15)] { frames := 4, cells := 0, slots := 0, locals := 88 } 0 0 [aR 0, aI a0, aI a1, aR 90] S F A (fun v S' F' A' => v = some (aI 0) ∧ ∃ (r : Int) (A1 : ab_An), P (some (aI r)) S' F' A1 ∧ A' = upA A1 90 0 ((Int32.ofInt r).toInt)) := by
  refine ab_enterH (by decide) (by simp [aI, aR, aX, ab_val, Value.category]) (Nat.le_of_ble_eq_true rfl) (fun E C hT hr => ?_)
  refine j_eq (lv' := [some (aR 0), some (aI a0), some (aI a1), some (aR 90), none]) ?_
  refine j_aload_n C dL_look_0 rfl rfl ?_
  refine j_iconst C dL_look_1 ?_
  refine j_aload_n C dL_look_2 rfl rfl ?_
  refine j_iload_n C dL_look_3 rfl rfl ?_
  refine j_iload_n C dL_look_4 rfl rfl ?_
  refine j_callV C (vs := [aI a0, aI a1]) (st := [aI 0, aR 90]) cl_L_33 im_yX9_look se_yX9_look (fun _ => (hM _)) h0 rfl rfl rfl ⟨rfl, rfl, by decide, by decide⟩ ⟨by decide, by decide⟩ (fun _ => Nat.le_of_ble_eq_true rfl) (fun v hv => by simp only [List.mem_cons, List.not_mem_nil, or_false] at hv; rcases hv with rfl | rfl <;> first | exact (lS hO) | exact trivial) (fun v hv => by simp only [List.mem_cons, List.not_mem_nil, or_false, Option.some.injEq, reduceCtorEq, false_or] at hv; rcases hv with rfl | rfl | rfl | rfl <;> first | exact (lS h0) | exact (lS hO) | exact trivial) dL_look_5 (fun v_5 S_5 F_5 A_5 hP_5 => ?_)
  obtain hp := hP_5
  have hp := hP_5
  obtain ⟨⟨r, rfl⟩, ho⟩ := hP _ _ _ _ hp
  show ab_J E 5 0 0 S_5 F_5 A_5 8 [some (aR 0), some (aI a0), some (aI a1), some (aR 90), none] [aI r, aI 0, aR 90]
  refine j_i2l C dL_look_8 ?_
  refine j_last C ho (by omega) (by omega) (by decide) dL_look_9 ?_
  refine j_goto C (tgt := 21) dL_look_10 (by decide) ?_
  refine j_iconst C dL_look_21 ?_
  exact j_iret C hr (Nat.le_refl _) (Nat.le_refl _) dL_look_22 ⟨rfl, r, _, hp, rfl⟩

set_option maxHeartbeats 4000000 in
set_option maxRecDepth 100000 in
theorem h_look_IOB (l : Launch) (S : ab_St) (F : ab_Fn) (A : ab_An) (h0 : S 0 = some (sC 10 slC_0)) (hO : S 90 = some (sA .long 1)) (a0 a1 : Int) (P : ab_St → ab_Fn → ab_An → Prop) (hM : ∀ l, ab_XMet l yX9_look cX9_look 5 (some .int) { frames := 7, cells := 1, slots := 6, locals := 110 } 1 6 [aR 0, aI a0, aI a1] S F A (fun X9 S' F' A' => X9 = "java/lang/IndexOutOfBoundsException" ∧ P S' F' A')) : ab_MetH l yL_look cL_look 5 (some .int) [(0, 10, 13, 13), (0, 10, 17, 15)] { frames := 8, cells := 1, slots := 6, locals := 134 } 1 6 [aR 0, aI a0, aI a1, aR 90] S F A (fun v S' F' A' => v = some (aI 1) ∧ P S' F' A') := by
  refine ab_enterH (by decide) (by simp [aI, aR, aX, ab_val, Value.category]) (Nat.le_of_ble_eq_true rfl) (fun E C hT hr => ?_)
  refine j_eq (lv' := [some (aR 0), some (aI a0), some (aI a1), some (aR 90), none]) ?_
  refine j_aload_n C dL_look_0 rfl rfl ?_
  refine j_iconst C dL_look_1 ?_
  refine j_aload_n C dL_look_2 rfl rfl ?_
  refine j_iload_n C dL_look_3 rfl rfl ?_
  refine j_iload_n C dL_look_4 rfl rfl ?_
  refine j_catchV C hT (pre := []) (x := (0, 10, 13, 13)) (suf := [(0, 10, 17, 15)]) (vs := [aI a0, aI a1]) (st := [aI 0, aR 90]) (X0 := "java/lang/IndexOutOfBoundsException") (P := P) cl_L_33 im_yX9_look se_yX9_look (fun _ => (hM _)) h0 rfl rfl rfl ⟨rfl, rfl, by decide, by decide⟩ ⟨by decide, by decide⟩ (fun _ => Nat.le_of_ble_eq_true rfl) dL_look_5 (fun v hv => by simp only [List.mem_cons, List.not_mem_nil, or_false, Option.some.injEq, reduceCtorEq, false_or] at hv; rcases hv with rfl | rfl | rfl | rfl <;> first | exact (lS h0) | exact (lS hO) | exact trivial) (fun q hq => by cases hq) ⟨by decide, by decide⟩ (by decide) (ab_t3 (List.mem_of_getElem? (i := 14) rfl) rfl) (lw_t3 (List.mem_of_getElem? (i := 25) rfl)) (fun S_5 F_5 A_5 q_5 hP_5 => ?_)
  show ab_J E 5 1 6 S_5 F_5 A_5 13 [some (aR 0), some (aI a0), some (aI a1), some (aR 90), none] [aX (.ref q_5)]
  refine j_xstore C (lv' := [some (aR 0), some (aI a0), some (aI a1), some (aR 90), some (aX (.ref q_5))]) dL_look_13 (by decide) rfl ?_
  refine j_iconst C dL_look_15 ?_
  exact j_iret C hr (Nat.le_refl _) (Nat.le_refl _) dL_look_16 ⟨rfl, hP_5⟩

set_option maxHeartbeats 4000000 in
set_option maxRecDepth 100000 in
theorem h_look_IAE (l : Launch) (S : ab_St) (F : ab_Fn) (A : ab_An) (h0 : S 0 = some (sC 10 slC_0)) (hO : S 90 = some (sA .long 1)) (a0 a1 : Int) (P : ab_St → ab_Fn → ab_An → Prop) (hM : ∀ l, ab_XMet l yX9_look cX9_look 5 (some .int) { frames := 7, cells := 1, slots := 6, locals := 110 } 1 6 [aR 0, aI a0, aI a1] S F A (fun X9 S' F' A' => X9 = "java/lang/IllegalArgumentException" ∧ P S' F' A')) : ab_MetH l yL_look cL_look 5 (some .int) [(0, 10, 13, 13), (0, 10, 17, 15)] { frames := 8, cells := 1, slots := 6, locals := 134 } 1 6 [aR 0, aI a0, aI a1, aR 90] S F A (fun v S' F' A' => v = some (aI 2) ∧ P S' F' A') := by
  refine ab_enterH (by decide) (by simp [aI, aR, aX, ab_val, Value.category]) (Nat.le_of_ble_eq_true rfl) (fun E C hT hr => ?_)
  refine j_eq (lv' := [some (aR 0), some (aI a0), some (aI a1), some (aR 90), none]) ?_
  refine j_aload_n C dL_look_0 rfl rfl ?_
  refine j_iconst C dL_look_1 ?_
  refine j_aload_n C dL_look_2 rfl rfl ?_
  refine j_iload_n C dL_look_3 rfl rfl ?_
  refine j_iload_n C dL_look_4 rfl rfl ?_
  refine j_catchV C hT (pre := [(0, 10, 13, 13)]) (x := (0, 10, 17, 15)) (suf := []) (vs := [aI a0, aI a1]) (st := [aI 0, aR 90]) (X0 := "java/lang/IllegalArgumentException") (P := P) cl_L_33 im_yX9_look se_yX9_look (fun _ => (hM _)) h0 rfl rfl rfl ⟨rfl, rfl, by decide, by decide⟩ ⟨by decide, by decide⟩ (fun _ => Nat.le_of_ble_eq_true rfl) dL_look_5 (fun v hv => by simp only [List.mem_cons, List.not_mem_nil, or_false, Option.some.injEq, reduceCtorEq, false_or] at hv; rcases hv with rfl | rfl | rfl | rfl <;> first | exact (lS h0) | exact (lS hO) | exact trivial) (fun q hq => by simp only [List.mem_cons, List.not_mem_nil, or_false] at hq; rcases hq with rfl; exact ⟨by decide, _, (ab_t3 (List.mem_of_getElem? (i := 14) rfl) rfl), fun _ _ h => lf_IAE_IOB h⟩) ⟨by decide, by decide⟩ (by decide) (ab_t3 (List.mem_of_getElem? (i := 15) rfl) rfl) (lw_t3 (List.mem_of_getElem? (i := 98) rfl)) (fun S_5 F_5 A_5 q_5 hP_5 => ?_)
  show ab_J E 5 1 6 S_5 F_5 A_5 17 [some (aR 0), some (aI a0), some (aI a1), some (aR 90), none] [aX (.ref q_5)]
  refine j_xstore C (lv' := [some (aR 0), some (aI a0), some (aI a1), some (aR 90), some (aX (.ref q_5))]) dL_look_17 (by decide) rfl ?_
  refine j_iconst C dL_look_19 ?_
  exact j_iret C hr (Nat.le_refl _) (Nat.le_refl _) dL_look_20 ⟨rfl, hP_5⟩

theorem clh_look : ab_ClH RL 97 yL_look cL_look 5 (some .int) [(0, 10, 13, 13), (0, 10, 17, 15)] 4 := ⟨(ab_t3 (List.mem_of_getElem? (i := 238) rfl) rfl), (ab_t3 (List.mem_of_getElem? (i := 236) rfl) rfl), (ab_t1 (List.mem_of_getElem? (i := 0) rfl) rfl), ⟨by decide +kernel, by decide +kernel⟩, by decide +kernel⟩

set_option maxHeartbeats 4000000 in
set_option maxRecDepth 100000 in
theorem h_parts_ok (l : Launch) (S : ab_St) (F : ab_Fn) (A : ab_An) (h0 : S 0 = some (sC 10 slC_0)) (hO : S 90 = some (sA .long 1)) (a0 a1 : Int) (P : Option ab_V → ab_St → ab_Fn → ab_An → Prop) (hM : ∀ l, ab_Met l yX9_parts cX9_parts 3 (some .int) { frames := 3, cells := 0, slots := 0, locals := 64 } 0 0 [aR 0, aI a0, aI a1] S F A P) (hP : ∀ v S' F' A', P v S' F' A' → (∃ r : Int, v = some (aI r)) ∧ S' 90 = some (sA .long 1)) : ab_MetH l yL_parts cL_parts 5 (some .int) [(0, 10, 13, 13)] { frames := 4, cells := 0, slots := 0, locals := 86 } 0 0 [aR 0, aI a0, aI a1, aR 90] S F A (fun v S' F' A' => v = some (aI 0) ∧ ∃ (r : Int) (A1 : ab_An), P (some (aI r)) S' F' A1 ∧ A' = upA A1 90 0 ((Int32.ofInt r).toInt)) := by
  refine ab_enterH (by decide) (by simp [aI, aR, aX, ab_val, Value.category]) (Nat.le_of_ble_eq_true rfl) (fun E C hT hr => ?_)
  refine j_eq (lv' := [some (aR 0), some (aI a0), some (aI a1), some (aR 90), none]) ?_
  refine j_aload_n C dL_parts_0 rfl rfl ?_
  refine j_iconst C dL_parts_1 ?_
  refine j_aload_n C dL_parts_2 rfl rfl ?_
  refine j_iload_n C dL_parts_3 rfl rfl ?_
  refine j_iload_n C dL_parts_4 rfl rfl ?_
  refine j_callV C (vs := [aI a0, aI a1]) (st := [aI 0, aR 90]) cl_L_36 im_yX9_parts se_yX9_parts (fun _ => (hM _)) h0 rfl rfl rfl ⟨rfl, rfl, by decide, by decide⟩ ⟨by decide, by decide⟩ (fun _ => Nat.le_of_ble_eq_true rfl) (fun v hv => by simp only [List.mem_cons, List.not_mem_nil, or_false] at hv; rcases hv with rfl | rfl <;> first | exact (lS hO) | exact trivial) (fun v hv => by simp only [List.mem_cons, List.not_mem_nil, or_false, Option.some.injEq, reduceCtorEq, false_or] at hv; rcases hv with rfl | rfl | rfl | rfl <;> first | exact (lS h0) | exact (lS hO) | exact trivial) dL_parts_5 (fun v_5 S_5 F_5 A_5 hP_5 => ?_)
  obtain hp := hP_5
  have hp := hP_5
  obtain ⟨⟨r, rfl⟩, ho⟩ := hP _ _ _ _ hp
  show ab_J E 5 0 0 S_5 F_5 A_5 8 [some (aR 0), some (aI a0), some (aI a1), some (aR 90), none] [aI r, aI 0, aR 90]
  refine j_i2l C dL_parts_8 ?_
  refine j_last C ho (by omega) (by omega) (by decide) dL_parts_9 ?_
  refine j_goto C (tgt := 17) dL_parts_10 (by decide) ?_
  refine j_iconst C dL_parts_17 ?_
  exact j_iret C hr (Nat.le_refl _) (Nat.le_refl _) dL_parts_18 ⟨rfl, r, _, hp, rfl⟩

set_option maxHeartbeats 4000000 in
set_option maxRecDepth 100000 in
theorem h_parts_IOB (l : Launch) (S : ab_St) (F : ab_Fn) (A : ab_An) (h0 : S 0 = some (sC 10 slC_0)) (hO : S 90 = some (sA .long 1)) (a0 a1 : Int) (P : ab_St → ab_Fn → ab_An → Prop) (hM : ∀ l, ab_XMet l yX9_parts cX9_parts 3 (some .int) { frames := 7, cells := 1, slots := 6, locals := 111 } 1 6 [aR 0, aI a0, aI a1] S F A (fun X9 S' F' A' => X9 = "java/lang/IndexOutOfBoundsException" ∧ P S' F' A')) : ab_MetH l yL_parts cL_parts 5 (some .int) [(0, 10, 13, 13)] { frames := 8, cells := 1, slots := 6, locals := 133 } 1 6 [aR 0, aI a0, aI a1, aR 90] S F A (fun v S' F' A' => v = some (aI 1) ∧ P S' F' A') := by
  refine ab_enterH (by decide) (by simp [aI, aR, aX, ab_val, Value.category]) (Nat.le_of_ble_eq_true rfl) (fun E C hT hr => ?_)
  refine j_eq (lv' := [some (aR 0), some (aI a0), some (aI a1), some (aR 90), none]) ?_
  refine j_aload_n C dL_parts_0 rfl rfl ?_
  refine j_iconst C dL_parts_1 ?_
  refine j_aload_n C dL_parts_2 rfl rfl ?_
  refine j_iload_n C dL_parts_3 rfl rfl ?_
  refine j_iload_n C dL_parts_4 rfl rfl ?_
  refine j_catchV C hT (pre := []) (x := (0, 10, 13, 13)) (suf := []) (vs := [aI a0, aI a1]) (st := [aI 0, aR 90]) (X0 := "java/lang/IndexOutOfBoundsException") (P := P) cl_L_36 im_yX9_parts se_yX9_parts (fun _ => (hM _)) h0 rfl rfl rfl ⟨rfl, rfl, by decide, by decide⟩ ⟨by decide, by decide⟩ (fun _ => Nat.le_of_ble_eq_true rfl) dL_parts_5 (fun v hv => by simp only [List.mem_cons, List.not_mem_nil, or_false, Option.some.injEq, reduceCtorEq, false_or] at hv; rcases hv with rfl | rfl | rfl | rfl <;> first | exact (lS h0) | exact (lS hO) | exact trivial) (fun q hq => by cases hq) ⟨by decide, by decide⟩ (by decide) (ab_t3 (List.mem_of_getElem? (i := 14) rfl) rfl) (lw_t3 (List.mem_of_getElem? (i := 25) rfl)) (fun S_5 F_5 A_5 q_5 hP_5 => ?_)
  show ab_J E 5 1 6 S_5 F_5 A_5 13 [some (aR 0), some (aI a0), some (aI a1), some (aR 90), none] [aX (.ref q_5)]
  refine j_xstore C (lv' := [some (aR 0), some (aI a0), some (aI a1), some (aR 90), some (aX (.ref q_5))]) dL_parts_13 (by decide) rfl ?_
  refine j_iconst C dL_parts_15 ?_
  exact j_iret C hr (Nat.le_refl _) (Nat.le_refl _) dL_parts_16 ⟨rfl, hP_5⟩

theorem clh_parts : ab_ClH RL 100 yL_parts cL_parts 5 (some .int) [(0, 10, 13, 13)] 4 := ⟨(ab_t4 (List.mem_of_getElem? (i := 14) rfl) rfl), (ab_t4 (List.mem_of_getElem? (i := 12) rfl) rfl), (ab_t1 (List.mem_of_getElem? (i := 0) rfl) rfl), ⟨by decide +kernel, by decide +kernel⟩, by decide +kernel⟩

set_option maxHeartbeats 4000000 in
set_option maxRecDepth 100000 in
theorem h_berg_ok (l : Launch) (S : ab_St) (F : ab_Fn) (A : ab_An) (h0 : S 0 = some (sC 10 slC_0)) (hO : S 90 = some (sA .long 1)) (a0 a1 : Int) (P : Option ab_V → ab_St → ab_Fn → ab_An → Prop) (hM : ∀ l, ab_Met l yX9_berg cX9_berg 4 (some .int) { frames := 3, cells := 0, slots := 0, locals := 64 } 0 0 [aR 0, aI a0, aI a1] S F A P) (hP : ∀ v S' F' A', P v S' F' A' → (∃ r : Int, v = some (aI r)) ∧ S' 90 = some (sA .long 1)) : ab_MetH l yL_berg cL_berg 5 (some .int) [(0, 10, 13, 13), (0, 10, 17, 42)] { frames := 4, cells := 0, slots := 0, locals := 87 } 0 0 [aR 0, aI a0, aI a1, aR 90] S F A (fun v S' F' A' => v = some (aI 0) ∧ ∃ (r : Int) (A1 : ab_An), P (some (aI r)) S' F' A1 ∧ A' = upA A1 90 0 ((Int32.ofInt r).toInt)) := by
  refine ab_enterH (by decide) (by simp [aI, aR, aX, ab_val, Value.category]) (Nat.le_of_ble_eq_true rfl) (fun E C hT hr => ?_)
  refine j_eq (lv' := [some (aR 0), some (aI a0), some (aI a1), some (aR 90), none]) ?_
  refine j_aload_n C dL_berg_0 rfl rfl ?_
  refine j_iconst C dL_berg_1 ?_
  refine j_aload_n C dL_berg_2 rfl rfl ?_
  refine j_iload_n C dL_berg_3 rfl rfl ?_
  refine j_iload_n C dL_berg_4 rfl rfl ?_
  refine j_callV C (vs := [aI a0, aI a1]) (st := [aI 0, aR 90]) cl_L_39 im_yX9_berg se_yX9_berg (fun _ => (hM _)) h0 rfl rfl rfl ⟨rfl, rfl, by decide, by decide⟩ ⟨by decide, by decide⟩ (fun _ => Nat.le_of_ble_eq_true rfl) (fun v hv => by simp only [List.mem_cons, List.not_mem_nil, or_false] at hv; rcases hv with rfl | rfl <;> first | exact (lS hO) | exact trivial) (fun v hv => by simp only [List.mem_cons, List.not_mem_nil, or_false, Option.some.injEq, reduceCtorEq, false_or] at hv; rcases hv with rfl | rfl | rfl | rfl <;> first | exact (lS h0) | exact (lS hO) | exact trivial) dL_berg_5 (fun v_5 S_5 F_5 A_5 hP_5 => ?_)
  obtain hp := hP_5
  have hp := hP_5
  obtain ⟨⟨r, rfl⟩, ho⟩ := hP _ _ _ _ hp
  show ab_J E 5 0 0 S_5 F_5 A_5 8 [some (aR 0), some (aI a0), some (aI a1), some (aR 90), none] [aI r, aI 0, aR 90]
  refine j_i2l C dL_berg_8 ?_
  refine j_last C ho (by omega) (by omega) (by decide) dL_berg_9 ?_
  refine j_goto C (tgt := 21) dL_berg_10 (by decide) ?_
  refine j_iconst C dL_berg_21 ?_
  exact j_iret C hr (Nat.le_refl _) (Nat.le_refl _) dL_berg_22 ⟨rfl, r, _, hp, rfl⟩

set_option maxHeartbeats 4000000 in
set_option maxRecDepth 100000 in
theorem h_berg_IOB (l : Launch) (S : ab_St) (F : ab_Fn) (A : ab_An) (h0 : S 0 = some (sC 10 slC_0)) (hO : S 90 = some (sA .long 1)) (a0 a1 : Int) (P : ab_St → ab_Fn → ab_An → Prop) (hM : ∀ l, ab_XMet l yX9_berg cX9_berg 4 (some .int) { frames := 7, cells := 1, slots := 6, locals := 111 } 1 6 [aR 0, aI a0, aI a1] S F A (fun X9 S' F' A' => X9 = "java/lang/IndexOutOfBoundsException" ∧ P S' F' A')) : ab_MetH l yL_berg cL_berg 5 (some .int) [(0, 10, 13, 13), (0, 10, 17, 42)] { frames := 8, cells := 1, slots := 6, locals := 134 } 1 6 [aR 0, aI a0, aI a1, aR 90] S F A (fun v S' F' A' => v = some (aI 1) ∧ P S' F' A') := by
  refine ab_enterH (by decide) (by simp [aI, aR, aX, ab_val, Value.category]) (Nat.le_of_ble_eq_true rfl) (fun E C hT hr => ?_)
  refine j_eq (lv' := [some (aR 0), some (aI a0), some (aI a1), some (aR 90), none]) ?_
  refine j_aload_n C dL_berg_0 rfl rfl ?_
  refine j_iconst C dL_berg_1 ?_
  refine j_aload_n C dL_berg_2 rfl rfl ?_
  refine j_iload_n C dL_berg_3 rfl rfl ?_
  refine j_iload_n C dL_berg_4 rfl rfl ?_
  refine j_catchV C hT (pre := []) (x := (0, 10, 13, 13)) (suf := [(0, 10, 17, 42)]) (vs := [aI a0, aI a1]) (st := [aI 0, aR 90]) (X0 := "java/lang/IndexOutOfBoundsException") (P := P) cl_L_39 im_yX9_berg se_yX9_berg (fun _ => (hM _)) h0 rfl rfl rfl ⟨rfl, rfl, by decide, by decide⟩ ⟨by decide, by decide⟩ (fun _ => Nat.le_of_ble_eq_true rfl) dL_berg_5 (fun v hv => by simp only [List.mem_cons, List.not_mem_nil, or_false, Option.some.injEq, reduceCtorEq, false_or] at hv; rcases hv with rfl | rfl | rfl | rfl <;> first | exact (lS h0) | exact (lS hO) | exact trivial) (fun q hq => by cases hq) ⟨by decide, by decide⟩ (by decide) (ab_t3 (List.mem_of_getElem? (i := 14) rfl) rfl) (lw_t3 (List.mem_of_getElem? (i := 25) rfl)) (fun S_5 F_5 A_5 q_5 hP_5 => ?_)
  show ab_J E 5 1 6 S_5 F_5 A_5 13 [some (aR 0), some (aI a0), some (aI a1), some (aR 90), none] [aX (.ref q_5)]
  refine j_xstore C (lv' := [some (aR 0), some (aI a0), some (aI a1), some (aR 90), some (aX (.ref q_5))]) dL_berg_13 (by decide) rfl ?_
  refine j_iconst C dL_berg_15 ?_
  exact j_iret C hr (Nat.le_refl _) (Nat.le_refl _) dL_berg_16 ⟨rfl, hP_5⟩

set_option maxHeartbeats 4000000 in
set_option maxRecDepth 100000 in
theorem h_berg_NSE (l : Launch) (S : ab_St) (F : ab_Fn) (A : ab_An) (h0 : S 0 = some (sC 10 slC_0)) (hO : S 90 = some (sA .long 1)) (a0 a1 : Int) (P : ab_St → ab_Fn → ab_An → Prop) (hM : ∀ l, ab_XMet l yX9_berg cX9_berg 4 (some .int) { frames := 7, cells := 1, slots := 6, locals := 111 } 1 6 [aR 0, aI a0, aI a1] S F A (fun X9 S' F' A' => X9 = "java/util/NoSuchElementException" ∧ P S' F' A')) : ab_MetH l yL_berg cL_berg 5 (some .int) [(0, 10, 13, 13), (0, 10, 17, 42)] { frames := 8, cells := 1, slots := 6, locals := 134 } 1 6 [aR 0, aI a0, aI a1, aR 90] S F A (fun v S' F' A' => v = some (aI 2) ∧ P S' F' A') := by
  refine ab_enterH (by decide) (by simp [aI, aR, aX, ab_val, Value.category]) (Nat.le_of_ble_eq_true rfl) (fun E C hT hr => ?_)
  refine j_eq (lv' := [some (aR 0), some (aI a0), some (aI a1), some (aR 90), none]) ?_
  refine j_aload_n C dL_berg_0 rfl rfl ?_
  refine j_iconst C dL_berg_1 ?_
  refine j_aload_n C dL_berg_2 rfl rfl ?_
  refine j_iload_n C dL_berg_3 rfl rfl ?_
  refine j_iload_n C dL_berg_4 rfl rfl ?_
  refine j_catchV C hT (pre := [(0, 10, 13, 13)]) (x := (0, 10, 17, 42)) (suf := []) (vs := [aI a0, aI a1]) (st := [aI 0, aR 90]) (X0 := "java/util/NoSuchElementException") (P := P) cl_L_39 im_yX9_berg se_yX9_berg (fun _ => (hM _)) h0 rfl rfl rfl ⟨rfl, rfl, by decide, by decide⟩ ⟨by decide, by decide⟩ (fun _ => Nat.le_of_ble_eq_true rfl) dL_berg_5 (fun v hv => by simp only [List.mem_cons, List.not_mem_nil, or_false, Option.some.injEq, reduceCtorEq, false_or] at hv; rcases hv with rfl | rfl | rfl | rfl <;> first | exact (lS h0) | exact (lS hO) | exact trivial) (fun q hq => by simp only [List.mem_cons, List.not_mem_nil, or_false] at hq; rcases hq with rfl; exact ⟨by decide, _, (ab_t3 (List.mem_of_getElem? (i := 14) rfl) rfl), fun _ _ h => lf_NSE_IOB h⟩) ⟨by decide, by decide⟩ (by decide) (ab_t4 (List.mem_of_getElem? (i := 27) rfl) rfl) (lw_t4 (List.mem_of_getElem? (i := 35) rfl)) (fun S_5 F_5 A_5 q_5 hP_5 => ?_)
  show ab_J E 5 1 6 S_5 F_5 A_5 17 [some (aR 0), some (aI a0), some (aI a1), some (aR 90), none] [aX (.ref q_5)]
  refine j_xstore C (lv' := [some (aR 0), some (aI a0), some (aI a1), some (aR 90), some (aX (.ref q_5))]) dL_berg_17 (by decide) rfl ?_
  refine j_iconst C dL_berg_19 ?_
  exact j_iret C hr (Nat.le_refl _) (Nat.le_refl _) dL_berg_20 ⟨rfl, hP_5⟩

theorem clh_berg : ab_ClH RL 103 yL_berg cL_berg 5 (some .int) [(0, 10, 13, 13), (0, 10, 17, 42)] 4 := ⟨(ab_t4 (List.mem_of_getElem? (i := 26) rfl) rfl), (ab_t4 (List.mem_of_getElem? (i := 24) rfl) rfl), (ab_t1 (List.mem_of_getElem? (i := 0) rfl) rfl), ⟨by decide +kernel, by decide +kernel⟩, by decide +kernel⟩

set_option maxHeartbeats 4000000 in
set_option maxRecDepth 100000 in
theorem h_read_ok (l : Launch) (S : ab_St) (F : ab_Fn) (A : ab_An) (h0 : S 0 = some (sC 10 slC_0)) (hO : S 90 = some (sA .long 1)) (P : Option ab_V → ab_St → ab_Fn → ab_An → Prop) (hM : ∀ l, ab_Met l yX9_read cX9_read 1 (some .int) { frames := 8, cells := 5, slots := 160, locals := 192 } 5 160 [aR 0] S F A P) (hP : ∀ v S' F' A', P v S' F' A' → (∃ r : Int, v = some (aI r)) ∧ S' 90 = some (sA .long 1)) : ab_MetH l yL_read cL_read 3 (some .int) [(0, 8, 11, 15), (0, 8, 14, 27)] { frames := 9, cells := 5, slots := 160, locals := 212 } 5 160 [aR 0, aR 90] S F A (fun v S' F' A' => v = some (aI 0) ∧ ∃ (r : Int) (A1 : ab_An), P (some (aI r)) S' F' A1 ∧ A' = upA A1 90 0 ((Int32.ofInt r).toInt)) := by
  refine ab_enterH (by decide) (by simp [aI, aR, aX, ab_val, Value.category]) (Nat.le_of_ble_eq_true rfl) (fun E C hT hr => ?_)
  refine j_eq (lv' := [some (aR 0), some (aR 90), none]) ?_
  refine j_aload_n C dL_read_0 rfl rfl ?_
  refine j_iconst C dL_read_1 ?_
  refine j_aload_n C dL_read_2 rfl rfl ?_
  refine j_callV C (vs := []) (st := [aI 0, aR 90]) cl_L_44 im_yX9_read se_yX9_read (fun _ => (hM _)) h0 rfl rfl rfl ⟨rfl, rfl, by decide, by decide⟩ ⟨by decide, by decide⟩ (fun _ => Nat.le_of_ble_eq_true rfl) (fun v hv => by simp only [List.mem_cons, List.not_mem_nil, or_false] at hv; rcases hv with rfl | rfl <;> first | exact (lS hO) | exact trivial) (fun v hv => by simp only [List.mem_cons, List.not_mem_nil, or_false, Option.some.injEq, reduceCtorEq, false_or] at hv; rcases hv with rfl | rfl <;> first | exact (lS h0) | exact (lS hO)) dL_read_3 (fun v_3 S_3 F_3 A_3 hP_3 => ?_)
  obtain hp := hP_3
  have hp := hP_3
  obtain ⟨⟨r, rfl⟩, ho⟩ := hP _ _ _ _ hp
  show ab_J E 3 5 160 S_3 F_3 A_3 6 [some (aR 0), some (aR 90), none] [aI r, aI 0, aR 90]
  refine j_i2l C dL_read_6 ?_
  refine j_last C ho (by omega) (by omega) (by decide) dL_read_7 ?_
  refine j_goto C (tgt := 17) dL_read_8 (by decide) ?_
  refine j_iconst C dL_read_17 ?_
  exact j_iret C hr (Nat.le_refl _) (Nat.le_refl _) dL_read_18 ⟨rfl, r, _, hp, rfl⟩

set_option maxHeartbeats 4000000 in
set_option maxRecDepth 100000 in
theorem h_read_IAE (l : Launch) (S : ab_St) (F : ab_Fn) (A : ab_An) (h0 : S 0 = some (sC 10 slC_0)) (hO : S 90 = some (sA .long 1)) (P : ab_St → ab_Fn → ab_An → Prop) (hM : ∀ l, ab_XMet l yX9_read cX9_read 1 (some .int) { frames := 8, cells := 1, slots := 6, locals := 192 } 1 6 [aR 0] S F A (fun X9 S' F' A' => X9 = "java/lang/IllegalArgumentException" ∧ P S' F' A')) : ab_MetH l yL_read cL_read 3 (some .int) [(0, 8, 11, 15), (0, 8, 14, 27)] { frames := 9, cells := 1, slots := 6, locals := 212 } 1 6 [aR 0, aR 90] S F A (fun v S' F' A' => v = some (aI 1) ∧ P S' F' A') := by
  refine ab_enterH (by decide) (by simp [aI, aR, aX, ab_val, Value.category]) (Nat.le_of_ble_eq_true rfl) (fun E C hT hr => ?_)
  refine j_eq (lv' := [some (aR 0), some (aR 90), none]) ?_
  refine j_aload_n C dL_read_0 rfl rfl ?_
  refine j_iconst C dL_read_1 ?_
  refine j_aload_n C dL_read_2 rfl rfl ?_
  refine j_catchV C hT (pre := []) (x := (0, 8, 11, 15)) (suf := [(0, 8, 14, 27)]) (vs := []) (st := [aI 0, aR 90]) (X0 := "java/lang/IllegalArgumentException") (P := P) cl_L_44 im_yX9_read se_yX9_read (fun _ => (hM _)) h0 rfl rfl rfl ⟨rfl, rfl, by decide, by decide⟩ ⟨by decide, by decide⟩ (fun _ => Nat.le_of_ble_eq_true rfl) dL_read_3 (fun v hv => by simp only [List.mem_cons, List.not_mem_nil, or_false, Option.some.injEq, reduceCtorEq, false_or] at hv; rcases hv with rfl | rfl <;> first | exact (lS h0) | exact (lS hO)) (fun q hq => by cases hq) ⟨by decide, by decide⟩ (by decide) (ab_t3 (List.mem_of_getElem? (i := 15) rfl) rfl) (lw_t3 (List.mem_of_getElem? (i := 98) rfl)) (fun S_3 F_3 A_3 q_3 hP_3 => ?_)
  show ab_J E 3 1 6 S_3 F_3 A_3 11 [some (aR 0), some (aR 90), none] [aX (.ref q_3)]
  refine j_xstore_n C (lv' := [some (aR 0), some (aR 90), some (aX (.ref q_3))]) dL_read_11 rfl (by decide) rfl ?_
  refine j_iconst C dL_read_12 ?_
  exact j_iret C hr (Nat.le_refl _) (Nat.le_refl _) dL_read_13 ⟨rfl, hP_3⟩

set_option maxHeartbeats 4000000 in
set_option maxRecDepth 100000 in
theorem h_read_UOE (l : Launch) (S : ab_St) (F : ab_Fn) (A : ab_An) (h0 : S 0 = some (sC 10 slC_0)) (hO : S 90 = some (sA .long 1)) (P : ab_St → ab_Fn → ab_An → Prop) (hM : ∀ l, ab_XMet l yX9_read cX9_read 1 (some .int) { frames := 8, cells := 1, slots := 6, locals := 192 } 1 6 [aR 0] S F A (fun X9 S' F' A' => X9 = "java/lang/UnsupportedOperationException" ∧ P S' F' A')) : ab_MetH l yL_read cL_read 3 (some .int) [(0, 8, 11, 15), (0, 8, 14, 27)] { frames := 9, cells := 1, slots := 6, locals := 212 } 1 6 [aR 0, aR 90] S F A (fun v S' F' A' => v = some (aI 2) ∧ P S' F' A') := by
  refine ab_enterH (by decide) (by simp [aI, aR, aX, ab_val, Value.category]) (Nat.le_of_ble_eq_true rfl) (fun E C hT hr => ?_)
  refine j_eq (lv' := [some (aR 0), some (aR 90), none]) ?_
  refine j_aload_n C dL_read_0 rfl rfl ?_
  refine j_iconst C dL_read_1 ?_
  refine j_aload_n C dL_read_2 rfl rfl ?_
  refine j_catchV C hT (pre := [(0, 8, 11, 15)]) (x := (0, 8, 14, 27)) (suf := []) (vs := []) (st := [aI 0, aR 90]) (X0 := "java/lang/UnsupportedOperationException") (P := P) cl_L_44 im_yX9_read se_yX9_read (fun _ => (hM _)) h0 rfl rfl rfl ⟨rfl, rfl, by decide, by decide⟩ ⟨by decide, by decide⟩ (fun _ => Nat.le_of_ble_eq_true rfl) dL_read_3 (fun v hv => by simp only [List.mem_cons, List.not_mem_nil, or_false, Option.some.injEq, reduceCtorEq, false_or] at hv; rcases hv with rfl | rfl <;> first | exact (lS h0) | exact (lS hO)) (fun q hq => by simp only [List.mem_cons, List.not_mem_nil, or_false] at hq; rcases hq with rfl; exact ⟨by decide, _, (ab_t3 (List.mem_of_getElem? (i := 15) rfl) rfl), fun _ _ h => lf_UOE_IAE h⟩) ⟨by decide, by decide⟩ (by decide) (ab_t3 (List.mem_of_getElem? (i := 143) rfl) rfl) (lw_t3 (List.mem_of_getElem? (i := 155) rfl)) (fun S_3 F_3 A_3 q_3 hP_3 => ?_)
  show ab_J E 3 1 6 S_3 F_3 A_3 14 [some (aR 0), some (aR 90), none] [aX (.ref q_3)]
  refine j_xstore_n C (lv' := [some (aR 0), some (aR 90), some (aX (.ref q_3))]) dL_read_14 rfl (by decide) rfl ?_
  refine j_iconst C dL_read_15 ?_
  exact j_iret C hr (Nat.le_refl _) (Nat.le_refl _) dL_read_16 ⟨rfl, hP_3⟩

theorem clh_read : ab_ClH RL 119 yL_read cL_read 3 (some .int) [(0, 8, 11, 15), (0, 8, 14, 27)] 2 := ⟨(ab_t4 (List.mem_of_getElem? (i := 51) rfl) rfl), (ab_t4 (List.mem_of_getElem? (i := 49) rfl) rfl), (ab_t1 (List.mem_of_getElem? (i := 0) rfl) rfl), ⟨by decide +kernel, by decide +kernel⟩, by decide +kernel⟩

set_option maxHeartbeats 4000000 in
set_option maxRecDepth 100000 in
theorem h_cancel_ok (l : Launch) (S : ab_St) (F : ab_Fn) (A : ab_An) (h0 : S 0 = some (sC 10 slC_0)) (hO : S 90 = some (sA .long 1)) (a0 : Int) (P : Option ab_V → ab_St → ab_Fn → ab_An → Prop) (hM : ∀ l, ab_Met l yX9_cancel cX9_cancel 3 (some .boolean) { frames := 3, cells := 0, slots := 0, locals := 64 } 0 0 [aR 0, aI a0] S F A P) (hP : ∀ v S' F' A', P v S' F' A' → (∃ r : Int, v = some (aI r) ∧ (r = 0 ∨ r = 1)) ∧ S' 90 = some (sA .long 1)) : ab_MetH l yL_cancel cL_cancel 4 (some .int) [(0, 16, 19, 13)] { frames := 4, cells := 0, slots := 0, locals := 86 } 0 0 [aR 0, aI a0, aR 90] S F A (fun v S' F' A' => v = some (aI 0) ∧ ∃ (r : Int) (A1 : ab_An), P (some (aI r)) S' F' A1 ∧ A' = upA A1 90 0 r) := by
  refine ab_enterH (by decide) (by simp [aI, aR, aX, ab_val, Value.category]) (Nat.le_of_ble_eq_true rfl) (fun E C hT hr => ?_)
  refine j_eq (lv' := [some (aR 0), some (aI a0), some (aR 90), none]) ?_
  refine j_aload_n C dL_cancel_0 rfl rfl ?_
  refine j_iconst C dL_cancel_1 ?_
  refine j_aload_n C dL_cancel_2 rfl rfl ?_
  refine j_iload_n C dL_cancel_3 rfl rfl ?_
  refine j_callV C (vs := [aI a0]) (st := [aI 0, aR 90]) cl_L_48 im_yX9_cancel se_yX9_cancel (fun _ => (hM _)) h0 rfl rfl rfl ⟨rfl, rfl, by decide, by decide⟩ ⟨by decide, by decide⟩ (fun _ => Nat.le_of_ble_eq_true rfl) (fun v hv => by simp only [List.mem_cons, List.not_mem_nil, or_false] at hv; rcases hv with rfl | rfl <;> first | exact (lS hO) | exact trivial) (fun v hv => by simp only [List.mem_cons, List.not_mem_nil, or_false, Option.some.injEq, reduceCtorEq, false_or] at hv; rcases hv with rfl | rfl | rfl <;> first | exact (lS h0) | exact (lS hO) | exact trivial) dL_cancel_4 (fun v_4 S_4 F_4 A_4 hP_4 => ?_)
  obtain hp := hP_4
  have hp := hP_4
  obtain ⟨⟨r, rfl, hr9⟩, ho⟩ := hP _ _ _ _ hp
  show ab_J E 4 0 0 S_4 F_4 A_4 7 [some (aR 0), some (aI a0), some (aR 90), none] [aI r, aI 0, aR 90]
  refine j_if_eq C (tgt := 14) dL_cancel_7 (by decide) ⟨by omega, by omega⟩ (fun c7 => ?_) (fun c7 => ?_)
  · refine j_lconst C dL_cancel_14 ?_
    refine j_last C ho (by omega) (by omega) (by decide) dL_cancel_15 ?_
    refine j_goto C (tgt := 22) dL_cancel_16 (by decide) ?_
    refine j_iconst C dL_cancel_22 ?_
    exact j_iret C hr (Nat.le_refl _) (Nat.le_refl _) dL_cancel_23 ⟨rfl, r, _, hp, by congr 1; omega⟩
  · refine j_lconst C dL_cancel_10 ?_
    refine j_goto C (tgt := 15) dL_cancel_11 (by decide) ?_
    refine j_last C ho (by omega) (by omega) (by decide) dL_cancel_15 ?_
    refine j_goto C (tgt := 22) dL_cancel_16 (by decide) ?_
    refine j_iconst C dL_cancel_22 ?_
    exact j_iret C hr (Nat.le_refl _) (Nat.le_refl _) dL_cancel_23 ⟨rfl, r, _, hp, by congr 1; omega⟩

set_option maxHeartbeats 4000000 in
set_option maxRecDepth 100000 in
theorem h_cancel_IOB (l : Launch) (S : ab_St) (F : ab_Fn) (A : ab_An) (h0 : S 0 = some (sC 10 slC_0)) (hO : S 90 = some (sA .long 1)) (a0 : Int) (P : ab_St → ab_Fn → ab_An → Prop) (hM : ∀ l, ab_XMet l yX9_cancel cX9_cancel 3 (some .boolean) { frames := 7, cells := 1, slots := 6, locals := 111 } 1 6 [aR 0, aI a0] S F A (fun X9 S' F' A' => X9 = "java/lang/IndexOutOfBoundsException" ∧ P S' F' A')) : ab_MetH l yL_cancel cL_cancel 4 (some .int) [(0, 16, 19, 13)] { frames := 8, cells := 1, slots := 6, locals := 133 } 1 6 [aR 0, aI a0, aR 90] S F A (fun v S' F' A' => v = some (aI 1) ∧ P S' F' A') := by
  refine ab_enterH (by decide) (by simp [aI, aR, aX, ab_val, Value.category]) (Nat.le_of_ble_eq_true rfl) (fun E C hT hr => ?_)
  refine j_eq (lv' := [some (aR 0), some (aI a0), some (aR 90), none]) ?_
  refine j_aload_n C dL_cancel_0 rfl rfl ?_
  refine j_iconst C dL_cancel_1 ?_
  refine j_aload_n C dL_cancel_2 rfl rfl ?_
  refine j_iload_n C dL_cancel_3 rfl rfl ?_
  refine j_catchV C hT (pre := []) (x := (0, 16, 19, 13)) (suf := []) (vs := [aI a0]) (st := [aI 0, aR 90]) (X0 := "java/lang/IndexOutOfBoundsException") (P := P) cl_L_48 im_yX9_cancel se_yX9_cancel (fun _ => (hM _)) h0 rfl rfl rfl ⟨rfl, rfl, by decide, by decide⟩ ⟨by decide, by decide⟩ (fun _ => Nat.le_of_ble_eq_true rfl) dL_cancel_4 (fun v hv => by simp only [List.mem_cons, List.not_mem_nil, or_false, Option.some.injEq, reduceCtorEq, false_or] at hv; rcases hv with rfl | rfl | rfl <;> first | exact (lS h0) | exact (lS hO) | exact trivial) (fun q hq => by cases hq) ⟨by decide, by decide⟩ (by decide) (ab_t3 (List.mem_of_getElem? (i := 14) rfl) rfl) (lw_t3 (List.mem_of_getElem? (i := 25) rfl)) (fun S_4 F_4 A_4 q_4 hP_4 => ?_)
  show ab_J E 4 1 6 S_4 F_4 A_4 19 [some (aR 0), some (aI a0), some (aR 90), none] [aX (.ref q_4)]
  refine j_xstore_n C (lv' := [some (aR 0), some (aI a0), some (aR 90), some (aX (.ref q_4))]) dL_cancel_19 rfl (by decide) rfl ?_
  refine j_iconst C dL_cancel_20 ?_
  exact j_iret C hr (Nat.le_refl _) (Nat.le_refl _) dL_cancel_21 ⟨rfl, hP_4⟩

theorem clh_cancel : ab_ClH RL 127 yL_cancel cL_cancel 4 (some .int) [(0, 16, 19, 13)] 3 := ⟨(ab_t4 (List.mem_of_getElem? (i := 143) rfl) rfl), (ab_t4 (List.mem_of_getElem? (i := 141) rfl) rfl), (ab_t1 (List.mem_of_getElem? (i := 0) rfl) rfl), ⟨by decide +kernel, by decide +kernel⟩, by decide +kernel⟩

set_option maxHeartbeats 4000000 in
set_option maxRecDepth 100000 in
theorem h_force_ok (l : Launch) (S : ab_St) (F : ab_Fn) (A : ab_An) (h0 : S 0 = some (sC 10 slC_0)) (hO : S 90 = some (sA .long 1)) (a0 a1 : Int) (P : Option ab_V → ab_St → ab_Fn → ab_An → Prop) (hM : ∀ l, ab_Met l yX9_force cX9_force 3 (some .boolean) { frames := 3, cells := 0, slots := 0, locals := 64 } 0 0 [aR 0, aI a0, aI a1] S F A P) (hP : ∀ v S' F' A', P v S' F' A' → (∃ r : Int, v = some (aI r) ∧ (r = 0 ∨ r = 1)) ∧ S' 90 = some (sA .long 1)) : ab_MetH l yL_force cL_force 5 (some .int) [(0, 17, 20, 13)] { frames := 4, cells := 0, slots := 0, locals := 86 } 0 0 [aR 0, aI a0, aI a1, aR 90] S F A (fun v S' F' A' => v = some (aI 0) ∧ ∃ (r : Int) (A1 : ab_An), P (some (aI r)) S' F' A1 ∧ A' = upA A1 90 0 r) := by
  refine ab_enterH (by decide) (by simp [aI, aR, aX, ab_val, Value.category]) (Nat.le_of_ble_eq_true rfl) (fun E C hT hr => ?_)
  refine j_eq (lv' := [some (aR 0), some (aI a0), some (aI a1), some (aR 90), none]) ?_
  refine j_aload_n C dL_force_0 rfl rfl ?_
  refine j_iconst C dL_force_1 ?_
  refine j_aload_n C dL_force_2 rfl rfl ?_
  refine j_iload_n C dL_force_3 rfl rfl ?_
  refine j_iload_n C dL_force_4 rfl rfl ?_
  refine j_callV C (vs := [aI a0, aI a1]) (st := [aI 0, aR 90]) cl_L_52 im_yX9_force se_yX9_force (fun _ => (hM _)) h0 rfl rfl rfl ⟨rfl, rfl, by decide, by decide⟩ ⟨by decide, by decide⟩ (fun _ => Nat.le_of_ble_eq_true rfl) (fun v hv => by simp only [List.mem_cons, List.not_mem_nil, or_false] at hv; rcases hv with rfl | rfl <;> first | exact (lS hO) | exact trivial) (fun v hv => by simp only [List.mem_cons, List.not_mem_nil, or_false, Option.some.injEq, reduceCtorEq, false_or] at hv; rcases hv with rfl | rfl | rfl | rfl <;> first | exact (lS h0) | exact (lS hO) | exact trivial) dL_force_5 (fun v_5 S_5 F_5 A_5 hP_5 => ?_)
  obtain hp := hP_5
  have hp := hP_5
  obtain ⟨⟨r, rfl, hr9⟩, ho⟩ := hP _ _ _ _ hp
  show ab_J E 5 0 0 S_5 F_5 A_5 8 [some (aR 0), some (aI a0), some (aI a1), some (aR 90), none] [aI r, aI 0, aR 90]
  refine j_if_eq C (tgt := 15) dL_force_8 (by decide) ⟨by omega, by omega⟩ (fun c8 => ?_) (fun c8 => ?_)
  · refine j_lconst C dL_force_15 ?_
    refine j_last C ho (by omega) (by omega) (by decide) dL_force_16 ?_
    refine j_goto C (tgt := 24) dL_force_17 (by decide) ?_
    refine j_iconst C dL_force_24 ?_
    exact j_iret C hr (Nat.le_refl _) (Nat.le_refl _) dL_force_25 ⟨rfl, r, _, hp, by congr 1; omega⟩
  · refine j_lconst C dL_force_11 ?_
    refine j_goto C (tgt := 16) dL_force_12 (by decide) ?_
    refine j_last C ho (by omega) (by omega) (by decide) dL_force_16 ?_
    refine j_goto C (tgt := 24) dL_force_17 (by decide) ?_
    refine j_iconst C dL_force_24 ?_
    exact j_iret C hr (Nat.le_refl _) (Nat.le_refl _) dL_force_25 ⟨rfl, r, _, hp, by congr 1; omega⟩

set_option maxHeartbeats 4000000 in
set_option maxRecDepth 100000 in
theorem h_force_IOB (l : Launch) (S : ab_St) (F : ab_Fn) (A : ab_An) (h0 : S 0 = some (sC 10 slC_0)) (hO : S 90 = some (sA .long 1)) (a0 a1 : Int) (P : ab_St → ab_Fn → ab_An → Prop) (hM : ∀ l, ab_XMet l yX9_force cX9_force 3 (some .boolean) { frames := 7, cells := 1, slots := 6, locals := 111 } 1 6 [aR 0, aI a0, aI a1] S F A (fun X9 S' F' A' => X9 = "java/lang/IndexOutOfBoundsException" ∧ P S' F' A')) : ab_MetH l yL_force cL_force 5 (some .int) [(0, 17, 20, 13)] { frames := 8, cells := 1, slots := 6, locals := 133 } 1 6 [aR 0, aI a0, aI a1, aR 90] S F A (fun v S' F' A' => v = some (aI 1) ∧ P S' F' A') := by
  refine ab_enterH (by decide) (by simp [aI, aR, aX, ab_val, Value.category]) (Nat.le_of_ble_eq_true rfl) (fun E C hT hr => ?_)
  refine j_eq (lv' := [some (aR 0), some (aI a0), some (aI a1), some (aR 90), none]) ?_
  refine j_aload_n C dL_force_0 rfl rfl ?_
  refine j_iconst C dL_force_1 ?_
  refine j_aload_n C dL_force_2 rfl rfl ?_
  refine j_iload_n C dL_force_3 rfl rfl ?_
  refine j_iload_n C dL_force_4 rfl rfl ?_
  refine j_catchV C hT (pre := []) (x := (0, 17, 20, 13)) (suf := []) (vs := [aI a0, aI a1]) (st := [aI 0, aR 90]) (X0 := "java/lang/IndexOutOfBoundsException") (P := P) cl_L_52 im_yX9_force se_yX9_force (fun _ => (hM _)) h0 rfl rfl rfl ⟨rfl, rfl, by decide, by decide⟩ ⟨by decide, by decide⟩ (fun _ => Nat.le_of_ble_eq_true rfl) dL_force_5 (fun v hv => by simp only [List.mem_cons, List.not_mem_nil, or_false, Option.some.injEq, reduceCtorEq, false_or] at hv; rcases hv with rfl | rfl | rfl | rfl <;> first | exact (lS h0) | exact (lS hO) | exact trivial) (fun q hq => by cases hq) ⟨by decide, by decide⟩ (by decide) (ab_t3 (List.mem_of_getElem? (i := 14) rfl) rfl) (lw_t3 (List.mem_of_getElem? (i := 25) rfl)) (fun S_5 F_5 A_5 q_5 hP_5 => ?_)
  show ab_J E 5 1 6 S_5 F_5 A_5 20 [some (aR 0), some (aI a0), some (aI a1), some (aR 90), none] [aX (.ref q_5)]
  refine j_xstore C (lv' := [some (aR 0), some (aI a0), some (aI a1), some (aR 90), some (aX (.ref q_5))]) dL_force_20 (by decide) rfl ?_
  refine j_iconst C dL_force_22 ?_
  exact j_iret C hr (Nat.le_refl _) (Nat.le_refl _) dL_force_23 ⟨rfl, hP_5⟩

theorem clh_force : ab_ClH RL 130 yL_force cL_force 5 (some .int) [(0, 17, 20, 13)] 4 := ⟨(ab_t4 (List.mem_of_getElem? (i := 155) rfl) rfl), (ab_t4 (List.mem_of_getElem? (i := 153) rfl) rfl), (ab_t1 (List.mem_of_getElem? (i := 0) rfl) rfl), ⟨by decide +kernel, by decide +kernel⟩, by decide +kernel⟩

set_option maxHeartbeats 4000000 in
set_option maxRecDepth 100000 in
theorem h_write_ok (l : Launch) (S : ab_St) (F : ab_Fn) (A : ab_An) (h0 : S 0 = some (sC 10 slC_0)) (hO : S 90 = some (sA .long 1)) (a0 : Int) (P : Option ab_V → ab_St → ab_Fn → ab_An → Prop) (hM : ∀ l, ab_Met l yX9_write cX9_write 4 (some .int) { frames := 6, cells := 0, slots := 0, locals := 128 } 0 0 [aR 0, aI a0] S F A P) (hP : ∀ v S' F' A', P v S' F' A' → (∃ r : Int, v = some (aI r)) ∧ S' 90 = some (sA .long 1)) : ab_MetH l yL_write cL_write 4 (some .int) [(0, 9, 12, 13)] { frames := 7, cells := 0, slots := 0, locals := 151 } 0 0 [aR 0, aI a0, aR 90] S F A (fun v S' F' A' => v = some (aI 0) ∧ ∃ (r : Int) (A1 : ab_An), P (some (aI r)) S' F' A1 ∧ A' = upA A1 90 0 ((Int32.ofInt r).toInt)) := by
  refine ab_enterH (by decide) (by simp [aI, aR, aX, ab_val, Value.category]) (Nat.le_of_ble_eq_true rfl) (fun E C hT hr => ?_)
  refine j_eq (lv' := [some (aR 0), some (aI a0), some (aR 90), none]) ?_
  refine j_aload_n C dL_write_0 rfl rfl ?_
  refine j_iconst C dL_write_1 ?_
  refine j_aload_n C dL_write_2 rfl rfl ?_
  refine j_iload_n C dL_write_3 rfl rfl ?_
  refine j_callV C (vs := [aI a0]) (st := [aI 0, aR 90]) cl_L_56 im_yX9_write se_yX9_write (fun _ => (hM _)) h0 rfl rfl rfl ⟨rfl, rfl, by decide, by decide⟩ ⟨by decide, by decide⟩ (fun _ => Nat.le_of_ble_eq_true rfl) (fun v hv => by simp only [List.mem_cons, List.not_mem_nil, or_false] at hv; rcases hv with rfl | rfl <;> first | exact (lS hO) | exact trivial) (fun v hv => by simp only [List.mem_cons, List.not_mem_nil, or_false, Option.some.injEq, reduceCtorEq, false_or] at hv; rcases hv with rfl | rfl | rfl <;> first | exact (lS h0) | exact (lS hO) | exact trivial) dL_write_4 (fun v_4 S_4 F_4 A_4 hP_4 => ?_)
  obtain hp := hP_4
  have hp := hP_4
  obtain ⟨⟨r, rfl⟩, ho⟩ := hP _ _ _ _ hp
  show ab_J E 4 0 0 S_4 F_4 A_4 7 [some (aR 0), some (aI a0), some (aR 90), none] [aI r, aI 0, aR 90]
  refine j_i2l C dL_write_7 ?_
  refine j_last C ho (by omega) (by omega) (by decide) dL_write_8 ?_
  refine j_goto C (tgt := 15) dL_write_9 (by decide) ?_
  refine j_iconst C dL_write_15 ?_
  exact j_iret C hr (Nat.le_refl _) (Nat.le_refl _) dL_write_16 ⟨rfl, r, _, hp, rfl⟩

set_option maxHeartbeats 4000000 in
set_option maxRecDepth 100000 in
theorem h_write_IOB (l : Launch) (S : ab_St) (F : ab_Fn) (A : ab_An) (h0 : S 0 = some (sC 10 slC_0)) (hO : S 90 = some (sA .long 1)) (a0 : Int) (P : ab_St → ab_Fn → ab_An → Prop) (hM : ∀ l, ab_XMet l yX9_write cX9_write 4 (some .int) { frames := 7, cells := 1, slots := 6, locals := 128 } 1 6 [aR 0, aI a0] S F A (fun X9 S' F' A' => X9 = "java/lang/IndexOutOfBoundsException" ∧ P S' F' A')) : ab_MetH l yL_write cL_write 4 (some .int) [(0, 9, 12, 13)] { frames := 8, cells := 1, slots := 6, locals := 151 } 1 6 [aR 0, aI a0, aR 90] S F A (fun v S' F' A' => v = some (aI 1) ∧ P S' F' A') := by
  refine ab_enterH (by decide) (by simp [aI, aR, aX, ab_val, Value.category]) (Nat.le_of_ble_eq_true rfl) (fun E C hT hr => ?_)
  refine j_eq (lv' := [some (aR 0), some (aI a0), some (aR 90), none]) ?_
  refine j_aload_n C dL_write_0 rfl rfl ?_
  refine j_iconst C dL_write_1 ?_
  refine j_aload_n C dL_write_2 rfl rfl ?_
  refine j_iload_n C dL_write_3 rfl rfl ?_
  refine j_catchV C hT (pre := []) (x := (0, 9, 12, 13)) (suf := []) (vs := [aI a0]) (st := [aI 0, aR 90]) (X0 := "java/lang/IndexOutOfBoundsException") (P := P) cl_L_56 im_yX9_write se_yX9_write (fun _ => (hM _)) h0 rfl rfl rfl ⟨rfl, rfl, by decide, by decide⟩ ⟨by decide, by decide⟩ (fun _ => Nat.le_of_ble_eq_true rfl) dL_write_4 (fun v hv => by simp only [List.mem_cons, List.not_mem_nil, or_false, Option.some.injEq, reduceCtorEq, false_or] at hv; rcases hv with rfl | rfl | rfl <;> first | exact (lS h0) | exact (lS hO) | exact trivial) (fun q hq => by cases hq) ⟨by decide, by decide⟩ (by decide) (ab_t3 (List.mem_of_getElem? (i := 14) rfl) rfl) (lw_t3 (List.mem_of_getElem? (i := 25) rfl)) (fun S_4 F_4 A_4 q_4 hP_4 => ?_)
  show ab_J E 4 1 6 S_4 F_4 A_4 12 [some (aR 0), some (aI a0), some (aR 90), none] [aX (.ref q_4)]
  refine j_xstore_n C (lv' := [some (aR 0), some (aI a0), some (aR 90), some (aX (.ref q_4))]) dL_write_12 rfl (by decide) rfl ?_
  refine j_iconst C dL_write_13 ?_
  exact j_iret C hr (Nat.le_refl _) (Nat.le_refl _) dL_write_14 ⟨rfl, hP_4⟩

theorem clh_write : ab_ClH RL 133 yL_write cL_write 4 (some .int) [(0, 9, 12, 13)] 3 := ⟨(ab_t4 (List.mem_of_getElem? (i := 162) rfl) rfl), (ab_t4 (List.mem_of_getElem? (i := 160) rfl) rfl), (ab_t1 (List.mem_of_getElem? (i := 0) rfl) rfl), ⟨by decide +kernel, by decide +kernel⟩, by decide +kernel⟩

set_option maxHeartbeats 4000000 in
set_option maxRecDepth 100000 in
theorem h_way_ok (l : Launch) (S : ab_St) (F : ab_Fn) (A : ab_An) (h0 : S 0 = some (sC 10 slC_0)) (hO : S 90 = some (sA .long 1)) (a0 a1 a2 : Int) (P : Option ab_V → ab_St → ab_Fn → ab_An → Prop) (hM : ∀ l, ab_Met l yX9_way cX9_way 5 (some .int) { frames := 3, cells := 0, slots := 0, locals := 69 } 0 0 [aR 0, aI a0, aI a1, aI a2] S F A P) (hP : ∀ v S' F' A', P v S' F' A' → (∃ r : Int, v = some (aI r)) ∧ S' 90 = some (sA .long 1)) : ab_MetH l yL_way cL_way 6 (some .int) [(0, 12, 15, 13)] { frames := 4, cells := 0, slots := 0, locals := 93 } 0 0 [aR 0, aI a0, aI a1, aI a2, aR 90] S F A (fun v S' F' A' => v = some (aI 0) ∧ ∃ (r : Int) (A1 : ab_An), P (some (aI r)) S' F' A1 ∧ A' = upA A1 90 0 ((Int32.ofInt r).toInt)) := by
  refine ab_enterH (by decide) (by simp [aI, aR, aX, ab_val, Value.category]) (Nat.le_of_ble_eq_true rfl) (fun E C hT hr => ?_)
  refine j_eq (lv' := [some (aR 0), some (aI a0), some (aI a1), some (aI a2), some (aR 90), none]) ?_
  refine j_aload C dL_way_0 rfl ?_
  refine j_iconst C dL_way_2 ?_
  refine j_aload_n C dL_way_3 rfl rfl ?_
  refine j_iload_n C dL_way_4 rfl rfl ?_
  refine j_iload_n C dL_way_5 rfl rfl ?_
  refine j_iload_n C dL_way_6 rfl rfl ?_
  refine j_callV C (vs := [aI a0, aI a1, aI a2]) (st := [aI 0, aR 90]) cl_L_59 im_yX9_way se_yX9_way (fun _ => (hM _)) h0 rfl rfl rfl ⟨rfl, rfl, by decide, by decide⟩ ⟨by decide, by decide⟩ (fun _ => Nat.le_of_ble_eq_true rfl) (fun v hv => by simp only [List.mem_cons, List.not_mem_nil, or_false] at hv; rcases hv with rfl | rfl <;> first | exact (lS hO) | exact trivial) (fun v hv => by simp only [List.mem_cons, List.not_mem_nil, or_false, Option.some.injEq, reduceCtorEq, false_or] at hv; rcases hv with rfl | rfl | rfl | rfl | rfl <;> first | exact (lS h0) | exact (lS hO) | exact trivial) dL_way_7 (fun v_7 S_7 F_7 A_7 hP_7 => ?_)
  obtain hp := hP_7
  have hp := hP_7
  obtain ⟨⟨r, rfl⟩, ho⟩ := hP _ _ _ _ hp
  show ab_J E 6 0 0 S_7 F_7 A_7 10 [some (aR 0), some (aI a0), some (aI a1), some (aI a2), some (aR 90), none] [aI r, aI 0, aR 90]
  refine j_i2l C dL_way_10 ?_
  refine j_last C ho (by omega) (by omega) (by decide) dL_way_11 ?_
  refine j_goto C (tgt := 19) dL_way_12 (by decide) ?_
  refine j_iconst C dL_way_19 ?_
  exact j_iret C hr (Nat.le_refl _) (Nat.le_refl _) dL_way_20 ⟨rfl, r, _, hp, rfl⟩

set_option maxHeartbeats 4000000 in
set_option maxRecDepth 100000 in
theorem h_way_IOB (l : Launch) (S : ab_St) (F : ab_Fn) (A : ab_An) (h0 : S 0 = some (sC 10 slC_0)) (hO : S 90 = some (sA .long 1)) (a0 a1 a2 : Int) (P : ab_St → ab_Fn → ab_An → Prop) (hM : ∀ l, ab_XMet l yX9_way cX9_way 5 (some .int) { frames := 7, cells := 1, slots := 6, locals := 110 } 1 6 [aR 0, aI a0, aI a1, aI a2] S F A (fun X9 S' F' A' => X9 = "java/lang/IndexOutOfBoundsException" ∧ P S' F' A')) : ab_MetH l yL_way cL_way 6 (some .int) [(0, 12, 15, 13)] { frames := 8, cells := 1, slots := 6, locals := 134 } 1 6 [aR 0, aI a0, aI a1, aI a2, aR 90] S F A (fun v S' F' A' => v = some (aI 1) ∧ P S' F' A') := by
  refine ab_enterH (by decide) (by simp [aI, aR, aX, ab_val, Value.category]) (Nat.le_of_ble_eq_true rfl) (fun E C hT hr => ?_)
  refine j_eq (lv' := [some (aR 0), some (aI a0), some (aI a1), some (aI a2), some (aR 90), none]) ?_
  refine j_aload C dL_way_0 rfl ?_
  refine j_iconst C dL_way_2 ?_
  refine j_aload_n C dL_way_3 rfl rfl ?_
  refine j_iload_n C dL_way_4 rfl rfl ?_
  refine j_iload_n C dL_way_5 rfl rfl ?_
  refine j_iload_n C dL_way_6 rfl rfl ?_
  refine j_catchV C hT (pre := []) (x := (0, 12, 15, 13)) (suf := []) (vs := [aI a0, aI a1, aI a2]) (st := [aI 0, aR 90]) (X0 := "java/lang/IndexOutOfBoundsException") (P := P) cl_L_59 im_yX9_way se_yX9_way (fun _ => (hM _)) h0 rfl rfl rfl ⟨rfl, rfl, by decide, by decide⟩ ⟨by decide, by decide⟩ (fun _ => Nat.le_of_ble_eq_true rfl) dL_way_7 (fun v hv => by simp only [List.mem_cons, List.not_mem_nil, or_false, Option.some.injEq, reduceCtorEq, false_or] at hv; rcases hv with rfl | rfl | rfl | rfl | rfl <;> first | exact (lS h0) | exact (lS hO) | exact trivial) (fun q hq => by cases hq) ⟨by decide, by decide⟩ (by decide) (ab_t3 (List.mem_of_getElem? (i := 14) rfl) rfl) (lw_t3 (List.mem_of_getElem? (i := 25) rfl)) (fun S_7 F_7 A_7 q_7 hP_7 => ?_)
  show ab_J E 6 1 6 S_7 F_7 A_7 15 [some (aR 0), some (aI a0), some (aI a1), some (aI a2), some (aR 90), none] [aX (.ref q_7)]
  refine j_xstore C (lv' := [some (aR 0), some (aI a0), some (aI a1), some (aI a2), some (aR 90), some (aX (.ref q_7))]) dL_way_15 (by decide) rfl ?_
  refine j_iconst C dL_way_17 ?_
  exact j_iret C hr (Nat.le_refl _) (Nat.le_refl _) dL_way_18 ⟨rfl, hP_7⟩

theorem clh_way : ab_ClH RL 140 yL_way cL_way 6 (some .int) [(0, 12, 15, 13)] 5 := ⟨(ab_t4 (List.mem_of_getElem? (i := 182) rfl) rfl), (ab_t4 (List.mem_of_getElem? (i := 180) rfl) rfl), (ab_t1 (List.mem_of_getElem? (i := 0) rfl) rfl), ⟨by decide +kernel, by decide +kernel⟩, by decide +kernel⟩
