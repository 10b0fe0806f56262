/-- a warning came behind the others: n corners X, Y; fx, ax: which objects' numbers, which rows may be others -/
def NWC (S S' : ab_St) (F F' : ab_Fn) (A A' : ab_An) (nc : Nat → Nat) (n : Int) (X Y : Int → Int) (fx ax : Nat → Prop) : Prop := (WG S' (fun w => if w = (F 3 2).toNat then n.toNat else nc w) (F 3 2 + 1) ∧ (∀ i, i ≠ 3 → i ≠ 300 + (F 3 2).toNat → i ≠ 350 + (F 3 2).toNat → i ≠ 400 + (F 3 2).toNat → i ≠ 450 + (F 3 2).toNat → (i < 600 ∨ 640 ≤ i ∨ (600 + (F 3 2).toNat < i ∧ S i = none)) → S' i = S i) ∧ F' 3 2 = F 3 2 + 1 ∧ (∀ i, i ≠ 3 → i ≠ 300 + (F 3 2).toNat → ¬ fx i → F' i = F i) ∧ (F' (300 + (F 3 2).toNat) 2 = F 0 10 ∧ F' (300 + (F 3 2).toNat) 4 = 0 ∧ F' (300 + (F 3 2).toNat) 5 = 0) ∧ (∀ i, i ≠ 350 + (F 3 2).toNat → i ≠ 400 + (F 3 2).toNat → i ≠ 450 + (F 3 2).toNat → ¬ ax i → A' i = A i) ∧ (∀ k, 0 ≤ k → k < n → A' (350 + (F 3 2).toNat) k = X k ∧ A' (400 + (F 3 2).toNat) k = Y k) ∧ ∀ y, 0 ≤ y → y < 14 → A' (450 + (F 3 2).toNat) y = wb (wIn X Y n) y 20)
theorem wb_cong {e e' : Int → Int} {y : Int} {n : Nat} (h : ∀ s, e s = e' s) : wb e y n = wb e' y n := by
  unfold wb; exact sm_cong (fun k _ _ => by rw [h])

set_option maxHeartbeats 4000000 in
set_option maxRecDepth 100000 in
theorem c_warn (l : Launch) (S : ab_St) (F : ab_Fn) (A : ab_An) (hS : ab_SC S) (hBg : BG S (F 2 2)) (hb : 0 ≤ F 2 2 ∧ F 2 2 ≤ 10) (hp : ∀ b k, 0 ≤ b → b < F 2 2 → 0 ≤ k → k < 280 → 0 ≤ A (220 + b.toNat) k ∧ A (220 + b.toNat) k ≤ 1000000) (nc : Nat → Nat) (hWg : WG S nc (F 3 2)) (hw9 : 0 ≤ F 3 2 ∧ F 3 2 ≤ 40) (hfr : F 3 2 < 40 → S (300 + (F 3 2).toNat) = none ∧ S (350 + (F 3 2).toNat) = none ∧ S (400 + (F 3 2).toNat) = none ∧ S (450 + (F 3 2).toNat) = none ∧ S (600 + (F 3 2).toNat) = none) : ab_Met l yX9_warn cX9_warn 2 (some .int) { frames := 8, cells := 5, slots := 160, locals := 192 } 5 160 [aR 0] S F A (fun v S' F' A' => ∃ (n : Int) (X Y : Int → Int), LR (PT (fun s => 0 < sm (fun bb => A (220 + bb.toNat) s) (F 2 2).toNat)) n X Y ∧ (0 ≤ n ∧ n ≤ 42) ∧ ((v = some (aI (-1)) ∧ (n = 0 ∨ 40 < n ∨ F 3 2 = 40) ∧ S = S' ∧ F' = upF F 8 2 n ∧ ∀ i, ¬ (i = 18 ∨ i = 19 ∨ i = 20 ∨ i = 21 ∨ i = 27) → A' i = A i) ∨ (v = some (aI (F 3 2)) ∧ ¬ (n = 0 ∨ 40 < n ∨ F 3 2 = 40) ∧ NWC S S' F F' A A' nc n X Y (fun i => i = 8) (fun i => i = 18 ∨ i = 19 ∨ i = 20 ∨ i = 21 ∨ i = 27)))) := by
  refine ab_enter (by decide) (by simp [aI, aR, aX, ab_val, Value.category]) (Nat.le_of_ble_eq_true rfl) (fun E C hr => ?_)
  refine j_eq (lv' := [some (aR 0), none]) ?_
  have hWg2 := hWg
  obtain ⟨hW1, ew, Nw, hl3, hN3, hW3, hW4, hW5⟩ := hWg
  refine j_aload_n C dX9_warn_0 rfl rfl ?_
  refine j_callV C (vs := []) (st := []) cl_X9_191 im_yX9_gatherParts se_yX9_gatherParts (fun _ => (c_gather _ S F A hS hBg hb)) ((sC_0 hS)) rfl rfl rfl ⟨rfl, rfl, by decide, by decide⟩ ⟨by decide, by decide⟩ (fun _ => Nat.le_of_ble_eq_true rfl) (fun v hv => by cases hv) (fun v hv => by simp only [List.mem_cons, List.not_mem_nil, or_false, Option.some.injEq, reduceCtorEq, false_or] at hv; rcases hv with rfl <;> first | exact (lS ((sC_0 hS)))) dX9_warn_1 (fun v_1 S_1 F_1 A_1 hP_1 => ?_)
  obtain ⟨rfl, rfl, rfl, hO1, hg1⟩ := hP_1
  show ab_J E 2 0 0 S F A_1 4 [some (aR 0), none] []
  refine j_aload_n C dX9_warn_4 rfl rfl ?_
  refine j_getR C (j := 7) fl_X9_41 ((sC_0 hS)) rfl dX9_warn_5 ?_
  refine j_aload_n C dX9_warn_8 rfl rfl ?_
  refine j_getR C (j := 27) fl_X9_59 ((sC_0 hS)) rfl dX9_warn_9 ?_
  refine j_callV C (vs := [aR 27]) (st := []) cl_X9_194 im_yX3_wrap se_yX3_wrap (fun _ => (c_wrap _ S F A_1 hS (fun k q1 q2 => by rw [hg1 k q1 q2]; have := gs_rng hb (fun b a c => hp b k a c q1 q2); exact ⟨by omega, by omega⟩))) ((sC_7 hS)) rfl rfl rfl ⟨rfl, rfl, by decide, by decide⟩ ⟨by decide, by decide⟩ (fun _ => Nat.le_of_ble_eq_true rfl) (fun v hv => by cases hv) (fun v hv => by simp only [List.mem_cons, List.not_mem_nil, or_false, Option.some.injEq, reduceCtorEq, false_or] at hv; rcases hv with rfl <;> first | exact (lS ((sC_0 hS)))) dX9_warn_12 (fun v_12 S_12 F_12 A_12 hP_12 => ?_)
  obtain ⟨rfl, rfl, n12, rfl, hn12, hL12, hO12⟩ := hP_12
  show ab_J E 2 0 0 S (upF F 8 2 n12) A_12 15 [some (aR 0), none] []
  have hLR : LR (PT (fun s => 0 < sm (fun bb => A (220 + bb.toNat) s) (F 2 2).toNat)) n12 (A_12 18) (A_12 19) := by rw [← PT_eq (q := fun s => 0 < A_1 27 s) (fun s z1 z2 => by rw [hg1 s z1 z2])]; exact hL12
  have hOA : ∀ i, ¬ (i = 18 ∨ i = 19 ∨ i = 20 ∨ i = 21 ∨ i = 27) → A_12 i = A i := fun i z => by rw [hO12 i (by omega) (by omega) (by omega) (by omega)]; exact hO1 i (by omega)
  refine j_aload_n C dX9_warn_15 rfl rfl ?_
  refine j_getR C (j := 7) fl_X9_41 ((sC_0 hS)) rfl dX9_warn_16 ?_
  refine j_getR C (j := 8) fl_X9_198 ((sC_7 hS)) rfl dX9_warn_19 ?_
  refine j_get C (aI n12) fl_X9_202 ((sC_8 hS)) (fun _ => rfl) dX9_warn_22 ?_
  refine j_istore_n C (lv' := [some (aR 0), some (aI n12)]) dX9_warn_25 rfl (by decide) rfl ?_
  refine j_iload_n C dX9_warn_26 rfl rfl ?_
  refine j_if_eq C (tgt := 48) dX9_warn_27 (by decide) ⟨by omega, by omega⟩ (fun c27 => ?_) (fun c27 => ?_)
  · refine j_iconst C dX9_warn_48 ?_
    exact j_iret C hr (Nat.le_of_ble_eq_true rfl) (Nat.le_of_ble_eq_true rfl) dX9_warn_49 ⟨n12, A_12 18, A_12 19, hLR, hn12, Or.inl ⟨rfl, by omega, rfl, rfl, hOA⟩⟩
  · refine j_iload_n C dX9_warn_30 rfl rfl ?_
    refine j_bipush C dX9_warn_31 rfl ?_
    refine j_icmp_gt C (tgt := 48) dX9_warn_33 (by decide) ⟨by omega, by omega⟩ ⟨by omega, by omega⟩ (fun c33 => ?_) (fun c33 => ?_)
    · refine j_iconst C dX9_warn_48 ?_
      exact j_iret C hr (Nat.le_of_ble_eq_true rfl) (Nat.le_of_ble_eq_true rfl) dX9_warn_49 ⟨n12, A_12 18, A_12 19, hLR, hn12, Or.inl ⟨rfl, by omega, rfl, rfl, hOA⟩⟩
    · refine j_aload_n C dX9_warn_36 rfl rfl ?_
      refine j_getR C (j := 3) fl_X9_23 ((sC_0 hS)) rfl dX9_warn_37 ?_
      refine j_callV C (vs := []) (st := []) cl_X9_126 im_yJx4a65c_size_8abf5 se_yJx4a65c_size_8abf5 (fun _ => (t_size _ S (upF F 8 2 n12) A_12 _ _ (hl3))) (hl3) rfl rfl rfl ⟨rfl, rfl, by decide, by decide⟩ ⟨by decide, by decide⟩ (fun _ => Nat.le_of_ble_eq_true rfl) (fun v hv => by cases hv) (fun v hv => by simp only [List.mem_cons, List.not_mem_nil, or_false, Option.some.injEq, reduceCtorEq, false_or] at hv; rcases hv with rfl | rfl <;> first | exact (lS ((sC_0 hS))) | exact trivial) dX9_warn_40 (fun v_40 S_40 F_40 A_40 hP_40 => ?_)
      obtain ⟨rfl, rfl, rfl, rfl⟩ := hP_40
      show ab_J E 2 0 0 S (upF F 8 2 n12) A_12 43 [some (aR 0), some (aI n12)] [aI (F 3 2)]
      refine j_bipush C dX9_warn_43 rfl ?_
      refine j_icmp_lt C (tgt := 50) dX9_warn_45 (by decide) ⟨by omega, by omega⟩ ⟨by omega, by omega⟩ (fun c45 => ?_) (fun c45 => ?_)
      · have hfr := hfr (by omega)
        refine j_aload_n C dX9_warn_50 rfl rfl ?_
        refine j_aload_n C dX9_warn_51 rfl rfl ?_
        refine j_getR C (j := 7) fl_X9_41 ((sC_0 hS)) rfl dX9_warn_52 ?_
        refine j_getR C (j := 8) fl_X9_198 ((sC_7 hS)) rfl dX9_warn_55 ?_
        refine j_callV C (vs := [aR 8]) (st := []) cl_X9_211 im_yX9_addWarning se_yX9_addWarning (fun _ => (c_addW8 _ S (upF F 8 2 n12) A_12 hS nc hWg2 (by show 0 ≤ F 3 2 ∧ F 3 2 < 40; omega) hfr (by show 1 ≤ n12 ∧ n12 ≤ 40; omega) (fun k z1 z2 => by have z2 : k < n12 := z2; have := PT_rng (LR_in hLR z1 z2); omega))) ((sC_0 hS)) rfl rfl rfl ⟨rfl, rfl, by decide, by decide⟩ ⟨by decide, by decide⟩ (fun _ => Nat.le_of_ble_eq_true rfl) (fun v hv => by cases hv) (fun v hv => by simp only [List.mem_cons, List.not_mem_nil, or_false, Option.some.injEq, reduceCtorEq, false_or] at hv; rcases hv with rfl | rfl <;> first | exact (lS ((sC_0 hS))) | exact trivial) dX9_warn_58 (fun v_58 S_58 F_58 A_58 hP_58 => ?_)
        obtain ⟨rfl, hN58⟩ := hP_58
        show ab_J E 2 5 160 S_58 F_58 A_58 61 [some (aR 0), some (aI n12)] [aI (F 3 2)]
        exact j_iret C hr (Nat.le_refl _) (Nat.le_refl _) dX9_warn_61 ⟨n12, A_12 18, A_12 19, hLR, hn12, Or.inr ⟨rfl, by omega, hN58.1, hN58.2.1, hN58.2.2.1, (fun i z1 z2 z3 => (hN58.2.2.2.1 i z1 z2).trans (upF_o z3)), hN58.2.2.2.2.1, (fun i z1 z2 z3 z4 => (hN58.2.2.2.2.2.1 i z1 z2 z3).trans (hOA i z4)), hN58.2.2.2.2.2.2.1, hN58.2.2.2.2.2.2.2⟩⟩
      · refine j_iconst C dX9_warn_48 ?_
        exact j_iret C hr (Nat.le_of_ble_eq_true rfl) (Nat.le_of_ble_eq_true rfl) dX9_warn_49 ⟨n12, A_12 18, A_12 19, hLR, hn12, Or.inl ⟨rfl, by omega, rfl, rfl, hOA⟩⟩

set_option maxHeartbeats 4000000 in
set_option maxRecDepth 100000 in
theorem c_read (l : Launch) (S : ab_St) (F : ab_Fn) (A : ab_An) (hS : ab_SC S) (he : 0 ≤ F 4 1 ∧ F 4 1 ≤ 400) (hT : ∀ i, 0 ≤ i → i < F 4 1 → 0 ≤ A 15 i ∧ A 15 i ≤ 255) (hrd : (rdS (byt (A 15) (F 4 1)) (F 4 1)).1 = -1) (nc : Nat → Nat) (hWg : WG S nc (F 3 2)) (hw9 : 0 ≤ F 3 2 ∧ F 3 2 < 40) (hfr : S (300 + (F 3 2).toNat) = none ∧ S (350 + (F 3 2).toNat) = none ∧ S (400 + (F 3 2).toNat) = none ∧ S (450 + (F 3 2).toNat) = none ∧ S (600 + (F 3 2).toNat) = none) : ab_Met l yX9_read cX9_read 1 (some .int) { frames := 8, cells := 5, slots := 160, locals := 192 } 5 160 [aR 0] S F A (fun v S' F' A' => v = some (aI (F 3 2)) ∧ F' 0 12 = -1 ∧ (∀ k, k ≠ 12 → F' 0 k = F 0 k) ∧ F' 4 1 = 0 ∧ (∀ k, k ≠ 1 → F' 4 k = F 4 k) ∧ NWC S S' F F' A A' nc ((rdS (byt (A 15) (F 4 1)) (F 4 1)).2.length : Nat) (fsX (rdS (byt (A 15) (F 4 1)) (F 4 1)).2) (snY (rdS (byt (A 15) (F 4 1)) (F 4 1)).2) (fun i => i = 0 ∨ i = 4 ∨ i = 5 ∨ i = 6) (fun i => i = 16 ∨ i = 17)) := by
  refine ab_enter (by decide) (by simp [aI, aR, aX, ab_val, Value.category]) (Nat.le_of_ble_eq_true rfl) (fun E C hr => ?_)
  refine j_eq (lv' := [some (aR 0)]) ?_
  have hWg2 := hWg
  obtain ⟨hW1, ew, Nw, hl3, hN3, hW3, hW4, hW5⟩ := hWg
  have hle := rdS_len hrd
  have hri : inR ((rdS (byt (A 15) (F 4 1)) (F 4 1)).1) := by rw [hrd]; exact ⟨by decide, by decide⟩
  refine j_aload_n C dX9_read_0 rfl rfl ?_
  refine j_aload_n C dX9_read_1 rfl rfl ?_
  refine j_getR C (j := 5) fl_X9_29 ((sC_0 hS)) rfl dX9_read_2 ?_
  refine j_callV C (vs := []) (st := [aR 0]) cl_X9_215 im_yX7_findFirstWrong se_yX7_findFirstWrong (fun _ => (c_findFirstWrong _ S F A hS he hT)) ((sC_5 hS)) rfl rfl rfl ⟨rfl, rfl, by decide, by decide⟩ ⟨by decide, by decide⟩ (fun _ => Nat.le_of_ble_eq_true rfl) (fun v hv => by simp only [List.mem_cons, List.not_mem_nil, or_false] at hv; rcases hv with rfl <;> first | exact (lS ((sC_0 hS)))) (fun v hv => by simp only [List.mem_cons, List.not_mem_nil, or_false, Option.some.injEq, reduceCtorEq, false_or] at hv; rcases hv with rfl <;> first | exact (lS ((sC_0 hS)))) dX9_read_5 (fun v_5 S_5 F_5 A_5 hP_5 => ?_)
  obtain ⟨rfl, a5, c5, rfl, rfl, hO5, hc5, hri5⟩ := hP_5
  show ab_J E 1 0 0 S (upF (upF F 5 2 a5) 6 2 c5) A_5 8 [some (aR 0)] [aI ((rdS (byt (A 15) (F 4 1)) (F 4 1)).1), aR 0]
  refine j_putI C fp_X9_73 ((sC_0 hS)) rfl dX9_read_8 ?_
  refine j_aload_n C dX9_read_11 rfl rfl ?_
  refine j_getR C (j := 4) fl_X9_37 ((sC_0 hS)) rfl dX9_read_12 ?_
  refine j_iconst C dX9_read_15 ?_
  refine j_putI C fp_X9_76 ((sC_4 hS)) rfl dX9_read_16 ?_
  refine j_aload_n C dX9_read_19 rfl rfl ?_
  refine j_get C (aI ((rdS (byt (A 15) (F 4 1)) (F 4 1)).1)) fl_X9_73 ((sC_0 hS)) (fun _ => rfl) dX9_read_20 ?_
  refine j_iconst C dX9_read_23 ?_
  refine j_icmp_eq C (tgt := 37) dX9_read_24 (by decide) hri ⟨by omega, by omega⟩ (fun c24 => ?_) (fun c24 => ?_)
  · refine j_aload_n C dX9_read_37 rfl rfl ?_
    refine j_getR C (j := 3) fl_X9_23 ((sC_0 hS)) rfl dX9_read_38 ?_
    refine j_callV C (vs := []) (st := []) cl_X9_126 im_yJx4a65c_size_8abf5 se_yJx4a65c_size_8abf5 (fun _ => (t_size _ S (upF (upF (upF (upF F 5 2 a5) 6 2 c5) 0 12 ((rdS (byt (A 15) (F 4 1)) (F 4 1)).1)) 4 1 0) A_5 _ _ (hl3))) (hl3) rfl rfl rfl ⟨rfl, rfl, by decide, by decide⟩ ⟨by decide, by decide⟩ (fun _ => Nat.le_of_ble_eq_true rfl) (fun v hv => by cases hv) (fun v hv => by simp only [List.mem_cons, List.not_mem_nil, or_false, Option.some.injEq, reduceCtorEq, false_or] at hv; rcases hv with rfl <;> first | exact (lS ((sC_0 hS)))) dX9_read_41 (fun v_41 S_41 F_41 A_41 hP_41 => ?_)
    obtain ⟨rfl, rfl, rfl, rfl⟩ := hP_41
    show ab_J E 1 0 0 S (upF (upF (upF (upF F 5 2 a5) 6 2 c5) 0 12 ((rdS (byt (A 15) (F 4 1)) (F 4 1)).1)) 4 1 0) A_5 44 [some (aR 0)] [aI (F 3 2)]
    refine j_bipush C dX9_read_44 rfl ?_
    refine j_icmp_lt C (tgt := 59) dX9_read_46 (by decide) ⟨by omega, by omega⟩ ⟨by omega, by omega⟩ (fun c46 => ?_) (fun c46 => ?_)
    · refine j_aload_n C dX9_read_59 rfl rfl ?_
      refine j_aload_n C dX9_read_60 rfl rfl ?_
      refine j_getR C (j := 5) fl_X9_29 ((sC_0 hS)) rfl dX9_read_61 ?_
      refine j_getR C (j := 6) fl_X9_222 ((sC_5 hS)) rfl dX9_read_64 ?_
      refine j_callV C (vs := [aR 6]) (st := []) cl_X9_211 im_yX9_addWarning se_yX9_addWarning (fun _ => (c_addW6 _ S (upF (upF (upF (upF F 5 2 a5) 6 2 c5) 0 12 ((rdS (byt (A 15) (F 4 1)) (F 4 1)).1)) 4 1 0) A_5 hS nc hWg2 (by show 0 ≤ F 3 2 ∧ F 3 2 < 40; omega) hfr (by show 1 ≤ c5 ∧ c5 ≤ 40; have := (hc5 hrd).1; omega) (fun k z1 z2 => by have z2 : k < c5 := z2; have q := cnr_at (hc5 hrd) z1 z2; rw [q.1, q.2]; have := cnr_rng (hc5 hrd) z1 z2; omega))) ((sC_0 hS)) rfl rfl rfl ⟨rfl, rfl, by decide, by decide⟩ ⟨by decide, by decide⟩ (fun _ => Nat.le_of_ble_eq_true rfl) (fun v hv => by cases hv) (fun v hv => by simp only [List.mem_cons, List.not_mem_nil, or_false, Option.some.injEq, reduceCtorEq, false_or] at hv; rcases hv with rfl <;> first | exact (lS ((sC_0 hS)))) dX9_read_67 (fun v_67 S_67 F_67 A_67 hP_67 => ?_)
      obtain ⟨rfl, hN67⟩ := hP_67
      show ab_J E 1 5 160 S_67 F_67 A_67 70 [some (aR 0)] [aI (F 3 2)]
      exact j_iret C hr (Nat.le_refl _) (Nat.le_refl _) dX9_read_70 (by
    have hcn := hc5 hrd
    have e1 : c5 = ((rdS (byt (A 15) (F 4 1)) (F 4 1)).2.length : Nat) := hcn.1
    have hX : ∀ k, 0 ≤ k → k < c5 → A_5 16 k = fsX (rdS (byt (A 15) (F 4 1)) (F 4 1)).2 k ∧ A_5 17 k = snY (rdS (byt (A 15) (F 4 1)) (F 4 1)).2 k := fun k z1 z2 => cnr_at hcn z1 z2
    refine ⟨rfl, ?_, fun k z => ?_, ?_, fun k z => ?_, ?_, hN67.2.1, hN67.2.2.1, fun i z1 z2 z3 => ?_, hN67.2.2.2.2.1, fun i z1 z2 z3 z4 => ?_, fun k z1 z2 => ?_, fun y z1 z2 => ?_⟩
    · rw [hN67.2.2.2.1 0 (by decide) (by omega)]; exact hrd
    · rw [hN67.2.2.2.1 0 (by decide) (by omega), upF_o (by decide), upF_ne z, upF_o (by decide), upF_o (by decide)]
    · rw [hN67.2.2.2.1 4 (by decide) (by omega), upF_at]
    · rw [hN67.2.2.2.1 4 (by decide) (by omega), upF_ne z, upF_o (by decide), upF_o (by decide), upF_o (by decide)]
    · rw [← e1]; exact hN67.1
    · rw [hN67.2.2.2.1 i z1 z2, upF_o (by omega), upF_o (by omega), upF_o (by omega), upF_o (by omega)]
    · rw [hN67.2.2.2.2.2.1 i z1 z2 z3]; exact hO5 i (by omega) (by omega)
    · rw [← e1] at z2
      have q := hN67.2.2.2.2.2.2.1 k z1 z2
      have q2 := hX k z1 z2
      exact ⟨q.1.trans q2.1, q.2.trans q2.2⟩
    · refine (hN67.2.2.2.2.2.2.2 y z1 z2).trans ?_
      refine wb_cong (n := 20) (fun s => ?_)
      rw [← e1]
      exact wIn_cong (by show 1 ≤ c5; omega) hX)
    · exact absurd c46 (by omega)
  · exact absurd hrd c24

set_option maxHeartbeats 4000000 in
set_option maxRecDepth 100000 in
theorem c_bergInit (l : Launch) (S : ab_St) (F : ab_Fn) (A : ab_An) (hS : ab_SC S) (b : Nat) (hb9 : b < 10) (hbO : S (200 + b) = some (sC 1 sl0_X0)) (hbR : S (220 + b) = none) : ab_Met l yX0_init cX0_init 1 none { frames := 1, cells := 1, slots := 280, locals := 30 } 1 280 [aR (200 + b)] S F A (fun v S' F' A' => v = none ∧ S' = upS (upS S (220 + b) (sA .int 280)) (200 + b) (sC 1 (slB (220 + b))) ∧ F' = upF (upF (upF (upF F (200 + b) 1 0) (200 + b) 2 0) (200 + b) 3 0) (200 + b) 4 0 ∧ A' = zA A (220 + b)) := by
  refine ab_enter (by decide) (by simp [aI, aR, aX, ab_val, Value.category]) (Nat.le_of_ble_eq_true rfl) (fun E C hr => ?_)
  refine j_eq (lv' := [some (aR (200 + b))]) ?_
  refine j_aload_n C dX0_init_0 rfl rfl ?_
  refine j_objInit C (fun _ => ⟨_, rfl⟩) (ab_t3 (List.mem_of_getElem? (i := 173) rfl) rfl) (ab_t1 (List.mem_of_getElem? (i := 38) rfl) rfl) (ab_t1 (List.mem_of_getElem? (i := 39) rfl) rfl) (by decide) (fun _ => Nat.le_of_ble_eq_true rfl) dX0_init_1 ?_
  refine j_aload_n C dX0_init_4 rfl rfl ?_
  refine j_sipush C dX0_init_5 rfl ?_
  refine j_newa C (atype := .int) (ty := .int) (N := 280) (220 + b) 0 rfl (fun _ => rfl) (fun _ _ h => h) rfl (ab_t1 (List.mem_of_getElem? (i := 71) rfl) rfl) rfl (by decide) (by decide) (hbR) (by omega) (Nat.le_of_ble_eq_true rfl) (Nat.le_of_ble_eq_true rfl) (fun v hv => by simp only [List.mem_cons, List.not_mem_nil, or_false] at hv; rcases hv with rfl <;> first | exact (lS (hbO))) (fun v hv => by simp only [List.mem_cons, List.not_mem_nil, or_false, Option.some.injEq, reduceCtorEq, false_or] at hv; rcases hv with rfl <;> first | exact (lS (hbO))) dX0_init_8 ?_
  show ab_J E 1 1 280 (upS S (220 + b) (sA .int 280)) F (zA A (220 + b)) 10 [some (aR (200 + b))] [aR (220 + b), aR (200 + b)]
  refine j_putR C fp_X0_9 (fun _ => rfl) (Or.inr ⟨_, rfl⟩) (((upS_ne (by omega)).trans (hbO))) (lS (upS_at _ _ _)) dX0_init_10 ?_
  refine j_aload_n C dX0_init_13 rfl rfl ?_
  refine j_iconst C dX0_init_14 ?_
  refine j_putI C fp_X0_15 (upS_at _ _ _) rfl dX0_init_15 ?_
  refine j_aload_n C dX0_init_18 rfl rfl ?_
  refine j_iconst C dX0_init_19 ?_
  refine j_putI C fp_X0_19 (upS_at _ _ _) rfl dX0_init_20 ?_
  refine j_aload_n C dX0_init_23 rfl rfl ?_
  refine j_iconst C dX0_init_24 ?_
  refine j_putI C fp_X0_22 (upS_at _ _ _) rfl dX0_init_25 ?_
  refine j_aload_n C dX0_init_28 rfl rfl ?_
  refine j_iconst C dX0_init_29 ?_
  refine j_putZ C fp_X0_25 (upS_at _ _ _) rfl (Or.inl rfl) dX0_init_30 ?_
  exact j_vret C hr (Nat.le_refl _) (Nat.le_refl _) dX0_init_33 ⟨rfl, by rw [slB_up], rfl, rfl⟩

set_option maxHeartbeats 4000000 in
set_option maxRecDepth 100000 in
theorem c_tell (l : Launch) (S : ab_St) (F : ab_Fn) (A : ab_An) (hS : ab_SC S) (sq z : Int) (h1 : 0 ≤ sq ∧ sq ≤ 279) (h2 : 1 ≤ z ∧ z ≤ 1000) (hdry : A 11 sq = 0) (hBg : BG S (F 2 2)) (hb : 0 ≤ F 2 2 ∧ F 2 2 ≤ 10) (U : Int → bst) (hU : ∀ b, 0 ≤ b → b < F 2 2 → BC F A b.toNat (U b) ∧ BW (U b)) (hfb : F 2 2 < 10 → S (200 + (F 2 2).toNat) = none ∧ S (220 + (F 2 2).toNat) = none ∧ (F 2 2 = 0 → S 590 = none) ∧ S 591 = none) (hroom : bBest U sq z (F 2 2) (-1) → F 2 2 < 10) : ab_Met l yX9_tell cX9_tell 4 (some .int) { frames := 7, cells := 3, slots := 345, locals := 171 } 3 345 [aR 0, aI sq, aI z] S F A (fun v S' F' A' => ∃ r : Int, v = some (aI r) ∧ BC F' A' r.toNat (bnew sq z) ∧ (∀ i, i ≠ 220 + r.toNat → A' i = A i) ∧ (∀ i, i ≠ 0 → i ≠ 2 → i ≠ 200 + r.toNat → F' i = F i) ∧ (∀ k, k ≠ 11 → F' 0 k = F 0 k) ∧ ((bBest U sq z (F 2 2) (-1) ∧ F 2 2 < 10 ∧ r = F 2 2 ∧ F' 0 11 = F 0 11 ∧ F' 2 2 = F 2 2 + 1 ∧ BG S' (F 2 2 + 1) ∧ ∀ i, i ≠ 2 → i ≠ 590 → i ≠ 200 + (F 2 2).toNat → i ≠ 220 + (F 2 2).toNat → S' i = S i) ∨ (bBest U sq z (F 2 2) r ∧ (0 ≤ r ∧ r < F 2 2) ∧ F' 0 11 = F 0 11 + 1 ∧ F' 2 = F 2 ∧ S' = S))) := by
  refine ab_enter (by decide) (by simp [aI, aR, aX, ab_val, Value.category]) (Nat.le_of_ble_eq_true rfl) (fun E C hr => ?_)
  refine j_eq (lv' := [some (aR 0), some (aI sq), some (aI z), none]) ?_
  have hB := hBg
  obtain ⟨hB1, eb, hl2, hB3, hB4, hB5⟩ := hB
  obtain ⟨f2, hf2⟩ : ∃ f : Nat → Option Nat, 0 < F 2 2 → S eb = some (sO 10 f) ∧ ∀ w : Nat, (w : Int) < F 2 2 → f w = some (200 + w) := by
    by_cases z : 0 < F 2 2
    · obtain ⟨c, c1, c2⟩ := hB3 z; exact ⟨c, fun _ => ⟨c1, c2⟩⟩
    · exact ⟨fun _ => none, fun q => absurd q z⟩
  obtain ⟨q9, hq9⟩ : ∃ q : Nat, (F 2 2 = 0 → q = 590) ∧ (0 < F 2 2 → q = 591) := by
    by_cases z : F 2 2 = 0
    · exact ⟨590, fun _ => rfl, fun y => by omega⟩
    · exact ⟨591, fun y => absurd y z, fun _ => rfl⟩
  have hq92 : q9 = 590 ∨ q9 = 591 := by
    rcases (show F 2 2 = 0 ∨ 0 < F 2 2 by omega) with z | z
    · exact Or.inl (hq9.1 z)
    · exact Or.inr (hq9.2 z)
  refine j_iload_n C dX9_tell_0 rfl rfl ?_
  refine j_callS C (vs := [aI sq]) (st := []) cl_X9_85 sc_yX9_checkSquare (fun _ => (c_checkSquare _ S F A hS _ h1)) rfl ⟨rfl, rfl, by decide, by decide⟩ ⟨by decide, by decide⟩ (fun _ => Nat.le_of_ble_eq_true rfl) (fun v hv => by cases hv) (fun v hv => by simp only [List.mem_cons, List.not_mem_nil, or_false, Option.some.injEq, reduceCtorEq, false_or] at hv; rcases hv with rfl | rfl | rfl <;> first | exact (lS ((sC_0 hS))) | exact trivial) dX9_tell_1 (fun v_1 S_1 F_1 A_1 hP_1 => ?_)
  obtain ⟨rfl, rfl, rfl, rfl⟩ := hP_1
  show ab_J E 4 0 0 S F A 4 [some (aR 0), some (aI sq), some (aI z), none] []
  refine j_iload_n C dX9_tell_4 rfl rfl ?_
  refine j_iconst C dX9_tell_5 ?_
  refine j_icmp_lt C (tgt := 28) dX9_tell_6 (by decide) ⟨by omega, by omega⟩ ⟨by omega, by omega⟩ (fun c6 => ?_) (fun c6 => ?_)
  · exact absurd c6 (by omega)
  · refine j_iload_n C dX9_tell_9 rfl rfl ?_
    refine j_sipush C dX9_tell_10 rfl ?_
    refine j_icmp_gt C (tgt := 28) dX9_tell_13 (by decide) ⟨by omega, by omega⟩ ⟨by omega, by omega⟩ (fun c13 => ?_) (fun c13 => ?_)
    · exact absurd c13 (by omega)
    · refine j_aload_n C dX9_tell_16 rfl rfl ?_
      refine j_getR C (j := 1) fl_X9_12 ((sC_0 hS)) rfl dX9_tell_17 ?_
      refine j_getR C (j := 11) fl_X9_116 ((sC_1 hS)) rfl dX9_tell_20 ?_
      refine j_iload_n C dX9_tell_23 rfl rfl ?_
      refine j_zald C ((sC_11 hS)) (by omega) (by omega) (by decide) dX9_tell_24 ?_
      refine j_if_eq C (tgt := 38) dX9_tell_25 (by decide) (by rw [hdry]; exact ⟨by decide, by decide⟩) (fun c25 => ?_) (fun c25 => ?_)
      · refine j_aload_n C dX9_tell_38 rfl rfl ?_
        refine j_iload_n C dX9_tell_39 rfl rfl ?_
        refine j_iload_n C dX9_tell_40 rfl rfl ?_
        refine j_callV C (vs := [aI sq, aI z]) (st := []) cl_X9_122 im_yX9_bergToJoin se_yX9_bergToJoin (fun _ => (c_bergToJoin _ S F A hS _ _ h1 h2 hBg hb U hU)) ((sC_0 hS)) rfl rfl rfl ⟨rfl, rfl, by decide, by decide⟩ ⟨by decide, by decide⟩ (fun _ => Nat.le_of_ble_eq_true rfl) (fun v hv => by cases hv) (fun v hv => by simp only [List.mem_cons, List.not_mem_nil, or_false, Option.some.injEq, reduceCtorEq, false_or] at hv; rcases hv with rfl | rfl | rfl <;> first | exact (lS ((sC_0 hS))) | exact trivial) dX9_tell_41 (fun v_41 S_41 F_41 A_41 hP_41 => ?_)
        obtain ⟨rfl, rfl, rfl, r41, rfl, hj41⟩ := hP_41
        show ab_J E 4 0 0 S F A 44 [some (aR 0), some (aI sq), some (aI z), none] [aI r41]
        refine j_istore_n C (lv' := [some (aR 0), some (aI sq), some (aI z), some (aI r41)]) dX9_tell_44 rfl (by decide) rfl ?_
        refine j_iload_n C dX9_tell_45 rfl rfl ?_
        refine j_iconst C dX9_tell_46 ?_
        refine j_icmp_ne C (tgt := 98) dX9_tell_47 (by decide) ⟨by have := bBest_rng hj41; omega, by have := bBest_rng hj41; omega⟩ ⟨by omega, by omega⟩ (fun c47 => ?_) (fun c47 => ?_)
        · have hr41 : 0 ≤ r41 ∧ r41 < F 2 2 := by have := bBest_rng hj41; omega
          have hg41 : F (200 + r41.toNat) 4 = 0 := by
            rw [(hU r41 hr41.1 hr41.2).1.2.2.2.2]
            rcases hj41 with y | y
            · omega
            · exact y.2.2.1.1
          refine j_aload_n C dX9_tell_98 rfl rfl ?_
          refine j_dup C dX9_tell_99 (fun _ => rfl) ?_
          refine j_get C (aI (F 0 11)) fl_X9_70 ((sC_0 hS)) (fun _ => rfl) dX9_tell_100 ?_
          refine j_iconst C dX9_tell_103 ?_
          refine j_iadd C dX9_tell_104 ?_
          refine j_putI C fp_X9_70 ((sC_0 hS)) rfl dX9_tell_105 ?_
          refine j_aload_n C dX9_tell_108 rfl rfl ?_
          refine j_getR C (j := 2) fl_X9_19 ((sC_0 hS)) rfl dX9_tell_109 ?_
          refine j_iload_n C dX9_tell_112 rfl rfl ?_
          obtain ⟨c2_113, he2_113, hc2_113⟩ := hB3 (by omega)
          refine j_callV C (vs := [aI r41]) (st := []) cl_X9_142 im_yJx4a65c_get_915e3 se_yJx4a65c_get_915e3 (fun _ => (t_get _ S (upF F 0 11 ((F 0 11) + 1)) A _ _ _ (200 + (r41).toNat) _ _ (hl2) he2_113 (by show 0 ≤ r41 ∧ r41 < F 2 2; omega) (by show F 2 2 ≤ 10; omega) (by decide) (hc2_113 _ (by omega)))) (hl2) rfl rfl rfl ⟨rfl, rfl, by decide, by decide⟩ ⟨by decide, by decide⟩ (fun _ => Nat.le_of_ble_eq_true rfl) (fun v hv => by cases hv) (fun v hv => by simp only [List.mem_cons, List.not_mem_nil, or_false, Option.some.injEq, reduceCtorEq, false_or] at hv; rcases hv with rfl | rfl | rfl | rfl <;> first | exact (lS ((sC_0 hS))) | exact trivial) dX9_tell_113 (fun v_113 S_113 F_113 A_113 hP_113 => ?_)
          obtain ⟨rfl, rfl, rfl, rfl⟩ := hP_113
          show ab_J E 4 0 0 S (upF F 0 11 ((F 0 11) + 1)) A 116 [some (aR 0), some (aI sq), some (aI z), some (aI r41)] [aR (200 + (r41).toNat)]
          refine j_cast C ((hB1 ((r41).toNat) (by omega)).1) rfl (ab_t2 (List.mem_of_getElem? (i := 51) rfl) rfl) dX9_tell_116 ?_
          refine j_iload_n C dX9_tell_119 rfl rfl ?_
          refine j_iload_n C dX9_tell_120 rfl rfl ?_
          refine j_callV C (vs := [aI sq, aI z]) (st := []) cl_X9_146 im_yX0_setAt se_yX0_setAt (fun _ => (c_setAt _ S (upF F 0 11 ((F 0 11) + 1)) A hS ((r41).toNat) (by omega) ((hB1 ((r41).toNat) (by omega)).1) ((hB1 ((r41).toNat) (by omega)).2) _ _ h1 (by rw [upF_o (by omega)]; exact hg41))) ((hB1 ((r41).toNat) (by omega)).1) rfl rfl rfl ⟨rfl, rfl, by decide, by decide⟩ ⟨by decide, by decide⟩ (fun _ => Nat.le_of_ble_eq_true rfl) (fun v hv => by cases hv) (fun v hv => by simp only [List.mem_cons, List.not_mem_nil, or_false, Option.some.injEq, reduceCtorEq, false_or] at hv; rcases hv with rfl | rfl | rfl | rfl <;> first | exact (lS ((sC_0 hS))) | exact trivial) dX9_tell_121 (fun v_121 S_121 F_121 A_121 hP_121 => ?_)
          obtain ⟨rfl, rfl, hC121, hA121, hF121⟩ := hP_121
          show ab_J E 4 0 0 S F_121 A_121 124 [some (aR 0), some (aI sq), some (aI z), some (aI r41)] []
          refine j_iload_n C dX9_tell_124 rfl rfl ?_
          exact j_iret C hr (Nat.le_of_ble_eq_true rfl) (Nat.le_of_ble_eq_true rfl) dX9_tell_125 ⟨r41, rfl, hC121, hA121, (fun i z1 z2 z3 => by rw [hF121 i z3, upF_o z1]), (fun k z => by rw [hF121 0 (by omega), upF_ne z]), Or.inr ⟨hj41, hr41, by rw [hF121 0 (by omega), upF_at], by rw [hF121 2 (by omega), upF_o (by decide)], rfl⟩⟩
        · refine j_aload_n C dX9_tell_50 rfl rfl ?_
          refine j_getR C (j := 2) fl_X9_19 ((sC_0 hS)) rfl dX9_tell_51 ?_
          refine j_callV C (vs := []) (st := []) cl_X9_126 im_yJx4a65c_size_8abf5 se_yJx4a65c_size_8abf5 (fun _ => (t_size _ S F A _ _ (hl2))) (hl2) rfl rfl rfl ⟨rfl, rfl, by decide, by decide⟩ ⟨by decide, by decide⟩ (fun _ => Nat.le_of_ble_eq_true rfl) (fun v hv => by cases hv) (fun v hv => by simp only [List.mem_cons, List.not_mem_nil, or_false, Option.some.injEq, reduceCtorEq, false_or] at hv; rcases hv with rfl | rfl | rfl | rfl <;> first | exact (lS ((sC_0 hS))) | exact trivial) dX9_tell_54 (fun v_54 S_54 F_54 A_54 hP_54 => ?_)
          obtain ⟨rfl, rfl, rfl, rfl⟩ := hP_54
          show ab_J E 4 0 0 S F A 57 [some (aR 0), some (aI sq), some (aI z), some (aI r41)] [aI (F 2 2)]
          refine j_bipush C dX9_tell_57 rfl ?_
          refine j_icmp_lt C (tgt := 72) dX9_tell_59 (by decide) ⟨by omega, by omega⟩ ⟨by omega, by omega⟩ (fun c59 => ?_) (fun c59 => ?_)
          · have hfb := hfb (by omega)
            refine j_aload_n C dX9_tell_72 rfl rfl ?_
            refine j_getR C (j := 2) fl_X9_19 ((sC_0 hS)) rfl dX9_tell_73 ?_
            refine j_callV C (vs := []) (st := []) cl_X9_126 im_yJx4a65c_size_8abf5 se_yJx4a65c_size_8abf5 (fun _ => (t_size _ S F A _ _ (hl2))) (hl2) rfl rfl rfl ⟨rfl, rfl, by decide, by decide⟩ ⟨by decide, by decide⟩ (fun _ => Nat.le_of_ble_eq_true rfl) (fun v hv => by cases hv) (fun v hv => by simp only [List.mem_cons, List.not_mem_nil, or_false, Option.some.injEq, reduceCtorEq, false_or] at hv; rcases hv with rfl | rfl | rfl | rfl <;> first | exact (lS ((sC_0 hS))) | exact trivial) dX9_tell_76 (fun v_76 S_76 F_76 A_76 hP_76 => ?_)
            obtain ⟨rfl, rfl, rfl, rfl⟩ := hP_76
            show ab_J E 4 0 0 S F A 79 [some (aR 0), some (aI sq), some (aI z), some (aI r41)] [aI (F 2 2)]
            refine j_istore_n C (lv' := [some (aR 0), some (aI sq), some (aI z), some (aI (F 2 2))]) dX9_tell_79 rfl (by decide) rfl ?_
            refine j_aload_n C dX9_tell_80 rfl rfl ?_
            refine j_getR C (j := 2) fl_X9_19 ((sC_0 hS)) rfl dX9_tell_81 ?_
            refine j_new C (ci := 1) (200 + (F 2 2).toNat) sl0_X0 rfl in_X0 tyX0 tyX0_ok (ab_t2 (List.mem_of_getElem? (i := 51) rfl) rfl) (ab_t3 (List.mem_of_getElem? (i := 169) rfl) rfl) (ab_t1 (List.mem_of_getElem? (i := 23) rfl) rfl) sl0_X0_d sl0_X0_m (hfb.1) (by omega) (Nat.le_of_ble_eq_true rfl) (Nat.le_of_ble_eq_true rfl) (fun v hv => by simp only [List.mem_cons, List.not_mem_nil, or_false] at hv; rcases hv with rfl <;> first | exact (lS (hl2))) (fun v hv => by simp only [List.mem_cons, List.not_mem_nil, or_false, Option.some.injEq, reduceCtorEq, false_or] at hv; rcases hv with rfl | rfl | rfl | rfl <;> first | exact (lS ((sC_0 hS))) | exact trivial) dX9_tell_84 ?_
            show ab_J E 4 1 5 (upS S (200 + (F 2 2).toNat) (sC 1 sl0_X0)) (zF F (200 + (F 2 2).toNat)) A 87 [some (aR 0), some (aI sq), some (aI z), some (aI (F 2 2))] [aR (200 + (F 2 2).toNat), aR 2]
            refine j_dup C dX9_tell_87 (fun _ => rfl) ?_
            refine j_callI C (vs := []) (st := [aR (200 + (F 2 2).toNat), aR 2]) cl_X9_137 im_yX0_init rfl (fun _ => (c_bergInit _ (upS S (200 + (F 2 2).toNat) (sC 1 sl0_X0)) (zF F (200 + (F 2 2).toNat)) A (SC_up (by omega) hS) (F 2 2).toNat (by omega) (upS_at _ _ _) ((upS_ne (by omega)).trans hfb.2.1))) rfl ⟨rfl, rfl, by decide, by decide⟩ ⟨by decide, by decide⟩ (fun _ => Nat.le_of_ble_eq_true rfl) (fun v hv => by simp only [List.mem_cons, List.not_mem_nil, or_false] at hv; rcases hv with rfl | rfl <;> first | exact (lS (((upS_ne (by omega)).trans (hl2)))) | exact (lS (upS_at _ _ _))) (fun v hv => by simp only [List.mem_cons, List.not_mem_nil, or_false, Option.some.injEq, reduceCtorEq, false_or] at hv; rcases hv with rfl | rfl | rfl | rfl <;> first | exact (lS (((upS_ne (by omega)).trans ((sC_0 hS))))) | exact trivial) dX9_tell_88 (fun v_88 S_88 F_88 A_88 hP_88 => ?_)
            obtain ⟨rfl, hS88, hF88, rfl⟩ := hP_88
            have hFo : ∀ i, i ≠ 200 + (F 2 2).toNat → F_88 i = F i := fun i z => by rw [hF88, upF_o z, upF_o z, upF_o z, upF_o z, zF_ne z]
            have hF4 : F_88 (200 + (F 2 2).toNat) 4 = 0 := by rw [hF88, upF_at]
            have hSo : ∀ i, i ≠ 200 + (F 2 2).toNat → i ≠ 220 + (F 2 2).toNat → S_88 i = S i := fun i z1 z2 => by rw [hS88, upS_ne z1, upS_ne z2, upS_ne z1]
            have hx13 : S_88 (200 + (F 2 2).toNat) = some (sC 1 (slB (220 + (F 2 2).toNat))) := by rw [hS88, upS_at]
            have hx14 : S_88 (220 + (F 2 2).toNat) = some (sA .int 280) := by rw [hS88, upS_ne (by omega), upS_at]
            have hS : ab_SC S_88 := by rw [hS88]; exact SC_up (by omega) (SC_up (by omega) (SC_up (by omega) hS))
            have hl2o := hl2
            have hl2 : S_88 2 = some (sC 0 (slL eb)) := by rw [hSo 2 (by omega) (by omega)]; exact hl2o
            have hF22 : F_88 2 2 = F 2 2 := by rw [hFo 2 (by omega)]
            show ab_J E 4 2 285 S_88 F_88 (zA A (220 + (F 2 2).toNat)) 91 [some (aR 0), some (aI sq), some (aI z), some (aI (F 2 2))] [aR (200 + (F 2 2).toNat), aR 2]
            have hE91 : (F_88 2 2 = 0 ∧ eb = 1000200 + 2) ∨ (0 < F_88 2 2 ∧ F_88 2 2 ≤ (10 : Nat) ∧ (F_88 2 2 = (10 : Nat) → 10 ≤ 10 ∧ 10 ≤ 40) ∧ 10 ≤ 60 ∧ S_88 eb = some (sO 10 f2) ∧ 2 ≠ eb) := by
              rw [hF22]
              rcases (show F 2 2 = 0 ∨ 0 < F 2 2 by omega) with z | z
              · exact Or.inl ⟨z, hB4 z⟩
              · have q := hB5 z
                exact Or.inr ⟨z, by omega, fun _ => by omega, by omega, by rw [hSo eb (by omega) (by omega)]; exact (hf2 z).1, by omega⟩
            have hel91 : ∀ q : Nat, (q : Int) < F_88 2 2 → ∀ x, f2 q = some x → ∃ (ci : Nat) (sl : Nat → Option (Option Nat)) (r : vw_C), S_88 x = some (sC ci sl) ∧ vwCl[ci]? = some r ∧ Cond.castable r.1 "java/lang/Object" ∈ lw_tbl := by
              rw [hF22]
              intro q hq x hx
              have z : 0 < F 2 2 := by omega
              rw [(hf2 z).2 q hq] at hx
              cases hx
              exact ⟨1, _, _, by rw [hSo _ (by omega) (by omega)]; exact (hB1 q hq).1, rfl, (lw_t6 (List.mem_of_getElem? (i := 84) rfl))⟩
            have hq91 : S_88 q9 = none := by
              rcases (show F 2 2 = 0 ∨ 0 < F 2 2 by omega) with z | z
              · rw [hq9.1 z, hSo _ (by omega) (by omega)]; exact hfb.2.2.1 z
              · rw [hq9.2 z, hSo _ (by omega) (by omega)]; exact hfb.2.2.2
            refine j_callV C (vs := [aR (200 + (F 2 2).toNat)]) (st := []) cl_X9_138 im_yJx4a65c_add_9ea2d se_yJx4a65c_add_9ea2d (fun _ => (t_add _ S_88 F_88 (zA A (220 + (F 2 2).toNat)) 2 eb q9 10 f2 hl2 hE91 hq91 (by omega) (by omega) hel91 (200 + (F 2 2).toNat) 1 _ _ hx13 (by omega) rfl (lw_t6 (List.mem_of_getElem? (i := 84) rfl)))) (hl2) rfl rfl rfl ⟨rfl, rfl, by decide, by decide⟩ ⟨by decide, by decide⟩ (fun _ => Nat.le_of_ble_eq_true rfl) (fun v hv => by cases hv) (fun v hv => by simp only [List.mem_cons, List.not_mem_nil, or_false, Option.some.injEq, reduceCtorEq, false_or] at hv; rcases hv with rfl | rfl | rfl | rfl <;> first | exact (lS ((sC_0 hS))) | exact trivial) dX9_tell_91 (fun v_91 S_91 F_91 A_91 hP_91 => ?_)
            obtain ⟨rfl, rfl, hF91, e9, N9, c9, a1, a2, a3, a4, a5, a6, a7⟩ := hP_91
            rw [hF22] at a3 a4 a5 a7
            have he9 : e9 = 590 := by
              rcases a7 with ⟨z1, z2⟩ | ⟨z1, z2⟩
              · rw [z1]; exact hq9.1 (by omega)
              · rw [z2]; exact hB5 z1
            have hN9 : N9 = 10 := by omega
            subst he9
            subst hN9
            have hF91b : F_91 2 2 = F 2 2 + 1 := by rw [hF91, upF_at, hF22]
            have hl2 : S_91 2 = some (sC 0 (slL 590)) := a1
            have hS : ab_SC S_91 := SC_to hS (fun j z1 z2 z3 => a6 j z2 (by omega))
            have hFo2 : ∀ i, i ≠ 2 → F_91 i = F_88 i := fun i z => by rw [hF91, upF_o z, upF_o z]
            have hB1 : ∀ b : Nat, (b : Int) < F 2 2 + 1 → S_91 (200 + b) = some (sC 1 (slB (220 + b))) ∧ S_91 (220 + b) = some (sA .int 280) := fun b hb => by
              rw [a6 _ (by omega) (by omega), a6 _ (by omega) (by omega)]
              by_cases z : b = (F 2 2).toNat
              · subst z; exact ⟨hx13, hx14⟩
              · rw [hSo _ (by omega) (by omega), hSo _ (by omega) (by omega)]; exact hB1 b (by omega)
            have hc91 : ∀ b : Nat, (b : Int) < F 2 2 + 1 → c9 b = some (200 + b) := fun b hb => by
              by_cases z : b = (F 2 2).toNat
              · rw [z]; exact a5
              · rw [a4 b (by omega)]; exact (hf2 (by omega)).2 b (by omega)
            have hnew : BG S_91 (F 2 2 + 1) := ⟨hB1, 590, a1, fun _ => ⟨c9, a2, hc91⟩, fun z => by omega, fun _ => rfl⟩
            have hB3 : 0 < F_91 2 2 → ∃ c, S_91 590 = some (sO 10 c) ∧ ∀ b : Nat, (b : Int) < F_91 2 2 → c b = some (200 + b) := fun _ => ⟨c9, a2, by rw [hF91b]; exact hc91⟩
            show ab_J E 4 3 345 S_91 F_91 (zA A (220 + (F 2 2).toNat)) 94 [some (aR 0), some (aI sq), some (aI z), some (aI (F 2 2))] [aI 1]
            refine j_pop C dX9_tell_94 (fun _ => rfl) ?_
            refine j_goto C (tgt := 108) dX9_tell_95 (by decide) ?_
            refine j_aload_n C dX9_tell_108 rfl rfl ?_
            refine j_getR C (j := 2) fl_X9_19 ((sC_0 hS)) rfl dX9_tell_109 ?_
            refine j_iload_n C dX9_tell_112 rfl rfl ?_
            obtain ⟨c2_113, he2_113, hc2_113⟩ := hB3 (by omega)
            refine j_callV C (vs := [aI (F 2 2)]) (st := []) cl_X9_142 im_yJx4a65c_get_915e3 se_yJx4a65c_get_915e3 (fun _ => (t_get _ S_91 F_91 (zA A (220 + (F 2 2).toNat)) _ _ _ (200 + (F 2 2).toNat) _ _ (hl2) he2_113 (by show 0 ≤ F 2 2 ∧ F 2 2 < F_91 2 2; omega) (by show F_91 2 2 ≤ 10; omega) (by decide) (hc2_113 _ (by omega)))) (hl2) rfl rfl rfl ⟨rfl, rfl, by decide, by decide⟩ ⟨by decide, by decide⟩ (fun _ => Nat.le_of_ble_eq_true rfl) (fun v hv => by cases hv) (fun v hv => by simp only [List.mem_cons, List.not_mem_nil, or_false, Option.some.injEq, reduceCtorEq, false_or] at hv; rcases hv with rfl | rfl | rfl | rfl <;> first | exact (lS ((sC_0 hS))) | exact trivial) dX9_tell_113 (fun v_113 S_113 F_113 A_113 hP_113 => ?_)
            obtain ⟨rfl, rfl, rfl, rfl⟩ := hP_113
            show ab_J E 4 3 345 S_91 F_91 (zA A (220 + (F 2 2).toNat)) 116 [some (aR 0), some (aI sq), some (aI z), some (aI (F 2 2))] [aR (200 + (F 2 2).toNat)]
            refine j_cast C ((hB1 ((F 2 2).toNat) (by omega)).1) rfl (ab_t2 (List.mem_of_getElem? (i := 51) rfl) rfl) dX9_tell_116 ?_
            refine j_iload_n C dX9_tell_119 rfl rfl ?_
            refine j_iload_n C dX9_tell_120 rfl rfl ?_
            refine j_callV C (vs := [aI sq, aI z]) (st := []) cl_X9_146 im_yX0_setAt se_yX0_setAt (fun _ => (c_setAt _ S_91 F_91 (zA A (220 + (F 2 2).toNat)) hS ((F 2 2).toNat) (by omega) ((hB1 ((F 2 2).toNat) (by omega)).1) ((hB1 ((F 2 2).toNat) (by omega)).2) _ _ h1 (by rw [hFo2 _ (by omega)]; exact hF4))) ((hB1 ((F 2 2).toNat) (by omega)).1) rfl rfl rfl ⟨rfl, rfl, by decide, by decide⟩ ⟨by decide, by decide⟩ (fun _ => Nat.le_of_ble_eq_true rfl) (fun v hv => by cases hv) (fun v hv => by simp only [List.mem_cons, List.not_mem_nil, or_false, Option.some.injEq, reduceCtorEq, false_or] at hv; rcases hv with rfl | rfl | rfl | rfl <;> first | exact (lS ((sC_0 hS))) | exact trivial) dX9_tell_121 (fun v_121 S_121 F_121 A_121 hP_121 => ?_)
            obtain ⟨rfl, rfl, hC121, hA121, hF121⟩ := hP_121
            show ab_J E 4 3 345 S_91 F_121 A_121 124 [some (aR 0), some (aI sq), some (aI z), some (aI (F 2 2))] []
            refine j_iload_n C dX9_tell_124 rfl rfl ?_
            exact j_iret C hr (Nat.le_refl _) (Nat.le_refl _) dX9_tell_125 ⟨F 2 2, rfl, hC121, (fun i z => by rw [hA121 i z, zA_ne z]), (fun i z1 z2 z3 => by rw [hF121 i z3, hFo2 i z2, hFo i z3]), (fun k z => by rw [hF121 0 (by omega), hFo2 0 (by decide), hFo 0 (by omega)]), Or.inl ⟨by rw [c47] at hj41; exact hj41, by omega, rfl, by rw [hF121 0 (by omega), hFo2 0 (by decide), hFo 0 (by omega)], by rw [hF121 2 (by omega)]; exact hF91b, hnew, fun i z1 z2 z3 z4 => by rw [a6 i z1 z2, hSo i z3 z4]⟩⟩
          · exact absurd c59 (by have := hroom (by rw [c47] at hj41; exact hj41); omega)
      · exact absurd hdry c25
