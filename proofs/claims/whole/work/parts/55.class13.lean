theorem PT_eq {q q' : Int → Prop} (h : ∀ s, 0 ≤ s → s < 280 → (q s ↔ q' s)) : PT q = PT q' := by
  funext x y
  apply propext
  constructor
  · rintro ⟨s, s1, s2, s3, s4⟩; exact ⟨s, s1, s2, (h s s1 s2).mp s3, s4⟩
  · rintro ⟨s, s1, s2, s3, s4⟩; exact ⟨s, s1, s2, (h s s1 s2).mpr s3, s4⟩
theorem LR_in {P : Int → Int → Prop} {n : Int} {X Y : Int → Int} (h : LR P n X Y) {i : Int} (h0 : 0 ≤ i) (h1 : i < n) : P (X i) (Y i) := by
  rcases h with h | h
  · omega
  · exact h.2.1 i h0 h1
theorem skF_ge {U : Int → Int} {lo hi : Int} : ∀ (n : Nat) (p : Int), p ≤ skF U lo hi n p
  | 0, p => Int.le_refl _
  | n + 1, p => by
    simp only [skF]
    split
    · have := skF_ge (U := U) (lo := lo) (hi := hi) n (p + 1); omega
    · exact Int.le_refl _
theorem bl_ge (U : Int → Int) (p : Int) : p ≤ bl U p := skF_ge 400 p
theorem dg_ge (U : Int → Int) (p : Int) : p ≤ dg U p := skF_ge 400 p
theorem lt_ge (U : Int → Int) (p : Int) : p ≤ lt' U p := skF_ge 400 p
theorem rcs_pos {U : Int → Int} : ∀ (n : Nat) (p : Int) (L : List (Int × Int)), 0 ≤ p → 0 ≤ (rcs U n p L).2.1
  | 0, p, L, h => h
  | n + 1, p, L, h => by
    have h1 := bl_ge U p
    have h2 := dg_ge U (bl U p)
    have h3 := bl_ge U (dg U (bl U p))
    have h4 := dg_ge U (bl U (dg U (bl U p)))
    have h5 := bl_ge U (dg U (bl U (dg U (bl U p))))
    simp only [rcs]
    split
    · show 0 ≤ bl U p; omega
    · split
      · show 0 ≤ bl U (dg U (bl U p)); omega
      · split
        · show 0 ≤ bl U (dg U (bl U (dg U (bl U p)))); omega
        · split
          · show 0 ≤ bl U (dg U (bl U (dg U (bl U p)))); omega
          · exact rcs_pos n _ _ (by omega)
theorem rcs_len {U : Int → Int} : ∀ (n : Nat) (p : Int) (L : List (Int × Int)), ¬ (rcs U n p L).1 = 0 → 3 ≤ (rcs U n p L).2.2.length ∧ (rcs U n p L).2.2.length ≤ L.length + n
  | 0, p, L, h => absurd rfl h
  | n + 1, p, L, h => by
    simp only [rcs] at h ⊢
    split
    · rename_i q; rw [if_pos q] at h; exact absurd rfl h
    · rename_i q; rw [if_neg q] at h
      split
      · rename_i q; rw [if_pos q] at h; exact absurd rfl h
      · rename_i q; rw [if_neg q] at h
        split
        · rename_i q; rw [if_pos q] at h
          have h : ¬ (if L.length + 1 < 3 then (0 : Int) else 1) = 0 := h
          show 3 ≤ (L ++ [_]).length ∧ (L ++ [_]).length ≤ L.length + (n + 1)
          rw [List.length_append]
          show 3 ≤ L.length + 1 ∧ L.length + 1 ≤ L.length + (n + 1)
          by_cases z : L.length + 1 < 3
          · rw [if_pos z] at h; exact absurd rfl h
          · omega
        · rename_i q; rw [if_neg q] at h
          split
          · rename_i q; rw [if_pos q] at h; exact absurd rfl h
          · rename_i q; rw [if_neg q] at h
            have := rcs_len n _ _ h
            rw [List.length_append] at this
            have e : [(nV U (bl U p) (dg U (bl U p)) 20, nV U (bl U (dg U (bl U p))) (dg U (bl U (dg U (bl U p)))) 14)].length = 1 := rfl
            omega
theorem rdS_len {U : Int → Int} {e : Int} (h : (rdS U e).1 = -1) : 3 ≤ (rdS U e).2.length ∧ (rdS U e).2.length ≤ 40 := by
  have b0 := bl_ge U 0
  have l0 := lt_ge U (bl U 0)
  have hp := rcs_pos (U := U) 40 (lt' U (bl U 0)) [] (by omega)
  have hl := rcs_len (U := U) 40 (lt' U (bl U 0)) []
  unfold rdS at h ⊢
  split
  · rename_i q; rw [if_pos q] at h
    generalize rcs U 40 (lt' U (bl U 0)) [] = r at h hp hl
    have b1 := bl_ge U r.2.1
    have l1 := lt_ge U (bl U r.2.1)
    have b2 := bl_ge U (lt' U (bl U r.2.1))
    unfold rdE at h ⊢
    split
    · rename_i q; rw [if_pos q] at h; exact absurd (show r.2.1 = -1 from h) (by omega)
    · rename_i q1; rw [if_neg q1] at h
      split
      · rename_i q; rw [if_pos q] at h
        split
        · have := hl q1
          exact ⟨this.1, by have := this.2; simpa using this⟩
        · rename_i q; rw [if_neg q] at h; exact absurd (show bl U (lt' U (bl U r.2.1)) = -1 from h) (by omega)
      · rename_i q; rw [if_neg q] at h; exact absurd (show bl U r.2.1 = -1 from h) (by omega)
  · rename_i q; rw [if_neg q] at h; exact absurd (show bl U 0 = -1 from h) (by omega)
/-- a square is shut, for the class -/
def SHc (ld : Int → Int) (IN : Int → Prop) (E : Int → Int → Int) (k n : Int) : Prop := ¬ ld k = 0 ∨ exB (fun w => IN w ∧ E w k = 1) n
theorem SHc_0 {ld : Int → Int} {IN : Int → Prop} {E : Int → Int → Int} {k : Int} (h : ld k = 0 ∨ ld k = 1) : zb (ld k) (SHc ld IN E k 0) := by
  rcases h with h | h
  · refine Or.inr ⟨h, fun q => ?_⟩
    rcases q with q | q
    · exact q h
    · exact exB_0 q
  · exact Or.inl ⟨h, Or.inl (by omega)⟩
theorem SHc_no {ld : Int → Int} {IN : Int → Prop} {E : Int → Int → Int} {k w z : Int} (h : zb z (SHc ld IN E k w)) (hn : ¬ IN w) : zb z (SHc ld IN E k (w + 1)) := by
  refine h.iff ⟨fun q => ?_, fun q => ?_⟩
  · rcases q with q | q
    · exact Or.inl q
    · exact Or.inr (exB_keep q)
  · rcases q with q | ⟨b, b1, b2, b3⟩
    · exact Or.inl q
    · by_cases e : b = w
      · rw [e] at b3; exact absurd b3.1 hn
      · exact Or.inr ⟨b, b1, by omega, b3⟩
theorem SHc_yes {ld : Int → Int} {IN : Int → Prop} {E : Int → Int → Int} {k w z : Int} (h : zb z (SHc ld IN E k w)) (h0 : 0 ≤ w) (hn : IN w) : zb (if E w k = 1 then 1 else z) (SHc ld IN E k (w + 1)) := by
  by_cases q1 : E w k = 1
  · rw [if_pos q1]; exact zb.one (Or.inr ⟨w, h0, by omega, hn, q1⟩)
  · rw [if_neg q1]
    refine h.iff ⟨fun q => ?_, fun q => ?_⟩
    · rcases q with q | q
      · exact Or.inl q
      · exact Or.inr (exB_keep q)
    · rcases q with q | ⟨b, b1, b2, b3⟩
      · exact Or.inl q
      · by_cases e : b = w
        · rw [e] at b3; exact absurd b3.2 q1
        · exact Or.inr ⟨b, b1, by omega, b3⟩
theorem SC_to {S S' : ab_St} (h : ab_SC S) (hx : ∀ j, j ≤ 28 → j ≠ 2 → j ≠ 3 → S' j = S j) : ab_SC S' := fun j hj => by
  rcases (show j ≤ 28 ∨ 28 < j by omega) with z | z
  · rw [hx j z (fun e => by rw [e] at hj; exact hj rfl) (fun e => by rw [e] at hj; exact hj rfl)]; exact h j hj
  · exact absurd (shC_no j z) hj
theorem zF_ne {F : ab_Fn} {i j : Nat} (h : j ≠ i) : zF F i j = F j := by funext k; simp [zF, h]
theorem slB_up (p : Nat) : upL sl0_X0 0 (some (some p)) = slB p := by
  funext k
  match k with
  | 0 => rfl
  | k + 1 => rfl

set_option maxHeartbeats 4000000 in
set_option maxRecDepth 100000 in
theorem c_limit (l : Launch) (S : ab_St) (F : ab_Fn) (A : ab_An) (hS : ab_SC S) (hBg : BG S (F 2 2)) (hb : 0 ≤ F 2 2 ∧ F 2 2 ≤ 10) (hp : ∀ b k, 0 ≤ b → b < F 2 2 → 0 ≤ k → k < 280 → 0 ≤ A (220 + b.toNat) k ∧ A (220 + b.toNat) k ≤ 1000000) : ab_Met l yX9_limit cX9_limit 1 (some .int) { frames := 4, cells := 0, slots := 0, locals := 91 } 0 0 [aR 0] S F A (fun v S' F' A' => S = S' ∧ ∃ n : Int, v = some (aI n) ∧ F' = upF F 8 2 n ∧ (0 ≤ n ∧ n ≤ 42) ∧ LR (PT (fun s => 0 < sm (fun bb => A (220 + bb.toNat) s) (F 2 2).toNat)) n (A' 18) (A' 19) ∧ ∀ i, i ≠ 18 → i ≠ 19 → i ≠ 20 → i ≠ 21 → i ≠ 27 → A' i = A i) := by
  refine ab_enter (by decide) (by simp [aI, aR, aX, ab_val, Value.category]) (Nat.le_of_ble_eq_true rfl) (fun E C hr => ?_)
  refine j_eq (lv' := [some (aR 0)]) ?_
  refine j_aload_n C dX9_limit_0 rfl rfl ?_
  refine j_callV C (vs := []) (st := []) cl_X9_191 im_yX9_gatherParts se_yX9_gatherParts (fun _ => (c_gather _ S F A hS hBg hb)) ((sC_0 hS)) rfl rfl rfl ⟨rfl, rfl, by decide, by decide⟩ ⟨by decide, by decide⟩ (fun _ => Nat.le_of_ble_eq_true rfl) (fun v hv => by cases hv) (fun v hv => by simp only [List.mem_cons, List.not_mem_nil, or_false, Option.some.injEq, reduceCtorEq, false_or] at hv; rcases hv with rfl <;> first | exact (lS ((sC_0 hS)))) dX9_limit_1 (fun v_1 S_1 F_1 A_1 hP_1 => ?_)
  obtain ⟨rfl, rfl, rfl, hO1, hg1⟩ := hP_1
  show ab_J E 1 0 0 S F A_1 4 [some (aR 0)] []
  refine j_aload_n C dX9_limit_4 rfl rfl ?_
  refine j_getR C (j := 7) fl_X9_41 ((sC_0 hS)) rfl dX9_limit_5 ?_
  refine j_aload_n C dX9_limit_8 rfl rfl ?_
  refine j_getR C (j := 27) fl_X9_59 ((sC_0 hS)) rfl dX9_limit_9 ?_
  refine j_callV C (vs := [aR 27]) (st := []) cl_X9_194 im_yX3_wrap se_yX3_wrap (fun _ => (c_wrap _ S F A_1 hS (fun k q1 q2 => by rw [hg1 k q1 q2]; have := gs_rng hb (fun b a c => hp b k a c q1 q2); exact ⟨by omega, by omega⟩))) ((sC_7 hS)) rfl rfl rfl ⟨rfl, rfl, by decide, by decide⟩ ⟨by decide, by decide⟩ (fun _ => Nat.le_of_ble_eq_true rfl) (fun v hv => by cases hv) (fun v hv => by simp only [List.mem_cons, List.not_mem_nil, or_false, Option.some.injEq, reduceCtorEq, false_or] at hv; rcases hv with rfl <;> first | exact (lS ((sC_0 hS)))) dX9_limit_12 (fun v_12 S_12 F_12 A_12 hP_12 => ?_)
  obtain ⟨rfl, rfl, n12, rfl, hn12, hL12, hO12⟩ := hP_12
  show ab_J E 1 0 0 S (upF F 8 2 n12) A_12 15 [some (aR 0)] []
  have hLR : LR (PT (fun s => 0 < sm (fun bb => A (220 + bb.toNat) s) (F 2 2).toNat)) n12 (A_12 18) (A_12 19) := by rw [← PT_eq (q := fun s => 0 < A_1 27 s) (fun s z1 z2 => by rw [hg1 s z1 z2])]; exact hL12
  refine j_aload_n C dX9_limit_15 rfl rfl ?_
  refine j_getR C (j := 7) fl_X9_41 ((sC_0 hS)) rfl dX9_limit_16 ?_
  refine j_getR C (j := 8) fl_X9_198 ((sC_7 hS)) rfl dX9_limit_19 ?_
  refine j_get C (aI n12) fl_X9_202 ((sC_8 hS)) (fun _ => rfl) dX9_limit_22 ?_
  exact j_iret C hr (Nat.le_refl _) (Nat.le_refl _) dX9_limit_25 ⟨rfl, n12, rfl, rfl, hn12, hLR, fun i z1 z2 z3 z4 z5 => by rw [hO12 i z1 z2 z3 z4]; exact hO1 i z5⟩

set_option maxHeartbeats 4000000 in
set_option maxRecDepth 100000 in
theorem c_corner (l : Launch) (S : ab_St) (F : ab_Fn) (A : ab_An) (hS : ab_SC S) (hBg : BG S (F 2 2)) (hb : 0 ≤ F 2 2 ∧ F 2 2 ≤ 10) (hp : ∀ b k, 0 ≤ b → b < F 2 2 → 0 ≤ k → k < 280 → 0 ≤ A (220 + b.toNat) k ∧ A (220 + b.toNat) k ≤ 1000000) (kk yy : Int) (rk : inR kk) (ry : yy = 0 ∨ yy = 1) : ab_Met l yX9_corner cX9_corner 3 (some .int) { frames := 4, cells := 0, slots := 0, locals := 91 } 0 0 [aR 0, aI kk, aI yy] S F A (fun v S' F' A' => S = S' ∧ ∃ n : Int, v = some (aI (if 0 ≤ kk ∧ kk < n then (if yy = 1 then A' 19 kk else A' 18 kk) else -1)) ∧ F' = upF F 8 2 n ∧ (0 ≤ n ∧ n ≤ 42) ∧ LR (PT (fun s => 0 < sm (fun bb => A (220 + bb.toNat) s) (F 2 2).toNat)) n (A' 18) (A' 19) ∧ ∀ i, i ≠ 18 → i ≠ 19 → i ≠ 20 → i ≠ 21 → i ≠ 27 → A' i = A i) := by
  refine ab_enter (by decide) (by simp [aI, aR, aX, ab_val, Value.category]) (Nat.le_of_ble_eq_true rfl) (fun E C hr => ?_)
  refine j_eq (lv' := [some (aR 0), some (aI kk), some (aI yy)]) ?_
  refine j_aload_n C dX9_corner_0 rfl rfl ?_
  refine j_callV C (vs := []) (st := []) cl_X9_191 im_yX9_gatherParts se_yX9_gatherParts (fun _ => (c_gather _ S F A hS hBg hb)) ((sC_0 hS)) rfl rfl rfl ⟨rfl, rfl, by decide, by decide⟩ ⟨by decide, by decide⟩ (fun _ => Nat.le_of_ble_eq_true rfl) (fun v hv => by cases hv) (fun v hv => by simp only [List.mem_cons, List.not_mem_nil, or_false, Option.some.injEq, reduceCtorEq, false_or] at hv; rcases hv with rfl | rfl | rfl <;> first | exact (lS ((sC_0 hS))) | exact trivial) dX9_corner_1 (fun v_1 S_1 F_1 A_1 hP_1 => ?_)
  obtain ⟨rfl, rfl, rfl, hO1, hg1⟩ := hP_1
  show ab_J E 3 0 0 S F A_1 4 [some (aR 0), some (aI kk), some (aI yy)] []
  refine j_aload_n C dX9_corner_4 rfl rfl ?_
  refine j_getR C (j := 7) fl_X9_41 ((sC_0 hS)) rfl dX9_corner_5 ?_
  refine j_aload_n C dX9_corner_8 rfl rfl ?_
  refine j_getR C (j := 27) fl_X9_59 ((sC_0 hS)) rfl dX9_corner_9 ?_
  refine j_callV C (vs := [aR 27]) (st := []) cl_X9_194 im_yX3_wrap se_yX3_wrap (fun _ => (c_wrap _ S F A_1 hS (fun k q1 q2 => by rw [hg1 k q1 q2]; have := gs_rng hb (fun b a c => hp b k a c q1 q2); exact ⟨by omega, by omega⟩))) ((sC_7 hS)) rfl rfl rfl ⟨rfl, rfl, by decide, by decide⟩ ⟨by decide, by decide⟩ (fun _ => Nat.le_of_ble_eq_true rfl) (fun v hv => by cases hv) (fun v hv => by simp only [List.mem_cons, List.not_mem_nil, or_false, Option.some.injEq, reduceCtorEq, false_or] at hv; rcases hv with rfl | rfl | rfl <;> first | exact (lS ((sC_0 hS))) | exact trivial) dX9_corner_12 (fun v_12 S_12 F_12 A_12 hP_12 => ?_)
  obtain ⟨rfl, rfl, n12, rfl, hn12, hL12, hO12⟩ := hP_12
  show ab_J E 3 0 0 S (upF F 8 2 n12) A_12 15 [some (aR 0), some (aI kk), some (aI yy)] []
  have hLR : LR (PT (fun s => 0 < sm (fun bb => A (220 + bb.toNat) s) (F 2 2).toNat)) n12 (A_12 18) (A_12 19) := by rw [← PT_eq (q := fun s => 0 < A_1 27 s) (fun s z1 z2 => by rw [hg1 s z1 z2])]; exact hL12
  refine j_iload_n C dX9_corner_15 rfl rfl ?_
  refine j_if_lt C (tgt := 33) dX9_corner_16 (by decide) rk (fun c16 => ?_) (fun c16 => ?_)
  · refine j_iconst C dX9_corner_33 ?_
    exact j_iret C hr (Nat.le_refl _) (Nat.le_refl _) dX9_corner_34 ⟨rfl, n12, congrArg (fun z => some (aI z)) (by first | (rw [if_neg (by omega)]) | (rw [if_pos (by omega), if_pos (by omega)]) | (rw [if_pos (by omega), if_neg (by omega)])), rfl, hn12, hLR, fun i z1 z2 z3 z4 z5 => by rw [hO12 i z1 z2 z3 z4]; exact hO1 i z5⟩
  · refine j_iload_n C dX9_corner_19 rfl rfl ?_
    refine j_aload_n C dX9_corner_20 rfl rfl ?_
    refine j_getR C (j := 7) fl_X9_41 ((sC_0 hS)) rfl dX9_corner_21 ?_
    refine j_getR C (j := 8) fl_X9_198 ((sC_7 hS)) rfl dX9_corner_24 ?_
    refine j_get C (aI n12) fl_X9_202 ((sC_8 hS)) (fun _ => rfl) dX9_corner_27 ?_
    refine j_icmp_lt C (tgt := 35) dX9_corner_30 (by decide) rk ⟨by omega, by omega⟩ (fun c30 => ?_) (fun c30 => ?_)
    · refine j_iload_n C dX9_corner_35 rfl rfl ?_
      refine j_if_eq C (tgt := 54) dX9_corner_36 (by decide) ⟨by omega, by omega⟩ (fun c36 => ?_) (fun c36 => ?_)
      · refine j_aload_n C dX9_corner_54 rfl rfl ?_
        refine j_getR C (j := 7) fl_X9_41 ((sC_0 hS)) rfl dX9_corner_55 ?_
        refine j_getR C (j := 8) fl_X9_198 ((sC_7 hS)) rfl dX9_corner_58 ?_
        refine j_getR C (j := 18) fl_X9_208 ((sC_8 hS)) rfl dX9_corner_61 ?_
        refine j_iload_n C dX9_corner_64 rfl rfl ?_
        refine j_iald C ((sC_18 hS)) (by omega) (by omega) (by decide) dX9_corner_65 ?_
        exact j_iret C hr (Nat.le_refl _) (Nat.le_refl _) dX9_corner_66 ⟨rfl, n12, congrArg (fun z => some (aI z)) (by first | (rw [if_neg (by omega)]) | (rw [if_pos (by omega), if_pos (by omega)]) | (rw [if_pos (by omega), if_neg (by omega)])), rfl, hn12, hLR, fun i z1 z2 z3 z4 z5 => by rw [hO12 i z1 z2 z3 z4]; exact hO1 i z5⟩
      · refine j_aload_n C dX9_corner_39 rfl rfl ?_
        refine j_getR C (j := 7) fl_X9_41 ((sC_0 hS)) rfl dX9_corner_40 ?_
        refine j_getR C (j := 8) fl_X9_198 ((sC_7 hS)) rfl dX9_corner_43 ?_
        refine j_getR C (j := 19) fl_X9_205 ((sC_8 hS)) rfl dX9_corner_46 ?_
        refine j_iload_n C dX9_corner_49 rfl rfl ?_
        refine j_iald C ((sC_19 hS)) (by omega) (by omega) (by decide) dX9_corner_50 ?_
        refine j_goto C (tgt := 66) dX9_corner_51 (by decide) ?_
        exact j_iret C hr (Nat.le_refl _) (Nat.le_refl _) dX9_corner_66 ⟨rfl, n12, congrArg (fun z => some (aI z)) (by first | (rw [if_neg (by omega)]) | (rw [if_pos (by omega), if_pos (by omega)]) | (rw [if_pos (by omega), if_neg (by omega)])), rfl, hn12, hLR, fun i z1 z2 z3 z4 z5 => by rw [hO12 i z1 z2 z3 z4]; exact hO1 i z5⟩
    · refine j_iconst C dX9_corner_33 ?_
      exact j_iret C hr (Nat.le_refl _) (Nat.le_refl _) dX9_corner_34 ⟨rfl, n12, congrArg (fun z => some (aI z)) (by first | (rw [if_neg (by omega)]) | (rw [if_pos (by omega), if_pos (by omega)]) | (rw [if_pos (by omega), if_neg (by omega)])), rfl, hn12, hLR, fun i z1 z2 z3 z4 z5 => by rw [hO12 i z1 z2 z3 z4]; exact hO1 i z5⟩

set_option maxHeartbeats 4000000 in
set_option maxRecDepth 100000 in
theorem c_way (l : Launch) (S : ab_St) (F : ab_Fn) (A : ab_An) (hS : ab_SC S) (a b st : Int) (h1 : 0 ≤ a ∧ a ≤ 279) (h2 : 0 ≤ b ∧ b ≤ 279) (rst : inR st) (nc : Nat → Nat) (hWg : WG S nc (F 3 2)) (hw9 : 0 ≤ F 3 2 ∧ F 3 2 ≤ 40) (hv : ∀ w, 0 ≤ w → w < F 3 2 → inR (F (300 + w.toNat) 2) ∧ (F (300 + w.toNat) 4 = 0 ∨ F (300 + w.toNat) 4 = 1) ∧ inR (F (300 + w.toNat) 5)) (hl : ∀ k, 0 ≤ k → k < 280 → A 11 k = 0 ∨ A 11 k = 1) (Ew : Int → Int → Int) (hE : ∀ w s, Ew w s = 0 ∨ Ew w s = 1) (hwi : ∀ w, 0 ≤ w → w < F 3 2 → ∀ y, 0 ≤ y → y < 14 → A (450 + w.toNat) y = wb (Ew w) y 20) : ab_Met l yX9_way cX9_way 5 (some .int) { frames := 3, cells := 0, slots := 0, locals := 69 } 0 0 [aR 0, aI a, aI b, aI st] S F A (fun v S' F' A' => S = S' ∧ ∃ r : Int, v = some (aI r) ∧ WRc (fun k => (0 ≤ k ∧ k < 280) ∧ ¬ SHc (A 11) (fun w => F (300 + w.toNat) 2 ≤ st ∧ (F (300 + w.toNat) 4 = 0 ∨ st < F (300 + w.toNat) 5)) Ew k (F 3 2)) a b r ∧ (∀ i, i ≠ 9 → F' i = F i) ∧ ∀ i, i ≠ 22 → i ≠ 23 → i ≠ 24 → A' i = A i) := by
  refine ab_enter (by decide) (by simp [aI, aR, aX, ab_val, Value.category]) (Nat.le_of_ble_eq_true rfl) (fun E C hr => ?_)
  refine j_eq (lv' := [some (aR 0), some (aI a), some (aI b), some (aI st), none]) ?_
  have hWg2 := hWg
  obtain ⟨hW1, ew, Nw, hl3, hN3, hW3, hW4, hW5⟩ := hWg
  refine j_iload_n C dX9_way_0 rfl rfl ?_
  refine j_callS C (vs := [aI a]) (st := []) cl_X9_85 sc_yX9_checkSquare (fun _ => (c_checkSquare _ S F A hS _ h1)) rfl ⟨rfl, rfl, by decide, by decide⟩ ⟨by decide, by decide⟩ (fun _ => Nat.le_of_ble_eq_true rfl) (fun v hv => by cases hv) (fun v hv => by simp only [List.mem_cons, List.not_mem_nil, or_false, Option.some.injEq, reduceCtorEq, false_or] at hv; rcases hv with rfl | rfl | rfl | rfl <;> first | exact (lS ((sC_0 hS))) | exact trivial) dX9_way_1 (fun v_1 S_1 F_1 A_1 hP_1 => ?_)
  obtain ⟨rfl, rfl, rfl, rfl⟩ := hP_1
  show ab_J E 5 0 0 S F A 4 [some (aR 0), some (aI a), some (aI b), some (aI st), none] []
  refine j_iload_n C dX9_way_4 rfl rfl ?_
  refine j_callS C (vs := [aI b]) (st := []) cl_X9_85 sc_yX9_checkSquare (fun _ => (c_checkSquare _ S F A hS _ h2)) rfl ⟨rfl, rfl, by decide, by decide⟩ ⟨by decide, by decide⟩ (fun _ => Nat.le_of_ble_eq_true rfl) (fun v hv => by cases hv) (fun v hv => by simp only [List.mem_cons, List.not_mem_nil, or_false, Option.some.injEq, reduceCtorEq, false_or] at hv; rcases hv with rfl | rfl | rfl | rfl <;> first | exact (lS ((sC_0 hS))) | exact trivial) dX9_way_5 (fun v_5 S_5 F_5 A_5 hP_5 => ?_)
  obtain ⟨rfl, rfl, rfl, rfl⟩ := hP_5
  show ab_J E 5 0 0 S F A 8 [some (aR 0), some (aI a), some (aI b), some (aI st), none] []
  refine j_aload_n C dX9_way_8 rfl rfl ?_
  refine j_getR C (j := 9) fl_X9_48 ((sC_0 hS)) rfl dX9_way_9 ?_
  refine j_aload_n C dX9_way_12 rfl rfl ?_
  refine j_getR C (j := 1) fl_X9_12 ((sC_0 hS)) rfl dX9_way_13 ?_
  refine j_getR C (j := 11) fl_X9_116 ((sC_1 hS)) rfl dX9_way_16 ?_
  refine j_callV C (vs := [aR 11]) (st := []) cl_X9_255 im_yX1_openAllBut se_yX1_openAllBut (fun _ => (c_openAll _ S F A hS hl)) ((sC_9 hS)) rfl rfl rfl ⟨rfl, rfl, by decide, by decide⟩ ⟨by decide, by decide⟩ (fun _ => Nat.le_of_ble_eq_true rfl) (fun v hv => by cases hv) (fun v hv => by simp only [List.mem_cons, List.not_mem_nil, or_false, Option.some.injEq, reduceCtorEq, false_or] at hv; rcases hv with rfl | rfl | rfl | rfl <;> first | exact (lS ((sC_0 hS))) | exact trivial) dX9_way_19 (fun v_19 S_19 F_19 A_19 hP_19 => ?_)
  obtain ⟨rfl, rfl, rfl, rfl⟩ := hP_19
  show ab_J E 5 0 0 S F (setRow A 22 0 280 (A 11)) 22 [some (aR 0), some (aI a), some (aI b), some (aI st), none] []
  refine j_iconst C dX9_way_22 ?_
  refine j_istore C (lv' := [some (aR 0), some (aI a), some (aI b), some (aI st), some (aI 0)]) dX9_way_23 (by decide) rfl ?_
  have K25 : ∀ (N : Nat) (w : Int) (B : ab_An), (0 ≤ w ∧ w ≤ F 3 2) → (∀ i, i ≠ 22 → B i = A i) → (∀ k, 0 ≤ k → k < 280 → zb (B 22 k) (SHc (A 11) (fun w => F (300 + w.toNat) 2 ≤ st ∧ (F (300 + w.toNat) 4 = 0 ∨ st < F (300 + w.toNat) 5)) Ew k w)) → ((F 3 2 - w).toNat) < N → ab_J E 5 0 0 S F B 25 [some (aR 0), some (aI a), some (aI b), some (aI st), some (aI w)] [] := by
    intro N
    induction N with
    | zero => intro w B hw0 hO hs hm; exact absurd hm (Nat.not_lt_zero _)
    | succ N ih =>
      have ih25 := ih
      clear ih
      intro w B hw0 hO hs hm25
      refine j_iload C dX9_way_25 rfl ?_
      refine j_aload_n C dX9_way_27 rfl rfl ?_
      refine j_getR C (j := 3) fl_X9_23 ((sC_0 hS)) rfl dX9_way_28 ?_
      refine j_callV C (vs := []) (st := [aI w]) cl_X9_126 im_yJx4a65c_size_8abf5 se_yJx4a65c_size_8abf5 (fun _ => (t_size _ S F B _ _ (hl3))) (hl3) rfl rfl rfl ⟨rfl, rfl, by decide, by decide⟩ ⟨by decide, by decide⟩ (fun _ => Nat.le_of_ble_eq_true rfl) (fun v hv => by simp only [List.mem_cons, List.not_mem_nil, or_false] at hv; rcases hv with rfl <;> first | exact trivial) (fun v hv => by simp only [List.mem_cons, List.not_mem_nil, or_false, Option.some.injEq, reduceCtorEq, false_or] at hv; rcases hv with rfl | rfl | rfl | rfl | rfl <;> first | exact (lS ((sC_0 hS))) | exact trivial) dX9_way_31 (fun v_31 S_31 F_31 A_31 hP_31 => ?_)
      obtain ⟨rfl, rfl, rfl, rfl⟩ := hP_31
      show ab_J E 5 0 0 S F B 34 [some (aR 0), some (aI a), some (aI b), some (aI st), some (aI w)] [aI (F 3 2), aI w]
      refine j_icmp_ge C (tgt := 81) dX9_way_34 (by decide) ⟨by omega, by omega⟩ ⟨by omega, by omega⟩ (fun c34 => ?_) (fun c34 => ?_)
      · refine j_aload_n C dX9_way_81 rfl rfl ?_
        refine j_getR C (j := 9) fl_X9_48 ((sC_0 hS)) rfl dX9_way_82 ?_
        refine j_iload_n C dX9_way_85 rfl rfl ?_
        refine j_iload_n C dX9_way_86 rfl rfl ?_
        refine j_callV C (vs := [aI a, aI b]) (st := []) cl_X9_263 im_yX1_shortest se_yX1_shortest (fun _ => (c_shortest _ S F B hS (fun k => (0 ≤ k ∧ k < 280) ∧ ¬ SHc (A 11) (fun w => F (300 + w.toNat) 2 ≤ st ∧ (F (300 + w.toNat) 4 = 0 ∨ st < F (300 + w.toNat) 5)) Ew k (F 3 2)) (fun k => ⟨fun z => ⟨z.1, by have q := hs k z.1.1 z.1.2; rw [show w = F 3 2 by omega] at q; rcases q with q | q; exact absurd q.2 z.2; exact q.1⟩, fun z => ⟨z.1, fun y => by have q := hs k z.1.1 z.1.2; rw [show w = F 3 2 by omega] at q; rcases q with q | q; (have := z.2; omega); exact q.2 y⟩⟩) _ _ h1 h2 (fun k z1 z2 => (hs k z1 z2).c))) ((sC_9 hS)) rfl rfl rfl ⟨rfl, rfl, by decide, by decide⟩ ⟨by decide, by decide⟩ (fun _ => Nat.le_of_ble_eq_true rfl) (fun v hv => by cases hv) (fun v hv => by simp only [List.mem_cons, List.not_mem_nil, or_false, Option.some.injEq, reduceCtorEq, false_or] at hv; rcases hv with rfl | rfl | rfl | rfl | rfl <;> first | exact (lS ((sC_0 hS))) | exact trivial) dX9_way_87 (fun v_87 S_87 F_87 A_87 hP_87 => ?_)
        obtain ⟨rfl, r87, rfl, hr87, hGo87, hG987, hO87⟩ := hP_87
        show ab_J E 5 0 0 S F_87 A_87 90 [some (aR 0), some (aI a), some (aI b), some (aI st), some (aI w)] [aI r87]
        exact j_iret C hr (Nat.le_refl _) (Nat.le_refl _) dX9_way_90 ⟨rfl, r87, rfl, hr87, hGo87, fun i z1 z2 z3 => by rw [hO87 i z2 z3]; exact hO i z1⟩
      · refine j_aload_n C dX9_way_37 rfl rfl ?_
        refine j_getR C (j := 3) fl_X9_23 ((sC_0 hS)) rfl dX9_way_38 ?_
        refine j_iload C dX9_way_41 rfl ?_
        obtain ⟨c3_43, he3_43, hc3_43⟩ := hW3 (by omega)
        refine j_callV C (vs := [aI w]) (st := []) cl_X9_142 im_yJx4a65c_get_915e3 se_yJx4a65c_get_915e3 (fun _ => (t_get _ S F B _ _ _ (300 + (w).toNat) _ _ (hl3) he3_43 (by show 0 ≤ w ∧ w < F 3 2; omega) (by show F 3 2 ≤ _; omega) (by omega) (hc3_43 _ (by omega)))) (hl3) rfl rfl rfl ⟨rfl, rfl, by decide, by decide⟩ ⟨by decide, by decide⟩ (fun _ => Nat.le_of_ble_eq_true rfl) (fun v hv => by cases hv) (fun v hv => by simp only [List.mem_cons, List.not_mem_nil, or_false, Option.some.injEq, reduceCtorEq, false_or] at hv; rcases hv with rfl | rfl | rfl | rfl | rfl <;> first | exact (lS ((sC_0 hS))) | exact trivial) dX9_way_43 (fun v_43 S_43 F_43 A_43 hP_43 => ?_)
        obtain ⟨rfl, rfl, rfl, rfl⟩ := hP_43
        show ab_J E 5 0 0 S F B 46 [some (aR 0), some (aI a), some (aI b), some (aI st), some (aI w)] [aR (300 + (w).toNat)]
        refine j_cast C ((hW1 ((w).toNat) (by omega)).1) rfl (ab_t2 (List.mem_of_getElem? (i := 99) rfl) rfl) dX9_way_46 ?_
        refine j_iload_n C dX9_way_49 rfl rfl ?_
        refine j_callV C (vs := [aI st]) (st := []) cl_X9_234 im_yX8_holdsAt se_yX8_holdsAt (fun _ => (c_holdsAt _ S F B hS ((w).toNat) nc ((hW1 ((w).toNat) (by omega)).1) _ rst (hv _ (by omega) (by omega)))) ((hW1 ((w).toNat) (by omega)).1) rfl rfl rfl ⟨rfl, rfl, by decide, by decide⟩ ⟨by decide, by decide⟩ (fun _ => Nat.le_of_ble_eq_true rfl) (fun v hv => by cases hv) (fun v hv => by simp only [List.mem_cons, List.not_mem_nil, or_false, Option.some.injEq, reduceCtorEq, false_or] at hv; rcases hv with rfl | rfl | rfl | rfl | rfl <;> first | exact (lS ((sC_0 hS))) | exact trivial) dX9_way_50 (fun v_50 S_50 F_50 A_50 hP_50 => ?_)
        obtain ⟨rfl, rfl, rfl, z_50, rfl, ⟨rfl, hz_50⟩ | ⟨rfl, hz_50⟩⟩ := hP_50
        · have hz_50 : F (300 + (w).toNat) 2 ≤ st ∧ (F (300 + (w).toNat) 4 = 0 ∨ st < F (300 + (w).toNat) 5) := hz_50
          show ab_J E 5 0 0 S F B 53 [some (aR 0), some (aI a), some (aI b), some (aI st), some (aI w)] [aI 1]
          refine j_if_eq C (tgt := 75) dX9_way_53 (by decide) ⟨by omega, by omega⟩ (fun c53 => ?_) (fun c53 => ?_)
          · exact absurd c53 (by decide)
          · refine j_aload_n C dX9_way_56 rfl rfl ?_
            refine j_getR C (j := 9) fl_X9_48 ((sC_0 hS)) rfl dX9_way_57 ?_
            refine j_aload_n C dX9_way_60 rfl rfl ?_
            refine j_getR C (j := 3) fl_X9_23 ((sC_0 hS)) rfl dX9_way_61 ?_
            refine j_iload C dX9_way_64 rfl ?_
            obtain ⟨c3_66, he3_66, hc3_66⟩ := hW3 (by omega)
            refine j_callV C (vs := [aI w]) (st := [aR 9]) cl_X9_142 im_yJx4a65c_get_915e3 se_yJx4a65c_get_915e3 (fun _ => (t_get _ S F B _ _ _ (300 + (w).toNat) _ _ (hl3) he3_66 (by show 0 ≤ w ∧ w < F 3 2; omega) (by show F 3 2 ≤ _; omega) (by omega) (hc3_66 _ (by omega)))) (hl3) rfl rfl rfl ⟨rfl, rfl, by decide, by decide⟩ ⟨by decide, by decide⟩ (fun _ => Nat.le_of_ble_eq_true rfl) (fun v hv => by simp only [List.mem_cons, List.not_mem_nil, or_false] at hv; rcases hv with rfl <;> first | exact (lS ((sC_9 hS)))) (fun v hv => by simp only [List.mem_cons, List.not_mem_nil, or_false, Option.some.injEq, reduceCtorEq, false_or] at hv; rcases hv with rfl | rfl | rfl | rfl | rfl <;> first | exact (lS ((sC_0 hS))) | exact trivial) dX9_way_66 (fun v_66 S_66 F_66 A_66 hP_66 => ?_)
            obtain ⟨rfl, rfl, rfl, rfl⟩ := hP_66
            show ab_J E 5 0 0 S F B 69 [some (aR 0), some (aI a), some (aI b), some (aI st), some (aI w)] [aR (300 + (w).toNat), aR 9]
            refine j_cast C ((hW1 ((w).toNat) (by omega)).1) rfl (ab_t2 (List.mem_of_getElem? (i := 99) rfl) rfl) dX9_way_69 ?_
            refine j_callV C (vs := [aR (300 + (w).toNat)]) (st := []) cl_X9_259 im_yX1_shut se_yX1_shut (fun _ => (c_shut _ S F B hS _ ((hW1 ((w).toNat) (by omega)).1) ((hW1 ((w).toNat) (by omega)).2.2.2) _ (hE w) (fun y z1 z2 => by rw [hO _ (by omega)]; exact hwi w (by omega) (by omega) y z1 z2))) ((sC_9 hS)) rfl rfl rfl ⟨rfl, rfl, by decide, by decide⟩ ⟨by decide, by decide⟩ (fun _ => Nat.le_of_ble_eq_true rfl) (fun v hv => by cases hv) (fun v hv => by simp only [List.mem_cons, List.not_mem_nil, or_false, Option.some.injEq, reduceCtorEq, false_or] at hv; rcases hv with rfl | rfl | rfl | rfl | rfl <;> first | exact (lS ((sC_0 hS))) | exact trivial) dX9_way_72 (fun v_72 S_72 F_72 A_72 hP_72 => ?_)
            obtain ⟨rfl, rfl, rfl, hO72, hs72⟩ := hP_72
            show ab_J E 5 0 0 S F A_72 75 [some (aR 0), some (aI a), some (aI b), some (aI st), some (aI w)] []
            refine j_iinc C (lv' := [some (aR 0), some (aI a), some (aI b), some (aI st), some (aI (w + 1))]) dX9_way_75 rfl (by decide) rfl ?_
            refine j_goto C (tgt := 25) dX9_way_78 (by decide) ?_
            exact ih25 (w + 1) A_72 (by omega) (fun i z => by rw [hO72 i z]; exact hO i z) (fun k z1 z2 => by rw [hs72 k z1 z2]; exact SHc_yes (hs k z1 z2) hw0.1 hz_50) (by omega)
        · have hz_50 : ¬ (F (300 + (w).toNat) 2 ≤ st ∧ (F (300 + (w).toNat) 4 = 0 ∨ st < F (300 + (w).toNat) 5)) := hz_50
          show ab_J E 5 0 0 S F B 53 [some (aR 0), some (aI a), some (aI b), some (aI st), some (aI w)] [aI 0]
          refine j_if_eq C (tgt := 75) dX9_way_53 (by decide) ⟨by omega, by omega⟩ (fun c53 => ?_) (fun c53 => ?_)
          · refine j_iinc C (lv' := [some (aR 0), some (aI a), some (aI b), some (aI st), some (aI (w + 1))]) dX9_way_75 rfl (by decide) rfl ?_
            refine j_goto C (tgt := 25) dX9_way_78 (by decide) ?_
            exact ih25 (w + 1) B (by omega) hO (fun k z1 z2 => SHc_no (hs k z1 z2) hz_50) (by omega)
          · exact absurd c53 (by decide)
  exact K25 _ 0 ((setRow A 22 0 280 (A 11))) (by omega) (fun i z => by rw [setRow_other z]) (fun k z1 z2 => by rw [setRow_in (by omega) (by omega), show k - 0 = k by omega]; exact SHc_0 (hl k z1 z2)) (Nat.lt_succ_self _)

set_option maxHeartbeats 4000000 in
set_option maxRecDepth 100000 in
theorem c_addW6 (l : Launch) (S : ab_St) (F : ab_Fn) (A : ab_An) (hS : ab_SC S) (nc : Nat → Nat) (hWg : WG S nc (F 3 2)) (hw9 : 0 ≤ F 3 2 ∧ F 3 2 < 40) (hfr : S (300 + (F 3 2).toNat) = none ∧ S (350 + (F 3 2).toNat) = none ∧ S (400 + (F 3 2).toNat) = none ∧ S (450 + (F 3 2).toNat) = none ∧ S (600 + (F 3 2).toNat) = none) (hm : 1 ≤ F 6 2 ∧ F 6 2 ≤ 40) (hxy : ∀ k : Int, 0 ≤ k → k < F 6 2 → 0 ≤ A 16 k ∧ A 16 k ≤ 20 ∧ 0 ≤ A 17 k ∧ A 17 k ≤ 14) : ab_Met l yX9_addWarning cX9_addWarning 2 (some .int) { frames := 7, cells := 5, slots := 160, locals := 171 } 5 160 [aR 0, aR 6] S F A (fun v S' F' A' => v = some (aI (F 3 2)) ∧ (WG S' (fun w => if w = (F 3 2).toNat then (F 6 2).toNat else nc w) (F 3 2 + 1) ∧ (∀ i, i ≠ 3 → i ≠ 300 + (F 3 2).toNat → i ≠ 350 + (F 3 2).toNat → i ≠ 400 + (F 3 2).toNat → i ≠ 450 + (F 3 2).toNat → (i < 600 ∨ 640 ≤ i ∨ (600 + (F 3 2).toNat < i ∧ S i = none)) → S' i = S i) ∧ F' 3 2 = F 3 2 + 1 ∧ (∀ i, i ≠ 3 → i ≠ 300 + (F 3 2).toNat → F' i = F i) ∧ (F' (300 + (F 3 2).toNat) 2 = F 0 10 ∧ F' (300 + (F 3 2).toNat) 4 = 0 ∧ F' (300 + (F 3 2).toNat) 5 = 0) ∧ (∀ i, i ≠ 350 + (F 3 2).toNat → i ≠ 400 + (F 3 2).toNat → i ≠ 450 + (F 3 2).toNat → A' i = A i) ∧ (∀ k, 0 ≤ k → k < F 6 2 → A' (350 + (F 3 2).toNat) k = A 16 k ∧ A' (400 + (F 3 2).toNat) k = A 17 k) ∧ ∀ y, 0 ≤ y → y < 14 → A' (450 + (F 3 2).toNat) y = wb (wIn (A 16) (A 17) (F 6 2)) y 20)) := by
  refine ab_enter (by decide) (by simp [aI, aR, aX, ab_val, Value.category]) (Nat.le_of_ble_eq_true rfl) (fun E C hr => ?_)
  refine j_eq (lv' := [some (aR 0), some (aR 6)]) ?_
  have hWg2 := hWg
  obtain ⟨hW1, ew, Nw, hl3, hN3, hW3, hW4, hW5⟩ := hWg
  obtain ⟨f3, hf3⟩ : ∃ f : Nat → Option Nat, 0 < F 3 2 → S ew = some (sO Nw f) ∧ ∀ w : Nat, (w : Int) < F 3 2 → f w = some (300 + w) := by
    by_cases z : 0 < F 3 2
    · obtain ⟨c, c1, c2⟩ := hW3 z; exact ⟨c, fun _ => ⟨c1, c2⟩⟩
    · exact ⟨fun _ => none, fun q => absurd q z⟩
  refine j_aload_n C dX9_addWarning_0 rfl rfl ?_
  refine j_getR C (j := 3) fl_X9_23 ((sC_0 hS)) rfl dX9_addWarning_1 ?_
  refine j_new C (ci := 9) (300 + (F 3 2).toNat) sl0_X8 rfl in_X8 tyX8 tyX8_ok (ab_t2 (List.mem_of_getElem? (i := 99) rfl) rfl) (ab_t2 (List.mem_of_getElem? (i := 100) rfl) rfl) (ab_t1 (List.mem_of_getElem? (i := 28) rfl) rfl) sl0_X8_d sl0_X8_m (hfr.1) (by omega) (Nat.le_of_ble_eq_true rfl) (Nat.le_of_ble_eq_true rfl) (fun v hv => by simp only [List.mem_cons, List.not_mem_nil, or_false] at hv; rcases hv with rfl <;> first | exact (lS (hl3))) (fun v hv => by simp only [List.mem_cons, List.not_mem_nil, or_false, Option.some.injEq, reduceCtorEq, false_or] at hv; rcases hv with rfl | rfl <;> first | exact (lS ((sC_0 hS))) | exact (lS ((sC_6 hS)))) dX9_addWarning_4 ?_
  show ab_J E 2 1 6 (upS S (300 + (F 3 2).toNat) (sC 9 sl0_X8)) (zF F (300 + (F 3 2).toNat)) A 7 [some (aR 0), some (aR 6)] [aR (300 + (F 3 2).toNat), aR 3]
  refine j_dup C dX9_addWarning_7 (fun _ => rfl) ?_
  refine j_aload_n C dX9_addWarning_8 rfl rfl ?_
  refine j_aload_n C dX9_addWarning_9 rfl rfl ?_
  refine j_get C (aI ((zF F (300 + (F 3 2).toNat)) 0 10)) fl_X9_66 (((upS_ne (by omega)).trans ((sC_0 hS)))) (fun _ => rfl) dX9_addWarning_10 ?_
  refine j_callI C (vs := [aR 6, aI ((zF F (300 + (F 3 2).toNat)) 0 10)]) (st := [aR (300 + (F 3 2).toNat), aR 3]) cl_X9_290 im_yX8_init rfl (fun _ => (c_warnInit6 _ (upS S (300 + (F 3 2).toNat) (sC 9 sl0_X8)) (zF F (300 + (F 3 2).toNat)) A (SC_up (by omega) hS) (F 3 2).toNat (by omega) _ (upS_at _ _ _) ((upS_ne (by omega)).trans hfr.2.1) ((upS_ne (by omega)).trans hfr.2.2.1) ((upS_ne (by omega)).trans hfr.2.2.2.1) (by rw [zF_ne (by omega)]; exact hm) (by rw [zF_ne (by omega)]; exact hxy))) rfl ⟨rfl, rfl, by decide, by decide⟩ ⟨by decide, by decide⟩ (fun _ => Nat.le_of_ble_eq_true rfl) (fun v hv => by simp only [List.mem_cons, List.not_mem_nil, or_false] at hv; rcases hv with rfl | rfl <;> first | exact (lS (((upS_ne (by omega)).trans (hl3)))) | exact (lS (upS_at _ _ _))) (fun v hv => by simp only [List.mem_cons, List.not_mem_nil, or_false, Option.some.injEq, reduceCtorEq, false_or] at hv; rcases hv with rfl | rfl <;> first | exact (lS (((upS_ne (by omega)).trans ((sC_0 hS))))) | exact (lS (((upS_ne (by omega)).trans ((sC_6 hS)))))) dX9_addWarning_13 (fun v_13 S_13 F_13 A_13 hP_13 => ?_)
  obtain ⟨rfl, hS13, hF13, hO13, hX13, hY13⟩ := hP_13
  skip
  have hFr : zF F (300 + (F 3 2).toNat) 6 2 = F 6 2 := by rw [zF_ne (by omega)]
  rw [hFr] at hX13 hY13 hS13
  have hFo : ∀ i, i ≠ 300 + (F 3 2).toNat → F_13 i = F i := fun i z => by rw [hF13, upF_o z, upF_o z, upF_o z, zF_ne z]
  have hF2 : F_13 (300 + (F 3 2).toNat) 2 = F 0 10 := by rw [hF13, upF_ne (by decide), upF_ne (by decide), upF_at, zF_ne (by omega)]
  have hF4 : F_13 (300 + (F 3 2).toNat) 4 = 0 := by rw [hF13, upF_ne (by decide), upF_at]
  have hF5 : F_13 (300 + (F 3 2).toNat) 5 = 0 := by rw [hF13, upF_at]
  have hSo : ∀ i, i ≠ 300 + (F 3 2).toNat → i ≠ 350 + (F 3 2).toNat → i ≠ 400 + (F 3 2).toNat → i ≠ 450 + (F 3 2).toNat → S_13 i = S i := fun i z1 z2 z3 z4 => by rw [hS13, upS_ne z1, upS_ne z4, upS_ne z3, upS_ne z2, upS_ne z1]
  have hx13 : S_13 (300 + (F 3 2).toNat) = some (sC 9 (slW (350 + (F 3 2).toNat) (400 + (F 3 2).toNat) (450 + (F 3 2).toNat))) := by rw [hS13, upS_at]
  have hx14 : S_13 (350 + (F 3 2).toNat) = some (sA .int (F 6 2).toNat) := by rw [hS13, upS_ne (by omega), upS_ne (by omega), upS_ne (by omega), upS_at]
  have hx15 : S_13 (400 + (F 3 2).toNat) = some (sA .int (F 6 2).toNat) := by rw [hS13, upS_ne (by omega), upS_ne (by omega), upS_at]
  have hx16 : S_13 (450 + (F 3 2).toNat) = some (sA .int 14) := by rw [hS13, upS_ne (by omega), upS_at]
  have hS : ab_SC S_13 := by rw [hS13]; exact SC_up (by omega) (SC_up (by omega) (SC_up (by omega) (SC_up (by omega) (SC_up (by omega) hS))))
  have hl3o := hl3
  have hl3 : S_13 3 = some (sC 0 (slL ew)) := by rw [hSo 3 (by omega) (by omega) (by omega) (by omega)]; exact hl3o
  have hF3 : F_13 3 2 = F 3 2 := by rw [hFo 3 (by omega)]
  show ab_J E 2 4 100 S_13 F_13 A_13 16 [some (aR 0), some (aR 6)] [aR (300 + (F 3 2).toNat), aR 3]
  have hE16 : (F_13 3 2 = 0 ∧ ew = 1000200 + 2) ∨ (0 < F_13 3 2 ∧ F_13 3 2 ≤ Nw ∧ (F_13 3 2 = Nw → 10 ≤ Nw ∧ Nw ≤ 40) ∧ Nw ≤ 60 ∧ S_13 ew = some (sO Nw f3) ∧ 3 ≠ ew) := by
    rw [hF3]
    rcases (show F 3 2 = 0 ∨ 0 < F 3 2 by omega) with z | z
    · exact Or.inl ⟨z, hW4 z⟩
    · have q := hW5 z
      exact Or.inr ⟨z, by omega, fun _ => by omega, by omega, by rw [hSo ew (by omega) (by omega) (by omega) (by omega)]; exact (hf3 z).1, by omega⟩
  have hq16 : S_13 (600 + (F 3 2).toNat) = none := by rw [hSo _ (by omega) (by omega) (by omega) (by omega)]; exact hfr.2.2.2.2
  have hel16 : ∀ q : Nat, (q : Int) < F_13 3 2 → ∀ x, f3 q = some x → ∃ (ci : Nat) (sl : Nat → Option (Option Nat)) (r : vw_C), S_13 x = some (sC ci sl) ∧ vwCl[ci]? = some r ∧ Cond.castable r.1 "java/lang/Object" ∈ lw_tbl := by
    rw [hF3]
    intro q hq x hx
    have z : 0 < F 3 2 := by omega
    rw [(hf3 z).2 q hq] at hx
    cases hx
    exact ⟨9, _, _, by rw [hSo _ (by omega) (by omega) (by omega) (by omega)]; exact (hW1 q hq).1, rfl, (lw_t6 (List.mem_of_getElem? (i := 86) rfl))⟩
  refine j_callV C (vs := [aR (300 + (F 3 2).toNat)]) (st := []) cl_X9_138 im_yJx4a65c_add_9ea2d se_yJx4a65c_add_9ea2d (fun _ => (t_add _ S_13 F_13 A_13 3 ew (600 + (F 3 2).toNat) Nw f3 hl3 hE16 hq16 (by omega) (by omega) hel16 (300 + (F 3 2).toNat) 9 _ _ hx13 (by omega) rfl (lw_t6 (List.mem_of_getElem? (i := 86) rfl)))) (hl3) rfl rfl rfl ⟨rfl, rfl, by decide, by decide⟩ ⟨by decide, by decide⟩ (fun _ => Nat.le_of_ble_eq_true rfl) (fun v hv => by cases hv) (fun v hv => by simp only [List.mem_cons, List.not_mem_nil, or_false, Option.some.injEq, reduceCtorEq, false_or] at hv; rcases hv with rfl | rfl <;> first | exact (lS ((sC_0 hS))) | exact (lS ((sC_6 hS)))) dX9_addWarning_16 (fun v_16 S_16 F_16 A_16 hP_16 => ?_)
  obtain ⟨rfl, rfl, hF16, e9, N9, c9, a1, a2, a3, a4, a5, a6, a7⟩ := hP_16
  rw [hF3] at a3 a4 a5 a7
  have hF16b : F_16 3 2 = F 3 2 + 1 := by rw [hF16, upF_at, hF3]
  have hl3 : S_16 3 = some (sC 0 (slL e9)) := a1
  have he9 : 600 ≤ e9 ∧ e9 < 640 ∧ (e9 = 600 + (F 3 2).toNat ∨ S e9 ≠ none) := by
    rcases a7 with z | ⟨z1, z2⟩
    · exact ⟨by omega, by omega, Or.inl z.1⟩
    · have := hW5 z1; have h8 := (hf3 z1).1; exact ⟨by omega, by omega, Or.inr (by rw [z2, h8]; exact fun z => by cases z)⟩
  have hS : ab_SC S_16 := SC_to hS (fun j z1 z2 z3 => a6 j z3 (by omega))
  show ab_J E 2 5 160 S_16 F_16 A_13 19 [some (aR 0), some (aR 6)] [aI 1]
  refine j_pop C dX9_addWarning_19 (fun _ => rfl) ?_
  refine j_aload_n C dX9_addWarning_20 rfl rfl ?_
  refine j_getR C (j := 3) fl_X9_23 ((sC_0 hS)) rfl dX9_addWarning_21 ?_
  refine j_callV C (vs := []) (st := []) cl_X9_126 im_yJx4a65c_size_8abf5 se_yJx4a65c_size_8abf5 (fun _ => (t_size _ S_16 F_16 A_13 _ _ (hl3))) (hl3) rfl rfl rfl ⟨rfl, rfl, by decide, by decide⟩ ⟨by decide, by decide⟩ (fun _ => Nat.le_of_ble_eq_true rfl) (fun v hv => by cases hv) (fun v hv => by simp only [List.mem_cons, List.not_mem_nil, or_false, Option.some.injEq, reduceCtorEq, false_or] at hv; rcases hv with rfl | rfl <;> first | exact (lS ((sC_0 hS))) | exact (lS ((sC_6 hS)))) dX9_addWarning_24 (fun v_24 S_24 F_24 A_24 hP_24 => ?_)
  obtain ⟨rfl, rfl, rfl, rfl⟩ := hP_24
  show ab_J E 2 5 160 S_16 F_16 A_13 27 [some (aR 0), some (aR 6)] [aI (F_16 3 2)]
  refine j_iconst C dX9_addWarning_27 ?_
  refine j_isub C dX9_addWarning_28 ?_
  refine j_eq (st' := [aI (F 3 2)]) ?_ (e1 := by first | rfl | (simp only [List.cons.injEq, and_true]; exact congrArg aI ((by omega))))
  exact j_iret C hr (Nat.le_refl _) (Nat.le_refl _) dX9_addWarning_29 (by
    have hN9 : F 3 2 + 1 ≤ N9 ∧ N9 ≤ 60 ∧ 10 ≤ N9 := by
      rcases a3 with z | z | z
      · omega
      · have := hW5 z.1; omega
      · have := hW5 z.1; omega
    have a6b : ∀ i, i ≠ 3 → i ≠ e9 → i ≠ 300 + (F 3 2).toNat → i ≠ 350 + (F 3 2).toNat → i ≠ 400 + (F 3 2).toNat → i ≠ 450 + (F 3 2).toNat → S_16 i = S i := fun i z1 z2 z3 z4 z5 z6 => by rw [a6 i z1 z2, hSo i z3 z4 z5 z6]
    refine ⟨rfl, ⟨fun w hw => ?_, e9, N9, a1, ⟨by omega, by omega⟩, fun z => ⟨c9, a2, fun w hw => ?_⟩, fun z => by omega, fun z => ⟨he9.1, he9.2.1, by omega⟩⟩, fun i z1 z2 z3 z4 z5 z6 => ?_, hF16b, fun i z1 z2 => ?_, ⟨?_, ?_, ?_⟩, hO13, hX13, hY13⟩
    · by_cases z : w = (F 3 2).toNat
      · subst z
        dsimp only
        rw [if_pos rfl, a6 _ (by omega) (by omega), a6 _ (by omega) (by omega), a6 _ (by omega) (by omega), a6 _ (by omega) (by omega)]
        exact ⟨hx13, hx14, hx15, hx16⟩
      · dsimp only
        rw [if_neg z, a6b _ (by omega) (by omega) (by omega) (by omega) (by omega) (by omega), a6b _ (by omega) (by omega) (by omega) (by omega) (by omega) (by omega), a6b _ (by omega) (by omega) (by omega) (by omega) (by omega) (by omega), a6b _ (by omega) (by omega) (by omega) (by omega) (by omega) (by omega)]
        exact hW1 w (by omega)
    · by_cases z2 : w = (F 3 2).toNat
      · rw [z2]; exact a5
      · rw [a4 w (by omega)]; exact (hf3 (by omega)).2 w (by omega)
    · refine a6b i z1 (fun z => ?_) z2 z3 z4 z5
      rcases z6 with y | y | y
      · omega
      · omega
      · rcases he9.2.2 with x | x
        · omega
        · rw [z] at y; exact x y.2
    · rw [hF16, upF_o z1, upF_o z1]; exact hFo i z2
    · rw [hF16, upF_o (by omega), upF_o (by omega)]; exact hF2
    · rw [hF16, upF_o (by omega), upF_o (by omega)]; exact hF4
    · rw [hF16, upF_o (by omega), upF_o (by omega)]; exact hF5)

set_option maxHeartbeats 4000000 in
set_option maxRecDepth 100000 in
theorem c_addW8 (l : Launch) (S : ab_St) (F : ab_Fn) (A : ab_An) (hS : ab_SC S) (nc : Nat → Nat) (hWg : WG S nc (F 3 2)) (hw9 : 0 ≤ F 3 2 ∧ F 3 2 < 40) (hfr : S (300 + (F 3 2).toNat) = none ∧ S (350 + (F 3 2).toNat) = none ∧ S (400 + (F 3 2).toNat) = none ∧ S (450 + (F 3 2).toNat) = none ∧ S (600 + (F 3 2).toNat) = none) (hm : 1 ≤ F 8 2 ∧ F 8 2 ≤ 40) (hxy : ∀ k : Int, 0 ≤ k → k < F 8 2 → 0 ≤ A 18 k ∧ A 18 k ≤ 20 ∧ 0 ≤ A 19 k ∧ A 19 k ≤ 14) : ab_Met l yX9_addWarning cX9_addWarning 2 (some .int) { frames := 7, cells := 5, slots := 160, locals := 171 } 5 160 [aR 0, aR 8] S F A (fun v S' F' A' => v = some (aI (F 3 2)) ∧ (WG S' (fun w => if w = (F 3 2).toNat then (F 8 2).toNat else nc w) (F 3 2 + 1) ∧ (∀ i, i ≠ 3 → i ≠ 300 + (F 3 2).toNat → i ≠ 350 + (F 3 2).toNat → i ≠ 400 + (F 3 2).toNat → i ≠ 450 + (F 3 2).toNat → (i < 600 ∨ 640 ≤ i ∨ (600 + (F 3 2).toNat < i ∧ S i = none)) → S' i = S i) ∧ F' 3 2 = F 3 2 + 1 ∧ (∀ i, i ≠ 3 → i ≠ 300 + (F 3 2).toNat → F' i = F i) ∧ (F' (300 + (F 3 2).toNat) 2 = F 0 10 ∧ F' (300 + (F 3 2).toNat) 4 = 0 ∧ F' (300 + (F 3 2).toNat) 5 = 0) ∧ (∀ i, i ≠ 350 + (F 3 2).toNat → i ≠ 400 + (F 3 2).toNat → i ≠ 450 + (F 3 2).toNat → A' i = A i) ∧ (∀ k, 0 ≤ k → k < F 8 2 → A' (350 + (F 3 2).toNat) k = A 18 k ∧ A' (400 + (F 3 2).toNat) k = A 19 k) ∧ ∀ y, 0 ≤ y → y < 14 → A' (450 + (F 3 2).toNat) y = wb (wIn (A 18) (A 19) (F 8 2)) y 20)) := by
  refine ab_enter (by decide) (by simp [aI, aR, aX, ab_val, Value.category]) (Nat.le_of_ble_eq_true rfl) (fun E C hr => ?_)
  refine j_eq (lv' := [some (aR 0), some (aR 8)]) ?_
  have hWg2 := hWg
  obtain ⟨hW1, ew, Nw, hl3, hN3, hW3, hW4, hW5⟩ := hWg
  obtain ⟨f3, hf3⟩ : ∃ f : Nat → Option Nat, 0 < F 3 2 → S ew = some (sO Nw f) ∧ ∀ w : Nat, (w : Int) < F 3 2 → f w = some (300 + w) := by
    by_cases z : 0 < F 3 2
    · obtain ⟨c, c1, c2⟩ := hW3 z; exact ⟨c, fun _ => ⟨c1, c2⟩⟩
    · exact ⟨fun _ => none, fun q => absurd q z⟩
  refine j_aload_n C dX9_addWarning_0 rfl rfl ?_
  refine j_getR C (j := 3) fl_X9_23 ((sC_0 hS)) rfl dX9_addWarning_1 ?_
  refine j_new C (ci := 9) (300 + (F 3 2).toNat) sl0_X8 rfl in_X8 tyX8 tyX8_ok (ab_t2 (List.mem_of_getElem? (i := 99) rfl) rfl) (ab_t2 (List.mem_of_getElem? (i := 100) rfl) rfl) (ab_t1 (List.mem_of_getElem? (i := 28) rfl) rfl) sl0_X8_d sl0_X8_m (hfr.1) (by omega) (Nat.le_of_ble_eq_true rfl) (Nat.le_of_ble_eq_true rfl) (fun v hv => by simp only [List.mem_cons, List.not_mem_nil, or_false] at hv; rcases hv with rfl <;> first | exact (lS (hl3))) (fun v hv => by simp only [List.mem_cons, List.not_mem_nil, or_false, Option.some.injEq, reduceCtorEq, false_or] at hv; rcases hv with rfl | rfl <;> first | exact (lS ((sC_0 hS))) | exact (lS ((sC_8 hS)))) dX9_addWarning_4 ?_
  show ab_J E 2 1 6 (upS S (300 + (F 3 2).toNat) (sC 9 sl0_X8)) (zF F (300 + (F 3 2).toNat)) A 7 [some (aR 0), some (aR 8)] [aR (300 + (F 3 2).toNat), aR 3]
  refine j_dup C dX9_addWarning_7 (fun _ => rfl) ?_
  refine j_aload_n C dX9_addWarning_8 rfl rfl ?_
  refine j_aload_n C dX9_addWarning_9 rfl rfl ?_
  refine j_get C (aI ((zF F (300 + (F 3 2).toNat)) 0 10)) fl_X9_66 (((upS_ne (by omega)).trans ((sC_0 hS)))) (fun _ => rfl) dX9_addWarning_10 ?_
  refine j_callI C (vs := [aR 8, aI ((zF F (300 + (F 3 2).toNat)) 0 10)]) (st := [aR (300 + (F 3 2).toNat), aR 3]) cl_X9_290 im_yX8_init rfl (fun _ => (c_warnInit8 _ (upS S (300 + (F 3 2).toNat) (sC 9 sl0_X8)) (zF F (300 + (F 3 2).toNat)) A (SC_up (by omega) hS) (F 3 2).toNat (by omega) _ (upS_at _ _ _) ((upS_ne (by omega)).trans hfr.2.1) ((upS_ne (by omega)).trans hfr.2.2.1) ((upS_ne (by omega)).trans hfr.2.2.2.1) (by rw [zF_ne (by omega)]; exact hm) (by rw [zF_ne (by omega)]; exact hxy))) rfl ⟨rfl, rfl, by decide, by decide⟩ ⟨by decide, by decide⟩ (fun _ => Nat.le_of_ble_eq_true rfl) (fun v hv => by simp only [List.mem_cons, List.not_mem_nil, or_false] at hv; rcases hv with rfl | rfl <;> first | exact (lS (((upS_ne (by omega)).trans (hl3)))) | exact (lS (upS_at _ _ _))) (fun v hv => by simp only [List.mem_cons, List.not_mem_nil, or_false, Option.some.injEq, reduceCtorEq, false_or] at hv; rcases hv with rfl | rfl <;> first | exact (lS (((upS_ne (by omega)).trans ((sC_0 hS))))) | exact (lS (((upS_ne (by omega)).trans ((sC_8 hS)))))) dX9_addWarning_13 (fun v_13 S_13 F_13 A_13 hP_13 => ?_)
  obtain ⟨rfl, hS13, hF13, hO13, hX13, hY13⟩ := hP_13
  skip
  have hFr : zF F (300 + (F 3 2).toNat) 8 2 = F 8 2 := by rw [zF_ne (by omega)]
  rw [hFr] at hX13 hY13 hS13
  have hFo : ∀ i, i ≠ 300 + (F 3 2).toNat → F_13 i = F i := fun i z => by rw [hF13, upF_o z, upF_o z, upF_o z, zF_ne z]
  have hF2 : F_13 (300 + (F 3 2).toNat) 2 = F 0 10 := by rw [hF13, upF_ne (by decide), upF_ne (by decide), upF_at, zF_ne (by omega)]
  have hF4 : F_13 (300 + (F 3 2).toNat) 4 = 0 := by rw [hF13, upF_ne (by decide), upF_at]
  have hF5 : F_13 (300 + (F 3 2).toNat) 5 = 0 := by rw [hF13, upF_at]
  have hSo : ∀ i, i ≠ 300 + (F 3 2).toNat → i ≠ 350 + (F 3 2).toNat → i ≠ 400 + (F 3 2).toNat → i ≠ 450 + (F 3 2).toNat → S_13 i = S i := fun i z1 z2 z3 z4 => by rw [hS13, upS_ne z1, upS_ne z4, upS_ne z3, upS_ne z2, upS_ne z1]
  have hx13 : S_13 (300 + (F 3 2).toNat) = some (sC 9 (slW (350 + (F 3 2).toNat) (400 + (F 3 2).toNat) (450 + (F 3 2).toNat))) := by rw [hS13, upS_at]
  have hx14 : S_13 (350 + (F 3 2).toNat) = some (sA .int (F 8 2).toNat) := by rw [hS13, upS_ne (by omega), upS_ne (by omega), upS_ne (by omega), upS_at]
  have hx15 : S_13 (400 + (F 3 2).toNat) = some (sA .int (F 8 2).toNat) := by rw [hS13, upS_ne (by omega), upS_ne (by omega), upS_at]
  have hx16 : S_13 (450 + (F 3 2).toNat) = some (sA .int 14) := by rw [hS13, upS_ne (by omega), upS_at]
  have hS : ab_SC S_13 := by rw [hS13]; exact SC_up (by omega) (SC_up (by omega) (SC_up (by omega) (SC_up (by omega) (SC_up (by omega) hS))))
  have hl3o := hl3
  have hl3 : S_13 3 = some (sC 0 (slL ew)) := by rw [hSo 3 (by omega) (by omega) (by omega) (by omega)]; exact hl3o
  have hF3 : F_13 3 2 = F 3 2 := by rw [hFo 3 (by omega)]
  show ab_J E 2 4 100 S_13 F_13 A_13 16 [some (aR 0), some (aR 8)] [aR (300 + (F 3 2).toNat), aR 3]
  have hE16 : (F_13 3 2 = 0 ∧ ew = 1000200 + 2) ∨ (0 < F_13 3 2 ∧ F_13 3 2 ≤ Nw ∧ (F_13 3 2 = Nw → 10 ≤ Nw ∧ Nw ≤ 40) ∧ Nw ≤ 60 ∧ S_13 ew = some (sO Nw f3) ∧ 3 ≠ ew) := by
    rw [hF3]
    rcases (show F 3 2 = 0 ∨ 0 < F 3 2 by omega) with z | z
    · exact Or.inl ⟨z, hW4 z⟩
    · have q := hW5 z
      exact Or.inr ⟨z, by omega, fun _ => by omega, by omega, by rw [hSo ew (by omega) (by omega) (by omega) (by omega)]; exact (hf3 z).1, by omega⟩
  have hq16 : S_13 (600 + (F 3 2).toNat) = none := by rw [hSo _ (by omega) (by omega) (by omega) (by omega)]; exact hfr.2.2.2.2
  have hel16 : ∀ q : Nat, (q : Int) < F_13 3 2 → ∀ x, f3 q = some x → ∃ (ci : Nat) (sl : Nat → Option (Option Nat)) (r : vw_C), S_13 x = some (sC ci sl) ∧ vwCl[ci]? = some r ∧ Cond.castable r.1 "java/lang/Object" ∈ lw_tbl := by
    rw [hF3]
    intro q hq x hx
    have z : 0 < F 3 2 := by omega
    rw [(hf3 z).2 q hq] at hx
    cases hx
    exact ⟨9, _, _, by rw [hSo _ (by omega) (by omega) (by omega) (by omega)]; exact (hW1 q hq).1, rfl, (lw_t6 (List.mem_of_getElem? (i := 86) rfl))⟩
  refine j_callV C (vs := [aR (300 + (F 3 2).toNat)]) (st := []) cl_X9_138 im_yJx4a65c_add_9ea2d se_yJx4a65c_add_9ea2d (fun _ => (t_add _ S_13 F_13 A_13 3 ew (600 + (F 3 2).toNat) Nw f3 hl3 hE16 hq16 (by omega) (by omega) hel16 (300 + (F 3 2).toNat) 9 _ _ hx13 (by omega) rfl (lw_t6 (List.mem_of_getElem? (i := 86) rfl)))) (hl3) rfl rfl rfl ⟨rfl, rfl, by decide, by decide⟩ ⟨by decide, by decide⟩ (fun _ => Nat.le_of_ble_eq_true rfl) (fun v hv => by cases hv) (fun v hv => by simp only [List.mem_cons, List.not_mem_nil, or_false, Option.some.injEq, reduceCtorEq, false_or] at hv; rcases hv with rfl | rfl <;> first | exact (lS ((sC_0 hS))) | exact (lS ((sC_8 hS)))) dX9_addWarning_16 (fun v_16 S_16 F_16 A_16 hP_16 => ?_)
  obtain ⟨rfl, rfl, hF16, e9, N9, c9, a1, a2, a3, a4, a5, a6, a7⟩ := hP_16
  rw [hF3] at a3 a4 a5 a7
  have hF16b : F_16 3 2 = F 3 2 + 1 := by rw [hF16, upF_at, hF3]
  have hl3 : S_16 3 = some (sC 0 (slL e9)) := a1
  have he9 : 600 ≤ e9 ∧ e9 < 640 ∧ (e9 = 600 + (F 3 2).toNat ∨ S e9 ≠ none) := by
    rcases a7 with z | ⟨z1, z2⟩
    · exact ⟨by omega, by omega, Or.inl z.1⟩
    · have := hW5 z1; have h8 := (hf3 z1).1; exact ⟨by omega, by omega, Or.inr (by rw [z2, h8]; exact fun z => by cases z)⟩
  have hS : ab_SC S_16 := SC_to hS (fun j z1 z2 z3 => a6 j z3 (by omega))
  show ab_J E 2 5 160 S_16 F_16 A_13 19 [some (aR 0), some (aR 8)] [aI 1]
  refine j_pop C dX9_addWarning_19 (fun _ => rfl) ?_
  refine j_aload_n C dX9_addWarning_20 rfl rfl ?_
  refine j_getR C (j := 3) fl_X9_23 ((sC_0 hS)) rfl dX9_addWarning_21 ?_
  refine j_callV C (vs := []) (st := []) cl_X9_126 im_yJx4a65c_size_8abf5 se_yJx4a65c_size_8abf5 (fun _ => (t_size _ S_16 F_16 A_13 _ _ (hl3))) (hl3) rfl rfl rfl ⟨rfl, rfl, by decide, by decide⟩ ⟨by decide, by decide⟩ (fun _ => Nat.le_of_ble_eq_true rfl) (fun v hv => by cases hv) (fun v hv => by simp only [List.mem_cons, List.not_mem_nil, or_false, Option.some.injEq, reduceCtorEq, false_or] at hv; rcases hv with rfl | rfl <;> first | exact (lS ((sC_0 hS))) | exact (lS ((sC_8 hS)))) dX9_addWarning_24 (fun v_24 S_24 F_24 A_24 hP_24 => ?_)
  obtain ⟨rfl, rfl, rfl, rfl⟩ := hP_24
  show ab_J E 2 5 160 S_16 F_16 A_13 27 [some (aR 0), some (aR 8)] [aI (F_16 3 2)]
  refine j_iconst C dX9_addWarning_27 ?_
  refine j_isub C dX9_addWarning_28 ?_
  refine j_eq (st' := [aI (F 3 2)]) ?_ (e1 := by first | rfl | (simp only [List.cons.injEq, and_true]; exact congrArg aI ((by omega))))
  exact j_iret C hr (Nat.le_refl _) (Nat.le_refl _) dX9_addWarning_29 (by
    have hN9 : F 3 2 + 1 ≤ N9 ∧ N9 ≤ 60 ∧ 10 ≤ N9 := by
      rcases a3 with z | z | z
      · omega
      · have := hW5 z.1; omega
      · have := hW5 z.1; omega
    have a6b : ∀ i, i ≠ 3 → i ≠ e9 → i ≠ 300 + (F 3 2).toNat → i ≠ 350 + (F 3 2).toNat → i ≠ 400 + (F 3 2).toNat → i ≠ 450 + (F 3 2).toNat → S_16 i = S i := fun i z1 z2 z3 z4 z5 z6 => by rw [a6 i z1 z2, hSo i z3 z4 z5 z6]
    refine ⟨rfl, ⟨fun w hw => ?_, e9, N9, a1, ⟨by omega, by omega⟩, fun z => ⟨c9, a2, fun w hw => ?_⟩, fun z => by omega, fun z => ⟨he9.1, he9.2.1, by omega⟩⟩, fun i z1 z2 z3 z4 z5 z6 => ?_, hF16b, fun i z1 z2 => ?_, ⟨?_, ?_, ?_⟩, hO13, hX13, hY13⟩
    · by_cases z : w = (F 3 2).toNat
      · subst z
        dsimp only
        rw [if_pos rfl, a6 _ (by omega) (by omega), a6 _ (by omega) (by omega), a6 _ (by omega) (by omega), a6 _ (by omega) (by omega)]
        exact ⟨hx13, hx14, hx15, hx16⟩
      · dsimp only
        rw [if_neg z, a6b _ (by omega) (by omega) (by omega) (by omega) (by omega) (by omega), a6b _ (by omega) (by omega) (by omega) (by omega) (by omega) (by omega), a6b _ (by omega) (by omega) (by omega) (by omega) (by omega) (by omega), a6b _ (by omega) (by omega) (by omega) (by omega) (by omega) (by omega)]
        exact hW1 w (by omega)
    · by_cases z2 : w = (F 3 2).toNat
      · rw [z2]; exact a5
      · rw [a4 w (by omega)]; exact (hf3 (by omega)).2 w (by omega)
    · refine a6b i z1 (fun z => ?_) z2 z3 z4 z5
      rcases z6 with y | y | y
      · omega
      · omega
      · rcases he9.2.2 with x | x
        · omega
        · rw [z] at y; exact x y.2
    · rw [hF16, upF_o z1, upF_o z1]; exact hFo i z2
    · rw [hF16, upF_o (by omega), upF_o (by omega)]; exact hF2
    · rw [hF16, upF_o (by omega), upF_o (by omega)]; exact hF4
    · rw [hF16, upF_o (by omega), upF_o (by omega)]; exact hF5)
