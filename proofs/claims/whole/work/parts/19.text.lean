theorem ab_txl : ∀ j, j < 8 → 3 ≤ (ab_tx j).length ∧ (ab_tx j).length ≤ 5
  | 0, _ => by decide
  | 1, _ => by decide
  | 2, _ => by decide
  | 3, _ => by decide
  | 4, _ => by decide
  | 5, _ => by decide
  | 6, _ => by decide
  | 7, _ => by decide
  | j + 8, h => absurd h (by omega)
theorem ab_txb : ∀ j, j < 8 → ∀ b ∈ ab_tx j, 0 ≤ b ∧ b ≤ 127
  | 0, _ => by decide
  | 1, _ => by decide
  | 2, _ => by decide
  | 3, _ => by decide
  | 4, _ => by decide
  | 5, _ => by decide
  | 6, _ => by decide
  | 7, _ => by decide
  | j + 8, h => absurd h (by omega)
theorem ab_txg {j : Nat} (h : j < 8) {i : Int} (h0 : 0 ≤ i) (h1 : i < (ab_tx j).length) : 0 ≤ (ab_tx j).getD i.toNat 0 ∧ (ab_tx j).getD i.toNat 0 ≤ 127 := by
  have hl : i.toNat < (ab_tx j).length := by omega
  rw [List.getD_eq_getElem?_getD, List.getElem?_eq_getElem hl]
  show 0 ≤ (ab_tx j)[i.toNat] ∧ (ab_tx j)[i.toNat] ≤ 127
  exact ab_txb j h _ (List.getElem_mem hl)
theorem ab_shr0 {a : Int} (h0 : inR a) : (Int32.ofInt a >>> (Int32.ofInt 0 &&& 31)).toInt = a := by
  have e : (Int32.ofInt 0 &&& 31 : Int32) = 0 := by decide
  rw [e]
  have e2 : (Int32.ofInt a >>> (0 : Int32)) = Int32.ofInt a := by
    apply Int32.toBitVec_inj.mp
    simp
  rw [e2, Int32.toInt_ofInt]
  obtain ⟨h1, h2⟩ := h0
  rw [Int.bmod_eq_of_le (by show -(((2 : Int) ^ 32) / 2) ≤ a; omega) (by show a < ((2 : Int) ^ 32 + 1) / 2; omega)]
theorem ab_and255 {a : Int} (h0 : 0 ≤ a) (h1 : a ≤ 255) : (Int32.ofInt a &&& Int32.ofInt 255).toInt = a := by
  have : ∀ k : Nat, k < 256 → (Int32.ofInt (k : Int) &&& Int32.ofInt 255).toInt = k := by decide +kernel
  have := this a.toNat (by omega)
  rw [show ((a.toNat : Nat) : Int) = a by omega] at this
  exact this
theorem ab_i2c {a : Int} (h0 : 0 ≤ a) (h1 : a ≤ 255) : ((Int32.ofInt a).toUInt32 % 65536).toInt32.toInt = a := by
  have : ∀ k : Nat, k < 256 → ((Int32.ofInt (k : Int)).toUInt32 % 65536).toInt32.toInt = k := by decide +kernel
  have := this a.toNat (by omega)
  rw [show ((a.toNat : Nat) : Int) = a by omega] at this
  exact this
theorem ab_ncb {a : Int} (h0 : 0 ≤ a) (h1 : a ≤ 255) : narrow .char (.int (Int32.ofInt a)) = .int (Int32.ofInt a) := by
  have : ∀ k : Nat, k < 256 → (((Int32.ofInt (k : Int)).toUInt32 % 65536).toInt32) = Int32.ofInt (k : Int) := by decide +kernel
  have := this a.toNat (by omega)
  rw [show ((a.toNat : Nat) : Int) = a by omega] at this
  show Value.int _ = _
  exact congrArg Value.int this

set_option maxHeartbeats 4000000 in
set_option maxRecDepth 100000 in
theorem t_check3 (l : Launch) (S : ab_St) (F : ab_Fn) (A : ab_An) (i m : Int) (v0 : Value) (hq : v0.category = 1) (r : 0 ≤ i ∧ i < m) (rm : inR m) : ab_Met l yJ3_checkIndex_8e157 cJ3_checkIndex_8e157 3 (some .int) { frames := 0, cells := 0, slots := 0, locals := 0 } 0 0 [aI i, aI m, aX v0] S F A (fun v S' F' A' => S = S' ∧ F = F' ∧ A = A' ∧ v = some (aI i)) := by
  refine ab_enter (by decide) (by intro ad v hv; simp only [List.mem_cons, List.not_mem_nil, or_false] at hv; rcases hv with rfl | rfl | rfl <;> first | rfl | exact hq) (Nat.le_of_ble_eq_true rfl) (fun E C hr => ?_)
  refine j_eq (lv' := [some (aI i), some (aI m), some (aX v0)]) ?_
  refine j_iload_n C dJ3_checkIndex_8e157_0 rfl rfl ?_
  refine j_if_lt C (tgt := 9) dJ3_checkIndex_8e157_1 (by decide) ⟨by omega, by have := rm.2; omega⟩ (fun c1 => ?_) (fun c1 => ?_)
  · exact absurd c1 (by omega)
  · refine j_iload_n C dJ3_checkIndex_8e157_4 rfl rfl ?_
    refine j_iload_n C dJ3_checkIndex_8e157_5 rfl rfl ?_
    refine j_icmp_lt C (tgt := 16) dJ3_checkIndex_8e157_6 (by decide) ⟨by omega, by have := rm.2; omega⟩ rm (fun c6 => ?_) (fun c6 => ?_)
    · refine j_iload_n C dJ3_checkIndex_8e157_16 rfl rfl ?_
      exact j_iret C hr (Nat.le_refl _) (Nat.le_refl _) dJ3_checkIndex_8e157_17 ⟨rfl, rfl, rfl, rfl⟩
    · exact absurd r.2 (by omega)

set_option maxHeartbeats 4000000 in
set_option maxRecDepth 100000 in
theorem t_check2 (l : Launch) (S : ab_St) (F : ab_Fn) (A : ab_An) (i m : Int) (r : 0 ≤ i ∧ i < m) (rm : inR m) : ab_Met l yJ0_checkIndex_df160 cJ0_checkIndex_df160 2 none { frames := 1, cells := 0, slots := 0, locals := 22 } 0 0 [aI i, aI m] S F A (fun v S' F' A' => S = S' ∧ F = F' ∧ A = A' ∧ v = none) := by
  refine ab_enter (by decide) (by simp [aI, aR, aX, ab_val, Value.category]) (Nat.le_of_ble_eq_true rfl) (fun E C hr => ?_)
  refine j_eq (lv' := [some (aI i), some (aI m)]) ?_
  refine j_iload_n C dJ0_checkIndex_df160_0 rfl rfl ?_
  refine j_iload_n C dJ0_checkIndex_df160_1 rfl rfl ?_
  refine j_getsQ C (fun _ _ h => sx_SIOOBE_FORMATTER h) (lw_t4 (List.mem_of_getElem? (i := 101) rfl)) (lw_t1 (List.mem_of_getElem? (i := 20) rfl)) (ab_t4 (List.mem_of_getElem? (i := 100) rfl) rfl) dJ0_checkIndex_df160_2 (fun q2 hq2 => ?_)
  refine j_callS C (vs := [aI i, aI m, aX q2]) (st := []) cl_J0_1059 sc_yJ3_checkIndex_8e157 (fun _ => (t_check3 _ S F A _ _ _ (by rcases hq2 with rfl | ⟨t, rfl⟩ <;> rfl) r rm)) rfl ⟨rfl, rfl, by decide, by decide⟩ ⟨by decide, by decide⟩ (fun _ => Nat.le_of_ble_eq_true rfl) (fun v hv => by cases hv) (fun v hv => by simp only [List.mem_cons, List.not_mem_nil, or_false, Option.some.injEq, reduceCtorEq, false_or] at hv; rcases hv with rfl | rfl <;> first | exact trivial) dJ0_checkIndex_df160_5 (fun v_5 S_5 F_5 A_5 hP_5 => ?_)
  obtain ⟨rfl, rfl, rfl, rfl⟩ := hP_5
  show ab_J E 2 0 0 S F A 8 [some (aI i), some (aI m)] [aI i]
  refine j_pop C dJ0_checkIndex_df160_8 (fun _ => rfl) ?_
  exact j_vret C hr (Nat.le_refl _) (Nat.le_refl _) dJ0_checkIndex_df160_9 ⟨rfl, rfl, rfl, rfl⟩

set_option maxHeartbeats 4000000 in
set_option maxRecDepth 100000 in
theorem t_charAt1 (l : Launch) (S : ab_St) (F : ab_Fn) (A : ab_An) (j : Nat) (hj : j < 8) (i : Int) (h0 : 0 ≤ i) (h1 : i < (ab_tx j).length) : ab_Met l yJ1_charAt_3b067 cJ1_charAt_3b067 2 (some .char) { frames := 2, cells := 0, slots := 0, locals := 43 } 0 0 [aR (1000100 + j), aI i] S F A (fun v S' F' A' => S = S' ∧ F = F' ∧ A = A' ∧ v = some (aI ((ab_tx j).getD i.toNat 0))) := by
  refine ab_enter (by decide) (by simp [aI, aR, aX, ab_val, Value.category]) (Nat.le_of_ble_eq_true rfl) (fun E C hr => ?_)
  refine j_eq (lv' := [some (aR (1000100 + j)), some (aI i)]) ?_
  have hg := ab_txg hj h0 h1
  have hl := ab_txl j hj
  refine j_iload_n C dJ1_charAt_3b067_0 rfl rfl ?_
  refine j_aload_n C dJ1_charAt_3b067_1 rfl rfl ?_
  refine j_strN C j (by omega) dJ1_charAt_3b067_2 ?_
  refine j_callS C (vs := [aI i, aI ((ab_tx j).length : Nat)]) (st := []) cl_J1_9 sc_yJ0_checkIndex_df160 (fun _ => (t_check2 _ S F A _ _ ⟨h0, h1⟩ ⟨by omega, by omega⟩)) rfl ⟨rfl, rfl, by decide, by decide⟩ ⟨by decide, by decide⟩ (fun _ => Nat.le_of_ble_eq_true rfl) (fun v hv => by cases hv) (fun v hv => by simp only [List.mem_cons, List.not_mem_nil, or_false, Option.some.injEq, reduceCtorEq, false_or] at hv; rcases hv with rfl | rfl <;> first | exact (lK (by omega)) | exact trivial) dJ1_charAt_3b067_3 (fun v_3 S_3 F_3 A_3 hP_3 => ?_)
  obtain ⟨rfl, rfl, rfl, rfl⟩ := hP_3
  show ab_J E 2 0 0 S F A 6 [some (aR (1000100 + j)), some (aI i)] []
  refine j_aload_n C dJ1_charAt_3b067_6 rfl rfl ?_
  refine j_iload_n C dJ1_charAt_3b067_7 rfl rfl ?_
  refine j_strB C j (by omega) (by omega) (by omega) dJ1_charAt_3b067_8 ?_
  refine j_sipush C dJ1_charAt_3b067_9 rfl ?_
  refine j_iand C dJ1_charAt_3b067_12 ?_
  refine j_eq (st' := [aI ((ab_tx j).getD (i).toNat 0)]) ?_ (e1 := by first | rfl | (simp only [List.cons.injEq, and_true]; exact congrArg aI (ab_and255 hg.1 (by omega))))
  refine j_i2c C dJ1_charAt_3b067_13 ?_
  refine j_eq (st' := [aI ((ab_tx j).getD (i).toNat 0)]) ?_ (e1 := by first | rfl | (simp only [List.cons.injEq, and_true]; exact congrArg aI (ab_i2c hg.1 (by omega))))
  exact j_zret C hr (ab_ncb hg.1 (by omega)) (Nat.le_refl _) (Nat.le_refl _) dJ1_charAt_3b067_14 ⟨rfl, rfl, rfl, rfl⟩

set_option maxHeartbeats 4000000 in
set_option maxRecDepth 100000 in
theorem t_coder (l : Launch) (S : ab_St) (F : ab_Fn) (A : ab_An) (j : Nat) (hj : j < 8) : ab_Met l yJ0_coder_7d493 cJ0_coder_7d493 1 (some .byte) { frames := 0, cells := 0, slots := 0, locals := 0 } 0 0 [aR (1000000 + j)] S F A (fun v S' F' A' => S = S' ∧ F = F' ∧ A = A' ∧ v = some (aI 0)) := by
  refine ab_enter (by decide) (by simp [aI, aR, aX, ab_val, Value.category]) (Nat.le_of_ble_eq_true rfl) (fun E C hr => ?_)
  refine j_eq (lv' := [some (aR (1000000 + j))]) ?_
  refine j_getsI C (z := 1) (ref := "java/lang/String") (nm := "COMPACT_STRINGS") (ds := "Z") (fun _ _ h => va_eqi (sx_COMPACT_STRINGS h)) (lw_t4 (List.mem_of_getElem? (i := 85) rfl)) (lw_t1 (List.mem_of_getElem? (i := 29) rfl)) (ab_t4 (List.mem_of_getElem? (i := 84) rfl) rfl) dJ0_coder_7d493_0 ?_
  refine j_if_eq C (tgt := 13) dJ0_coder_7d493_3 (by decide) ⟨by omega, by omega⟩ (fun c3 => ?_) (fun c3 => ?_)
  · exact absurd c3 (by decide)
  · refine j_aload_n C dJ0_coder_7d493_6 rfl rfl ?_
    refine j_strF C (aI 0) j (by omega) (Or.inl ⟨rfl, rfl, rfl⟩) (ab_t6 (List.mem_of_getElem? (i := 98) rfl) rfl) dJ0_coder_7d493_7 ?_
    refine j_goto C (tgt := 14) dJ0_coder_7d493_10 (by decide) ?_
    exact j_zret C hr rfl (Nat.le_refl _) (Nat.le_refl _) dJ0_coder_7d493_14 ⟨rfl, rfl, rfl, rfl⟩

set_option maxHeartbeats 4000000 in
set_option maxRecDepth 100000 in
theorem t_isLatin1 (l : Launch) (S : ab_St) (F : ab_Fn) (A : ab_An) (j : Nat) (hj : j < 8) : ab_Met l yJ0_isLatin1_aae02 cJ0_isLatin1_aae02 1 (some .boolean) { frames := 0, cells := 0, slots := 0, locals := 0 } 0 0 [aR (1000000 + j)] S F A (fun v S' F' A' => S = S' ∧ F = F' ∧ A = A' ∧ v = some (aI 1)) := by
  refine ab_enter (by decide) (by simp [aI, aR, aX, ab_val, Value.category]) (Nat.le_of_ble_eq_true rfl) (fun E C hr => ?_)
  refine j_eq (lv' := [some (aR (1000000 + j))]) ?_
  refine j_getsI C (z := 1) (ref := "java/lang/String") (nm := "COMPACT_STRINGS") (ds := "Z") (fun _ _ h => va_eqi (sx_COMPACT_STRINGS h)) (lw_t4 (List.mem_of_getElem? (i := 85) rfl)) (lw_t1 (List.mem_of_getElem? (i := 29) rfl)) (ab_t4 (List.mem_of_getElem? (i := 84) rfl) rfl) dJ0_isLatin1_aae02_0 ?_
  refine j_if_eq C (tgt := 17) dJ0_isLatin1_aae02_3 (by decide) ⟨by omega, by omega⟩ (fun c3 => ?_) (fun c3 => ?_)
  · exact absurd c3 (by decide)
  · refine j_aload_n C dJ0_isLatin1_aae02_6 rfl rfl ?_
    refine j_strF C (aI 0) j (by omega) (Or.inl ⟨rfl, rfl, rfl⟩) (ab_t6 (List.mem_of_getElem? (i := 98) rfl) rfl) dJ0_isLatin1_aae02_7 ?_
    refine j_if_ne C (tgt := 17) dJ0_isLatin1_aae02_10 (by decide) ⟨by omega, by omega⟩ (fun c10 => ?_) (fun c10 => ?_)
    · exact absurd c10 (by decide)
    · refine j_iconst C dJ0_isLatin1_aae02_13 ?_
      refine j_goto C (tgt := 18) dJ0_isLatin1_aae02_14 (by decide) ?_
      exact j_zret C hr rfl (Nat.le_refl _) (Nat.le_refl _) dJ0_isLatin1_aae02_18 ⟨rfl, rfl, rfl, rfl⟩

set_option maxHeartbeats 4000000 in
set_option maxRecDepth 100000 in
theorem t_length (l : Launch) (S : ab_St) (F : ab_Fn) (A : ab_An) (j : Nat) (hj : j < 8) : ab_Met l yJ0_length_8abf5 cJ0_length_8abf5 1 (some .int) { frames := 1, cells := 0, slots := 0, locals := 20 } 0 0 [aR (1000000 + j)] S F A (fun v S' F' A' => S = S' ∧ F = F' ∧ A = A' ∧ v = some (aI ((ab_tx j).length : Nat))) := by
  refine ab_enter (by decide) (by simp [aI, aR, aX, ab_val, Value.category]) (Nat.le_of_ble_eq_true rfl) (fun E C hr => ?_)
  refine j_eq (lv' := [some (aR (1000000 + j))]) ?_
  have hl := ab_txl j hj
  refine j_aload_n C dJ0_length_8abf5_0 rfl rfl ?_
  refine j_strF C (aR (1000100 + j)) j (by omega) (Or.inr ⟨rfl, rfl, rfl⟩) (ab_t6 (List.mem_of_getElem? (i := 97) rfl) rfl) dJ0_length_8abf5_1 ?_
  refine j_strN C j (by omega) dJ0_length_8abf5_4 ?_
  refine j_aload_n C dJ0_length_8abf5_5 rfl rfl ?_
  refine j_callT C j (by omega) (vs := []) (st := [aI ((ab_tx j).length : Nat)]) cl_J0_335 im_yJ0_coder_7d493 se_yJ0_coder_7d493 (fun _ => (t_coder _ S F A _ (by omega))) rfl rfl ⟨rfl, rfl, by decide, by decide⟩ ⟨by decide, by decide⟩ (fun _ => Nat.le_of_ble_eq_true rfl) (fun v hv => by simp only [List.mem_cons, List.not_mem_nil, or_false] at hv; rcases hv with rfl <;> first | exact trivial) (fun v hv => by simp only [List.mem_cons, List.not_mem_nil, or_false, Option.some.injEq, reduceCtorEq, false_or] at hv; rcases hv with rfl <;> first | exact (lK (by omega))) dJ0_length_8abf5_6 (fun v_6 S_6 F_6 A_6 hP_6 => ?_)
  obtain ⟨rfl, rfl, rfl, rfl⟩ := hP_6
  show ab_J E 1 0 0 S F A 9 [some (aR (1000000 + j))] [aI 0, aI ((ab_tx j).length : Nat)]
  refine j_ishr C dJ0_length_8abf5_9 ?_
  refine j_eq (st' := [aI (((ab_tx j).length : Nat))]) ?_ (e1 := by first | rfl | (simp only [List.cons.injEq, and_true]; exact congrArg aI (ab_shr0 ⟨by omega, by omega⟩)))
  exact j_iret C hr (Nat.le_refl _) (Nat.le_refl _) dJ0_length_8abf5_10 ⟨rfl, rfl, rfl, rfl⟩

set_option maxHeartbeats 4000000 in
set_option maxRecDepth 100000 in
theorem t_charAt (l : Launch) (S : ab_St) (F : ab_Fn) (A : ab_An) (j : Nat) (hj : j < 8) (i : Int) (h0 : 0 ≤ i) (h1 : i < (ab_tx j).length) : ab_Met l yJ0_charAt_5068e cJ0_charAt_5068e 2 (some .char) { frames := 4, cells := 0, slots := 0, locals := 85 } 0 0 [aR (1000000 + j), aI i] S F A (fun v S' F' A' => S = S' ∧ F = F' ∧ A = A' ∧ v = some (aI ((ab_tx j).getD i.toNat 0))) := by
  refine ab_enter (by decide) (by simp [aI, aR, aX, ab_val, Value.category]) (Nat.le_of_ble_eq_true rfl) (fun E C hr => ?_)
  refine j_eq (lv' := [some (aR (1000000 + j)), some (aI i)]) ?_
  have hg := ab_txg hj h0 h1
  refine j_aload_n C dJ0_charAt_5068e_0 rfl rfl ?_
  refine j_callT C j (by omega) (vs := []) (st := []) cl_J0_492 im_yJ0_isLatin1_aae02 se_yJ0_isLatin1_aae02 (fun _ => (t_isLatin1 _ S F A _ (by omega))) rfl rfl ⟨rfl, rfl, by decide, by decide⟩ ⟨by decide, by decide⟩ (fun _ => Nat.le_of_ble_eq_true rfl) (fun v hv => by cases hv) (fun v hv => by simp only [List.mem_cons, List.not_mem_nil, or_false, Option.some.injEq, reduceCtorEq, false_or] at hv; rcases hv with rfl | rfl <;> first | exact (lK (by omega)) | exact trivial) dJ0_charAt_5068e_1 (fun v_1 S_1 F_1 A_1 hP_1 => ?_)
  obtain ⟨rfl, rfl, rfl, rfl⟩ := hP_1
  show ab_J E 2 0 0 S F A 4 [some (aR (1000000 + j)), some (aI i)] [aI 1]
  refine j_if_eq C (tgt := 16) dJ0_charAt_5068e_4 (by decide) ⟨by omega, by omega⟩ (fun c4 => ?_) (fun c4 => ?_)
  · exact absurd c4 (by decide)
  · refine j_aload_n C dJ0_charAt_5068e_7 rfl rfl ?_
    refine j_strF C (aR (1000100 + j)) j (by omega) (Or.inr ⟨rfl, rfl, rfl⟩) (ab_t6 (List.mem_of_getElem? (i := 97) rfl) rfl) dJ0_charAt_5068e_8 ?_
    refine j_iload_n C dJ0_charAt_5068e_11 rfl rfl ?_
    refine j_callS C (vs := [aR (1000100 + j), aI i]) (st := []) cl_J0_495 sc_yJ1_charAt_3b067 (fun _ => (t_charAt1 _ S F A _ (by omega) _ (by omega) (by omega))) rfl ⟨rfl, rfl, by decide, by decide⟩ ⟨by decide, by decide⟩ (fun _ => Nat.le_of_ble_eq_true rfl) (fun v hv => by cases hv) (fun v hv => by simp only [List.mem_cons, List.not_mem_nil, or_false, Option.some.injEq, reduceCtorEq, false_or] at hv; rcases hv with rfl | rfl <;> first | exact (lK (by omega)) | exact trivial) dJ0_charAt_5068e_12 (fun v_12 S_12 F_12 A_12 hP_12 => ?_)
    obtain ⟨rfl, rfl, rfl, rfl⟩ := hP_12
    show ab_J E 2 0 0 S F A 15 [some (aR (1000000 + j)), some (aI i)] [aI ((ab_tx j).getD (i).toNat 0)]
    exact j_zret C hr (ab_ncb hg.1 (by omega)) (Nat.le_refl _) (Nat.le_refl _) dJ0_charAt_5068e_15 ⟨rfl, rfl, rfl, rfl⟩
