set_option maxHeartbeats 4000000 in
set_option maxRecDepth 100000 in
theorem lw_loop {E : ab_E} (C : ab_C E cL_law 7 yL_law room_1) {b L : Nat} {xs : Nat → Int32} (hX : ab_X E b L xs) (hL : L ≤ 3072)
    (fin : ∀ (k n : Nat) S F A (i : Int), k ≤ 601024 → n ≤ 7293034 → ab_J E 7 k n S F A 1181 [some (aX (.ref b)), some (aR 0), some (aR 100), some (aR 90), some (aI (i)), none, none] []) :
    ∀ (N : Nat) (t : Int) (k n : Nat) S F A U nc, 0 ≤ t → 6 * t ≤ L → (k : Int) + 5 * (512 - t) ≤ 601024 → (n : Int) + 345 * (512 - t) ≤ 7293034 → LI S F A U nc t → ((L : Int) - 6 * t).toNat < N → ab_J E 7 k n S F A 23 [some (aX (.ref b)), some (aR 0), some (aR 100), some (aR 90), some (aI (6 * t)), none, none] [] := by
  intro N
  induction N with
  | zero => intro t k n S F A U nc h0 h1 h2 h3 h4 h5; exact absurd h5 (Nat.not_lt_zero _)
  | succ N ih =>
    intro t k n S F A U nc h0 h1 hk hn hI h5
    refine j_iload C dL_law_23 rfl ?_
    refine j_xload_n C dL_law_25 rfl rfl ?_
    refine j_slen C hX dL_law_26 ?_
    refine j_bipush C dL_law_27 rfl ?_
    refine j_isub C dL_law_29 ?_
    refine j_icmp_gt C (tgt := 1181) dL_law_30 (by decide) ⟨by omega, by omega⟩ ⟨by omega, by omega⟩ (fun c30 => ?_) (fun c30 => ?_)
    · exact fin k n S F A (6 * t) (by omega) (by omega)
    have hi : 0 ≤ 6 * t ∧ 6 * t + 6 ≤ L := ⟨by omega, by omega⟩
    have hT : 0 ≤ t ∧ t ≤ 512 := ⟨h0, by omega⟩
    have hk5 : k + 5 ≤ 601024 := by omega
    have hn5 : n + 345 ≤ 7293034 := by omega
    have go : ∀ S2 F2 A2 U2 nc2, LI S2 F2 A2 U2 nc2 (t + 1) → ab_J E 7 (k + 5) (n + 345) S2 F2 A2 1175 [some (aX (.ref b)), some (aR 0), some (aR 100), some (aR 90), some (aI (6 * t)), none, none] [] := by
      intro S2 F2 A2 U2 nc2 h
      refine j_iinc C (lv' := [some (aX (.ref b)), some (aR 0), some (aR 100), some (aR 90), some (aI (6 * t + 6)), none, none]) dL_law_1175 rfl (by decide) rfl ?_
      refine j_goto C (tgt := 23) dL_law_1178 (by decide) ?_
      have q := ih (t + 1) (k + 5) (n + 345) S2 F2 A2 U2 nc2 (by omega) (by omega) (by omega) (by omega) h (by omega)
      rw [show 6 * (t + 1) = 6 * t + 6 by omega] at q
      exact q
    refine j_xload_n C dL_law_33 rfl rfl ?_
    refine j_iload C dL_law_34 rfl ?_
    refine j_sld C hX (j := 6 * t) (by omega) (by omega) (by omega) dL_law_36 ?_
    refine j_bipush C dL_law_37 rfl ?_
    refine j_iand C dL_law_39 ?_
    obtain ⟨z, hz⟩ : ∃ z : Int, z = (Int32.ofInt ((xs (6 * t).toNat).toInt) &&& Int32.ofInt 31).toInt := ⟨_, rfl⟩
    rw [← hz]
    have hr : inR z := by rw [hz]; exact inX _
    have dft : ab_J E 7 k n S F A 1175 [some (aX (.ref b)), some (aR 0), some (aR 100), some (aR 90), some (aI (6 * t)), none, none] [] := j_widen (by omega) (by omega) (go _ _ _ _ _ (hI.to (F' := F) (A' := A) (fun _ _ => rfl) (fun _ _ => rfl) (fun _ _ => rfl)))
    rcases (show z < 0 ∨ 20 < z ∨ z = 0 ∨ z = 1 ∨ z = 2 ∨ z = 3 ∨ z = 4 ∨ z = 5 ∨ z = 6 ∨ z = 7 ∨ z = 8 ∨ z = 9 ∨ z = 10 ∨ z = 11 ∨ z = 12 ∨ z = 13 ∨ z = 14 ∨ z = 15 ∨ z = 16 ∨ z = 17 ∨ z = 18 ∨ z = 19 ∨ z = 20 by omega) with c40 | c40 | c40 | c40 | c40 | c40 | c40 | c40 | c40 | c40 | c40 | c40 | c40 | c40 | c40 | c40 | c40 | c40 | c40 | c40 | c40 | c40 | c40
    · exact j_tableOut C (tgt := 1175) dL_law_40 hr (Or.inl c40) (by decide) dft
    · exact j_tableOut C (tgt := 1175) dL_law_40 hr (Or.inr c40) (by decide) dft
    · exact j_tableIn C (tgt := 140) 0 dL_law_40 c40 ⟨by omega, by omega⟩ (by decide) (by decide) rfl (by decide) (lc_0 C hX hL hk5 hn5 hT hI hi go)
    · exact j_tableIn C (tgt := 213) 1 dL_law_40 c40 ⟨by omega, by omega⟩ (by decide) (by decide) rfl (by decide) (lc_1 C hX hL hk5 hn5 hT hI hi go)
    · exact j_tableIn C (tgt := 238) 2 dL_law_40 c40 ⟨by omega, by omega⟩ (by decide) (by decide) rfl (by decide) (lc_2 C hX hL hk5 hn5 hT hI hi go)
    · exact j_tableIn C (tgt := 310) 3 dL_law_40 c40 ⟨by omega, by omega⟩ (by decide) (by decide) rfl (by decide) (lc_3 C hX hL hk5 hn5 hT hI hi go)
    · exact j_tableIn C (tgt := 374) 4 dL_law_40 c40 ⟨by omega, by omega⟩ (by decide) (by decide) rfl (by decide) (lc_4 C hX hL hk5 hn5 hT hI hi go)
    · exact j_tableIn C (tgt := 442) 5 dL_law_40 c40 ⟨by omega, by omega⟩ (by decide) (by decide) rfl (by decide) (lc_5 C hX hL hk5 hn5 hT hI hi go)
    · exact j_tableIn C (tgt := 498) 6 dL_law_40 c40 ⟨by omega, by omega⟩ (by decide) (by decide) rfl (by decide) (lc_6 C hX hL hk5 hn5 hT hI hi go)
    · exact j_tableIn C (tgt := 566) 7 dL_law_40 c40 ⟨by omega, by omega⟩ (by decide) (by decide) rfl (by decide) (lc_7 C hX hL hk5 hn5 hT hI hi go)
    · exact j_tableIn C (tgt := 634) 8 dL_law_40 c40 ⟨by omega, by omega⟩ (by decide) (by decide) rfl (by decide) (lc_8 C hX hL hk5 hn5 hT hI hi go)
    · exact j_tableIn C (tgt := 702) 9 dL_law_40 c40 ⟨by omega, by omega⟩ (by decide) (by decide) rfl (by decide) (lc_9 C hX hL hk5 hn5 hT hI hi go)
    · exact j_tableIn C (tgt := 715) 10 dL_law_40 c40 ⟨by omega, by omega⟩ (by decide) (by decide) rfl (by decide) (lc_10 C hX hL hk5 hn5 hT hI hi go)
    · exact j_tableIn C (tgt := 768) 11 dL_law_40 c40 ⟨by omega, by omega⟩ (by decide) (by decide) rfl (by decide) (lc_11 C hX hL hk5 hn5 hT hI hi go)
    · exact j_tableIn C (tgt := 781) 12 dL_law_40 c40 ⟨by omega, by omega⟩ (by decide) (by decide) rfl (by decide) (lc_12 C hX hL hk5 hn5 hT hI hi go)
    · exact j_tableIn C (tgt := 825) 13 dL_law_40 c40 ⟨by omega, by omega⟩ (by decide) (by decide) rfl (by decide) (lc_13 C hX hL hk5 hn5 hT hI hi go)
    · exact j_tableIn C (tgt := 838) 14 dL_law_40 c40 ⟨by omega, by omega⟩ (by decide) (by decide) rfl (by decide) (lc_14 C hX hL hk5 hn5 hT hI hi go)
    · exact j_tableIn C (tgt := 901) 15 dL_law_40 c40 ⟨by omega, by omega⟩ (by decide) (by decide) rfl (by decide) (lc_15 C hX hL hk5 hn5 hT hI hi go)
    · exact j_tableIn C (tgt := 976) 16 dL_law_40 c40 ⟨by omega, by omega⟩ (by decide) (by decide) rfl (by decide) (lc_16 C hX hL hk5 hn5 hT hI hi go)
    · exact j_tableIn C (tgt := 1032) 17 dL_law_40 c40 ⟨by omega, by omega⟩ (by decide) (by decide) rfl (by decide) (lc_17 C hX hL hk5 hn5 hT hI hi go)
    · exact j_tableIn C (tgt := 1057) 18 dL_law_40 c40 ⟨by omega, by omega⟩ (by decide) (by decide) rfl (by decide) (lc_18 C hX hL hk5 hn5 hT hI hi go)
    · exact j_tableIn C (tgt := 1137) 19 dL_law_40 c40 ⟨by omega, by omega⟩ (by decide) (by decide) rfl (by decide) (lc_19 C hX hL hk5 hn5 hT hI hi go)
    · exact j_tableIn C (tgt := 1150) 20 dL_law_40 c40 ⟨by omega, by omega⟩ (by decide) (by decide) rfl (by decide) (lc_20 C hX hL hk5 hn5 hT hI hi go)

theorem shC_out {i : Nat} (h : 28 < i) : ab_shC i = none := by
  unfold ab_shC
  split <;> first | rfl | omega
theorem rowsM_ne {i : Nat} (h : i ∈ rowsM) : i ≠ 90 := fun e => by subst e; revert h; decide
def lw_S0 : ab_St := fun _ => none
theorem lw_LI {S : ab_St} {F : ab_Fn} {A : ab_An} (hSC : ab_SC S) (hSM : ab_SM S) (h90 : S 90 = some (sA .long 1)) (h2 : S 2 = some (sC 0 (slL (1000200 + 2)))) (h3 : S 3 = some (sC 0 (slL (1000200 + 2)))) (hfr : ∀ i, 137 < i → S i = none) (f1 : F 0 10 = 0 ∧ F 0 11 = 0 ∧ F 0 12 = -1 ∧ F 2 2 = 0 ∧ F 3 2 = 0 ∧ F 4 1 = 0) (f2 : F 100 31 = -1) (f3 : ∀ k, k ≠ 31 → F 100 k = 0) (a1 : ∀ k, A 11 k = 0 ∧ A 12 k = 0 ∧ A 13 k = 0 ∧ A 14 k = if 0 ≤ k ∧ k < 280 then 1 else 0) (a2 : ∀ i, i ∈ rowsM → ∀ j, A i j = if i = 104 ∧ 0 ≤ j ∧ j < 280 then 1 else 0) : LI S F A (fun _ => bnew 0 1) (fun _ => 0) 0 := by
  obtain ⟨g1, g2, g3, g4, g5, g6⟩ := f1
  have r101 : ∀ j, A 101 j = 0 := fun j => by rw [a2 101 (by decide) j, if_neg (by omega)]
  have r102 : ∀ j, A 102 j = 0 := fun j => by rw [a2 102 (by decide) j, if_neg (by omega)]
  have r103 : ∀ j, A 103 j = 0 := fun j => by rw [a2 103 (by decide) j, if_neg (by omega)]
  have r104 : ∀ j, A 104 j = if 0 ≤ j ∧ j < 280 then 1 else 0 := fun j => by
    rw [a2 104 (by decide) j]
    by_cases q : 0 ≤ j ∧ j < 280
    · rw [if_pos ⟨rfl, q⟩, if_pos q]
    · rw [if_neg (fun y => q y.2), if_neg q]
  have r116 : ∀ j, A 116 j = 0 := fun j => by rw [a2 116 (by decide) j, if_neg (by omega)]
  have r117 : ∀ j, A 117 j = 0 := fun j => by rw [a2 117 (by decide) j, if_neg (by omega)]
  refine ⟨⟨hSC, hSM, h90⟩, ?_, ?_, ?_, ?_, ?_⟩
  · unfold LB
    rw [g4, f3 11 (by decide)]
    exact ⟨⟨fun b hb => by omega, _, h2, fun q => absurd q (by decide), fun _ => rfl, fun q => absurd q (by decide)⟩, by decide, rfl, fun b z1 z2 => by omega, fun b _ _ => ⟨hfr _ (by omega), hfr _ (by omega)⟩, fun _ => hfr _ (by decide), hfr _ (by decide)⟩
  · unfold LW
    rw [g5, f3 18 (by decide)]
    exact ⟨⟨fun w hw => by omega, _, 0, h3, ⟨by decide, by decide⟩, fun q => absurd q (by decide), fun _ => rfl, fun q => absurd q (by decide)⟩, by decide, rfl, fun w z1 z2 => by omega, fun w _ _ => ⟨hfr _ (by omega), hfr _ (by omega), hfr _ (by omega), hfr _ (by omega), hfr _ (by omega)⟩, fun w _ _ => by rw [r116, r117]; exact ⟨⟨by decide, by decide⟩, ⟨by decide, by decide⟩⟩⟩
  · unfold LT
    rw [g6, f3 26 (by decide)]
    exact ⟨rfl, by decide, fun i z1 z2 => by omega⟩
  · refine ⟨⟨funext fun k => by rw [r101, (a1 k).1], funext fun k => by rw [r102, (a1 k).2.1], funext fun k => by rw [r103, (a1 k).2.2.1], funext fun k => by rw [r104, (a1 k).2.2.2]⟩, fun k z1 z2 => ?_⟩
    rw [(a1 k).1, (a1 k).2.1, (a1 k).2.2.1, (a1 k).2.2.2, if_pos ⟨z1, z2⟩]
    omega
  · unfold LF
    rw [g1, g2, g3, f2, f3 5 (by decide), f3 12 (by decide)]
    exact ⟨rfl, by decide, rfl, by decide, rfl, ⟨by decide, by decide⟩⟩

set_option maxHeartbeats 4000000 in
set_option maxRecDepth 100000 in
theorem lw_begin {E : ab_E} (C : ab_C E cL_law 7 yL_law room_1) {b L : Nat} {xs : Nat → Int32} (hX : ab_X E b L xs) (hL : L ≤ 3072)
    (fin : ∀ (k n : Nat) S F A (i : Int), k ≤ 601024 → n ≤ 7293034 → ab_J E 7 k n S F A 1181 [some (aX (.ref b)), some (aR 0), some (aR 100), some (aR 90), some (aI (i)), none, none] []) : ab_J E 7 0 0 lw_S0 (fun _ _ => 0) (fun _ _ => 0) 0 [some (aX (.ref b)), none, none, none, none, none, none] [] := by
  refine j_new C (ci := 10) 0 sl0_X9 rfl in_X9 tyX9 tyX9_ok (ab_t1 (List.mem_of_getElem? (i := 32) rfl) rfl) (ab_t1 (List.mem_of_getElem? (i := 33) rfl) rfl) (ab_t1 (List.mem_of_getElem? (i := 1) rfl) rfl) sl0_X9_d sl0_X9_m rfl (by decide) (Nat.le_of_ble_eq_true rfl) (Nat.le_of_ble_eq_true rfl) (fun v hv => by cases hv) (fun v hv => by simp only [List.mem_cons, List.not_mem_nil, or_false, Option.some.injEq, reduceCtorEq, false_or] at hv; rcases hv with rfl <;> first | exact trivial) dL_law_0 ?_
  refine j_dup C dL_law_3 (fun _ => rfl) ?_
  refine j_callI C (vs := []) (st := [aR 0]) cl_L_63 im_yX9_init rfl (fun _ => c_init _ (upS lw_S0 0 (sC 10 sl0_X9)) _ _ rfl (fun i z1 z2 => (upS_ne (by omega)).trans rfl)) rfl ⟨rfl, rfl, by decide, by decide⟩ ⟨by decide, by decide⟩ (fun _ => Nat.le_of_ble_eq_true rfl) (fun v hv => by simp only [List.mem_cons, List.not_mem_nil, or_false] at hv; rcases hv with rfl <;> first | exact trivial | exact Or.inl (by rw [upS_at]; simp)) (fun v hv => by simp only [List.mem_cons, List.not_mem_nil, or_false, Option.some.injEq, reduceCtorEq, false_or] at hv; rcases hv with rfl <;> first | exact trivial) dL_law_4 (fun v1 S1 F1 A1 hP1 => ?_)
  obtain ⟨rfl, s1, s2, s3, s4, s5, s6, s7, s8, s9⟩ := hP1
  show ab_J E 7 (0 + 1 + 28) (0 + 13 + 3700) S1 F1 A1 7 [some (aX (.ref b)), none, none, none, none, none, none] [aR 0]
  refine j_astore_n C (lv' := [some (aX (.ref b)), some (aR 0), none, none, none, none, none]) dL_law_7 rfl (by decide) rfl ?_
  refine j_new C (ci := 11) 100 sl0_X10 rfl in_X10 tyX10 tyX10_ok (ab_t4 (List.mem_of_getElem? (i := 223) rfl) rfl) (ab_t4 (List.mem_of_getElem? (i := 224) rfl) rfl) (ab_t1 (List.mem_of_getElem? (i := 13) rfl) rfl) sl0_X10_d sl0_X10_m ((s4 100 (by decide)).trans rfl) (by decide) (Nat.le_of_ble_eq_true rfl) (Nat.le_of_ble_eq_true rfl) (fun v hv => by cases hv) (fun v hv => by simp only [List.mem_cons, List.not_mem_nil, or_false, Option.some.injEq, reduceCtorEq, false_or] at hv; rcases hv with rfl | rfl <;> first | exact trivial | exact (lS (sC_0 s1))) dL_law_8 ?_
  refine j_dup C dL_law_11 (fun _ => rfl) ?_
  have n1 : ∀ i, i ≠ 100 → (upS S1 100 (sC 11 sl0_X10)) i = S1 i := fun i z => upS_ne z
  refine j_callI C (vs := []) (st := [aR 100]) cl_L_66 im_yX10_init rfl (fun _ => m_init _ (upS S1 100 (sC 11 sl0_X10)) _ _ (upS_at _ _ _) (fun i z1 z2 => (n1 i (by omega)).trans ((s4 i (by omega)).trans ((upS_ne (by omega)).trans rfl)))) rfl ⟨rfl, rfl, by decide, by decide⟩ ⟨by decide, by decide⟩ (fun _ => Nat.le_of_ble_eq_true rfl) (fun v hv => by simp only [List.mem_cons, List.not_mem_nil, or_false] at hv; rcases hv with rfl <;> first | exact trivial | exact Or.inl (by rw [upS_at]; simp)) (fun v hv => by simp only [List.mem_cons, List.not_mem_nil, or_false, Option.some.injEq, reduceCtorEq, false_or] at hv; rcases hv with rfl | rfl <;> first | exact trivial | exact (lS ((n1 0 (by decide)).trans (sC_0 s1)))) dL_law_12 (fun v2 S2 F2 A2 hP2 => ?_)
  obtain ⟨rfl, t1, t2, rfl, t4, t5⟩ := hP2
  have hSC : ab_SC S2 := fun i hi => by
    have hi28 : i ≤ 28 := Nat.not_lt.mp (fun q => hi (shC_out q))
    rw [t2 i (by omega), n1 i (by omega)]; exact s1 i hi
  have o2 : ∀ i, i < 100 → S2 i = S1 i := fun i z => (t2 i (by omega)).trans (n1 i (by omega))
  have o3 : ∀ i, 137 < i → S2 i = none := fun i z => (t2 i (by omega)).trans ((n1 i (by omega)).trans ((s4 i (by omega)).trans ((upS_ne (by omega)).trans rfl)))
  refine j_eq (F' := upF (zF F1 100) 100 31 (-1)) ?_
  refine j_astore_n C (lv' := [some (aX (.ref b)), some (aR 0), some (aR 100), none, none, none, none]) dL_law_15 rfl (by decide) rfl ?_
  refine j_iconst C dL_law_16 ?_
  refine j_newa C (atype := .long) (ty := .long) (N := 1) 90 3 rfl (fun _ => rfl) (fun _ _ h => h) rfl (ab_t6 (List.mem_of_getElem? (i := 68) rfl) rfl) rfl (by decide) (by decide) ((o2 90 (by decide)).trans ((s4 90 (by decide)).trans rfl)) (by decide) (Nat.le_of_ble_eq_true rfl) (Nat.le_of_ble_eq_true rfl) (fun v hv => by cases hv) (fun v hv => by simp only [List.mem_cons, List.not_mem_nil, or_false, Option.some.injEq, reduceCtorEq, false_or] at hv; rcases hv with rfl | rfl | rfl <;> first | exact trivial | exact (lS (sC_0 hSC)) | exact (lS (sM_100 t1))) dL_law_17 ?_
  refine j_astore_n C (lv' := [some (aX (.ref b)), some (aR 0), some (aR 100), some (aR 90), none, none, none]) dL_law_19 rfl (by decide) rfl ?_
  refine j_iconst C dL_law_20 ?_
  refine j_istore C (lv' := [some (aX (.ref b)), some (aR 0), some (aR 100), some (aR 90), some (aI (0)), none, none]) dL_law_21 (by decide) rfl ?_
  have hI := lw_LI (S := upS S2 90 (sA .long 1)) (F := upF (zF F1 100) 100 31 (-1)) (A := zA A2 90) (SC_to hSC (fun j z1 z2 z3 => upS_ne (by omega))) (fun i z1 z2 z3 => by rw [upS_ne (by omega)]; exact t1 i z1 z2 z3) (upS_at _ _ _) (by rw [upS_ne (by decide), o2 2 (by decide)]; exact s2) (by rw [upS_ne (by decide), o2 3 (by decide)]; exact s3) (fun i z => by rw [upS_ne (by omega)]; exact o3 i z) s5 (upF_at _ _ _ _) (fun k z => by rw [upF_ne z]; simp [zF])
    (fun k => by rw [zA_ne (by decide), zA_ne (by decide), zA_ne (by decide), zA_ne (by decide), t4 11 (by omega), t4 12 (by omega), t4 13 (by omega), t4 14 (by omega)]; exact s8 k) (fun i z j => by rw [zA_ne (rowsM_ne z)]; exact t5 i z j)
  exact lw_loop C hX hL fin ((L : Int) - 6 * 0).toNat.succ 0 _ _ _ _ _ _ _ (by decide) (by omega) (by decide) (by decide) hI (Nat.lt_succ_self _)
