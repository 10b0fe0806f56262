/-- j lies beside k (straight: e = 5, slantwise: e = 7) -/
def nbr (k j e : Int) : Prop := ∃ d : Int, 0 ≤ d ∧ d < 9 ∧ ¬ d = 4 ∧ (0 ≤ k % 20 + d % 3 - 1 ∧ k % 20 + d % 3 - 1 < 20 ∧ 0 ≤ k / 20 + d / 3 - 1 ∧ k / 20 + d / 3 - 1 < 14) ∧ j = 20 * (k / 20 + d / 3 - 1) + (k % 20 + d % 3 - 1) ∧ e = (if d % 2 = 1 then 5 else 7)
theorem nbr_rng {k j e : Int} (h : nbr k j e) : 0 ≤ j ∧ j < 280 ∧ 5 ≤ e ∧ e ≤ 7 := by
  obtain ⟨d, h1, h2, h3, h4, h5, h6⟩ := h
  refine ⟨by omega, by omega, ?_, ?_⟩ <;> rw [h6] <;> split <;> omega
theorem lsd_le_0 {f : Int → Int} {s : Int} : ∀ n : Nat, lsd f s n ≤ f s
  | 0 => Int.le_refl _
  | n + 1 => by
    have h := lsd_le_0 (f := f) (s := s) n
    simp only [lsd]
    split
    · generalize (f (20 * (s / 20 + (n : Int) / 3 - 1) + (s % 20 + (n : Int) % 3 - 1)) + (if (n : Int) % 2 = 1 then 5 else 7)) = q; omega
    · exact h
theorem lsd_le_n {f : Int → Int} {s j e : Int} {d : Int} (h1 : 0 ≤ d) (h3 : ¬ d = 4) (h4 : 0 ≤ s % 20 + d % 3 - 1 ∧ s % 20 + d % 3 - 1 < 20 ∧ 0 ≤ s / 20 + d / 3 - 1 ∧ s / 20 + d / 3 - 1 < 14) (h5 : j = 20 * (s / 20 + d / 3 - 1) + (s % 20 + d % 3 - 1)) (h6 : e = (if d % 2 = 1 then 5 else 7)) : ∀ n : Nat, d < n → lsd f s n ≤ f j + e
  | 0, h => by omega
  | n + 1, h => by
    by_cases q : d = n
    · simp only [lsd]
      rw [← q, if_pos ⟨h3, h4⟩, ← h5, ← h6]
      omega
    · have ih := lsd_le_n (f := f) h1 h3 h4 h5 h6 n (by omega)
      simp only [lsd]
      split
      · generalize (f (20 * (s / 20 + (n : Int) / 3 - 1) + (s % 20 + (n : Int) % 3 - 1)) + (if (n : Int) % 2 = 1 then 5 else 7)) = q; omega
      · exact ih
theorem lsd_le {f : Int → Int} {s j e : Int} (h : nbr s j e) : lsd f s 9 ≤ f j + e := by
  obtain ⟨d, h1, h2, h3, h4, h5, h6⟩ := h
  exact lsd_le_n h1 h3 h4 h5 h6 9 (by omega)
theorem lsd_att {f : Int → Int} {s : Int} : ∀ n : Nat, n ≤ 9 → lsd f s n = f s ∨ ∃ j e, nbr s j e ∧ lsd f s n = f j + e
  | 0, _ => Or.inl rfl
  | n + 1, hn => by
    have ih := lsd_att (f := f) (s := s) n (by omega)
    simp only [lsd]
    split
    · rename_i q
      have key : nbr s (20 * (s / 20 + (n : Int) / 3 - 1) + (s % 20 + (n : Int) % 3 - 1)) (if (n : Int) % 2 = 1 then 5 else 7) := ⟨n, by omega, by omega, q.1, q.2, rfl, rfl⟩
      generalize (20 * (s / 20 + (n : Int) / 3 - 1) + (s % 20 + (n : Int) % 3 - 1)) = j at key ⊢
      generalize (if (n : Int) % 2 = 1 then (5 : Int) else 7) = e at key ⊢
      by_cases c : lsd f s n ≤ f j + e
      · have : min (lsd f s n) (f j + e) = lsd f s n := by omega
        rw [this]; exact ih
      · have : min (lsd f s n) (f j + e) = f j + e := by omega
        rw [this]; exact Or.inr ⟨j, e, key, rfl⟩
    · exact ih
/-- a way of n steps from a to k over open squares, of length c -/
def pth (op : Int → Prop) (a : Int) : Nat → Int → Int → Prop
  | 0, k, c => k = a ∧ c = 0
  | n + 1, k, c => ∃ j e c', pth op a n j c' ∧ nbr k j e ∧ op k ∧ c = c' + e
def pathC (op : Int → Prop) (a k c : Int) : Prop := ∃ n, pth op a n k c
theorem pathC_0 {op : Int → Prop} {a : Int} : pathC op a a 0 := ⟨0, rfl, rfl⟩
theorem pathC_step {op : Int → Prop} {a j k c e : Int} (h : pathC op a j c) (hn : nbr k j e) (hk : op k) : pathC op a k (c + e) := by
  obtain ⟨n, h⟩ := h
  exact ⟨n + 1, j, e, c, h, hn, hk, rfl⟩
theorem pth_nonneg {op : Int → Prop} {a : Int} : ∀ (n : Nat) (k c : Int), pth op a n k c → 0 ≤ c
  | 0, _, _, h => by rw [h.2]; exact Int.le_refl _
  | n + 1, k, c, ⟨j, e, c', h1, h2, _, h4⟩ => by
    have := pth_nonneg n j c' h1
    have := nbr_rng h2
    omega
theorem pth_cong {op op' : Int → Prop} {a : Int} (h : ∀ k, 0 ≤ k → k < 280 → (op k ↔ op' k)) (hop : ∀ k, op k → 0 ≤ k ∧ k < 280) : ∀ (n : Nat) (k c : Int), pth op a n k c → pth op' a n k c
  | 0, _, _, h => h
  | n + 1, k, c, ⟨j, e, c', h1, h2, h3, h4⟩ => ⟨j, e, c', pth_cong h hop n j c' h1, h2, (h k (hop k h3).1 (hop k h3).2).mp h3, h4⟩
/-- what the rows of the search hold at any time -/
def WI (far : Int → Int) (op : Int → Prop) (a : Int) : Prop := (∀ k, 0 ≤ k → k < 280 → 0 ≤ far k ∧ far k ≤ 1000000) ∧ far a = 0 ∧ (∀ k, 0 ≤ k → k < 280 → far k < 1000000 → pathC op a k (far k)) ∧ ∀ k, 0 ≤ k → k < 280 → ¬ op k → far k = 1000000
theorem lsd_nonneg {f : Int → Int} {s : Int} (h : ∀ k, 0 ≤ k → k < 280 → 0 ≤ f k) (h0 : 0 ≤ s ∧ s < 280) : 0 ≤ lsd f s 9 := by
  rcases lsd_att (f := f) (s := s) 9 (by decide) with e | ⟨j, e, h1, h2⟩
  · rw [e]; exact h s h0.1 h0.2
  · have h3 := nbr_rng h1
    have h4 := h j h3.1 h3.2.1
    omega
theorem WI_up {A : ab_An} {op : Int → Prop} {a k : Int} (h : WI (A 136) op a) (ha : op a) (hk : 0 ≤ k ∧ k < 280) (ho : op k) (hl : lsd (A 136) k 9 < A 136 k) : WI (upA A 136 k (lsd (A 136) k 9) 136) op a := by
  obtain ⟨h1, h2, h3, h4⟩ := h
  have hn := lsd_nonneg (f := A 136) (fun k a b => (h1 k a b).1) hk
  have hne : a ≠ k := fun e => by rw [← e, h2] at hl; rw [← e] at hn; omega
  refine ⟨fun j q1 q2 => ?_, ?_, fun j q1 q2 q3 => ?_, fun j q1 q2 q3 => ?_⟩
  · rw [upA_if]; split
    · have := h1 k hk.1 hk.2; omega
    · exact h1 j q1 q2
  · rw [upA_ne hne]; exact h2
  · rw [upA_if] at q3 ⊢
    by_cases e : j = k
    · rw [if_pos e] at q3 ⊢
      rw [e]
      rcases lsd_att (f := A 136) (s := k) 9 (by decide) with e2 | ⟨i, ee, e1, e2⟩
      · omega
      · have r := nbr_rng e1
        rw [e2] at q3 ⊢
        exact pathC_step (h3 i r.1 r.2.1 (by omega)) e1 ho
    · rw [if_neg e] at q3 ⊢
      exact h3 j q1 q2 q3
  · rw [upA_if, if_neg (fun e => by rw [e] at q3; exact q3 ho)]; exact h4 j q1 q2 q3
theorem sm_upA {A : ab_An} {i : Nat} {j v : Int} : ∀ {n : Nat}, 0 ≤ j → j < n → sm (upA A i j v i) n = sm (A i) n - A i j + v
  | 0, h1, h2 => by omega
  | n + 1, h1, h2 => by
    by_cases q : j = n
    · simp only [sm]
      have e : sm (upA A i j v i) n = sm (A i) n := sm_cong (fun k a b => upA_ne (by omega))
      rw [e, ← q, upA_at]; omega
    · simp only [sm]
      rw [sm_upA h1 (by omega), upA_ne (by omega)]; omega
theorem WI_least {far : Int → Int} {op : Int → Prop} {a : Int} (h : WI far op a) (hf : ∀ k, 0 ≤ k → k < 280 → op k → far k ≤ lsd far k 9) : ∀ (n : Nat) (k c : Int), 0 ≤ k → k < 280 → pth op a n k c → far k ≤ c
  | 0, k, c, _, _, p => by rw [p.1, h.2.1, p.2]; exact Int.le_refl _
  | n + 1, k, c, h0, h1, ⟨j, e, c', p1, p2, p3, p4⟩ => by
    have r := nbr_rng p2
    have := WI_least h hf n j c' r.1 r.2.1 p1
    have := hf k h0 h1 p3
    have := lsd_le (f := far) p2
    omega
/-- a way's answer -/
def WR (op : Int → Prop) (a b r : Int) : Prop := (r = -1 ∧ (¬ op a ∨ ¬ op b ∨ ∀ c, pathC op a b c → 1000000 ≤ c)) ∨ (op a ∧ op b ∧ 0 ≤ r ∧ pathC op a b r ∧ ∀ c, pathC op a b c → r ≤ c)
/-- a square is shut, by land or by one of the first n warnings -/
def SHm (A : ab_An) (st k n : Int) : Prop := ¬ A 101 k = 0 ∨ exB (fun w => (A 116 w ≤ st ∧ (A 117 w < 0 ∨ st < A 117 w)) ∧ wIn (fun x => A 113 (40 * w + x)) (fun x => A 114 (40 * w + x)) (A 115 w) k = 1) n
def opM (A : ab_An) (st n k : Int) : Prop := (0 ≤ k ∧ k < 280) ∧ ¬ SHm A st k n
theorem SHm_0 {A : ab_An} {st k z : Int} (h : A 101 k = 0 ∨ A 101 k = 1) (hz : z = A 101 k) : zb z (SHm A st k 0) := by
  rcases h with h | h
  · refine Or.inr ⟨by omega, fun q => ?_⟩
    rcases q with q | q
    · exact q h
    · exact exB_0 q
  · exact Or.inl ⟨by omega, Or.inl (by omega)⟩
theorem wIn_01 {X Y : Int → Int} {n k : Int} : wIn X Y n k = 0 ∨ wIn X Y n k = 1 := by unfold wIn; omega

set_option maxHeartbeats 4000000 in
set_option maxRecDepth 100000 in
theorem m_way (l : Launch) (S : ab_St) (F : ab_Fn) (A : ab_An) (hS : ab_SM S) (a b st : Int) (ra : inR a) (rb : inR b) (rst : inR st) (hw : 0 ≤ F 100 18 ∧ F 100 18 ≤ 40) (hl : ∀ k, 0 ≤ k → k < 280 → A 101 k = 0 ∨ A 101 k = 1) (hv : ∀ w, 0 ≤ w → w < F 100 18 → (inR (A 116 w) ∧ inR (A 117 w)) ∧ (1 ≤ A 115 w ∧ A 115 w ≤ 40) ∧ ∀ k, 0 ≤ k → k < A 115 w → 0 ≤ A 113 (40 * w + k) ∧ A 113 (40 * w + k) ≤ 20 ∧ 0 ≤ A 114 (40 * w + k) ∧ A 114 (40 * w + k) ≤ 14) : ab_Met l yX10_way cX10_way 7 (some .int) { frames := 2, cells := 0, slots := 0, locals := 55 } 0 0 [aR 100, aI a, aI b, aI st] S F A (fun v S' F' A' => S = S' ∧ ∃ t r : Int, v = some (aI r) ∧ F' = upF F 100 0 t ∧ ((t = 1 ∧ ¬ ((0 ≤ a ∧ a ≤ 279) ∧ (0 ≤ b ∧ b ≤ 279)) ∧ A = A') ∨ (t = 0 ∧ (0 ≤ a ∧ a ≤ 279) ∧ (0 ≤ b ∧ b ≤ 279) ∧ WR (opM A st (F 100 18)) a b r ∧ ∀ i, i ≠ 135 → i ≠ 136 → A' i = A i))) := by
  refine ab_enter (by decide) (by simp [aI, aR, aX, ab_val, Value.category]) (Nat.le_of_ble_eq_true rfl) (fun E C hr => ?_)
  refine j_eq (lv' := [some (aR 100), some (aI a), some (aI b), some (aI st), none, none, none]) ?_
  refine j_aload_n C dX10_way_0 rfl rfl ?_
  refine j_iconst C dX10_way_1 ?_
  refine j_putI C fp_X10_3 (sM_100 hS) rfl dX10_way_2 ?_
  refine j_aload_n C dX10_way_5 rfl rfl ?_
  refine j_iload_n C dX10_way_6 rfl rfl ?_
  refine j_callS C (vs := [aI a]) (st := [aR 100]) cl_X10_107 sc_yX10_noSquare (fun _ => m_noSquare _ S (upF F 100 0 0) A hS _ ra) rfl ⟨rfl, rfl, by decide, by decide⟩ ⟨by decide, by decide⟩ (fun _ => Nat.le_of_ble_eq_true rfl) (fun v hv => by simp only [List.mem_cons, List.not_mem_nil, or_false] at hv; rcases hv with rfl <;> first | exact (lM_100 hS)) (fun v hv => by simp only [List.mem_cons, List.not_mem_nil, or_false, Option.some.injEq, reduceCtorEq, false_or] at hv; rcases hv with rfl | rfl | rfl | rfl <;> first | exact (lM_100 hS) | exact trivial) dX10_way_7 (fun v_7 S_7 F_7 A_7 hP_7 => ?_)
  obtain ⟨rfl, rfl, rfl, z_7, rfl, ⟨rfl, hz_7⟩ | ⟨rfl, hz_7⟩⟩ := hP_7
  · show ab_J E 7 0 0 S (upF F 100 0 0) A 10 [some (aR 100), some (aI a), some (aI b), some (aI st), none, none, none] [aI 1, aR 100]
    refine j_if_ne C (tgt := 20) dX10_way_10 (by decide) ⟨by omega, by omega⟩ (fun c10 => ?_) (fun c10 => ?_)
    · refine j_iconst C dX10_way_20 ?_
      refine j_goto C (tgt := 25) dX10_way_21 (by decide) ?_
      refine j_iconst C dX10_way_25 ?_
      refine j_callV C (vs := [aI 1, aI 1]) (st := []) cl_X10_111 im_yX10_throwsIf se_yX10_throwsIf (fun _ => m_throwsIf1 _ S (upF F 100 0 0) A hS _) (sM_100 hS) rfl rfl rfl ⟨rfl, rfl, by decide, by decide⟩ ⟨by decide, by decide⟩ (fun _ => Nat.le_of_ble_eq_true rfl) (fun v hv => by cases hv) (fun v hv => by simp only [List.mem_cons, List.not_mem_nil, or_false, Option.some.injEq, reduceCtorEq, false_or] at hv; rcases hv with rfl | rfl | rfl | rfl <;> first | exact (lM_100 hS) | exact trivial) dX10_way_26 (fun v_26 S_26 F_26 A_26 hP_26 => ?_)
      obtain ⟨rfl, rfl, rfl, rfl⟩ := hP_26
      show ab_J E 7 0 0 S (upF (upF F 100 0 0) 100 0 1) A 29 [some (aR 100), some (aI a), some (aI b), some (aI st), none, none, none] [aI 1]
      refine j_if_eq C (tgt := 34) dX10_way_29 (by decide) ⟨by omega, by omega⟩ (fun c29 => ?_) (fun c29 => ?_)
      · exact absurd c29 (by decide)
      · refine j_iconst C dX10_way_32 ?_
        exact j_iret C hr (Nat.le_refl _) (Nat.le_refl _) dX10_way_33 ⟨rfl, 1, _, rfl, (by first | rfl | exact upF_up _ _ _ _ _), Or.inl ⟨rfl, by omega, rfl⟩⟩
    · exact absurd c10 (by decide)
  · show ab_J E 7 0 0 S (upF F 100 0 0) A 10 [some (aR 100), some (aI a), some (aI b), some (aI st), none, none, none] [aI 0, aR 100]
    refine j_if_ne C (tgt := 20) dX10_way_10 (by decide) ⟨by omega, by omega⟩ (fun c10 => ?_) (fun c10 => ?_)
    · exact absurd c10 (by decide)
    · refine j_iload_n C dX10_way_13 rfl rfl ?_
      refine j_callS C (vs := [aI b]) (st := [aR 100]) cl_X10_107 sc_yX10_noSquare (fun _ => m_noSquare _ S (upF F 100 0 0) A hS _ rb) rfl ⟨rfl, rfl, by decide, by decide⟩ ⟨by decide, by decide⟩ (fun _ => Nat.le_of_ble_eq_true rfl) (fun v hv => by simp only [List.mem_cons, List.not_mem_nil, or_false] at hv; rcases hv with rfl <;> first | exact (lM_100 hS)) (fun v hv => by simp only [List.mem_cons, List.not_mem_nil, or_false, Option.some.injEq, reduceCtorEq, false_or] at hv; rcases hv with rfl | rfl | rfl | rfl <;> first | exact (lM_100 hS) | exact trivial) dX10_way_14 (fun v_14 S_14 F_14 A_14 hP_14 => ?_)
      obtain ⟨rfl, rfl, rfl, z_14, rfl, ⟨rfl, hz_14⟩ | ⟨rfl, hz_14⟩⟩ := hP_14
      · show ab_J E 7 0 0 S (upF F 100 0 0) A 17 [some (aR 100), some (aI a), some (aI b), some (aI st), none, none, none] [aI 1, aR 100]
        refine j_if_eq C (tgt := 24) dX10_way_17 (by decide) ⟨by omega, by omega⟩ (fun c17 => ?_) (fun c17 => ?_)
        · exact absurd c17 (by decide)
        · refine j_iconst C dX10_way_20 ?_
          refine j_goto C (tgt := 25) dX10_way_21 (by decide) ?_
          refine j_iconst C dX10_way_25 ?_
          refine j_callV C (vs := [aI 1, aI 1]) (st := []) cl_X10_111 im_yX10_throwsIf se_yX10_throwsIf (fun _ => m_throwsIf1 _ S (upF F 100 0 0) A hS _) (sM_100 hS) rfl rfl rfl ⟨rfl, rfl, by decide, by decide⟩ ⟨by decide, by decide⟩ (fun _ => Nat.le_of_ble_eq_true rfl) (fun v hv => by cases hv) (fun v hv => by simp only [List.mem_cons, List.not_mem_nil, or_false, Option.some.injEq, reduceCtorEq, false_or] at hv; rcases hv with rfl | rfl | rfl | rfl <;> first | exact (lM_100 hS) | exact trivial) dX10_way_26 (fun v_26 S_26 F_26 A_26 hP_26 => ?_)
          obtain ⟨rfl, rfl, rfl, rfl⟩ := hP_26
          show ab_J E 7 0 0 S (upF (upF F 100 0 0) 100 0 1) A 29 [some (aR 100), some (aI a), some (aI b), some (aI st), none, none, none] [aI 1]
          refine j_if_eq C (tgt := 34) dX10_way_29 (by decide) ⟨by omega, by omega⟩ (fun c29 => ?_) (fun c29 => ?_)
          · exact absurd c29 (by decide)
          · refine j_iconst C dX10_way_32 ?_
            exact j_iret C hr (Nat.le_refl _) (Nat.le_refl _) dX10_way_33 ⟨rfl, 1, _, rfl, (by first | rfl | exact upF_up _ _ _ _ _), Or.inl ⟨rfl, by omega, rfl⟩⟩
      · show ab_J E 7 0 0 S (upF F 100 0 0) A 17 [some (aR 100), some (aI a), some (aI b), some (aI st), none, none, none] [aI 0, aR 100]
        refine j_if_eq C (tgt := 24) dX10_way_17 (by decide) ⟨by omega, by omega⟩ (fun c17 => ?_) (fun c17 => ?_)
        · refine j_iconst C dX10_way_24 ?_
          refine j_iconst C dX10_way_25 ?_
          refine j_callV C (vs := [aI 0, aI 1]) (st := []) cl_X10_111 im_yX10_throwsIf se_yX10_throwsIf (fun _ => m_throwsIf0 _ S (upF F 100 0 0) A hS _) (sM_100 hS) rfl rfl rfl ⟨rfl, rfl, by decide, by decide⟩ ⟨by decide, by decide⟩ (fun _ => Nat.le_of_ble_eq_true rfl) (fun v hv => by cases hv) (fun v hv => by simp only [List.mem_cons, List.not_mem_nil, or_false, Option.some.injEq, reduceCtorEq, false_or] at hv; rcases hv with rfl | rfl | rfl | rfl <;> first | exact (lM_100 hS) | exact trivial) dX10_way_26 (fun v_26 S_26 F_26 A_26 hP_26 => ?_)
          obtain ⟨rfl, rfl, rfl, rfl⟩ := hP_26
          show ab_J E 7 0 0 S (upF F 100 0 0) A 29 [some (aR 100), some (aI a), some (aI b), some (aI st), none, none, none] [aI 0]
          refine j_if_eq C (tgt := 34) dX10_way_29 (by decide) ⟨by omega, by omega⟩ (fun c29 => ?_) (fun c29 => ?_)
          · refine j_iconst C dX10_way_34 ?_
            refine j_istore C (lv' := [some (aR 100), some (aI a), some (aI b), some (aI st), some (aI 0), none, none]) dX10_way_35 (by decide) rfl ?_
            have K37 : ∀ (N : Nat) (k : Int) (B : ab_An), (0 ≤ k ∧ k ≤ 280) → (∀ k', 0 ≤ k' → k' < k → zb (B 135 k') (SHm A st k' (F 100 18)) ∧ B 136 k' = 1000000) → (∀ i, i ≠ 135 → i ≠ 136 → B i = A i) → ((280 - k).toNat) < N → ab_J E 7 0 0 S (upF F 100 0 0) B 37 [some (aR 100), some (aI a), some (aI b), some (aI st), some (aI k), none, none] [] := by
              intro N
              induction N with
              | zero => intro k B hk hs hO hm; exact absurd hm (Nat.not_lt_zero _)
              | succ N ih =>
                have ih37 := ih
                clear ih
                intro k B hk hs hO hm37
                refine j_iload C dX10_way_37 rfl ?_
                refine j_sipush C dX10_way_39 rfl ?_
                refine j_icmp_ge C (tgt := 135) dX10_way_42 (by decide) ⟨by omega, by omega⟩ ⟨by omega, by omega⟩ (fun c42 => ?_) (fun c42 => ?_)
                · have e : k = 280 := by omega
                  refine j_aload_n C dX10_way_135 rfl rfl ?_
                  refine j_getR C (j := 135) fl_X10_88 (sM_100 hS) rfl dX10_way_136 ?_
                  refine j_iload_n C dX10_way_139 rfl rfl ?_
                  refine j_zald C (sM_135 hS) (by omega) (by omega) (by decide) dX10_way_140 ?_
                  refine j_if_ne C (tgt := 153) dX10_way_141 (by decide) (hs a (by omega) (by omega)).1.r (fun c141 => ?_) (fun c141 => ?_)
                  · refine j_iconst C dX10_way_153 ?_
                    exact j_iret C hr (Nat.le_refl _) (Nat.le_refl _) dX10_way_154 ⟨rfl, 0, _, rfl, (by first | rfl | exact upF_up _ _ _ _ _), Or.inr ⟨rfl, by omega, by omega, Or.inl ⟨rfl, by first | exact Or.inl (fun q => q.2 ((hs a (by omega) (by omega)).1.t (by omega))) | exact Or.inr (Or.inl (fun q => q.2 ((hs b (by omega) (by omega)).1.t (by omega))))⟩, hO⟩⟩
                  · refine j_aload_n C dX10_way_144 rfl rfl ?_
                    refine j_getR C (j := 135) fl_X10_88 (sM_100 hS) rfl dX10_way_145 ?_
                    refine j_iload_n C dX10_way_148 rfl rfl ?_
                    refine j_zald C (sM_135 hS) (by omega) (by omega) (by decide) dX10_way_149 ?_
                    refine j_if_eq C (tgt := 155) dX10_way_150 (by decide) (hs b (by omega) (by omega)).1.r (fun c150 => ?_) (fun c150 => ?_)
                    · have hop : (opM A st (F 100 18)) a := ⟨by omega, (hs a (by omega) (by omega)).1.f (by omega)⟩
                      have hop2 : (opM A st (F 100 18)) b := ⟨by omega, (hs b (by omega) (by omega)).1.f (by omega)⟩
                      have hWI : WI (upA B 136 a 0 136) (opM A st (F 100 18)) a := by
                        refine ⟨fun j q1 q2 => ?_, upA_at _ _ _ _, fun j q1 q2 q3 => ?_, fun j q1 q2 q3 => ?_⟩
                        · rw [upA_if]; split
                          · omega
                          · rw [(hs j q1 (by omega)).2]; omega
                        · rw [upA_if] at q3 ⊢
                          by_cases e2 : j = a
                          · rw [if_pos e2, e2]; exact pathC_0
                          · rw [if_neg e2, (hs j q1 (by omega)).2] at q3; omega
                        · rw [upA_ne (fun e2 => q3 (by rw [e2]; exact hop)), (hs j q1 (by omega)).2]
                      refine j_aload_n C dX10_way_155 rfl rfl ?_
                      refine j_getR C (j := 136) fl_X10_91 (sM_100 hS) rfl dX10_way_156 ?_
                      refine j_iload_n C dX10_way_159 rfl rfl ?_
                      refine j_iconst C dX10_way_160 ?_
                      refine j_iast C (sM_136 hS) (by omega) (by omega) (by decide) dX10_way_161 ?_
                      refine j_iconst C dX10_way_162 ?_
                      refine j_istore C (lv' := [some (aR 100), some (aI a), some (aI b), some (aI st), some (aI 1), none, none]) dX10_way_163 (by decide) rfl ?_
                      have K165 : ∀ (N : Nat) (ag : Int) (B2 : ab_An), (ag = 0 ∨ ag = 1) → (WI (B2 136) (opM A st (F 100 18)) a) → (ag = 0 → ∀ k, 0 ≤ k → k < 280 → (opM A st (F 100 18)) k → B2 136 k ≤ lsd (B2 136) k 9) → (∀ k', 0 ≤ k' → k' < 280 → zb (B2 135 k') (SHm A st k' (F 100 18))) → (∀ i, i ≠ 135 → i ≠ 136 → B2 i = A i) → ((2 * sm (B2 136) 280 + ag).toNat) < N → ab_J E 7 0 0 S (upF F 100 0 0) B2 165 [some (aR 100), some (aI a), some (aI b), some (aI st), some (aI ag), none, none] [] := by
                        intro N
                        induction N with
                        | zero => intro ag B2 hag hW hfx hsh hO2 hm; exact absurd hm (Nat.not_lt_zero _)
                        | succ N ih =>
                          have ih165 := ih
                          clear ih
                          intro ag B2 hag hW hfx hsh hO2 hm165
                          refine j_iload C dX10_way_165 rfl ?_
                          refine j_if_eq C (tgt := 243) dX10_way_167 (by decide) ⟨by omega, by omega⟩ (fun c167 => ?_) (fun c167 => ?_)
                          · refine j_aload_n C dX10_way_243 rfl rfl ?_
                            refine j_getR C (j := 136) fl_X10_91 (sM_100 hS) rfl dX10_way_244 ?_
                            refine j_iload_n C dX10_way_247 rfl rfl ?_
                            refine j_iald C (sM_136 hS) (by omega) (by omega) (by decide) dX10_way_248 ?_
                            refine j_ldcI C (z := 1000000) (ab_t5 (List.mem_of_getElem? (i := 134) rfl) rfl) rfl dX10_way_249 ?_
                            refine j_icmp_ge C (tgt := 263) dX10_way_251 (by decide) (by have := hW.1 b (by omega) (by omega); exact ⟨by omega, by omega⟩) ⟨by omega, by omega⟩ (fun c251 => ?_) (fun c251 => ?_)
                            · refine j_iconst C dX10_way_263 ?_
                              exact j_iret C hr (Nat.le_refl _) (Nat.le_refl _) dX10_way_264 ⟨rfl, 0, _, rfl, (by first | rfl | exact upF_up _ _ _ _ _), Or.inr ⟨rfl, by omega, by omega, (by have hx := hfx (by omega); first | exact Or.inr ⟨hop, hop2, (hW.1 b (by omega) (by omega)).1, hW.2.2.1 b (by omega) (by omega) (by omega), fun c ⟨n, p⟩ => WI_least hW hx n b c (by omega) (by omega) p⟩ | exact Or.inl ⟨rfl, Or.inr (Or.inr (fun c ⟨n, p⟩ => by have := WI_least hW hx n b c (by omega) (by omega) p; omega))⟩), hO2⟩⟩
                            · refine j_aload_n C dX10_way_254 rfl rfl ?_
                              refine j_getR C (j := 136) fl_X10_91 (sM_100 hS) rfl dX10_way_255 ?_
                              refine j_iload_n C dX10_way_258 rfl rfl ?_
                              refine j_iald C (sM_136 hS) (by omega) (by omega) (by decide) dX10_way_259 ?_
                              refine j_goto C (tgt := 264) dX10_way_260 (by decide) ?_
                              exact j_iret C hr (Nat.le_refl _) (Nat.le_refl _) dX10_way_264 ⟨rfl, 0, _, rfl, (by first | rfl | exact upF_up _ _ _ _ _), Or.inr ⟨rfl, by omega, by omega, (by have hx := hfx (by omega); first | exact Or.inr ⟨hop, hop2, (hW.1 b (by omega) (by omega)).1, hW.2.2.1 b (by omega) (by omega) (by omega), fun c ⟨n, p⟩ => WI_least hW hx n b c (by omega) (by omega) p⟩ | exact Or.inl ⟨rfl, Or.inr (Or.inr (fun c ⟨n, p⟩ => by have := WI_least hW hx n b c (by omega) (by omega) p; omega))⟩), hO2⟩⟩
                          · refine j_iconst C dX10_way_170 ?_
                            refine j_istore C (lv' := [some (aR 100), some (aI a), some (aI b), some (aI st), some (aI 0), none, none]) dX10_way_171 (by decide) rfl ?_
                            refine j_iconst C dX10_way_173 ?_
                            refine j_istore C (lv' := [some (aR 100), some (aI a), some (aI b), some (aI st), some (aI 0), some (aI 0), none]) dX10_way_174 (by decide) rfl ?_
                            have K176 : ∀ (N : Nat) (ag k : Int) (B3 : ab_An), (0 ≤ k ∧ k ≤ 280) → (ag = 0 ∨ ag = 1) → (WI (B3 136) (opM A st (F 100 18)) a) → ((ag = 0 ∧ B3 136 = B2 136 ∧ ∀ k', 0 ≤ k' → k' < k → (opM A st (F 100 18)) k' → B3 136 k' ≤ lsd (B3 136) k' 9) ∨ (ag = 1 ∧ sm (B3 136) 280 < sm (B2 136) 280)) → (∀ k', 0 ≤ k' → k' < 280 → zb (B3 135 k') (SHm A st k' (F 100 18))) → (∀ i, i ≠ 135 → i ≠ 136 → B3 i = A i) → ((280 - k).toNat) < N → ab_J E 7 0 0 S (upF F 100 0 0) B3 176 [some (aR 100), some (aI a), some (aI b), some (aI st), some (aI ag), some (aI k), none] [] := by
                              intro N
                              induction N with
                              | zero => intro ag k B3 hk hag hW hpr hsh hO2 hm; exact absurd hm (Nat.not_lt_zero _)
                              | succ N ih =>
                                have ih176 := ih
                                clear ih
                                intro ag k B3 hk hag hW hpr hsh hO2 hm176
                                refine j_iload C dX10_way_176 rfl ?_
                                refine j_sipush C dX10_way_178 rfl ?_
                                refine j_icmp_ge C (tgt := 240) dX10_way_181 (by decide) ⟨by omega, by omega⟩ ⟨by omega, by omega⟩ (fun c181 => ?_) (fun c181 => ?_)
                                · refine j_goto C (tgt := 165) dX10_way_240 (by decide) ?_
                                  refine j_lv (lv' := [some (aR 100), some (aI a), some (aI b), some (aI st), some (aI ag), none, none]) ?_ ⟨rfl, rfl, rfl, rfl, rfl, trivial⟩
                                  exact ih165 ag B3 (by omega) hW (fun q k' q1 q2 q3 => by rcases hpr with ⟨_, _, p⟩ | ⟨p, _⟩; exact p k' q1 (by omega) q3; omega) hsh hO2 (by have s1 := sm_nonneg (f := B3 136) (n := 280) (fun k a c => (hW.1 k a (by omega)).1); rcases hpr with ⟨p, p2, _⟩ | ⟨p, p2⟩; (rw [p2]; rw [p2] at s1; omega); omega)
                                · refine j_aload_n C dX10_way_184 rfl rfl ?_
                                  refine j_getR C (j := 135) fl_X10_88 (sM_100 hS) rfl dX10_way_185 ?_
                                  refine j_iload C dX10_way_188 rfl ?_
                                  refine j_zald C (sM_135 hS) (by omega) (by omega) (by decide) dX10_way_190 ?_
                                  refine j_if_eq C (tgt := 199) dX10_way_191 (by decide) (hsh k (by omega) (by omega)).r (fun c191 => ?_) (fun c191 => ?_)
                                  · refine j_aload_n C dX10_way_199 rfl rfl ?_
                                    refine j_iload C dX10_way_200 rfl ?_
                                    refine j_callV C (vs := [aI k]) (st := []) cl_X10_246 im_yX10_least se_yX10_least (fun _ => m_least _ S (upF F 100 0 0) B3 hS _ (by omega) hW.1) (sM_100 hS) rfl rfl rfl ⟨rfl, rfl, by decide, by decide⟩ ⟨by decide, by decide⟩ (fun _ => Nat.le_of_ble_eq_true rfl) (fun v hv => by cases hv) (fun v hv => by simp only [List.mem_cons, List.not_mem_nil, or_false, Option.some.injEq, reduceCtorEq, false_or] at hv; rcases hv with rfl | rfl | rfl | rfl | rfl | rfl <;> first | exact (lM_100 hS) | exact trivial) dX10_way_202 (fun v_202 S_202 F_202 A_202 hP_202 => ?_)
                                    obtain ⟨rfl, rfl, rfl, rfl⟩ := hP_202
                                    show ab_J E 7 0 0 S (upF F 100 0 0) B3 205 [some (aR 100), some (aI a), some (aI b), some (aI st), some (aI ag), some (aI k), none] [aI (lsd (B3 136) k 9)]
                                    refine j_istore C (lv' := [some (aR 100), some (aI a), some (aI b), some (aI st), some (aI ag), some (aI k), some (aI (lsd (B3 136) k 9))]) dX10_way_205 (by decide) rfl ?_
                                    refine j_iload C dX10_way_207 rfl ?_
                                    refine j_aload_n C dX10_way_209 rfl rfl ?_
                                    refine j_getR C (j := 136) fl_X10_91 (sM_100 hS) rfl dX10_way_210 ?_
                                    refine j_iload C dX10_way_213 rfl ?_
                                    refine j_iald C (sM_136 hS) (by omega) (by omega) (by decide) dX10_way_215 ?_
                                    refine j_icmp_lt C (tgt := 222) dX10_way_216 (by decide) (by have := hW.1 k (by omega) (by omega); have g1 := lsd_nonneg (f := B3 136) (s := k) (fun k a b => (hW.1 k a b).1) (by omega); have g2 := lsd_le_0 (f := B3 136) (s := k) 9; first | exact ⟨by decide, by decide⟩ | exact ⟨by omega, by omega⟩) (by have := hW.1 k (by omega) (by omega); exact ⟨by omega, by omega⟩) (fun c216 => ?_) (fun c216 => ?_)
                                    · refine j_aload_n C dX10_way_222 rfl rfl ?_
                                      refine j_getR C (j := 136) fl_X10_91 (sM_100 hS) rfl dX10_way_223 ?_
                                      refine j_iload C dX10_way_226 rfl ?_
                                      refine j_iload C dX10_way_228 rfl ?_
                                      refine j_iast C (sM_136 hS) (by omega) (by omega) (by decide) dX10_way_230 ?_
                                      refine j_iconst C dX10_way_231 ?_
                                      refine j_istore C (lv' := [some (aR 100), some (aI a), some (aI b), some (aI st), some (aI 1), some (aI k), some (aI (lsd (B3 136) k 9))]) dX10_way_232 (by decide) rfl ?_
                                      refine j_iinc C (lv' := [some (aR 100), some (aI a), some (aI b), some (aI st), some (aI 1), some (aI (k + 1)), some (aI (lsd (B3 136) k 9))]) dX10_way_234 rfl (by decide) rfl ?_
                                      refine j_goto C (tgt := 176) dX10_way_237 (by decide) ?_
                                      refine j_lv (lv' := [some (aR 100), some (aI a), some (aI b), some (aI st), some (aI 1), some (aI (k + 1)), none]) ?_ ⟨rfl, rfl, rfl, rfl, rfl, rfl, trivial⟩
                                      exact ih176 1 (k + 1) ((upA B3 136 k (lsd (B3 136) k 9))) (by omega) (by omega) (by first | exact hW | exact WI_up hW hop (by omega) ⟨by omega, (hsh k (by omega) (by omega)).f (by omega)⟩ c216) (by first | exact (by rcases hpr with ⟨p1, p2, p3⟩ | p; exact Or.inl ⟨p1, p2, fun k' q1 q2 q3 => if q : k' = k then by rw [q]; first | omega | exact absurd ((hsh k (by omega) (by omega)).t (by omega)) (by rw [q] at q3; exact q3.2) else p3 k' q1 (by omega) q3⟩; exact Or.inr p) | exact Or.inr ⟨rfl, by rw [sm_upA (by omega) (by omega)]; rcases hpr with ⟨p1, p2, p3⟩ | p; (rw [← p2]; omega); omega⟩) (by first | exact hsh | exact (fun k' q1 q2 => by rw [upA_other (by decide)]; exact hsh k' q1 q2)) (by first | exact hO2 | exact (fun i p1 p2 => by rw [upA_other p2]; exact hO2 i p1 p2)) (by omega)
                                    · refine j_goto C (tgt := 234) dX10_way_219 (by decide) ?_
                                      refine j_iinc C (lv' := [some (aR 100), some (aI a), some (aI b), some (aI st), some (aI ag), some (aI (k + 1)), some (aI (lsd (B3 136) k 9))]) dX10_way_234 rfl (by decide) rfl ?_
                                      refine j_goto C (tgt := 176) dX10_way_237 (by decide) ?_
                                      refine j_lv (lv' := [some (aR 100), some (aI a), some (aI b), some (aI st), some (aI ag), some (aI (k + 1)), none]) ?_ ⟨rfl, rfl, rfl, rfl, rfl, rfl, trivial⟩
                                      exact ih176 ag (k + 1) B3 (by omega) (by omega) (by first | exact hW | exact WI_up hW hop (by omega) ⟨by omega, (hsh k (by omega) (by omega)).f (by omega)⟩ c216) (by first | exact (by rcases hpr with ⟨p1, p2, p3⟩ | p; exact Or.inl ⟨p1, p2, fun k' q1 q2 q3 => if q : k' = k then by rw [q]; first | omega | exact absurd ((hsh k (by omega) (by omega)).t (by omega)) (by rw [q] at q3; exact q3.2) else p3 k' q1 (by omega) q3⟩; exact Or.inr p) | exact Or.inr ⟨rfl, by rw [sm_upA (by omega) (by omega)]; rcases hpr with ⟨p1, p2, p3⟩ | p; (rw [← p2]; omega); omega⟩) (by first | exact hsh | exact (fun k' q1 q2 => by rw [upA_other (by decide)]; exact hsh k' q1 q2)) (by first | exact hO2 | exact (fun i p1 p2 => by rw [upA_other p2]; exact hO2 i p1 p2)) (by omega)
                                  · refine j_ldcI C (z := 1000000) (ab_t5 (List.mem_of_getElem? (i := 134) rfl) rfl) rfl dX10_way_194 ?_
                                    refine j_goto C (tgt := 205) dX10_way_196 (by decide) ?_
                                    refine j_istore C (lv' := [some (aR 100), some (aI a), some (aI b), some (aI st), some (aI ag), some (aI k), some (aI 1000000)]) dX10_way_205 (by decide) rfl ?_
                                    refine j_iload C dX10_way_207 rfl ?_
                                    refine j_aload_n C dX10_way_209 rfl rfl ?_
                                    refine j_getR C (j := 136) fl_X10_91 (sM_100 hS) rfl dX10_way_210 ?_
                                    refine j_iload C dX10_way_213 rfl ?_
                                    refine j_iald C (sM_136 hS) (by omega) (by omega) (by decide) dX10_way_215 ?_
                                    refine j_icmp_lt C (tgt := 222) dX10_way_216 (by decide) (by have := hW.1 k (by omega) (by omega); have g1 := lsd_nonneg (f := B3 136) (s := k) (fun k a b => (hW.1 k a b).1) (by omega); have g2 := lsd_le_0 (f := B3 136) (s := k) 9; first | exact ⟨by decide, by decide⟩ | exact ⟨by omega, by omega⟩) (by have := hW.1 k (by omega) (by omega); exact ⟨by omega, by omega⟩) (fun c216 => ?_) (fun c216 => ?_)
                                    · exact absurd (hW.1 k (by omega) (by omega)).2 (by omega)
                                    · refine j_goto C (tgt := 234) dX10_way_219 (by decide) ?_
                                      refine j_iinc C (lv' := [some (aR 100), some (aI a), some (aI b), some (aI st), some (aI ag), some (aI (k + 1)), some (aI 1000000)]) dX10_way_234 rfl (by decide) rfl ?_
                                      refine j_goto C (tgt := 176) dX10_way_237 (by decide) ?_
                                      refine j_lv (lv' := [some (aR 100), some (aI a), some (aI b), some (aI st), some (aI ag), some (aI (k + 1)), none]) ?_ ⟨rfl, rfl, rfl, rfl, rfl, rfl, trivial⟩
                                      exact ih176 ag (k + 1) B3 (by omega) (by omega) (by first | exact hW | exact WI_up hW hop (by omega) ⟨by omega, (hsh k (by omega) (by omega)).f (by omega)⟩ c216) (by first | exact (by rcases hpr with ⟨p1, p2, p3⟩ | p; exact Or.inl ⟨p1, p2, fun k' q1 q2 q3 => if q : k' = k then by rw [q]; first | omega | exact absurd ((hsh k (by omega) (by omega)).t (by omega)) (by rw [q] at q3; exact q3.2) else p3 k' q1 (by omega) q3⟩; exact Or.inr p) | exact Or.inr ⟨rfl, by rw [sm_upA (by omega) (by omega)]; rcases hpr with ⟨p1, p2, p3⟩ | p; (rw [← p2]; omega); omega⟩) (by first | exact hsh | exact (fun k' q1 q2 => by rw [upA_other (by decide)]; exact hsh k' q1 q2)) (by first | exact hO2 | exact (fun i p1 p2 => by rw [upA_other p2]; exact hO2 i p1 p2)) (by omega)
                            exact K176 _ 0 0 B2 (by omega) (by omega) hW (Or.inl ⟨rfl, rfl, fun k' q1 q2 => by omega⟩) hsh hO2 (Nat.lt_succ_self _)
                      exact K165 _ 1 ((upA B 136 a 0)) (by omega) hWI (fun q => by omega) (fun k' q1 q2 => by rw [upA_other (by decide)]; exact (hs k' q1 (by omega)).1) (fun i p1 p2 => by rw [upA_other p2]; exact hO i p1 p2) (Nat.lt_succ_self _)
                    · refine j_iconst C dX10_way_153 ?_
                      exact j_iret C hr (Nat.le_refl _) (Nat.le_refl _) dX10_way_154 ⟨rfl, 0, _, rfl, (by first | rfl | exact upF_up _ _ _ _ _), Or.inr ⟨rfl, by omega, by omega, Or.inl ⟨rfl, by first | exact Or.inl (fun q => q.2 ((hs a (by omega) (by omega)).1.t (by omega))) | exact Or.inr (Or.inl (fun q => q.2 ((hs b (by omega) (by omega)).1.t (by omega))))⟩, hO⟩⟩
                · refine j_aload_n C dX10_way_45 rfl rfl ?_
                  refine j_getR C (j := 135) fl_X10_88 (sM_100 hS) rfl dX10_way_46 ?_
                  refine j_iload C dX10_way_49 rfl ?_
                  refine j_aload_n C dX10_way_51 rfl rfl ?_
                  refine j_getR C (j := 101) fl_X10_13 (sM_100 hS) rfl dX10_way_52 ?_
                  refine j_iload C dX10_way_55 rfl ?_
                  refine j_zald C (sM_101 hS) (by omega) (by omega) (by decide) dX10_way_57 ?_
                  refine j_eq (st' := [aI (A 101 k), aI k, aR 135]) ?_ (e1 := by first | rfl | (simp only [List.cons.injEq, and_true]; exact congrArg aI (congrFun (hO 101 (by decide) (by decide)) k)))
                  refine j_zast C (sM_135 hS) (by omega) (by omega) (by decide) (hl k (by omega) (by omega)) dX10_way_58 ?_
                  refine j_iconst C dX10_way_59 ?_
                  refine j_istore C (lv' := [some (aR 100), some (aI a), some (aI b), some (aI st), some (aI k), some (aI 0), none]) dX10_way_60 (by decide) rfl ?_
                  have K62 : ∀ (N : Nat) (w z : Int), (0 ≤ w ∧ w ≤ F 100 18) → (zb z (SHm A st k w)) → ((F 100 18 - w).toNat) < N → ab_J E 7 0 0 S (upF F 100 0 0) (upA B 135 k z) 62 [some (aR 100), some (aI a), some (aI b), some (aI st), some (aI k), some (aI w), none] [] := by
                    intro N
                    induction N with
                    | zero => intro w z hw0 hz hm; exact absurd hm (Nat.not_lt_zero _)
                    | succ N ih =>
                      have ih62 := ih
                      clear ih
                      intro w z hw0 hz hm62
                      refine j_iload C dX10_way_62 rfl ?_
                      refine j_aload_n C dX10_way_64 rfl rfl ?_
                      refine j_get C (aI (F 100 18)) fl_X10_104 (sM_100 hS) (fun _ => rfl) dX10_way_65 ?_
                      refine j_icmp_ge C (tgt := 120) dX10_way_68 (by decide) ⟨by omega, by omega⟩ ⟨by omega, by omega⟩ (fun c68 => ?_) (fun c68 => ?_)
                      · refine j_aload_n C dX10_way_120 rfl rfl ?_
                        refine j_getR C (j := 136) fl_X10_91 (sM_100 hS) rfl dX10_way_121 ?_
                        refine j_iload C dX10_way_124 rfl ?_
                        refine j_ldcI C (z := 1000000) (ab_t5 (List.mem_of_getElem? (i := 134) rfl) rfl) rfl dX10_way_126 ?_
                        refine j_iast C (sM_136 hS) (by omega) (by omega) (by decide) dX10_way_128 ?_
                        refine j_iinc C (lv' := [some (aR 100), some (aI a), some (aI b), some (aI st), some (aI (k + 1)), some (aI w), none]) dX10_way_129 rfl (by decide) rfl ?_
                        refine j_goto C (tgt := 37) dX10_way_132 (by decide) ?_
                        refine j_lv (lv' := [some (aR 100), some (aI a), some (aI b), some (aI st), some (aI (k + 1)), none, none]) ?_ ⟨rfl, rfl, rfl, rfl, rfl, trivial⟩
                        exact ih37 (k + 1) ((upA (upA B 135 k z) 136 k 1000000)) (by omega) (fun k' q1 q2 => if q : k' = k then by rw [q]; exact ⟨by rw [upA_other (by decide), upA_at, show F 100 18 = w by omega]; exact hz, upA_at _ _ _ _⟩ else by rw [upA_ne q, upA_other (i := 136) (by decide), upA_ne q, upA_other (i := 135) (by decide)]; exact hs k' q1 (by omega)) (fun i p1 p2 => by rw [upA_other p2, upA_other p1]; exact hO i p1 p2) (by omega)
                      · refine j_aload_n C dX10_way_71 rfl rfl ?_
                        refine j_getR C (j := 135) fl_X10_88 (sM_100 hS) rfl dX10_way_72 ?_
                        refine j_iload C dX10_way_75 rfl ?_
                        refine j_aload_n C dX10_way_77 rfl rfl ?_
                        refine j_getR C (j := 135) fl_X10_88 (sM_100 hS) rfl dX10_way_78 ?_
                        refine j_iload C dX10_way_81 rfl ?_
                        refine j_zald C (sM_135 hS) (by omega) (by omega) (by decide) dX10_way_83 ?_
                        refine j_eq (st' := [aI z, aI k, aR 135]) ?_ (e1 := by first | rfl | (simp only [List.cons.injEq, and_true]; exact congrArg aI (upA_at _ _ _ _)))
                        refine j_if_ne C (tgt := 108) dX10_way_84 (by decide) hz.r (fun c84 => ?_) (fun c84 => ?_)
                        · refine j_iconst C dX10_way_108 ?_
                          refine j_goto C (tgt := 113) dX10_way_109 (by decide) ?_
                          refine j_zast C (sM_135 hS) (by omega) (by omega) (by decide) (by omega) dX10_way_113 ?_
                          refine j_iinc C (lv' := [some (aR 100), some (aI a), some (aI b), some (aI st), some (aI k), some (aI (w + 1)), none]) dX10_way_114 rfl (by decide) rfl ?_
                          refine j_goto C (tgt := 62) dX10_way_117 (by decide) ?_
                          refine j_eq (A' := (upA B 135 k 1)) ?_ (e4 := (upA_up _ _ _ _ _))
                          exact ih62 (w + 1) 1 (by omega) (zb.one ((hz.t c84).imp id exB_keep)) (by omega)
                        · refine j_aload_n C dX10_way_87 rfl rfl ?_
                          refine j_iload C dX10_way_88 rfl ?_
                          refine j_iload_n C dX10_way_90 rfl rfl ?_
                          refine j_callV C (vs := [aI w, aI st]) (st := [aI k, aR 135]) cl_X10_226 im_yX10_isInForce se_yX10_isInForce (fun _ => m_isInForce _ S (upF F 100 0 0) (upA B 135 k z) hS _ _ (by omega) rst (by show inR (B 116 w); rw [hO 116 (by decide) (by decide)]; exact (hv w (by omega) (by omega)).1.1) (by show inR (B 117 w); rw [hO 117 (by decide) (by decide)]; exact (hv w (by omega) (by omega)).1.2)) (sM_100 hS) rfl rfl rfl ⟨rfl, rfl, by decide, by decide⟩ ⟨by decide, by decide⟩ (fun _ => Nat.le_of_ble_eq_true rfl) (fun v hv => by simp only [List.mem_cons, List.not_mem_nil, or_false] at hv; rcases hv with rfl | rfl <;> first | exact (lM_135 hS) | exact trivial) (fun v hv => by simp only [List.mem_cons, List.not_mem_nil, or_false, Option.some.injEq, reduceCtorEq, false_or] at hv; rcases hv with rfl | rfl | rfl | rfl | rfl | rfl <;> first | exact (lM_100 hS) | exact trivial) dX10_way_91 (fun v_91 S_91 F_91 A_91 hP_91 => ?_)
                          obtain ⟨rfl, rfl, rfl, z_91, rfl, ⟨rfl, hz_91⟩ | ⟨rfl, hz_91⟩⟩ := hP_91
                          · show ab_J E 7 0 0 S (upF F 100 0 0) (upA B 135 k z) 94 [some (aR 100), some (aI a), some (aI b), some (aI st), some (aI k), some (aI w), none] [aI 1, aI k, aR 135]
                            have e116 : upA B 135 k z 116 w = A 116 w := congrFun (hO 116 (by decide) (by decide)) w
                            have e117 : upA B 135 k z 117 w = A 117 w := congrFun (hO 117 (by decide) (by decide)) w
                            rw [e116, e117] at hz_91
                            refine j_if_eq C (tgt := 112) dX10_way_94 (by decide) ⟨by omega, by omega⟩ (fun c94 => ?_) (fun c94 => ?_)
                            · exact absurd c94 (by decide)
                            · refine j_aload_n C dX10_way_97 rfl rfl ?_
                              refine j_iload C dX10_way_98 rfl ?_
                              refine j_iload C dX10_way_100 rfl ?_
                              refine j_callV C (vs := [aI w, aI k]) (st := [aI k, aR 135]) cl_X10_243 im_yX10_isWithin se_yX10_isWithin (fun _ => m_isWithin _ S (upF F 100 0 0) (upA B 135 k z) hS _ _ (by omega) (by omega) (by show 1 ≤ B 115 w ∧ B 115 w ≤ 40; rw [hO 115 (by decide) (by decide)]; exact (hv w (by omega) (by omega)).2.1) (by show ∀ k, 0 ≤ k → k < B 115 w → 0 ≤ B 113 (40 * w + k) ∧ B 113 (40 * w + k) ≤ 20 ∧ 0 ≤ B 114 (40 * w + k) ∧ B 114 (40 * w + k) ≤ 14; rw [hO 115 (by decide) (by decide), hO 113 (by decide) (by decide), hO 114 (by decide) (by decide)]; exact (hv w (by omega) (by omega)).2.2)) (sM_100 hS) rfl rfl rfl ⟨rfl, rfl, by decide, by decide⟩ ⟨by decide, by decide⟩ (fun _ => Nat.le_of_ble_eq_true rfl) (fun v hv => by simp only [List.mem_cons, List.not_mem_nil, or_false] at hv; rcases hv with rfl | rfl <;> first | exact (lM_135 hS) | exact trivial) (fun v hv => by simp only [List.mem_cons, List.not_mem_nil, or_false, Option.some.injEq, reduceCtorEq, false_or] at hv; rcases hv with rfl | rfl | rfl | rfl | rfl | rfl <;> first | exact (lM_100 hS) | exact trivial) dX10_way_102 (fun v_102 S_102 F_102 A_102 hP_102 => ?_)
                              obtain ⟨rfl, rfl, rfl, rfl⟩ := hP_102
                              obtain ⟨wi, hwi9⟩ : ∃ x : Int, x = wIn (fun x => A 113 (40 * w + x)) (fun x => A 114 (40 * w + x)) (A 115 w) k := ⟨_, rfl⟩
                              have hwi8 : wIn (fun x => (upA B 135 k z) 113 (40 * w + x)) (fun x => (upA B 135 k z) 114 (40 * w + x)) ((upA B 135 k z) 115 w) k = wi := by rw [hwi9]; show wIn (fun x => B 113 (40 * w + x)) (fun x => B 114 (40 * w + x)) (B 115 w) k = _; rw [hO 113 (by decide) (by decide), hO 114 (by decide) (by decide), hO 115 (by decide) (by decide)]
                              rw [hwi8]
                              show ab_J E 7 0 0 S (upF F 100 0 0) (upA B 135 k z) 105 [some (aR 100), some (aI a), some (aI b), some (aI st), some (aI k), some (aI w), none] [aI wi, aI k, aR 135]
                              have hwi : wi = 0 ∨ wi = 1 := by rw [hwi9]; exact wIn_01
                              refine j_if_eq C (tgt := 112) dX10_way_105 (by decide) ⟨by omega, by omega⟩ (fun c105 => ?_) (fun c105 => ?_)
                              · refine j_iconst C dX10_way_112 ?_
                                refine j_zast C (sM_135 hS) (by omega) (by omega) (by decide) (by omega) dX10_way_113 ?_
                                refine j_iinc C (lv' := [some (aR 100), some (aI a), some (aI b), some (aI st), some (aI k), some (aI (w + 1)), none]) dX10_way_114 rfl (by decide) rfl ?_
                                refine j_goto C (tgt := 62) dX10_way_117 (by decide) ?_
                                refine j_eq (A' := (upA B 135 k 0)) ?_ (e4 := (upA_up _ _ _ _ _))
                                exact ih62 (w + 1) 0 (by omega) (zb.zero (fun q => by rcases q with q | q; exact hz.f (by omega) (Or.inl q); exact exB_miss (fun z => hz.f (by omega) (Or.inr z)) (fun z => by have := z.2; omega) q)) (by omega)
                              · refine j_iconst C dX10_way_108 ?_
                                refine j_goto C (tgt := 113) dX10_way_109 (by decide) ?_
                                refine j_zast C (sM_135 hS) (by omega) (by omega) (by decide) (by omega) dX10_way_113 ?_
                                refine j_iinc C (lv' := [some (aR 100), some (aI a), some (aI b), some (aI st), some (aI k), some (aI (w + 1)), none]) dX10_way_114 rfl (by decide) rfl ?_
                                refine j_goto C (tgt := 62) dX10_way_117 (by decide) ?_
                                refine j_eq (A' := (upA B 135 k 1)) ?_ (e4 := (upA_up _ _ _ _ _))
                                exact ih62 (w + 1) 1 (by omega) (zb.one (Or.inr (exB_hit hw0.1 ⟨hz_91, by omega⟩))) (by omega)
                          · show ab_J E 7 0 0 S (upF F 100 0 0) (upA B 135 k z) 94 [some (aR 100), some (aI a), some (aI b), some (aI st), some (aI k), some (aI w), none] [aI 0, aI k, aR 135]
                            have e116 : upA B 135 k z 116 w = A 116 w := congrFun (hO 116 (by decide) (by decide)) w
                            have e117 : upA B 135 k z 117 w = A 117 w := congrFun (hO 117 (by decide) (by decide)) w
                            rw [e116, e117] at hz_91
                            refine j_if_eq C (tgt := 112) dX10_way_94 (by decide) ⟨by omega, by omega⟩ (fun c94 => ?_) (fun c94 => ?_)
                            · refine j_iconst C dX10_way_112 ?_
                              refine j_zast C (sM_135 hS) (by omega) (by omega) (by decide) (by omega) dX10_way_113 ?_
                              refine j_iinc C (lv' := [some (aR 100), some (aI a), some (aI b), some (aI st), some (aI k), some (aI (w + 1)), none]) dX10_way_114 rfl (by decide) rfl ?_
                              refine j_goto C (tgt := 62) dX10_way_117 (by decide) ?_
                              refine j_eq (A' := (upA B 135 k 0)) ?_ (e4 := (upA_up _ _ _ _ _))
                              exact ih62 (w + 1) 0 (by omega) (zb.zero (fun q => by rcases q with q | q; exact hz.f (by omega) (Or.inl q); exact exB_miss (fun z => hz.f (by omega) (Or.inr z)) (fun z => hz_91 z.1) q)) (by omega)
                            · exact absurd c94 (by decide)
                  exact K62 _ 0 (A 101 k) (by omega) (SHm_0 (hl k (by omega) (by omega)) rfl) (Nat.lt_succ_self _)
            exact K37 _ 0 A (by omega) (fun k' q1 q2 => by omega) (fun _ _ _ => rfl) (Nat.lt_succ_self _)
          · exact absurd c29 (by decide)
        · exact absurd c17 (by decide)
