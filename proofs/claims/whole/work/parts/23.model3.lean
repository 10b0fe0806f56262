/-! the rows of the reference within its drift and its spread -/
def drA (A : ab_An) (b k : Int) : ab_An := upA (setRow A 119 0 280 (fun t => sm (cb (dst (A 101) (A 102) (A 103)) (fun x => A 106 (280 * b + x)) t) k.toNat)) 109 b (A 109 b + sm (cb (dst (A 101) (A 102) (A 103)) (fun x => A 106 (280 * b + x)) (-1)) k.toNat)
theorem drA_119 {A : ab_An} {b k x : Int} (h : 0 ≤ x ∧ x < 280) : drA A b k 119 x = sm (cb (dst (A 101) (A 102) (A 103)) (fun x => A 106 (280 * b + x)) x) k.toNat := by
  rw [drA, upA_other (by decide), setRow_in h.1 (by omega), Int.sub_zero]
theorem drA_119o {A : ab_An} {b k x : Int} (h : ¬ (0 ≤ x ∧ x < 280)) : drA A b k 119 x = A 119 x := by
  rw [drA, upA_other (by decide), setRow_out (by omega)]
theorem drA_109 {A : ab_An} {b k : Int} : drA A b k 109 b = A 109 b + sm (cb (dst (A 101) (A 102) (A 103)) (fun x => A 106 (280 * b + x)) (-1)) k.toNat := by simp [drA, upA]
theorem drA_109o {A : ab_An} {b k x : Int} (h : ¬ x = b) : drA A b k 109 x = A 109 x := by simp [drA, upA, setRow, h]
theorem drA_o {A : ab_An} {b k : Int} {i : Nat} (h1 : ¬ i = 109) (h2 : ¬ i = 119) : drA A b k i = A i := by funext x; simp [drA, upA, setRow, h1, h2]
theorem drA_0 (A : ab_An) (b : Int) : setRow A 119 0 280 (fun _ => 0) = drA A b 0 := by
  funext i x
  by_cases h1 : i = 109
  · subst h1
    by_cases hx : x = b
    · subst hx; rw [drA_109]; simp [setRow, sm]
    · rw [drA_109o hx]; simp [setRow]
  · by_cases h2 : i = 119
    · subst h2
      by_cases hx : 0 ≤ x ∧ x < 280
      · rw [drA_119 hx, setRow_in hx.1 (by omega)]; rfl
      · rw [drA_119o hx, setRow_out (by omega)]
    · rw [drA_o h1 h2, setRow_other h2]
theorem drA_out {A : ab_An} {b k : Int} (hk : 0 ≤ k) (hD : dst (A 101) (A 102) (A 103) k = -1) : upA (drA A b k) 109 b (drA A b k 109 b + A 106 (280 * b + k)) = drA A b (k + 1) := by
  funext i x
  by_cases h1 : i = 109
  · subst h1
    by_cases hx : x = b
    · subst hx; rw [upA_at, drA_109, drA_109, sm_step _ hk]; simp only [cb]; rw [if_pos hD]; omega
    · rw [upA_ne hx, drA_109o hx, drA_109o hx]
  · rw [upA_other h1]
    by_cases h2 : i = 119
    · subst h2
      by_cases hx : 0 ≤ x ∧ x < 280
      · rw [drA_119 hx, drA_119 hx, sm_step _ hk]; simp only [cb]; rw [if_neg (by omega)]; omega
      · rw [drA_119o hx, drA_119o hx]
    · rw [drA_o h1 h2, drA_o h1 h2]
theorem drA_in {A : ab_An} {b k t : Int} (hk : 0 ≤ k) (ht : 0 ≤ t ∧ t < 280) (hD : dst (A 101) (A 102) (A 103) k = t) : upA (drA A b k) 119 t (drA A b k 119 t + A 106 (280 * b + k)) = drA A b (k + 1) := by
  funext i x
  by_cases h2 : i = 119
  · subst h2
    by_cases hx : x = t
    · subst hx; rw [upA_at, drA_119 ht, drA_119 ht, sm_step _ hk]; simp only [cb]; rw [if_pos hD]
    · rw [upA_ne hx]
      by_cases hr : 0 ≤ x ∧ x < 280
      · rw [drA_119 hr, drA_119 hr, sm_step _ hk]; simp only [cb]; rw [if_neg (by omega)]; omega
      · rw [drA_119o hr, drA_119o hr]
  · rw [upA_other h2]
    by_cases h1 : i = 109
    · subst h1
      by_cases hx : x = b
      · subst hx; rw [drA_109, drA_109, sm_step _ hk]; simp only [cb]; rw [if_neg (by omega)]; omega
      · rw [drA_109o hx, drA_109o hx]
    · rw [drA_o h1 h2, drA_o h1 h2]
def spA (A : ab_An) (b k d : Int) : ab_An := setRow A 119 0 280 (fun t => A 106 (280 * b + t) + sm (scol (A 101) (fun x => A 106 (280 * b + x)) t) k.toNat + sm (fun j => sterm (A 101) (fun x => A 106 (280 * b + x)) k (2 * j + 1) t) (d / 2).toNat)
theorem spA_119 {A : ab_An} {b k d x : Int} (h : 0 ≤ x ∧ x < 280) : spA A b k d 119 x = A 106 (280 * b + x) + sm (scol (A 101) (fun x => A 106 (280 * b + x)) x) k.toNat + sm (fun j => sterm (A 101) (fun x => A 106 (280 * b + x)) k (2 * j + 1) x) (d / 2).toNat := by
  rw [spA, setRow_in h.1 (by omega)]; simp
theorem spA_119o {A : ab_An} {b k d x : Int} (h : ¬ (0 ≤ x ∧ x < 280)) : spA A b k d 119 x = A 119 x := by
  rw [spA, setRow_out (by omega)]
theorem spA_o {A : ab_An} {b k d : Int} {i : Nat} (h2 : ¬ i = 119) : spA A b k d i = A i := by rw [spA, setRow_other h2]
theorem spA_0 (A : ab_An) (b : Int) : setRow A 119 0 280 (fun x => A 106 (280 * b + x)) = spA A b 0 1 := by
  unfold spA
  congr 1
  funext t
  show _ = A 106 (280 * b + t) + 0 + 0
  omega
theorem spA_next {A : ab_An} {b k d : Int} (hk : 0 ≤ k) (hd : d = 9) : spA A b k d = spA A b (k + 1) 1 := by
  subst hd
  unfold spA
  congr 1
  funext t
  rw [sm_step _ hk]
  show _ = A 106 (280 * b + t) + (_ + scol (A 101) (fun x => A 106 (280 * b + x)) t k) + 0
  show _ + _ + scol (A 101) (fun x => A 106 (280 * b + x)) t k = _
  omega
theorem sd_at {ld : Int → Int} {k d x y : Int} (hx : x = k % 20 + d % 3 - 1) (hy : y = k / 20 + d / 3 - 1) (h : 0 ≤ x ∧ x < 20 ∧ 0 ≤ y ∧ y < 14) (hl : ld (20 * y + x) = 0) : sd ld k d = 20 * y + x := by
  unfold sd; rw [← hx, ← hy, if_pos ⟨h.1, h.2.1, h.2.2.1, h.2.2.2, hl⟩]
theorem sd_no {ld : Int → Int} {k d x y : Int} (hx : x = k % 20 + d % 3 - 1) (hy : y = k / 20 + d / 3 - 1) (h : ¬ (0 ≤ x ∧ x < 20 ∧ 0 ≤ y ∧ y < 14) ∨ ¬ ld (20 * y + x) = 0) : sd ld k d = -1 := by
  unfold sd; rw [← hx, ← hy, if_neg]
  intro z
  rcases h with h | h
  · exact h ⟨z.1, z.2.1, z.2.2.1, z.2.2.2.1⟩
  · exact h z.2.2.2.2
theorem spA_half {d : Int} (h0 : 0 ≤ d) (h1 : d % 2 = 1) : (((d / 2).toNat : Nat) : Int) * 2 + 1 = d ∧ ((d + 2) / 2).toNat = (d / 2).toNat + 1 := by omega
theorem spA_no {A : ab_An} {b k d : Int} (h0 : 0 ≤ d) (h1 : d % 2 = 1) (hs : sd (A 101) k d = -1) : spA A b k d = spA A b k (d + 2) := by
  obtain ⟨e1, e2⟩ := spA_half h0 h1
  funext i x
  by_cases h2 : i = 119
  · subst h2
    by_cases hx : 0 ≤ x ∧ x < 280
    · rw [spA_119 hx, spA_119 hx, e2]
      show _ = _ + (_ + sterm (A 101) (fun x => A 106 (280 * b + x)) k (2 * (((d / 2).toNat : Nat) : Int) + 1) x)
      have e3 : 2 * (((d / 2).toNat : Nat) : Int) + 1 = d := by omega
      rw [e3]
      unfold sterm
      rw [hs, if_neg (by omega), if_neg (by simp)]
      omega
    · rw [spA_119o hx, spA_119o hx]
  · rw [spA_o h2, spA_o h2]
theorem spA_yes {A : ab_An} {b k d t : Int} (h0 : 0 ≤ d) (h1 : d % 2 = 1) (hk : 0 ≤ k ∧ k < 280) (ht : 0 ≤ t ∧ t < 280) (hne : t ≠ k) (hs : sd (A 101) k d = t) : upA (upA (spA A b k d) 119 t (spA A b k d 119 t + A 106 (280 * b + k) / 8)) 119 k (upA (spA A b k d) 119 t (spA A b k d 119 t + A 106 (280 * b + k) / 8) 119 k - A 106 (280 * b + k) / 8) = spA A b k (d + 2) := by
  obtain ⟨e1, e2⟩ := spA_half h0 h1
  have e3 : 2 * (((d / 2).toNat : Nat) : Int) + 1 = d := by omega
  funext i x
  by_cases h2 : i = 119
  · subst h2
    by_cases hx : 0 ≤ x ∧ x < 280
    · rw [spA_119 hx, e2]
      show _ = _ + (_ + sterm (A 101) (fun x => A 106 (280 * b + x)) k (2 * (((d / 2).toNat : Nat) : Int) + 1) x)
      rw [e3]
      have e4 : sterm (A 101) (fun x => A 106 (280 * b + x)) k d x = (if sd (A 101) k d = x then A 106 (280 * b + k) / 8 else 0) - (if sd (A 101) k d ≠ -1 ∧ k = x then A 106 (280 * b + k) / 8 else 0) := rfl
      rw [e4, hs]
      by_cases q1 : x = k
      · subst q1
        rw [upA_at, upA_ne (fun z => hne z.symm), spA_119 hx, if_neg hne, if_pos ⟨by omega, rfl⟩]
        omega
      · rw [upA_ne q1, if_neg (c := t ≠ -1 ∧ k = x) (fun z => q1 z.2.symm)]
        by_cases q2 : x = t
        · subst q2
          rw [upA_at, spA_119 hx, if_pos rfl]; omega
        · rw [upA_ne q2, spA_119 hx, if_neg (fun z => q2 z.symm)]; omega
    · rw [upA_ne (fun z => hx (by omega)), upA_ne (fun z => hx (by omega)), spA_119o hx, spA_119o hx]
  · rw [upA_other h2, upA_other h2, spA_o h2, spA_o h2]

set_option maxHeartbeats 4000000 in
set_option maxRecDepth 100000 in
theorem m_drifts (l : Launch) (S : ab_St) (F : ab_Fn) (A : ab_An) (hS : ab_SM S) (b : Int) (h1 : 0 ≤ b ∧ b < 10) (hl : ∀ k, 0 ≤ k → k < 280 → A 101 k = 0 ∨ A 101 k = 1) (hc : ∀ k, 0 ≤ k → k < 280 → -2 ≤ A 102 k ∧ A 102 k ≤ 2 ∧ -2 ≤ A 103 k ∧ A 103 k ≤ 2) : ab_Met l yX10_drifts cX10_drifts 6 none { frames := 1, cells := 0, slots := 0, locals := 21 } 0 0 [aR 100, aI b] S F A (fun v S' F' A' => v = none ∧ S = S' ∧ F = F' ∧ A' = setRow (drA A b 280) 106 (280 * b) 280 (drT (A 101) (A 102) (A 103) (fun x => A 106 (280 * b + x)))) := by
  refine ab_enter (by decide) (by simp [aI, aR, aX, ab_val, Value.category]) (Nat.le_of_ble_eq_true rfl) (fun E C hr => ?_)
  refine j_eq (lv' := [some (aR 100), some (aI b), none, none, none, none]) ?_
  refine j_iconst C dX10_drifts_0 ?_
  refine j_istore_n C (lv' := [some (aR 100), some (aI b), some (aI 0), none, none, none]) dX10_drifts_1 rfl (by decide) rfl ?_
  have K2 : ∀ (N : Nat) (k : Int), (0 ≤ k ∧ k ≤ 280) → ((280 - k).toNat) < N → ab_J E 6 0 0 S F (setRow A 119 0 k (fun _ => 0)) 2 [some (aR 100), some (aI b), some (aI k), none, none, none] [] := by
    intro N
    induction N with
    | zero => intro k hk hm; exact absurd hm (Nat.not_lt_zero _)
    | succ N ih =>
      have ih2 := ih
      clear ih
      intro k hk hm2
      refine j_iload_n C dX10_drifts_2 rfl rfl ?_
      refine j_sipush C dX10_drifts_3 rfl ?_
      refine j_icmp_ge C (tgt := 22) dX10_drifts_6 (by decide) ⟨by omega, by omega⟩ ⟨by omega, by omega⟩ (fun c6 => ?_) (fun c6 => ?_)
      · have e : k = 280 := by omega
        subst e
        refine j_iconst C dX10_drifts_22 ?_
        refine j_istore_n C (lv' := [some (aR 100), some (aI b), some (aI 0), none, none, none]) dX10_drifts_23 rfl (by decide) rfl ?_
        have K24 : ∀ (N : Nat) (k : Int), (0 ≤ k ∧ k ≤ 280) → ((280 - k).toNat) < N → ab_J E 6 0 0 S F (drA A b k) 24 [some (aR 100), some (aI b), some (aI k), none, none, none] [] := by
          intro N
          induction N with
          | zero => intro k hk hm; exact absurd hm (Nat.not_lt_zero _)
          | succ N ih =>
            have ih24 := ih
            clear ih
            intro k hk hm24
            refine j_iload_n C dX10_drifts_24 rfl rfl ?_
            refine j_sipush C dX10_drifts_25 rfl ?_
            refine j_icmp_ge C (tgt := 136) dX10_drifts_28 (by decide) ⟨by omega, by omega⟩ ⟨by omega, by omega⟩ (fun c28 => ?_) (fun c28 => ?_)
            · have e : k = 280 := by omega
              subst e
              refine j_iconst C dX10_drifts_136 ?_
              refine j_istore_n C (lv' := [some (aR 100), some (aI b), some (aI 0), none, none, none]) dX10_drifts_137 rfl (by decide) rfl ?_
              have K138 : ∀ (N : Nat) (k : Int), (0 ≤ k ∧ k ≤ 280) → ((280 - k).toNat) < N → ab_J E 6 0 0 S F (setRow (drA A b 280) 106 (280 * b) k (drT (A 101) (A 102) (A 103) (fun x => A 106 (280 * b + x)))) 138 [some (aR 100), some (aI b), some (aI k), none, none, none] [] := by
                intro N
                induction N with
                | zero => intro k hk hm; exact absurd hm (Nat.not_lt_zero _)
                | succ N ih =>
                  have ih138 := ih
                  clear ih
                  intro k hk hm138
                  refine j_iload_n C dX10_drifts_138 rfl rfl ?_
                  refine j_sipush C dX10_drifts_139 rfl ?_
                  refine j_icmp_ge C (tgt := 169) dX10_drifts_142 (by decide) ⟨by omega, by omega⟩ ⟨by omega, by omega⟩ (fun c142 => ?_) (fun c142 => ?_)
                  · have e : k = 280 := by omega
                    subst e
                    exact j_vret C hr (Nat.le_refl _) (Nat.le_refl _) dX10_drifts_169 ⟨rfl, rfl, rfl, rfl⟩
                  · refine j_aload_n C dX10_drifts_145 rfl rfl ?_
                    refine j_getR C (j := 106) fl_X10_27 (sM_100 hS) rfl dX10_drifts_146 ?_
                    refine j_sipush C dX10_drifts_149 rfl ?_
                    refine j_iload_n C dX10_drifts_152 rfl rfl ?_
                    refine j_imul C dX10_drifts_153 ?_
                    refine j_iload_n C dX10_drifts_154 rfl rfl ?_
                    refine j_iadd C dX10_drifts_155 ?_
                    refine j_aload_n C dX10_drifts_156 rfl rfl ?_
                    refine j_getR C (j := 119) fl_X10_57 (sM_100 hS) rfl dX10_drifts_157 ?_
                    refine j_iload_n C dX10_drifts_160 rfl rfl ?_
                    refine j_iald C (sM_119 hS) (by omega) (by omega) (by decide) dX10_drifts_161 ?_
                    refine j_iast C (sM_106 hS) (by omega) (by omega) (by decide) dX10_drifts_162 ?_
                    refine j_iinc C (lv' := [some (aR 100), some (aI b), some (aI (k + 1)), none, none, none]) dX10_drifts_163 rfl (by decide) rfl ?_
                    refine j_goto C (tgt := 138) dX10_drifts_166 (by decide) ?_
                    refine j_eq (A' := (setRow (drA A b 280) 106 (280 * b) (k + 1) (drT (A 101) (A 102) (A 103) (fun x => A 106 (280 * b + x))))) ?_ (e4 := (setRow_up (by omega) rfl (by rw [setRow_other (by decide), drA_119 (by omega)]; rfl)))
                    exact ih138 (k + 1) (by omega) (by omega)
              refine j_eq (A' := (setRow (drA A b 280) 106 (280 * b) 0 (drT (A 101) (A 102) (A 103) (fun x => A 106 (280 * b + x))))) ?_ (e4 := (setRow_0 _ _ _ _))
              exact K138 _ 0 (by omega) (Nat.lt_succ_self _)
            · refine j_aload_n C dX10_drifts_31 rfl rfl ?_
              refine j_getR C (j := 106) fl_X10_27 (sM_100 hS) rfl dX10_drifts_32 ?_
              refine j_sipush C dX10_drifts_35 rfl ?_
              refine j_iload_n C dX10_drifts_38 rfl rfl ?_
              refine j_imul C dX10_drifts_39 ?_
              refine j_iload_n C dX10_drifts_40 rfl rfl ?_
              refine j_iadd C dX10_drifts_41 ?_
              refine j_iald C (sM_106 hS) (by omega) (by omega) (by decide) dX10_drifts_42 ?_
              refine j_eq (st' := [aI (A 106 (280 * b + k))]) ?_
              refine j_istore_n C (lv' := [some (aR 100), some (aI b), some (aI k), some (aI (A 106 (280 * b + k))), none, none]) dX10_drifts_43 rfl (by decide) rfl ?_
              refine j_iload_n C dX10_drifts_44 rfl rfl ?_
              refine j_bipush C dX10_drifts_45 rfl ?_
              refine j_irem C dX10_drifts_47 (by omega) (by omega) (by omega) (by omega) ?_
              refine j_aload_n C dX10_drifts_48 rfl rfl ?_
              refine j_getR C (j := 102) fl_X10_17 (sM_100 hS) rfl dX10_drifts_49 ?_
              refine j_iload_n C dX10_drifts_52 rfl rfl ?_
              refine j_iald C (sM_102 hS) (by omega) (by omega) (by decide) dX10_drifts_53 ?_
              refine j_eq (st' := [aI (A 102 k), aI (k % 20)]) ?_
              have hcc := hc k (by omega) (by omega)
              obtain ⟨x, hx⟩ : ∃ x : Int, x = k % 20 + A 102 k := ⟨_, rfl⟩
              refine j_iadd C dX10_drifts_54 ?_
              refine j_eq (st' := [aI x]) ?_ (e1 := by first | rfl | (simp only [List.cons.injEq, and_true]; exact congrArg aI (hx.symm)))
              refine j_istore C (lv' := [some (aR 100), some (aI b), some (aI k), some (aI (A 106 (280 * b + k))), some (aI x), none]) dX10_drifts_55 (by decide) rfl ?_
              refine j_iload_n C dX10_drifts_57 rfl rfl ?_
              refine j_bipush C dX10_drifts_58 rfl ?_
              refine j_idiv C dX10_drifts_60 (by omega) (by omega) (by omega) (by omega) ?_
              refine j_aload_n C dX10_drifts_61 rfl rfl ?_
              refine j_getR C (j := 103) fl_X10_21 (sM_100 hS) rfl dX10_drifts_62 ?_
              refine j_iload_n C dX10_drifts_65 rfl rfl ?_
              refine j_iald C (sM_103 hS) (by omega) (by omega) (by decide) dX10_drifts_66 ?_
              refine j_eq (st' := [aI (A 103 k), aI (k / 20)]) ?_
              obtain ⟨y, hy⟩ : ∃ y : Int, y = k / 20 + A 103 k := ⟨_, rfl⟩
              refine j_iadd C dX10_drifts_67 ?_
              refine j_eq (st' := [aI y]) ?_ (e1 := by first | rfl | (simp only [List.cons.injEq, and_true]; exact congrArg aI (hy.symm)))
              refine j_istore C (lv' := [some (aR 100), some (aI b), some (aI k), some (aI (A 106 (280 * b + k))), some (aI x), some (aI y)]) dX10_drifts_68 (by decide) rfl ?_
              refine j_iload C dX10_drifts_70 rfl ?_
              refine j_iload C dX10_drifts_72 rfl ?_
              refine j_callS C (vs := [aI x, aI y]) (st := []) cl_X10_126 sc_yX10_isSea (fun _ => m_isSea _ S F (drA A b k) hS _ _ ⟨by omega, by omega⟩ ⟨by omega, by omega⟩) rfl ⟨rfl, rfl, by decide, by decide⟩ ⟨by decide, by decide⟩ (fun _ => Nat.le_of_ble_eq_true rfl) (fun v hv => by cases hv) (fun v hv => by simp only [List.mem_cons, List.not_mem_nil, or_false, Option.some.injEq, reduceCtorEq, false_or] at hv; rcases hv with rfl | rfl | rfl | rfl | rfl | rfl <;> first | exact (lM_100 hS) | exact trivial) dX10_drifts_74 (fun v_74 S_74 F_74 A_74 hP_74 => ?_)
              obtain ⟨rfl, rfl, rfl, z_74, rfl, ⟨rfl, hz_74⟩ | ⟨rfl, hz_74⟩⟩ := hP_74
              · show ab_J E 6 0 0 S F (drA A b k) 77 [some (aR 100), some (aI b), some (aI k), some (aI (A 106 (280 * b + k))), some (aI x), some (aI y)] [aI 1]
                refine j_if_ne C (tgt := 93) dX10_drifts_77 (by decide) ⟨by omega, by omega⟩ (fun c77 => ?_) (fun c77 => ?_)
                · refine j_aload_n C dX10_drifts_93 rfl rfl ?_
                  refine j_getR C (j := 119) fl_X10_57 (sM_100 hS) rfl dX10_drifts_94 ?_
                  refine j_aload_n C dX10_drifts_97 rfl rfl ?_
                  refine j_getR C (j := 101) fl_X10_13 (sM_100 hS) rfl dX10_drifts_98 ?_
                  refine j_bipush C dX10_drifts_101 rfl ?_
                  refine j_iload C dX10_drifts_103 rfl ?_
                  refine j_imul C dX10_drifts_105 ?_
                  refine j_iload C dX10_drifts_106 rfl ?_
                  refine j_iadd C dX10_drifts_108 ?_
                  have hll := hl (20 * y + x) (by omega) (by omega)
                  refine j_zald C (sM_101 hS) (by omega) (by omega) (by decide) dX10_drifts_109 ?_
                  refine j_eq (st' := [aI (A 101 (20 * y + x)), aR 119]) ?_
                  refine j_if_eq C (tgt := 117) dX10_drifts_110 (by decide) ⟨by omega, by omega⟩ (fun c110 => ?_) (fun c110 => ?_)
                  · refine j_bipush C dX10_drifts_117 rfl ?_
                    refine j_iload C dX10_drifts_119 rfl ?_
                    refine j_imul C dX10_drifts_121 ?_
                    refine j_iload C dX10_drifts_122 rfl ?_
                    refine j_iadd C dX10_drifts_124 ?_
                    refine j_dup2 C dX10_drifts_125 (fun _ => rfl) (fun _ => rfl) ?_
                    refine j_iald C (sM_119 hS) (by omega) (by omega) (by decide) dX10_drifts_126 ?_
                    refine j_iload_n C dX10_drifts_127 rfl rfl ?_
                    refine j_iadd C dX10_drifts_128 ?_
                    refine j_iast C (sM_119 hS) (by omega) (by omega) (by decide) dX10_drifts_129 ?_
                    refine j_iinc C (lv' := [some (aR 100), some (aI b), some (aI (k + 1)), some (aI (A 106 (280 * b + k))), some (aI x), some (aI y)]) dX10_drifts_130 rfl (by decide) rfl ?_
                    refine j_goto C (tgt := 24) dX10_drifts_133 (by decide) ?_
                    refine j_lv (lv' := [some (aR 100), some (aI b), some (aI (k + 1)), none, none, none]) ?_ ⟨rfl, rfl, rfl, trivial⟩
                    refine j_eq (A' := (drA A b (k + 1))) ?_ (e4 := (by first | exact drA_out hk.1 (dst_out hx hy hz_74) | exact drA_in hk.1 (by omega) (dst_in hx hy hz_74 (by omega)) | exact drA_in hk.1 (by omega) (dst_stay hx hy hz_74 (by omega))))
                    exact ih24 (k + 1) (by omega) (by omega)
                  · refine j_iload_n C dX10_drifts_113 rfl rfl ?_
                    refine j_goto C (tgt := 125) dX10_drifts_114 (by decide) ?_
                    refine j_dup2 C dX10_drifts_125 (fun _ => rfl) (fun _ => rfl) ?_
                    refine j_iald C (sM_119 hS) (by omega) (by omega) (by decide) dX10_drifts_126 ?_
                    refine j_iload_n C dX10_drifts_127 rfl rfl ?_
                    refine j_iadd C dX10_drifts_128 ?_
                    refine j_iast C (sM_119 hS) (by omega) (by omega) (by decide) dX10_drifts_129 ?_
                    refine j_iinc C (lv' := [some (aR 100), some (aI b), some (aI (k + 1)), some (aI (A 106 (280 * b + k))), some (aI x), some (aI y)]) dX10_drifts_130 rfl (by decide) rfl ?_
                    refine j_goto C (tgt := 24) dX10_drifts_133 (by decide) ?_
                    refine j_lv (lv' := [some (aR 100), some (aI b), some (aI (k + 1)), none, none, none]) ?_ ⟨rfl, rfl, rfl, trivial⟩
                    refine j_eq (A' := (drA A b (k + 1))) ?_ (e4 := (by first | exact drA_out hk.1 (dst_out hx hy hz_74) | exact drA_in hk.1 (by omega) (dst_in hx hy hz_74 (by omega)) | exact drA_in hk.1 (by omega) (dst_stay hx hy hz_74 (by omega))))
                    exact ih24 (k + 1) (by omega) (by omega)
                · exact absurd c77 (by decide)
              · show ab_J E 6 0 0 S F (drA A b k) 77 [some (aR 100), some (aI b), some (aI k), some (aI (A 106 (280 * b + k))), some (aI x), some (aI y)] [aI 0]
                refine j_if_ne C (tgt := 93) dX10_drifts_77 (by decide) ⟨by omega, by omega⟩ (fun c77 => ?_) (fun c77 => ?_)
                · exact absurd c77 (by decide)
                · refine j_aload_n C dX10_drifts_80 rfl rfl ?_
                  refine j_getR C (j := 109) fl_X10_36 (sM_100 hS) rfl dX10_drifts_81 ?_
                  refine j_iload_n C dX10_drifts_84 rfl rfl ?_
                  refine j_dup2 C dX10_drifts_85 (fun _ => rfl) (fun _ => rfl) ?_
                  refine j_iald C (sM_109 hS) (by omega) (by omega) (by decide) dX10_drifts_86 ?_
                  refine j_iload_n C dX10_drifts_87 rfl rfl ?_
                  refine j_iadd C dX10_drifts_88 ?_
                  refine j_iast C (sM_109 hS) (by omega) (by omega) (by decide) dX10_drifts_89 ?_
                  refine j_goto C (tgt := 130) dX10_drifts_90 (by decide) ?_
                  refine j_iinc C (lv' := [some (aR 100), some (aI b), some (aI (k + 1)), some (aI (A 106 (280 * b + k))), some (aI x), some (aI y)]) dX10_drifts_130 rfl (by decide) rfl ?_
                  refine j_goto C (tgt := 24) dX10_drifts_133 (by decide) ?_
                  refine j_lv (lv' := [some (aR 100), some (aI b), some (aI (k + 1)), none, none, none]) ?_ ⟨rfl, rfl, rfl, trivial⟩
                  refine j_eq (A' := (drA A b (k + 1))) ?_ (e4 := (by first | exact drA_out hk.1 (dst_out hx hy hz_74) | exact drA_in hk.1 (by omega) (dst_in hx hy hz_74 (by omega)) | exact drA_in hk.1 (by omega) (dst_stay hx hy hz_74 (by omega))))
                  exact ih24 (k + 1) (by omega) (by omega)
        refine j_eq (A' := (drA A b 0)) ?_ (e4 := (drA_0 A b))
        exact K24 _ 0 (by omega) (Nat.lt_succ_self _)
      · refine j_aload_n C dX10_drifts_9 rfl rfl ?_
        refine j_getR C (j := 119) fl_X10_57 (sM_100 hS) rfl dX10_drifts_10 ?_
        refine j_iload_n C dX10_drifts_13 rfl rfl ?_
        refine j_iconst C dX10_drifts_14 ?_
        refine j_iast C (sM_119 hS) (by omega) (by omega) (by decide) dX10_drifts_15 ?_
        refine j_iinc C (lv' := [some (aR 100), some (aI b), some (aI (k + 1)), none, none, none]) dX10_drifts_16 rfl (by decide) rfl ?_
        refine j_goto C (tgt := 2) dX10_drifts_19 (by decide) ?_
        refine j_eq (A' := (setRow A 119 0 (k + 1) (fun _ => 0))) ?_ (e4 := (setRow_up (by omega) (by omega) rfl))
        exact ih2 (k + 1) (by omega) (by omega)
  refine j_eq (A' := (setRow A 119 0 0 (fun _ => 0))) ?_ (e4 := (setRow_0 _ _ _ _))
  exact K2 _ 0 (by omega) (Nat.lt_succ_self _)

set_option maxHeartbeats 4000000 in
set_option maxRecDepth 100000 in
theorem m_spreads (l : Launch) (S : ab_St) (F : ab_Fn) (A : ab_An) (hS : ab_SM S) (b : Int) (h1 : 0 ≤ b ∧ b < 10) (hl : ∀ k, 0 ≤ k → k < 280 → A 101 k = 0 ∨ A 101 k = 1) (hp : ∀ k, 0 ≤ k → k < 280 → 0 ≤ A 106 (280 * b + k) ∧ A 106 (280 * b + k) ≤ 1000000) : ab_Met l yX10_spreads cX10_spreads 6 none { frames := 1, cells := 0, slots := 0, locals := 21 } 0 0 [aR 100, aI b] S F A (fun v S' F' A' => v = none ∧ S = S' ∧ F = F' ∧ A' = setRow (spA A b 280 1) 106 (280 * b) 280 (spT (A 101) (fun x => A 106 (280 * b + x)))) := by
  refine ab_enter (by decide) (by simp [aI, aR, aX, ab_val, Value.category]) (Nat.le_of_ble_eq_true rfl) (fun E C hr => ?_)
  refine j_eq (lv' := [some (aR 100), some (aI b), none, none, none, none]) ?_
  refine j_iconst C dX10_spreads_0 ?_
  refine j_istore_n C (lv' := [some (aR 100), some (aI b), some (aI 0), none, none, none]) dX10_spreads_1 rfl (by decide) rfl ?_
  have K2 : ∀ (N : Nat) (k : Int), (0 ≤ k ∧ k ≤ 280) → ((280 - k).toNat) < N → ab_J E 6 0 0 S F (setRow A 119 0 k (fun x => A 106 (280 * b + x))) 2 [some (aR 100), some (aI b), some (aI k), none, none, none] [] := by
    intro N
    induction N with
    | zero => intro k hk hm; exact absurd hm (Nat.not_lt_zero _)
    | succ N ih =>
      have ih2 := ih
      clear ih
      intro k hk hm2
      refine j_iload_n C dX10_spreads_2 rfl rfl ?_
      refine j_sipush C dX10_spreads_3 rfl ?_
      refine j_icmp_ge C (tgt := 33) dX10_spreads_6 (by decide) ⟨by omega, by omega⟩ ⟨by omega, by omega⟩ (fun c6 => ?_) (fun c6 => ?_)
      · have e : k = 280 := by omega
        subst e
        refine j_iconst C dX10_spreads_33 ?_
        refine j_istore_n C (lv' := [some (aR 100), some (aI b), some (aI 0), none, none, none]) dX10_spreads_34 rfl (by decide) rfl ?_
        have K35 : ∀ (N : Nat) (k : Int), (0 ≤ k ∧ k ≤ 280) → ((280 - k).toNat) < N → ab_J E 6 0 0 S F (spA A b k 1) 35 [some (aR 100), some (aI b), some (aI k), none, none, none] [] := by
          intro N
          induction N with
          | zero => intro k hk hm; exact absurd hm (Nat.not_lt_zero _)
          | succ N ih =>
            have ih35 := ih
            clear ih
            intro k hk hm35
            refine j_iload_n C dX10_spreads_35 rfl rfl ?_
            refine j_sipush C dX10_spreads_36 rfl ?_
            refine j_icmp_ge C (tgt := 170) dX10_spreads_39 (by decide) ⟨by omega, by omega⟩ ⟨by omega, by omega⟩ (fun c39 => ?_) (fun c39 => ?_)
            · have e : k = 280 := by omega
              subst e
              refine j_iconst C dX10_spreads_170 ?_
              refine j_istore_n C (lv' := [some (aR 100), some (aI b), some (aI 0), none, none, none]) dX10_spreads_171 rfl (by decide) rfl ?_
              have K172 : ∀ (N : Nat) (k : Int), (0 ≤ k ∧ k ≤ 280) → ((280 - k).toNat) < N → ab_J E 6 0 0 S F (setRow (spA A b 280 1) 106 (280 * b) k (spT (A 101) (fun x => A 106 (280 * b + x)))) 172 [some (aR 100), some (aI b), some (aI k), none, none, none] [] := by
                intro N
                induction N with
                | zero => intro k hk hm; exact absurd hm (Nat.not_lt_zero _)
                | succ N ih =>
                  have ih172 := ih
                  clear ih
                  intro k hk hm172
                  refine j_iload_n C dX10_spreads_172 rfl rfl ?_
                  refine j_sipush C dX10_spreads_173 rfl ?_
                  refine j_icmp_ge C (tgt := 203) dX10_spreads_176 (by decide) ⟨by omega, by omega⟩ ⟨by omega, by omega⟩ (fun c176 => ?_) (fun c176 => ?_)
                  · have e : k = 280 := by omega
                    subst e
                    exact j_vret C hr (Nat.le_refl _) (Nat.le_refl _) dX10_spreads_203 ⟨rfl, rfl, rfl, rfl⟩
                  · refine j_aload_n C dX10_spreads_179 rfl rfl ?_
                    refine j_getR C (j := 106) fl_X10_27 (sM_100 hS) rfl dX10_spreads_180 ?_
                    refine j_sipush C dX10_spreads_183 rfl ?_
                    refine j_iload_n C dX10_spreads_186 rfl rfl ?_
                    refine j_imul C dX10_spreads_187 ?_
                    refine j_iload_n C dX10_spreads_188 rfl rfl ?_
                    refine j_iadd C dX10_spreads_189 ?_
                    refine j_aload_n C dX10_spreads_190 rfl rfl ?_
                    refine j_getR C (j := 119) fl_X10_57 (sM_100 hS) rfl dX10_spreads_191 ?_
                    refine j_iload_n C dX10_spreads_194 rfl rfl ?_
                    refine j_iald C (sM_119 hS) (by omega) (by omega) (by decide) dX10_spreads_195 ?_
                    refine j_iast C (sM_106 hS) (by omega) (by omega) (by decide) dX10_spreads_196 ?_
                    refine j_iinc C (lv' := [some (aR 100), some (aI b), some (aI (k + 1)), none, none, none]) dX10_spreads_197 rfl (by decide) rfl ?_
                    refine j_goto C (tgt := 172) dX10_spreads_200 (by decide) ?_
                    refine j_eq (A' := (setRow (spA A b 280 1) 106 (280 * b) (k + 1) (spT (A 101) (fun x => A 106 (280 * b + x))))) ?_ (e4 := (setRow_up (by omega) rfl (by rw [setRow_other (by decide), spA_119 (by omega)]; show _ + sm _ 280 + sm _ 0 = _ + sm _ 280; simp [sm])))
                    exact ih172 (k + 1) (by omega) (by omega)
              refine j_eq (A' := (setRow (spA A b 280 1) 106 (280 * b) 0 (spT (A 101) (fun x => A 106 (280 * b + x))))) ?_ (e4 := (setRow_0 _ _ _ _))
              exact K172 _ 0 (by omega) (Nat.lt_succ_self _)
            · refine j_iconst C dX10_spreads_42 ?_
              refine j_istore_n C (lv' := [some (aR 100), some (aI b), some (aI k), some (aI 1), none, none]) dX10_spreads_43 rfl (by decide) rfl ?_
              have K44 : ∀ (N : Nat) (d : Int), (1 ≤ d ∧ d ≤ 9 ∧ d % 2 = 1) → ((9 - d).toNat) < N → ab_J E 6 0 0 S F (spA A b k d) 44 [some (aR 100), some (aI b), some (aI k), some (aI d), none, none] [] := by
                intro N
                induction N with
                | zero => intro d hd hm; exact absurd hm (Nat.not_lt_zero _)
                | succ N ih =>
                  have ih44 := ih
                  clear ih
                  intro d hd hm44
                  have hpk := hp k (by omega) (by omega)
                  refine j_iload_n C dX10_spreads_44 rfl rfl ?_
                  refine j_bipush C dX10_spreads_45 rfl ?_
                  refine j_icmp_ge C (tgt := 164) dX10_spreads_47 (by decide) ⟨by omega, by omega⟩ ⟨by omega, by omega⟩ (fun c47 => ?_) (fun c47 => ?_)
                  · refine j_iinc C (lv' := [some (aR 100), some (aI b), some (aI (k + 1)), some (aI d), none, none]) dX10_spreads_164 rfl (by decide) rfl ?_
                    refine j_goto C (tgt := 35) dX10_spreads_167 (by decide) ?_
                    refine j_lv (lv' := [some (aR 100), some (aI b), some (aI (k + 1)), none, none, none]) ?_ ⟨rfl, rfl, rfl, trivial⟩
                    refine j_eq (A' := (spA A b (k + 1) 1)) ?_ (e4 := (spA_next hk.1 (by omega)))
                    exact ih35 (k + 1) (by omega) (by omega)
                  · refine j_iload_n C dX10_spreads_50 rfl rfl ?_
                    refine j_bipush C dX10_spreads_51 rfl ?_
                    refine j_irem C dX10_spreads_53 (by omega) (by omega) (by omega) (by omega) ?_
                    refine j_iload_n C dX10_spreads_54 rfl rfl ?_
                    refine j_iconst C dX10_spreads_55 ?_
                    refine j_irem C dX10_spreads_56 (by omega) (by omega) (by omega) (by omega) ?_
                    refine j_iadd C dX10_spreads_57 ?_
                    refine j_iconst C dX10_spreads_58 ?_
                    obtain ⟨x, hx⟩ : ∃ x : Int, x = k % 20 + d % 3 - 1 := ⟨_, rfl⟩
                    refine j_isub C dX10_spreads_59 ?_
                    refine j_eq (st' := [aI x]) ?_ (e1 := by first | rfl | (simp only [List.cons.injEq, and_true]; exact congrArg aI (hx.symm)))
                    refine j_istore C (lv' := [some (aR 100), some (aI b), some (aI k), some (aI d), some (aI x), none]) dX10_spreads_60 (by decide) rfl ?_
                    refine j_iload_n C dX10_spreads_62 rfl rfl ?_
                    refine j_bipush C dX10_spreads_63 rfl ?_
                    refine j_idiv C dX10_spreads_65 (by omega) (by omega) (by omega) (by omega) ?_
                    refine j_iload_n C dX10_spreads_66 rfl rfl ?_
                    refine j_iconst C dX10_spreads_67 ?_
                    refine j_idiv C dX10_spreads_68 (by omega) (by omega) (by omega) (by omega) ?_
                    refine j_iadd C dX10_spreads_69 ?_
                    refine j_iconst C dX10_spreads_70 ?_
                    obtain ⟨y, hy⟩ : ∃ y : Int, y = k / 20 + d / 3 - 1 := ⟨_, rfl⟩
                    refine j_isub C dX10_spreads_71 ?_
                    refine j_eq (st' := [aI y]) ?_ (e1 := by first | rfl | (simp only [List.cons.injEq, and_true]; exact congrArg aI (hy.symm)))
                    refine j_istore C (lv' := [some (aR 100), some (aI b), some (aI k), some (aI d), some (aI x), some (aI y)]) dX10_spreads_72 (by decide) rfl ?_
                    refine j_iload C dX10_spreads_74 rfl ?_
                    refine j_iload C dX10_spreads_76 rfl ?_
                    refine j_callS C (vs := [aI x, aI y]) (st := []) cl_X10_126 sc_yX10_isSea (fun _ => m_isSea _ S F (spA A b k d) hS _ _ ⟨by omega, by omega⟩ ⟨by omega, by omega⟩) rfl ⟨rfl, rfl, by decide, by decide⟩ ⟨by decide, by decide⟩ (fun _ => Nat.le_of_ble_eq_true rfl) (fun v hv => by cases hv) (fun v hv => by simp only [List.mem_cons, List.not_mem_nil, or_false, Option.some.injEq, reduceCtorEq, false_or] at hv; rcases hv with rfl | rfl | rfl | rfl | rfl | rfl <;> first | exact (lM_100 hS) | exact trivial) dX10_spreads_78 (fun v_78 S_78 F_78 A_78 hP_78 => ?_)
                    obtain ⟨rfl, rfl, rfl, z_78, rfl, ⟨rfl, hz_78⟩ | ⟨rfl, hz_78⟩⟩ := hP_78
                    · show ab_J E 6 0 0 S F (spA A b k d) 81 [some (aR 100), some (aI b), some (aI k), some (aI d), some (aI x), some (aI y)] [aI 1]
                      refine j_if_eq C (tgt := 158) dX10_spreads_81 (by decide) ⟨by omega, by omega⟩ (fun c81 => ?_) (fun c81 => ?_)
                      · exact absurd c81 (by decide)
                      · refine j_aload_n C dX10_spreads_84 rfl rfl ?_
                        refine j_getR C (j := 101) fl_X10_13 (sM_100 hS) rfl dX10_spreads_85 ?_
                        refine j_bipush C dX10_spreads_88 rfl ?_
                        refine j_iload C dX10_spreads_90 rfl ?_
                        refine j_imul C dX10_spreads_92 ?_
                        refine j_iload C dX10_spreads_93 rfl ?_
                        refine j_iadd C dX10_spreads_95 ?_
                        have hll := hl (20 * y + x) (by omega) (by omega)
                        refine j_zald C (sM_101 hS) (by omega) (by omega) (by decide) dX10_spreads_96 ?_
                        refine j_eq (st' := [aI (A 101 (20 * y + x))]) ?_
                        refine j_if_eq C (tgt := 103) dX10_spreads_97 (by decide) ⟨by omega, by omega⟩ (fun c97 => ?_) (fun c97 => ?_)
                        · refine j_aload_n C dX10_spreads_103 rfl rfl ?_
                          refine j_getR C (j := 119) fl_X10_57 (sM_100 hS) rfl dX10_spreads_104 ?_
                          refine j_bipush C dX10_spreads_107 rfl ?_
                          refine j_iload C dX10_spreads_109 rfl ?_
                          refine j_imul C dX10_spreads_111 ?_
                          refine j_iload C dX10_spreads_112 rfl ?_
                          refine j_iadd C dX10_spreads_114 ?_
                          refine j_dup2 C dX10_spreads_115 (fun _ => rfl) (fun _ => rfl) ?_
                          refine j_iald C (sM_119 hS) (by omega) (by omega) (by decide) dX10_spreads_116 ?_
                          refine j_aload_n C dX10_spreads_117 rfl rfl ?_
                          refine j_getR C (j := 106) fl_X10_27 (sM_100 hS) rfl dX10_spreads_118 ?_
                          refine j_sipush C dX10_spreads_121 rfl ?_
                          refine j_iload_n C dX10_spreads_124 rfl rfl ?_
                          refine j_imul C dX10_spreads_125 ?_
                          refine j_iload_n C dX10_spreads_126 rfl rfl ?_
                          refine j_iadd C dX10_spreads_127 ?_
                          refine j_iald C (sM_106 hS) (by omega) (by omega) (by decide) dX10_spreads_128 ?_
                          refine j_eq (st' := [aI (A 106 (280 * b + k)), aI ((spA A b k d) 119 ((20 * y) + x)), aI ((20 * y) + x), aR 119]) ?_
                          refine j_bipush C dX10_spreads_129 rfl ?_
                          refine j_idiv C dX10_spreads_131 (by omega) (by omega) (by omega) (by omega) ?_
                          refine j_iadd C dX10_spreads_132 ?_
                          refine j_iast C (sM_119 hS) (by omega) (by omega) (by decide) dX10_spreads_133 ?_
                          refine j_aload_n C dX10_spreads_134 rfl rfl ?_
                          refine j_getR C (j := 119) fl_X10_57 (sM_100 hS) rfl dX10_spreads_135 ?_
                          refine j_iload_n C dX10_spreads_138 rfl rfl ?_
                          refine j_dup2 C dX10_spreads_139 (fun _ => rfl) (fun _ => rfl) ?_
                          refine j_iald C (sM_119 hS) (by omega) (by omega) (by decide) dX10_spreads_140 ?_
                          refine j_aload_n C dX10_spreads_141 rfl rfl ?_
                          refine j_getR C (j := 106) fl_X10_27 (sM_100 hS) rfl dX10_spreads_142 ?_
                          refine j_sipush C dX10_spreads_145 rfl ?_
                          refine j_iload_n C dX10_spreads_148 rfl rfl ?_
                          refine j_imul C dX10_spreads_149 ?_
                          refine j_iload_n C dX10_spreads_150 rfl rfl ?_
                          refine j_iadd C dX10_spreads_151 ?_
                          refine j_iald C (sM_106 hS) (by omega) (by omega) (by decide) dX10_spreads_152 ?_
                          refine j_eq (st' := [aI ((spA A b k d) 106 ((280 * b) + k)), aI ((upA (spA A b k d) 119 ((20 * y) + x) (((spA A b k d) 119 ((20 * y) + x)) + ((A 106 (280 * b + k)) / 8))) 119 k), aI k, aR 119]) ?_
                          refine j_eq (st' := [aI (A 106 (280 * b + k)), aI ((upA (spA A b k d) 119 ((20 * y) + x) (((spA A b k d) 119 ((20 * y) + x)) + ((A 106 (280 * b + k)) / 8))) 119 k), aI k, aR 119]) ?_
                          refine j_bipush C dX10_spreads_153 rfl ?_
                          refine j_idiv C dX10_spreads_155 (by omega) (by omega) (by omega) (by omega) ?_
                          refine j_isub C dX10_spreads_156 ?_
                          refine j_iast C (sM_119 hS) (by omega) (by omega) (by decide) dX10_spreads_157 ?_
                          refine j_iinc C (lv' := [some (aR 100), some (aI b), some (aI k), some (aI (d + 2)), some (aI x), some (aI y)]) dX10_spreads_158 rfl (by decide) rfl ?_
                          refine j_goto C (tgt := 44) dX10_spreads_161 (by decide) ?_
                          refine j_lv (lv' := [some (aR 100), some (aI b), some (aI k), some (aI (d + 2)), none, none]) ?_ ⟨rfl, rfl, rfl, rfl, trivial⟩
                          refine j_eq (A' := (spA A b k (d + 2))) ?_ (e4 := (by first | exact spA_no (by omega) (by omega) (sd_no hx hy (Or.inl hz_78)) | exact spA_no (by omega) (by omega) (sd_no hx hy (Or.inr (by omega))) | exact spA_yes (by omega) (by omega) (by omega) (by omega) (by omega) (sd_at hx hy hz_78 (by omega))))
                          exact ih44 (d + 2) (by omega) (by omega)
                        · refine j_goto C (tgt := 158) dX10_spreads_100 (by decide) ?_
                          refine j_iinc C (lv' := [some (aR 100), some (aI b), some (aI k), some (aI (d + 2)), some (aI x), some (aI y)]) dX10_spreads_158 rfl (by decide) rfl ?_
                          refine j_goto C (tgt := 44) dX10_spreads_161 (by decide) ?_
                          refine j_lv (lv' := [some (aR 100), some (aI b), some (aI k), some (aI (d + 2)), none, none]) ?_ ⟨rfl, rfl, rfl, rfl, trivial⟩
                          refine j_eq (A' := (spA A b k (d + 2))) ?_ (e4 := (by first | exact spA_no (by omega) (by omega) (sd_no hx hy (Or.inl hz_78)) | exact spA_no (by omega) (by omega) (sd_no hx hy (Or.inr (by omega))) | exact spA_yes (by omega) (by omega) (by omega) (by omega) (by omega) (sd_at hx hy hz_78 (by omega))))
                          exact ih44 (d + 2) (by omega) (by omega)
                    · show ab_J E 6 0 0 S F (spA A b k d) 81 [some (aR 100), some (aI b), some (aI k), some (aI d), some (aI x), some (aI y)] [aI 0]
                      refine j_if_eq C (tgt := 158) dX10_spreads_81 (by decide) ⟨by omega, by omega⟩ (fun c81 => ?_) (fun c81 => ?_)
                      · refine j_iinc C (lv' := [some (aR 100), some (aI b), some (aI k), some (aI (d + 2)), some (aI x), some (aI y)]) dX10_spreads_158 rfl (by decide) rfl ?_
                        refine j_goto C (tgt := 44) dX10_spreads_161 (by decide) ?_
                        refine j_lv (lv' := [some (aR 100), some (aI b), some (aI k), some (aI (d + 2)), none, none]) ?_ ⟨rfl, rfl, rfl, rfl, trivial⟩
                        refine j_eq (A' := (spA A b k (d + 2))) ?_ (e4 := (by first | exact spA_no (by omega) (by omega) (sd_no hx hy (Or.inl hz_78)) | exact spA_no (by omega) (by omega) (sd_no hx hy (Or.inr (by omega))) | exact spA_yes (by omega) (by omega) (by omega) (by omega) (by omega) (sd_at hx hy hz_78 (by omega))))
                        exact ih44 (d + 2) (by omega) (by omega)
                      · exact absurd c81 (by decide)
              exact K44 _ 1 (by omega) (Nat.lt_succ_self _)
        refine j_eq (A' := (spA A b 0 1)) ?_ (e4 := (spA_0 A b))
        exact K35 _ 0 (by omega) (Nat.lt_succ_self _)
      · refine j_aload_n C dX10_spreads_9 rfl rfl ?_
        refine j_getR C (j := 119) fl_X10_57 (sM_100 hS) rfl dX10_spreads_10 ?_
        refine j_iload_n C dX10_spreads_13 rfl rfl ?_
        refine j_aload_n C dX10_spreads_14 rfl rfl ?_
        refine j_getR C (j := 106) fl_X10_27 (sM_100 hS) rfl dX10_spreads_15 ?_
        refine j_sipush C dX10_spreads_18 rfl ?_
        refine j_iload_n C dX10_spreads_21 rfl rfl ?_
        refine j_imul C dX10_spreads_22 ?_
        refine j_iload_n C dX10_spreads_23 rfl rfl ?_
        refine j_iadd C dX10_spreads_24 ?_
        refine j_iald C (sM_106 hS) (by omega) (by omega) (by decide) dX10_spreads_25 ?_
        refine j_eq (st' := [aI (A 106 (280 * b + k)), aI k, aR 119]) ?_
        refine j_iast C (sM_119 hS) (by omega) (by omega) (by decide) dX10_spreads_26 ?_
        refine j_iinc C (lv' := [some (aR 100), some (aI b), some (aI (k + 1)), none, none, none]) dX10_spreads_27 rfl (by decide) rfl ?_
        refine j_goto C (tgt := 2) dX10_spreads_30 (by decide) ?_
        refine j_eq (A' := (setRow A 119 0 (k + 1) (fun x => A 106 (280 * b + x)))) ?_ (e4 := (setRow_up (by omega) (by omega) rfl))
        exact ih2 (k + 1) (by omega) (by omega)
  refine j_eq (A' := (setRow A 119 0 0 (fun x => A 106 (280 * b + x)))) ?_ (e4 := (setRow_0 _ _ _ _))
  exact K2 _ 0 (by omega) (Nat.lt_succ_self _)

set_option maxHeartbeats 4000000 in
set_option maxRecDepth 100000 in
theorem m_melts (l : Launch) (S : ab_St) (F : ab_Fn) (A : ab_An) (hS : ab_SM S) (b : Int) (h1 : 0 ≤ b ∧ b < 10) (hw : ∀ k, 0 ≤ k → k < 280 → 0 ≤ A 104 k ∧ A 104 k ≤ 50) (hp : ∀ k, 0 ≤ k → k < 280 → inR (A 106 (280 * b + k))) (hz : -1000 ≤ A 107 b ∧ A 107 b ≤ 1000) : ab_Met l yX10_melts cX10_melts 4 none { frames := 1, cells := 0, slots := 0, locals := 30 } 0 0 [aR 100, aI b] S F A (fun v S' F' A' => v = none ∧ S = S' ∧ F = F' ∧ ((mw (A 104) (fun x => A 106 (280 * b + x)) 280 = 1000000 ∧ A' = setRow (upA A 110 b 1) 106 (280 * b) 280 (fun _ => 0)) ∨ (mw (A 104) (fun x => A 106 (280 * b + x)) 280 ≤ 50 ∧ A 107 b - mw (A 104) (fun x => A 106 (280 * b + x)) 280 ≤ 0 ∧ A' = setRow (upA (upA A 107 b (A 107 b - mw (A 104) (fun x => A 106 (280 * b + x)) 280)) 110 b 1) 106 (280 * b) 280 (fun _ => 0)) ∨ (mw (A 104) (fun x => A 106 (280 * b + x)) 280 ≤ 50 ∧ 0 < A 107 b - mw (A 104) (fun x => A 106 (280 * b + x)) 280 ∧ A' = upA A 107 b (A 107 b - mw (A 104) (fun x => A 106 (280 * b + x)) 280)))) := by
  refine ab_enter (by decide) (by simp [aI, aR, aX, ab_val, Value.category]) (Nat.le_of_ble_eq_true rfl) (fun E C hr => ?_)
  refine j_eq (lv' := [some (aR 100), some (aI b), none, none]) ?_
  refine j_ldcI C (z := 1000000) (ab_t5 (List.mem_of_getElem? (i := 134) rfl) rfl) rfl dX10_melts_0 ?_
  refine j_istore_n C (lv' := [some (aR 100), some (aI b), some (aI 1000000), none]) dX10_melts_2 rfl (by decide) rfl ?_
  refine j_iconst C dX10_melts_3 ?_
  refine j_istore_n C (lv' := [some (aR 100), some (aI b), some (aI 1000000), some (aI 0)]) dX10_melts_4 rfl (by decide) rfl ?_
  have K5 : ∀ (N : Nat) (m k : Int), (0 ≤ k ∧ k ≤ 280) → (m = mw (A 104) (fun x => A 106 (280 * b + x)) k.toNat) → ((280 - k).toNat) < N → ab_J E 4 0 0 S F A 5 [some (aR 100), some (aI b), some (aI m), some (aI k)] [] := by
    intro N
    induction N with
    | zero => intro m k hk hm9 hm; exact absurd hm (Nat.not_lt_zero _)
    | succ N ih =>
      have ih5 := ih
      clear ih
      intro m k hk hm9 hm5
      have hmr := mw_rng (w := A 104) (p := fun x => A 106 (280 * b + x)) (n := k.toNat) (fun j a q => hw j a (by omega))
      rw [← hm9] at hmr
      refine j_iload_n C dX10_melts_5 rfl rfl ?_
      refine j_sipush C dX10_melts_6 rfl ?_
      refine j_icmp_ge C (tgt := 44) dX10_melts_9 (by decide) ⟨by omega, by omega⟩ ⟨by omega, by omega⟩ (fun c9 => ?_) (fun c9 => ?_)
      · have hm8 : m = mw (A 104) (fun x => A 106 (280 * b + x)) 280 := by
          have e : k.toNat = 280 := by omega
          rw [hm9, e]
        refine j_iload_n C dX10_melts_44 rfl rfl ?_
        refine j_ldcI C (z := 1000000) (ab_t5 (List.mem_of_getElem? (i := 134) rfl) rfl) rfl dX10_melts_45 ?_
        refine j_icmp_ge C (tgt := 60) dX10_melts_47 (by decide) ⟨by omega, by omega⟩ ⟨by omega, by omega⟩ (fun c47 => ?_) (fun c47 => ?_)
        · refine j_iload_n C dX10_melts_60 rfl rfl ?_
          refine j_ldcI C (z := 1000000) (ab_t5 (List.mem_of_getElem? (i := 134) rfl) rfl) rfl dX10_melts_61 ?_
          refine j_icmp_eq C (tgt := 75) dX10_melts_63 (by decide) ⟨by omega, by omega⟩ ⟨by omega, by omega⟩ (fun c63 => ?_) (fun c63 => ?_)
          · refine j_aload_n C dX10_melts_75 rfl rfl ?_
            refine j_iload_n C dX10_melts_76 rfl rfl ?_
            refine j_callV C (vs := [aI b]) (st := []) cl_X10_136 im_yX10_goes se_yX10_goes (fun _ => m_goes _ S F A hS _ (by omega)) (sM_100 hS) rfl rfl rfl ⟨rfl, rfl, by decide, by decide⟩ ⟨by decide, by decide⟩ (fun _ => Nat.le_of_ble_eq_true rfl) (fun v hv => by cases hv) (fun v hv => by simp only [List.mem_cons, List.not_mem_nil, or_false, Option.some.injEq, reduceCtorEq, false_or] at hv; rcases hv with rfl | rfl | rfl | rfl <;> first | exact (lM_100 hS) | exact trivial) dX10_melts_77 (fun v_77 S_77 F_77 A_77 hP_77 => ?_)
            obtain ⟨rfl, rfl, rfl, rfl⟩ := hP_77
            show ab_J E 4 0 0 S F (setRow (upA A 110 b 1) 106 (280 * b) 280 (fun _ => 0)) 80 [some (aR 100), some (aI b), some (aI m), some (aI k)] []
            exact j_vret C hr (Nat.le_refl _) (Nat.le_refl _) dX10_melts_80 ⟨rfl, rfl, rfl, by rw [← hm8]; first | exact Or.inl ⟨by omega, rfl⟩ | exact Or.inr (Or.inl ⟨by omega, by omega, rfl⟩) | exact Or.inr (Or.inr ⟨by omega, by omega, rfl⟩)⟩
          · exfalso; omega
        · refine j_aload_n C dX10_melts_50 rfl rfl ?_
          refine j_getR C (j := 107) fl_X10_30 (sM_100 hS) rfl dX10_melts_51 ?_
          refine j_iload_n C dX10_melts_54 rfl rfl ?_
          refine j_dup2 C dX10_melts_55 (fun _ => rfl) (fun _ => rfl) ?_
          refine j_iald C (sM_107 hS) (by omega) (by omega) (by decide) dX10_melts_56 ?_
          refine j_iload_n C dX10_melts_57 rfl rfl ?_
          refine j_isub C dX10_melts_58 ?_
          refine j_iast C (sM_107 hS) (by omega) (by omega) (by decide) dX10_melts_59 ?_
          refine j_iload_n C dX10_melts_60 rfl rfl ?_
          refine j_ldcI C (z := 1000000) (ab_t5 (List.mem_of_getElem? (i := 134) rfl) rfl) rfl dX10_melts_61 ?_
          refine j_icmp_eq C (tgt := 75) dX10_melts_63 (by decide) ⟨by omega, by omega⟩ ⟨by omega, by omega⟩ (fun c63 => ?_) (fun c63 => ?_)
          · exfalso; omega
          · refine j_aload_n C dX10_melts_66 rfl rfl ?_
            refine j_getR C (j := 107) fl_X10_30 (sM_100 hS) rfl dX10_melts_67 ?_
            refine j_iload_n C dX10_melts_70 rfl rfl ?_
            refine j_iald C (sM_107 hS) (by omega) (by omega) (by decide) dX10_melts_71 ?_
            refine j_eq (st' := [aI (A 107 b - m)]) ?_ (e1 := by first | rfl | (simp only [List.cons.injEq, and_true]; exact congrArg aI (upA_at _ _ _ _)))
            refine j_if_gt C (tgt := 80) dX10_melts_72 (by decide) ⟨by omega, by omega⟩ (fun c72 => ?_) (fun c72 => ?_)
            · exact j_vret C hr (Nat.le_refl _) (Nat.le_refl _) dX10_melts_80 ⟨rfl, rfl, rfl, by rw [← hm8]; first | exact Or.inl ⟨by omega, rfl⟩ | exact Or.inr (Or.inl ⟨by omega, by omega, rfl⟩) | exact Or.inr (Or.inr ⟨by omega, by omega, rfl⟩)⟩
            · refine j_aload_n C dX10_melts_75 rfl rfl ?_
              refine j_iload_n C dX10_melts_76 rfl rfl ?_
              refine j_callV C (vs := [aI b]) (st := []) cl_X10_136 im_yX10_goes se_yX10_goes (fun _ => m_goes _ S F (upA A 107 b ((A 107 b) - m)) hS _ (by omega)) (sM_100 hS) rfl rfl rfl ⟨rfl, rfl, by decide, by decide⟩ ⟨by decide, by decide⟩ (fun _ => Nat.le_of_ble_eq_true rfl) (fun v hv => by cases hv) (fun v hv => by simp only [List.mem_cons, List.not_mem_nil, or_false, Option.some.injEq, reduceCtorEq, false_or] at hv; rcases hv with rfl | rfl | rfl | rfl <;> first | exact (lM_100 hS) | exact trivial) dX10_melts_77 (fun v_77 S_77 F_77 A_77 hP_77 => ?_)
              obtain ⟨rfl, rfl, rfl, rfl⟩ := hP_77
              show ab_J E 4 0 0 S F (setRow (upA (upA A 107 b ((A 107 b) - m)) 110 b 1) 106 (280 * b) 280 (fun _ => 0)) 80 [some (aR 100), some (aI b), some (aI m), some (aI k)] []
              exact j_vret C hr (Nat.le_refl _) (Nat.le_refl _) dX10_melts_80 ⟨rfl, rfl, rfl, by rw [← hm8]; first | exact Or.inl ⟨by omega, rfl⟩ | exact Or.inr (Or.inl ⟨by omega, by omega, rfl⟩) | exact Or.inr (Or.inr ⟨by omega, by omega, rfl⟩)⟩
      · refine j_aload_n C dX10_melts_12 rfl rfl ?_
        refine j_getR C (j := 106) fl_X10_27 (sM_100 hS) rfl dX10_melts_13 ?_
        refine j_sipush C dX10_melts_16 rfl ?_
        refine j_iload_n C dX10_melts_19 rfl rfl ?_
        refine j_imul C dX10_melts_20 ?_
        refine j_iload_n C dX10_melts_21 rfl rfl ?_
        refine j_iadd C dX10_melts_22 ?_
        refine j_iald C (sM_106 hS) (by omega) (by omega) (by decide) dX10_melts_23 ?_
        refine j_if_le C (tgt := 38) dX10_melts_24 (by decide) (hp _ (by omega) (by omega)) (fun c24 => ?_) (fun c24 => ?_)
        · refine j_iinc C (lv' := [some (aR 100), some (aI b), some (aI m), some (aI (k + 1))]) dX10_melts_38 rfl (by decide) rfl ?_
          refine j_goto C (tgt := 5) dX10_melts_41 (by decide) ?_
          exact ih5 m (k + 1) (by omega) (by rw [mw_step hk.1, ← hm9]; (try dsimp only); split <;> omega) (by omega)
        · refine j_iload_n C dX10_melts_27 rfl rfl ?_
          refine j_aload_n C dX10_melts_28 rfl rfl ?_
          refine j_getR C (j := 104) fl_X10_24 (sM_100 hS) rfl dX10_melts_29 ?_
          refine j_iload_n C dX10_melts_32 rfl rfl ?_
          refine j_iald C (sM_104 hS) (by omega) (by omega) (by decide) dX10_melts_33 ?_
          refine j_mmin C (ab_t5 (List.mem_of_getElem? (i := 154) rfl) rfl) ⟨by omega, by omega⟩ (by have := hw k (by omega) (by omega); exact ⟨by omega, by omega⟩) (by decide) (fun _ => Nat.le_of_ble_eq_true rfl) ⟨by decide, by decide⟩ dX10_melts_34 ?_
          refine j_istore_n C (lv' := [some (aR 100), some (aI b), some (aI ((min m (A 104 k) : Int))), some (aI k)]) dX10_melts_37 rfl (by decide) rfl ?_
          refine j_iinc C (lv' := [some (aR 100), some (aI b), some (aI ((min m (A 104 k) : Int))), some (aI (k + 1))]) dX10_melts_38 rfl (by decide) rfl ?_
          refine j_goto C (tgt := 5) dX10_melts_41 (by decide) ?_
          exact ih5 ((min m (A 104 k) : Int)) (k + 1) (by omega) (by rw [mw_step hk.1, ← hm9]; (try dsimp only); split <;> omega) (by omega)
  exact K5 _ 1000000 0 (by omega) rfl (Nat.lt_succ_self _)
