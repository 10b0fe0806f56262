theorem upA_up (A : ab_An) (i : Nat) (j a b : Int) : upA (upA A i j a) i j b = upA A i j b := by
  funext i' j'
  by_cases h : i' = i <;> by_cases h2 : j' = j <;> simp [upA, h, h2]
def mx3 (f : Int → Int) (y : Int) : Int := max (f y) (max (if 0 < y then f (y - 1) else f y) (if y < 13 then f (y + 1) else f y))
/-- the most that a flight sees that ends at height y of column x - 1 -/
def fl (g : Int → Int) : Nat → Int → Int
  | 0, _ => 0
  | x + 1, y => mx3 (fl g x) y + g (20 * y + x)
def mz (f : Int → Int) (lo : Int) : Nat → Int
  | 0 => 0
  | n + 1 => max (mz f lo n) (f (lo + n))
theorem fl_rng {g : Int → Int} (h : ∀ k, 0 ≤ k → k < 280 → 0 ≤ g k ∧ g k ≤ 10000000) : ∀ (n : Nat) (y : Int), n ≤ 20 → 0 ≤ y → y < 14 → 0 ≤ fl g n y ∧ fl g n y ≤ n * 10000000
  | 0, _, _, _, _ => ⟨Int.le_refl _, by simp [fl]⟩
  | n + 1, y, hn, h0, h1 => by
    have a1 := fl_rng h n y (by omega) h0 h1
    have a4 := h (20 * y + n) (by omega) (by omega)
    have a2 : 0 ≤ (if 0 < y then fl g n (y - 1) else fl g n y) ∧ (if 0 < y then fl g n (y - 1) else fl g n y) ≤ n * 10000000 := by
      split
      · exact fl_rng h n (y - 1) (by omega) (by omega) (by omega)
      · exact a1
    have a3 : 0 ≤ (if y < 13 then fl g n (y + 1) else fl g n y) ∧ (if y < 13 then fl g n (y + 1) else fl g n y) ≤ n * 10000000 := by
      split
      · exact fl_rng h n (y + 1) (by omega) (by omega) (by omega)
      · exact a1
    show 0 ≤ mx3 (fl g n) y + g (20 * y + n) ∧ mx3 (fl g n) y + g (20 * y + n) ≤ _
    unfold mx3
    generalize (if 0 < y then fl g n (y - 1) else fl g n y) = p1 at a2 ⊢
    generalize (if y < 13 then fl g n (y + 1) else fl g n y) = p2 at a3 ⊢
    generalize fl g n y = p3 at a1 ⊢
    omega
theorem mz_step {f : Int → Int} {lo z : Int} (h : lo ≤ z) : mz f lo (z + 1 - lo).toNat = max (mz f lo (z - lo).toNat) (f z) := by
  have e : (z + 1 - lo).toNat = (z - lo).toNat + 1 := by omega
  have e2 : lo + (((z - lo).toNat : Nat) : Int) = z := by omega
  rw [e]; show max _ (f (lo + ((z - lo).toNat : Nat))) = _; rw [e2]
theorem mz_end {f : Int → Int} (h : ∀ y, 0 ≤ y → y < 14 → 0 ≤ f y) {y : Int} (h0 : 0 ≤ y) (h1 : y < 14) : mz f (max 0 (y - 1)) (min 13 (y + 1) + 1 - max 0 (y - 1)).toNat = mx3 f y := by
  have a1 := h y h0 h1
  unfold mx3
  by_cases c1 : 0 < y
  · have e1 : max 0 (y - 1) = y - 1 := by omega
    have a2 := h (y - 1) (by omega) (by omega)
    rw [e1, if_pos c1]
    by_cases c2 : y < 13
    · have e2 : min 13 (y + 1) + 1 - (y - 1) = 3 := by omega
      have a3 := h (y + 1) (by omega) (by omega)
      rw [e2, if_pos c2]
      show max (max (max 0 (f (y - 1 + (0 : Nat)))) (f (y - 1 + (1 : Nat)))) (f (y - 1 + (2 : Nat))) = _
      rw [show y - 1 + ((0 : Nat) : Int) = y - 1 by omega, show y - 1 + ((1 : Nat) : Int) = y by omega, show y - 1 + ((2 : Nat) : Int) = y + 1 by omega]
      omega
    · have e2 : min 13 (y + 1) + 1 - (y - 1) = 2 := by omega
      rw [e2, if_neg c2]
      show max (max 0 (f (y - 1 + (0 : Nat)))) (f (y - 1 + (1 : Nat))) = _
      rw [show y - 1 + ((0 : Nat) : Int) = y - 1 by omega, show y - 1 + ((1 : Nat) : Int) = y by omega]
      omega
  · have e0 : y = 0 := by omega
    subst e0
    have a3 := h 1 (by omega) (by omega)
    show max (max 0 (f (0 + (0 : Nat)))) (f (0 + (1 : Nat))) = max (f 0) (max (f 0) (f 1))
    rw [show (0 : Int) + ((0 : Nat) : Int) = 0 by omega, show (0 : Int) + ((1 : Nat) : Int) = 1 by omega]
    omega
theorem mz_rng {f : Int → Int} {lo c : Int} (hc : 0 ≤ c) : ∀ {n : Nat}, (∀ k : Int, lo ≤ k → k < lo + n → f k ≤ c) → 0 ≤ mz f lo n ∧ mz f lo n ≤ c
  | 0, _ => ⟨Int.le_refl _, hc⟩
  | n + 1, h => by
    have h1 := mz_rng (f := f) (lo := lo) hc (n := n) (fun k a b => h k a (by omega))
    have h2 := h (lo + n) (by omega) (by omega)
    simp only [mz]
    omega
theorem mx3_0 (g : Int → Int) (y : Int) : mx3 (fl g 0) y = 0 := by simp [mx3, fl]
theorem sum_rng {A : ab_An} {nb k : Int} (hb : 0 ≤ nb ∧ nb ≤ 10) (h : ∀ b, 0 ≤ b → b < nb → 0 ≤ A 106 (280 * b + k) ∧ A 106 (280 * b + k) ≤ 1000000) : ∀ n : Nat, (n : Int) ≤ nb → 0 ≤ sm (fun bb => A 106 (280 * bb + k)) n ∧ sm (fun bb => A 106 (280 * bb + k)) n ≤ n * 1000000 := by
  intro n hn
  exact ⟨sm_nonneg (fun b a c => (h b a (by omega)).1), sm_ge (fun b a c => (h b a (by omega)).2)⟩

set_option maxHeartbeats 4000000 in
set_option maxRecDepth 100000 in
theorem m_flight (l : Launch) (S : ab_St) (F : ab_Fn) (A : ab_An) (hS : ab_SM S) (hb : 0 ≤ F 100 11 ∧ F 100 11 ≤ 10) (hp : ∀ b k, 0 ≤ b → b < F 100 11 → 0 ≤ k → k < 280 → 0 ≤ A 106 (280 * b + k) ∧ A 106 (280 * b + k) ≤ 1000000) : ab_Met l yX10_flight cX10_flight 6 (some .int) { frames := 1, cells := 0, slots := 0, locals := 30 } 0 0 [aR 100] S F A (fun v S' F' A' => S = S' ∧ F' = upF F 100 0 0 ∧ v = some (aI (mz (fl (fun k => sm (fun bb => A 106 (280 * bb + k)) (F 100 11).toNat) 20) 0 14)) ∧ ∀ i, i ≠ 137 → A' i = A i) := by
  refine ab_enter (by decide) (by simp [aI, aR, aX, ab_val, Value.category]) (Nat.le_of_ble_eq_true rfl) (fun E C hr => ?_)
  refine j_eq (lv' := [some (aR 100), none, none, none, none, none]) ?_
  obtain ⟨g, hg⟩ : ∃ g : Int → Int, g = (fun k => sm (fun bb => A 106 (280 * bb + k)) (F 100 11).toNat) := ⟨_, rfl⟩
  have hgr : ∀ k, 0 ≤ k → k < 280 → 0 ≤ g k ∧ g k ≤ 10000000 := by
    intro k a c
    have := sum_rng hb (fun b q1 q2 => hp b k q1 q2 a c) (F 100 11).toNat (by omega)
    rw [hg]
    show 0 ≤ sm _ _ ∧ sm _ _ ≤ _
    omega
  have hfl : ∀ (n : Nat) (y : Int), n ≤ 20 → 0 ≤ y → y < 14 → 0 ≤ fl g n y ∧ fl g n y ≤ 200000000 := by
    intro n y q1 q2 q3
    have := fl_rng hgr n y q1 q2 q3
    omega
  rw [← hg] at hr
  refine j_aload_n C dX10_flight_0 rfl rfl ?_
  refine j_iconst C dX10_flight_1 ?_
  refine j_putI C fp_X10_3 (sM_100 hS) rfl dX10_flight_2 ?_
  refine j_iconst C dX10_flight_5 ?_
  refine j_istore_n C (lv' := [some (aR 100), some (aI 0), none, none, none, none]) dX10_flight_6 rfl (by decide) rfl ?_
  refine j_iconst C dX10_flight_7 ?_
  refine j_istore_n C (lv' := [some (aR 100), some (aI 0), some (aI 0), none, none, none]) dX10_flight_8 rfl (by decide) rfl ?_
  have K9 : ∀ (N : Nat) (m x : Int) (B : ab_An), (0 ≤ x ∧ x ≤ 20) → (0 < x → ∀ y, 0 ≤ y → y < 14 → B 137 (20 * y + (x - 1)) = fl g x.toNat y) → (∀ i, i ≠ 137 → B i = A i) → (m = if x = 20 then mz (fl g 20) 0 14 else 0) → ((20 - x).toNat) < N → ab_J E 6 0 0 S (upF F 100 0 0) B 9 [some (aR 100), some (aI m), some (aI x), none, none, none] [] := by
    intro N
    induction N with
    | zero => intro m x B hx hc hO hmm hm; exact absurd hm (Nat.not_lt_zero _)
    | succ N ih =>
      have ih9 := ih
      clear ih
      intro m x B hx hc hO hmm hm9
      refine j_iload_n C dX10_flight_9 rfl rfl ?_
      refine j_bipush C dX10_flight_10 rfl ?_
      refine j_icmp_ge C (tgt := 174) dX10_flight_12 (by decide) ⟨by omega, by omega⟩ ⟨by omega, by omega⟩ (fun c12 => ?_) (fun c12 => ?_)
      · refine j_iload_n C dX10_flight_174 rfl rfl ?_
        exact j_iret C hr (Nat.le_refl _) (Nat.le_refl _) dX10_flight_175 ⟨rfl, rfl, by rw [hmm, if_pos (by omega)], hO⟩
      · refine j_iconst C dX10_flight_15 ?_
        refine j_istore_n C (lv' := [some (aR 100), some (aI m), some (aI x), some (aI 0), none, none]) dX10_flight_16 rfl (by decide) rfl ?_
        have K17 : ∀ (N : Nat) (m y : Int) (B : ab_An), (0 ≤ y ∧ y ≤ 14) → (0 < x → ∀ y, 0 ≤ y → y < 14 → B 137 (20 * y + (x - 1)) = fl g x.toNat y) → (∀ y', 0 ≤ y' → y' < y → B 137 (20 * y' + x) = fl g (x + 1).toNat y') → (∀ i, i ≠ 137 → B i = A i) → (m = if x = 19 then mz (fl g 20) 0 y.toNat else 0) → ((14 - y).toNat) < N → ab_J E 6 0 0 S (upF F 100 0 0) B 17 [some (aR 100), some (aI m), some (aI x), some (aI y), none, none] [] := by
          intro N
          induction N with
          | zero => intro m y B hy hc hd hO hmm hm; exact absurd hm (Nat.not_lt_zero _)
          | succ N ih =>
            have ih17 := ih
            clear ih
            intro m y B hy hc hd hO hmm hm17
            refine j_iload_n C dX10_flight_17 rfl rfl ?_
            refine j_bipush C dX10_flight_18 rfl ?_
            refine j_icmp_ge C (tgt := 168) dX10_flight_20 (by decide) ⟨by omega, by omega⟩ ⟨by omega, by omega⟩ (fun c20 => ?_) (fun c20 => ?_)
            · refine j_iinc C (lv' := [some (aR 100), some (aI m), some (aI (x + 1)), some (aI y), none, none]) dX10_flight_168 rfl (by decide) rfl ?_
              refine j_goto C (tgt := 9) dX10_flight_171 (by decide) ?_
              refine j_lv (lv' := [some (aR 100), some (aI m), some (aI (x + 1)), none, none, none]) ?_ ⟨rfl, rfl, rfl, trivial⟩
              exact ih9 m (x + 1) B (by omega) (fun _ y' q1 q2 => by rw [show 20 * y' + (x + 1 - 1) = 20 * y' + x by omega]; exact hd y' q1 (by omega)) hO (by have e : y.toNat = 14 := (by omega); rw [hmm, e]; split <;> split <;> first | rfl | omega) (by omega)
            · refine j_bipush C dX10_flight_23 rfl ?_
              refine j_iload_n C dX10_flight_25 rfl rfl ?_
              refine j_imul C dX10_flight_26 ?_
              refine j_iload_n C dX10_flight_27 rfl rfl ?_
              refine j_iadd C dX10_flight_28 ?_
              refine j_istore C (lv' := [some (aR 100), some (aI m), some (aI x), some (aI y), some (aI ((20 * y) + x)), none]) dX10_flight_29 (by decide) rfl ?_
              refine j_aload_n C dX10_flight_31 rfl rfl ?_
              refine j_getR C (j := 137) fl_X10_94 (sM_100 hS) rfl dX10_flight_32 ?_
              refine j_iload C dX10_flight_35 rfl ?_
              refine j_iconst C dX10_flight_37 ?_
              refine j_iast C (sM_137 hS) (by omega) (by omega) (by decide) dX10_flight_38 ?_
              have K105 : ∀ (N : Nat) (b w : Int), (0 ≤ b ∧ b ≤ F 100 11) → (w = mx3 (fl g x.toNat) y + sm (fun bb => A 106 (280 * bb + ((20 * y) + x))) b.toNat) → ((F 100 11 - b).toNat) < N → ab_J E 6 0 0 S (upF F 100 0 0) (upA B 137 ((20 * y) + x) w) 105 [some (aR 100), some (aI m), some (aI x), some (aI y), some (aI ((20 * y) + x)), some (aI b)] [] := by
                intro N
                induction N with
                | zero => intro b w hb0 hw hm; exact absurd hm (Nat.not_lt_zero _)
                | succ N ih =>
                  have ih105 := ih
                  clear ih
                  intro b w hb0 hw hm105
                  refine j_iload C dX10_flight_105 rfl ?_
                  refine j_aload_n C dX10_flight_107 rfl rfl ?_
                  refine j_get C (aI (F 100 11)) fl_X10_101 (sM_100 hS) (fun _ => rfl) dX10_flight_108 ?_
                  refine j_icmp_ge C (tgt := 144) dX10_flight_111 (by decide) ⟨by omega, by omega⟩ ⟨by omega, by omega⟩ (fun c111 => ?_) (fun c111 => ?_)
                  · have hw9 : w = fl g (x + 1).toNat y := by
                      have e : b = F 100 11 := by omega
                      have e2 : (x + 1).toNat = x.toNat + 1 := by omega
                      have e3 : ((x.toNat : Nat) : Int) = x := by omega
                      rw [hw, e, e2, hg]
                      show _ = mx3 _ y + sm _ _
                      rw [e3]
                    refine j_iload_n C dX10_flight_144 rfl rfl ?_
                    refine j_bipush C dX10_flight_145 rfl ?_
                    refine j_icmp_ne C (tgt := 162) dX10_flight_147 (by decide) ⟨by omega, by omega⟩ ⟨by omega, by omega⟩ (fun c147 => ?_) (fun c147 => ?_)
                    · refine j_iinc C (lv' := [some (aR 100), some (aI m), some (aI x), some (aI (y + 1)), some (aI ((20 * y) + x)), some (aI b)]) dX10_flight_162 rfl (by decide) rfl ?_
                      refine j_goto C (tgt := 17) dX10_flight_165 (by decide) ?_
                      refine j_lv (lv' := [some (aR 100), some (aI m), some (aI x), some (aI (y + 1)), none, none]) ?_ ⟨rfl, rfl, rfl, rfl, trivial⟩
                      exact ih17 m (y + 1) ((upA B 137 ((20 * y) + x) w)) (by omega) (fun q y' q1 q2 => by rw [upA_ne (by omega)]; exact hc q y' q1 q2) (fun y' q1 q2 => if q : y' = y then by rw [q, upA_at]; exact hw9 else by rw [upA_ne (by omega)]; exact hd y' q1 (by omega)) (fun i q => by rw [upA_other q]; exact hO i q) (by have e : (y + 1).toNat = (y + 1 - 0).toNat := (by omega); have e2 : (y - 0).toNat = y.toNat := (by omega); rw [e, mz_step (by omega), e2, hmm]; first | (rw [if_pos (by omega), if_pos (by omega), hw9]; have e3 : (x + 1).toNat = 20 := (by omega); rw [e3]) | (rw [if_neg (by omega), if_neg (by omega)])) (by omega)
                    · refine j_iload_n C dX10_flight_150 rfl rfl ?_
                      refine j_aload_n C dX10_flight_151 rfl rfl ?_
                      refine j_getR C (j := 137) fl_X10_94 (sM_100 hS) rfl dX10_flight_152 ?_
                      refine j_iload C dX10_flight_155 rfl ?_
                      refine j_iald C (sM_137 hS) (by omega) (by omega) (by decide) dX10_flight_157 ?_
                      refine j_eq (st' := [aI w, aI m]) ?_ (e1 := by first | rfl | (simp only [List.cons.injEq, and_true]; exact congrArg aI (upA_at _ _ _ _)))
                      refine j_mmax C (ab_t6 (List.mem_of_getElem? (i := 63) rfl) rfl) (by have := mz_rng (f := fl g 20) (lo := 0) (c := 200000000) (by decide) (n := y.toNat) (fun k a c => (hfl 20 k (by omega) (by omega) (by omega)).2); rw [hmm]; split <;> exact ⟨by omega, by omega⟩) (by rw [hw9]; have := hfl (x + 1).toNat y (by omega) (by omega) (by omega); exact ⟨by omega, by omega⟩) (by decide) (fun _ => Nat.le_of_ble_eq_true rfl) ⟨by decide, by decide⟩ dX10_flight_158 ?_
                      refine j_istore_n C (lv' := [some (aR 100), some (aI ((max m w : Int))), some (aI x), some (aI y), some (aI ((20 * y) + x)), some (aI b)]) dX10_flight_161 rfl (by decide) rfl ?_
                      refine j_iinc C (lv' := [some (aR 100), some (aI ((max m w : Int))), some (aI x), some (aI (y + 1)), some (aI ((20 * y) + x)), some (aI b)]) dX10_flight_162 rfl (by decide) rfl ?_
                      refine j_goto C (tgt := 17) dX10_flight_165 (by decide) ?_
                      refine j_lv (lv' := [some (aR 100), some (aI ((max m w : Int))), some (aI x), some (aI (y + 1)), none, none]) ?_ ⟨rfl, rfl, rfl, rfl, trivial⟩
                      exact ih17 ((max m w : Int)) (y + 1) ((upA B 137 ((20 * y) + x) w)) (by omega) (fun q y' q1 q2 => by rw [upA_ne (by omega)]; exact hc q y' q1 q2) (fun y' q1 q2 => if q : y' = y then by rw [q, upA_at]; exact hw9 else by rw [upA_ne (by omega)]; exact hd y' q1 (by omega)) (fun i q => by rw [upA_other q]; exact hO i q) (by have e : (y + 1).toNat = (y + 1 - 0).toNat := (by omega); have e2 : (y - 0).toNat = y.toNat := (by omega); rw [e, mz_step (by omega), e2, hmm]; first | (rw [if_pos (by omega), if_pos (by omega), hw9]; have e3 : (x + 1).toNat = 20 := (by omega); rw [e3]) | (rw [if_neg (by omega), if_neg (by omega)])) (by omega)
                  · refine j_aload_n C dX10_flight_114 rfl rfl ?_
                    refine j_getR C (j := 137) fl_X10_94 (sM_100 hS) rfl dX10_flight_115 ?_
                    refine j_iload C dX10_flight_118 rfl ?_
                    refine j_dup2 C dX10_flight_120 (fun _ => rfl) (fun _ => rfl) ?_
                    refine j_iald C (sM_137 hS) (by omega) (by omega) (by decide) dX10_flight_121 ?_
                    refine j_eq (st' := [aI w, aI ((20 * y) + x), aR 137]) ?_ (e1 := by first | rfl | (simp only [List.cons.injEq, and_true]; exact congrArg aI (upA_at _ _ _ _)))
                    refine j_aload_n C dX10_flight_122 rfl rfl ?_
                    refine j_getR C (j := 106) fl_X10_27 (sM_100 hS) rfl dX10_flight_123 ?_
                    refine j_sipush C dX10_flight_126 rfl ?_
                    refine j_iload C dX10_flight_129 rfl ?_
                    refine j_imul C dX10_flight_131 ?_
                    refine j_iload C dX10_flight_132 rfl ?_
                    refine j_iadd C dX10_flight_134 ?_
                    refine j_iald C (sM_106 hS) (by omega) (by omega) (by decide) dX10_flight_135 ?_
                    refine j_eq (st' := [aI (B 106 ((280 * b) + ((20 * y) + x))), aI w, aI ((20 * y) + x), aR 137]) ?_
                    refine j_eq (st' := [aI (A 106 ((280 * b) + ((20 * y) + x))), aI w, aI ((20 * y) + x), aR 137]) ?_ (e1 := by first | rfl | (simp only [List.cons.injEq, and_true]; exact congrArg aI (congrFun (hO 106 (by decide)) _)))
                    refine j_iadd C dX10_flight_136 ?_
                    refine j_iast C (sM_137 hS) (by omega) (by omega) (by decide) dX10_flight_137 ?_
                    refine j_iinc C (lv' := [some (aR 100), some (aI m), some (aI x), some (aI y), some (aI ((20 * y) + x)), some (aI (b + 1))]) dX10_flight_138 rfl (by decide) rfl ?_
                    refine j_goto C (tgt := 105) dX10_flight_141 (by decide) ?_
                    refine j_eq (A' := (upA B 137 ((20 * y) + x) (w + (A 106 ((280 * b) + ((20 * y) + x)))))) ?_ (e4 := (upA_up _ _ _ _ _))
                    exact ih105 (b + 1) (w + (A 106 ((280 * b) + ((20 * y) + x)))) (by omega) (by rw [sm_step _ hb0.1, hw]; omega) (by omega)
              refine j_iload_n C dX10_flight_39 rfl rfl ?_
              refine j_if_le C (tgt := 102) dX10_flight_40 (by decide) ⟨by omega, by omega⟩ (fun c40 => ?_) (fun c40 => ?_)
              · refine j_iconst C dX10_flight_102 ?_
                refine j_istore C (lv' := [some (aR 100), some (aI m), some (aI x), some (aI y), some (aI ((20 * y) + x)), some (aI 0)]) dX10_flight_103 (by decide) rfl ?_
                exact K105 _ 0 0 (by omega) (by first | (rw [hw, show z = min 13 (y + 1) + 1 by omega, mz_end (fun y q1 q2 => (hfl x.toNat y (by omega) q1 q2).1) (by omega) (by omega)]; show _ = _ + (0 : Int); omega) | (have e : x.toNat = 0 := (by omega); rw [e, mx3_0]; rfl)) (Nat.lt_succ_self _)
              · refine j_iconst C dX10_flight_43 ?_
                refine j_iload_n C dX10_flight_44 rfl rfl ?_
                refine j_iconst C dX10_flight_45 ?_
                refine j_isub C dX10_flight_46 ?_
                refine j_mmax C (ab_t6 (List.mem_of_getElem? (i := 63) rfl) rfl) ⟨by omega, by omega⟩ ⟨by omega, by omega⟩ (by decide) (fun _ => Nat.le_of_ble_eq_true rfl) ⟨by decide, by decide⟩ dX10_flight_47 ?_
                refine j_istore C (lv' := [some (aR 100), some (aI m), some (aI x), some (aI y), some (aI ((20 * y) + x)), some (aI ((max 0 (y - 1) : Int)))]) dX10_flight_50 (by decide) rfl ?_
                have K52 : ∀ (N : Nat) (z w : Int), (max 0 (y - 1) ≤ z ∧ z ≤ min 13 (y + 1) + 1) → (w = mz (fl g x.toNat) (max 0 (y - 1)) (z - max 0 (y - 1)).toNat) → ((20 - z).toNat) < N → ab_J E 6 0 0 S (upF F 100 0 0) (upA B 137 ((20 * y) + x) w) 52 [some (aR 100), some (aI m), some (aI x), some (aI y), some (aI ((20 * y) + x)), some (aI z)] [] := by
                  intro N
                  induction N with
                  | zero => intro z w hz hw hm; exact absurd hm (Nat.not_lt_zero _)
                  | succ N ih =>
                    have ih52 := ih
                    clear ih
                    intro z w hz hw hm52
                    have hwr := mz_rng (f := fl g x.toNat) (lo := max 0 (y - 1)) (c := 200000000) (by decide) (n := (z - max 0 (y - 1)).toNat) (fun k a c => (hfl x.toNat k (by omega) (by omega) (by omega)).2)
                    rw [← hw] at hwr
                    refine j_iload C dX10_flight_52 rfl ?_
                    refine j_bipush C dX10_flight_54 rfl ?_
                    refine j_iload_n C dX10_flight_56 rfl rfl ?_
                    refine j_iconst C dX10_flight_57 ?_
                    refine j_iadd C dX10_flight_58 ?_
                    refine j_mmin C (ab_t5 (List.mem_of_getElem? (i := 154) rfl) rfl) ⟨by omega, by omega⟩ ⟨by omega, by omega⟩ (by decide) (fun _ => Nat.le_of_ble_eq_true rfl) ⟨by decide, by decide⟩ dX10_flight_59 ?_
                    refine j_icmp_gt C (tgt := 102) dX10_flight_62 (by decide) ⟨by omega, by omega⟩ ⟨by omega, by omega⟩ (fun c62 => ?_) (fun c62 => ?_)
                    · refine j_iconst C dX10_flight_102 ?_
                      refine j_istore C (lv' := [some (aR 100), some (aI m), some (aI x), some (aI y), some (aI ((20 * y) + x)), some (aI 0)]) dX10_flight_103 (by decide) rfl ?_
                      exact K105 _ 0 w (by omega) (by first | (rw [hw, show z = min 13 (y + 1) + 1 by omega, mz_end (fun y q1 q2 => (hfl x.toNat y (by omega) q1 q2).1) (by omega) (by omega)]; show _ = _ + (0 : Int); omega) | (have e : x.toNat = 0 := (by omega); rw [e, mx3_0]; rfl)) (Nat.lt_succ_self _)
                    · refine j_aload_n C dX10_flight_65 rfl rfl ?_
                      refine j_getR C (j := 137) fl_X10_94 (sM_100 hS) rfl dX10_flight_66 ?_
                      refine j_iload C dX10_flight_69 rfl ?_
                      refine j_aload_n C dX10_flight_71 rfl rfl ?_
                      refine j_getR C (j := 137) fl_X10_94 (sM_100 hS) rfl dX10_flight_72 ?_
                      refine j_iload C dX10_flight_75 rfl ?_
                      refine j_iald C (sM_137 hS) (by omega) (by omega) (by decide) dX10_flight_77 ?_
                      refine j_eq (st' := [aI w, aI ((20 * y) + x), aR 137]) ?_ (e1 := by first | rfl | (simp only [List.cons.injEq, and_true]; exact congrArg aI (upA_at _ _ _ _)))
                      refine j_aload_n C dX10_flight_78 rfl rfl ?_
                      refine j_getR C (j := 137) fl_X10_94 (sM_100 hS) rfl dX10_flight_79 ?_
                      refine j_bipush C dX10_flight_82 rfl ?_
                      refine j_iload C dX10_flight_84 rfl ?_
                      refine j_imul C dX10_flight_86 ?_
                      refine j_iload_n C dX10_flight_87 rfl rfl ?_
                      refine j_iadd C dX10_flight_88 ?_
                      refine j_iconst C dX10_flight_89 ?_
                      refine j_isub C dX10_flight_90 ?_
                      refine j_iald C (sM_137 hS) (by omega) (by omega) (by decide) dX10_flight_91 ?_
                      refine j_eq (st' := [aI (fl g x.toNat z), aI w, aI ((20 * y) + x), aR 137]) ?_ (e1 := by first | rfl | (simp only [List.cons.injEq, and_true]; exact congrArg aI (by rw [upA_ne (by omega), show (20 * z) + x - 1 = 20 * z + (x - 1) by omega]; exact hc (by omega) z (by omega) (by omega))))
                      refine j_mmax C (ab_t6 (List.mem_of_getElem? (i := 63) rfl) rfl) ⟨by omega, by omega⟩ (by have := hfl x.toNat z (by omega) (by omega) (by omega); exact ⟨by omega, by omega⟩) (by decide) (fun _ => Nat.le_of_ble_eq_true rfl) ⟨by decide, by decide⟩ dX10_flight_92 ?_
                      refine j_iast C (sM_137 hS) (by omega) (by omega) (by decide) dX10_flight_95 ?_
                      refine j_iinc C (lv' := [some (aR 100), some (aI m), some (aI x), some (aI y), some (aI ((20 * y) + x)), some (aI (z + 1))]) dX10_flight_96 rfl (by decide) rfl ?_
                      refine j_goto C (tgt := 52) dX10_flight_99 (by decide) ?_
                      refine j_eq (A' := (upA B 137 ((20 * y) + x) ((max w (fl g x.toNat z) : Int)))) ?_ (e4 := (upA_up _ _ _ _ _))
                      exact ih52 (z + 1) ((max w (fl g x.toNat z) : Int)) (by omega) (by rw [mz_step (by omega), ← hw]) (by omega)
                exact K52 _ ((max 0 (y - 1) : Int)) 0 (by omega) (by rw [Int.sub_self]; rfl) (Nat.lt_succ_self _)
        exact K17 _ m 0 B (by omega) hc (fun y' q1 q2 => by omega) hO (by rw [hmm]; split <;> split <;> first | rfl | omega) (Nat.lt_succ_self _)
  exact K9 _ 0 0 A (by omega) (fun q => by omega) (fun _ _ => rfl) rfl (Nat.lt_succ_self _)
