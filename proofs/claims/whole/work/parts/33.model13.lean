/-! rings -/
def cr (a b c d x y : Int) : Int := (c - a) * (y - b) - (d - b) * (x - a)
theorem cr_anti (a b c d x y : Int) : cr a b x y c d = - cr a b c d x y := by
  unfold cr; rw [Int.mul_comm (x - a) (d - b), Int.mul_comm (y - b) (c - a)]; omega
def dd (a b x y : Int) : Int := ((x - a).natAbs : Int) + ((y - b).natAbs : Int)
/-- the corners of the squares that have q -/
def PT (q : Int → Prop) (x y : Int) : Prop := ∃ s, 0 ≤ s ∧ s < 280 ∧ q s ∧ (x = s % 20 ∨ x = s % 20 + 1) ∧ (y = s / 20 ∨ y = s / 20 + 1)
theorem PT_rng {q : Int → Prop} {x y : Int} (h : PT q x y) : 0 ≤ x ∧ x ≤ 20 ∧ 0 ≤ y ∧ y ≤ 14 := by
  obtain ⟨s, h1, h2, _, h3, h4⟩ := h; omega
/-- from a, b the next corner is c, d: all lies on the left, and what lies on the line is nearer -/
def NX (P : Int → Int → Prop) (a b c d : Int) : Prop := ¬ (a = c ∧ b = d) ∧ ∀ x y, P x y → 0 < cr a b c d x y ∨ (cr a b c d x y = 0 ∧ ((x = c ∧ y = d) ∨ dd a b x y < dd a b c d))
def nx (m i : Int) : Int := if i + 1 = m then 0 else i + 1
/-- m corners are the least ring around P -/
def LR (P : Int → Int → Prop) (m : Int) (X Y : Int → Int) : Prop := (m = 0 ∧ ∀ x y, ¬ P x y) ∨ (1 ≤ m ∧ (∀ i, 0 ≤ i → i < m → P (X i) (Y i)) ∧ (∀ x y, P x y → X 0 < x ∨ (X 0 = x ∧ Y 0 ≤ y)) ∧ (∀ i, 0 ≤ i → i < m → NX P (X i) (Y i) (X (nx m i)) (Y (nx m i))) ∧ ∀ i, 0 < i → i < m → ¬ (X i = X 0 ∧ Y i = Y 0))
/-- the rows hold the corners of the squares below k that have q, and the first c of those of k -/
def FL (q : Int → Prop) (PX PY : Int → Int) (n k c : Int) : Prop := (∀ j, 0 ≤ j → j < n → ∃ s d, 0 ≤ s ∧ (s < k ∨ (s = k ∧ d < c)) ∧ 0 ≤ d ∧ d < 4 ∧ q s ∧ PX j = s % 20 + d % 2 ∧ PY j = s / 20 + d / 2) ∧ ∀ s d, 0 ≤ s → (s < k ∨ (s = k ∧ d < c)) → 0 ≤ d → d < 4 → q s → ∃ j, 0 ≤ j ∧ j < n ∧ PX j = s % 20 + d % 2 ∧ PY j = s / 20 + d / 2
theorem FL_0 {q : Int → Prop} {PX PY : Int → Int} : FL q PX PY 0 0 0 := ⟨fun j a b => by omega, fun s d a b c => by omega⟩
theorem FL_no {q : Int → Prop} {PX PY : Int → Int} {n k : Int} (h : FL q PX PY n k 0) (hq : ¬ q k) : FL q PX PY n (k + 1) 0 := by
  refine ⟨fun j a b => ?_, fun s d a b c e g => ?_⟩
  · obtain ⟨s, d, h1, h2, h3⟩ := h.1 j a b
    exact ⟨s, d, h1, by omega, h3⟩
  · by_cases e1 : s = k
    · rw [e1] at g; exact absurd g hq
    · exact h.2 s d a (by omega) c e g
theorem FL_4 {q : Int → Prop} {PX PY : Int → Int} {n k c : Int} (h : FL q PX PY n k c) (hc : 4 ≤ c) : FL q PX PY n (k + 1) 0 := by
  refine ⟨fun j a b => ?_, fun s d a b c e g => ?_⟩
  · obtain ⟨s, d, h1, h2, h3⟩ := h.1 j a b
    exact ⟨s, d, h1, by omega, h3⟩
  · exact h.2 s d a (by omega) c e g
theorem FL_put {q : Int → Prop} {PX PY PX' PY' : Int → Int} {n k c : Int} (h : FL q PX PY n k c) (hq : q k) (h0 : 0 ≤ k) (hc : 0 ≤ c ∧ c < 4) (hn : 0 ≤ n) (hx : ∀ j, PX' j = if j = n then k % 20 + c % 2 else PX j) (hy : ∀ j, PY' j = if j = n then k / 20 + c / 2 else PY j) : FL q PX' PY' (n + 1) k (c + 1) := by
  refine ⟨fun j a b => ?_, fun s d a b c1 e g => ?_⟩
  · rw [hx, hy]
    by_cases ej : j = n
    · rw [if_pos ej, if_pos ej]; exact ⟨k, c, h0, by omega, hc.1, hc.2, hq, rfl, rfl⟩
    · rw [if_neg ej, if_neg ej]
      obtain ⟨s, d, h1, h2, h3⟩ := h.1 j a (by omega)
      exact ⟨s, d, h1, by omega, h3⟩
  · by_cases e1 : s = k ∧ d = c
    · exact ⟨n, hn, by omega, by rw [hx, if_pos rfl, e1.1, e1.2], by rw [hy, if_pos rfl, e1.1, e1.2]⟩
    · obtain ⟨j, j1, j2, j3, j4⟩ := h.2 s d a (by omega) c1 e g
      exact ⟨j, j1, by omega, by rw [hx, if_neg (by omega)]; exact j3, by rw [hy, if_neg (by omega)]; exact j4⟩
theorem FL_PT {q : Int → Prop} {PX PY : Int → Int} {n j : Int} (h : FL q PX PY n 280 0) (h0 : 0 ≤ j) (h1 : j < n) : PT q (PX j) (PY j) := by
  obtain ⟨s, d, g1, g2, g3, g4, g5, g6, g7⟩ := h.1 j h0 h1
  exact ⟨s, g1, by omega, g5, by omega, by omega⟩
theorem FL_of {q : Int → Prop} {PX PY : Int → Int} {n x y : Int} (h : FL q PX PY n 280 0) (hp : PT q x y) : ∃ j, 0 ≤ j ∧ j < n ∧ PX j = x ∧ PY j = y := by
  obtain ⟨s, g1, g2, g3, g4, g5⟩ := hp
  obtain ⟨j, j1, j2, j3, j4⟩ := h.2 s (2 * (y - s / 20) + (x - s % 20)) g1 (by omega) (by omega) (by omega) g3
  exact ⟨j, j1, j2, by omega, by omega⟩
theorem cr_r {a b c d x y : Int} (h1 : 0 ≤ a ∧ a ≤ 20) (h2 : 0 ≤ b ∧ b ≤ 20) (h3 : 0 ≤ c ∧ c ≤ 20) (h4 : 0 ≤ d ∧ d ≤ 20) (h5 : 0 ≤ x ∧ x ≤ 20) (h6 : 0 ≤ y ∧ y ≤ 20) : -20000 ≤ cr a b c d x y ∧ cr a b c d x y ≤ 20000 := by
  have k1 : ((c - a) * (y - b)).natAbs ≤ 10000 := by
    rw [Int.natAbs_mul]; exact Nat.le_trans (Nat.mul_le_mul (show _ ≤ 100 by omega) (show _ ≤ 100 by omega)) (by decide)
  have k2 : ((d - b) * (x - a)).natAbs ≤ 10000 := by
    rw [Int.natAbs_mul]; exact Nat.le_trans (Nat.mul_le_mul (show _ ≤ 100 by omega) (show _ ≤ 100 by omega)) (by decide)
  unfold cr; omega
theorem nx_lt {m i : Int} (h : 0 ≤ i ∧ i < m) : 0 ≤ nx m i ∧ nx m i < m := by unfold nx; split <;> omega

set_option maxHeartbeats 4000000 in
set_option maxRecDepth 100000 in
theorem m_side (l : Launch) (S : ab_St) (F : ab_Fn) (A : ab_An) (hS : ab_SM S) (a b c d x y : Int) : ab_Met l yX10_side cX10_side 6 (some .int) { frames := 0, cells := 0, slots := 0, locals := 0 } 0 0 [aI a, aI b, aI c, aI d, aI x, aI y] S F A (fun v S' F' A' => S = S' ∧ F = F' ∧ A = A' ∧ v = some (aI (cr a b c d x y))) := by
  refine ab_enter (by decide) (by simp [aI, aR, aX, ab_val, Value.category]) (Nat.le_of_ble_eq_true rfl) (fun E C hr => ?_)
  refine j_eq (lv' := [some (aI a), some (aI b), some (aI c), some (aI d), some (aI x), some (aI y)]) ?_
  refine j_iload_n C dX10_side_0 rfl rfl ?_
  refine j_iload_n C dX10_side_1 rfl rfl ?_
  refine j_isub C dX10_side_2 ?_
  refine j_iload C dX10_side_3 rfl ?_
  refine j_iload_n C dX10_side_5 rfl rfl ?_
  refine j_isub C dX10_side_6 ?_
  refine j_imul C dX10_side_7 ?_
  refine j_iload_n C dX10_side_8 rfl rfl ?_
  refine j_iload_n C dX10_side_9 rfl rfl ?_
  refine j_isub C dX10_side_10 ?_
  refine j_iload C dX10_side_11 rfl ?_
  refine j_iload_n C dX10_side_13 rfl rfl ?_
  refine j_isub C dX10_side_14 ?_
  refine j_imul C dX10_side_15 ?_
  refine j_isub C dX10_side_16 ?_
  exact j_iret C hr (Nat.le_refl _) (Nat.le_refl _) dX10_side_17 ⟨rfl, rfl, rfl, rfl⟩

set_option maxHeartbeats 4000000 in
set_option maxRecDepth 100000 in
theorem m_isMore (l : Launch) (S : ab_St) (F : ab_Fn) (A : ab_An) (hS : ab_SM S) (at0 b k : Int) (h0 : (0 ≤ at0 ∧ at0 < 1120) ∧ (0 ≤ b ∧ b < 1120) ∧ (0 ≤ k ∧ k < 1120)) (h1 : (0 ≤ A 120 at0 ∧ A 120 at0 ≤ 20 ∧ 0 ≤ A 121 at0 ∧ A 121 at0 ≤ 20)) (h2 : (0 ≤ A 120 b ∧ A 120 b ≤ 20 ∧ 0 ≤ A 121 b ∧ A 121 b ≤ 20)) (h3 : (0 ≤ A 120 k ∧ A 120 k ≤ 20 ∧ 0 ≤ A 121 k ∧ A 121 k ≤ 20)) : ab_Met l yX10_isMore cX10_isMore 5 (some .boolean) { frames := 1, cells := 0, slots := 0, locals := 30 } 0 0 [aR 100, aI at0, aI b, aI k] S F A (fun v S' F' A' => S = S' ∧ F = F' ∧ A = A' ∧ ∃ z : Int, v = some (aI z) ∧ zb z (cr (A 120 at0) (A 121 at0) (A 120 b) (A 121 b) (A 120 k) (A 121 k) < 0 ∨ (cr (A 120 at0) (A 121 at0) (A 120 b) (A 121 b) (A 120 k) (A 121 k) = 0 ∧ dd (A 120 at0) (A 121 at0) (A 120 b) (A 121 b) < dd (A 120 at0) (A 121 at0) (A 120 k) (A 121 k)))) := by
  refine ab_enter (by decide) (by simp [aI, aR, aX, ab_val, Value.category]) (Nat.le_of_ble_eq_true rfl) (fun E C hr => ?_)
  refine j_eq (lv' := [some (aR 100), some (aI at0), some (aI b), some (aI k), none]) ?_
  refine j_aload_n C dX10_isMore_0 rfl rfl ?_
  refine j_getR C (j := 120) fl_X10_60 (sM_100 hS) rfl dX10_isMore_1 ?_
  refine j_iload_n C dX10_isMore_4 rfl rfl ?_
  refine j_iald C (sM_120 hS) (by omega) (by omega) (by decide) dX10_isMore_5 ?_
  refine j_aload_n C dX10_isMore_6 rfl rfl ?_
  refine j_getR C (j := 121) fl_X10_63 (sM_100 hS) rfl dX10_isMore_7 ?_
  refine j_iload_n C dX10_isMore_10 rfl rfl ?_
  refine j_iald C (sM_121 hS) (by omega) (by omega) (by decide) dX10_isMore_11 ?_
  refine j_aload_n C dX10_isMore_12 rfl rfl ?_
  refine j_getR C (j := 120) fl_X10_60 (sM_100 hS) rfl dX10_isMore_13 ?_
  refine j_iload_n C dX10_isMore_16 rfl rfl ?_
  refine j_iald C (sM_120 hS) (by omega) (by omega) (by decide) dX10_isMore_17 ?_
  refine j_aload_n C dX10_isMore_18 rfl rfl ?_
  refine j_getR C (j := 121) fl_X10_63 (sM_100 hS) rfl dX10_isMore_19 ?_
  refine j_iload_n C dX10_isMore_22 rfl rfl ?_
  refine j_iald C (sM_121 hS) (by omega) (by omega) (by decide) dX10_isMore_23 ?_
  refine j_aload_n C dX10_isMore_24 rfl rfl ?_
  refine j_getR C (j := 120) fl_X10_60 (sM_100 hS) rfl dX10_isMore_25 ?_
  refine j_iload_n C dX10_isMore_28 rfl rfl ?_
  refine j_iald C (sM_120 hS) (by omega) (by omega) (by decide) dX10_isMore_29 ?_
  refine j_aload_n C dX10_isMore_30 rfl rfl ?_
  refine j_getR C (j := 121) fl_X10_63 (sM_100 hS) rfl dX10_isMore_31 ?_
  refine j_iload_n C dX10_isMore_34 rfl rfl ?_
  refine j_iald C (sM_121 hS) (by omega) (by omega) (by decide) dX10_isMore_35 ?_
  refine j_callS C (vs := [aI (A 120 at0), aI (A 121 at0), aI (A 120 b), aI (A 121 b), aI (A 120 k), aI (A 121 k)]) (st := []) cl_X10_165 sc_yX10_side (fun _ => m_side _ S F A hS _ _ _ _ _ _) rfl ⟨rfl, rfl, by decide, by decide⟩ ⟨by decide, by decide⟩ (fun _ => Nat.le_of_ble_eq_true rfl) (fun v hv => by cases hv) (fun v hv => by simp only [List.mem_cons, List.not_mem_nil, or_false, Option.some.injEq, reduceCtorEq, false_or] at hv; rcases hv with rfl | rfl | rfl | rfl <;> first | exact (lM_100 hS) | exact trivial) dX10_isMore_36 (fun v_36 S_36 F_36 A_36 hP_36 => ?_)
  obtain ⟨rfl, rfl, rfl, rfl⟩ := hP_36
  show ab_J E 5 0 0 S F A 39 [some (aR 100), some (aI at0), some (aI b), some (aI k), none] [aI (cr (A 120 at0) (A 121 at0) (A 120 b) (A 121 b) (A 120 k) (A 121 k))]
  refine j_istore C (lv' := [some (aR 100), some (aI at0), some (aI b), some (aI k), some (aI (cr (A 120 at0) (A 121 at0) (A 120 b) (A 121 b) (A 120 k) (A 121 k)))]) dX10_isMore_39 (by decide) rfl ?_
  obtain ⟨cc0, hcc⟩ : ∃ x : Int, x = cr (A 120 at0) (A 121 at0) (A 120 b) (A 121 b) (A 120 k) (A 121 k) := ⟨_, rfl⟩
  have hcr := cr_r (a := A 120 at0) (b := A 121 at0) (c := A 120 b) (d := A 121 b) (x := A 120 k) (y := A 121 k) (by omega) (by omega) (by omega) (by omega) (by omega) (by omega)
  rw [← hcc] at hcr hr ⊢
  refine j_iload C dX10_isMore_41 rfl ?_
  refine j_if_eq C (tgt := 57) dX10_isMore_43 (by decide) ⟨by omega, by omega⟩ (fun c43 => ?_) (fun c43 => ?_)
  · refine j_aload_n C dX10_isMore_57 rfl rfl ?_
    refine j_getR C (j := 120) fl_X10_60 (sM_100 hS) rfl dX10_isMore_58 ?_
    refine j_iload_n C dX10_isMore_61 rfl rfl ?_
    refine j_iald C (sM_120 hS) (by omega) (by omega) (by decide) dX10_isMore_62 ?_
    refine j_aload_n C dX10_isMore_63 rfl rfl ?_
    refine j_getR C (j := 120) fl_X10_60 (sM_100 hS) rfl dX10_isMore_64 ?_
    refine j_iload_n C dX10_isMore_67 rfl rfl ?_
    refine j_iald C (sM_120 hS) (by omega) (by omega) (by decide) dX10_isMore_68 ?_
    refine j_isub C dX10_isMore_69 ?_
    refine j_mabs C (ab_t5 (List.mem_of_getElem? (i := 194) rfl) rfl) ⟨by omega, by omega⟩ (by decide) (fun _ => Nat.le_of_ble_eq_true rfl) ⟨by decide, by decide⟩ dX10_isMore_70 ?_
    refine j_aload_n C dX10_isMore_73 rfl rfl ?_
    refine j_getR C (j := 121) fl_X10_63 (sM_100 hS) rfl dX10_isMore_74 ?_
    refine j_iload_n C dX10_isMore_77 rfl rfl ?_
    refine j_iald C (sM_121 hS) (by omega) (by omega) (by decide) dX10_isMore_78 ?_
    refine j_aload_n C dX10_isMore_79 rfl rfl ?_
    refine j_getR C (j := 121) fl_X10_63 (sM_100 hS) rfl dX10_isMore_80 ?_
    refine j_iload_n C dX10_isMore_83 rfl rfl ?_
    refine j_iald C (sM_121 hS) (by omega) (by omega) (by decide) dX10_isMore_84 ?_
    refine j_isub C dX10_isMore_85 ?_
    refine j_mabs C (ab_t5 (List.mem_of_getElem? (i := 194) rfl) rfl) ⟨by omega, by omega⟩ (by decide) (fun _ => Nat.le_of_ble_eq_true rfl) ⟨by decide, by decide⟩ dX10_isMore_86 ?_
    refine j_iadd C dX10_isMore_89 ?_
    refine j_aload_n C dX10_isMore_90 rfl rfl ?_
    refine j_getR C (j := 120) fl_X10_60 (sM_100 hS) rfl dX10_isMore_91 ?_
    refine j_iload_n C dX10_isMore_94 rfl rfl ?_
    refine j_iald C (sM_120 hS) (by omega) (by omega) (by decide) dX10_isMore_95 ?_
    refine j_aload_n C dX10_isMore_96 rfl rfl ?_
    refine j_getR C (j := 120) fl_X10_60 (sM_100 hS) rfl dX10_isMore_97 ?_
    refine j_iload_n C dX10_isMore_100 rfl rfl ?_
    refine j_iald C (sM_120 hS) (by omega) (by omega) (by decide) dX10_isMore_101 ?_
    refine j_isub C dX10_isMore_102 ?_
    refine j_mabs C (ab_t5 (List.mem_of_getElem? (i := 194) rfl) rfl) ⟨by omega, by omega⟩ (by decide) (fun _ => Nat.le_of_ble_eq_true rfl) ⟨by decide, by decide⟩ dX10_isMore_103 ?_
    refine j_aload_n C dX10_isMore_106 rfl rfl ?_
    refine j_getR C (j := 121) fl_X10_63 (sM_100 hS) rfl dX10_isMore_107 ?_
    refine j_iload_n C dX10_isMore_110 rfl rfl ?_
    refine j_iald C (sM_121 hS) (by omega) (by omega) (by decide) dX10_isMore_111 ?_
    refine j_aload_n C dX10_isMore_112 rfl rfl ?_
    refine j_getR C (j := 121) fl_X10_63 (sM_100 hS) rfl dX10_isMore_113 ?_
    refine j_iload_n C dX10_isMore_116 rfl rfl ?_
    refine j_iald C (sM_121 hS) (by omega) (by omega) (by decide) dX10_isMore_117 ?_
    refine j_isub C dX10_isMore_118 ?_
    refine j_mabs C (ab_t5 (List.mem_of_getElem? (i := 194) rfl) rfl) ⟨by omega, by omega⟩ (by decide) (fun _ => Nat.le_of_ble_eq_true rfl) ⟨by decide, by decide⟩ dX10_isMore_119 ?_
    refine j_iadd C dX10_isMore_122 ?_
    have hd1 : dd (A 120 at0) (A 121 at0) (A 120 k) (A 121 k) = ((A 120 k - A 120 at0).natAbs : Int) + ((A 121 k - A 121 at0).natAbs : Int) := rfl
    have hd2 : dd (A 120 at0) (A 121 at0) (A 120 b) (A 121 b) = ((A 120 b - A 120 at0).natAbs : Int) + ((A 121 b - A 121 at0).natAbs : Int) := rfl
    refine j_icmp_le C (tgt := 130) dX10_isMore_123 (by decide) ⟨by omega, by omega⟩ ⟨by omega, by omega⟩ (fun c123 => ?_) (fun c123 => ?_)
    · refine j_iconst C dX10_isMore_130 ?_
      exact j_zret C hr (ab_nz01 (by omega)) (Nat.le_refl _) (Nat.le_refl _) dX10_isMore_131 ⟨rfl, rfl, rfl, _, rfl, (by unfold zb; omega)⟩
    · refine j_iconst C dX10_isMore_126 ?_
      refine j_goto C (tgt := 131) dX10_isMore_127 (by decide) ?_
      exact j_zret C hr (ab_nz01 (by omega)) (Nat.le_refl _) (Nat.le_refl _) dX10_isMore_131 ⟨rfl, rfl, rfl, _, rfl, (by unfold zb; omega)⟩
  · refine j_iload C dX10_isMore_46 rfl ?_
    refine j_if_ge C (tgt := 55) dX10_isMore_48 (by decide) ⟨by omega, by omega⟩ (fun c48 => ?_) (fun c48 => ?_)
    · refine j_iconst C dX10_isMore_55 ?_
      exact j_zret C hr (ab_nz01 (by omega)) (Nat.le_refl _) (Nat.le_refl _) dX10_isMore_56 ⟨rfl, rfl, rfl, _, rfl, (by unfold zb; omega)⟩
    · refine j_iconst C dX10_isMore_51 ?_
      refine j_goto C (tgt := 56) dX10_isMore_52 (by decide) ?_
      exact j_zret C hr (ab_nz01 (by omega)) (Nat.le_refl _) (Nat.le_refl _) dX10_isMore_56 ⟨rfl, rfl, rfl, _, rfl, (by unfold zb; omega)⟩
