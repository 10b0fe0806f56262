theorem mul_rng {p s : Int} (h1 : 0 ≤ p ∧ p ≤ 1000000) (h2 : 0 ≤ s ∧ s ≤ 100) : 0 ≤ p * s ∧ p * s ≤ 100 * p := by
  refine ⟨Int.mul_nonneg h1.1 h2.1, ?_⟩
  rw [Int.mul_comm 100 p]
  exact Int.mul_le_mul_of_nonneg_left h2.2 h1.1
/-- how many parts a look takes away -/
def awy (sq sh : Int) (u : bst) : Int := (u.1 sq * sh + 99) / 100
def blP (sq sh : Int) (u : bst) : Int → Int := fun k => if k = sq then u.1 sq - awy sq sh u else u.1 k
def blk (sq sh : Int) (u : bst) : bst := (blP sq sh u, u.2.1, u.2.2.1, u.2.2.2.1, if u.2.2.2.2 = 0 ∧ sm (fun x => if 0 < blP sq sh u x then 1 else 0) 280 = 0 then 1 else u.2.2.2.2)
theorem awy_rng {sq sh : Int} {u : bst} (hW : BW u) (h1 : 0 ≤ sq ∧ sq ≤ 279) (h2 : 0 ≤ sh ∧ sh ≤ 100) : 0 ≤ awy sq sh u ∧ awy sq sh u ≤ u.1 sq := by
  have h3 := hW.le h1.1 (by omega)
  have h4 := mul_rng h3 h2
  unfold awy
  omega
theorem sm_pos {f : Int → Int} : ∀ {n : Nat}, (∀ k : Int, 0 ≤ k → k < n → 0 ≤ f k) → (sm f n = 0 ↔ ∀ k : Int, 0 ≤ k → k < n → f k = 0)
  | 0, _ => ⟨fun _ k a b => by omega, fun _ => rfl⟩
  | n + 1, h => by
    have h1 := sm_pos (f := f) (n := n) (fun k a b => h k a (by omega))
    have h2 := sm_nonneg (f := f) (n := n) (fun k a b => h k a (by omega))
    have h3 := h n (by omega) (by omega)
    simp only [sm]
    constructor
    · intro e k a b
      by_cases q : k = n
      · rw [q]; omega
      · exact h1.mp (by omega) k a (by omega)
    · intro e
      have := h1.mpr (fun k a b => e k a (by omega))
      have := e n (by omega) (by omega)
      omega
theorem cnt_zero {p : Int → Int} {n : Nat} (h : ∀ k : Int, 0 ≤ k → k < n → 0 ≤ p k) : sm (fun x => if 0 < p x then 1 else 0) n = 0 ↔ ∀ k : Int, 0 ≤ k → k < n → p k = 0 := by
  rw [sm_pos (fun k _ _ => by split <;> omega)]
  constructor
  · intro e k a b
    have h1 := e k a b
    have h2 := h k a b
    by_cases q : 0 < p k
    · rw [if_pos q] at h1; omega
    · omega
  · intro e k a b
    rw [e k a b]; simp
theorem blP_nonneg {sq sh : Int} {u : bst} (hW : BW u) (h1 : 0 ≤ sq ∧ sq ≤ 279) (h2 : 0 ≤ sh ∧ sh ≤ 100) : ∀ k, 0 ≤ k → k < 280 → 0 ≤ blP sq sh u k ∧ blP sq sh u k ≤ u.1 k := by
  intro k a b
  have h3 := awy_rng hW h1 h2
  have h4 := hW.1 k a b
  unfold blP
  split
  · rename_i e; rw [e]; omega
  · omega
theorem blk_W {sq sh : Int} {u : bst} (hW : BW u) (h1 : 0 ≤ sq ∧ sq ≤ 279) (h2 : 0 ≤ sh ∧ sh ≤ 100) : BW (blk sq sh u) := by
  have hn := blP_nonneg hW h1 h2
  have hle : sm (blP sq sh u) 280 ≤ 1000000 := by
    have := sm_le (f := blP sq sh u) (g := u.1) (n := 280) (fun k a b => (hn k a (by omega)).2)
    have := hW.2.1
    omega
  obtain ⟨w1, w2, w3, w4, w5, w6, w7⟩ := hW
  unfold blk
  have hz := cnt_zero (p := blP sq sh u) (n := 280) (fun k a b => (hn k a (by omega)).1)
  generalize sm (fun x => if 0 < blP sq sh u x then 1 else 0) 280 = cN at hz ⊢
  by_cases hd : u.2.2.2.2 = 0 ∧ cN = 0
  · rw [if_pos hd]
    exact ⟨fun k a b => (hn k a b).1, hle, w3, w4, Or.inr rfl, fun z => absurd (show (1 : Int) = 0 from z) (by decide), fun _ k a b => hz.mp hd.2 k a (by omega)⟩
  · rw [if_neg hd]
    refine ⟨fun k a b => (hn k a b).1, hle, w3, w4, w5, w6, fun z k a b => ?_⟩
    have q1 := w7 z k a b
    have q2 := hn k a b
    show blP sq sh u k = 0
    omega
/-- the reference's rows behind a look at one berg -/
theorem BR_look {A A1 A2 : ab_An} {b sq sh v : Int} {u : bst} (hR : BR A b u) (hW : BW u) (h1 : 0 ≤ sq ∧ sq ≤ 279) (h2 : 0 ≤ sh ∧ sh ≤ 100) (hv : v = awy sq sh u) (e1 : A1 = upA A 106 (280 * b + sq) (A 106 (280 * b + sq) - v))
    (e2 : (¬ A1 110 b = 0 ∧ A2 = A1) ∨ (A1 110 b = 0 ∧ ¬ sm (fun x => if 0 < A1 106 (280 * b + x) then 1 else 0) 280 = 0 ∧ A2 = A1) ∨ (A1 110 b = 0 ∧ sm (fun x => if 0 < A1 106 (280 * b + x) then 1 else 0) 280 = 0 ∧ A2 = setRow (upA A1 110 b 1) 106 (280 * b) 280 (fun _ => 0))) :
    BR A2 b (blk sq sh u) ∧ (∀ b' u', 0 ≤ b' → b' ≠ b → BR A b' u' → BR A2 b' u') ∧ ∀ i, i ≠ 106 → i ≠ 110 → A2 i = A i := by
  obtain ⟨r1, r2, r3, r4, r5⟩ := hR
  have hn := blP_nonneg hW h1 h2
  have hrow : ∀ k, 0 ≤ k → k < 280 → A1 106 (280 * b + k) = blP sq sh u k := fun k a c => by
    rw [e1, upA_if]
    unfold blP
    by_cases q : k = sq
    · rw [q, if_pos rfl, if_pos rfl, r1 sq h1.1 (by omega), hv]
    · rw [if_neg (by omega), if_neg q, r1 k a c]
  have hcnt : sm (fun x => if 0 < A1 106 (280 * b + x) then 1 else 0) 280 = sm (fun x => if 0 < blP sq sh u x then 1 else 0) 280 := sm_cong (fun k a c => by rw [hrow k a (by omega)])
  have hoth : ∀ b' k, 0 ≤ b' → b' ≠ b → 0 ≤ k → k < 280 → A1 106 (280 * b' + k) = A 106 (280 * b' + k) := fun b' k _ q3 q4 q5 => by rw [e1, upA_ne (by omega)]
  have h110 : A1 110 b = u.2.2.2.2 := by rw [e1, upA_other (by decide)]; exact r5
  have hz := cnt_zero (p := blP sq sh u) (n := 280) (fun k a b => (hn k a (by omega)).1)
  rw [hcnt, h110] at e2
  unfold blk
  generalize sm (fun x => if 0 < blP sq sh u x then 1 else 0) 280 = cN at hz e2 ⊢
  have far : ∀ (b' k : Int), 0 ≤ b' → b' ≠ b → 0 ≤ k → k < 280 → (280 * b' + k < 280 * b ∨ 280 * b + 280 ≤ 280 * b' + k) := fun b' k _ hne _ _ => by omega
  have keep : A2 = A1 → ¬ (u.2.2.2.2 = 0 ∧ cN = 0) → BR A2 b (blP sq sh u, u.2.1, u.2.2.1, u.2.2.2.1, if u.2.2.2.2 = 0 ∧ cN = 0 then 1 else u.2.2.2.2) ∧ (∀ b' u', 0 ≤ b' → b' ≠ b → BR A b' u' → BR A2 b' u') ∧ ∀ i, i ≠ 106 → i ≠ 110 → A2 i = A i := by
    intro e hd
    rw [if_neg hd, e]
    refine ⟨⟨hrow, ?_, ?_, ?_, h110⟩, fun b' u' p0 p1 hR' => ⟨fun k a c => by rw [hoth b' k p0 p1 a c]; exact hR'.1 k a c, ?_, ?_, ?_, ?_⟩, fun i p1 p2 => by rw [e1, upA_other p1]⟩
    · rw [e1, upA_other (by decide)]; exact r2
    · rw [e1, upA_other (by decide)]; exact r3
    · rw [e1, upA_other (by decide)]; exact r4
    · rw [e1, upA_other (by decide)]; exact hR'.2.1
    · rw [e1, upA_other (by decide)]; exact hR'.2.2.1
    · rw [e1, upA_other (by decide)]; exact hR'.2.2.2.1
    · rw [e1, upA_other (by decide)]; exact hR'.2.2.2.2
  rcases e2 with ⟨q1, e2⟩ | ⟨q1, q2, e2⟩ | ⟨q1, q2, e2⟩
  · exact keep e2 (fun z => q1 z.1)
  · exact keep e2 (fun z => q2 z.2)
  · rw [if_pos ⟨q1, q2⟩, e2]
    refine ⟨⟨fun k a c => ?_, ?_, ?_, ?_, ?_⟩, fun b' u' p0 p1 hR' => ⟨fun k a c => ?_, ?_, ?_, ?_, ?_⟩, fun i p1 p2 => by rw [setRow_other p1, upA_other p2, e1, upA_other p1]⟩
    · rw [setRow_in (by omega) (by omega)]; exact (hz.mp q2 k a (by omega)).symm
    · rw [setRow_other (by decide), upA_other (by decide), e1, upA_other (by decide)]; exact r2
    · rw [setRow_other (by decide), upA_other (by decide), e1, upA_other (by decide)]; exact r3
    · rw [setRow_other (by decide), upA_other (by decide), e1, upA_other (by decide)]; exact r4
    · rw [setRow_other (by decide), upA_at]
    · rw [setRow_out (far b' k p0 p1 a c), upA_other (by decide), hoth b' k p0 p1 a c]; exact hR'.1 k a c
    · rw [setRow_other (by decide), upA_other (by decide), e1, upA_other (by decide)]; exact hR'.2.1
    · rw [setRow_other (by decide), upA_other (by decide), e1, upA_other (by decide)]; exact hR'.2.2.1
    · rw [setRow_other (by decide), upA_other (by decide), e1, upA_other (by decide)]; exact hR'.2.2.2.1
    · rw [setRow_other (by decide), upA_ne p1, e1, upA_other (by decide)]; exact hR'.2.2.2.2
theorem sm_01n (f : Int → Int) : ∀ n : Nat, 0 ≤ sm (fun x => if 0 < f x then 1 else 0) n ∧ sm (fun x => if 0 < f x then 1 else 0) n ≤ n
  | 0 => ⟨Int.le_refl _, Int.le_refl _⟩
  | n + 1 => by
    have h := sm_01n f n
    simp only [sm]
    split <;> omega
theorem sm_01 (f : Int → Int) : inR (sm (fun x => if 0 < f x then 1 else 0) 280) := by
  have h := sm_01n f 280
  exact ⟨by omega, by omega⟩
def bCand (sq z : Int) (u : bst) : Prop := u.2.2.2.2 = 0 ∧ 0 < u.1 sq ∧ z ≤ u.2.1
/-- the berg that a telling is joined to; -1: none -/
def bBest (U : Int → bst) (sq z n best : Int) : Prop := (best = -1 ∧ ∀ b, 0 ≤ b → b < n → ¬ bCand sq z (U b)) ∨ (0 ≤ best ∧ best < n ∧ bCand sq z (U best) ∧ ∀ b, 0 ≤ b → b < n → bCand sq z (U b) → (U b).1 sq ≤ (U best).1 sq ∧ (b < best → (U b).1 sq < (U best).1 sq))
theorem bBest_0 {U : Int → bst} {sq z : Int} : bBest U sq z 0 (-1) := Or.inl ⟨rfl, fun b h1 h2 => by omega⟩
theorem bBest_rng {U : Int → bst} {sq z n best : Int} (h : bBest U sq z n best) : best = -1 ∨ (0 ≤ best ∧ best < n) := by rcases h with h | h; exact Or.inl h.1; exact Or.inr ⟨h.1, h.2.1⟩
theorem bBest_no {U : Int → bst} {sq z n best : Int} (h0 : 0 ≤ n) (h : bBest U sq z n best) (hc : ¬ bCand sq z (U n)) : bBest U sq z (n + 1) best := by
  rcases h with ⟨h1, h2⟩ | ⟨h1, h2, h3, h4⟩
  · refine Or.inl ⟨h1, fun b a c => ?_⟩
    by_cases q : b = n
    · rw [q]; exact hc
    · exact h2 b a (by omega)
  · refine Or.inr ⟨h1, by omega, h3, fun b a c hb => ?_⟩
    by_cases q : b = n
    · rw [q] at hb; exact absurd hb hc
    · exact h4 b a (by omega) hb
theorem bBest_less {U : Int → bst} {sq z n best : Int} (h0 : 0 ≤ n) (h : bBest U sq z n best) (hb : 0 ≤ best) (hc : (U n).1 sq ≤ (U best).1 sq) : bBest U sq z (n + 1) best := by
  rcases h with ⟨h1, h2⟩ | ⟨h1, h2, h3, h4⟩
  · omega
  · refine Or.inr ⟨h1, by omega, h3, fun b a c hb => ?_⟩
    by_cases q : b = n
    · rw [q]; exact ⟨hc, fun z => by omega⟩
    · exact h4 b a (by omega) hb
theorem bBest_new {U : Int → bst} {sq z n best : Int} (h0 : 0 ≤ n) (h : bBest U sq z n best) (hn : bCand sq z (U n)) (hc : best < 0 ∨ (U best).1 sq < (U n).1 sq) : bBest U sq z (n + 1) n := by
  refine Or.inr ⟨h0, by omega, hn, fun b a c hb => ?_⟩
  by_cases q : b = n
  · rw [q]; exact ⟨Int.le_refl _, fun z => by omega⟩
  · rcases h with ⟨h1, h2⟩ | ⟨h1, h2, h3, h4⟩
    · exact absurd hb (h2 b a (by omega))
    · have := h4 b a (by omega) hb
      exact ⟨by omega, fun _ => by omega⟩
theorem bBest_one {U : Int → bst} {sq z n b1 b2 : Int} (h : bBest U sq z n b1) (g : bBest U sq z n b2) : b1 = b2 := by
  rcases h with ⟨h1, h2⟩ | ⟨h1, h2, h3, h4⟩ <;> rcases g with ⟨g1, g2⟩ | ⟨g1, g2, g3, g4⟩
  · omega
  · exact absurd g3 (h2 b2 g1 g2)
  · exact absurd h3 (g2 b1 h1 h2)
  · have q1 := h4 b2 g1 g2 g3
    have q2 := g4 b1 h1 h2 h3
    by_cases e : b1 = b2
    · exact e
    · rcases Int.lt_or_gt_of_ne e with l | l
      · have := q2.2 l; omega
      · have := q1.2 l; omega

set_option maxHeartbeats 4000000 in
set_option maxRecDepth 100000 in
theorem m_parts (l : Launch) (S : ab_St) (F : ab_Fn) (A : ab_An) (hS : ab_SM S) (b sq : Int) (rb : inR b) (rs : inR sq) (hb : 0 ≤ F 100 11 ∧ F 100 11 ≤ 10) : ab_Met l yX10_parts cX10_parts 3 (some .int) { frames := 2, cells := 0, slots := 0, locals := 43 } 0 0 [aR 100, aI b, aI sq] S F A (fun v S' F' A' => S = S' ∧ A = A' ∧ ∃ t r : Int, v = some (aI r) ∧ F' = upF F 100 0 t ∧ ((t = 1 ∧ ¬ ((0 ≤ b ∧ b < F 100 11) ∧ (0 ≤ sq ∧ sq ≤ 279))) ∨ (t = 0 ∧ (0 ≤ b ∧ b < F 100 11) ∧ (0 ≤ sq ∧ sq ≤ 279) ∧ r = A 106 (280 * b + sq)))) := by
  refine ab_enter (by decide) (by simp [aI, aR, aX, ab_val, Value.category]) (Nat.le_of_ble_eq_true rfl) (fun E C hr => ?_)
  refine j_eq (lv' := [some (aR 100), some (aI b), some (aI sq)]) ?_
  refine j_aload_n C dX10_parts_0 rfl rfl ?_
  refine j_iconst C dX10_parts_1 ?_
  refine j_putI C fp_X10_3 (sM_100 hS) rfl dX10_parts_2 ?_
  refine j_aload_n C dX10_parts_5 rfl rfl ?_
  refine j_aload_n C dX10_parts_6 rfl rfl ?_
  refine j_iload_n C dX10_parts_7 rfl rfl ?_
  refine j_callV C (vs := [aI b]) (st := [aR 100]) cl_X10_156 im_yX10_noBerg se_yX10_noBerg (fun _ => m_noBerg _ S (upF F 100 0 0) A hS _ rb hb) (sM_100 hS) rfl rfl rfl ⟨rfl, rfl, by decide, by decide⟩ ⟨by decide, by decide⟩ (fun _ => Nat.le_of_ble_eq_true rfl) (fun v hv => by simp only [List.mem_cons, List.not_mem_nil, or_false] at hv; rcases hv with rfl <;> first | exact (lM_100 hS)) (fun v hv => by simp only [List.mem_cons, List.not_mem_nil, or_false, Option.some.injEq, reduceCtorEq, false_or] at hv; rcases hv with rfl | rfl | rfl <;> first | exact (lM_100 hS) | exact trivial) dX10_parts_8 (fun v_8 S_8 F_8 A_8 hP_8 => ?_)
  obtain ⟨rfl, rfl, rfl, z_8, rfl, ⟨rfl, hz_8⟩ | ⟨rfl, hz_8⟩⟩ := hP_8
  · have hz_8 : ¬ (0 ≤ b ∧ b < F 100 11) := hz_8
    show ab_J E 3 0 0 S (upF F 100 0 0) A 11 [some (aR 100), some (aI b), some (aI sq)] [aI 1, aR 100]
    refine j_if_ne C (tgt := 21) dX10_parts_11 (by decide) ⟨by omega, by omega⟩ (fun c11 => ?_) (fun c11 => ?_)
    · refine j_iconst C dX10_parts_21 ?_
      refine j_goto C (tgt := 26) dX10_parts_22 (by decide) ?_
      refine j_iconst C dX10_parts_26 ?_
      refine j_callV C (vs := [aI 1, aI 1]) (st := []) cl_X10_111 im_yX10_throwsIf se_yX10_throwsIf (fun _ => m_throwsIf1 _ S (upF F 100 0 0) A hS _) (sM_100 hS) rfl rfl rfl ⟨rfl, rfl, by decide, by decide⟩ ⟨by decide, by decide⟩ (fun _ => Nat.le_of_ble_eq_true rfl) (fun v hv => by cases hv) (fun v hv => by simp only [List.mem_cons, List.not_mem_nil, or_false, Option.some.injEq, reduceCtorEq, false_or] at hv; rcases hv with rfl | rfl | rfl <;> first | exact (lM_100 hS) | exact trivial) dX10_parts_27 (fun v_27 S_27 F_27 A_27 hP_27 => ?_)
      obtain ⟨rfl, rfl, rfl, rfl⟩ := hP_27
      show ab_J E 3 0 0 S (upF (upF F 100 0 0) 100 0 1) A 30 [some (aR 100), some (aI b), some (aI sq)] [aI 1]
      refine j_if_eq C (tgt := 35) dX10_parts_30 (by decide) ⟨by omega, by omega⟩ (fun c30 => ?_) (fun c30 => ?_)
      · exact absurd c30 (by decide)
      · refine j_iconst C dX10_parts_33 ?_
        exact j_iret C hr (Nat.le_refl _) (Nat.le_refl _) dX10_parts_34 ⟨rfl, rfl, 1, _, rfl, (by first | rfl | exact upF_up _ _ _ _ _), (by first | exact Or.inl ⟨rfl, by omega⟩ | exact Or.inr ⟨rfl, by omega, by omega, rfl⟩)⟩
    · exact absurd c11 (by decide)
  · have hz_8 : ¬ (¬ (0 ≤ b ∧ b < F 100 11)) := hz_8
    show ab_J E 3 0 0 S (upF F 100 0 0) A 11 [some (aR 100), some (aI b), some (aI sq)] [aI 0, aR 100]
    refine j_if_ne C (tgt := 21) dX10_parts_11 (by decide) ⟨by omega, by omega⟩ (fun c11 => ?_) (fun c11 => ?_)
    · exact absurd c11 (by decide)
    · refine j_iload_n C dX10_parts_14 rfl rfl ?_
      refine j_callS C (vs := [aI sq]) (st := [aR 100]) cl_X10_107 sc_yX10_noSquare (fun _ => m_noSquare _ S (upF F 100 0 0) A hS _ rs) rfl ⟨rfl, rfl, by decide, by decide⟩ ⟨by decide, by decide⟩ (fun _ => Nat.le_of_ble_eq_true rfl) (fun v hv => by simp only [List.mem_cons, List.not_mem_nil, or_false] at hv; rcases hv with rfl <;> first | exact (lM_100 hS)) (fun v hv => by simp only [List.mem_cons, List.not_mem_nil, or_false, Option.some.injEq, reduceCtorEq, false_or] at hv; rcases hv with rfl | rfl | rfl <;> first | exact (lM_100 hS) | exact trivial) dX10_parts_15 (fun v_15 S_15 F_15 A_15 hP_15 => ?_)
      obtain ⟨rfl, rfl, rfl, z_15, rfl, ⟨rfl, hz_15⟩ | ⟨rfl, hz_15⟩⟩ := hP_15
      · show ab_J E 3 0 0 S (upF F 100 0 0) A 18 [some (aR 100), some (aI b), some (aI sq)] [aI 1, aR 100]
        refine j_if_eq C (tgt := 25) dX10_parts_18 (by decide) ⟨by omega, by omega⟩ (fun c18 => ?_) (fun c18 => ?_)
        · exact absurd c18 (by decide)
        · refine j_iconst C dX10_parts_21 ?_
          refine j_goto C (tgt := 26) dX10_parts_22 (by decide) ?_
          refine j_iconst C dX10_parts_26 ?_
          refine j_callV C (vs := [aI 1, aI 1]) (st := []) cl_X10_111 im_yX10_throwsIf se_yX10_throwsIf (fun _ => m_throwsIf1 _ S (upF F 100 0 0) A hS _) (sM_100 hS) rfl rfl rfl ⟨rfl, rfl, by decide, by decide⟩ ⟨by decide, by decide⟩ (fun _ => Nat.le_of_ble_eq_true rfl) (fun v hv => by cases hv) (fun v hv => by simp only [List.mem_cons, List.not_mem_nil, or_false, Option.some.injEq, reduceCtorEq, false_or] at hv; rcases hv with rfl | rfl | rfl <;> first | exact (lM_100 hS) | exact trivial) dX10_parts_27 (fun v_27 S_27 F_27 A_27 hP_27 => ?_)
          obtain ⟨rfl, rfl, rfl, rfl⟩ := hP_27
          show ab_J E 3 0 0 S (upF (upF F 100 0 0) 100 0 1) A 30 [some (aR 100), some (aI b), some (aI sq)] [aI 1]
          refine j_if_eq C (tgt := 35) dX10_parts_30 (by decide) ⟨by omega, by omega⟩ (fun c30 => ?_) (fun c30 => ?_)
          · exact absurd c30 (by decide)
          · refine j_iconst C dX10_parts_33 ?_
            exact j_iret C hr (Nat.le_refl _) (Nat.le_refl _) dX10_parts_34 ⟨rfl, rfl, 1, _, rfl, (by first | rfl | exact upF_up _ _ _ _ _), (by first | exact Or.inl ⟨rfl, by omega⟩ | exact Or.inr ⟨rfl, by omega, by omega, rfl⟩)⟩
      · show ab_J E 3 0 0 S (upF F 100 0 0) A 18 [some (aR 100), some (aI b), some (aI sq)] [aI 0, aR 100]
        refine j_if_eq C (tgt := 25) dX10_parts_18 (by decide) ⟨by omega, by omega⟩ (fun c18 => ?_) (fun c18 => ?_)
        · refine j_iconst C dX10_parts_25 ?_
          refine j_iconst C dX10_parts_26 ?_
          refine j_callV C (vs := [aI 0, aI 1]) (st := []) cl_X10_111 im_yX10_throwsIf se_yX10_throwsIf (fun _ => m_throwsIf0 _ S (upF F 100 0 0) A hS _) (sM_100 hS) rfl rfl rfl ⟨rfl, rfl, by decide, by decide⟩ ⟨by decide, by decide⟩ (fun _ => Nat.le_of_ble_eq_true rfl) (fun v hv => by cases hv) (fun v hv => by simp only [List.mem_cons, List.not_mem_nil, or_false, Option.some.injEq, reduceCtorEq, false_or] at hv; rcases hv with rfl | rfl | rfl <;> first | exact (lM_100 hS) | exact trivial) dX10_parts_27 (fun v_27 S_27 F_27 A_27 hP_27 => ?_)
          obtain ⟨rfl, rfl, rfl, rfl⟩ := hP_27
          show ab_J E 3 0 0 S (upF F 100 0 0) A 30 [some (aR 100), some (aI b), some (aI sq)] [aI 0]
          refine j_if_eq C (tgt := 35) dX10_parts_30 (by decide) ⟨by omega, by omega⟩ (fun c30 => ?_) (fun c30 => ?_)
          · refine j_aload_n C dX10_parts_35 rfl rfl ?_
            refine j_getR C (j := 106) fl_X10_27 (sM_100 hS) rfl dX10_parts_36 ?_
            refine j_sipush C dX10_parts_39 rfl ?_
            refine j_iload_n C dX10_parts_42 rfl rfl ?_
            refine j_imul C dX10_parts_43 ?_
            refine j_iload_n C dX10_parts_44 rfl rfl ?_
            refine j_iadd C dX10_parts_45 ?_
            refine j_iald C (sM_106 hS) (by omega) (by omega) (by decide) dX10_parts_46 ?_
            exact j_iret C hr (Nat.le_refl _) (Nat.le_refl _) dX10_parts_47 ⟨rfl, rfl, 0, _, rfl, (by first | rfl | exact upF_up _ _ _ _ _), (by first | exact Or.inl ⟨rfl, by omega⟩ | exact Or.inr ⟨rfl, by omega, by omega, rfl⟩)⟩
          · exact absurd c30 (by decide)
        · exact absurd c18 (by decide)

set_option maxHeartbeats 4000000 in
set_option maxRecDepth 100000 in
theorem m_berg (l : Launch) (S : ab_St) (F : ab_Fn) (A : ab_An) (hS : ab_SM S) (b w : Int) (rb : inR b) (rw1 : inR w) (hb : 0 ≤ F 100 11 ∧ F 100 11 ≤ 10) (hp : (0 ≤ b ∧ b < F 100 11) → ∀ k, 0 ≤ k → k < 280 → inR (A 106 (280 * b + k))) (hg : (0 ≤ b ∧ b < F 100 11) → A 110 b = 0 ∨ A 110 b = 1) : ab_Met l yX10_berg cX10_berg 5 (some .int) { frames := 2, cells := 0, slots := 0, locals := 43 } 0 0 [aR 100, aI b, aI w] S F A (fun v S' F' A' => S = S' ∧ A = A' ∧ ∃ t r : Int, v = some (aI r) ∧ F' = upF F 100 0 t ∧ ((t = 1 ∧ ¬ (0 ≤ b ∧ b < F 100 11)) ∨ (t = 2 ∧ (0 ≤ b ∧ b < F 100 11) ∧ ¬ (0 ≤ w ∧ w ≤ 5)) ∨ (t = 0 ∧ (0 ≤ b ∧ b < F 100 11) ∧ ((w = 0 ∧ r = A 107 b) ∨ (w = 1 ∧ r = A 108 b) ∨ (w = 2 ∧ r = A 110 b) ∨ (w = 3 ∧ r = sm (fun x => if 0 < A 106 (280 * b + x) then 1 else 0) 280) ∨ (w = 4 ∧ r = sm (fun x => A 106 (280 * b + x)) 280) ∨ (w = 5 ∧ r = A 109 b))))) := by
  refine ab_enter (by decide) (by simp [aI, aR, aX, ab_val, Value.category]) (Nat.le_of_ble_eq_true rfl) (fun E C hr => ?_)
  refine j_eq (lv' := [some (aR 100), some (aI b), some (aI w), none, none]) ?_
  refine j_aload_n C dX10_berg_0 rfl rfl ?_
  refine j_iconst C dX10_berg_1 ?_
  refine j_putI C fp_X10_3 (sM_100 hS) rfl dX10_berg_2 ?_
  refine j_aload_n C dX10_berg_5 rfl rfl ?_
  refine j_aload_n C dX10_berg_6 rfl rfl ?_
  refine j_iload_n C dX10_berg_7 rfl rfl ?_
  refine j_callV C (vs := [aI b]) (st := [aR 100]) cl_X10_156 im_yX10_noBerg se_yX10_noBerg (fun _ => m_noBerg _ S (upF F 100 0 0) A hS _ rb hb) (sM_100 hS) rfl rfl rfl ⟨rfl, rfl, by decide, by decide⟩ ⟨by decide, by decide⟩ (fun _ => Nat.le_of_ble_eq_true rfl) (fun v hv => by simp only [List.mem_cons, List.not_mem_nil, or_false] at hv; rcases hv with rfl <;> first | exact (lM_100 hS)) (fun v hv => by simp only [List.mem_cons, List.not_mem_nil, or_false, Option.some.injEq, reduceCtorEq, false_or] at hv; rcases hv with rfl | rfl | rfl <;> first | exact (lM_100 hS) | exact trivial) dX10_berg_8 (fun v_8 S_8 F_8 A_8 hP_8 => ?_)
  obtain ⟨rfl, rfl, rfl, z_8, rfl, ⟨rfl, hz_8⟩ | ⟨rfl, hz_8⟩⟩ := hP_8
  · have hz_8 : ¬ (0 ≤ b ∧ b < F 100 11) := hz_8
    show ab_J E 5 0 0 S (upF F 100 0 0) A 11 [some (aR 100), some (aI b), some (aI w), none, none] [aI 1, aR 100]
    refine j_iconst C dX10_berg_11 ?_
    refine j_callV C (vs := [aI 1, aI 1]) (st := []) cl_X10_111 im_yX10_throwsIf se_yX10_throwsIf (fun _ => m_throwsIf1 _ S (upF F 100 0 0) A hS _) (sM_100 hS) rfl rfl rfl ⟨rfl, rfl, by decide, by decide⟩ ⟨by decide, by decide⟩ (fun _ => Nat.le_of_ble_eq_true rfl) (fun v hv => by cases hv) (fun v hv => by simp only [List.mem_cons, List.not_mem_nil, or_false, Option.some.injEq, reduceCtorEq, false_or] at hv; rcases hv with rfl | rfl | rfl <;> first | exact (lM_100 hS) | exact trivial) dX10_berg_12 (fun v_12 S_12 F_12 A_12 hP_12 => ?_)
    obtain ⟨rfl, rfl, rfl, rfl⟩ := hP_12
    show ab_J E 5 0 0 S (upF (upF F 100 0 0) 100 0 1) A 15 [some (aR 100), some (aI b), some (aI w), none, none] [aI 1]
    refine j_if_eq C (tgt := 20) dX10_berg_15 (by decide) ⟨by omega, by omega⟩ (fun c15 => ?_) (fun c15 => ?_)
    · exact absurd c15 (by decide)
    · refine j_iconst C dX10_berg_18 ?_
      exact j_iret C hr (Nat.le_refl _) (Nat.le_refl _) dX10_berg_19 ⟨rfl, rfl, 1, _, rfl, (by first | rfl | exact upF_up _ _ _ _ _), (by first | exact Or.inl ⟨rfl, by omega⟩)⟩
  · have hz_8 : ¬ (¬ (0 ≤ b ∧ b < F 100 11)) := hz_8
    show ab_J E 5 0 0 S (upF F 100 0 0) A 11 [some (aR 100), some (aI b), some (aI w), none, none] [aI 0, aR 100]
    refine j_iconst C dX10_berg_11 ?_
    refine j_callV C (vs := [aI 0, aI 1]) (st := []) cl_X10_111 im_yX10_throwsIf se_yX10_throwsIf (fun _ => m_throwsIf0 _ S (upF F 100 0 0) A hS _) (sM_100 hS) rfl rfl rfl ⟨rfl, rfl, by decide, by decide⟩ ⟨by decide, by decide⟩ (fun _ => Nat.le_of_ble_eq_true rfl) (fun v hv => by cases hv) (fun v hv => by simp only [List.mem_cons, List.not_mem_nil, or_false, Option.some.injEq, reduceCtorEq, false_or] at hv; rcases hv with rfl | rfl | rfl <;> first | exact (lM_100 hS) | exact trivial) dX10_berg_12 (fun v_12 S_12 F_12 A_12 hP_12 => ?_)
    obtain ⟨rfl, rfl, rfl, rfl⟩ := hP_12
    show ab_J E 5 0 0 S (upF F 100 0 0) A 15 [some (aR 100), some (aI b), some (aI w), none, none] [aI 0]
    refine j_if_eq C (tgt := 20) dX10_berg_15 (by decide) ⟨by omega, by omega⟩ (fun c15 => ?_) (fun c15 => ?_)
    · refine j_iload_n C dX10_berg_20 rfl rfl ?_
      rcases (show w < 0 ∨ 5 < w ∨ w = 0 ∨ w = 1 ∨ w = 2 ∨ w = 3 ∨ w = 4 ∨ w = 5 by omega) with c21 | c21 | c21 | c21 | c21 | c21 | c21 | c21
      · refine j_tableOut C (tgt := 139) dX10_berg_21 rw1 (Or.inl c21) (by decide) ?_
        refine j_aload_n C dX10_berg_139 rfl rfl ?_
        refine j_iconst C dX10_berg_140 ?_
        refine j_putI C fp_X10_3 (sM_100 hS) rfl dX10_berg_141 ?_
        refine j_iconst C dX10_berg_144 ?_
        exact j_iret C hr (Nat.le_refl _) (Nat.le_refl _) dX10_berg_145 ⟨rfl, rfl, 2, _, rfl, (by first | rfl | exact upF_up _ _ _ _ _), (by first | exact Or.inr (Or.inl ⟨rfl, by omega, by omega⟩))⟩
      · refine j_tableOut C (tgt := 139) dX10_berg_21 rw1 (Or.inr c21) (by decide) ?_
        refine j_aload_n C dX10_berg_139 rfl rfl ?_
        refine j_iconst C dX10_berg_140 ?_
        refine j_putI C fp_X10_3 (sM_100 hS) rfl dX10_berg_141 ?_
        refine j_iconst C dX10_berg_144 ?_
        exact j_iret C hr (Nat.le_refl _) (Nat.le_refl _) dX10_berg_145 ⟨rfl, rfl, 2, _, rfl, (by first | rfl | exact upF_up _ _ _ _ _), (by first | exact Or.inr (Or.inl ⟨rfl, by omega, by omega⟩))⟩
      · refine j_tableIn C (tgt := 60) 0 dX10_berg_21 c21 ⟨by omega, by omega⟩ (by decide) (by decide) rfl (by decide) ?_
        refine j_aload_n C dX10_berg_60 rfl rfl ?_
        refine j_getR C (j := 107) fl_X10_30 (sM_100 hS) rfl dX10_berg_61 ?_
        refine j_iload_n C dX10_berg_64 rfl rfl ?_
        refine j_iald C (sM_107 hS) (by omega) (by omega) (by decide) dX10_berg_65 ?_
        exact j_iret C hr (Nat.le_refl _) (Nat.le_refl _) dX10_berg_66 ⟨rfl, rfl, 0, _, rfl, (by first | rfl | exact upF_up _ _ _ _ _), (by first | exact Or.inr (Or.inr ⟨rfl, by omega, Or.inl ⟨by omega, rfl⟩⟩))⟩
      · refine j_tableIn C (tgt := 67) 1 dX10_berg_21 c21 ⟨by omega, by omega⟩ (by decide) (by decide) rfl (by decide) ?_
        refine j_aload_n C dX10_berg_67 rfl rfl ?_
        refine j_getR C (j := 108) fl_X10_33 (sM_100 hS) rfl dX10_berg_68 ?_
        refine j_iload_n C dX10_berg_71 rfl rfl ?_
        refine j_iald C (sM_108 hS) (by omega) (by omega) (by decide) dX10_berg_72 ?_
        exact j_iret C hr (Nat.le_refl _) (Nat.le_refl _) dX10_berg_73 ⟨rfl, rfl, 0, _, rfl, (by first | rfl | exact upF_up _ _ _ _ _), (by first | exact Or.inr (Or.inr ⟨rfl, by omega, Or.inr (Or.inl ⟨by omega, rfl⟩)⟩))⟩
      · refine j_tableIn C (tgt := 74) 2 dX10_berg_21 c21 ⟨by omega, by omega⟩ (by decide) (by decide) rfl (by decide) ?_
        refine j_aload_n C dX10_berg_74 rfl rfl ?_
        refine j_getR C (j := 110) fl_X10_39 (sM_100 hS) rfl dX10_berg_75 ?_
        refine j_iload_n C dX10_berg_78 rfl rfl ?_
        have hgg := hg (by omega)
        refine j_zald C (sM_110 hS) (by omega) (by omega) (by decide) dX10_berg_79 ?_
        refine j_if_eq C (tgt := 87) dX10_berg_80 (by decide) ⟨by omega, by omega⟩ (fun c80 => ?_) (fun c80 => ?_)
        · refine j_iconst C dX10_berg_87 ?_
          exact j_iret C hr (Nat.le_refl _) (Nat.le_refl _) dX10_berg_88 ⟨rfl, rfl, 0, _, rfl, (by first | rfl | exact upF_up _ _ _ _ _), (by first | exact Or.inr (Or.inr ⟨rfl, by omega, Or.inr (Or.inr (Or.inl ⟨by omega, by omega⟩))⟩))⟩
        · refine j_iconst C dX10_berg_83 ?_
          refine j_goto C (tgt := 88) dX10_berg_84 (by decide) ?_
          exact j_iret C hr (Nat.le_refl _) (Nat.le_refl _) dX10_berg_88 ⟨rfl, rfl, 0, _, rfl, (by first | rfl | exact upF_up _ _ _ _ _), (by first | exact Or.inr (Or.inr ⟨rfl, by omega, Or.inr (Or.inr (Or.inl ⟨by omega, by omega⟩))⟩))⟩
      · refine j_tableIn C (tgt := 89) 3 dX10_berg_21 c21 ⟨by omega, by omega⟩ (by decide) (by decide) rfl (by decide) ?_
        refine j_aload_n C dX10_berg_89 rfl rfl ?_
        refine j_iload_n C dX10_berg_90 rfl rfl ?_
        refine j_callV C (vs := [aI b]) (st := []) cl_X10_152 im_yX10_squares se_yX10_squares (fun _ => m_squares _ S (upF F 100 0 0) A hS _ (by omega) (hp (by omega))) (sM_100 hS) rfl rfl rfl ⟨rfl, rfl, by decide, by decide⟩ ⟨by decide, by decide⟩ (fun _ => Nat.le_of_ble_eq_true rfl) (fun v hv => by cases hv) (fun v hv => by simp only [List.mem_cons, List.not_mem_nil, or_false, Option.some.injEq, reduceCtorEq, false_or] at hv; rcases hv with rfl | rfl | rfl <;> first | exact (lM_100 hS) | exact trivial) dX10_berg_91 (fun v_91 S_91 F_91 A_91 hP_91 => ?_)
        obtain ⟨rfl, rfl, rfl, rfl⟩ := hP_91
        show ab_J E 5 0 0 S (upF F 100 0 0) A 94 [some (aR 100), some (aI b), some (aI w), none, none] [aI (sm (fun x => if 0 < A 106 (280 * b + x) then 1 else 0) 280)]
        exact j_iret C hr (Nat.le_refl _) (Nat.le_refl _) dX10_berg_94 ⟨rfl, rfl, 0, _, rfl, (by first | rfl | exact upF_up _ _ _ _ _), (by first | exact Or.inr (Or.inr ⟨rfl, by omega, Or.inr (Or.inr (Or.inr (Or.inl ⟨by omega, rfl⟩)))⟩))⟩
      · refine j_tableIn C (tgt := 95) 4 dX10_berg_21 c21 ⟨by omega, by omega⟩ (by decide) (by decide) rfl (by decide) ?_
        refine j_iconst C dX10_berg_95 ?_
        refine j_istore_n C (lv' := [some (aR 100), some (aI b), some (aI w), some (aI 0), none]) dX10_berg_96 rfl (by decide) rfl ?_
        refine j_iconst C dX10_berg_97 ?_
        refine j_istore C (lv' := [some (aR 100), some (aI b), some (aI w), some (aI 0), some (aI 0)]) dX10_berg_98 (by decide) rfl ?_
        have K100 : ∀ (N : Nat) (n k : Int), (0 ≤ k ∧ k ≤ 280) → (n = sm (fun x => A 106 (280 * b + x)) k.toNat) → ((280 - k).toNat) < N → ab_J E 5 0 0 S (upF F 100 0 0) A 100 [some (aR 100), some (aI b), some (aI w), some (aI n), some (aI k)] [] := by
          intro N
          induction N with
          | zero => intro n k hk hn hm; exact absurd hm (Nat.not_lt_zero _)
          | succ N ih =>
            have ih100 := ih
            clear ih
            intro n k hk hn hm100
            refine j_iload C dX10_berg_100 rfl ?_
            refine j_sipush C dX10_berg_102 rfl ?_
            refine j_icmp_ge C (tgt := 130) dX10_berg_105 (by decide) ⟨by omega, by omega⟩ ⟨by omega, by omega⟩ (fun c105 => ?_) (fun c105 => ?_)
            · refine j_iload_n C dX10_berg_130 rfl rfl ?_
              exact j_iret C hr (Nat.le_refl _) (Nat.le_refl _) dX10_berg_131 ⟨rfl, rfl, 0, _, rfl, (by first | rfl | exact upF_up _ _ _ _ _), (by have e : k.toNat = 280 := (by omega); rw [e] at hn; exact Or.inr (Or.inr ⟨rfl, by omega, Or.inr (Or.inr (Or.inr (Or.inr (Or.inl ⟨by omega, hn⟩))))⟩))⟩
            · refine j_iload_n C dX10_berg_108 rfl rfl ?_
              refine j_aload_n C dX10_berg_109 rfl rfl ?_
              refine j_getR C (j := 106) fl_X10_27 (sM_100 hS) rfl dX10_berg_110 ?_
              refine j_sipush C dX10_berg_113 rfl ?_
              refine j_iload_n C dX10_berg_116 rfl rfl ?_
              refine j_imul C dX10_berg_117 ?_
              refine j_iload C dX10_berg_118 rfl ?_
              refine j_iadd C dX10_berg_120 ?_
              refine j_iald C (sM_106 hS) (by omega) (by omega) (by decide) dX10_berg_121 ?_
              refine j_iadd C dX10_berg_122 ?_
              refine j_istore_n C (lv' := [some (aR 100), some (aI b), some (aI w), some (aI (n + (A 106 ((280 * b) + k)))), some (aI k)]) dX10_berg_123 rfl (by decide) rfl ?_
              refine j_iinc C (lv' := [some (aR 100), some (aI b), some (aI w), some (aI (n + (A 106 ((280 * b) + k)))), some (aI (k + 1))]) dX10_berg_124 rfl (by decide) rfl ?_
              refine j_goto C (tgt := 100) dX10_berg_127 (by decide) ?_
              exact ih100 (n + (A 106 ((280 * b) + k))) (k + 1) (by omega) (by rw [sm_step _ hk.1, hn]) (by omega)
        exact K100 _ 0 0 (by omega) rfl (Nat.lt_succ_self _)
      · refine j_tableIn C (tgt := 132) 5 dX10_berg_21 c21 ⟨by omega, by omega⟩ (by decide) (by decide) rfl (by decide) ?_
        refine j_aload_n C dX10_berg_132 rfl rfl ?_
        refine j_getR C (j := 109) fl_X10_36 (sM_100 hS) rfl dX10_berg_133 ?_
        refine j_iload_n C dX10_berg_136 rfl rfl ?_
        refine j_iald C (sM_109 hS) (by omega) (by omega) (by decide) dX10_berg_137 ?_
        exact j_iret C hr (Nat.le_refl _) (Nat.le_refl _) dX10_berg_138 ⟨rfl, rfl, 0, _, rfl, (by first | rfl | exact upF_up _ _ _ _ _), (by first | exact Or.inr (Or.inr ⟨rfl, by omega, Or.inr (Or.inr (Or.inr (Or.inr (Or.inr ⟨by omega, rfl⟩))))⟩))⟩
    · exact absurd c15 (by decide)

set_option maxHeartbeats 4000000 in
set_option maxRecDepth 100000 in
theorem m_look (l : Launch) (S : ab_St) (F : ab_Fn) (A : ab_An) (hS : ab_SM S) (sq sh : Int) (r1 : inR sq) (r2 : inR sh) (hb : 0 ≤ F 100 11 ∧ F 100 11 ≤ 10) (U : Int → bst) (hU : ∀ b, 0 ≤ b → b < F 100 11 → BR A b (U b) ∧ BW (U b)) : ab_Met l yX10_look cX10_look 7 (some .int) { frames := 2, cells := 0, slots := 0, locals := 42 } 0 0 [aR 100, aI sq, aI sh] S F A (fun v S' F' A' => S = S' ∧ ∃ t r : Int, v = some (aI r) ∧ F' = upF F 100 0 t ∧ ((t = 1 ∧ ¬ (0 ≤ sq ∧ sq ≤ 279) ∧ A = A') ∨ (t = 2 ∧ (0 ≤ sq ∧ sq ≤ 279) ∧ ¬ (0 ≤ sh ∧ sh ≤ 100) ∧ A = A') ∨ (t = 0 ∧ (0 ≤ sq ∧ sq ≤ 279) ∧ (0 ≤ sh ∧ sh ≤ 100) ∧ r = sm (fun x => awy sq sh (U x)) (F 100 11).toNat ∧ (∀ b, 0 ≤ b → b < F 100 11 → BR A' b (blk sq sh (U b))) ∧ ∀ i, i ≠ 106 → i ≠ 110 → A' i = A i))) := by
  refine ab_enter (by decide) (by simp [aI, aR, aX, ab_val, Value.category]) (Nat.le_of_ble_eq_true rfl) (fun E C hr => ?_)
  refine j_eq (lv' := [some (aR 100), some (aI sq), some (aI sh), none, none, none, none]) ?_
  refine j_aload_n C dX10_look_0 rfl rfl ?_
  refine j_iconst C dX10_look_1 ?_
  refine j_putI C fp_X10_3 (sM_100 hS) rfl dX10_look_2 ?_
  refine j_aload_n C dX10_look_5 rfl rfl ?_
  refine j_iload_n C dX10_look_6 rfl rfl ?_
  refine j_callS C (vs := [aI sq]) (st := [aR 100]) cl_X10_107 sc_yX10_noSquare (fun _ => m_noSquare _ S (upF F 100 0 0) A hS _ r1) rfl ⟨rfl, rfl, by decide, by decide⟩ ⟨by decide, by decide⟩ (fun _ => Nat.le_of_ble_eq_true rfl) (fun v hv => by simp only [List.mem_cons, List.not_mem_nil, or_false] at hv; rcases hv with rfl <;> first | exact (lM_100 hS)) (fun v hv => by simp only [List.mem_cons, List.not_mem_nil, or_false, Option.some.injEq, reduceCtorEq, false_or] at hv; rcases hv with rfl | rfl | rfl <;> first | exact (lM_100 hS) | exact trivial) dX10_look_7 (fun v_7 S_7 F_7 A_7 hP_7 => ?_)
  obtain ⟨rfl, rfl, rfl, z_7, rfl, ⟨rfl, hz_7⟩ | ⟨rfl, hz_7⟩⟩ := hP_7
  · show ab_J E 7 0 0 S (upF F 100 0 0) A 10 [some (aR 100), some (aI sq), some (aI sh), none, none, none, none] [aI 1, aR 100]
    refine j_iconst C dX10_look_10 ?_
    refine j_callV C (vs := [aI 1, aI 1]) (st := []) cl_X10_111 im_yX10_throwsIf se_yX10_throwsIf (fun _ => m_throwsIf1 _ S (upF F 100 0 0) A hS _) (sM_100 hS) rfl rfl rfl ⟨rfl, rfl, by decide, by decide⟩ ⟨by decide, by decide⟩ (fun _ => Nat.le_of_ble_eq_true rfl) (fun v hv => by cases hv) (fun v hv => by simp only [List.mem_cons, List.not_mem_nil, or_false, Option.some.injEq, reduceCtorEq, false_or] at hv; rcases hv with rfl | rfl | rfl <;> first | exact (lM_100 hS) | exact trivial) dX10_look_11 (fun v_11 S_11 F_11 A_11 hP_11 => ?_)
    obtain ⟨rfl, rfl, rfl, rfl⟩ := hP_11
    show ab_J E 7 0 0 S (upF (upF F 100 0 0) 100 0 1) A 14 [some (aR 100), some (aI sq), some (aI sh), none, none, none, none] [aI 1]
    refine j_if_ne C (tgt := 40) dX10_look_14 (by decide) ⟨by omega, by omega⟩ (fun c14 => ?_) (fun c14 => ?_)
    · refine j_iconst C dX10_look_40 ?_
      exact j_iret C hr (Nat.le_refl _) (Nat.le_refl _) dX10_look_41 ⟨rfl, 1, _, rfl, (by first | rfl | exact upF_up _ _ _ _ _), (by first | exact Or.inl ⟨rfl, by omega, rfl⟩ | exact Or.inr (Or.inl ⟨rfl, by omega, by omega, rfl⟩))⟩
    · exact absurd c14 (by decide)
  · show ab_J E 7 0 0 S (upF F 100 0 0) A 10 [some (aR 100), some (aI sq), some (aI sh), none, none, none, none] [aI 0, aR 100]
    refine j_iconst C dX10_look_10 ?_
    refine j_callV C (vs := [aI 0, aI 1]) (st := []) cl_X10_111 im_yX10_throwsIf se_yX10_throwsIf (fun _ => m_throwsIf0 _ S (upF F 100 0 0) A hS _) (sM_100 hS) rfl rfl rfl ⟨rfl, rfl, by decide, by decide⟩ ⟨by decide, by decide⟩ (fun _ => Nat.le_of_ble_eq_true rfl) (fun v hv => by cases hv) (fun v hv => by simp only [List.mem_cons, List.not_mem_nil, or_false, Option.some.injEq, reduceCtorEq, false_or] at hv; rcases hv with rfl | rfl | rfl <;> first | exact (lM_100 hS) | exact trivial) dX10_look_11 (fun v_11 S_11 F_11 A_11 hP_11 => ?_)
    obtain ⟨rfl, rfl, rfl, rfl⟩ := hP_11
    show ab_J E 7 0 0 S (upF F 100 0 0) A 14 [some (aR 100), some (aI sq), some (aI sh), none, none, none, none] [aI 0]
    refine j_if_ne C (tgt := 40) dX10_look_14 (by decide) ⟨by omega, by omega⟩ (fun c14 => ?_) (fun c14 => ?_)
    · exact absurd c14 (by decide)
    · refine j_aload_n C dX10_look_17 rfl rfl ?_
      refine j_iload_n C dX10_look_18 rfl rfl ?_
      refine j_iconst C dX10_look_19 ?_
      refine j_bipush C dX10_look_20 rfl ?_
      refine j_callS C (vs := [aI sh, aI 0, aI 100]) (st := [aR 100]) cl_X10_97 sc_yX10_in (fun _ => m_in _ S (upF F 100 0 0) A hS _ _ _ r2 ⟨by omega, by omega⟩ ⟨by omega, by omega⟩) rfl ⟨rfl, rfl, by decide, by decide⟩ ⟨by decide, by decide⟩ (fun _ => Nat.le_of_ble_eq_true rfl) (fun v hv => by simp only [List.mem_cons, List.not_mem_nil, or_false] at hv; rcases hv with rfl <;> first | exact (lM_100 hS)) (fun v hv => by simp only [List.mem_cons, List.not_mem_nil, or_false, Option.some.injEq, reduceCtorEq, false_or] at hv; rcases hv with rfl | rfl | rfl <;> first | exact (lM_100 hS) | exact trivial) dX10_look_22 (fun v_22 S_22 F_22 A_22 hP_22 => ?_)
      obtain ⟨rfl, rfl, rfl, z_22, rfl, ⟨rfl, hz_22⟩ | ⟨rfl, hz_22⟩⟩ := hP_22
      · show ab_J E 7 0 0 S (upF F 100 0 0) A 25 [some (aR 100), some (aI sq), some (aI sh), none, none, none, none] [aI 1, aR 100]
        refine j_if_ne C (tgt := 32) dX10_look_25 (by decide) ⟨by omega, by omega⟩ (fun c25 => ?_) (fun c25 => ?_)
        · refine j_iconst C dX10_look_32 ?_
          refine j_iconst C dX10_look_33 ?_
          refine j_callV C (vs := [aI 0, aI 2]) (st := []) cl_X10_111 im_yX10_throwsIf se_yX10_throwsIf (fun _ => m_throwsIf0 _ S (upF F 100 0 0) A hS _) (sM_100 hS) rfl rfl rfl ⟨rfl, rfl, by decide, by decide⟩ ⟨by decide, by decide⟩ (fun _ => Nat.le_of_ble_eq_true rfl) (fun v hv => by cases hv) (fun v hv => by simp only [List.mem_cons, List.not_mem_nil, or_false, Option.some.injEq, reduceCtorEq, false_or] at hv; rcases hv with rfl | rfl | rfl <;> first | exact (lM_100 hS) | exact trivial) dX10_look_34 (fun v_34 S_34 F_34 A_34 hP_34 => ?_)
          obtain ⟨rfl, rfl, rfl, rfl⟩ := hP_34
          show ab_J E 7 0 0 S (upF F 100 0 0) A 37 [some (aR 100), some (aI sq), some (aI sh), none, none, none, none] [aI 0]
          refine j_if_eq C (tgt := 42) dX10_look_37 (by decide) ⟨by omega, by omega⟩ (fun c37 => ?_) (fun c37 => ?_)
          · refine j_iconst C dX10_look_42 ?_
            refine j_istore_n C (lv' := [some (aR 100), some (aI sq), some (aI sh), some (aI 0), none, none, none]) dX10_look_43 rfl (by decide) rfl ?_
            refine j_iconst C dX10_look_44 ?_
            refine j_istore C (lv' := [some (aR 100), some (aI sq), some (aI sh), some (aI 0), some (aI 0), none, none]) dX10_look_45 (by decide) rfl ?_
            have K47 : ∀ (N : Nat) (n b : Int) (B : ab_An), (0 ≤ b ∧ b ≤ F 100 11) → (n = sm (fun x => awy sq sh (U x)) b.toNat) → (∀ b', 0 ≤ b' → b' < b → BR B b' (blk sq sh (U b'))) → (∀ b', b ≤ b' → b' < F 100 11 → BR B b' (U b')) → (∀ i, i ≠ 106 → i ≠ 110 → B i = A i) → ((F 100 11 - b).toNat) < N → ab_J E 7 0 0 S (upF F 100 0 0) B 47 [some (aR 100), some (aI sq), some (aI sh), some (aI n), some (aI b), none, none] [] := by
              intro N
              induction N with
              | zero => intro n b B hb0 hn h1 h2 hO hm; exact absurd hm (Nat.not_lt_zero _)
              | succ N ih =>
                have ih47 := ih
                clear ih
                intro n b B hb0 hn h1 h2 hO hm47
                refine j_iload C dX10_look_47 rfl ?_
                refine j_aload_n C dX10_look_49 rfl rfl ?_
                refine j_get C (aI (F 100 11)) fl_X10_101 (sM_100 hS) (fun _ => rfl) dX10_look_50 ?_
                refine j_icmp_ge C (tgt := 131) dX10_look_53 (by decide) ⟨by omega, by omega⟩ ⟨by omega, by omega⟩ (fun c53 => ?_) (fun c53 => ?_)
                · refine j_iload_n C dX10_look_131 rfl rfl ?_
                  exact j_iret C hr (Nat.le_refl _) (Nat.le_refl _) dX10_look_132 ⟨rfl, 0, _, rfl, (by first | rfl | exact upF_up _ _ _ _ _), (by have e : b = F 100 11 := (by omega); rw [e] at hn h1; exact Or.inr (Or.inr ⟨rfl, by omega, by omega, hn, h1, hO⟩))⟩
                · refine j_sipush C dX10_look_56 rfl ?_
                  refine j_iload C dX10_look_59 rfl ?_
                  refine j_imul C dX10_look_61 ?_
                  refine j_iload_n C dX10_look_62 rfl rfl ?_
                  refine j_iadd C dX10_look_63 ?_
                  refine j_istore C (lv' := [some (aR 100), some (aI sq), some (aI sh), some (aI n), some (aI b), some (aI ((280 * b) + sq)), none]) dX10_look_64 (by decide) rfl ?_
                  refine j_aload_n C dX10_look_66 rfl rfl ?_
                  refine j_getR C (j := 106) fl_X10_27 (sM_100 hS) rfl dX10_look_67 ?_
                  refine j_iload C dX10_look_70 rfl ?_
                  have q72 := h2 b (by omega) (by omega)
                  have w72 := (hU b (by omega) (by omega)).2
                  have m72 := mul_rng (p := B 106 ((280 * b) + sq)) (s := sh) (by have := w72.le (k := sq) (by omega) (by omega); rw [q72.1 sq (by omega) (by omega)]; exact this) (by omega)
                  have l72 : B 106 ((280 * b) + sq) ≤ 1000000 := by have := w72.le (k := sq) (by omega) (by omega); rw [q72.1 sq (by omega) (by omega)]; exact this.2
                  have g72 : B 110 b = 0 ∨ B 110 b = 1 := by rw [q72.2.2.2.2]; exact w72.2.2.2.2.1
                  refine j_iald C (sM_106 hS) (by omega) (by omega) (by decide) dX10_look_72 ?_
                  refine j_iload_n C dX10_look_73 rfl rfl ?_
                  refine j_imul C dX10_look_74 ?_
                  refine j_bipush C dX10_look_75 rfl ?_
                  refine j_iadd C dX10_look_77 ?_
                  refine j_bipush C dX10_look_78 rfl ?_
                  obtain ⟨av, hx⟩ : ∃ x : Int, x = awy sq sh (U b) := ⟨_, rfl⟩
                  have hx2 : (B 106 ((280 * b) + sq) * sh + 99) / 100 = av := by rw [hx, q72.1 sq (by omega) (by omega)]; rfl
                  refine j_idiv C dX10_look_80 (by omega) (by omega) (by omega) (by omega) ?_
                  refine j_eq (st' := [aI av]) ?_ (e1 := by first | rfl | (simp only [List.cons.injEq, and_true]; exact congrArg aI (hx2)))
                  refine j_istore C (lv' := [some (aR 100), some (aI sq), some (aI sh), some (aI n), some (aI b), some (aI ((280 * b) + sq)), some (aI av)]) dX10_look_81 (by decide) rfl ?_
                  refine j_aload_n C dX10_look_83 rfl rfl ?_
                  refine j_getR C (j := 106) fl_X10_27 (sM_100 hS) rfl dX10_look_84 ?_
                  refine j_iload C dX10_look_87 rfl ?_
                  refine j_dup2 C dX10_look_89 (fun _ => rfl) (fun _ => rfl) ?_
                  refine j_iald C (sM_106 hS) (by omega) (by omega) (by decide) dX10_look_90 ?_
                  refine j_iload C dX10_look_91 rfl ?_
                  refine j_isub C dX10_look_93 ?_
                  refine j_iast C (sM_106 hS) (by omega) (by omega) (by decide) dX10_look_94 ?_
                  refine j_iload_n C dX10_look_95 rfl rfl ?_
                  refine j_iload C dX10_look_96 rfl ?_
                  refine j_iadd C dX10_look_98 ?_
                  refine j_istore_n C (lv' := [some (aR 100), some (aI sq), some (aI sh), some (aI (n + av)), some (aI b), some (aI ((280 * b) + sq)), some (aI av)]) dX10_look_99 rfl (by decide) rfl ?_
                  refine j_aload_n C dX10_look_100 rfl rfl ?_
                  refine j_getR C (j := 110) fl_X10_39 (sM_100 hS) rfl dX10_look_101 ?_
                  refine j_iload C dX10_look_104 rfl ?_
                  refine j_zald C (sM_110 hS) (by omega) (by omega) (by decide) dX10_look_106 ?_
                  refine j_eq (st' := [aI (B 110 b)]) ?_
                  refine j_if_ne C (tgt := 125) dX10_look_107 (by decide) ⟨by omega, by omega⟩ (fun c107 => ?_) (fun c107 => ?_)
                  · refine j_iinc C (lv' := [some (aR 100), some (aI sq), some (aI sh), some (aI (n + av)), some (aI (b + 1)), some (aI ((280 * b) + sq)), some (aI av)]) dX10_look_125 rfl (by decide) rfl ?_
                    refine j_goto C (tgt := 47) dX10_look_128 (by decide) ?_
                    refine j_lv (lv' := [some (aR 100), some (aI sq), some (aI sh), some (aI (n + av)), some (aI (b + 1)), none, none]) ?_ ⟨rfl, rfl, rfl, rfl, rfl, trivial⟩
                    exact ih47 (n + av) (b + 1) _ (by omega) (by rw [sm_step _ hb0.1, hn, hx]) (fun b' q1 q2 => if q : b' = b then by rw [q]; exact (BR_look q72 w72 (by omega) (by omega) hx rfl (by first | exact Or.inl ⟨c107, rfl⟩ | exact Or.inr (Or.inl ⟨c107, c116, rfl⟩) | exact Or.inr (Or.inr ⟨c107, c116, rfl⟩))).1 else (BR_look q72 w72 (by omega) (by omega) hx rfl (by first | exact Or.inl ⟨c107, rfl⟩ | exact Or.inr (Or.inl ⟨c107, c116, rfl⟩) | exact Or.inr (Or.inr ⟨c107, c116, rfl⟩))).2.1 b' _ q1 q (h1 b' q1 (by omega))) (fun b' q1 q2 => (BR_look q72 w72 (by omega) (by omega) hx rfl (by first | exact Or.inl ⟨c107, rfl⟩ | exact Or.inr (Or.inl ⟨c107, c116, rfl⟩) | exact Or.inr (Or.inr ⟨c107, c116, rfl⟩))).2.1 b' _ (by omega) (by omega) (h2 b' (by omega) q2)) (fun i p1 p2 => ((BR_look q72 w72 (by omega) (by omega) hx rfl (by first | exact Or.inl ⟨c107, rfl⟩ | exact Or.inr (Or.inl ⟨c107, c116, rfl⟩) | exact Or.inr (Or.inr ⟨c107, c116, rfl⟩))).2.2 i p1 p2).trans (hO i p1 p2)) (by omega)
                  · refine j_aload_n C dX10_look_110 rfl rfl ?_
                    refine j_iload C dX10_look_111 rfl ?_
                    refine j_callV C (vs := [aI b]) (st := []) cl_X10_152 im_yX10_squares se_yX10_squares (fun _ => m_squares _ S (upF F 100 0 0) (upA B 106 ((280 * b) + sq) ((B 106 ((280 * b) + sq)) - av)) hS _ (by omega) (by intro k a c; rw [upA_if]; have q1 := q72.1 k a c; have q2 := w72.le a c; have q3 := awy_rng w72 (sq := sq) (sh := sh) (by omega) (by omega); have q4 := q72.1 sq (by omega) (by omega); split <;> exact ⟨by omega, by omega⟩)) (sM_100 hS) rfl rfl rfl ⟨rfl, rfl, by decide, by decide⟩ ⟨by decide, by decide⟩ (fun _ => Nat.le_of_ble_eq_true rfl) (fun v hv => by cases hv) (fun v hv => by simp only [List.mem_cons, List.not_mem_nil, or_false, Option.some.injEq, reduceCtorEq, false_or] at hv; rcases hv with rfl | rfl | rfl | rfl | rfl | rfl | rfl <;> first | exact (lM_100 hS) | exact trivial) dX10_look_113 (fun v_113 S_113 F_113 A_113 hP_113 => ?_)
                    obtain ⟨rfl, rfl, rfl, rfl⟩ := hP_113
                    show ab_J E 7 0 0 S (upF F 100 0 0) (upA B 106 ((280 * b) + sq) ((B 106 ((280 * b) + sq)) - av)) 116 [some (aR 100), some (aI sq), some (aI sh), some (aI (n + av)), some (aI b), some (aI ((280 * b) + sq)), some (aI av)] [aI (sm (fun x => if 0 < (upA B 106 ((280 * b) + sq) ((B 106 ((280 * b) + sq)) - av)) 106 (280 * b + x) then 1 else 0) 280)]
                    refine j_if_ne C (tgt := 125) dX10_look_116 (by decide) (sm_01 _) (fun c116 => ?_) (fun c116 => ?_)
                    · refine j_iinc C (lv' := [some (aR 100), some (aI sq), some (aI sh), some (aI (n + av)), some (aI (b + 1)), some (aI ((280 * b) + sq)), some (aI av)]) dX10_look_125 rfl (by decide) rfl ?_
                      refine j_goto C (tgt := 47) dX10_look_128 (by decide) ?_
                      refine j_lv (lv' := [some (aR 100), some (aI sq), some (aI sh), some (aI (n + av)), some (aI (b + 1)), none, none]) ?_ ⟨rfl, rfl, rfl, rfl, rfl, trivial⟩
                      exact ih47 (n + av) (b + 1) _ (by omega) (by rw [sm_step _ hb0.1, hn, hx]) (fun b' q1 q2 => if q : b' = b then by rw [q]; exact (BR_look q72 w72 (by omega) (by omega) hx rfl (by first | exact Or.inl ⟨c107, rfl⟩ | exact Or.inr (Or.inl ⟨c107, c116, rfl⟩) | exact Or.inr (Or.inr ⟨c107, c116, rfl⟩))).1 else (BR_look q72 w72 (by omega) (by omega) hx rfl (by first | exact Or.inl ⟨c107, rfl⟩ | exact Or.inr (Or.inl ⟨c107, c116, rfl⟩) | exact Or.inr (Or.inr ⟨c107, c116, rfl⟩))).2.1 b' _ q1 q (h1 b' q1 (by omega))) (fun b' q1 q2 => (BR_look q72 w72 (by omega) (by omega) hx rfl (by first | exact Or.inl ⟨c107, rfl⟩ | exact Or.inr (Or.inl ⟨c107, c116, rfl⟩) | exact Or.inr (Or.inr ⟨c107, c116, rfl⟩))).2.1 b' _ (by omega) (by omega) (h2 b' (by omega) q2)) (fun i p1 p2 => ((BR_look q72 w72 (by omega) (by omega) hx rfl (by first | exact Or.inl ⟨c107, rfl⟩ | exact Or.inr (Or.inl ⟨c107, c116, rfl⟩) | exact Or.inr (Or.inr ⟨c107, c116, rfl⟩))).2.2 i p1 p2).trans (hO i p1 p2)) (by omega)
                    · refine j_aload_n C dX10_look_119 rfl rfl ?_
                      refine j_iload C dX10_look_120 rfl ?_
                      refine j_callV C (vs := [aI b]) (st := []) cl_X10_136 im_yX10_goes se_yX10_goes (fun _ => m_goes _ S (upF F 100 0 0) (upA B 106 ((280 * b) + sq) ((B 106 ((280 * b) + sq)) - av)) hS _ (by omega)) (sM_100 hS) rfl rfl rfl ⟨rfl, rfl, by decide, by decide⟩ ⟨by decide, by decide⟩ (fun _ => Nat.le_of_ble_eq_true rfl) (fun v hv => by cases hv) (fun v hv => by simp only [List.mem_cons, List.not_mem_nil, or_false, Option.some.injEq, reduceCtorEq, false_or] at hv; rcases hv with rfl | rfl | rfl | rfl | rfl | rfl | rfl <;> first | exact (lM_100 hS) | exact trivial) dX10_look_122 (fun v_122 S_122 F_122 A_122 hP_122 => ?_)
                      obtain ⟨rfl, rfl, rfl, rfl⟩ := hP_122
                      show ab_J E 7 0 0 S (upF F 100 0 0) (setRow (upA (upA B 106 ((280 * b) + sq) ((B 106 ((280 * b) + sq)) - av)) 110 b 1) 106 (280 * b) 280 (fun _ => 0)) 125 [some (aR 100), some (aI sq), some (aI sh), some (aI (n + av)), some (aI b), some (aI ((280 * b) + sq)), some (aI av)] []
                      refine j_iinc C (lv' := [some (aR 100), some (aI sq), some (aI sh), some (aI (n + av)), some (aI (b + 1)), some (aI ((280 * b) + sq)), some (aI av)]) dX10_look_125 rfl (by decide) rfl ?_
                      refine j_goto C (tgt := 47) dX10_look_128 (by decide) ?_
                      refine j_lv (lv' := [some (aR 100), some (aI sq), some (aI sh), some (aI (n + av)), some (aI (b + 1)), none, none]) ?_ ⟨rfl, rfl, rfl, rfl, rfl, trivial⟩
                      exact ih47 (n + av) (b + 1) _ (by omega) (by rw [sm_step _ hb0.1, hn, hx]) (fun b' q1 q2 => if q : b' = b then by rw [q]; exact (BR_look q72 w72 (by omega) (by omega) hx rfl (by first | exact Or.inl ⟨c107, rfl⟩ | exact Or.inr (Or.inl ⟨c107, c116, rfl⟩) | exact Or.inr (Or.inr ⟨c107, c116, rfl⟩))).1 else (BR_look q72 w72 (by omega) (by omega) hx rfl (by first | exact Or.inl ⟨c107, rfl⟩ | exact Or.inr (Or.inl ⟨c107, c116, rfl⟩) | exact Or.inr (Or.inr ⟨c107, c116, rfl⟩))).2.1 b' _ q1 q (h1 b' q1 (by omega))) (fun b' q1 q2 => (BR_look q72 w72 (by omega) (by omega) hx rfl (by first | exact Or.inl ⟨c107, rfl⟩ | exact Or.inr (Or.inl ⟨c107, c116, rfl⟩) | exact Or.inr (Or.inr ⟨c107, c116, rfl⟩))).2.1 b' _ (by omega) (by omega) (h2 b' (by omega) q2)) (fun i p1 p2 => ((BR_look q72 w72 (by omega) (by omega) hx rfl (by first | exact Or.inl ⟨c107, rfl⟩ | exact Or.inr (Or.inl ⟨c107, c116, rfl⟩) | exact Or.inr (Or.inr ⟨c107, c116, rfl⟩))).2.2 i p1 p2).trans (hO i p1 p2)) (by omega)
            exact K47 _ 0 0 A (by omega) rfl (fun b' q1 q2 => by omega) (fun b' q1 q2 => (hU b' q1 q2).1) (fun _ _ _ => rfl) (Nat.lt_succ_self _)
          · exact absurd c37 (by decide)
        · exact absurd c25 (by decide)
      · show ab_J E 7 0 0 S (upF F 100 0 0) A 25 [some (aR 100), some (aI sq), some (aI sh), none, none, none, none] [aI 0, aR 100]
        refine j_if_ne C (tgt := 32) dX10_look_25 (by decide) ⟨by omega, by omega⟩ (fun c25 => ?_) (fun c25 => ?_)
        · exact absurd c25 (by decide)
        · refine j_iconst C dX10_look_28 ?_
          refine j_goto C (tgt := 33) dX10_look_29 (by decide) ?_
          refine j_iconst C dX10_look_33 ?_
          refine j_callV C (vs := [aI 1, aI 2]) (st := []) cl_X10_111 im_yX10_throwsIf se_yX10_throwsIf (fun _ => m_throwsIf1 _ S (upF F 100 0 0) A hS _) (sM_100 hS) rfl rfl rfl ⟨rfl, rfl, by decide, by decide⟩ ⟨by decide, by decide⟩ (fun _ => Nat.le_of_ble_eq_true rfl) (fun v hv => by cases hv) (fun v hv => by simp only [List.mem_cons, List.not_mem_nil, or_false, Option.some.injEq, reduceCtorEq, false_or] at hv; rcases hv with rfl | rfl | rfl <;> first | exact (lM_100 hS) | exact trivial) dX10_look_34 (fun v_34 S_34 F_34 A_34 hP_34 => ?_)
          obtain ⟨rfl, rfl, rfl, rfl⟩ := hP_34
          show ab_J E 7 0 0 S (upF (upF F 100 0 0) 100 0 2) A 37 [some (aR 100), some (aI sq), some (aI sh), none, none, none, none] [aI 1]
          refine j_if_eq C (tgt := 42) dX10_look_37 (by decide) ⟨by omega, by omega⟩ (fun c37 => ?_) (fun c37 => ?_)
          · exact absurd c37 (by decide)
          · refine j_iconst C dX10_look_40 ?_
            exact j_iret C hr (Nat.le_refl _) (Nat.le_refl _) dX10_look_41 ⟨rfl, 2, _, rfl, (by first | rfl | exact upF_up _ _ _ _ _), (by first | exact Or.inl ⟨rfl, by omega, rfl⟩ | exact Or.inr (Or.inl ⟨rfl, by omega, by omega, rfl⟩))⟩
