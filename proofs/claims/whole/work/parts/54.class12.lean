/-! columns -/
def col (q : Int → Prop) (k c s : Int) : Prop := (0 ≤ s ∧ s < k) ∧ q s ∧ (c = s % 20 ∨ c = s % 20 + 1)
def LHc (q : Int → Prop) (k c lo hi : Int) : Prop := ((hi = -1 ∧ lo = 15) ∧ ∀ s, ¬ col q k c s) ∨ ((∃ s, col q k c s ∧ lo = s / 20) ∧ (∃ s, col q k c s ∧ hi = s / 20 + 1) ∧ ∀ s, col q k c s → lo ≤ s / 20 ∧ s / 20 + 1 ≤ hi)
def LHC (q : Int → Prop) (k : Int) (lo hi : Int → Int) : Prop := ∀ c, 0 ≤ c → c ≤ 20 → LHc q k c (lo c) (hi c)
theorem col_S {q : Int → Prop} {k c s : Int} (h : col q (k + 1) c s) : col q k c s ∨ (s = k ∧ q k ∧ (c = k % 20 ∨ c = k % 20 + 1)) := by
  obtain ⟨h1, h2, h3⟩ := h
  rcases (show s < k ∨ s = k by omega) with z | z
  · exact Or.inl ⟨⟨h1.1, z⟩, h2, h3⟩
  · subst z; exact Or.inr ⟨rfl, h2, h3⟩
theorem col_W {q : Int → Prop} {k c s : Int} (h : col q k c s) : col q (k + 1) c s := ⟨⟨h.1.1, by have := h.1.2; omega⟩, h.2⟩
theorem LH_keep {q : Int → Prop} {k c lo hi : Int} (h : LHc q k c lo hi) (hn : ¬ (q k ∧ (c = k % 20 ∨ c = k % 20 + 1))) : LHc q (k + 1) c lo hi := by
  have e : ∀ s, col q (k + 1) c s → col q k c s := fun s hs => by
    rcases col_S hs with z | z
    · exact z
    · exact absurd z.2 hn
  rcases h with ⟨h1, h2⟩ | ⟨⟨s1, a1, b1⟩, ⟨s2, a2, b2⟩, h3⟩
  · exact Or.inl ⟨h1, fun s hs => h2 s (e s hs)⟩
  · exact Or.inr ⟨⟨s1, col_W a1, b1⟩, ⟨s2, col_W a2, b2⟩, fun s hs => h3 s (e s hs)⟩
theorem LH_hit {q : Int → Prop} {k c lo hi : Int} (h : LHc q k c lo hi) (hk : 0 ≤ k ∧ k < 280) (hq : q k) (hc : c = k % 20 ∨ c = k % 20 + 1) : LHc q (k + 1) c (min lo (k / 20)) (max hi (k / 20 + 1)) := by
  have me : col q (k + 1) c k := ⟨⟨hk.1, by omega⟩, hq, hc⟩
  rcases h with ⟨h1, h2⟩ | ⟨⟨s1, a1, b1⟩, ⟨s2, a2, b2⟩, h3⟩
  · refine Or.inr ⟨⟨k, me, by omega⟩, ⟨k, me, by omega⟩, fun s hs => ?_⟩
    rcases col_S hs with z | z
    · exact absurd z (h2 s)
    · rw [z.1]; omega
  · refine Or.inr ⟨?_, ?_, fun s hs => ?_⟩
    · rcases (show lo ≤ k / 20 ∨ k / 20 < lo by omega) with z | z
      · exact ⟨s1, col_W a1, by omega⟩
      · exact ⟨k, me, by omega⟩
    · rcases (show k / 20 + 1 ≤ hi ∨ hi < k / 20 + 1 by omega) with z | z
      · exact ⟨s2, col_W a2, by omega⟩
      · exact ⟨k, me, by omega⟩
    · rcases col_S hs with z | z
      · have := h3 s z; omega
      · rw [z.1]; omega
theorem LH_rng {q : Int → Prop} {k c lo hi : Int} (h : LHc q k c lo hi) (hk : k ≤ 280) : (hi = -1 ∧ lo = 15) ∨ (0 ≤ lo ∧ lo < hi ∧ hi ≤ 14) := by
  rcases h with h | ⟨⟨s1, a1, b1⟩, ⟨s2, a2, b2⟩, h3⟩
  · exact Or.inl h.1
  · have := h3 s1 a1; have := a1.1; have := a2.1
    exact Or.inr ⟨by omega, by omega, by omega⟩
def str1 (B : ab_An) (x y : Int) : ab_An := upA (upA B 20 x (min (B 20 x) y)) 21 x (max (B 21 x) (y + 1))
theorem str1_20 (B : ab_An) (x y c : Int) : str1 B x y 20 c = if c = x then min (B 20 c) y else B 20 c := by
  unfold str1
  rw [upA_other (by decide), upA_if]
  by_cases q : c = x
  · rw [if_pos q, if_pos q, q]
  · rw [if_neg q, if_neg q]
theorem str1_21 (B : ab_An) (x y c : Int) : str1 B x y 21 c = if c = x then max (B 21 c) (y + 1) else B 21 c := by
  unfold str1
  rw [upA_if, upA_other (by decide)]
  by_cases q : c = x
  · rw [if_pos q, if_pos q, q]
  · rw [if_neg q, if_neg q]
theorem str2 (B : ab_An) (x y c : Int) : str1 (str1 B x y) (x + 1) y 20 c = (if c = x ∨ c = x + 1 then min (B 20 c) y else B 20 c) ∧ str1 (str1 B x y) (x + 1) y 21 c = (if c = x ∨ c = x + 1 then max (B 21 c) (y + 1) else B 21 c) := by
  rw [str1_20, str1_20, str1_21, str1_21]
  by_cases e1 : c = x + 1
  · have n1 : ¬ c = x := by omega
    have p1 : c = x ∨ c = x + 1 := Or.inr e1
    rw [if_pos e1, if_pos e1, if_neg n1, if_neg n1, if_pos p1, if_pos p1]; exact ⟨rfl, rfl⟩
  · rw [if_neg e1, if_neg e1]
    by_cases e2 : c = x
    · rw [if_pos e2, if_pos e2, if_pos (Or.inl e2), if_pos (Or.inl e2)]; exact ⟨rfl, rfl⟩
    · have n2 : ¬ (c = x ∨ c = x + 1) := by omega
      rw [if_neg e2, if_neg e2, if_neg n2, if_neg n2]; exact ⟨rfl, rfl⟩
def hsC (hi : Int → Int) (c : Int) : Prop := (0 ≤ c ∧ c ≤ 20) ∧ ¬ hi c = -1
theorem hsC_of {q : Int → Prop} {lo hi : Int → Int} (h : LHC q 280 lo hi) {c s : Int} (hs : col q 280 c s) : hsC hi c ∧ lo c ≤ s / 20 ∧ s / 20 + 1 ≤ hi c := by
  have hr : 0 ≤ c ∧ c ≤ 20 := by obtain ⟨_, _, h3⟩ := hs; omega
  rcases h c hr.1 hr.2 with ⟨h1, h2⟩ | ⟨⟨s1, a1, b1⟩, ⟨s2, a2, b2⟩, h3⟩
  · exact absurd hs (h2 s)
  · have h4 := h3 s hs; have := hs.1
    exact ⟨⟨hr, by omega⟩, h4⟩
theorem hsC_to {q : Int → Prop} {lo hi : Int → Int} (h : LHC q 280 lo hi) {c : Int} (hc : hsC hi c) : (∃ s, col q 280 c s ∧ lo c = s / 20) ∧ (∃ s, col q 280 c s ∧ hi c = s / 20 + 1) ∧ lo c < hi c := by
  rcases h c hc.1.1 hc.1.2 with ⟨h1, h2⟩ | ⟨⟨s1, a1, b1⟩, ⟨s2, a2, b2⟩, h3⟩
  · exact absurd h1.1 hc.2
  · have := h3 s1 a1
    exact ⟨⟨s1, a1, b1⟩, ⟨s2, a2, b2⟩, by omega⟩
theorem wrap_LR {q : Int → Prop} {lo hi X Y : Int → Int} {m n : Int} (h : LHC q 280 lo hi) (h0 : 0 ≤ m ∧ m ≤ n) (h1 : CH (hsC hi) lo X Y m 21) (hu : CH (fun c => hsC hi (-c)) (fun c => - hi (-c)) (fun i => - X (m + i)) (fun i => - Y (m + i)) (n - m) 1) : LR (PT q) n X Y := by
  refine CH_LR (lo := lo) (hi := hi) h0 (fun c y hp => ?_) (fun c hc => ?_) (fun c hc => ?_) h1 hu
  · obtain ⟨s, s1, s2, s3, s4, s5⟩ := hp
    have := hsC_of h (c := c) (s := s) ⟨⟨s1, s2⟩, s3, s4⟩
    exact ⟨this.1, by omega, by omega⟩
  · obtain ⟨⟨s1, a1, b1⟩, ⟨s2, a2, b2⟩, h3⟩ := hsC_to h hc
    exact ⟨⟨s1, a1.1.1, a1.1.2, a1.2.1, a1.2.2, Or.inl b1⟩, ⟨s2, a2.1.1, a2.1.2, a2.2.1, a2.2.2, Or.inr b2⟩, h3, hc.1.1, hc.1.2⟩
  · obtain ⟨⟨s1, a1, b1⟩, _, _⟩ := hsC_to h hc
    rcases a1.2.2 with z | z
    · exact Or.inl (hsC_of h (c := c + 1) (s := s1) ⟨a1.1, a1.2.1, Or.inr (by omega)⟩).1
    · exact Or.inr (hsC_of h (c := c - 1) (s := s1) ⟨a1.1, a1.2.1, Or.inl (by omega)⟩).1

set_option maxHeartbeats 4000000 in
set_option maxRecDepth 100000 in
theorem c_turns (l : Launch) (S : ab_St) (F : ab_Fn) (A : ab_An) (hS : ab_SC S) (a b x y : Int) (ha : 0 ≤ a ∧ a < 42) (hb : 0 ≤ b ∧ b < 42) (h1 : 0 ≤ A 18 a ∧ A 18 a ≤ 20 ∧ 0 ≤ A 19 a ∧ A 19 a ≤ 20) (h2 : 0 ≤ A 18 b ∧ A 18 b ≤ 20 ∧ 0 ≤ A 19 b ∧ A 19 b ≤ 20) (h3 : 0 ≤ x ∧ x ≤ 20 ∧ 0 ≤ y ∧ y ≤ 20) : ab_Met l yX4_turnsLeft cX4_turnsLeft 5 (some .boolean) { frames := 0, cells := 0, slots := 0, locals := 0 } 0 0 [aR 8, aI a, aI b, aI x, aI y] S F A (fun v S' F' A' => S = S' ∧ F = F' ∧ A = A' ∧ ∃ z : Int, v = some (aI z) ∧ zb z (0 < cr (A 18 a) (A 19 a) (A 18 b) (A 19 b) x y)) := by
  refine ab_enter (by decide) (by simp [aI, aR, aX, ab_val, Value.category]) (Nat.le_of_ble_eq_true rfl) (fun E C hr => ?_)
  refine j_eq (lv' := [some (aR 8), some (aI a), some (aI b), some (aI x), some (aI y)]) ?_
  refine j_aload_n C dX4_turnsLeft_0 rfl rfl ?_
  refine j_getR C (j := 18) fl_X4_9 ((sC_8 hS)) rfl dX4_turnsLeft_1 ?_
  refine j_iload_n C dX4_turnsLeft_4 rfl rfl ?_
  refine j_iald C ((sC_18 hS)) (by omega) (by omega) (by decide) dX4_turnsLeft_5 ?_
  refine j_aload_n C dX4_turnsLeft_6 rfl rfl ?_
  refine j_getR C (j := 18) fl_X4_9 ((sC_8 hS)) rfl dX4_turnsLeft_7 ?_
  refine j_iload_n C dX4_turnsLeft_10 rfl rfl ?_
  refine j_iald C ((sC_18 hS)) (by omega) (by omega) (by decide) dX4_turnsLeft_11 ?_
  refine j_isub C dX4_turnsLeft_12 ?_
  refine j_iload C dX4_turnsLeft_13 rfl ?_
  refine j_aload_n C dX4_turnsLeft_15 rfl rfl ?_
  refine j_getR C (j := 19) fl_X4_15 ((sC_8 hS)) rfl dX4_turnsLeft_16 ?_
  refine j_iload_n C dX4_turnsLeft_19 rfl rfl ?_
  refine j_iald C ((sC_19 hS)) (by omega) (by omega) (by decide) dX4_turnsLeft_20 ?_
  refine j_isub C dX4_turnsLeft_21 ?_
  refine j_imul C dX4_turnsLeft_22 ?_
  refine j_aload_n C dX4_turnsLeft_23 rfl rfl ?_
  refine j_getR C (j := 19) fl_X4_15 ((sC_8 hS)) rfl dX4_turnsLeft_24 ?_
  refine j_iload_n C dX4_turnsLeft_27 rfl rfl ?_
  refine j_iald C ((sC_19 hS)) (by omega) (by omega) (by decide) dX4_turnsLeft_28 ?_
  refine j_aload_n C dX4_turnsLeft_29 rfl rfl ?_
  refine j_getR C (j := 19) fl_X4_15 ((sC_8 hS)) rfl dX4_turnsLeft_30 ?_
  refine j_iload_n C dX4_turnsLeft_33 rfl rfl ?_
  refine j_iald C ((sC_19 hS)) (by omega) (by omega) (by decide) dX4_turnsLeft_34 ?_
  refine j_isub C dX4_turnsLeft_35 ?_
  refine j_iload_n C dX4_turnsLeft_36 rfl rfl ?_
  refine j_aload_n C dX4_turnsLeft_37 rfl rfl ?_
  refine j_getR C (j := 18) fl_X4_9 ((sC_8 hS)) rfl dX4_turnsLeft_38 ?_
  refine j_iload_n C dX4_turnsLeft_41 rfl rfl ?_
  refine j_iald C ((sC_18 hS)) (by omega) (by omega) (by decide) dX4_turnsLeft_42 ?_
  refine j_isub C dX4_turnsLeft_43 ?_
  refine j_imul C dX4_turnsLeft_44 ?_
  refine j_isub C dX4_turnsLeft_45 ?_
  refine j_eq (st' := [aI (cr (A 18 a) (A 19 a) (A 18 b) (A 19 b) x y)]) ?_ (e1 := by first | rfl | (simp only [List.cons.injEq, and_true]; exact congrArg aI ((cr_vec _ _ _ _ _ _).symm)))
  have hcr := cr_r (a := A 18 a) (b := A 19 a) (c := A 18 b) (d := A 19 b) (x := x) (y := y) (by omega) (by omega) (by omega) (by omega) (by omega) (by omega)
  refine j_if_le C (tgt := 53) dX4_turnsLeft_46 (by decide) ⟨by omega, by omega⟩ (fun c46 => ?_) (fun c46 => ?_)
  · refine j_iconst C dX4_turnsLeft_53 ?_
    exact j_zret C hr (ab_nz01 (by omega)) (Nat.le_refl _) (Nat.le_refl _) dX4_turnsLeft_54 ⟨rfl, rfl, rfl, _, rfl, by unfold zb; omega⟩
  · refine j_iconst C dX4_turnsLeft_49 ?_
    refine j_goto C (tgt := 54) dX4_turnsLeft_50 (by decide) ?_
    exact j_zret C hr (ab_nz01 (by omega)) (Nat.le_refl _) (Nat.le_refl _) dX4_turnsLeft_54 ⟨rfl, rfl, rfl, _, rfl, by unfold zb; omega⟩

set_option maxHeartbeats 4000000 in
set_option maxRecDepth 100000 in
theorem c_drop (l : Launch) (S : ab_St) (F : ab_Fn) (A : ab_An) (hS : ab_SC S) (f x y : Int) (hf : 0 ≤ f ∧ f ≤ F 8 2) (hN : F 8 2 ≤ 42) (hrg : ∀ i, 0 ≤ i → i < F 8 2 → 0 ≤ A 18 i ∧ A 18 i ≤ 20 ∧ 0 ≤ A 19 i ∧ A 19 i ≤ 20) (h3 : 0 ≤ x ∧ x ≤ 20 ∧ 0 ≤ y ∧ y ≤ 20) : ab_Met l yX4_dropForLeftTurn cX4_dropForLeftTurn 4 none { frames := 1, cells := 0, slots := 0, locals := 24 } 0 0 [aR 8, aI f, aI x, aI y] S F A (fun v S' F' A' => S = S' ∧ A = A' ∧ v = none ∧ ∃ n : Int, F' = upF F 8 2 n ∧ (n ≤ F 8 2 ∧ (f + 1 ≤ n ∨ n = F 8 2)) ∧ (n < f + 2 ∨ 0 < cr (A 18 (n - 2)) (A 19 (n - 2)) (A 18 (n - 1)) (A 19 (n - 1)) x y) ∧ ∀ i, n ≤ i → i < F 8 2 → f + 1 ≤ i ∧ ¬ 0 < cr (A 18 (i - 1)) (A 19 (i - 1)) (A 18 i) (A 19 i) x y) := by
  refine ab_enter (by decide) (by simp [aI, aR, aX, ab_val, Value.category]) (Nat.le_of_ble_eq_true rfl) (fun E C hr => ?_)
  refine j_eq (lv' := [some (aR 8), some (aI f), some (aI x), some (aI y)]) ?_
  have K0 : ∀ (N : Nat) (n : Int), (f ≤ n ∧ n ≤ F 8 2 ∧ (f + 1 ≤ n ∨ n = F 8 2)) → (∀ i, n ≤ i → i < F 8 2 → f + 1 ≤ i ∧ ¬ 0 < cr (A 18 (i - 1)) (A 19 (i - 1)) (A 18 i) (A 19 i) x y) → ((n - f).toNat) < N → ab_J E 4 0 0 S (upF F 8 2 n) A 0 [some (aR 8), some (aI f), some (aI x), some (aI y)] [] := by
    intro N
    induction N with
    | zero => intro n hn hd hm; exact absurd hm (Nat.not_lt_zero _)
    | succ N ih =>
      have ih0 := ih
      clear ih
      intro n hn hd hm0
      refine j_iload_n C dX4_dropForLeftTurn_0 rfl rfl ?_
      refine j_if_lt C (tgt := 60) dX4_dropForLeftTurn_1 (by decide) ⟨by omega, by omega⟩ (fun c1 => ?_) (fun c1 => ?_)
      · exact absurd c1 (by omega)
      · refine j_aload_n C dX4_dropForLeftTurn_4 rfl rfl ?_
        refine j_get C (aI n) fl_X4_18 ((sC_8 hS)) (fun _ => rfl) dX4_dropForLeftTurn_5 ?_
        refine j_iload_n C dX4_dropForLeftTurn_8 rfl rfl ?_
        refine j_iconst C dX4_dropForLeftTurn_9 ?_
        refine j_iadd C dX4_dropForLeftTurn_10 ?_
        refine j_icmp_lt C (tgt := 60) dX4_dropForLeftTurn_11 (by decide) ⟨by omega, by omega⟩ ⟨by omega, by omega⟩ (fun c11 => ?_) (fun c11 => ?_)
        · exact j_vret C hr (Nat.le_refl _) (Nat.le_refl _) dX4_dropForLeftTurn_60 ⟨rfl, rfl, rfl, n, rfl, ⟨hn.2.1, hn.2.2⟩, (by first | exact Or.inl (by omega) | exact Or.inr hz_41), hd⟩
        · refine j_aload_n C dX4_dropForLeftTurn_14 rfl rfl ?_
          refine j_get C (aI n) fl_X4_18 ((sC_8 hS)) (fun _ => rfl) dX4_dropForLeftTurn_15 ?_
          refine j_aload_n C dX4_dropForLeftTurn_18 rfl rfl ?_
          refine j_getR C (j := 18) fl_X4_9 ((sC_8 hS)) rfl dX4_dropForLeftTurn_19 ?_
          refine j_alen C ((sC_18 hS)) 0 (fun _ => rfl) dX4_dropForLeftTurn_22 ?_
          refine j_eq (st' := [aI 42, aI n]) ?_
          refine j_icmp_gt C (tgt := 60) dX4_dropForLeftTurn_23 (by decide) ⟨by omega, by omega⟩ ⟨by omega, by omega⟩ (fun c23 => ?_) (fun c23 => ?_)
          · exact absurd c23 (by omega)
          · refine j_aload_n C dX4_dropForLeftTurn_26 rfl rfl ?_
            refine j_aload_n C dX4_dropForLeftTurn_27 rfl rfl ?_
            refine j_get C (aI n) fl_X4_18 ((sC_8 hS)) (fun _ => rfl) dX4_dropForLeftTurn_28 ?_
            refine j_iconst C dX4_dropForLeftTurn_31 ?_
            refine j_isub C dX4_dropForLeftTurn_32 ?_
            refine j_aload_n C dX4_dropForLeftTurn_33 rfl rfl ?_
            refine j_get C (aI n) fl_X4_18 ((sC_8 hS)) (fun _ => rfl) dX4_dropForLeftTurn_34 ?_
            refine j_iconst C dX4_dropForLeftTurn_37 ?_
            refine j_isub C dX4_dropForLeftTurn_38 ?_
            refine j_iload_n C dX4_dropForLeftTurn_39 rfl rfl ?_
            refine j_iload_n C dX4_dropForLeftTurn_40 rfl rfl ?_
            refine j_callV C (vs := [aI (n - 2), aI (n - 1), aI x, aI y]) (st := []) cl_X4_22 im_yX4_turnsLeft se_yX4_turnsLeft (fun _ => (c_turns _ S (upF F 8 2 n) A hS _ _ _ _ (by omega) (by omega) (hrg (n - 2) (by omega) (by omega)) (hrg (n - 1) (by omega) (by omega)) h3)) ((sC_8 hS)) rfl rfl rfl ⟨rfl, rfl, by decide, by decide⟩ ⟨by decide, by decide⟩ (fun _ => Nat.le_of_ble_eq_true rfl) (fun v hv => by cases hv) (fun v hv => by simp only [List.mem_cons, List.not_mem_nil, or_false, Option.some.injEq, reduceCtorEq, false_or] at hv; rcases hv with rfl | rfl | rfl | rfl <;> first | exact (lS ((sC_8 hS))) | exact trivial) dX4_dropForLeftTurn_41 (fun v_41 S_41 F_41 A_41 hP_41 => ?_)
            obtain ⟨rfl, rfl, rfl, z_41, rfl, ⟨rfl, hz_41⟩ | ⟨rfl, hz_41⟩⟩ := hP_41
            · show ab_J E 4 0 0 S (upF F 8 2 n) A 44 [some (aR 8), some (aI f), some (aI x), some (aI y)] [aI 1]
              refine j_if_ne C (tgt := 60) dX4_dropForLeftTurn_44 (by decide) ⟨by omega, by omega⟩ (fun c44 => ?_) (fun c44 => ?_)
              · exact j_vret C hr (Nat.le_refl _) (Nat.le_refl _) dX4_dropForLeftTurn_60 ⟨rfl, rfl, rfl, n, rfl, ⟨hn.2.1, hn.2.2⟩, (by first | exact Or.inl (by omega) | exact Or.inr hz_41), hd⟩
              · exact absurd c44 (by decide)
            · show ab_J E 4 0 0 S (upF F 8 2 n) A 44 [some (aR 8), some (aI f), some (aI x), some (aI y)] [aI 0]
              refine j_if_ne C (tgt := 60) dX4_dropForLeftTurn_44 (by decide) ⟨by omega, by omega⟩ (fun c44 => ?_) (fun c44 => ?_)
              · exact absurd c44 (by decide)
              · refine j_aload_n C dX4_dropForLeftTurn_47 rfl rfl ?_
                refine j_dup C dX4_dropForLeftTurn_48 (fun _ => rfl) ?_
                refine j_get C (aI n) fl_X4_18 ((sC_8 hS)) (fun _ => rfl) dX4_dropForLeftTurn_49 ?_
                refine j_iconst C dX4_dropForLeftTurn_52 ?_
                refine j_isub C dX4_dropForLeftTurn_53 ?_
                refine j_putI C fp_X4_18 ((sC_8 hS)) rfl dX4_dropForLeftTurn_54 ?_
                refine j_goto C (tgt := 0) dX4_dropForLeftTurn_57 (by decide) ?_
                refine j_eq (F' := (upF F 8 2 (n - 1))) ?_ (e3 := (upF_up _ _ _ _ _))
                exact ih0 (n - 1) (by omega) (fun i a b => if q : i = n - 1 then ⟨by omega, by rw [q, show n - 1 - 1 = n - 2 by omega]; exact hz_41⟩ else hd i (by omega) b) (by omega)
  refine j_eq (F' := (upF F 8 2 (F 8 2))) ?_ (e3 := upF_self)
  exact K0 _ (F 8 2) (by omega) (fun i a b => by omega) (Nat.lt_succ_self _)

set_option maxHeartbeats 4000000 in
set_option maxRecDepth 100000 in
theorem c_below (l : Launch) (S : ab_St) (F : ab_Fn) (A : ab_An) (hS : ab_SC S) (h0 : F 8 2 = 0) (hlh : ∀ c, 0 ≤ c → c ≤ 20 → (A 21 c = -1 ∧ A 20 c = 15) ∨ (0 ≤ A 20 c ∧ A 20 c < A 21 c ∧ A 21 c ≤ 14)) : ab_Met l yX3_goBelow cX3_goBelow 2 none { frames := 2, cells := 0, slots := 0, locals := 47 } 0 0 [aR 7] S F A (fun v S' F' A' => S = S' ∧ v = none ∧ ∃ n : Int, F' = upF F 8 2 n ∧ (0 ≤ n ∧ n ≤ 21) ∧ CH (hsC (A 21)) (A 20) (A' 18) (A' 19) n 21 ∧ ∀ i, i ≠ 18 → i ≠ 19 → A' i = A i) := by
  refine ab_enter (by decide) (by simp [aI, aR, aX, ab_val, Value.category]) (Nat.le_of_ble_eq_true rfl) (fun E C hr => ?_)
  refine j_eq (lv' := [some (aR 7), none]) ?_
  refine j_iconst C dX3_goBelow_0 ?_
  refine j_istore_n C (lv' := [some (aR 7), some (aI 0)]) dX3_goBelow_1 rfl (by decide) rfl ?_
  have K2 : ∀ (N : Nat) (x n : Int) (B : ab_An), (0 ≤ x ∧ x ≤ 21) → (0 ≤ n ∧ n ≤ 21) → (CH (hsC (A 21)) (A 20) (B 18) (B 19) n x) → (∀ i, i ≠ 18 → i ≠ 19 → B i = A i) → ((21 - x).toNat) < N → ab_J E 2 0 0 S (upF F 8 2 n) B 2 [some (aR 7), some (aI x)] [] := by
    intro N
    induction N with
    | zero => intro x n B hx hn hC hO hm; exact absurd hm (Nat.not_lt_zero _)
    | succ N ih =>
      have ih2 := ih
      clear ih
      intro x n B hx hn hC hO hm2
      refine j_iload_n C dX3_goBelow_2 rfl rfl ?_
      refine j_bipush C dX3_goBelow_3 rfl ?_
      refine j_icmp_gt C (tgt := 53) dX3_goBelow_5 (by decide) ⟨by omega, by omega⟩ ⟨by omega, by omega⟩ (fun c5 => ?_) (fun c5 => ?_)
      · exact j_vret C hr (Nat.le_refl _) (Nat.le_refl _) dX3_goBelow_53 ⟨rfl, rfl, n, rfl, hn, by rw [← show x = 21 by omega]; exact hC, hO⟩
      · refine j_aload_n C dX3_goBelow_8 rfl rfl ?_
        refine j_getR C (j := 21) fl_X3_22 ((sC_7 hS)) rfl dX3_goBelow_9 ?_
        refine j_iload_n C dX3_goBelow_12 rfl rfl ?_
        refine j_iald C ((sC_21 hS)) (by omega) (by omega) (by decide) dX3_goBelow_13 ?_
        refine j_eq (st' := [aI (A 21 x)]) ?_ (e1 := by first | rfl | (simp only [List.cons.injEq, and_true]; exact congrArg aI (congrFun (hO _ (by decide) (by decide)) _)))
        have hl14 := hlh x (by omega) (by omega)
        refine j_iconst C dX3_goBelow_14 ?_
        refine j_icmp_eq C (tgt := 47) dX3_goBelow_15 (by decide) ⟨by omega, by omega⟩ ⟨by omega, by omega⟩ (fun c15 => ?_) (fun c15 => ?_)
        · refine j_iinc C (lv' := [some (aR 7), some (aI (x + 1))]) dX3_goBelow_47 rfl (by decide) rfl ?_
          refine j_goto C (tgt := 2) dX3_goBelow_50 (by decide) ?_
          exact ih2 (x + 1) n B (by omega) (by omega) (CH_no hC (fun z => z.2 c15)) hO (by omega)
        · refine j_aload_n C dX3_goBelow_18 rfl rfl ?_
          refine j_getR C (j := 8) fl_X3_12 ((sC_7 hS)) rfl dX3_goBelow_19 ?_
          refine j_iconst C dX3_goBelow_22 ?_
          refine j_iload_n C dX3_goBelow_23 rfl rfl ?_
          refine j_aload_n C dX3_goBelow_24 rfl rfl ?_
          refine j_getR C (j := 20) fl_X3_18 ((sC_7 hS)) rfl dX3_goBelow_25 ?_
          refine j_iload_n C dX3_goBelow_28 rfl rfl ?_
          refine j_iald C ((sC_20 hS)) (by omega) (by omega) (by decide) dX3_goBelow_29 ?_
          refine j_eq (st' := [aI (A 20 x), aI x, aI 0, aR 8]) ?_ (e1 := by first | rfl | (simp only [List.cons.injEq, and_true]; exact congrArg aI (congrFun (hO _ (by decide) (by decide)) _)))
          refine j_callV C (vs := [aI 0, aI x, aI (A 20 x)]) (st := []) cl_X3_55 im_yX4_dropForLeftTurn se_yX4_dropForLeftTurn (fun _ => (c_drop _ S (upF F 8 2 n) B hS _ _ _ (by show 0 ≤ (0 : Int) ∧ 0 ≤ n; omega) (by show n ≤ 42; omega) (fun i a b => by have q := hC.1 i a b; have q1 := q.1.1; have q2 := hlh _ q1.1 q1.2; have q3 := q.1.2; have q4 := q.2.2; omega) (by omega))) ((sC_8 hS)) rfl rfl rfl ⟨rfl, rfl, by decide, by decide⟩ ⟨by decide, by decide⟩ (fun _ => Nat.le_of_ble_eq_true rfl) (fun v hv => by cases hv) (fun v hv => by simp only [List.mem_cons, List.not_mem_nil, or_false, Option.some.injEq, reduceCtorEq, false_or] at hv; rcases hv with rfl | rfl <;> first | exact (lS ((sC_7 hS))) | exact trivial) dX3_goBelow_30 (fun v_30 S_30 F_30 A_30 hP_30 => ?_)
          obtain ⟨rfl, rfl, rfl, n30, rfl, hn30, ht30, hd30⟩ := hP_30
          have hn30 : n30 ≤ n ∧ (0 + 1 ≤ n30 ∨ n30 = n) := hn30
          have hd30 : ∀ i, n30 ≤ i → i < n → 0 + 1 ≤ i ∧ ¬ 0 < cr (B 18 (i - 1)) (B 19 (i - 1)) (B 18 i) (B 19 i) x (A 20 x) := hd30
          show ab_J E 2 0 0 S (upF (upF F 8 2 n) 8 2 n30) B 33 [some (aR 7), some (aI x)] []
          have h18 : ∀ i, i ≠ 18 → i ≠ 19 → B i = A i := hO
          have hdr : DR (B 18) (B 19) n n30 x (A 20 x) := ⟨⟨by omega, by omega, by omega⟩, by rcases ht30 with z | z; exact Or.inl (by omega); exact Or.inr z, fun i a b => ⟨by have := (hd30 i a b).1; omega, (hd30 i a b).2⟩⟩
          have hadd := CH_add (X' := (upA (upA B 18 n30 x) 19 n30 (A 20 x)) 18) (Y' := (upA (upA B 18 n30 x) 19 n30 (A 20 x)) 19) hC ⟨by omega, by omega⟩ hdr (fun i => by rw [upA_other (by decide), upA_if]) (fun i => by rw [upA_if, upA_other (by decide)])
          have hlen := CH_len hadd (l := 0) (u := 20) (fun c hc => hc.1) (by decide)
          refine j_aload_n C dX3_goBelow_33 rfl rfl ?_
          refine j_getR C (j := 8) fl_X3_12 ((sC_7 hS)) rfl dX3_goBelow_34 ?_
          refine j_iload_n C dX3_goBelow_37 rfl rfl ?_
          refine j_aload_n C dX3_goBelow_38 rfl rfl ?_
          refine j_getR C (j := 20) fl_X3_18 ((sC_7 hS)) rfl dX3_goBelow_39 ?_
          refine j_iload_n C dX3_goBelow_42 rfl rfl ?_
          refine j_iald C ((sC_20 hS)) (by omega) (by omega) (by decide) dX3_goBelow_43 ?_
          refine j_eq (st' := [aI (A 20 x), aI x, aR 8]) ?_ (e1 := by first | rfl | (simp only [List.cons.injEq, and_true]; exact congrArg aI (congrFun (hO _ (by decide) (by decide)) _)))
          refine j_callV C (vs := [aI x, aI (A 20 x)]) (st := []) cl_X3_59 im_yX4_add se_yX4_add (fun _ => c_add8 _ S (upF (upF F 8 2 n) 8 2 n30) B hS _ _ (by show 0 ≤ n30 ∧ n30 < 42; omega)) ((sC_8 hS)) rfl rfl rfl ⟨rfl, rfl, by decide, by decide⟩ ⟨by decide, by decide⟩ (fun _ => Nat.le_of_ble_eq_true rfl) (fun v hv => by cases hv) (fun v hv => by simp only [List.mem_cons, List.not_mem_nil, or_false, Option.some.injEq, reduceCtorEq, false_or] at hv; rcases hv with rfl | rfl <;> first | exact (lS ((sC_7 hS))) | exact trivial) dX3_goBelow_44 (fun v_44 S_44 F_44 A_44 hP_44 => ?_)
          obtain ⟨rfl, rfl, rfl, rfl⟩ := hP_44
          show ab_J E 2 0 0 S (upF (upF (upF F 8 2 n) 8 2 n30) 8 2 (n30 + 1)) (upA (upA B 18 n30 x) 19 n30 (A 20 x)) 47 [some (aR 7), some (aI x)] []
          refine j_iinc C (lv' := [some (aR 7), some (aI (x + 1))]) dX3_goBelow_47 rfl (by decide) rfl ?_
          refine j_goto C (tgt := 2) dX3_goBelow_50 (by decide) ?_
          refine j_eq (F' := (upF F 8 2 (n30 + 1))) ?_ (e3 := (by simp only [upF_up]))
          exact ih2 (x + 1) (n30 + 1) ((upA (upA B 18 n30 x) 19 n30 (A 20 x))) (by omega) (by omega) hadd (fun i z1 z2 => by rw [upA_other z2, upA_other z1]; exact hO i z1 z2) (by omega)
  refine j_eq (F' := (upF F 8 2 0)) ?_ (e3 := (by rw [← h0]; exact upF_self))
  exact K2 _ 0 0 A (by omega) (by omega) (CH_0 (fun c hc => by have := hc.1; omega)) (fun _ _ _ => rfl) (Nat.lt_succ_self _)

set_option maxHeartbeats 4000000 in
set_option maxRecDepth 100000 in
theorem c_above (l : Launch) (S : ab_St) (F : ab_Fn) (A : ab_An) (hS : ab_SC S) (m : Int) (h0 : F 8 2 = m) (hm : 0 ≤ m ∧ m ≤ 21) (hlh : ∀ c, 0 ≤ c → c ≤ 20 → (A 21 c = -1 ∧ A 20 c = 15) ∨ (0 ≤ A 20 c ∧ A 20 c < A 21 c ∧ A 21 c ≤ 14)) (hrm : ∀ i, 0 ≤ i → i < m → 0 ≤ A 18 i ∧ A 18 i ≤ 20 ∧ 0 ≤ A 19 i ∧ A 19 i ≤ 20) : ab_Met l yX3_goAbove cX3_goAbove 3 none { frames := 2, cells := 0, slots := 0, locals := 47 } 0 0 [aR 7, aI m] S F A (fun v S' F' A' => S = S' ∧ v = none ∧ ∃ n : Int, F' = upF F 8 2 n ∧ (m ≤ n ∧ n ≤ m + 21) ∧ CH (fun c => hsC (A 21) (-c)) (fun c => - A 21 (-c)) (fun i => - A' 18 (m + i)) (fun i => - A' 19 (m + i)) (n - m) 1 ∧ (∀ i, i < m → A' 18 i = A 18 i ∧ A' 19 i = A 19 i) ∧ ∀ i, i ≠ 18 → i ≠ 19 → A' i = A i) := by
  refine ab_enter (by decide) (by simp [aI, aR, aX, ab_val, Value.category]) (Nat.le_of_ble_eq_true rfl) (fun E C hr => ?_)
  refine j_eq (lv' := [some (aR 7), some (aI m), none]) ?_
  refine j_bipush C dX3_goAbove_0 rfl ?_
  refine j_istore_n C (lv' := [some (aR 7), some (aI m), some (aI 20)]) dX3_goAbove_2 rfl (by decide) rfl ?_
  have K3 : ∀ (N : Nat) (x n : Int) (B : ab_An), (-1 ≤ x ∧ x ≤ 20) → (m ≤ n ∧ n ≤ m + 21) → (CH (fun c => hsC (A 21) (-c)) (fun c => - A 21 (-c)) (fun i => - B 18 (m + i)) (fun i => - B 19 (m + i)) (n - m) (-x)) → (∀ i, i < m → B 18 i = A 18 i ∧ B 19 i = A 19 i) → (∀ i, i ≠ 18 → i ≠ 19 → B i = A i) → ((x + 1).toNat) < N → ab_J E 3 0 0 S (upF F 8 2 n) B 3 [some (aR 7), some (aI m), some (aI x)] [] := by
    intro N
    induction N with
    | zero => intro x n B hx hn hC hK hO hm; exact absurd hm (Nat.not_lt_zero _)
    | succ N ih =>
      have ih3 := ih
      clear ih
      intro x n B hx hn hC hK hO hm3
      refine j_iload_n C dX3_goAbove_3 rfl rfl ?_
      refine j_if_lt C (tgt := 52) dX3_goAbove_4 (by decide) ⟨by omega, by omega⟩ (fun c4 => ?_) (fun c4 => ?_)
      · exact j_vret C hr (Nat.le_refl _) (Nat.le_refl _) dX3_goAbove_52 ⟨rfl, rfl, n, rfl, hn, by rw [show x = -1 by omega] at hC; exact hC, hK, hO⟩
      · refine j_aload_n C dX3_goAbove_7 rfl rfl ?_
        refine j_getR C (j := 21) fl_X3_22 ((sC_7 hS)) rfl dX3_goAbove_8 ?_
        refine j_iload_n C dX3_goAbove_11 rfl rfl ?_
        refine j_iald C ((sC_21 hS)) (by omega) (by omega) (by decide) dX3_goAbove_12 ?_
        refine j_eq (st' := [aI (A 21 x)]) ?_ (e1 := by first | rfl | (simp only [List.cons.injEq, and_true]; exact congrArg aI (congrFun (hO _ (by decide) (by decide)) _)))
        have hl14 := hlh x (by omega) (by omega)
        refine j_iconst C dX3_goAbove_13 ?_
        refine j_icmp_eq C (tgt := 46) dX3_goAbove_14 (by decide) ⟨by omega, by omega⟩ ⟨by omega, by omega⟩ (fun c14 => ?_) (fun c14 => ?_)
        · refine j_iinc C (lv' := [some (aR 7), some (aI m), some (aI (x + (-1)))]) dX3_goAbove_46 rfl (by decide) rfl ?_
          refine j_goto C (tgt := 3) dX3_goAbove_49 (by decide) ?_
          exact ih3 (x + (-1)) n B (by omega) (by omega) (by have q := CH_no hC (fun z => by have z2 : hsC (A 21) (- -x) := z; rw [Int.neg_neg] at z2; exact z2.2 c14); rw [show -(x + (-1)) = -x + 1 by omega]; exact q) hK hO (by omega)
        · refine j_aload_n C dX3_goAbove_17 rfl rfl ?_
          refine j_getR C (j := 8) fl_X3_12 ((sC_7 hS)) rfl dX3_goAbove_18 ?_
          refine j_iload_n C dX3_goAbove_21 rfl rfl ?_
          refine j_iload_n C dX3_goAbove_22 rfl rfl ?_
          refine j_aload_n C dX3_goAbove_23 rfl rfl ?_
          refine j_getR C (j := 21) fl_X3_22 ((sC_7 hS)) rfl dX3_goAbove_24 ?_
          refine j_iload_n C dX3_goAbove_27 rfl rfl ?_
          refine j_iald C ((sC_21 hS)) (by omega) (by omega) (by decide) dX3_goAbove_28 ?_
          refine j_eq (st' := [aI (A 21 x), aI x, aI m, aR 8]) ?_ (e1 := by first | rfl | (simp only [List.cons.injEq, and_true]; exact congrArg aI (congrFun (hO _ (by decide) (by decide)) _)))
          refine j_callV C (vs := [aI m, aI x, aI (A 21 x)]) (st := []) cl_X3_55 im_yX4_dropForLeftTurn se_yX4_dropForLeftTurn (fun _ => (c_drop _ S (upF F 8 2 n) B hS _ _ _ (by show 0 ≤ m ∧ m ≤ n; omega) (by show n ≤ 42; omega) (fun i a b => by
      have b : i < n := b
      rcases (show i < m ∨ m ≤ i by omega) with z | z
      · rw [(hK i z).1, (hK i z).2]; exact hrm i a z
      · have q := hC.1 (i - m) (by omega) (by omega)
        have q1 : hsC (A 21) (- - B 18 (m + (i - m))) := q.1
        have q2 : - B 19 (m + (i - m)) = - A 21 (- - B 18 (m + (i - m))) := q.2.2
        rw [Int.neg_neg, show m + (i - m) = i by omega] at q1 q2
        have q3 := hlh _ q1.1.1 q1.1.2
        have q4 := q1.2
        have q5 := q1.1
        omega) (by omega))) ((sC_8 hS)) rfl rfl rfl ⟨rfl, rfl, by decide, by decide⟩ ⟨by decide, by decide⟩ (fun _ => Nat.le_of_ble_eq_true rfl) (fun v hv => by cases hv) (fun v hv => by simp only [List.mem_cons, List.not_mem_nil, or_false, Option.some.injEq, reduceCtorEq, false_or] at hv; rcases hv with rfl | rfl | rfl <;> first | exact (lS ((sC_7 hS))) | exact trivial) dX3_goAbove_29 (fun v_29 S_29 F_29 A_29 hP_29 => ?_)
          obtain ⟨rfl, rfl, rfl, n29, rfl, hn29, ht29, hd29⟩ := hP_29
          have hn29 : n29 ≤ n ∧ (m + 1 ≤ n29 ∨ n29 = n) := hn29
          have hd29 : ∀ i, n29 ≤ i → i < n → m + 1 ≤ i ∧ ¬ 0 < cr (B 18 (i - 1)) (B 19 (i - 1)) (B 18 i) (B 19 i) x (A 21 x) := hd29
          show ab_J E 3 0 0 S (upF (upF F 8 2 n) 8 2 n29) B 32 [some (aR 7), some (aI m), some (aI x)] []
          have hdr : DR (fun i => - B 18 (m + i)) (fun i => - B 19 (m + i)) (n - m) (n29 - m) (-x) (- A 21 (- -x)) := by
            rw [Int.neg_neg]
            refine ⟨⟨by omega, by omega, by omega⟩, ?_, fun i a b => ?_⟩
            · rcases ht29 with z | z
              · exact Or.inl (by omega)
              · refine Or.inr ?_
                show 0 < cr (- B 18 (m + (n29 - m - 2))) (- B 19 (m + (n29 - m - 2))) (- B 18 (m + (n29 - m - 1))) (- B 19 (m + (n29 - m - 1))) (-x) (- A 21 x)
                rw [cr_neg, show m + (n29 - m - 2) = n29 - 2 by omega, show m + (n29 - m - 1) = n29 - 1 by omega]; exact z
            · have q := hd29 (m + i) (by omega) (by omega)
              refine ⟨by omega, ?_⟩
              show ¬ 0 < cr (- B 18 (m + (i - 1))) (- B 19 (m + (i - 1))) (- B 18 (m + i)) (- B 19 (m + i)) (-x) (- A 21 x)
              rw [cr_neg, show m + (i - 1) = m + i - 1 by omega]; exact q.2
          have hadd := CH_add (X' := fun i => - (upA (upA B 18 n29 x) 19 n29 (A 21 x)) 18 (m + i)) (Y' := fun i => - (upA (upA B 18 n29 x) 19 n29 (A 21 x)) 19 (m + i)) hC (by show hsC (A 21) (- -x); rw [Int.neg_neg]; exact ⟨by omega, by omega⟩) hdr (fun i => by
              show - _ = if i = n29 - m then -x else - B 18 (m + i)
              rw [upA_other (by decide), upA_if]
              by_cases q : i = n29 - m
              · rw [if_pos q, if_pos (by omega)]
              · rw [if_neg q, if_neg (by omega)]) (fun i => by
              show - _ = if i = n29 - m then - A 21 (- -x) else - B 19 (m + i)
              rw [upA_if, upA_other (by decide), Int.neg_neg]
              by_cases q : i = n29 - m
              · rw [if_pos q, if_pos (by omega)]
              · rw [if_neg q, if_neg (by omega)])
          have hlen := CH_len hadd (l := -20) (u := 0) (fun c hc => by have := hc.1; omega) (by decide)
          refine j_aload_n C dX3_goAbove_32 rfl rfl ?_
          refine j_getR C (j := 8) fl_X3_12 ((sC_7 hS)) rfl dX3_goAbove_33 ?_
          refine j_iload_n C dX3_goAbove_36 rfl rfl ?_
          refine j_aload_n C dX3_goAbove_37 rfl rfl ?_
          refine j_getR C (j := 21) fl_X3_22 ((sC_7 hS)) rfl dX3_goAbove_38 ?_
          refine j_iload_n C dX3_goAbove_41 rfl rfl ?_
          refine j_iald C ((sC_21 hS)) (by omega) (by omega) (by decide) dX3_goAbove_42 ?_
          refine j_eq (st' := [aI (A 21 x), aI x, aR 8]) ?_ (e1 := by first | rfl | (simp only [List.cons.injEq, and_true]; exact congrArg aI (congrFun (hO _ (by decide) (by decide)) _)))
          refine j_callV C (vs := [aI x, aI (A 21 x)]) (st := []) cl_X3_59 im_yX4_add se_yX4_add (fun _ => c_add8 _ S (upF (upF F 8 2 n) 8 2 n29) B hS _ _ (by show 0 ≤ n29 ∧ n29 < 42; omega)) ((sC_8 hS)) rfl rfl rfl ⟨rfl, rfl, by decide, by decide⟩ ⟨by decide, by decide⟩ (fun _ => Nat.le_of_ble_eq_true rfl) (fun v hv => by cases hv) (fun v hv => by simp only [List.mem_cons, List.not_mem_nil, or_false, Option.some.injEq, reduceCtorEq, false_or] at hv; rcases hv with rfl | rfl | rfl <;> first | exact (lS ((sC_7 hS))) | exact trivial) dX3_goAbove_43 (fun v_43 S_43 F_43 A_43 hP_43 => ?_)
          obtain ⟨rfl, rfl, rfl, rfl⟩ := hP_43
          show ab_J E 3 0 0 S (upF (upF (upF F 8 2 n) 8 2 n29) 8 2 (n29 + 1)) (upA (upA B 18 n29 x) 19 n29 (A 21 x)) 46 [some (aR 7), some (aI m), some (aI x)] []
          refine j_iinc C (lv' := [some (aR 7), some (aI m), some (aI (x + (-1)))]) dX3_goAbove_46 rfl (by decide) rfl ?_
          refine j_goto C (tgt := 3) dX3_goAbove_49 (by decide) ?_
          refine j_eq (F' := (upF F 8 2 (n29 + 1))) ?_ (e3 := (by simp only [upF_up]))
          exact ih3 (x + (-1)) (n29 + 1) ((upA (upA B 18 n29 x) 19 n29 (A 21 x))) (by omega) (by omega) (by rw [show -(x + (-1)) = -x + 1 by omega, show n29 + 1 - m = n29 - m + 1 by omega]; exact hadd) (fun i z => by rw [upA_other (by decide), upA_ne (by omega), upA_ne (by omega), upA_other (by decide)]; exact hK i z) (fun i z1 z2 => by rw [upA_other z2, upA_other z1]; exact hO i z1 z2) (by omega)
  refine j_eq (F' := (upF F 8 2 m)) ?_ (e3 := (by rw [← h0]; exact upF_self))
  exact K3 _ 20 m A (by omega) (by omega) (by rw [show m - m = 0 by omega]; exact CH_0 (fun c hc => by have := hc.1; omega)) (fun _ _ => ⟨rfl, rfl⟩) (fun _ _ _ => rfl) (Nat.lt_succ_self _)

set_option maxHeartbeats 4000000 in
set_option maxRecDepth 100000 in
theorem c_stretch (l : Launch) (S : ab_St) (F : ab_Fn) (A : ab_An) (hS : ab_SC S) (x y : Int) (h1 : 0 ≤ x ∧ x ≤ 20) (h2 : 0 ≤ y ∧ y ≤ 13) (h3 : inR (A 20 x)) (h4 : inR (A 21 x)) : ab_Met l yX3_stretch cX3_stretch 3 none { frames := 1, cells := 0, slots := 0, locals := 30 } 0 0 [aR 7, aI x, aI y] S F A (fun v S' F' A' => S = S' ∧ F = F' ∧ v = none ∧ A' = upA (upA A 20 x (min (A 20 x) y)) 21 x (max (A 21 x) (y + 1))) := by
  refine ab_enter (by decide) (by simp [aI, aR, aX, ab_val, Value.category]) (Nat.le_of_ble_eq_true rfl) (fun E C hr => ?_)
  refine j_eq (lv' := [some (aR 7), some (aI x), some (aI y)]) ?_
  refine j_aload_n C dX3_stretch_0 rfl rfl ?_
  refine j_getR C (j := 20) fl_X3_18 ((sC_7 hS)) rfl dX3_stretch_1 ?_
  refine j_iload_n C dX3_stretch_4 rfl rfl ?_
  refine j_aload_n C dX3_stretch_5 rfl rfl ?_
  refine j_getR C (j := 20) fl_X3_18 ((sC_7 hS)) rfl dX3_stretch_6 ?_
  refine j_iload_n C dX3_stretch_9 rfl rfl ?_
  refine j_iald C ((sC_20 hS)) (by omega) (by omega) (by decide) dX3_stretch_10 ?_
  refine j_iload_n C dX3_stretch_11 rfl rfl ?_
  refine j_mmin C (ab_t2 (List.mem_of_getElem? (i := 61) rfl) rfl) h3 ⟨by omega, by omega⟩ (by decide) (fun _ => Nat.le_of_ble_eq_true rfl) ⟨by decide, by decide⟩ dX3_stretch_12 ?_
  refine j_iast C ((sC_20 hS)) (by omega) (by omega) (by decide) dX3_stretch_15 ?_
  refine j_aload_n C dX3_stretch_16 rfl rfl ?_
  refine j_getR C (j := 21) fl_X3_22 ((sC_7 hS)) rfl dX3_stretch_17 ?_
  refine j_iload_n C dX3_stretch_20 rfl rfl ?_
  refine j_aload_n C dX3_stretch_21 rfl rfl ?_
  refine j_getR C (j := 21) fl_X3_22 ((sC_7 hS)) rfl dX3_stretch_22 ?_
  refine j_iload_n C dX3_stretch_25 rfl rfl ?_
  refine j_iald C ((sC_21 hS)) (by omega) (by omega) (by decide) dX3_stretch_26 ?_
  refine j_eq (st' := [aI (A 21 x), aI x, aR 21]) ?_
  refine j_iload_n C dX3_stretch_27 rfl rfl ?_
  refine j_iconst C dX3_stretch_28 ?_
  refine j_iadd C dX3_stretch_29 ?_
  refine j_mmax C (ab_t2 (List.mem_of_getElem? (i := 64) rfl) rfl) h4 ⟨by omega, by omega⟩ (by decide) (fun _ => Nat.le_of_ble_eq_true rfl) ⟨by decide, by decide⟩ dX3_stretch_30 ?_
  refine j_iast C ((sC_21 hS)) (by omega) (by omega) (by decide) dX3_stretch_33 ?_
  exact j_vret C hr (Nat.le_refl _) (Nat.le_refl _) dX3_stretch_34 ⟨rfl, rfl, rfl, rfl⟩

set_option maxHeartbeats 4000000 in
set_option maxRecDepth 100000 in
theorem c_wrap (l : Launch) (S : ab_St) (F : ab_Fn) (A : ab_An) (hS : ab_SC S) (hp : ∀ k, 0 ≤ k → k < 280 → inR (A 27 k)) : ab_Met l yX3_wrap cX3_wrap 3 none { frames := 3, cells := 0, slots := 0, locals := 69 } 0 0 [aR 7, aR 27] S F A (fun v S' F' A' => S = S' ∧ v = none ∧ ∃ n : Int, F' = upF F 8 2 n ∧ (0 ≤ n ∧ n ≤ 42) ∧ LR (PT (fun s => 0 < A 27 s)) n (A' 18) (A' 19) ∧ ∀ i, i ≠ 18 → i ≠ 19 → i ≠ 20 → i ≠ 21 → A' i = A i) := by
  refine ab_enter (by decide) (by simp [aI, aR, aX, ab_val, Value.category]) (Nat.le_of_ble_eq_true rfl) (fun E C hr => ?_)
  refine j_eq (lv' := [some (aR 7), some (aR 27), none]) ?_
  refine j_aload_n C dX3_wrap_0 rfl rfl ?_
  refine j_getR C (j := 20) fl_X3_18 ((sC_7 hS)) rfl dX3_wrap_1 ?_
  refine j_bipush C dX3_wrap_4 rfl ?_
  refine j_callS C (vs := [aR 20, aI 15]) (st := []) cl_X3_25 sc_yJ7_fill_53178 (fun _ => (t_fill _ S F A _ _ _ ((sC_20 hS)) (by decide))) rfl ⟨rfl, rfl, by decide, by decide⟩ ⟨by decide, by decide⟩ (fun _ => Nat.le_of_ble_eq_true rfl) (fun v hv => by cases hv) (fun v hv => by simp only [List.mem_cons, List.not_mem_nil, or_false, Option.some.injEq, reduceCtorEq, false_or] at hv; rcases hv with rfl | rfl <;> first | exact (lS ((sC_27 hS))) | exact (lS ((sC_7 hS)))) dX3_wrap_6 (fun v_6 S_6 F_6 A_6 hP_6 => ?_)
  obtain ⟨rfl, rfl, rfl, rfl⟩ := hP_6
  show ab_J E 3 0 0 S F (setRow A 20 0 21 (fun _ => 15)) 9 [some (aR 7), some (aR 27), none] []
  refine j_aload_n C dX3_wrap_9 rfl rfl ?_
  refine j_getR C (j := 21) fl_X3_22 ((sC_7 hS)) rfl dX3_wrap_10 ?_
  refine j_iconst C dX3_wrap_13 ?_
  refine j_callS C (vs := [aR 21, aI ((-1))]) (st := []) cl_X3_25 sc_yJ7_fill_53178 (fun _ => (t_fill _ S F (setRow A 20 0 21 (fun _ => 15)) _ _ _ ((sC_21 hS)) (by decide))) rfl ⟨rfl, rfl, by decide, by decide⟩ ⟨by decide, by decide⟩ (fun _ => Nat.le_of_ble_eq_true rfl) (fun v hv => by cases hv) (fun v hv => by simp only [List.mem_cons, List.not_mem_nil, or_false, Option.some.injEq, reduceCtorEq, false_or] at hv; rcases hv with rfl | rfl <;> first | exact (lS ((sC_27 hS))) | exact (lS ((sC_7 hS)))) dX3_wrap_14 (fun v_14 S_14 F_14 A_14 hP_14 => ?_)
  obtain ⟨rfl, rfl, rfl, rfl⟩ := hP_14
  show ab_J E 3 0 0 S F (setRow (setRow A 20 0 21 (fun _ => 15)) 21 0 21 (fun _ => (-1))) 17 [some (aR 7), some (aR 27), none] []
  refine j_iconst C dX3_wrap_17 ?_
  refine j_istore_n C (lv' := [some (aR 7), some (aR 27), some (aI 0)]) dX3_wrap_18 rfl (by decide) rfl ?_
  have K19 : ∀ (N : Nat) (k : Int) (B : ab_An), (0 ≤ k ∧ k ≤ 280) → (LHC (fun s => 0 < A 27 s) k (B 20) (B 21)) → (∀ i, i ≠ 20 → i ≠ 21 → B i = A i) → ((280 - k).toNat) < N → ab_J E 3 0 0 S F B 19 [some (aR 7), some (aR 27), some (aI k)] [] := by
    intro N
    induction N with
    | zero => intro k B hk hL hO hm; exact absurd hm (Nat.not_lt_zero _)
    | succ N ih =>
      have ih19 := ih
      clear ih
      intro k B hk hL hO hm19
      have hlr : ∀ c, 0 ≤ c → c ≤ 20 → (B 21 c = -1 ∧ B 20 c = 15) ∨ (0 ≤ B 20 c ∧ B 20 c < B 21 c ∧ B 21 c ≤ 14) := fun c a b => LH_rng (hL c a b) hk.2
      refine j_iload_n C dX3_wrap_19 rfl rfl ?_
      refine j_sipush C dX3_wrap_20 rfl ?_
      refine j_icmp_ge C (tgt := 70) dX3_wrap_23 (by decide) ⟨by omega, by omega⟩ ⟨by omega, by omega⟩ (fun c23 => ?_) (fun c23 => ?_)
      · refine j_aload_n C dX3_wrap_70 rfl rfl ?_
        refine j_getR C (j := 8) fl_X3_12 ((sC_7 hS)) rfl dX3_wrap_71 ?_
        refine j_iconst C dX3_wrap_74 ?_
        refine j_putI C fp_X3_35 ((sC_8 hS)) rfl dX3_wrap_75 ?_
        refine j_aload_n C dX3_wrap_78 rfl rfl ?_
        refine j_callV C (vs := []) (st := []) cl_X3_39 im_yX3_goBelow se_yX3_goBelow (fun _ => (c_below _ S (upF F 8 2 0) B hS rfl hlr)) ((sC_7 hS)) rfl rfl rfl ⟨rfl, rfl, by decide, by decide⟩ ⟨by decide, by decide⟩ (fun _ => Nat.le_of_ble_eq_true rfl) (fun v hv => by cases hv) (fun v hv => by simp only [List.mem_cons, List.not_mem_nil, or_false, Option.some.injEq, reduceCtorEq, false_or] at hv; rcases hv with rfl | rfl | rfl <;> first | exact (lS ((sC_27 hS))) | exact (lS ((sC_7 hS))) | exact trivial) dX3_wrap_79 (fun v_79 S_79 F_79 A_79 hP_79 => ?_)
        obtain ⟨rfl, rfl, n79, rfl, hn79, hC79, hO79⟩ := hP_79
        show ab_J E 3 0 0 S (upF (upF F 8 2 0) 8 2 n79) A_79 82 [some (aR 7), some (aR 27), some (aI k)] []
        refine j_aload_n C dX3_wrap_82 rfl rfl ?_
        refine j_aload_n C dX3_wrap_83 rfl rfl ?_
        refine j_getR C (j := 8) fl_X3_12 ((sC_7 hS)) rfl dX3_wrap_84 ?_
        refine j_get C (aI n79) fl_X3_35 ((sC_8 hS)) (fun _ => rfl) dX3_wrap_87 ?_
        refine j_callV C (vs := [aI n79]) (st := []) cl_X3_42 im_yX3_goAbove se_yX3_goAbove (fun _ => (c_above _ S (upF (upF F 8 2 0) 8 2 n79) A_79 hS _ rfl (by omega) (by rw [hO79 20 (by decide) (by decide), hO79 21 (by decide) (by decide)]; exact hlr) (fun i a b => by have q := hC79.1 i a b; have q1 := q.1.1; have q2 := hlr _ q1.1 q1.2; have q3 := q.1.2; have q4 := q.2.2; omega))) ((sC_7 hS)) rfl rfl rfl ⟨rfl, rfl, by decide, by decide⟩ ⟨by decide, by decide⟩ (fun _ => Nat.le_of_ble_eq_true rfl) (fun v hv => by cases hv) (fun v hv => by simp only [List.mem_cons, List.not_mem_nil, or_false, Option.some.injEq, reduceCtorEq, false_or] at hv; rcases hv with rfl | rfl | rfl <;> first | exact (lS ((sC_27 hS))) | exact (lS ((sC_7 hS))) | exact trivial) dX3_wrap_90 (fun v_90 S_90 F_90 A_90 hP_90 => ?_)
        obtain ⟨rfl, rfl, n90, rfl, hn90, hC90, hK90, hO90⟩ := hP_90
        show ab_J E 3 0 0 S (upF (upF (upF F 8 2 0) 8 2 n79) 8 2 n90) A_90 93 [some (aR 7), some (aR 27), some (aI k)] []
        exact j_vret C hr (Nat.le_refl _) (Nat.le_refl _) dX3_wrap_93 ⟨rfl, rfl, n90, (by simp only [upF_up]), (by omega), (by
    have e280 : k = 280 := by omega
    rw [e280] at hL
    refine wrap_LR (m := n79) hL (by omega) ?_ ?_
    · refine ⟨fun i a b => ?_, fun i a b => ?_, fun i a b => ?_, fun c a b => ?_⟩
      · rw [(hK90 i b).1, (hK90 i b).2]; exact hC79.1 i a b
      · rw [(hK90 i (by omega)).1, (hK90 (i + 1) (by omega)).1]; exact hC79.2.1 i a b
      · rw [(hK90 i (by omega)).1, (hK90 (i + 1) (by omega)).1, (hK90 i (by omega)).2, (hK90 (i + 1) (by omega)).2]; exact hC79.2.2.1 i a b
      · have q := hC79.2.2.2 c a b
        rw [(hK90 0 (by omega)).1, (hK90 (n79 - 1) (by omega)).1]; exact q
    · rw [hO79 21 (by decide) (by decide)] at hC90; exact hC90), fun i z1 z2 z3 z4 => by rw [hO90 i z1 z2, hO79 i z1 z2]; exact hO i z3 z4⟩
      · refine j_iload_n C dX3_wrap_26 rfl rfl ?_
        refine j_aload_n C dX3_wrap_27 rfl rfl ?_
        refine j_alen C ((sC_27 hS)) 0 (fun _ => rfl) dX3_wrap_28 ?_
        refine j_eq (st' := [aI 280, aI k]) ?_
        refine j_icmp_ge C (tgt := 70) dX3_wrap_29 (by decide) ⟨by omega, by omega⟩ ⟨by omega, by omega⟩ (fun c29 => ?_) (fun c29 => ?_)
        · exact absurd c29 (by omega)
        · refine j_aload_n C dX3_wrap_32 rfl rfl ?_
          refine j_iload_n C dX3_wrap_33 rfl rfl ?_
          refine j_iald C ((sC_27 hS)) (by omega) (by omega) (by decide) dX3_wrap_34 ?_
          refine j_eq (st' := [aI (A 27 k)]) ?_ (e1 := by first | rfl | (simp only [List.cons.injEq, and_true]; exact congrArg aI (congrFun (hO _ (by decide) (by decide)) _)))
          have hp34 := hp k (by omega) (by omega)
          have hr0 := hlr (k % 20) (by omega) (by omega)
          have hr1 := hlr (k % 20 + 1) (by omega) (by omega)
          refine j_if_le C (tgt := 64) dX3_wrap_35 (by decide) hp34 (fun c35 => ?_) (fun c35 => ?_)
          · refine j_iinc C (lv' := [some (aR 7), some (aR 27), some (aI (k + 1))]) dX3_wrap_64 rfl (by decide) rfl ?_
            refine j_goto C (tgt := 19) dX3_wrap_67 (by decide) ?_
            exact ih19 (k + 1) B (by omega) (fun c a b => LH_keep (hL c a b) (fun z => by have := z.1; omega)) hO (by omega)
          · refine j_aload_n C dX3_wrap_38 rfl rfl ?_
            refine j_iload_n C dX3_wrap_39 rfl rfl ?_
            refine j_bipush C dX3_wrap_40 rfl ?_
            refine j_irem C dX3_wrap_42 (by omega) (by omega) (by omega) (by omega) ?_
            refine j_iload_n C dX3_wrap_43 rfl rfl ?_
            refine j_bipush C dX3_wrap_44 rfl ?_
            refine j_idiv C dX3_wrap_46 (by omega) (by omega) (by omega) (by omega) ?_
            refine j_callV C (vs := [aI (k % 20), aI (k / 20)]) (st := []) cl_X3_31 im_yX3_stretch se_yX3_stretch (fun _ => (c_stretch _ S F B hS _ _ (by omega) (by omega) ⟨by omega, by omega⟩ ⟨by omega, by omega⟩)) ((sC_7 hS)) rfl rfl rfl ⟨rfl, rfl, by decide, by decide⟩ ⟨by decide, by decide⟩ (fun _ => Nat.le_of_ble_eq_true rfl) (fun v hv => by cases hv) (fun v hv => by simp only [List.mem_cons, List.not_mem_nil, or_false, Option.some.injEq, reduceCtorEq, false_or] at hv; rcases hv with rfl | rfl | rfl <;> first | exact (lS ((sC_27 hS))) | exact (lS ((sC_7 hS))) | exact trivial) dX3_wrap_47 (fun v_47 S_47 F_47 A_47 hP_47 => ?_)
            obtain ⟨rfl, rfl, rfl, rfl⟩ := hP_47
            show ab_J E 3 0 0 S F (upA (upA B 20 (k % 20) (min (B 20 (k % 20)) (k / 20))) 21 (k % 20) (max (B 21 (k % 20)) (k / 20 + 1))) 50 [some (aR 7), some (aR 27), some (aI k)] []
            refine j_aload_n C dX3_wrap_50 rfl rfl ?_
            refine j_iload_n C dX3_wrap_51 rfl rfl ?_
            refine j_bipush C dX3_wrap_52 rfl ?_
            refine j_irem C dX3_wrap_54 (by omega) (by omega) (by omega) (by omega) ?_
            refine j_iconst C dX3_wrap_55 ?_
            refine j_iadd C dX3_wrap_56 ?_
            refine j_iload_n C dX3_wrap_57 rfl rfl ?_
            refine j_bipush C dX3_wrap_58 rfl ?_
            refine j_idiv C dX3_wrap_60 (by omega) (by omega) (by omega) (by omega) ?_
            refine j_callV C (vs := [aI ((k % 20) + 1), aI (k / 20)]) (st := []) cl_X3_31 im_yX3_stretch se_yX3_stretch (fun _ => (c_stretch _ S F (upA (upA B 20 (k % 20) (min (B 20 (k % 20)) (k / 20))) 21 (k % 20) (max (B 21 (k % 20)) (k / 20 + 1))) hS _ _ (by omega) (by omega) (by rw [upA_other (by decide), upA_ne (by omega)]; exact ⟨by omega, by omega⟩) (by rw [upA_ne (by omega), upA_other (by decide)]; exact ⟨by omega, by omega⟩))) ((sC_7 hS)) rfl rfl rfl ⟨rfl, rfl, by decide, by decide⟩ ⟨by decide, by decide⟩ (fun _ => Nat.le_of_ble_eq_true rfl) (fun v hv => by cases hv) (fun v hv => by simp only [List.mem_cons, List.not_mem_nil, or_false, Option.some.injEq, reduceCtorEq, false_or] at hv; rcases hv with rfl | rfl | rfl <;> first | exact (lS ((sC_27 hS))) | exact (lS ((sC_7 hS))) | exact trivial) dX3_wrap_61 (fun v_61 S_61 F_61 A_61 hP_61 => ?_)
            obtain ⟨rfl, rfl, rfl, rfl⟩ := hP_61
            have hst : LHC (fun s => 0 < A 27 s) (k + 1) (str1 (str1 B (k % 20) (k / 20)) (k % 20 + 1) (k / 20) 20) (str1 (str1 B (k % 20) (k / 20)) (k % 20 + 1) (k / 20) 21) := by
              intro c q1 q2
              obtain ⟨r20, r21⟩ := str2 B (k % 20) (k / 20) c
              rw [r20, r21]
              by_cases e1 : c = k % 20 ∨ c = k % 20 + 1
              · rw [if_pos e1, if_pos e1]; exact LH_hit (hL c q1 q2) (by omega) (by omega) e1
              · rw [if_neg e1, if_neg e1]; exact LH_keep (hL c q1 q2) (fun z => e1 z.2)
            show ab_J E 3 0 0 S F (upA (upA (upA (upA B 20 (k % 20) (min (B 20 (k % 20)) (k / 20))) 21 (k % 20) (max (B 21 (k % 20)) (k / 20 + 1))) 20 ((k % 20) + 1) (min ((upA (upA B 20 (k % 20) (min (B 20 (k % 20)) (k / 20))) 21 (k % 20) (max (B 21 (k % 20)) (k / 20 + 1))) 20 ((k % 20) + 1)) (k / 20))) 21 ((k % 20) + 1) (max ((upA (upA B 20 (k % 20) (min (B 20 (k % 20)) (k / 20))) 21 (k % 20) (max (B 21 (k % 20)) (k / 20 + 1))) 21 ((k % 20) + 1)) (k / 20 + 1))) 64 [some (aR 7), some (aR 27), some (aI k)] []
            refine j_iinc C (lv' := [some (aR 7), some (aR 27), some (aI (k + 1))]) dX3_wrap_64 rfl (by decide) rfl ?_
            refine j_goto C (tgt := 19) dX3_wrap_67 (by decide) ?_
            exact ih19 (k + 1) ((upA (upA (upA (upA B 20 (k % 20) (min (B 20 (k % 20)) (k / 20))) 21 (k % 20) (max (B 21 (k % 20)) (k / 20 + 1))) 20 ((k % 20) + 1) (min ((upA (upA B 20 (k % 20) (min (B 20 (k % 20)) (k / 20))) 21 (k % 20) (max (B 21 (k % 20)) (k / 20 + 1))) 20 ((k % 20) + 1)) (k / 20))) 21 ((k % 20) + 1) (max ((upA (upA B 20 (k % 20) (min (B 20 (k % 20)) (k / 20))) 21 (k % 20) (max (B 21 (k % 20)) (k / 20 + 1))) 21 ((k % 20) + 1)) (k / 20 + 1)))) (by omega) hst (fun i z1 z2 => by rw [upA_other z2, upA_other z1, upA_other z2, upA_other z1]; exact hO i z1 z2) (by omega)
  exact K19 _ 0 ((setRow (setRow A 20 0 21 (fun _ => 15)) 21 0 21 (fun _ => (-1)))) (by omega) (fun c a b => by rw [setRow_other (by decide), setRow_in (by omega) (by omega), setRow_in (by omega) (by omega)]; exact Or.inl ⟨⟨rfl, rfl⟩, fun s hs => by have := hs.1; omega⟩) (fun i z1 z2 => by rw [setRow_other z2, setRow_other z1]) (Nat.lt_succ_self _)
