/-! directions of the class: of its number j that of the reference -/
def dk (j : Int) : Int := ([5, 7, 3, 1, 8, 6, 0, 2] : List Int).getD j.toNat 0
theorem dk_n : ∀ n : Nat, n < 8 → (ab_rd 0).getD n 0 = ([5, 7, 3, 1, 8, 6, 0, 2] : List Int).getD n 0 % 3 - 1 ∧ (ab_rd 1).getD n 0 = ([5, 7, 3, 1, 8, 6, 0, 2] : List Int).getD n 0 / 3 - 1 ∧ 0 ≤ ([5, 7, 3, 1, 8, 6, 0, 2] : List Int).getD n 0 ∧ ([5, 7, 3, 1, 8, 6, 0, 2] : List Int).getD n 0 < 9 ∧ ¬ ([5, 7, 3, 1, 8, 6, 0, 2] : List Int).getD n 0 = 4 ∧ (n < 4 ↔ ([5, 7, 3, 1, 8, 6, 0, 2] : List Int).getD n 0 % 2 = 1) := by decide
theorem dk_x {k : Int} (h0 : 0 ≤ k) (h1 : k < 8) : (ab_rd 0).getD k.toNat 0 = dk k % 3 - 1 := (dk_n k.toNat (by omega)).1
theorem dk_y {k : Int} (h0 : 0 ≤ k) (h1 : k < 8) : (ab_rd 1).getD k.toNat 0 = dk k / 3 - 1 := (dk_n k.toNat (by omega)).2.1
theorem dk_r {k : Int} (h0 : 0 ≤ k) (h1 : k < 8) : 0 ≤ dk k ∧ dk k < 9 ∧ ¬ dk k = 4 := by
  have h := dk_n k.toNat (by omega)
  exact ⟨h.2.2.1, h.2.2.2.1, h.2.2.2.2.1⟩
theorem dk_o {k : Int} (h0 : 0 ≤ k) (h1 : k < 8) : k < 4 ↔ dk k % 2 = 1 := by
  have h := (dk_n k.toNat (by omega)).2.2.2.2.2
  exact ⟨fun q => h.mp (by omega), fun q => by have := h.mpr q; omega⟩
theorem dk_all {d : Int} (h0 : 0 ≤ d) (h1 : d < 9) (h4 : ¬ d = 4) : ∃ k, 0 ≤ k ∧ k < 8 ∧ dk k = d := by
  rcases (show d = 0 ∨ d = 1 ∨ d = 2 ∨ d = 3 ∨ d = 5 ∨ d = 6 ∨ d = 7 ∨ d = 8 by omega) with rfl | rfl | rfl | rfl | rfl | rfl | rfl | rfl
  · exact ⟨6, by decide, by decide, rfl⟩
  · exact ⟨3, by decide, by decide, rfl⟩
  · exact ⟨7, by decide, by decide, rfl⟩
  · exact ⟨2, by decide, by decide, rfl⟩
  · exact ⟨0, by decide, by decide, rfl⟩
  · exact ⟨5, by decide, by decide, rfl⟩
  · exact ⟨1, by decide, by decide, rfl⟩
  · exact ⟨4, by decide, by decide, rfl⟩
theorem dk_p (f : Int → Int) : sm (fun j => f (dk j)) 4 = sm (fun j => f (2 * j + 1)) 4 := by
  show (((0 + f 5) + f 7) + f 3) + f 1 = (((0 + f 1) + f 3) + f 5) + f 7
  omega
theorem sd_self {ld : Int → Int} {k j : Int} (h0 : 0 ≤ k) (h1 : k < 280) (hj : 0 ≤ j ∧ j < 4) : ¬ sd ld k (2 * j + 1) = k := by
  unfold sd
  split
  · rcases (show j = 0 ∨ j = 1 ∨ j = 2 ∨ j = 3 by omega) with rfl | rfl | rfl | rfl <;> omega
  · omega
theorem sp_k {ld p : Int → Int} {k : Int} (h0 : 0 ≤ k) (h1 : k < 280) : scol ld p k k = - sm (fun j => if sd ld k (dk j) = -1 then 0 else p k / 8) 4 := by
  rw [dk_p (fun d => if sd ld k d = -1 then 0 else p k / 8)]
  have e : ∀ j : Int, 0 ≤ j → j < 4 → sterm ld p k (2 * j + 1) k = 0 - (if sd ld k (2 * j + 1) = -1 then 0 else p k / 8) := by
    intro j a b
    unfold sterm
    rw [if_neg (sd_self h0 h1 ⟨a, b⟩)]
    by_cases q : sd ld k (2 * j + 1) = -1
    · rw [if_pos q, if_neg (fun z => z.1 q)]
    · rw [if_neg q, if_pos ⟨q, rfl⟩]
  have e0 := e 0 (by decide) (by decide)
  have e1 := e 1 (by decide) (by decide)
  have e2 := e 2 (by decide) (by decide)
  have e3 := e 3 (by decide) (by decide)
  show (((0 + sterm ld p k (2 * 0 + 1) k) + sterm ld p k (2 * 1 + 1) k) + sterm ld p k (2 * 2 + 1) k) + sterm ld p k (2 * 3 + 1) k = - ((((0 + (if sd ld k (2 * 0 + 1) = -1 then 0 else p k / 8)) + (if sd ld k (2 * 1 + 1) = -1 then 0 else p k / 8)) + (if sd ld k (2 * 2 + 1) = -1 then 0 else p k / 8)) + (if sd ld k (2 * 3 + 1) = -1 then 0 else p k / 8))
  rw [e0, e1, e2, e3]
  omega
theorem sp_t {ld p : Int → Int} {k t : Int} (hne : ¬ k = t) : scol ld p t k = sm (fun j => if sd ld k (dk j) = t then p k / 8 else 0) 4 := by
  rw [dk_p (fun d => if sd ld k d = t then p k / 8 else 0)]
  refine sm_cong (n := 4) (fun j a b => ?_)
  unfold sterm
  rw [if_neg (fun z : sd ld k (2 * j + 1) ≠ -1 ∧ k = t => hne z.2)]
  omega
def spc (ld p : Int → Int) (t x : Int) : Int := (if t = x then p t else 0) + scol ld p t x
theorem spc_all {ld p : Int → Int} {t : Int} (h0 : 0 ≤ t) (h1 : t < 280) : sm (spc ld p t) 280 = spT ld p t := by
  show sm (fun x => (if t = x then p t else 0) + scol ld p t x) 280 = _
  rw [sm_add, sm_pick h0, if_pos (by omega)]
  rfl
theorem spc_0 {ld p : Int → Int} {t k : Int} (h : p k = 0) : spc ld p t k = 0 := by
  unfold spc
  have e : scol ld p t k = 0 := by
    show sm (fun j => sterm ld p k (2 * j + 1) t) 4 = 0
    have : sm (fun j => sterm ld p k (2 * j + 1) t) 4 = sm (fun _ => 0) 4 := sm_cong (n := 4) (fun j _ _ => by unfold sterm; rw [h]; simp)
    rw [this, sm_zero]
  rw [e]
  by_cases q : t = k
  · rw [if_pos q, q, h]; rfl
  · rw [if_neg q]; rfl
theorem cb_skip {D p : Int → Int} {t k : Int} (hk : 0 ≤ k) (h : p k = 0) : sm (cb D p t) (k + 1).toNat = sm (cb D p t) k.toNat := by
  rw [sm_step _ hk]; simp only [cb]; rw [h]; split <;> omega
theorem cb_hit {D p : Int → Int} {t k : Int} (hk : 0 ≤ k) (h : D k = t) : sm (cb D p t) (k + 1).toNat = sm (cb D p t) k.toNat + p k := by
  rw [sm_step _ hk]; simp only [cb]; rw [if_pos h]
theorem cb_miss {D p : Int → Int} {t k : Int} (hk : 0 ≤ k) (h : ¬ D k = t) : sm (cb D p t) (k + 1).toNat = sm (cb D p t) k.toNat := by
  rw [sm_step _ hk]; simp only [cb]; rw [if_neg h]; omega
/-- the class holds the berg u as its number b -/
def BC (F : ab_Fn) (A : ab_An) (b : Nat) (u : bst) : Prop := (∀ k, 0 ≤ k → k < 280 → A (220 + b) k = u.1 k) ∧ F (200 + b) 1 = u.2.1 ∧ F (200 + b) 2 = u.2.2.1 ∧ F (200 + b) 3 = u.2.2.2.1 ∧ F (200 + b) 4 = u.2.2.2.2
theorem BC.to {F F' : ab_Fn} {A A' : ab_An} {b : Nat} {u : bst} (h : BC F A b u) (hF : F' (200 + b) = F (200 + b)) (hA : A' (220 + b) = A (220 + b)) : BC F' A' b u := by
  unfold BC; rw [hF, hA]; exact h

set_option maxHeartbeats 4000000 in
set_option maxRecDepth 100000 in
theorem c_squareAt (l : Launch) (S : ab_St) (F : ab_Fn) (A : ab_An) (hS : ab_SC S) (x y : Int) (rx : inR x) (ry : inR y) : ab_Met l yX9_squareAt cX9_squareAt 2 (some .int) { frames := 0, cells := 0, slots := 0, locals := 0 } 0 0 [aI x, aI y] S F A (fun v S' F' A' => S = S' ∧ F = F' ∧ A = A' ∧ ∃ r : Int, v = some (aI r) ∧ ((r = -1 ∧ ¬ (0 ≤ x ∧ x < 20 ∧ 0 ≤ y ∧ y < 14)) ∨ (r = 20 * y + x ∧ (0 ≤ x ∧ x < 20 ∧ 0 ≤ y ∧ y < 14)))) := by
  refine ab_enter (by decide) (by simp [aI, aR, aX, ab_val, Value.category]) (Nat.le_of_ble_eq_true rfl) (fun E C hr => ?_)
  refine j_eq (lv' := [some (aI x), some (aI y)]) ?_
  refine j_iload_n C dX9_squareAt_0 rfl rfl ?_
  refine j_if_lt C (tgt := 20) dX9_squareAt_1 (by decide) rx (fun c1 => ?_) (fun c1 => ?_)
  · refine j_iconst C dX9_squareAt_20 ?_
    refine j_goto C (tgt := 30) dX9_squareAt_21 (by decide) ?_
    exact j_iret C hr (Nat.le_refl _) (Nat.le_refl _) dX9_squareAt_30 ⟨rfl, rfl, rfl, _, rfl, by omega⟩
  · refine j_iload_n C dX9_squareAt_4 rfl rfl ?_
    refine j_bipush C dX9_squareAt_5 rfl ?_
    refine j_icmp_ge C (tgt := 20) dX9_squareAt_7 (by decide) rx ⟨by omega, by omega⟩ (fun c7 => ?_) (fun c7 => ?_)
    · refine j_iconst C dX9_squareAt_20 ?_
      refine j_goto C (tgt := 30) dX9_squareAt_21 (by decide) ?_
      exact j_iret C hr (Nat.le_refl _) (Nat.le_refl _) dX9_squareAt_30 ⟨rfl, rfl, rfl, _, rfl, by omega⟩
    · refine j_iload_n C dX9_squareAt_10 rfl rfl ?_
      refine j_if_lt C (tgt := 20) dX9_squareAt_11 (by decide) ry (fun c11 => ?_) (fun c11 => ?_)
      · refine j_iconst C dX9_squareAt_20 ?_
        refine j_goto C (tgt := 30) dX9_squareAt_21 (by decide) ?_
        exact j_iret C hr (Nat.le_refl _) (Nat.le_refl _) dX9_squareAt_30 ⟨rfl, rfl, rfl, _, rfl, by omega⟩
      · refine j_iload_n C dX9_squareAt_14 rfl rfl ?_
        refine j_bipush C dX9_squareAt_15 rfl ?_
        refine j_icmp_lt C (tgt := 24) dX9_squareAt_17 (by decide) ry ⟨by omega, by omega⟩ (fun c17 => ?_) (fun c17 => ?_)
        · refine j_iload_n C dX9_squareAt_24 rfl rfl ?_
          refine j_bipush C dX9_squareAt_25 rfl ?_
          refine j_imul C dX9_squareAt_27 ?_
          refine j_iload_n C dX9_squareAt_28 rfl rfl ?_
          refine j_iadd C dX9_squareAt_29 ?_
          exact j_iret C hr (Nat.le_refl _) (Nat.le_refl _) dX9_squareAt_30 ⟨rfl, rfl, rfl, _, rfl, by omega⟩
        · refine j_iconst C dX9_squareAt_20 ?_
          refine j_goto C (tgt := 30) dX9_squareAt_21 (by decide) ?_
          exact j_iret C hr (Nat.le_refl _) (Nat.le_refl _) dX9_squareAt_30 ⟨rfl, rfl, rfl, _, rfl, by omega⟩

set_option maxHeartbeats 4000000 in
set_option maxRecDepth 100000 in
theorem c_drift (l : Launch) (S : ab_St) (F : ab_Fn) (A : ab_An) (hS : ab_SC S) (b : Nat) (hb9 : b < 10) (hbO : S (200 + b) = some (sC 1 (slB (220 + b)))) (hbR : S (220 + b) = some (sA .int 280)) (hl : ∀ k, 0 ≤ k → k < 280 → A 11 k = 0 ∨ A 11 k = 1) (hc : ∀ k, 0 ≤ k → k < 280 → -2 ≤ A 12 k ∧ A 12 k ≤ 2 ∧ -2 ≤ A 13 k ∧ A 13 k ≤ 2) (hp : ∀ k, 0 ≤ k → k < 280 → 0 ≤ A (220 + b) k ∧ A (220 + b) k ≤ 1000000) : ab_Met l yX0_drift cX0_drift 5 none { frames := 1, cells := 0, slots := 0, locals := 23 } 0 0 [aR (200 + b), aR 1, aR 28] S F A (fun v S' F' A' => S = S' ∧ v = none ∧ F' = upF F (200 + b) 3 (F (200 + b) 3 + drT (A 11) (A 12) (A 13) (A (220 + b)) (-1)) ∧ (∀ i, i ≠ 28 → A' i = A i) ∧ ∀ t, 0 ≤ t → t < 280 → A' 28 t = drT (A 11) (A 12) (A 13) (A (220 + b)) t) := by
  refine ab_enter (by decide) (by simp [aI, aR, aX, ab_val, Value.category]) (Nat.le_of_ble_eq_true rfl) (fun E C hr => ?_)
  refine j_eq (lv' := [some (aR (200 + b)), some (aR 1), some (aR 28), none, none]) ?_
  refine j_aload_n C dX0_drift_0 rfl rfl ?_
  refine j_iconst C dX0_drift_1 ?_
  refine j_callS C (vs := [aR 28, aI 0]) (st := []) cl_X0_29 sc_yJ7_fill_53178 (fun _ => (t_fill _ S F A _ _ _ ((sC_28 hS)) (by decide))) rfl ⟨rfl, rfl, by decide, by decide⟩ ⟨by decide, by decide⟩ (fun _ => Nat.le_of_ble_eq_true rfl) (fun v hv => by cases hv) (fun v hv => by simp only [List.mem_cons, List.not_mem_nil, or_false, Option.some.injEq, reduceCtorEq, false_or] at hv; rcases hv with rfl | rfl | rfl <;> first | exact (lS ((sC_1 hS))) | exact (lS ((sC_28 hS))) | exact (lS (hbO))) dX0_drift_2 (fun v_2 S_2 F_2 A_2 hP_2 => ?_)
  obtain ⟨rfl, rfl, rfl, rfl⟩ := hP_2
  show ab_J E 5 0 0 S F (setRow A 28 0 280 (fun _ => 0)) 5 [some (aR (200 + b)), some (aR 1), some (aR 28), none, none] []
  refine j_iconst C dX0_drift_5 ?_
  refine j_istore_n C (lv' := [some (aR (200 + b)), some (aR 1), some (aR 28), some (aI 0), none]) dX0_drift_6 rfl (by decide) rfl ?_
  have K7 : ∀ (N : Nat) (k o : Int) (B : ab_An), (0 ≤ k ∧ k ≤ 280) → (∀ i, i ≠ 28 → B i = A i) → (∀ t, 0 ≤ t → t < 280 → B 28 t = sm (cb (dst (A 11) (A 12) (A 13)) (A (220 + b)) t) k.toNat) → (o = F (200 + b) 3 + sm (cb (dst (A 11) (A 12) (A 13)) (A (220 + b)) (-1)) k.toNat) → ((280 - k).toNat) < N → ab_J E 5 0 0 S (upF F (200 + b) 3 o) B 7 [some (aR (200 + b)), some (aR 1), some (aR 28), some (aI k), none] [] := by
    intro N
    induction N with
    | zero => intro k o B hk hO hg ho hm; exact absurd hm (Nat.not_lt_zero _)
    | succ N ih =>
      have ih7 := ih
      clear ih
      intro k o B hk hO hg ho hm7
      refine j_iload_n C dX0_drift_7 rfl rfl ?_
      refine j_sipush C dX0_drift_8 rfl ?_
      refine j_icmp_ge C (tgt := 107) dX0_drift_11 (by decide) ⟨by omega, by omega⟩ ⟨by omega, by omega⟩ (fun c11 => ?_) (fun c11 => ?_)
      · exact j_vret C hr (Nat.le_refl _) (Nat.le_refl _) dX0_drift_107 ⟨rfl, rfl, (by rw [ho, show k = 280 by omega]; rfl), hO, fun t q1 q2 => by rw [hg t q1 q2, show k = 280 by omega]; rfl⟩
      · refine j_aload_n C dX0_drift_14 rfl rfl ?_
        refine j_getR C (j := (220 + b)) fl_X0_9 (hbO) rfl dX0_drift_15 ?_
        refine j_iload_n C dX0_drift_18 rfl rfl ?_
        refine j_iald C (hbR) (by omega) (by omega) (by decide) dX0_drift_19 ?_
        refine j_eq (st' := [aI (A (220 + b) k)]) ?_ (e1 := by first | rfl | (simp only [List.cons.injEq, and_true]; exact congrArg aI (congrFun (hO _ (by omega)) _)))
        have hp19 := hp k (by omega) (by omega)
        refine j_if_le C (tgt := 101) dX0_drift_20 (by decide) ⟨by omega, by omega⟩ (fun c20 => ?_) (fun c20 => ?_)
        · refine j_iinc C (lv' := [some (aR (200 + b)), some (aR 1), some (aR 28), some (aI (k + 1)), none]) dX0_drift_101 rfl (by decide) rfl ?_
          refine j_goto C (tgt := 7) dX0_drift_104 (by decide) ?_
          exact ih7 (k + 1) o B (by omega) hO (fun t q1 q2 => by rw [cb_skip hk.1 (by have := hp k (by omega) (by omega); omega)]; exact hg t q1 q2) (by rw [cb_skip hk.1 (by have := hp k (by omega) (by omega); omega)]; exact ho) (by omega)
        · refine j_iload_n C dX0_drift_23 rfl rfl ?_
          refine j_bipush C dX0_drift_24 rfl ?_
          refine j_irem C dX0_drift_26 (by omega) (by omega) (by omega) (by omega) ?_
          refine j_aload_n C dX0_drift_27 rfl rfl ?_
          refine j_getR C (j := 12) fl_X0_47 ((sC_1 hS)) rfl dX0_drift_28 ?_
          refine j_iload_n C dX0_drift_31 rfl rfl ?_
          refine j_iald C ((sC_12 hS)) (by omega) (by omega) (by decide) dX0_drift_32 ?_
          refine j_eq (st' := [aI (A 12 k), aI (k % 20)]) ?_ (e1 := by first | rfl | (simp only [List.cons.injEq, and_true]; exact congrArg aI (congrFun (hO _ (by omega)) _)))
          refine j_iadd C dX0_drift_33 ?_
          refine j_iload_n C dX0_drift_34 rfl rfl ?_
          refine j_bipush C dX0_drift_35 rfl ?_
          refine j_idiv C dX0_drift_37 (by omega) (by omega) (by omega) (by omega) ?_
          refine j_aload_n C dX0_drift_38 rfl rfl ?_
          refine j_getR C (j := 13) fl_X0_52 ((sC_1 hS)) rfl dX0_drift_39 ?_
          refine j_iload_n C dX0_drift_42 rfl rfl ?_
          refine j_iald C ((sC_13 hS)) (by omega) (by omega) (by decide) dX0_drift_43 ?_
          refine j_eq (st' := [aI (A 13 k), aI (k / 20), aI ((k % 20) + (A 12 k))]) ?_ (e1 := by first | rfl | (simp only [List.cons.injEq, and_true]; exact congrArg aI (congrFun (hO _ (by omega)) _)))
          refine j_iadd C dX0_drift_44 ?_
          have hc45 := hc k (by omega) (by omega)
          refine j_callSN C (np := 2) (vs := [aI ((k % 20) + (A 12 k)), aI ((k / 20) + (A 13 k))]) (st := []) (ab_t3 (List.mem_of_getElem? (i := 219) rfl) rfl) (lw_t3 (List.mem_of_getElem? (i := 217) rfl)) (ab_t1 (List.mem_of_getElem? (i := 1) rfl) rfl) ⟨by decide +kernel, by decide +kernel⟩ (by decide +kernel) (ab_t3 (List.mem_of_getElem? (i := 218) rfl) rfl) (fun _ => (c_squareAt _ S (upF F (200 + b) 3 o) B hS _ _ ⟨by omega, by omega⟩ ⟨by omega, by omega⟩)) rfl ⟨rfl, rfl, by decide, by decide⟩ ⟨by decide, by decide⟩ (fun _ => Nat.le_of_ble_eq_true rfl) (fun v hv => by cases hv) (fun v hv => by simp only [List.mem_cons, List.not_mem_nil, or_false, Option.some.injEq, reduceCtorEq, false_or] at hv; rcases hv with rfl | rfl | rfl | rfl <;> first | exact (lS ((sC_1 hS))) | exact (lS ((sC_28 hS))) | exact (lS (hbO)) | exact trivial) dX0_drift_45 (fun v_45 S_45 F_45 A_45 hP_45 => ?_)
          obtain ⟨rfl, rfl, rfl, r45, rfl, ⟨rfl, hi45⟩ | ⟨hr45, hi45⟩⟩ := hP_45
          · have hi45 : ¬ (0 ≤ (k % 20) + (A 12 k) ∧ (k % 20) + (A 12 k) < 20 ∧ 0 ≤ (k / 20) + (A 13 k) ∧ (k / 20) + (A 13 k) < 14) := hi45
            show ab_J E 5 0 0 S (upF F (200 + b) 3 o) B 48 [some (aR (200 + b)), some (aR 1), some (aR 28), some (aI k), none] [aI (-1)]
            refine j_istore C (lv' := [some (aR (200 + b)), some (aR 1), some (aR 28), some (aI k), some (aI (-1))]) dX0_drift_48 (by decide) rfl ?_
            refine j_iload C dX0_drift_50 rfl ?_
            refine j_iconst C dX0_drift_52 ?_
            refine j_icmp_ne C (tgt := 74) dX0_drift_53 (by decide) ⟨by omega, by omega⟩ ⟨by omega, by omega⟩ (fun c53 => ?_) (fun c53 => ?_)
            · exact absurd c53 (by decide)
            · refine j_aload_n C dX0_drift_56 rfl rfl ?_
              refine j_dup C dX0_drift_57 (fun _ => rfl) ?_
              refine j_get C (aI o) fl_X0_22 (hbO) (fun _ => congrArg (fun z => Value.int (Int32.ofInt z)) (upF_at _ _ _ _)) dX0_drift_58 ?_
              refine j_aload_n C dX0_drift_61 rfl rfl ?_
              refine j_getR C (j := (220 + b)) fl_X0_9 (hbO) rfl dX0_drift_62 ?_
              refine j_iload_n C dX0_drift_65 rfl rfl ?_
              refine j_iald C (hbR) (by omega) (by omega) (by decide) dX0_drift_66 ?_
              refine j_eq (st' := [aI (A (220 + b) k), aI o, aR (200 + b)]) ?_ (e1 := by first | rfl | (simp only [List.cons.injEq, and_true]; exact congrArg aI (congrFun (hO _ (by omega)) _)))
              refine j_iadd C dX0_drift_67 ?_
              refine j_putI C fp_X0_22 (hbO) rfl dX0_drift_68 ?_
              refine j_goto C (tgt := 101) dX0_drift_71 (by decide) ?_
              refine j_iinc C (lv' := [some (aR (200 + b)), some (aR 1), some (aR 28), some (aI (k + 1)), some (aI (-1))]) dX0_drift_101 rfl (by decide) rfl ?_
              refine j_goto C (tgt := 7) dX0_drift_104 (by decide) ?_
              refine j_lv (lv' := [some (aR (200 + b)), some (aR 1), some (aR 28), some (aI (k + 1)), none]) ?_ ⟨rfl, rfl, rfl, rfl, trivial⟩
              refine j_eq (F' := (upF F (200 + b) 3 (o + (A (220 + b) k)))) ?_ (e3 := (upF_up _ _ _ _ _))
              exact ih7 (k + 1) (o + (A (220 + b) k)) B (by omega) hO (fun t q1 q2 => by rw [cb_miss hk.1 (by rw [(dst_out (ld := A 11) rfl rfl hi45)]; omega)]; exact hg t q1 q2) (by rw [cb_hit hk.1 (dst_out (ld := A 11) rfl rfl hi45), ho]; omega) (by omega)
          · have hi45 : 0 ≤ (k % 20) + (A 12 k) ∧ (k % 20) + (A 12 k) < 20 ∧ 0 ≤ (k / 20) + (A 13 k) ∧ (k / 20) + (A 13 k) < 14 := hi45
            have hr45 : r45 = 20 * ((k / 20) + (A 13 k)) + ((k % 20) + (A 12 k)) := hr45
            show ab_J E 5 0 0 S (upF F (200 + b) 3 o) B 48 [some (aR (200 + b)), some (aR 1), some (aR 28), some (aI k), none] [aI r45]
            refine j_istore C (lv' := [some (aR (200 + b)), some (aR 1), some (aR 28), some (aI k), some (aI r45)]) dX0_drift_48 (by decide) rfl ?_
            refine j_iload C dX0_drift_50 rfl ?_
            refine j_iconst C dX0_drift_52 ?_
            refine j_icmp_ne C (tgt := 74) dX0_drift_53 (by decide) ⟨by omega, by omega⟩ ⟨by omega, by omega⟩ (fun c53 => ?_) (fun c53 => ?_)
            · refine j_aload_n C dX0_drift_74 rfl rfl ?_
              refine j_aload_n C dX0_drift_75 rfl rfl ?_
              refine j_getR C (j := 11) fl_X0_59 ((sC_1 hS)) rfl dX0_drift_76 ?_
              refine j_iload C dX0_drift_79 rfl ?_
              refine j_zald C ((sC_11 hS)) (by omega) (by omega) (by decide) dX0_drift_81 ?_
              refine j_eq (st' := [aI (A 11 r45), aR 28]) ?_ (e1 := by first | rfl | (simp only [List.cons.injEq, and_true]; exact congrArg aI (congrFun (hO _ (by omega)) _)))
              have hl81 := hl r45 (by omega) (by omega)
              refine j_if_eq C (tgt := 89) dX0_drift_82 (by decide) ⟨by omega, by omega⟩ (fun c82 => ?_) (fun c82 => ?_)
              · refine j_iload C dX0_drift_89 rfl ?_
                refine j_dup2 C dX0_drift_91 (fun _ => rfl) (fun _ => rfl) ?_
                refine j_iald C ((sC_28 hS)) (by omega) (by omega) (by decide) dX0_drift_92 ?_
                refine j_aload_n C dX0_drift_93 rfl rfl ?_
                refine j_getR C (j := (220 + b)) fl_X0_9 (hbO) rfl dX0_drift_94 ?_
                refine j_iload_n C dX0_drift_97 rfl rfl ?_
                refine j_iald C (hbR) (by omega) (by omega) (by decide) dX0_drift_98 ?_
                refine j_eq (st' := [aI (A (220 + b) k), aI (B 28 r45), aI r45, aR 28]) ?_ (e1 := by first | rfl | (simp only [List.cons.injEq, and_true]; exact congrArg aI (congrFun (hO _ (by omega)) _)))
                refine j_iadd C dX0_drift_99 ?_
                refine j_iast C ((sC_28 hS)) (by omega) (by omega) (by decide) dX0_drift_100 ?_
                refine j_iinc C (lv' := [some (aR (200 + b)), some (aR 1), some (aR 28), some (aI (k + 1)), some (aI r45)]) dX0_drift_101 rfl (by decide) rfl ?_
                refine j_goto C (tgt := 7) dX0_drift_104 (by decide) ?_
                refine j_lv (lv' := [some (aR (200 + b)), some (aR 1), some (aR 28), some (aI (k + 1)), none]) ?_ ⟨rfl, rfl, rfl, rfl, trivial⟩
                exact ih7 (k + 1) o ((upA B 28 r45 ((B 28 r45) + (A (220 + b) k)))) (by omega) (fun i q => by rw [upA_other q]; exact hO i q) (fun t q1 q2 => by have hD := (dst_in (ld := A 11) rfl rfl hi45 (by rw [← hr45]; exact c82)).trans hr45.symm; exact (if q : t = r45 then (by rw [q, upA_at, cb_hit hk.1 hD, hg r45 (by omega) (by omega)]) else (by rw [upA_ne q, cb_miss hk.1 (by rw [hD]; omega)]; exact hg t q1 q2))) (by have hD := (dst_in (ld := A 11) rfl rfl hi45 (by rw [← hr45]; exact c82)).trans hr45.symm; rw [cb_miss hk.1 (by rw [hD]; omega)]; exact ho) (by omega)
              · refine j_iload_n C dX0_drift_85 rfl rfl ?_
                refine j_goto C (tgt := 91) dX0_drift_86 (by decide) ?_
                refine j_dup2 C dX0_drift_91 (fun _ => rfl) (fun _ => rfl) ?_
                refine j_iald C ((sC_28 hS)) (by omega) (by omega) (by decide) dX0_drift_92 ?_
                refine j_aload_n C dX0_drift_93 rfl rfl ?_
                refine j_getR C (j := (220 + b)) fl_X0_9 (hbO) rfl dX0_drift_94 ?_
                refine j_iload_n C dX0_drift_97 rfl rfl ?_
                refine j_iald C (hbR) (by omega) (by omega) (by decide) dX0_drift_98 ?_
                refine j_eq (st' := [aI (A (220 + b) k), aI (B 28 k), aI k, aR 28]) ?_ (e1 := by first | rfl | (simp only [List.cons.injEq, and_true]; exact congrArg aI (congrFun (hO _ (by omega)) _)))
                refine j_iadd C dX0_drift_99 ?_
                refine j_iast C ((sC_28 hS)) (by omega) (by omega) (by decide) dX0_drift_100 ?_
                refine j_iinc C (lv' := [some (aR (200 + b)), some (aR 1), some (aR 28), some (aI (k + 1)), some (aI r45)]) dX0_drift_101 rfl (by decide) rfl ?_
                refine j_goto C (tgt := 7) dX0_drift_104 (by decide) ?_
                refine j_lv (lv' := [some (aR (200 + b)), some (aR 1), some (aR 28), some (aI (k + 1)), none]) ?_ ⟨rfl, rfl, rfl, rfl, trivial⟩
                exact ih7 (k + 1) o ((upA B 28 k ((B 28 k) + (A (220 + b) k)))) (by omega) (fun i q => by rw [upA_other q]; exact hO i q) (fun t q1 q2 => by have hD := (dst_stay (ld := A 11) rfl rfl hi45 (by rw [← hr45]; exact c82)); exact (if q : t = k then (by rw [q, upA_at, cb_hit hk.1 hD, hg k (by omega) (by omega)]) else (by rw [upA_ne q, cb_miss hk.1 (by rw [hD]; omega)]; exact hg t q1 q2))) (by have hD := (dst_stay (ld := A 11) rfl rfl hi45 (by rw [← hr45]; exact c82)); rw [cb_miss hk.1 (by rw [hD]; omega)]; exact ho) (by omega)
            · exact absurd c53 (by omega)
  refine j_eq (F' := (upF F (200 + b) 3 (F (200 + b) 3))) ?_ (e3 := upF_self)
  exact K7 _ 0 (F (200 + b) 3) ((setRow A 28 0 280 (fun _ => 0))) (by omega) (fun i q => by rw [setRow_other q]) (fun t q1 q2 => by rw [setRow_in (by omega) (by omega)]; rfl) (by show _ = _ + (0 : Int); omega) (Nat.lt_succ_self _)

set_option maxHeartbeats 4000000 in
set_option maxRecDepth 100000 in
theorem c_give (l : Launch) (S : ab_St) (F : ab_Fn) (A : ab_An) (hS : ab_SC S) (b : Nat) (hb9 : b < 10) (hbO : S (200 + b) = some (sC 1 (slB (220 + b)))) (hbR : S (220 + b) = some (sA .int 280)) (sq e : Int) (h2 : 0 ≤ sq ∧ sq < 280) (hl : ∀ k, 0 ≤ k → k < 280 → A 11 k = 0 ∨ A 11 k = 1) : ab_Met l yX0_giveToSides cX0_giveToSides 7 (some .int) { frames := 1, cells := 0, slots := 0, locals := 21 } 0 0 [aR (200 + b), aR 1, aI sq, aI e] S F A (fun v S' F' A' => S = S' ∧ F = F' ∧ v = some (aI (sm (fun j => if sd (A 11) sq (dk j) = -1 then 0 else e) 4)) ∧ (∀ i, i ≠ 220 + b → A' i = A i) ∧ ∀ t, 0 ≤ t → t < 280 → A' (220 + b) t = A (220 + b) t + sm (fun j => if sd (A 11) sq (dk j) = t then e else 0) 4) := by
  refine ab_enter (by decide) (by simp [aI, aR, aX, ab_val, Value.category]) (Nat.le_of_ble_eq_true rfl) (fun E C hr => ?_)
  refine j_eq (lv' := [some (aR (200 + b)), some (aR 1), some (aI sq), some (aI e), none, none, none]) ?_
  refine j_iconst C dX0_giveToSides_0 ?_
  refine j_istore C (lv' := [some (aR (200 + b)), some (aR 1), some (aI sq), some (aI e), some (aI 0), none, none]) dX0_giveToSides_1 (by decide) rfl ?_
  refine j_iconst C dX0_giveToSides_3 ?_
  refine j_istore C (lv' := [some (aR (200 + b)), some (aR 1), some (aI sq), some (aI e), some (aI 0), some (aI 0), none]) dX0_giveToSides_4 (by decide) rfl ?_
  have K6 : ∀ (N : Nat) (g k : Int) (B : ab_An), (0 ≤ k ∧ k ≤ 4) → (∀ i, i ≠ 220 + b → B i = A i) → (g = sm (fun j => if sd (A 11) sq (dk j) = -1 then 0 else e) k.toNat) → (∀ t, 0 ≤ t → t < 280 → B (220 + b) t = A (220 + b) t + sm (fun j => if sd (A 11) sq (dk j) = t then e else 0) k.toNat) → ((4 - k).toNat) < N → ab_J E 7 0 0 S F B 6 [some (aR (200 + b)), some (aR 1), some (aI sq), some (aI e), some (aI g), some (aI k), none] [] := by
    intro N
    induction N with
    | zero => intro g k B hk hO hg hpp hm; exact absurd hm (Nat.not_lt_zero _)
    | succ N ih =>
      have ih6 := ih
      clear ih
      intro g k B hk hO hg hpp hm6
      refine j_iload C dX0_giveToSides_6 rfl ?_
      refine j_iconst C dX0_giveToSides_8 ?_
      refine j_icmp_ge C (tgt := 78) dX0_giveToSides_9 (by decide) ⟨by omega, by omega⟩ ⟨by omega, by omega⟩ (fun c9 => ?_) (fun c9 => ?_)
      · refine j_iload C dX0_giveToSides_78 rfl ?_
        exact j_iret C hr (Nat.le_refl _) (Nat.le_refl _) dX0_giveToSides_80 ⟨rfl, rfl, by rw [hg, show k = 4 by omega]; rfl, hO, fun t q1 q2 => by rw [hpp t q1 q2, show k = 4 by omega]; rfl⟩
      · refine j_iload_n C dX0_giveToSides_12 rfl rfl ?_
        refine j_bipush C dX0_giveToSides_13 rfl ?_
        refine j_irem C dX0_giveToSides_15 (by omega) (by omega) (by omega) (by omega) ?_
        refine j_getsN C 0 (by decide) rfl (lw_t3 (List.mem_of_getElem? (i := 229) rfl)) (lw_t1 (List.mem_of_getElem? (i := 1) rfl)) (lw_t3 (List.mem_of_getElem? (i := 228) rfl)) dX0_giveToSides_16 ?_
        refine j_iload C dX0_giveToSides_19 rfl ?_
        refine j_rdI C 0 (by decide) (by omega) (by show _ < (8 : Int); omega) dX0_giveToSides_21 ?_
        refine j_eq (st' := [aI (dk k % 3 - 1), aI (sq % 20)]) ?_ (e1 := by first | rfl | (simp only [List.cons.injEq, and_true]; exact congrArg aI (dk_x hk.1 (by omega))))
        refine j_iadd C dX0_giveToSides_22 ?_
        refine j_iload_n C dX0_giveToSides_23 rfl rfl ?_
        refine j_bipush C dX0_giveToSides_24 rfl ?_
        refine j_idiv C dX0_giveToSides_26 (by omega) (by omega) (by omega) (by omega) ?_
        refine j_getsN C 1 (by decide) rfl (lw_t3 (List.mem_of_getElem? (i := 231) rfl)) (lw_t1 (List.mem_of_getElem? (i := 1) rfl)) (lw_t3 (List.mem_of_getElem? (i := 230) rfl)) dX0_giveToSides_27 ?_
        refine j_iload C dX0_giveToSides_30 rfl ?_
        refine j_rdI C 1 (by decide) (by omega) (by show _ < (8 : Int); omega) dX0_giveToSides_32 ?_
        refine j_eq (st' := [aI (dk k / 3 - 1), aI (sq / 20), aI ((sq % 20) + (dk k % 3 - 1))]) ?_ (e1 := by first | rfl | (simp only [List.cons.injEq, and_true]; exact congrArg aI (dk_y hk.1 (by omega))))
        refine j_iadd C dX0_giveToSides_33 ?_
        have hd34 := dk_r hk.1 (show k < 8 by omega)
        refine j_callSN C (np := 2) (vs := [aI ((sq % 20) + (dk k % 3 - 1)), aI ((sq / 20) + (dk k / 3 - 1))]) (st := []) (ab_t3 (List.mem_of_getElem? (i := 219) rfl) rfl) (lw_t3 (List.mem_of_getElem? (i := 217) rfl)) (ab_t1 (List.mem_of_getElem? (i := 1) rfl) rfl) ⟨by decide +kernel, by decide +kernel⟩ (by decide +kernel) (ab_t3 (List.mem_of_getElem? (i := 218) rfl) rfl) (fun _ => (c_squareAt _ S F B hS _ _ ⟨by omega, by omega⟩ ⟨by omega, by omega⟩)) rfl ⟨rfl, rfl, by decide, by decide⟩ ⟨by decide, by decide⟩ (fun _ => Nat.le_of_ble_eq_true rfl) (fun v hv => by cases hv) (fun v hv => by simp only [List.mem_cons, List.not_mem_nil, or_false, Option.some.injEq, reduceCtorEq, false_or] at hv; rcases hv with rfl | rfl | rfl | rfl | rfl | rfl <;> first | exact (lS ((sC_1 hS))) | exact (lS (hbO)) | exact trivial) dX0_giveToSides_34 (fun v_34 S_34 F_34 A_34 hP_34 => ?_)
        obtain ⟨rfl, rfl, rfl, r34, rfl, ⟨rfl, hi34⟩ | ⟨hr34, hi34⟩⟩ := hP_34
        · have hi34 : ¬ (0 ≤ (sq % 20) + (dk k % 3 - 1) ∧ (sq % 20) + (dk k % 3 - 1) < 20 ∧ 0 ≤ (sq / 20) + (dk k / 3 - 1) ∧ (sq / 20) + (dk k / 3 - 1) < 14) := hi34
          show ab_J E 7 0 0 S F B 37 [some (aR (200 + b)), some (aR 1), some (aI sq), some (aI e), some (aI g), some (aI k), none] [aI (-1)]
          refine j_istore C (lv' := [some (aR (200 + b)), some (aR 1), some (aI sq), some (aI e), some (aI g), some (aI k), some (aI (-1))]) dX0_giveToSides_37 (by decide) rfl ?_
          refine j_iload C dX0_giveToSides_39 rfl ?_
          refine j_iconst C dX0_giveToSides_41 ?_
          refine j_icmp_eq C (tgt := 72) dX0_giveToSides_42 (by decide) ⟨by omega, by omega⟩ ⟨by omega, by omega⟩ (fun c42 => ?_) (fun c42 => ?_)
          · refine j_iinc C (lv' := [some (aR (200 + b)), some (aR 1), some (aI sq), some (aI e), some (aI g), some (aI (k + 1)), some (aI (-1))]) dX0_giveToSides_72 rfl (by decide) rfl ?_
            refine j_goto C (tgt := 6) dX0_giveToSides_75 (by decide) ?_
            refine j_lv (lv' := [some (aR (200 + b)), some (aR 1), some (aI sq), some (aI e), some (aI g), some (aI (k + 1)), none]) ?_ ⟨rfl, rfl, rfl, rfl, rfl, rfl, trivial⟩
            exact ih6 g (k + 1) B (by omega) hO (by have hs : sd (A 11) sq (dk k) = -1 := (sd_no (x := sq % 20 + (dk k % 3 - 1)) (y := sq / 20 + (dk k / 3 - 1)) (by omega) (by omega) (Or.inl hi34)); rw [sm_step _ hk.1, ← hg]; (try dsimp only); rw [if_pos hs]; omega) (fun t q1 q2 => by have hs : sd (A 11) sq (dk k) = -1 := (sd_no (x := sq % 20 + (dk k % 3 - 1)) (y := sq / 20 + (dk k / 3 - 1)) (by omega) (by omega) (Or.inl hi34)); rw [sm_step _ hk.1]; (try dsimp only); rw [if_neg (by omega), hpp t q1 q2]; omega) (by omega)
          · exact absurd c42 (by decide)
        · have hi34 : 0 ≤ (sq % 20) + (dk k % 3 - 1) ∧ (sq % 20) + (dk k % 3 - 1) < 20 ∧ 0 ≤ (sq / 20) + (dk k / 3 - 1) ∧ (sq / 20) + (dk k / 3 - 1) < 14 := hi34
          have hr34 : r34 = 20 * ((sq / 20) + (dk k / 3 - 1)) + ((sq % 20) + (dk k % 3 - 1)) := hr34
          show ab_J E 7 0 0 S F B 37 [some (aR (200 + b)), some (aR 1), some (aI sq), some (aI e), some (aI g), some (aI k), none] [aI r34]
          refine j_istore C (lv' := [some (aR (200 + b)), some (aR 1), some (aI sq), some (aI e), some (aI g), some (aI k), some (aI r34)]) dX0_giveToSides_37 (by decide) rfl ?_
          refine j_iload C dX0_giveToSides_39 rfl ?_
          refine j_iconst C dX0_giveToSides_41 ?_
          refine j_icmp_eq C (tgt := 72) dX0_giveToSides_42 (by decide) ⟨by omega, by omega⟩ ⟨by omega, by omega⟩ (fun c42 => ?_) (fun c42 => ?_)
          · exact absurd c42 (by omega)
          · refine j_aload_n C dX0_giveToSides_45 rfl rfl ?_
            refine j_getR C (j := 11) fl_X0_59 ((sC_1 hS)) rfl dX0_giveToSides_46 ?_
            refine j_iload C dX0_giveToSides_49 rfl ?_
            refine j_zald C ((sC_11 hS)) (by omega) (by omega) (by decide) dX0_giveToSides_51 ?_
            refine j_eq (st' := [aI (A 11 r34)]) ?_ (e1 := by first | rfl | (simp only [List.cons.injEq, and_true]; exact congrArg aI (congrFun (hO _ (by omega)) _)))
            have hl51 := hl r34 (by omega) (by omega)
            refine j_if_ne C (tgt := 72) dX0_giveToSides_52 (by decide) ⟨by omega, by omega⟩ (fun c52 => ?_) (fun c52 => ?_)
            · refine j_iinc C (lv' := [some (aR (200 + b)), some (aR 1), some (aI sq), some (aI e), some (aI g), some (aI (k + 1)), some (aI r34)]) dX0_giveToSides_72 rfl (by decide) rfl ?_
              refine j_goto C (tgt := 6) dX0_giveToSides_75 (by decide) ?_
              refine j_lv (lv' := [some (aR (200 + b)), some (aR 1), some (aI sq), some (aI e), some (aI g), some (aI (k + 1)), none]) ?_ ⟨rfl, rfl, rfl, rfl, rfl, rfl, trivial⟩
              exact ih6 g (k + 1) B (by omega) hO (by have hs : sd (A 11) sq (dk k) = -1 := (sd_no (x := sq % 20 + (dk k % 3 - 1)) (y := sq / 20 + (dk k / 3 - 1)) (by omega) (by omega) (Or.inr (by rw [← hr34]; exact c52))); rw [sm_step _ hk.1, ← hg]; (try dsimp only); rw [if_pos hs]; omega) (fun t q1 q2 => by have hs : sd (A 11) sq (dk k) = -1 := (sd_no (x := sq % 20 + (dk k % 3 - 1)) (y := sq / 20 + (dk k / 3 - 1)) (by omega) (by omega) (Or.inr (by rw [← hr34]; exact c52))); rw [sm_step _ hk.1]; (try dsimp only); rw [if_neg (by omega), hpp t q1 q2]; omega) (by omega)
            · refine j_aload_n C dX0_giveToSides_55 rfl rfl ?_
              refine j_getR C (j := (220 + b)) fl_X0_9 (hbO) rfl dX0_giveToSides_56 ?_
              refine j_iload C dX0_giveToSides_59 rfl ?_
              refine j_dup2 C dX0_giveToSides_61 (fun _ => rfl) (fun _ => rfl) ?_
              refine j_iald C (hbR) (by omega) (by omega) (by decide) dX0_giveToSides_62 ?_
              refine j_iload_n C dX0_giveToSides_63 rfl rfl ?_
              refine j_iadd C dX0_giveToSides_64 ?_
              refine j_iast C (hbR) (by omega) (by omega) (by decide) dX0_giveToSides_65 ?_
              refine j_iload C dX0_giveToSides_66 rfl ?_
              refine j_iload_n C dX0_giveToSides_68 rfl rfl ?_
              refine j_iadd C dX0_giveToSides_69 ?_
              refine j_istore C (lv' := [some (aR (200 + b)), some (aR 1), some (aI sq), some (aI e), some (aI (g + e)), some (aI k), some (aI r34)]) dX0_giveToSides_70 (by decide) rfl ?_
              refine j_iinc C (lv' := [some (aR (200 + b)), some (aR 1), some (aI sq), some (aI e), some (aI (g + e)), some (aI (k + 1)), some (aI r34)]) dX0_giveToSides_72 rfl (by decide) rfl ?_
              refine j_goto C (tgt := 6) dX0_giveToSides_75 (by decide) ?_
              refine j_lv (lv' := [some (aR (200 + b)), some (aR 1), some (aI sq), some (aI e), some (aI (g + e)), some (aI (k + 1)), none]) ?_ ⟨rfl, rfl, rfl, rfl, rfl, rfl, trivial⟩
              exact ih6 (g + e) (k + 1) ((upA B (220 + b) r34 ((B (220 + b) r34) + e))) (by omega) (fun i q => by rw [upA_other q]; exact hO i q) (by have hs := ((sd_at (ld := A 11) (k := sq) (d := dk k) (x := sq % 20 + (dk k % 3 - 1)) (y := sq / 20 + (dk k / 3 - 1)) (by omega) (by omega) hi34 (by rw [← hr34]; exact c52)).trans hr34.symm); rw [sm_step _ hk.1, ← hg]; (try dsimp only); rw [if_neg (by omega)]) (fun t q1 q2 => by have hs := ((sd_at (ld := A 11) (k := sq) (d := dk k) (x := sq % 20 + (dk k % 3 - 1)) (y := sq / 20 + (dk k / 3 - 1)) (by omega) (by omega) hi34 (by rw [← hr34]; exact c52)).trans hr34.symm); rw [sm_step _ hk.1]; (try dsimp only); exact (if q : t = r34 then (by rw [if_pos (by omega), q, upA_at, hpp r34 (by omega) (by omega)]; omega) else (by rw [if_neg (by omega), upA_ne q, hpp t q1 q2]; omega))) (by omega)
  exact K6 _ 0 0 A (by omega) (fun _ _ => rfl) rfl (fun t q1 q2 => by show _ = _ + (0 : Int); omega) (Nat.lt_succ_self _)

set_option maxHeartbeats 4000000 in
set_option maxRecDepth 100000 in
theorem c_spread (l : Launch) (S : ab_St) (F : ab_Fn) (A : ab_An) (hS : ab_SC S) (b : Nat) (hb9 : b < 10) (hbO : S (200 + b) = some (sC 1 (slB (220 + b)))) (hbR : S (220 + b) = some (sA .int 280)) (hl : ∀ k, 0 ≤ k → k < 280 → A 11 k = 0 ∨ A 11 k = 1) (hp : ∀ k, 0 ≤ k → k < 280 → 0 ≤ A 28 k ∧ A 28 k ≤ 1000000) : ab_Met l yX0_spread cX0_spread 4 none { frames := 2, cells := 0, slots := 0, locals := 47 } 0 0 [aR (200 + b), aR 1, aR 28] S F A (fun v S' F' A' => S = S' ∧ F = F' ∧ v = none ∧ (∀ i, i ≠ 220 + b → A' i = A i) ∧ ∀ t, 0 ≤ t → t < 280 → A' (220 + b) t = spT (A 11) (A 28) t) := by
  refine ab_enter (by decide) (by simp [aI, aR, aX, ab_val, Value.category]) (Nat.le_of_ble_eq_true rfl) (fun E C hr => ?_)
  refine j_eq (lv' := [some (aR (200 + b)), some (aR 1), some (aR 28), none]) ?_
  refine j_aload_n C dX0_spread_0 rfl rfl ?_
  refine j_getR C (j := (220 + b)) fl_X0_9 (hbO) rfl dX0_spread_1 ?_
  refine j_iconst C dX0_spread_4 ?_
  refine j_callS C (vs := [aR (220 + b), aI 0]) (st := []) cl_X0_29 sc_yJ7_fill_53178 (fun _ => (t_fill _ S F A _ _ _ (hbR) (by decide))) rfl ⟨rfl, rfl, by decide, by decide⟩ ⟨by decide, by decide⟩ (fun _ => Nat.le_of_ble_eq_true rfl) (fun v hv => by cases hv) (fun v hv => by simp only [List.mem_cons, List.not_mem_nil, or_false, Option.some.injEq, reduceCtorEq, false_or] at hv; rcases hv with rfl | rfl | rfl <;> first | exact (lS ((sC_1 hS))) | exact (lS ((sC_28 hS))) | exact (lS (hbO))) dX0_spread_5 (fun v_5 S_5 F_5 A_5 hP_5 => ?_)
  obtain ⟨rfl, rfl, rfl, rfl⟩ := hP_5
  show ab_J E 4 0 0 S F (setRow A (220 + b) 0 280 (fun _ => 0)) 8 [some (aR (200 + b)), some (aR 1), some (aR 28), none] []
  refine j_iconst C dX0_spread_8 ?_
  refine j_istore_n C (lv' := [some (aR (200 + b)), some (aR 1), some (aR 28), some (aI 0)]) dX0_spread_9 rfl (by decide) rfl ?_
  have K10 : ∀ (N : Nat) (k : Int) (B : ab_An), (0 ≤ k ∧ k ≤ 280) → (∀ i, i ≠ 220 + b → B i = A i) → (∀ t, 0 ≤ t → t < 280 → B (220 + b) t = sm (spc (A 11) (A 28) t) k.toNat) → ((280 - k).toNat) < N → ab_J E 4 0 0 S F B 10 [some (aR (200 + b)), some (aR 1), some (aR 28), some (aI k)] [] := by
    intro N
    induction N with
    | zero => intro k B hk hO hg hm; exact absurd hm (Nat.not_lt_zero _)
    | succ N ih =>
      have ih10 := ih
      clear ih
      intro k B hk hO hg hm10
      refine j_iload_n C dX0_spread_10 rfl rfl ?_
      refine j_sipush C dX0_spread_11 rfl ?_
      refine j_icmp_ge C (tgt := 54) dX0_spread_14 (by decide) ⟨by omega, by omega⟩ ⟨by omega, by omega⟩ (fun c14 => ?_) (fun c14 => ?_)
      · exact j_vret C hr (Nat.le_refl _) (Nat.le_refl _) dX0_spread_54 ⟨rfl, rfl, rfl, hO, fun t q1 q2 => by rw [hg t q1 q2, show k = 280 by omega]; exact spc_all q1 q2⟩
      · refine j_aload_n C dX0_spread_17 rfl rfl ?_
        refine j_iload_n C dX0_spread_18 rfl rfl ?_
        refine j_iald C ((sC_28 hS)) (by omega) (by omega) (by decide) dX0_spread_19 ?_
        refine j_eq (st' := [aI (A 28 k)]) ?_ (e1 := by first | rfl | (simp only [List.cons.injEq, and_true]; exact congrArg aI (congrFun (hO _ (by omega)) _)))
        have hp19 := hp k (by omega) (by omega)
        refine j_if_le C (tgt := 48) dX0_spread_20 (by decide) ⟨by omega, by omega⟩ (fun c20 => ?_) (fun c20 => ?_)
        · refine j_iinc C (lv' := [some (aR (200 + b)), some (aR 1), some (aR 28), some (aI (k + 1))]) dX0_spread_48 rfl (by decide) rfl ?_
          refine j_goto C (tgt := 10) dX0_spread_51 (by decide) ?_
          exact ih10 (k + 1) B (by omega) hO (fun t q1 q2 => by rw [sm_step _ hk.1, spc_0 (by have := hp k (by omega) (by omega); omega), hg t q1 q2]; omega) (by omega)
        · refine j_aload_n C dX0_spread_23 rfl rfl ?_
          refine j_getR C (j := (220 + b)) fl_X0_9 (hbO) rfl dX0_spread_24 ?_
          refine j_iload_n C dX0_spread_27 rfl rfl ?_
          refine j_dup2 C dX0_spread_28 (fun _ => rfl) (fun _ => rfl) ?_
          refine j_iald C (hbR) (by omega) (by omega) (by decide) dX0_spread_29 ?_
          refine j_aload_n C dX0_spread_30 rfl rfl ?_
          refine j_iload_n C dX0_spread_31 rfl rfl ?_
          refine j_iald C ((sC_28 hS)) (by omega) (by omega) (by decide) dX0_spread_32 ?_
          refine j_eq (st' := [aI (A 28 k), aI (B (220 + b) k), aI k, aR (220 + b)]) ?_ (e1 := by first | rfl | (simp only [List.cons.injEq, and_true]; exact congrArg aI (congrFun (hO _ (by omega)) _)))
          refine j_aload_n C dX0_spread_33 rfl rfl ?_
          refine j_aload_n C dX0_spread_34 rfl rfl ?_
          refine j_iload_n C dX0_spread_35 rfl rfl ?_
          refine j_aload_n C dX0_spread_36 rfl rfl ?_
          refine j_iload_n C dX0_spread_37 rfl rfl ?_
          refine j_iald C ((sC_28 hS)) (by omega) (by omega) (by decide) dX0_spread_38 ?_
          refine j_eq (st' := [aI (A 28 k), aI k, aR 1, aR (200 + b), aI (A 28 k), aI (B (220 + b) k), aI k, aR (220 + b)]) ?_ (e1 := by first | rfl | (simp only [List.cons.injEq, and_true]; exact congrArg aI (congrFun (hO _ (by omega)) _)))
          refine j_bipush C dX0_spread_39 rfl ?_
          refine j_idiv C dX0_spread_41 (by omega) (by omega) (by omega) (by omega) ?_
          refine j_callV C (vs := [aR 1, aI k, aI ((A 28 k) / 8)]) (st := [aI (A 28 k), aI (B (220 + b) k), aI k, aR (220 + b)]) cl_X0_63 im_yX0_giveToSides se_yX0_giveToSides (fun _ => (c_give _ S F B hS b (by omega) (hbO) (hbR) _ _ (by omega) (by rw [hO 11 (by omega)]; exact hl))) (hbO) rfl rfl rfl ⟨rfl, rfl, by decide, by decide⟩ ⟨by decide, by decide⟩ (fun _ => Nat.le_of_ble_eq_true rfl) (fun v hv => by simp only [List.mem_cons, List.not_mem_nil, or_false] at hv; rcases hv with rfl | rfl | rfl | rfl <;> first | exact (lS (hbR)) | exact trivial) (fun v hv => by simp only [List.mem_cons, List.not_mem_nil, or_false, Option.some.injEq, reduceCtorEq, false_or] at hv; rcases hv with rfl | rfl | rfl | rfl <;> first | exact (lS ((sC_1 hS))) | exact (lS ((sC_28 hS))) | exact (lS (hbO)) | exact trivial) dX0_spread_42 (fun v_42 S_42 F_42 A_42 hP_42 => ?_)
          obtain ⟨rfl, rfl, rfl, hO42, hp42⟩ := hP_42
          show ab_J E 4 0 0 S F A_42 45 [some (aR (200 + b)), some (aR 1), some (aR 28), some (aI k)] [aI (sm (fun j => if sd (B 11) k (dk j) = -1 then 0 else (A 28 k) / 8) 4), aI (A 28 k), aI (B (220 + b) k), aI k, aR (220 + b)]
          refine j_isub C dX0_spread_45 ?_
          refine j_iadd C dX0_spread_46 ?_
          refine j_iast C (hbR) (by omega) (by omega) (by decide) dX0_spread_47 ?_
          refine j_iinc C (lv' := [some (aR (200 + b)), some (aR 1), some (aR 28), some (aI (k + 1))]) dX0_spread_48 rfl (by decide) rfl ?_
          refine j_goto C (tgt := 10) dX0_spread_51 (by decide) ?_
          exact ih10 (k + 1) ((upA A_42 (220 + b) k ((B (220 + b) k) + ((A 28 k) - (sm (fun j => if sd (B 11) k (dk j) = -1 then 0 else (A 28 k) / 8) 4))))) (by omega) (fun i q => by rw [upA_other q, hO42 i q]; exact hO i q) (fun t q1 q2 => by
      rw [sm_step _ hk.1]
      exact (if q : t = k then (by rw [q, upA_at, hg k (by omega) (by omega)]; unfold spc; rw [if_pos rfl, sp_k (by omega) (by omega), hO 11 (by omega)]; omega) else (by rw [upA_ne q, hp42 t q1 q2, hg t q1 q2]; unfold spc; rw [if_neg q, sp_t (fun z => q z.symm), hO 11 (by omega)]; omega))) (by omega)
  exact K10 _ 0 ((setRow A (220 + b) 0 280 (fun _ => 0))) (by omega) (fun i q => by rw [setRow_other q]) (fun t q1 q2 => by rw [setRow_in (by omega) (by omega)]; rfl) (Nat.lt_succ_self _)

set_option maxHeartbeats 4000000 in
set_option maxRecDepth 100000 in
theorem c_melt (l : Launch) (S : ab_St) (F : ab_Fn) (A : ab_An) (hS : ab_SC S) (b : Nat) (hb9 : b < 10) (hbO : S (200 + b) = some (sC 1 (slB (220 + b)))) (hbR : S (220 + b) = some (sA .int 280)) (hw : ∀ k, 0 ≤ k → k < 280 → 0 ≤ A 14 k ∧ A 14 k ≤ 50) (hp : ∀ k, 0 ≤ k → k < 280 → inR (A (220 + b) k)) (hs : -50 ≤ F (200 + b) 1 ∧ F (200 + b) 1 ≤ 1000) : ab_Met l yX0_melt cX0_melt 4 none { frames := 1, cells := 0, slots := 0, locals := 23 } 0 0 [aR (200 + b), aR 1] S F A (fun v S' F' A' => S = S' ∧ v = none ∧ ∃ m : Int, m = mw (A 14) (A (220 + b)) 280 ∧ ((m = 1000000 ∧ F' = upF F (200 + b) 4 1 ∧ A' = A) ∨ (m ≤ 50 ∧ F (200 + b) 1 - m ≤ 0 ∧ F' = upF (upF F (200 + b) 1 (F (200 + b) 1 - m)) (200 + b) 4 1 ∧ A' = setRow A (220 + b) 0 280 (fun _ => 0)) ∨ (m ≤ 50 ∧ 0 < F (200 + b) 1 - m ∧ F' = upF F (200 + b) 1 (F (200 + b) 1 - m) ∧ A' = A))) := by
  refine ab_enter (by decide) (by simp [aI, aR, aX, ab_val, Value.category]) (Nat.le_of_ble_eq_true rfl) (fun E C hr => ?_)
  refine j_eq (lv' := [some (aR (200 + b)), some (aR 1), none, none]) ?_
  have hr9 : ∀ n : Nat, n ≤ 280 → 0 ≤ mw (A 14) (A (220 + b)) n ∧ (mw (A 14) (A (220 + b)) n = 1000000 ∨ mw (A 14) (A (220 + b)) n ≤ 50) := fun n hn => mw_rng (fun k a c => hw k a (by omega))
  refine j_iconst C dX0_melt_0 ?_
  refine j_istore_n C (lv' := [some (aR (200 + b)), some (aR 1), some (aI ((-1))), none]) dX0_melt_1 rfl (by decide) rfl ?_
  refine j_iconst C dX0_melt_2 ?_
  refine j_istore_n C (lv' := [some (aR (200 + b)), some (aR 1), some (aI ((-1))), some (aI 0)]) dX0_melt_3 rfl (by decide) rfl ?_
  have K4 : ∀ (N : Nat) (m k : Int), (0 ≤ k ∧ k ≤ 280) → ((m = -1 ∧ mw (A 14) (A (220 + b)) k.toNat = 1000000) ∨ (0 ≤ m ∧ m ≤ 50 ∧ m = mw (A 14) (A (220 + b)) k.toNat)) → ((280 - k).toNat) < N → ab_J E 4 0 0 S F A 4 [some (aR (200 + b)), some (aR 1), some (aI m), some (aI k)] [] := by
    intro N
    induction N with
    | zero => intro m k hk hm0 hm; exact absurd hm (Nat.not_lt_zero _)
    | succ N ih =>
      have ih4 := ih
      clear ih
      intro m k hk hm0 hm4
      refine j_iload_n C dX0_melt_4 rfl rfl ?_
      refine j_sipush C dX0_melt_5 rfl ?_
      refine j_icmp_ge C (tgt := 48) dX0_melt_8 (by decide) ⟨by omega, by omega⟩ ⟨by omega, by omega⟩ (fun c8 => ?_) (fun c8 => ?_)
      · have e280 : k.toNat = 280 := by omega
        rw [e280] at hm0
        refine j_iload_n C dX0_melt_48 rfl rfl ?_
        refine j_iconst C dX0_melt_49 ?_
        refine j_icmp_ne C (tgt := 59) dX0_melt_50 (by decide) ⟨by omega, by omega⟩ ⟨by omega, by omega⟩ (fun c50 => ?_) (fun c50 => ?_)
        · refine j_aload_n C dX0_melt_59 rfl rfl ?_
          refine j_dup C dX0_melt_60 (fun _ => rfl) ?_
          refine j_get C (aI (F (200 + b) 1)) fl_X0_15 (hbO) (fun _ => rfl) dX0_melt_61 ?_
          refine j_iload_n C dX0_melt_64 rfl rfl ?_
          refine j_isub C dX0_melt_65 ?_
          refine j_putI C fp_X0_15 (hbO) rfl dX0_melt_66 ?_
          refine j_aload_n C dX0_melt_69 rfl rfl ?_
          refine j_get C (aI ((F (200 + b) 1) - m)) fl_X0_15 (hbO) (fun _ => congrArg (fun z => Value.int (Int32.ofInt z)) (upF_at _ _ _ _)) dX0_melt_70 ?_
          refine j_if_gt C (tgt := 89) dX0_melt_73 (by decide) ⟨by omega, by omega⟩ (fun c73 => ?_) (fun c73 => ?_)
          · exact j_vret C hr (Nat.le_refl _) (Nat.le_refl _) dX0_melt_89 ⟨rfl, rfl, m, by omega, (by first | exact Or.inr (Or.inr ⟨by omega, by omega, rfl, rfl⟩) | exact Or.inr (Or.inl ⟨by omega, by omega, rfl, rfl⟩))⟩
          · refine j_aload_n C dX0_melt_76 rfl rfl ?_
            refine j_iconst C dX0_melt_77 ?_
            refine j_putZ C fp_X0_25 (hbO) rfl (by omega) dX0_melt_78 ?_
            refine j_aload_n C dX0_melt_81 rfl rfl ?_
            refine j_getR C (j := (220 + b)) fl_X0_9 (hbO) rfl dX0_melt_82 ?_
            refine j_iconst C dX0_melt_85 ?_
            refine j_callS C (vs := [aR (220 + b), aI 0]) (st := []) cl_X0_29 sc_yJ7_fill_53178 (fun _ => (t_fill _ S (upF (upF F (200 + b) 1 ((F (200 + b) 1) - m)) (200 + b) 4 1) A _ _ _ (hbR) (by decide))) rfl ⟨rfl, rfl, by decide, by decide⟩ ⟨by decide, by decide⟩ (fun _ => Nat.le_of_ble_eq_true rfl) (fun v hv => by cases hv) (fun v hv => by simp only [List.mem_cons, List.not_mem_nil, or_false, Option.some.injEq, reduceCtorEq, false_or] at hv; rcases hv with rfl | rfl | rfl | rfl <;> first | exact (lS ((sC_1 hS))) | exact (lS (hbO)) | exact trivial) dX0_melt_86 (fun v_86 S_86 F_86 A_86 hP_86 => ?_)
            obtain ⟨rfl, rfl, rfl, rfl⟩ := hP_86
            show ab_J E 4 0 0 S (upF (upF F (200 + b) 1 ((F (200 + b) 1) - m)) (200 + b) 4 1) (setRow A (220 + b) 0 280 (fun _ => 0)) 89 [some (aR (200 + b)), some (aR 1), some (aI m), some (aI k)] []
            exact j_vret C hr (Nat.le_refl _) (Nat.le_refl _) dX0_melt_89 ⟨rfl, rfl, m, by omega, (by first | exact Or.inr (Or.inr ⟨by omega, by omega, rfl, rfl⟩) | exact Or.inr (Or.inl ⟨by omega, by omega, rfl, rfl⟩))⟩
        · refine j_aload_n C dX0_melt_53 rfl rfl ?_
          refine j_iconst C dX0_melt_54 ?_
          refine j_putZ C fp_X0_25 (hbO) rfl (by omega) dX0_melt_55 ?_
          exact j_vret C hr (Nat.le_refl _) (Nat.le_refl _) dX0_melt_58 ⟨rfl, rfl, _, rfl, Or.inl ⟨by omega, rfl, rfl⟩⟩
      · refine j_aload_n C dX0_melt_11 rfl rfl ?_
        refine j_getR C (j := (220 + b)) fl_X0_9 (hbO) rfl dX0_melt_12 ?_
        refine j_iload_n C dX0_melt_15 rfl rfl ?_
        refine j_iald C (hbR) (by omega) (by omega) (by decide) dX0_melt_16 ?_
        refine j_if_le C (tgt := 42) dX0_melt_17 (by decide) (hp k (by omega) (by omega)) (fun c17 => ?_) (fun c17 => ?_)
        · refine j_iinc C (lv' := [some (aR (200 + b)), some (aR 1), some (aI m), some (aI (k + 1))]) dX0_melt_42 rfl (by decide) rfl ?_
          refine j_goto C (tgt := 4) dX0_melt_45 (by decide) ?_
          exact ih4 m (k + 1) (by omega) (by rw [mw_step hk.1, if_neg (by omega)]; exact hm0) (by omega)
        · have hw20 := hw k (by omega) (by omega)
          refine j_iload_n C dX0_melt_20 rfl rfl ?_
          refine j_iconst C dX0_melt_21 ?_
          refine j_icmp_eq C (tgt := 35) dX0_melt_22 (by decide) ⟨by omega, by omega⟩ ⟨by omega, by omega⟩ (fun c22 => ?_) (fun c22 => ?_)
          · refine j_aload_n C dX0_melt_35 rfl rfl ?_
            refine j_getR C (j := 14) fl_X0_73 ((sC_1 hS)) rfl dX0_melt_36 ?_
            refine j_iload_n C dX0_melt_39 rfl rfl ?_
            refine j_iald C ((sC_14 hS)) (by omega) (by omega) (by decide) dX0_melt_40 ?_
            refine j_istore_n C (lv' := [some (aR (200 + b)), some (aR 1), some (aI (A 14 k)), some (aI k)]) dX0_melt_41 rfl (by decide) rfl ?_
            refine j_iinc C (lv' := [some (aR (200 + b)), some (aR 1), some (aI (A 14 k)), some (aI (k + 1))]) dX0_melt_42 rfl (by decide) rfl ?_
            refine j_goto C (tgt := 4) dX0_melt_45 (by decide) ?_
            exact ih4 (A 14 k) (k + 1) (by omega) (by rw [mw_step hk.1, if_pos (by omega)]; omega) (by omega)
          · refine j_aload_n C dX0_melt_25 rfl rfl ?_
            refine j_getR C (j := 14) fl_X0_73 ((sC_1 hS)) rfl dX0_melt_26 ?_
            refine j_iload_n C dX0_melt_29 rfl rfl ?_
            refine j_iald C ((sC_14 hS)) (by omega) (by omega) (by decide) dX0_melt_30 ?_
            refine j_iload_n C dX0_melt_31 rfl rfl ?_
            refine j_icmp_ge C (tgt := 42) dX0_melt_32 (by decide) ⟨by omega, by omega⟩ ⟨by omega, by omega⟩ (fun c32 => ?_) (fun c32 => ?_)
            · refine j_iinc C (lv' := [some (aR (200 + b)), some (aR 1), some (aI m), some (aI (k + 1))]) dX0_melt_42 rfl (by decide) rfl ?_
              refine j_goto C (tgt := 4) dX0_melt_45 (by decide) ?_
              exact ih4 m (k + 1) (by omega) (by rw [mw_step hk.1, if_pos (by omega)]; omega) (by omega)
            · refine j_aload_n C dX0_melt_35 rfl rfl ?_
              refine j_getR C (j := 14) fl_X0_73 ((sC_1 hS)) rfl dX0_melt_36 ?_
              refine j_iload_n C dX0_melt_39 rfl rfl ?_
              refine j_iald C ((sC_14 hS)) (by omega) (by omega) (by decide) dX0_melt_40 ?_
              refine j_istore_n C (lv' := [some (aR (200 + b)), some (aR 1), some (aI (A 14 k)), some (aI k)]) dX0_melt_41 rfl (by decide) rfl ?_
              refine j_iinc C (lv' := [some (aR (200 + b)), some (aR 1), some (aI (A 14 k)), some (aI (k + 1))]) dX0_melt_42 rfl (by decide) rfl ?_
              refine j_goto C (tgt := 4) dX0_melt_45 (by decide) ?_
              exact ih4 (A 14 k) (k + 1) (by omega) (by rw [mw_step hk.1, if_pos (by omega)]; omega) (by omega)
  exact K4 _ ((-1)) 0 (by omega) (Or.inl ⟨rfl, rfl⟩) (Nat.lt_succ_self _)
