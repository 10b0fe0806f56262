theorem BC_h2 {A A1 : ab_An} {b : Nat} {u : bst} (hC : ∀ k, 0 ≤ k → k < 280 → A (220 + b) k = u.1 k) (hW : BW u) (g1 : ∀ t, 0 ≤ t → t < 280 → A1 28 t = drT (A 11) (A 12) (A 13) (A (220 + b)) t) : (∀ k, 0 ≤ k → k < 280 → A1 28 k = drT (A 11) (A 12) (A 13) u.1 k) ∧ (∀ k, 0 ≤ k → k < 280 → 0 ≤ A1 28 k ∧ A1 28 k ≤ 1000000) := by
  have h1 : ∀ k, 0 ≤ k → k < 280 → A1 28 k = drT (A 11) (A 12) (A 13) u.1 k := fun k a c => by rw [g1 k a c]; exact drT_cong hC k
  exact ⟨h1, fun k a c => by rw [h1 k a c]; exact (bs1_dr hW).1 k a c⟩
theorem BC_h3 {A A1 A2 : ab_An} {b : Nat} {u : bst} (hW : BW u) (h1 : ∀ k, 0 ≤ k → k < 280 → A1 28 k = drT (A 11) (A 12) (A 13) u.1 k) (o1 : A1 11 = A 11) (g2 : ∀ t, 0 ≤ t → t < 280 → A2 (220 + b) t = spT (A1 11) (A1 28) t) : (∀ k, 0 ≤ k → k < 280 → A2 (220 + b) k = spT (A 11) (drT (A 11) (A 12) (A 13) u.1) k) ∧ (∀ k, 0 ≤ k → k < 280 → 0 ≤ A2 (220 + b) k ∧ A2 (220 + b) k ≤ 1000000) ∧ ∀ k, 0 ≤ k → k < 280 → inR (A2 (220 + b) k) := by
  have h2 : ∀ k, 0 ≤ k → k < 280 → A2 (220 + b) k = spT (A 11) (drT (A 11) (A 12) (A 13) u.1) k := fun k a c => by rw [g2 k a c, o1]; exact spT_cong h1 a c
  have h3 : ∀ k, 0 ≤ k → k < 280 → 0 ≤ A2 (220 + b) k ∧ A2 (220 + b) k ≤ 1000000 := fun k a c => by rw [h2 k a c]; exact (bs1_sp (ld := A 11) (ac := A 12) (up := A 13) hW).1 k a c
  exact ⟨h2, h3, fun k a c => ⟨by have := h3 k a c; omega, by have := h3 k a c; omega⟩⟩
theorem BC_step {F F1 F3 : ab_Fn} {A A2 A3 : ab_An} {b : Nat} {u : bst} {m : Int} (hC : BC F A b u) (hW : BW u) (hg : u.2.2.2.2 = 0) (hw : ∀ k, 0 ≤ k → k < 280 → 0 ≤ A 14 k ∧ A 14 k ≤ 50)
    (e1 : F1 = upF F (200 + b) 3 (F (200 + b) 3 + drT (A 11) (A 12) (A 13) (A (220 + b)) (-1)))
    (h2 : ∀ k, 0 ≤ k → k < 280 → A2 (220 + b) k = spT (A 11) (drT (A 11) (A 12) (A 13) u.1) k) (h14 : A2 14 = A 14) (hm : m = mw (A2 14) (A2 (220 + b)) 280)
    (e3 : (m = 1000000 ∧ F3 = upF F1 (200 + b) 4 1 ∧ A3 = A2) ∨ (m ≤ 50 ∧ F1 (200 + b) 1 - m ≤ 0 ∧ F3 = upF (upF F1 (200 + b) 1 (F1 (200 + b) 1 - m)) (200 + b) 4 1 ∧ A3 = setRow A2 (220 + b) 0 280 (fun _ => 0)) ∨ (m ≤ 50 ∧ 0 < F1 (200 + b) 1 - m ∧ F3 = upF F1 (200 + b) 1 (F1 (200 + b) 1 - m) ∧ A3 = A2)) :
    BC (upF F3 (200 + b) 2 (F3 (200 + b) 2 + 1)) A3 b (bs1 (A 11) (A 12) (A 13) (A 14) u) ∧ (∀ i, i ≠ 220 + b → A3 i = A2 i) ∧ ∀ i, i ≠ 200 + b → upF F3 (200 + b) 2 (F3 (200 + b) 2 + 1) i = F i := by
  obtain ⟨c0, c1, c2, c3, c4⟩ := hC
  have hmm : m = bsM (A 11) (A 12) (A 13) (A 14) u := by
    rw [hm, h14]; exact mw_cong (n := 280) (fun k a c => h2 k a (by omega))
  have f1 : F1 (200 + b) 1 = u.2.1 := by rw [e1, upF_ne (by decide)]; exact c1
  have f2 : F1 (200 + b) 2 = u.2.2.1 := by rw [e1, upF_ne (by decide)]; exact c2
  have f3 : F1 (200 + b) 3 = u.2.2.2.1 + drT (A 11) (A 12) (A 13) u.1 (-1) := by rw [e1, upF_at, c3, drT_cong c0]
  have f4 : F1 (200 + b) 4 = 0 := by rw [e1, upF_ne (by decide)]; exact c4.trans hg
  have fo : ∀ i, i ≠ 200 + b → F1 i = F i := fun i q => by rw [e1, upF_o q]
  have hSd : bsS (A 11) (A 12) (A 13) (A 14) u = if bsM (A 11) (A 12) (A 13) (A 14) u = 1000000 then u.2.1 else u.2.1 - bsM (A 11) (A 12) (A 13) (A 14) u := rfl
  have hz : m = 1000000 → ∀ k, 0 ≤ k → k < 280 → A2 (220 + b) k = 0 := fun e k a c => by
    have q := (mw_far (w := A2 14) (p := A2 (220 + b)) (n := 280) (fun k a c => by rw [h14]; exact hw k a (by omega))).mp (by rw [← hm]; exact e) k a (by omega)
    have q2 := (bs1_sp (ld := A 11) (ac := A 12) (up := A 13) hW).1 k a c
    rw [← h2 k a c] at q2
    omega
  rw [f1] at e3
  unfold bs1
  rw [if_neg (by omega)]
  rw [← hmm] at hSd ⊢
  generalize bsS (A 11) (A 12) (A 13) (A 14) u = sS at hSd ⊢
  rcases e3 with ⟨q1, e3, e4⟩ | ⟨q1, q2, e3, e4⟩ | ⟨q1, q2, e3, e4⟩
  · have hS : sS = u.2.1 := by rw [hSd, if_pos q1]
    have hd : m = 1000000 ∨ sS ≤ 0 := Or.inl q1
    refine ⟨⟨fun k a c => ?_, ?_, ?_, ?_, ?_⟩, fun i q => by rw [e4], fun i q => ?_⟩
    · rw [e4, hz q1 k a c]; simp [hd]
    · rw [upF_ne (by decide), e3, upF_ne (by decide), f1]; exact hS.symm
    · rw [upF_at, e3, upF_ne (by decide), f2]
    · rw [upF_ne (by decide), e3, upF_ne (by decide), f3]
    · rw [upF_ne (by decide), e3, upF_at]; simp [hd]
    · rw [upF_o q, e3, upF_o q, fo i q]
  · have hS : sS = u.2.1 - m := by rw [hSd, if_neg (by omega)]
    have hd : m = 1000000 ∨ sS ≤ 0 := Or.inr (by omega)
    refine ⟨⟨fun k a c => ?_, ?_, ?_, ?_, ?_⟩, fun i q => by rw [e4, setRow_other q], fun i q => ?_⟩
    · rw [e4, setRow_in (by omega) (by omega)]; simp [hd]
    · rw [upF_ne (by decide), e3, upF_ne (by decide), upF_at]; exact hS.symm
    · rw [upF_at, e3, upF_ne (by decide), upF_ne (by decide), f2]
    · rw [upF_ne (by decide), e3, upF_ne (by decide), upF_ne (by decide), f3]
    · rw [upF_ne (by decide), e3, upF_at]; simp [hd]
    · rw [upF_o q, e3, upF_o q, upF_o q, fo i q]
  · have hS : sS = u.2.1 - m := by rw [hSd, if_neg (by omega)]
    have hd : ¬ (m = 1000000 ∨ sS ≤ 0) := by omega
    refine ⟨⟨fun k a c => ?_, ?_, ?_, ?_, ?_⟩, fun i q => by rw [e4], fun i q => ?_⟩
    · rw [e4, h2 k a c]; simp only [if_neg hd]
    · rw [upF_ne (by decide), e3, upF_at]; exact hS.symm
    · rw [upF_at, e3, upF_ne (by decide), f2]
    · rw [upF_ne (by decide), e3, upF_ne (by decide), f3]
    · rw [upF_ne (by decide), e3, upF_ne (by decide), f4]; simp only [if_neg hd]
    · rw [upF_o q, e3, upF_o q, fo i q]
theorem BC_look {F : ab_Fn} {A : ab_An} {b : Nat} {sq sh v : Int} {u : bst} (hC : BC F A b u) (hW : BW u) (h1 : 0 ≤ sq ∧ sq ≤ 279) (h2 : 0 ≤ sh ∧ sh ≤ 100) (hg : u.2.2.2.2 = 0) (hv : v = awy sq sh u) :
    (sm (upA A (220 + b) sq (A (220 + b) sq - v) (220 + b)) 280 = 0 → BC (upF F (200 + b) 4 1) (upA A (220 + b) sq (A (220 + b) sq - v)) b (blk sq sh u)) ∧ (¬ sm (upA A (220 + b) sq (A (220 + b) sq - v) (220 + b)) 280 = 0 → BC F (upA A (220 + b) sq (A (220 + b) sq - v)) b (blk sq sh u)) := by
  obtain ⟨c0, c1, c2, c3, c4⟩ := hC
  have hb := blP_nonneg hW h1 h2
  have hp : ∀ k, 0 ≤ k → k < 280 → upA A (220 + b) sq (A (220 + b) sq - v) (220 + b) k = blP sq sh u k := fun k a c => by
    rw [upA_if]; unfold blP; rw [c0 sq h1.1 (by omega), hv]
    by_cases q : k = sq
    · rw [if_pos q, if_pos q]
    · rw [if_neg q, if_neg q]; exact c0 k a c
  have hs : sm (upA A (220 + b) sq (A (220 + b) sq - v) (220 + b)) 280 = sm (blP sq sh u) 280 := sm_cong (fun k a c => hp k a (by omega))
  have hz : sm (blP sq sh u) 280 = 0 ↔ sm (fun x => if 0 < blP sq sh u x then 1 else 0) 280 = 0 := by
    rw [sm_pos (fun k a c => (hb k a (by omega)).1), cnt_zero (fun k a c => (hb k a (by omega)).1)]
  refine ⟨fun e => ⟨hp, ?_, ?_, ?_, ?_⟩, fun e => ⟨hp, c1, c2, c3, ?_⟩⟩
  · rw [upF_ne (by decide)]; exact c1
  · rw [upF_ne (by decide)]; exact c2
  · rw [upF_ne (by decide)]; exact c3
  · rw [upF_at]
    show 1 = if u.2.2.2.2 = 0 ∧ sm (fun x => if 0 < blP sq sh u x then 1 else 0) 280 = 0 then 1 else u.2.2.2.2
    rw [if_pos ⟨hg, hz.mp (hs.symm.trans e)⟩]
  · show F (200 + b) 4 = if u.2.2.2.2 = 0 ∧ sm (fun x => if 0 < blP sq sh u x then 1 else 0) 280 = 0 then 1 else u.2.2.2.2
    rw [if_neg (fun z => e (hs.trans (hz.mpr z.2)))]; exact c4
theorem BC_lookG {F : ab_Fn} {A : ab_An} {b : Nat} {sq sh : Int} {u : bst} (hC : BC F A b u) (hW : BW u) (h1 : 0 ≤ sq ∧ sq ≤ 279) (hg : u.2.2.2.2 = 1) : awy sq sh u = 0 ∧ BC F A b (blk sq sh u) := by
  have hz := hW.2.2.2.2.2.2 hg
  have ha : awy sq sh u = 0 := by unfold awy; rw [hz sq h1.1 (by omega)]; omega
  refine ⟨ha, ⟨fun k a c => ?_, hC.2.1, hC.2.2.1, hC.2.2.2.1, ?_⟩⟩
  · rw [hC.1 k a c]
    show _ = if k = sq then u.1 sq - awy sq sh u else u.1 k
    rw [ha]
    by_cases q : k = sq
    · rw [if_pos q, q]; omega
    · rw [if_neg q]
  · show F (200 + b) 4 = if u.2.2.2.2 = 0 ∧ sm (fun x => if 0 < blP sq sh u x then 1 else 0) 280 = 0 then 1 else u.2.2.2.2
    rw [if_neg (fun z => by omega)]; exact hC.2.2.2.2
/-- the berg that a telling makes -/
def bnew (sq z : Int) : bst := (fun x => if x = sq then 1000000 else 0, z, 0, 0, 0)
theorem bnew_W {sq z : Int} (h1 : 0 ≤ sq ∧ sq ≤ 279) (h2 : 1 ≤ z ∧ z ≤ 1000) : BW (bnew sq z) := by
  refine ⟨fun k a c => ?_, ?_, by show -50 ≤ z; omega, by show z ≤ 1000; omega, Or.inl rfl, fun _ => h2.1, fun q => absurd (show (0 : Int) = 1 from q) (by decide)⟩
  · show 0 ≤ if k = sq then 1000000 else 0
    split <;> omega
  · show sm (fun x => if x = sq then 1000000 else 0) 280 ≤ 1000000
    have : sm (fun x => if x = sq then (1000000 : Int) else 0) 280 = sm (fun x => if sq = x then 1000000 else 0) 280 := sm_cong (fun k _ _ => by
      by_cases q : k = sq
      · rw [if_pos q, if_pos q.symm]
      · rw [if_neg q, if_neg (fun z => q z.symm)])
    rw [this, sm_pick h1.1, if_pos (by omega)]; decide

set_option maxHeartbeats 4000000 in
set_option maxRecDepth 100000 in
theorem c_allParts (l : Launch) (S : ab_St) (F : ab_Fn) (A : ab_An) (hS : ab_SC S) (b : Nat) (hb9 : b < 10) (hbO : S (200 + b) = some (sC 1 (slB (220 + b)))) (hbR : S (220 + b) = some (sA .int 280)) : ab_Met l yX0_allParts cX0_allParts 3 (some .int) { frames := 0, cells := 0, slots := 0, locals := 0 } 0 0 [aR (200 + b)] S F A (fun v S' F' A' => S = S' ∧ F = F' ∧ A = A' ∧ v = some (aI (sm (A (220 + b)) 280))) := by
  refine ab_enter (by decide) (by simp [aI, aR, aX, ab_val, Value.category]) (Nat.le_of_ble_eq_true rfl) (fun E C hr => ?_)
  refine j_eq (lv' := [some (aR (200 + b)), none, none]) ?_
  refine j_iconst C dX0_allParts_0 ?_
  refine j_istore_n C (lv' := [some (aR (200 + b)), some (aI 0), none]) dX0_allParts_1 rfl (by decide) rfl ?_
  refine j_iconst C dX0_allParts_2 ?_
  refine j_istore_n C (lv' := [some (aR (200 + b)), some (aI 0), some (aI 0)]) dX0_allParts_3 rfl (by decide) rfl ?_
  have K4 : ∀ (N : Nat) (m k : Int), (0 ≤ k ∧ k ≤ 280) → (m = sm (A (220 + b)) k.toNat) → ((280 - k).toNat) < N → ab_J E 3 0 0 S F A 4 [some (aR (200 + b)), some (aI m), some (aI k)] [] := by
    intro N
    induction N with
    | zero => intro m k hk hm0 hm; exact absurd hm (Nat.not_lt_zero _)
    | succ N ih =>
      have ih4 := ih
      clear ih
      intro m k hk hm0 hm4
      refine j_iload_n C dX0_allParts_4 rfl rfl ?_
      refine j_sipush C dX0_allParts_5 rfl ?_
      refine j_icmp_ge C (tgt := 26) dX0_allParts_8 (by decide) ⟨by omega, by omega⟩ ⟨by omega, by omega⟩ (fun c8 => ?_) (fun c8 => ?_)
      · refine j_iload_n C dX0_allParts_26 rfl rfl ?_
        exact j_iret C hr (Nat.le_refl _) (Nat.le_refl _) dX0_allParts_27 ⟨rfl, rfl, rfl, by rw [hm0, show k.toNat = 280 by omega]⟩
      · refine j_iload_n C dX0_allParts_11 rfl rfl ?_
        refine j_aload_n C dX0_allParts_12 rfl rfl ?_
        refine j_getR C (j := (220 + b)) fl_X0_9 (hbO) rfl dX0_allParts_13 ?_
        refine j_iload_n C dX0_allParts_16 rfl rfl ?_
        refine j_iald C (hbR) (by omega) (by omega) (by decide) dX0_allParts_17 ?_
        refine j_iadd C dX0_allParts_18 ?_
        refine j_istore_n C (lv' := [some (aR (200 + b)), some (aI (m + (A (220 + b) k))), some (aI k)]) dX0_allParts_19 rfl (by decide) rfl ?_
        refine j_iinc C (lv' := [some (aR (200 + b)), some (aI (m + (A (220 + b) k))), some (aI (k + 1))]) dX0_allParts_20 rfl (by decide) rfl ?_
        refine j_goto C (tgt := 4) dX0_allParts_23 (by decide) ?_
        exact ih4 (m + (A (220 + b) k)) (k + 1) (by omega) (by rw [sm_step _ hk.1, ← hm0]) (by omega)
  exact K4 _ 0 0 (by omega) rfl (Nat.lt_succ_self _)

set_option maxHeartbeats 4000000 in
set_option maxRecDepth 100000 in
theorem c_lower (l : Launch) (S : ab_St) (F : ab_Fn) (A : ab_An) (hS : ab_SC S) (b : Nat) (hb9 : b < 10) (hbO : S (200 + b) = some (sC 1 (slB (220 + b)))) (hbR : S (220 + b) = some (sA .int 280)) (sq sh : Int) (h1 : 0 ≤ sq ∧ sq ≤ 279) (h2 : 0 ≤ sh ∧ sh ≤ 100) (u : bst) (hC : BC F A b u) (hW : BW u) : ab_Met l yX0_lower cX0_lower 4 (some .int) { frames := 1, cells := 0, slots := 0, locals := 22 } 0 0 [aR (200 + b), aI sq, aI sh] S F A (fun v S' F' A' => S = S' ∧ v = some (aI (awy sq sh u)) ∧ BC F' A' b (blk sq sh u) ∧ (∀ i, i ≠ 220 + b → A' i = A i) ∧ ∀ i, i ≠ 200 + b → F' i = F i) := by
  refine ab_enter (by decide) (by simp [aI, aR, aX, ab_val, Value.category]) (Nat.le_of_ble_eq_true rfl) (fun E C hr => ?_)
  refine j_eq (lv' := [some (aR (200 + b)), some (aI sq), some (aI sh), none]) ?_
  have hg9 : F (200 + b) 4 = 0 ∨ F (200 + b) 4 = 1 := by rw [hC.2.2.2.2]; exact hW.2.2.2.2.1
  have hp9 := hW.le (k := sq) h1.1 (by omega)
  have hq9 := hC.1 sq h1.1 (by omega)
  have hm9 := mul_rng (p := u.1 sq) (s := sh) hp9 h2
  have ha9 := awy_rng hW h1 h2
  have hd9 : awy sq sh u = (u.1 sq * sh + 99) / 100 := rfl
  refine j_iload_n C dX0_lower_0 rfl rfl ?_
  refine j_if_lt C (tgt := 18) dX0_lower_1 (by decide) ⟨by omega, by omega⟩ (fun c1 => ?_) (fun c1 => ?_)
  · exact absurd c1 (by omega)
  · refine j_iload_n C dX0_lower_4 rfl rfl ?_
    refine j_sipush C dX0_lower_5 rfl ?_
    refine j_icmp_ge C (tgt := 18) dX0_lower_8 (by decide) ⟨by omega, by omega⟩ ⟨by omega, by omega⟩ (fun c8 => ?_) (fun c8 => ?_)
    · exact absurd c8 (by omega)
    · refine j_aload_n C dX0_lower_11 rfl rfl ?_
      refine j_get C (aI (F (200 + b) 4)) fl_X0_25 (hbO) (fun _ => rfl) dX0_lower_12 ?_
      refine j_if_eq C (tgt := 20) dX0_lower_15 (by decide) ⟨by omega, by omega⟩ (fun c15 => ?_) (fun c15 => ?_)
      · refine j_aload_n C dX0_lower_20 rfl rfl ?_
        refine j_getR C (j := (220 + b)) fl_X0_9 (hbO) rfl dX0_lower_21 ?_
        refine j_iload_n C dX0_lower_24 rfl rfl ?_
        refine j_iald C (hbR) (by omega) (by omega) (by decide) dX0_lower_25 ?_
        refine j_eq (st' := [aI (u.1 sq)]) ?_ (e1 := by first | rfl | (simp only [List.cons.injEq, and_true]; exact congrArg aI (hq9)))
        refine j_iload_n C dX0_lower_26 rfl rfl ?_
        refine j_imul C dX0_lower_27 ?_
        refine j_bipush C dX0_lower_28 rfl ?_
        refine j_iadd C dX0_lower_30 ?_
        refine j_iconst C dX0_lower_31 ?_
        refine j_isub C dX0_lower_32 ?_
        refine j_eq (st' := [aI (u.1 sq * sh + 99)]) ?_ (e1 := by first | rfl | (simp only [List.cons.injEq, and_true]; exact congrArg aI ((by omega))))
        refine j_bipush C dX0_lower_33 rfl ?_
        refine j_idiv C dX0_lower_35 (by omega) (by omega) (by omega) (by omega) ?_
        refine j_eq (st' := [aI (awy sq sh u)]) ?_
        refine j_istore_n C (lv' := [some (aR (200 + b)), some (aI sq), some (aI sh), some (aI (awy sq sh u))]) dX0_lower_36 rfl (by decide) rfl ?_
        refine j_aload_n C dX0_lower_37 rfl rfl ?_
        refine j_getR C (j := (220 + b)) fl_X0_9 (hbO) rfl dX0_lower_38 ?_
        refine j_iload_n C dX0_lower_41 rfl rfl ?_
        refine j_dup2 C dX0_lower_42 (fun _ => rfl) (fun _ => rfl) ?_
        refine j_iald C (hbR) (by omega) (by omega) (by decide) dX0_lower_43 ?_
        refine j_iload_n C dX0_lower_44 rfl rfl ?_
        refine j_isub C dX0_lower_45 ?_
        refine j_iast C (hbR) (by omega) (by omega) (by decide) dX0_lower_46 ?_
        refine j_aload_n C dX0_lower_47 rfl rfl ?_
        refine j_callV C (vs := []) (st := []) cl_X0_76 im_yX0_allParts se_yX0_allParts (fun _ => (c_allParts _ S F (upA A (220 + b) sq ((A (220 + b) sq) - (awy sq sh u))) hS b (by omega) (hbO) (hbR))) (hbO) rfl rfl rfl ⟨rfl, rfl, by decide, by decide⟩ ⟨by decide, by decide⟩ (fun _ => Nat.le_of_ble_eq_true rfl) (fun v hv => by cases hv) (fun v hv => by simp only [List.mem_cons, List.not_mem_nil, or_false, Option.some.injEq, reduceCtorEq, false_or] at hv; rcases hv with rfl | rfl | rfl | rfl <;> first | exact (lS (hbO)) | exact trivial) dX0_lower_48 (fun v_48 S_48 F_48 A_48 hP_48 => ?_)
        obtain ⟨rfl, rfl, rfl, rfl⟩ := hP_48
        show ab_J E 4 0 0 S F (upA A (220 + b) sq ((A (220 + b) sq) - (awy sq sh u))) 51 [some (aR (200 + b)), some (aI sq), some (aI sh), some (aI (awy sq sh u))] [aI (sm ((upA A (220 + b) sq ((A (220 + b) sq) - (awy sq sh u))) (220 + b)) 280)]
        have hs9 : inR (sm (upA A (220 + b) sq (A (220 + b) sq - awy sq sh u) (220 + b)) 280) := by
          have hb8 := blP_nonneg hW h1 h2
          have hs8 : sm (upA A (220 + b) sq (A (220 + b) sq - awy sq sh u) (220 + b)) 280 = sm (blP sq sh u) 280 := sm_cong (fun k a c => by
            rw [upA_if, hq9]
            show _ = if k = sq then u.1 sq - awy sq sh u else u.1 k
            by_cases q : k = sq
            · rw [if_pos q, if_pos q]
            · rw [if_neg q, if_neg q]; exact hC.1 k a (by omega))
          rw [hs8]
          have hw8 := blk_W hW h1 h2
          have h8 := sm_nonneg (f := blP sq sh u) (n := 280) (fun k a c => (hb8 k a (by omega)).1)
          have h7 : sm (blP sq sh u) 280 ≤ 1000000 := hw8.2.1
          exact ⟨by omega, by omega⟩
        refine j_if_ne C (tgt := 59) dX0_lower_51 (by decide) hs9 (fun c51 => ?_) (fun c51 => ?_)
        · refine j_iload_n C dX0_lower_59 rfl rfl ?_
          exact j_iret C hr (Nat.le_refl _) (Nat.le_refl _) dX0_lower_60 (by first | exact ⟨rfl, rfl, (BC_look hC hW h1 h2 (by rw [← hC.2.2.2.2]; omega) rfl).1 c51, fun i q => by rw [upA_other q], fun i q => by rw [upF_o q]⟩ | exact ⟨rfl, rfl, (BC_look hC hW h1 h2 (by rw [← hC.2.2.2.2]; omega) rfl).2 c51, fun i q => by rw [upA_other q], fun _ _ => rfl⟩)
        · refine j_aload_n C dX0_lower_54 rfl rfl ?_
          refine j_iconst C dX0_lower_55 ?_
          refine j_putZ C fp_X0_25 (hbO) rfl (by omega) dX0_lower_56 ?_
          refine j_iload_n C dX0_lower_59 rfl rfl ?_
          exact j_iret C hr (Nat.le_refl _) (Nat.le_refl _) dX0_lower_60 (by first | exact ⟨rfl, rfl, (BC_look hC hW h1 h2 (by rw [← hC.2.2.2.2]; omega) rfl).1 c51, fun i q => by rw [upA_other q], fun i q => by rw [upF_o q]⟩ | exact ⟨rfl, rfl, (BC_look hC hW h1 h2 (by rw [← hC.2.2.2.2]; omega) rfl).2 c51, fun i q => by rw [upA_other q], fun _ _ => rfl⟩)
      · refine j_iconst C dX0_lower_18 ?_
        exact j_iret C hr (Nat.le_refl _) (Nat.le_refl _) dX0_lower_19 ⟨rfl, congrArg (fun z => some (aI z)) (BC_lookG hC hW h1 (by rw [← hC.2.2.2.2]; omega)).1.symm, (BC_lookG hC hW h1 (by rw [← hC.2.2.2.2]; omega)).2, fun _ _ => rfl, fun _ _ => rfl⟩

set_option maxHeartbeats 4000000 in
set_option maxRecDepth 100000 in
theorem c_setAt (l : Launch) (S : ab_St) (F : ab_Fn) (A : ab_An) (hS : ab_SC S) (b : Nat) (hb9 : b < 10) (hbO : S (200 + b) = some (sC 1 (slB (220 + b)))) (hbR : S (220 + b) = some (sA .int 280)) (sq z : Int) (h1 : 0 ≤ sq ∧ sq ≤ 279) (hg : F (200 + b) 4 = 0) : ab_Met l yX0_setAt cX0_setAt 3 none { frames := 1, cells := 0, slots := 0, locals := 23 } 0 0 [aR (200 + b), aI sq, aI z] S F A (fun v S' F' A' => S = S' ∧ v = none ∧ BC F' A' b (bnew sq z) ∧ (∀ i, i ≠ 220 + b → A' i = A i) ∧ ∀ i, i ≠ 200 + b → F' i = F i) := by
  refine ab_enter (by decide) (by simp [aI, aR, aX, ab_val, Value.category]) (Nat.le_of_ble_eq_true rfl) (fun E C hr => ?_)
  refine j_eq (lv' := [some (aR (200 + b)), some (aI sq), some (aI z)]) ?_
  refine j_aload_n C dX0_setAt_0 rfl rfl ?_
  refine j_getR C (j := (220 + b)) fl_X0_9 (hbO) rfl dX0_setAt_1 ?_
  refine j_iconst C dX0_setAt_4 ?_
  refine j_callS C (vs := [aR (220 + b), aI 0]) (st := []) cl_X0_29 sc_yJ7_fill_53178 (fun _ => (t_fill _ S F A _ _ _ (hbR) (by decide))) rfl ⟨rfl, rfl, by decide, by decide⟩ ⟨by decide, by decide⟩ (fun _ => Nat.le_of_ble_eq_true rfl) (fun v hv => by cases hv) (fun v hv => by simp only [List.mem_cons, List.not_mem_nil, or_false, Option.some.injEq, reduceCtorEq, false_or] at hv; rcases hv with rfl | rfl | rfl <;> first | exact (lS (hbO)) | exact trivial) dX0_setAt_5 (fun v_5 S_5 F_5 A_5 hP_5 => ?_)
  obtain ⟨rfl, rfl, rfl, rfl⟩ := hP_5
  show ab_J E 3 0 0 S F (setRow A (220 + b) 0 280 (fun _ => 0)) 8 [some (aR (200 + b)), some (aI sq), some (aI z)] []
  refine j_iload_n C dX0_setAt_8 rfl rfl ?_
  refine j_if_lt C (tgt := 27) dX0_setAt_9 (by decide) ⟨by omega, by omega⟩ (fun c9 => ?_) (fun c9 => ?_)
  · exact absurd c9 (by omega)
  · refine j_iload_n C dX0_setAt_12 rfl rfl ?_
    refine j_sipush C dX0_setAt_13 rfl ?_
    refine j_icmp_ge C (tgt := 27) dX0_setAt_16 (by decide) ⟨by omega, by omega⟩ ⟨by omega, by omega⟩ (fun c16 => ?_) (fun c16 => ?_)
    · exact absurd c16 (by omega)
    · refine j_aload_n C dX0_setAt_19 rfl rfl ?_
      refine j_getR C (j := (220 + b)) fl_X0_9 (hbO) rfl dX0_setAt_20 ?_
      refine j_iload_n C dX0_setAt_23 rfl rfl ?_
      refine j_ldcI C (z := 1000000) (ab_t3 (List.mem_of_getElem? (i := 200) rfl) rfl) rfl dX0_setAt_24 ?_
      refine j_iast C (hbR) (by omega) (by omega) (by decide) dX0_setAt_26 ?_
      refine j_aload_n C dX0_setAt_27 rfl rfl ?_
      refine j_iload_n C dX0_setAt_28 rfl rfl ?_
      refine j_putI C fp_X0_15 (hbO) rfl dX0_setAt_29 ?_
      refine j_aload_n C dX0_setAt_32 rfl rfl ?_
      refine j_iconst C dX0_setAt_33 ?_
      refine j_putI C fp_X0_19 (hbO) rfl dX0_setAt_34 ?_
      refine j_aload_n C dX0_setAt_37 rfl rfl ?_
      refine j_iconst C dX0_setAt_38 ?_
      refine j_putI C fp_X0_22 (hbO) rfl dX0_setAt_39 ?_
      exact j_vret C hr (Nat.le_refl _) (Nat.le_refl _) dX0_setAt_42 ⟨rfl, rfl, ⟨fun k a c => (by rw [upA_if]; show _ = if k = sq then (1000000 : Int) else 0; split; rfl; rw [setRow_in (by omega) (by omega)]), (by rw [upF_ne (by decide), upF_ne (by decide), upF_at]; rfl), (by rw [upF_ne (by decide), upF_at]; rfl), (by rw [upF_at]; rfl), (by rw [upF_ne (by decide), upF_ne (by decide), upF_ne (by decide)]; exact hg)⟩, fun i q => by rw [upA_other q, setRow_other q], fun i q => by rw [upF_o q, upF_o q, upF_o q]⟩

set_option maxHeartbeats 4000000 in
set_option maxRecDepth 100000 in
theorem c_goOn (l : Launch) (S : ab_St) (F : ab_Fn) (A : ab_An) (hS : ab_SC S) (b : Nat) (hb9 : b < 10) (hbO : S (200 + b) = some (sC 1 (slB (220 + b)))) (hbR : S (220 + b) = some (sA .int 280)) (u : bst) (hC : BC F A b u) (hW : BW u) (hl : ∀ k, 0 ≤ k → k < 280 → A 11 k = 0 ∨ A 11 k = 1) (hc : ∀ k, 0 ≤ k → k < 280 → -2 ≤ A 12 k ∧ A 12 k ≤ 2 ∧ -2 ≤ A 13 k ∧ A 13 k ≤ 2) (hw : ∀ k, 0 ≤ k → k < 280 → 0 ≤ A 14 k ∧ A 14 k ≤ 50) : ab_Met l yX0_goOn cX0_goOn 3 none { frames := 3, cells := 0, slots := 0, locals := 70 } 0 0 [aR (200 + b), aR 1, aR 28] S F A (fun v S' F' A' => S = S' ∧ v = none ∧ BC F' A' b (bs1 (A 11) (A 12) (A 13) (A 14) u) ∧ (∀ i, i ≠ 28 → i ≠ 220 + b → A' i = A i) ∧ ∀ i, i ≠ 200 + b → F' i = F i) := by
  refine ab_enter (by decide) (by simp [aI, aR, aX, ab_val, Value.category]) (Nat.le_of_ble_eq_true rfl) (fun E C hr => ?_)
  refine j_eq (lv' := [some (aR (200 + b)), some (aR 1), some (aR 28)]) ?_
  have hg9 : F (200 + b) 4 = 0 ∨ F (200 + b) 4 = 1 := by rw [hC.2.2.2.2]; exact hW.2.2.2.2.1
  refine j_aload_n C dX0_goOn_0 rfl rfl ?_
  refine j_get C (aI (F (200 + b) 4)) fl_X0_25 (hbO) (fun _ => rfl) dX0_goOn_1 ?_
  refine j_if_eq C (tgt := 8) dX0_goOn_4 (by decide) ⟨by omega, by omega⟩ (fun c4 => ?_) (fun c4 => ?_)
  · refine j_aload_n C dX0_goOn_8 rfl rfl ?_
    refine j_aload_n C dX0_goOn_9 rfl rfl ?_
    refine j_aload_n C dX0_goOn_10 rfl rfl ?_
    refine j_callV C (vs := [aR 1, aR 28]) (st := []) cl_X0_36 im_yX0_drift se_yX0_drift (fun _ => (c_drift _ S F A hS b (by omega) (hbO) (hbR) hl hc (fun k a c => by rw [hC.1 k a c]; exact hW.le a c))) (hbO) rfl rfl rfl ⟨rfl, rfl, by decide, by decide⟩ ⟨by decide, by decide⟩ (fun _ => Nat.le_of_ble_eq_true rfl) (fun v hv => by cases hv) (fun v hv => by simp only [List.mem_cons, List.not_mem_nil, or_false, Option.some.injEq, reduceCtorEq, false_or] at hv; rcases hv with rfl | rfl | rfl <;> first | exact (lS ((sC_1 hS))) | exact (lS ((sC_28 hS))) | exact (lS (hbO))) dX0_goOn_11 (fun v_11 S_11 F_11 A_11 hP_11 => ?_)
    obtain ⟨rfl, rfl, hF11, hO11, hg11⟩ := hP_11
    show ab_J E 3 0 0 S F_11 A_11 14 [some (aR (200 + b)), some (aR 1), some (aR 28)] []
    have k1 := BC_h2 (A1 := A_11) hC.1 hW hg11
    refine j_aload_n C dX0_goOn_14 rfl rfl ?_
    refine j_aload_n C dX0_goOn_15 rfl rfl ?_
    refine j_aload_n C dX0_goOn_16 rfl rfl ?_
    refine j_callV C (vs := [aR 1, aR 28]) (st := []) cl_X0_40 im_yX0_spread se_yX0_spread (fun _ => (c_spread _ S F_11 A_11 hS b (by omega) (hbO) (hbR) (by rw [hO11 11 (by omega)]; exact hl) k1.2)) (hbO) rfl rfl rfl ⟨rfl, rfl, by decide, by decide⟩ ⟨by decide, by decide⟩ (fun _ => Nat.le_of_ble_eq_true rfl) (fun v hv => by cases hv) (fun v hv => by simp only [List.mem_cons, List.not_mem_nil, or_false, Option.some.injEq, reduceCtorEq, false_or] at hv; rcases hv with rfl | rfl | rfl <;> first | exact (lS ((sC_1 hS))) | exact (lS ((sC_28 hS))) | exact (lS (hbO))) dX0_goOn_17 (fun v_17 S_17 F_17 A_17 hP_17 => ?_)
    obtain ⟨rfl, rfl, rfl, hO17, hg17⟩ := hP_17
    show ab_J E 3 0 0 S F_11 A_17 20 [some (aR (200 + b)), some (aR 1), some (aR 28)] []
    have k2 := BC_h3 (A2 := A_17) hW k1.1 (hO11 11 (by omega)) hg17
    refine j_aload_n C dX0_goOn_20 rfl rfl ?_
    refine j_aload_n C dX0_goOn_21 rfl rfl ?_
    refine j_callV C (vs := [aR 1]) (st := []) cl_X0_43 im_yX0_melt se_yX0_melt (fun _ => (c_melt _ S F_11 A_17 hS b (by omega) (hbO) (hbR) (by rw [hO17 14 (by omega), hO11 14 (by omega)]; exact hw) k2.2.2 (by rw [hF11, upF_ne (by decide), hC.2.1]; exact ⟨hW.2.2.1, hW.2.2.2.1⟩))) (hbO) rfl rfl rfl ⟨rfl, rfl, by decide, by decide⟩ ⟨by decide, by decide⟩ (fun _ => Nat.le_of_ble_eq_true rfl) (fun v hv => by cases hv) (fun v hv => by simp only [List.mem_cons, List.not_mem_nil, or_false, Option.some.injEq, reduceCtorEq, false_or] at hv; rcases hv with rfl | rfl | rfl <;> first | exact (lS ((sC_1 hS))) | exact (lS ((sC_28 hS))) | exact (lS (hbO))) dX0_goOn_22 (fun v_22 S_22 F_22 A_22 hP_22 => ?_)
    obtain ⟨rfl, rfl, m22, hm22, hd22⟩ := hP_22
    show ab_J E 3 0 0 S F_22 A_22 25 [some (aR (200 + b)), some (aR 1), some (aR 28)] []
    have k3 := BC_step (F1 := F_11) (F3 := F_22) (A2 := A_17) (A3 := A_22) hC hW (by rw [← hC.2.2.2.2]; omega) hw hF11 k2.1 (by rw [hO17 14 (by omega), hO11 14 (by omega)]) hm22 hd22
    refine j_aload_n C dX0_goOn_25 rfl rfl ?_
    refine j_dup C dX0_goOn_26 (fun _ => rfl) ?_
    refine j_get C (aI (F_22 (200 + b) 2)) fl_X0_19 (hbO) (fun _ => rfl) dX0_goOn_27 ?_
    refine j_iconst C dX0_goOn_30 ?_
    refine j_iadd C dX0_goOn_31 ?_
    refine j_putI C fp_X0_19 (hbO) rfl dX0_goOn_32 ?_
    exact j_vret C hr (Nat.le_refl _) (Nat.le_refl _) dX0_goOn_35 ⟨rfl, rfl, k3.1, fun i q1 q2 => by rw [k3.2.1 i q2, hO17 i q2, hO11 i q1], k3.2.2⟩
  · exact j_vret C hr (Nat.le_refl _) (Nat.le_refl _) dX0_goOn_7 ⟨rfl, rfl, by rw [bs1_gone (by rw [← hC.2.2.2.2]; exact c4)]; exact hC, fun _ _ _ => rfl, fun _ _ => rfl⟩
