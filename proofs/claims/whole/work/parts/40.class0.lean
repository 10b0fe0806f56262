/-! the class: its objects and rows by their names -/
def slC_0 : Nat → Option (Option Nat) := fun k => match k with
  | 0 => some (some 1)
  | 1 => some (some 2)
  | 2 => some (some 3)
  | 3 => some (some 4)
  | 4 => some (some 5)
  | 5 => some (some 7)
  | 6 => some (some 9)
  | 7 => some (some 10)
  | 8 => some (some 27)
  | 9 => some (some 28)
  | _ => none
def slC_1 : Nat → Option (Option Nat) := fun k => match k with
  | 0 => some (some 11)
  | 1 => some (some 12)
  | 2 => some (some 13)
  | 3 => some (some 14)
  | _ => none
def slC_4 : Nat → Option (Option Nat) := fun k => match k with
  | 0 => some (some 15)
  | _ => none
def slC_5 : Nat → Option (Option Nat) := fun k => match k with
  | 0 => some (some 4)
  | 1 => some (some 6)
  | _ => none
def slC_6 : Nat → Option (Option Nat) := fun k => match k with
  | 0 => some (some 16)
  | 1 => some (some 17)
  | _ => none
def slC_7 : Nat → Option (Option Nat) := fun k => match k with
  | 0 => some (some 8)
  | 1 => some (some 20)
  | 2 => some (some 21)
  | _ => none
def slC_8 : Nat → Option (Option Nat) := fun k => match k with
  | 0 => some (some 18)
  | 1 => some (some 19)
  | _ => none
def slC_9 : Nat → Option (Option Nat) := fun k => match k with
  | 0 => some (some 22)
  | 1 => some (some 23)
  | 2 => some (some 24)
  | _ => none
def slC_10 : Nat → Option (Option Nat) := fun k => match k with
  | 0 => some (some 25)
  | 1 => some (some 26)
  | _ => none
def ab_shC : Nat → Option ab_Sh := fun i => match i with
  | 0 => some (sC 10 slC_0)
  | 1 => some (sC 6 slC_1)
  | 4 => some (sC 7 slC_4)
  | 5 => some (sC 8 slC_5)
  | 6 => some (sC 5 slC_6)
  | 7 => some (sC 4 slC_7)
  | 8 => some (sC 5 slC_8)
  | 9 => some (sC 2 slC_9)
  | 10 => some (sC 3 slC_10)
  | 11 => some (sA .boolean 280)
  | 12 => some (sA .int 280)
  | 13 => some (sA .int 280)
  | 14 => some (sA .int 280)
  | 15 => some (sA .int 400)
  | 16 => some (sA .int 42)
  | 17 => some (sA .int 42)
  | 18 => some (sA .int 42)
  | 19 => some (sA .int 42)
  | 20 => some (sA .int 21)
  | 21 => some (sA .int 21)
  | 22 => some (sA .boolean 280)
  | 23 => some (sA .int 280)
  | 24 => some (sA .int 280)
  | 25 => some (sA .int 14)
  | 26 => some (sA .int 14)
  | 27 => some (sA .int 280)
  | 28 => some (sA .int 280)
  | _ => none
def ab_SC (S : ab_St) : Prop := ∀ i, ab_shC i ≠ none → S i = ab_shC i
theorem sC_0 {S : ab_St} (h : ab_SC S) : S 0 = some (sC 10 slC_0) := h 0 (fun z => by cases z)
theorem sC_1 {S : ab_St} (h : ab_SC S) : S 1 = some (sC 6 slC_1) := h 1 (fun z => by cases z)
theorem sC_4 {S : ab_St} (h : ab_SC S) : S 4 = some (sC 7 slC_4) := h 4 (fun z => by cases z)
theorem sC_5 {S : ab_St} (h : ab_SC S) : S 5 = some (sC 8 slC_5) := h 5 (fun z => by cases z)
theorem sC_6 {S : ab_St} (h : ab_SC S) : S 6 = some (sC 5 slC_6) := h 6 (fun z => by cases z)
theorem sC_7 {S : ab_St} (h : ab_SC S) : S 7 = some (sC 4 slC_7) := h 7 (fun z => by cases z)
theorem sC_8 {S : ab_St} (h : ab_SC S) : S 8 = some (sC 5 slC_8) := h 8 (fun z => by cases z)
theorem sC_9 {S : ab_St} (h : ab_SC S) : S 9 = some (sC 2 slC_9) := h 9 (fun z => by cases z)
theorem sC_10 {S : ab_St} (h : ab_SC S) : S 10 = some (sC 3 slC_10) := h 10 (fun z => by cases z)
theorem sC_11 {S : ab_St} (h : ab_SC S) : S 11 = some (sA .boolean 280) := h 11 (fun z => by cases z)
theorem sC_12 {S : ab_St} (h : ab_SC S) : S 12 = some (sA .int 280) := h 12 (fun z => by cases z)
theorem sC_13 {S : ab_St} (h : ab_SC S) : S 13 = some (sA .int 280) := h 13 (fun z => by cases z)
theorem sC_14 {S : ab_St} (h : ab_SC S) : S 14 = some (sA .int 280) := h 14 (fun z => by cases z)
theorem sC_15 {S : ab_St} (h : ab_SC S) : S 15 = some (sA .int 400) := h 15 (fun z => by cases z)
theorem sC_16 {S : ab_St} (h : ab_SC S) : S 16 = some (sA .int 42) := h 16 (fun z => by cases z)
theorem sC_17 {S : ab_St} (h : ab_SC S) : S 17 = some (sA .int 42) := h 17 (fun z => by cases z)
theorem sC_18 {S : ab_St} (h : ab_SC S) : S 18 = some (sA .int 42) := h 18 (fun z => by cases z)
theorem sC_19 {S : ab_St} (h : ab_SC S) : S 19 = some (sA .int 42) := h 19 (fun z => by cases z)
theorem sC_20 {S : ab_St} (h : ab_SC S) : S 20 = some (sA .int 21) := h 20 (fun z => by cases z)
theorem sC_21 {S : ab_St} (h : ab_SC S) : S 21 = some (sA .int 21) := h 21 (fun z => by cases z)
theorem sC_22 {S : ab_St} (h : ab_SC S) : S 22 = some (sA .boolean 280) := h 22 (fun z => by cases z)
theorem sC_23 {S : ab_St} (h : ab_SC S) : S 23 = some (sA .int 280) := h 23 (fun z => by cases z)
theorem sC_24 {S : ab_St} (h : ab_SC S) : S 24 = some (sA .int 280) := h 24 (fun z => by cases z)
theorem sC_25 {S : ab_St} (h : ab_SC S) : S 25 = some (sA .int 14) := h 25 (fun z => by cases z)
theorem sC_26 {S : ab_St} (h : ab_SC S) : S 26 = some (sA .int 14) := h 26 (fun z => by cases z)
theorem sC_27 {S : ab_St} (h : ab_SC S) : S 27 = some (sA .int 280) := h 27 (fun z => by cases z)
theorem sC_28 {S : ab_St} (h : ab_SC S) : S 28 = some (sA .int 280) := h 28 (fun z => by cases z)
/-- the slots of a berg whose row is p -/
def slB (p : Nat) : Nat → Option (Option Nat) := fun k => match k with
  | 0 => some (some p)
  | _ => none
/-- the slots of a warning -/
def slW (x y z : Nat) : Nat → Option (Option Nat) := fun k => match k with
  | 0 => some (some x)
  | 1 => some (some y)
  | 3 => some (some z)
  | _ => none
/-- the bergs in the world: their objects, their rows, the list of them -/
def BG (S : ab_St) (nb : Int) : Prop := (∀ b : Nat, (b : Int) < nb → S (200 + b) = some (sC 1 (slB (220 + b))) ∧ S (220 + b) = some (sA .int 280)) ∧ ∃ e : Nat, S 2 = some (sC 0 (slL e)) ∧ (0 < nb → ∃ c, S e = some (sO 10 c) ∧ ∀ b : Nat, (b : Int) < nb → c b = some (200 + b)) ∧ (nb = 0 → e = 1000200 + 2) ∧ (0 < nb → e = 590)
/-- the warnings in the world -/
def WG (S : ab_St) (nc : Nat → Nat) (nw : Int) : Prop := (∀ w : Nat, (w : Int) < nw → S (300 + w) = some (sC 9 (slW (350 + w) (400 + w) (450 + w))) ∧ S (350 + w) = some (sA .int (nc w)) ∧ S (400 + w) = some (sA .int (nc w)) ∧ S (450 + w) = some (sA .int 14)) ∧ ∃ e N : Nat, S 3 = some (sC 0 (slL e)) ∧ (nw ≤ N ∧ N ≤ 60) ∧ (0 < nw → ∃ c, S e = some (sO N c) ∧ ∀ w : Nat, (w : Int) < nw → c w = some (300 + w)) ∧ (nw = 0 → e = 1000200 + 2) ∧ (0 < nw → 600 ≤ e ∧ e < 640 ∧ 10 ≤ N)

set_option maxHeartbeats 4000000 in
set_option maxRecDepth 100000 in
theorem t_fill (l : Launch) (S : ab_St) (F : ab_Fn) (A : ab_An) (r0 n0 : Nat) (v0 : Int) (hrow : S r0 = some (sA .int n0)) (hN : (n0 : Int) < 2147483648) : ab_Met l yJ7_fill_53178 cJ7_fill_53178 4 none { frames := 0, cells := 0, slots := 0, locals := 0 } 0 0 [aR r0, aI v0] S F A (fun v S' F' A' => S = S' ∧ F = F' ∧ v = none ∧ A' = setRow A r0 0 n0 (fun _ => v0)) := by
  refine ab_enter (by decide) (by simp [aI, aR, aX, ab_val, Value.category]) (Nat.le_of_ble_eq_true rfl) (fun E C hr => ?_)
  refine j_eq (lv' := [some (aR r0), some (aI v0), none, none]) ?_
  refine j_iconst C dJ7_fill_53178_0 ?_
  refine j_istore_n C (lv' := [some (aR r0), some (aI v0), some (aI 0), none]) dJ7_fill_53178_1 rfl (by decide) rfl ?_
  refine j_aload_n C dJ7_fill_53178_2 rfl rfl ?_
  refine j_alen C (hrow) 0 (fun _ => rfl) dJ7_fill_53178_3 ?_
  refine j_eq (st' := [aI n0]) ?_
  refine j_istore_n C (lv' := [some (aR r0), some (aI v0), some (aI 0), some (aI n0)]) dJ7_fill_53178_4 rfl (by decide) rfl ?_
  have K5 : ∀ (N : Nat) (k : Int), (0 ≤ k ∧ k ≤ n0) → (((n0 : Int) - k).toNat) < N → ab_J E 4 0 0 S F (setRow A r0 0 k (fun _ => v0)) 5 [some (aR r0), some (aI v0), some (aI k), some (aI n0)] [] := by
    intro N
    induction N with
    | zero => intro k hk hm; exact absurd hm (Nat.not_lt_zero _)
    | succ N ih =>
      have ih5 := ih
      clear ih
      intro k hk hm5
      refine j_iload_n C dJ7_fill_53178_5 rfl rfl ?_
      refine j_iload_n C dJ7_fill_53178_6 rfl rfl ?_
      refine j_icmp_ge C (tgt := 20) dJ7_fill_53178_7 (by decide) ⟨by omega, by omega⟩ ⟨by omega, by omega⟩ (fun c7 => ?_) (fun c7 => ?_)
      · exact j_vret C hr (Nat.le_refl _) (Nat.le_refl _) dJ7_fill_53178_20 ⟨rfl, rfl, rfl, by rw [show k = (n0 : Int) by omega]⟩
      · refine j_aload_n C dJ7_fill_53178_10 rfl rfl ?_
        refine j_iload_n C dJ7_fill_53178_11 rfl rfl ?_
        refine j_iload_n C dJ7_fill_53178_12 rfl rfl ?_
        refine j_iast C (hrow) (by omega) (by omega) (by omega) dJ7_fill_53178_13 ?_
        refine j_iinc C (lv' := [some (aR r0), some (aI v0), some (aI (k + 1)), some (aI n0)]) dJ7_fill_53178_14 rfl (by decide) rfl ?_
        refine j_goto C (tgt := 5) dJ7_fill_53178_17 (by decide) ?_
        refine j_eq (A' := (setRow A r0 0 (k + 1) (fun _ => v0))) ?_ (e4 := (setRow_up (by omega) (by omega) rfl))
        exact ih5 (k + 1) (by omega) (by omega)
  refine j_eq (A' := (setRow A r0 0 0 (fun _ => v0))) ?_ (e4 := (setRow_0 _ _ _ _))
  exact K5 _ 0 (by omega) (Nat.lt_succ_self _)

set_option maxHeartbeats 4000000 in
set_option maxRecDepth 100000 in
theorem t_copyOf (l : Launch) (S : ab_St) (F : ab_Fn) (A : ab_An) (r0 q0 n0 : Nat) (a : Int) (hrow : S r0 = some (sA .int n0)) (hq0 : S q0 = none) (hq6 : q0 < 1000000) (hne : r0 ≠ q0) (ha : 0 ≤ a ∧ a < n0 ∧ a ≤ 40) (hN : (n0 : Int) < 2147483648) : ab_Met l yJ7_copyOf_59c91 cJ7_copyOf_59c91 3 (some (.array .int)) { frames := 1, cells := 1, slots := 40, locals := 40 } 1 40 [aR r0, aI a] S F A (fun v S' F' A' => S' = upS S q0 (sA .int a.toNat) ∧ F = F' ∧ v = some (aR q0) ∧ A' = setRow (zA A q0) q0 0 a (A r0)) := by
  refine ab_enter (by decide) (by simp [aI, aR, aX, ab_val, Value.category]) (Nat.le_of_ble_eq_true rfl) (fun E C hr => ?_)
  refine j_eq (lv' := [some (aR r0), some (aI a), none]) ?_
  refine j_iload_n C dJ7_copyOf_59c91_0 rfl rfl ?_
  refine j_aload_n C dJ7_copyOf_59c91_1 rfl rfl ?_
  refine j_alen C (hrow) 0 (fun _ => rfl) dJ7_copyOf_59c91_2 ?_
  refine j_eq (st' := [aI n0, aI a]) ?_
  refine j_icmp_ne C (tgt := 14) dJ7_copyOf_59c91_3 (by decide) ⟨by omega, by omega⟩ ⟨by omega, by omega⟩ (fun c3 => ?_) (fun c3 => ?_)
  · refine j_iload_n C dJ7_copyOf_59c91_14 rfl rfl ?_
    refine j_newa C (atype := .int) (ty := .int) (N := (a).toNat) q0 0 rfl (fun _ => rfl) (fun _ _ h => h) rfl (ab_t1 (List.mem_of_getElem? (i := 71) rfl) rfl) (by omega) (by omega) (by show _ * 4 ≤ _; omega) (hq0) hq6 (Nat.le_of_ble_eq_true rfl) (by show 0 + a.toNat ≤ 40; omega) (fun v hv => by cases hv) (fun v hv => by simp only [List.mem_cons, List.not_mem_nil, or_false, Option.some.injEq, reduceCtorEq, false_or] at hv; rcases hv with rfl | rfl <;> first | exact (lS (hrow)) | exact trivial) dJ7_copyOf_59c91_15 ?_
    show ab_J E 3 1 (0 + (a).toNat) (upS S q0 (sA .int (a).toNat)) F (zA A q0) 17 [some (aR r0), some (aI a), none] [aR q0]
    refine j_astore_n C (lv' := [some (aR r0), some (aI a), some (aR q0)]) dJ7_copyOf_59c91_17 rfl (by decide) rfl ?_
    refine j_aload_n C dJ7_copyOf_59c91_18 rfl rfl ?_
    refine j_iconst C dJ7_copyOf_59c91_19 ?_
    refine j_aload_n C dJ7_copyOf_59c91_20 rfl rfl ?_
    refine j_iconst C dJ7_copyOf_59c91_21 ?_
    refine j_aload_n C dJ7_copyOf_59c91_22 rfl rfl ?_
    refine j_alen C (((upS_ne (by omega)).trans (hrow))) 0 (fun _ => rfl) dJ7_copyOf_59c91_23 ?_
    refine j_eq (st' := [aI n0, aI 0, aR q0, aI 0, aR r0]) ?_
    refine j_iload_n C dJ7_copyOf_59c91_24 rfl rfl ?_
    refine j_mmin C (ab_t2 (List.mem_of_getElem? (i := 117) rfl) rfl) ⟨by omega, by omega⟩ ⟨by omega, by omega⟩ (by decide) (fun _ => Nat.le_of_ble_eq_true rfl) ⟨by decide, by show 0 + a.toNat ≤ 40; omega⟩ dJ7_copyOf_59c91_25 ?_
    refine j_eq (st' := [aI a, aI 0, aR q0, aI 0, aR r0]) ?_ (e1 := by first | rfl | (simp only [List.cons.injEq, and_true]; exact congrArg aI ((by omega))))
    refine j_copy C (ab_t2 (List.mem_of_getElem? (i := 118) rfl) rfl) (ab_t2 (List.mem_of_getElem? (i := 120) rfl) rfl) (ab_t2 (List.mem_of_getElem? (i := 119) rfl) rfl) (ab_t1 (List.mem_of_getElem? (i := 26) rfl) rfl) (((upS_ne (by omega)).trans (hrow))) (upS_at _ _ _) (by omega) (by omega) (by decide) (fun _ => Nat.le_of_ble_eq_true rfl) dJ7_copyOf_59c91_28 ?_
    refine j_aload_n C dJ7_copyOf_59c91_31 rfl rfl ?_
    exact j_aret C hr (Or.inr ⟨_, rfl⟩) (fun _ => Or.inr ⟨_, rfl⟩) (Nat.le_refl _) (by show 0 + a.toNat ≤ 40; omega) dJ7_copyOf_59c91_32 ⟨rfl, rfl, rfl, by rw [zA_ne hne]⟩
  · exact absurd c3 (by omega)
