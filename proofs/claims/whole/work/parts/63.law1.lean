/-! EACH CALL KEEPS WHAT HOLDS BETWEEN THE CALLS -/
theorem wpre_cong {X Y X' Y' : Int → Int} : ∀ k : Nat, (∀ j : Int, 0 ≤ j → j < (k : Nat) → X j = X' j ∧ Y j = Y' j) → wpre X Y k = wpre X' Y' k
  | 0, _ => rfl
  | k + 1, h => by
    have h1 := wpre_cong k (fun j z1 z2 => h j z1 (by omega))
    have h2 := h (k : Nat) (by omega) (by omega)
    simp only [wpre, h1, h2.1, h2.2]
theorem nu_rng {v x : Int} (h : 0 ≤ v ∧ v ≤ 20) (hx : x ∈ nu v) : 0 ≤ x ∧ x ≤ 127 := by
  unfold nu at hx
  split at hx
  · simp only [List.mem_cons, List.not_mem_nil, or_false] at hx; rcases hx with rfl | rfl <;> omega
  · simp only [List.mem_cons, List.not_mem_nil, or_false] at hx; subst hx; omega
theorem wpre_rng {X Y : Int → Int} : ∀ k : Nat, (∀ j : Int, 0 ≤ j → j < (k : Nat) → (0 ≤ X j ∧ X j ≤ 20) ∧ 0 ≤ Y j ∧ Y j ≤ 20) → ∀ x ∈ wpre X Y k, 0 ≤ x ∧ x ≤ 127
  | 0, _, x, hx => by
    simp only [wpre, List.mem_cons, List.not_mem_nil, or_false] at hx
    rcases hx with rfl | rfl | rfl | rfl | rfl <;> omega
  | k + 1, h, x, hx => by
    have h1 := wpre_rng k (fun j z1 z2 => h j z1 (by omega))
    have h2 := h (k : Nat) (by omega) (by omega)
    simp only [wpre, List.mem_append, List.mem_cons, List.not_mem_nil, or_false] at hx
    rcases hx with ((hx | hx) | hx) | hx
    · split at hx
      · exact h1 x hx
      · simp only [List.mem_append, List.mem_cons, List.not_mem_nil, or_false] at hx
        rcases hx with hx | rfl
        · exact h1 x hx
        · omega
    · exact nu_rng h2.1 hx
    · subst hx; omega
    · exact nu_rng h2.2 hx
theorem wtx_cong {X Y X' Y' : Int → Int} {n : Int} (h : ∀ j : Int, 0 ≤ j → j < n → X j = X' j ∧ Y j = Y' j) : wtx X Y n = wtx X' Y' n := by
  unfold wtx; rw [wpre_cong (X := X) (Y := Y) n.toNat (fun j z1 z2 => h j z1 (by omega))]
theorem wtx_rng {X Y : Int → Int} {n : Int} (h : ∀ j : Int, 0 ≤ j → j < n → (0 ≤ X j ∧ X j ≤ 20) ∧ 0 ≤ Y j ∧ Y j ≤ 20) : ∀ x ∈ wtx X Y n, 0 ≤ x ∧ x ≤ 127 := by
  intro x hx
  unfold wtx at hx
  simp only [List.mem_append, List.mem_cons, List.not_mem_nil, or_false] at hx
  rcases hx with hx | rfl | rfl | rfl | rfl
  · exact wpre_rng n.toNat (fun j z1 z2 => h j z1 (by omega)) x hx
  all_goals omega
theorem wtx_len {X Y : Int → Int} {n : Int} (h : n ≤ 40) : (wtx X Y n).length ≤ 400 := by
  unfold wtx
  rw [List.length_append]
  have := wpre_len X Y n.toNat
  show _ + 4 ≤ 400
  omega
section
variable {S S' : ab_St} {F F1 F2 : ab_Fn} {A A1 A2 : ab_An} {U : Int → bst} {nc : Nat → Nat} {T : Int}
theorem LI.tape (h : LI S F A U nc T) (hF : ∀ i, i ≠ 4 → i ≠ 100 → F2 i = F i) (hM : ∀ k, k ≠ 0 → k ≠ 26 → F2 100 k = F 100 k) (hA : ∀ i, i ≠ 15 → i ≠ 125 → i ≠ 127 → i ≠ 90 → A2 i = A i) (hT : LT F2 A2) : LI S F2 A2 U nc (T + 1) :=
  ⟨h.1, h.2.1.to (fun _ _ => rfl) (by rw [hF 2 (by decide) (by decide)]) (hM 11 (by decide) (by decide)) (fun i z1 z2 => hF i (by omega) (by omega)) (fun i z => hA i (by omega) (by omega) (by omega) (by omega)),
    h.2.2.1.to (fun _ _ => rfl) (by rw [hF 3 (by decide) (by decide)]) (hM 18 (by decide) (by decide)) (fun i z1 z2 => hF i (by omega) (by omega)) (fun i z => hA i (by omega) (by omega) (by omega) (by omega)), hT,
    h.2.2.2.2.1.to (fun i z => hA i (by omega) (by omega) (by omega) (by omega)), h.2.2.2.2.2.to (fun k _ _ => by rw [hF 0 (by decide) (by decide)]) (hM 5 (by decide) (by decide)) (hM 12 (by decide) (by decide)) (hM 31 (by decide) (by decide))⟩
theorem L_feed {a b c d e : Int} (h : LI S F A U nc T) (hc : F 4 1 + 20 ≤ 400) (c1 : F1 = upF F 4 1 (F 4 1 + 20)) (c2 : ∀ i, i ≠ 15 → A1 i = A i) (c3 : ∀ j, j < F 4 1 → A1 15 j = A 15 j) (c4 : ∀ k, 0 ≤ k → k < 20 → A1 15 (F 4 1 + k) = fb a b c d e k % 256) (m1 : F2 = upF (upF F1 100 0 0) 100 26 (F1 100 26 + 20)) (m2 : A2 = setRow (upA (upA (upA (upA (upA A1 127 0 a) 127 1 b) 127 2 c) 127 3 d) 127 4 e) 125 (F1 100 26) 20 (fun x => sb (fb a b c d e x))) : LI S F2 A2 U nc (T + 1) := by
  have h26 : F1 100 26 = F 4 1 := by rw [c1, upF_o (by decide)]; exact h.2.2.2.1.1
  have hl := h.2.2.2.1.2.1
  have hA : ∀ i, i ≠ 125 → i ≠ 127 → A2 i = A1 i := fun i z1 z2 => by
    rw [m2, setRow_other z1, upA_other z2, upA_other z2, upA_other z2, upA_other z2, upA_other z2]
  refine h.tape (fun i z1 z2 => by rw [m1, upF_o z2, upF_o z2, c1, upF_o z1]) (fun k z1 z2 => by rw [m1, upF_ne z2, upF_ne z1, c1, upF_o (by decide)]) (fun i z1 z2 z3 _ => (hA i z2 z3).trans (c2 i z1)) ?_
  have e1 : F2 4 1 = F 4 1 + 20 := by rw [m1, upF_o (by decide), upF_o (by decide), c1, upF_at]
  have e2 : F2 100 26 = F 4 1 + 20 := by rw [m1, upF_at, h26]
  refine ⟨e2.trans e1.symm, by rw [e1]; omega, fun i z1 z2 => ?_⟩
  rw [e1] at z2
  rw [hA 15 (by decide) (by decide)]
  have e9 : A2 125 i = if F 4 1 ≤ i then sb (fb a b c d e (i - F 4 1)) else A 125 i := by
    by_cases z : F 4 1 ≤ i
    · rw [if_pos z, m2, h26, setRow_in z (by omega)]
    · rw [if_neg z, m2, h26, setRow_out (by omega), upA_other (by decide), upA_other (by decide), upA_other (by decide), upA_other (by decide), upA_other (by decide), c2 125 (by decide)]
  rw [e9]
  by_cases z : F 4 1 ≤ i
  · rw [if_pos z]
    have e3 := c4 (i - F 4 1) (by omega) (by omega)
    rw [show F 4 1 + (i - F 4 1) = i by omega] at e3
    exact ⟨by rw [e3, sb_m], sb_r _⟩
  · rw [if_neg z, c3 i (by omega)]
    exact h.2.2.2.1.2.2 i z1 (by omega)
theorem L_end {a : Int} (h : LI S F A U nc T) (ha : 0 ≤ a ∧ a ≤ F 4 1) (c1 : F1 = upF F 4 1 a) (m1 : F2 = upF (upF F1 100 0 0) 100 26 a) : LI S F2 A U nc (T + 1) := by
  have hl := h.2.2.2.1.2.1
  refine h.tape (fun i z1 z2 => by rw [m1, upF_o z2, upF_o z2, c1, upF_o z1]) (fun k z1 z2 => by rw [m1, upF_ne z2, upF_ne z1, c1, upF_o (by decide)]) (fun _ _ _ _ _ => rfl) ?_
  have e1 : F2 4 1 = a := by rw [m1, upF_o (by decide), upF_o (by decide), c1, upF_at]
  have e2 : F2 100 26 = a := by rw [m1, upF_at]
  exact ⟨e2.trans e1.symm, by rw [e1]; omega, fun i z1 z2 => h.2.2.2.1.2.2 i z1 (by rw [e1] at z2; omega)⟩
theorem L_write {w t t' : Int} (h : LI S F A U nc T) (hw : 0 ≤ w ∧ w < F 3 2) (c1 : F1 = upF F 4 1 t) (c2 : ∀ j, j ≠ 15 → j ≠ 90 → A1 j = A j) (c3 : tp A1 15 t (wtx (A (350 + w.toNat)) (A (400 + w.toNat)) (nc w.toNat : Nat))) (m1 : F2 = upF (upF F1 100 0 0) 100 26 t') (m2 : ∀ j, j ≠ 125 → A2 j = A1 j) (m3 : tp A2 125 t' (wtx (fun x => A1 113 (40 * w + x)) (fun x => A1 114 (40 * w + x)) (A1 115 w))) : t' = t ∧ (0 ≤ t ∧ t ≤ 400) ∧ LI S F2 A2 U nc (T + 1) := by
  obtain ⟨q1, q2, q3, q4, q5, q6, q7⟩ := h.2.2.1.2.2.2.1 w hw.1 hw.2
  rw [c2 113 (by decide) (by decide), c2 114 (by decide) (by decide), c2 115 (by decide) (by decide), ← q1, ← wtx_cong (X := A (350 + w.toNat)) (Y := A (400 + w.toNat)) (fun j z1 z2 => ⟨(q3 j z1 z2).1, (q3 j z1 z2).2.1⟩)] at m3
  have hr := wtx_rng (X := A (350 + w.toNat)) (Y := A (400 + w.toNat)) (n := (nc w.toNat : Nat)) (fun j z1 z2 => by have := q3 j z1 z2; omega)
  have hn := wtx_len (X := A (350 + w.toNat)) (Y := A (400 + w.toNat)) (n := (nc w.toNat : Nat)) (by omega)
  have et : t' = t := by rw [m3.1, c3.1]
  have hl : 0 ≤ t ∧ t ≤ 400 := by rw [c3.1]; omega
  refine ⟨et, hl, h.tape (fun i z1 z2 => by rw [m1, upF_o z2, upF_o z2, c1, upF_o z1]) (fun k z1 z2 => by rw [m1, upF_ne z2, upF_ne z1, c1, upF_o (by decide)]) (fun i z1 z2 z3 z4 => (m2 i z2).trans (c2 i z1 z4)) ?_⟩
  have e1 : F2 4 1 = t := by rw [m1, upF_o (by decide), upF_o (by decide), c1, upF_at]
  have e2 : F2 100 26 = t := by rw [m1, upF_at, et]
  refine ⟨e2.trans e1.symm, by rw [e1]; exact hl, fun i z1 z2 => ?_⟩
  rw [e1, c3.1] at z2
  have e3 := c3.2 i.toNat (by omega)
  have e4 := m3.2 i.toNat (by omega)
  rw [ab_tn z1] at e3 e4
  rw [m2 15 (by decide), e3, e4]
  have := hr ((wtx (A (350 + w.toNat)) (A (400 + w.toNat)) (nc w.toNat : Nat)).getD i.toNat 0) (by
    rw [List.getD_eq_getElem?_getD, List.getElem?_eq_getElem (by omega)]
    exact List.getElem_mem _)
  omega
theorem L_water {sq a d w : Int} (h : LI S F A U nc T) (h1 : 0 ≤ sq ∧ sq ≤ 279) (h2 : -2 ≤ a ∧ a ≤ 2 ∧ -2 ≤ d ∧ d ≤ 2 ∧ 0 ≤ w ∧ w ≤ 50) (c1 : A1 = upA (upA (upA A 12 sq a) 13 sq d) 14 sq w) (m1 : F2 = upF F 100 0 0) (m2 : A2 = upA (upA (upA A1 102 sq a) 103 sq d) 104 sq w) : LI S F2 A2 U nc (T + 1) := by
  have hA : ∀ i, i ≠ 12 → i ≠ 13 → i ≠ 14 → i ≠ 102 → i ≠ 103 → i ≠ 104 → A2 i = A i := fun i z1 z2 z3 z4 z5 z6 => by
    rw [m2, upA_other z6, upA_other z5, upA_other z4, c1, upA_other z3, upA_other z2, upA_other z1]
  have hF : ∀ i, i ≠ 100 → F2 i = F i := fun i z => by rw [m1, upF_o z]
  have hM : ∀ k, k ≠ 0 → F2 100 k = F 100 k := fun k z => by rw [m1, upF_ne z]
  have e12 : ∀ x, A2 12 x = if x = sq then a else A 12 x := fun x => by rw [m2, upA_other (by decide), upA_other (by decide), upA_other (by decide), c1, upA_other (by decide), upA_other (by decide), upA_if]
  have e13 : ∀ x, A2 13 x = if x = sq then d else A 13 x := fun x => by rw [m2, upA_other (by decide), upA_other (by decide), upA_other (by decide), c1, upA_other (by decide), upA_if, upA_other (by decide)]
  have e14 : ∀ x, A2 14 x = if x = sq then w else A 14 x := fun x => by rw [m2, upA_other (by decide), upA_other (by decide), upA_other (by decide), c1, upA_if, upA_other (by decide), upA_other (by decide)]
  have e102 : ∀ x, A2 102 x = if x = sq then a else A 102 x := fun x => by rw [m2, upA_other (by decide), upA_other (by decide), upA_if, c1, upA_other (by decide), upA_other (by decide), upA_other (by decide)]
  have e103 : ∀ x, A2 103 x = if x = sq then d else A 103 x := fun x => by rw [m2, upA_other (by decide), upA_if, upA_other (by decide), c1, upA_other (by decide), upA_other (by decide), upA_other (by decide)]
  have e104 : ∀ x, A2 104 x = if x = sq then w else A 104 x := fun x => by rw [m2, upA_if, upA_other (by decide), upA_other (by decide), c1, upA_other (by decide), upA_other (by decide), upA_other (by decide)]
  obtain ⟨⟨s1, s2, s3, s4⟩, s5⟩ := h.2.2.2.2.1
  refine ⟨h.1, h.2.1.to (fun _ _ => rfl) (by rw [hF 2 (by decide)]) (hM 11 (by decide)) (fun i z1 z2 => hF i (by omega)) (fun i z => hA i (by omega) (by omega) (by omega) (by omega) (by omega) (by omega)),
    h.2.2.1.to (fun _ _ => rfl) (by rw [hF 3 (by decide)]) (hM 18 (by decide)) (fun i z1 z2 => hF i (by omega)) (fun i z => hA i (by omega) (by omega) (by omega) (by omega) (by omega) (by omega)),
    h.2.2.2.1.to (by rw [hF 4 (by decide)]) (hM 26 (by decide)) (hA 15 (by decide) (by decide) (by decide) (by decide) (by decide) (by decide)) (hA 125 (by decide) (by decide) (by decide) (by decide) (by decide) (by decide)),
    ⟨⟨?_, ?_, ?_, ?_⟩, fun k z1 z2 => ?_⟩, h.2.2.2.2.2.to (fun k _ _ => by rw [hF 0 (by decide)]) (hM 5 (by decide)) (hM 12 (by decide)) (hM 31 (by decide))⟩
  · rw [hA 101 (by decide) (by decide) (by decide) (by decide) (by decide) (by decide), hA 11 (by decide) (by decide) (by decide) (by decide) (by decide) (by decide)]; exact s1
  · funext x; rw [e102, e12, s2]
  · funext x; rw [e103, e13, s3]
  · funext x; rw [e104, e14, s4]
  · rw [hA 11 (by decide) (by decide) (by decide) (by decide) (by decide) (by decide), e12, e13, e14]
    have := s5 k z1 z2
    by_cases z : k = sq
    · rw [if_pos z, if_pos z, if_pos z]; omega
    · rw [if_neg z, if_neg z, if_neg z]; exact this
theorem L_land {sq z : Int} (h : LI S F A U nc T) (hz : z = 0 ∨ z = 1) (c1 : A1 = upA A 11 sq z) (m1 : F2 = upF F 100 0 0) (m2 : A2 = upA A1 101 sq z) : LI S F2 A2 U nc (T + 1) := by
  have hA : ∀ i, i ≠ 11 → i ≠ 101 → A2 i = A i := fun i z1 z2 => by rw [m2, upA_other z2, c1, upA_other z1]
  have hF : ∀ i, i ≠ 100 → F2 i = F i := fun i z => by rw [m1, upF_o z]
  have hM : ∀ k, k ≠ 0 → F2 100 k = F 100 k := fun k z => by rw [m1, upF_ne z]
  have e11 : ∀ x, A2 11 x = if x = sq then z else A 11 x := fun x => by rw [m2, upA_other (by decide), c1, upA_if]
  have e101 : ∀ x, A2 101 x = if x = sq then z else A 101 x := fun x => by rw [m2, upA_if, c1, upA_other (by decide)]
  obtain ⟨⟨s1, s2, s3, s4⟩, s5⟩ := h.2.2.2.2.1
  refine ⟨h.1, h.2.1.to (fun _ _ => rfl) (by rw [hF 2 (by decide)]) (hM 11 (by decide)) (fun i z1 z2 => hF i (by omega)) (fun i z => hA i (by omega) (by omega)),
    h.2.2.1.to (fun _ _ => rfl) (by rw [hF 3 (by decide)]) (hM 18 (by decide)) (fun i z1 z2 => hF i (by omega)) (fun i z => hA i (by omega) (by omega)),
    h.2.2.2.1.to (by rw [hF 4 (by decide)]) (hM 26 (by decide)) (hA 15 (by decide) (by decide)) (hA 125 (by decide) (by decide)),
    ⟨⟨?_, ?_, ?_, ?_⟩, fun k z1 z2 => ?_⟩, h.2.2.2.2.2.to (fun k _ _ => by rw [hF 0 (by decide)]) (hM 5 (by decide)) (hM 12 (by decide)) (hM 31 (by decide))⟩
  · funext x; rw [e101, e11, s1]
  · rw [hA 102 (by decide) (by decide), hA 12 (by decide) (by decide)]; exact s2
  · rw [hA 103 (by decide) (by decide), hA 13 (by decide) (by decide)]; exact s3
  · rw [hA 104 (by decide) (by decide), hA 14 (by decide) (by decide)]; exact s4
  · rw [hA 12 (by decide) (by decide), hA 13 (by decide) (by decide), hA 14 (by decide) (by decide), e11]
    have := s5 k z1 z2
    by_cases z : k = sq
    · rw [if_pos z]; exact ⟨hz, this.2⟩
    · rw [if_neg z]; exact this
theorem L_cancel {w : Int} (h : LI S F A U nc T) (hw : 0 ≤ w ∧ w < F 3 2) (hT : 0 ≤ T ∧ T ≤ 512) (c1 : F1 = upF (upF F (300 + w.toNat) 4 1) (300 + w.toNat) 5 (F 0 10)) (c2 : ∀ i, i ≠ 90 → A1 i = A i) (m1 : F2 = upF F1 100 0 0) (m2 : A2 = upA A1 117 w (F1 100 5)) : LI S F2 A2 U nc (T + 1) := by
  have hnow := h.2.2.2.2.2.2.1
  have e5 : F1 100 5 = F 0 10 := by rw [c1, upF_o (by omega), upF_o (by omega)]; exact h.2.2.2.2.2.1
  have hw9 := h.2.2.1.2.1
  have hF : ∀ i, i ≠ 100 → i ≠ 300 + w.toNat → F2 i = F i := fun i z1 z2 => by rw [m1, upF_o z1, c1, upF_o z2, upF_o z2]
  have hM : ∀ k, k ≠ 0 → F2 100 k = F 100 k := fun k z => by rw [m1, upF_ne z, c1, upF_o (by omega), upF_o (by omega)]
  have hA9 : ∀ i, i ≠ 117 → i ≠ 90 → A2 i = A i := fun i z z9 => by rw [m2, upA_other z, c2 i z9]
  have hA : ∀ i, i ≠ 117 ∧ i ≠ 90 → A2 i = A i := fun i z => hA9 i z.1 z.2
  have e117 : ∀ x, A2 117 x = if x = w then F 0 10 else A 117 x := fun x => by rw [m2, upA_if, e5, c2 117 (by decide)]
  obtain ⟨⟨a1, e, N, a2, a3, a4, a5, a6⟩, b1, b2, b3, b4, b5⟩ := h.2.2.1
  have e3 : F2 3 2 = F 3 2 := by rw [hF 3 (by decide) (by omega)]
  refine ⟨h.1, h.2.1.to (fun _ _ => rfl) (by rw [hF 2 (by decide) (by omega)]) (hM 11 (by decide)) (fun i z1 z2 => hF i (by omega) (by omega)) (fun i z => hA i (by omega)), ⟨?_, ?_, ?_, fun x z1 z2 => ?_, ?_, fun x z1 z2 => ?_⟩,
    h.2.2.2.1.to (by rw [hF 4 (by decide) (by omega)]) (hM 26 (by decide)) (hA 15 (by decide)) (hA 125 (by decide)), h.2.2.2.2.1.to (fun i z => hA i (by omega)), h.2.2.2.2.2.to (fun k _ _ => by rw [hF 0 (by decide) (by omega)]) (hM 5 (by decide)) (hM 12 (by decide)) (hM 31 (by decide))⟩
  · rw [e3]; exact ⟨a1, e, N, a2, a3, a4, a5, a6⟩
  · rw [e3]; exact b1
  · rw [e3, hM 18 (by decide)]; exact b2
  · rw [e3] at z2
    by_cases z : x = w
    · subst z
      obtain ⟨q1, q2, q3, q4, q5, q6, q7⟩ := b3 x z1 z2
      have f2 : F2 (300 + x.toNat) 2 = F (300 + x.toNat) 2 := by rw [m1, upF_o (by omega), c1, upF_ne (by decide), upF_ne (by decide)]
      have f4 : F2 (300 + x.toNat) 4 = 1 := by rw [m1, upF_o (by omega), c1, upF_ne (by decide), upF_at]
      have f5 : F2 (300 + x.toNat) 5 = F 0 10 := by rw [m1, upF_o (by omega), c1, upF_at]
      unfold LW1
      rw [f2, f4, f5, hA 113 (by decide), hA 114 (by decide), hA 115 (by decide), hA 116 (by decide), hA (350 + x.toNat) (by omega), hA (400 + x.toNat) (by omega), hA (450 + x.toNat) (by omega), e117, if_pos rfl]
      exact ⟨q1, q2, q3, q4, Or.inr ⟨rfl, rfl, by omega⟩, ⟨by omega, by omega⟩, q7⟩
    · obtain ⟨q1, q2, q3, q4, q5, q6, q7⟩ := b3 x z1 z2
      unfold LW1
      rw [hF (300 + x.toNat) (by omega) (by omega), hA 113 (by decide), hA 114 (by decide), hA 115 (by decide), hA 116 (by decide), hA (350 + x.toNat) (by omega), hA (400 + x.toNat) (by omega), hA (450 + x.toNat) (by omega), e117, if_neg z]
      exact ⟨q1, q2, q3, q4, q5, q6, q7⟩
  · rw [e3]; exact b4
  · rw [hA 116 (by decide), e117]
    refine ⟨(b5 x z1 z2).1, ?_⟩
    by_cases z : x = w
    · rw [if_pos z]; exact ⟨by omega, by omega⟩
    · rw [if_neg z]; exact (b5 x z1 z2).2
end
