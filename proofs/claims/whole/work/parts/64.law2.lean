section
variable {S S' : ab_St} {F F1 F2 : ab_Fn} {A A1 A2 : ab_An} {U U' : Int → bst} {nc : Nat → Nat} {T : Int}
theorem LI.bergs (h : LI S F A U nc T) (hB : ∀ b, 0 ≤ b → b < F 2 2 → BC F2 A2 b.toNat (U' b) ∧ BR A2 b (U' b) ∧ BW (U' b)) (hF : ∀ i, i ≠ 0 → i ≠ 100 → (i < 200 ∨ 210 ≤ i) → F2 i = F i) (hM : ∀ k, k ≠ 0 → k ≠ 5 → F2 100 k = F 100 k) (hA : ∀ i, i ≠ 28 → i ≠ 90 → (i < 106 ∨ 110 < i) → i ≠ 119 → (i < 220 ∨ 230 ≤ i) → A2 i = A i) (hL : LF F2 (T + 1)) : LI S F2 A2 U' nc (T + 1) := by
  obtain ⟨a1, a2, a3, a4, a5, a6, a7⟩ := h.2.1
  have e2 : F2 2 2 = F 2 2 := by rw [hF 2 (by decide) (by decide) (by decide)]
  refine ⟨h.1, ?_, h.2.2.1.to (fun _ _ => rfl) (by rw [hF 3 (by decide) (by decide) (by decide)]) (hM 18 (by decide) (by decide)) (fun i z1 z2 => hF i (by omega) (by omega) (by omega)) (fun i z => hA i (by omega) (by omega) (by omega) (by omega) (by omega)),
    h.2.2.2.1.to (by rw [hF 4 (by decide) (by decide) (by decide)]) (hM 26 (by decide) (by decide)) (hA 15 (by decide) (by decide) (by decide) (by decide) (by decide)) (hA 125 (by decide) (by decide) (by decide) (by decide) (by decide)),
    h.2.2.2.2.1.to (fun i z => hA i (by omega) (by omega) (by omega) (by omega) (by omega)), hL⟩
  unfold LB
  rw [e2, hM 11 (by decide) (by decide)]
  exact ⟨a1, a2, a3, hB, a5, a6, a7⟩
theorem L_step {n : Int} (h : LI S F A U nc T) (hn : 0 ≤ n ∧ n ≤ 50) (c0 : ∀ k, k ≠ 10 → F1 0 k = F 0 k) (c1 : F1 0 10 = F 0 10 + n) (c2 : ∀ i, i ≠ 0 → (i < 200 ∨ 210 ≤ i) → F1 i = F i) (c3 : ∀ b, 0 ≤ b → b < F 2 2 → BC F1 A1 b.toNat (bsn (A 11) (A 12) (A 13) (A 14) n.toNat (U b))) (c4 : ∀ i, i ≠ 28 → i ≠ 90 → (i < 220 ∨ 230 ≤ i) → A1 i = A i) (m1 : F2 = upF (upF F1 100 0 0) 100 5 (F1 100 5 + n)) (m2 : ∀ b, 0 ≤ b → b < F1 100 11 → BR A2 b (bsn (A1 101) (A1 102) (A1 103) (A1 104) n.toNat (U b))) (m3 : ∀ i, i ≠ 106 → i ≠ 107 → i ≠ 108 → i ≠ 109 → i ≠ 110 → i ≠ 119 → A2 i = A1 i) : LI S F2 A2 (fun b => bsn (A 11) (A 12) (A 13) (A 14) n.toNat (U b)) nc (T + 1) := by
  have hs := h.2.2.2.2.1
  have hb3 := h.2.1.2.2.1
  have hF : ∀ i, i ≠ 100 → F2 i = F1 i := fun i z => by rw [m1, upF_o z, upF_o z]
  have e100 : F1 100 = F 100 := c2 100 (by decide) (by decide)
  refine h.bergs (fun b z1 z2 => ⟨(c3 b z1 z2).to (hF _ (by have := h.2.1.2.1; omega)) (m3 _ (by omega) (by omega) (by omega) (by omega) (by omega) (by omega)), ?_, bsn_W (h.2.1.2.2.2.1 b z1 z2).2.2 (fun k y1 y2 => (hs.2 k y1 y2).2.2) _⟩) (fun i z1 z2 z3 => (hF i z2).trans (c2 i z1 z3)) (fun k z1 z2 => by rw [m1, upF_ne z2, upF_ne z1, e100]) (fun i z1 z2 z3 z4 z5 => (m3 i (by omega) (by omega) (by omega) (by omega) (by omega) z4).trans (c4 i z1 z2 z5)) ?_
  · have q := m2 b z1 (by rw [e100, hb3]; exact z2)
    rw [c4 101 (by decide) (by decide) (by decide), c4 102 (by decide) (by decide) (by decide), c4 103 (by decide) (by decide) (by decide), c4 104 (by decide) (by decide) (by decide), hs.1.1, hs.1.2.1, hs.1.2.2.1, hs.1.2.2.2] at q
    exact q
  · obtain ⟨a1, a2, a3, a4, a5, a6⟩ := h.2.2.2.2.2
    unfold LF
    rw [hF 0 (by decide), c1, c0 11 (by decide), c0 12 (by decide), m1, upF_at, upF_ne (by decide), upF_ne (by decide), upF_ne (by decide), upF_ne (by decide), e100]
    exact ⟨by omega, by omega, a3, by omega, a5, a6⟩
theorem L_look {sq sh t : Int} (h : LI S F A U nc T) (h1 : 0 ≤ sq ∧ sq ≤ 279) (h2 : 0 ≤ sh ∧ sh ≤ 100) (c2 : ∀ i, (i < 200 ∨ 210 ≤ i) → F1 i = F i) (c3 : ∀ b, 0 ≤ b → b < F 2 2 → BC F1 A1 b.toNat (blk sq sh (U b))) (c4 : ∀ i, i ≠ 90 → (i < 220 ∨ 230 ≤ i) → A1 i = A i) (m1 : F2 = upF F1 100 0 t) (m2 : ∀ b, 0 ≤ b → b < F1 100 11 → BR A2 b (blk sq sh (U b))) (m3 : ∀ i, i ≠ 106 → i ≠ 110 → A2 i = A1 i) : LI S F2 A2 (fun b => blk sq sh (U b)) nc (T + 1) := by
  have hb3 := h.2.1.2.2.1
  have hF : ∀ i, i ≠ 100 → F2 i = F1 i := fun i z => by rw [m1, upF_o z]
  have e100 : F1 100 = F 100 := c2 100 (by decide)
  refine h.bergs (fun b z1 z2 => ⟨(c3 b z1 z2).to (hF _ (by have := h.2.1.2.1; omega)) (m3 _ (by omega) (by omega)), m2 b z1 (by rw [e100, hb3]; exact z2), blk_W (h.2.1.2.2.2.1 b z1 z2).2.2 h1 h2⟩) (fun i z1 z2 z3 => (hF i z2).trans (c2 i z3)) (fun k z1 z2 => by rw [m1, upF_ne z1, e100]) (fun i z1 z2 z3 z4 z5 => (m3 i (by omega) (by omega)).trans (c4 i z2 z5)) ?_
  exact h.2.2.2.2.2.to (fun k _ _ => by rw [hF 0 (by decide), c2 0 (by decide)]) (by rw [m1, upF_ne (by decide), e100]) (by rw [m1, upF_ne (by decide), e100]) (by rw [m1, upF_ne (by decide), e100])
theorem LO.to (h : LO S) (h1 : ∀ j, j ≤ 28 → j ≠ 2 → j ≠ 3 → S' j = S j) (h2 : ∀ j, 90 ≤ j → j ≤ 137 → S' j = S j) : LO S' :=
  ⟨SC_to h.1 h1, fun i z1 z2 z3 => by rw [h2 i (by omega) z2]; exact h.2.1 i z1 z2 z3, by rw [h2 90 (by decide) (by decide)]; exact h.2.2⟩
/-- a berg told anew at the number r -/
theorem bnew_BR {A1 A2 : ab_An} {r sq z : Int} (h0 : 0 ≤ r) (m : A2 = (upA (upA (upA (upA (setRow A1 106 (280 * r) 280 (fun x => if x = sq then 1000000 else 0)) 107 r z) 108 r 0) 109 r 0) 110 r 0)) : BR A2 r (bnew sq z) ∧ (∀ b u, b ≠ r → BR A1 b u → BR A2 b u) ∧ ∀ i, (i < 106 ∨ 110 < i) → A2 i = A1 i := by
  have e6 : ∀ x, A2 106 x = if 280 * r ≤ x ∧ x < 280 * r + 280 then (if x - 280 * r = sq then 1000000 else 0) else A1 106 x := fun x => by
    rw [m, upA_other (by decide), upA_other (by decide), upA_other (by decide), upA_other (by decide)]
    by_cases q : 280 * r ≤ x ∧ x < 280 * r + 280
    · rw [if_pos q, setRow_in q.1 q.2]
    · rw [if_neg q, setRow_out (by omega)]
  have e7 : ∀ x, A2 107 x = if x = r then z else A1 107 x := fun x => by rw [m, upA_other (by decide), upA_other (by decide), upA_other (by decide), upA_if, setRow_other (by decide)]
  have e8 : ∀ x, A2 108 x = if x = r then 0 else A1 108 x := fun x => by rw [m, upA_other (by decide), upA_other (by decide), upA_if, upA_other (by decide), setRow_other (by decide)]
  have e9 : ∀ x, A2 109 x = if x = r then 0 else A1 109 x := fun x => by rw [m, upA_other (by decide), upA_if, upA_other (by decide), upA_other (by decide), setRow_other (by decide)]
  have e10 : ∀ x, A2 110 x = if x = r then 0 else A1 110 x := fun x => by rw [m, upA_if, upA_other (by decide), upA_other (by decide), upA_other (by decide), setRow_other (by decide)]
  refine ⟨⟨fun k z1 z2 => ?_, by rw [e7, if_pos rfl]; rfl, by rw [e8, if_pos rfl]; rfl, by rw [e9, if_pos rfl]; rfl, by rw [e10, if_pos rfl]; rfl⟩, fun b u hb hu => ⟨fun k z1 z2 => ?_, by rw [e7, if_neg hb]; exact hu.2.1, by rw [e8, if_neg hb]; exact hu.2.2.1, by rw [e9, if_neg hb]; exact hu.2.2.2.1, by rw [e10, if_neg hb]; exact hu.2.2.2.2⟩, fun i hi => ?_⟩
  · rw [e6, if_pos (by omega), show 280 * r + k - 280 * r = k by omega]; rfl
  · rw [e6, if_neg (by omega)]; exact hu.1 k z1 z2
  · rw [m, upA_other (by omega), upA_other (by omega), upA_other (by omega), upA_other (by omega), setRow_other (by omega)]
theorem L_tell {sq z r : Int} (h : LI S F A U nc T) (hT : 0 ≤ T) (h1 : 0 ≤ sq ∧ sq ≤ 279) (h2 : 1 ≤ z ∧ z ≤ 1000) (hr0 : 0 ≤ r ∧ r < 10) (c1 : BC F1 A1 r.toNat (bnew sq z)) (c2 : ∀ i, i ≠ 220 + r.toNat → i ≠ 90 → A1 i = A i) (c3 : ∀ i, i ≠ 0 → i ≠ 2 → i ≠ 200 + r.toNat → F1 i = F i) (c4 : ∀ k, k ≠ 11 → F1 0 k = F 0 k)
    (c5 : (r = F 2 2 ∧ F1 0 11 = F 0 11 ∧ F1 2 2 = F 2 2 + 1 ∧ BG S' (F 2 2 + 1) ∧ (∀ i, i ≠ 2 → i ≠ 590 → i ≠ 200 + (F 2 2).toNat → i ≠ 220 + (F 2 2).toNat → S' i = S i) ∧ F2 = upF (upF F1 100 0 0) 100 11 (F 100 11 + 1)) ∨ (r < F 2 2 ∧ F1 0 11 = F 0 11 + 1 ∧ F1 2 = F 2 ∧ S' = S ∧ F2 = upF (upF F1 100 0 0) 100 12 (F 100 12 + 1)))
    (m2 : A2 = (upA (upA (upA (upA (setRow A1 106 (280 * r) 280 (fun x => if x = sq then 1000000 else 0)) 107 r z) 108 r 0) 109 r 0) 110 r 0)) : LI S' F2 A2 (fun b => if b = r then bnew sq z else U b) nc (T + 1) := by
  obtain ⟨k1, k2, k3⟩ := bnew_BR hr0.1 m2
  obtain ⟨a1, a2, a3, a4, a5, a6, a7⟩ := h.2.1
  obtain ⟨f1, f2, f3, f4, f5, f6⟩ := h.2.2.2.2.2
  have e100 : F1 100 = F 100 := c3 100 (by decide) (by decide) (by omega)
  have hF : ∀ i, i ≠ 100 → F2 i = F1 i := fun i q => by rcases c5 with c | c; rw [c.2.2.2.2.2, upF_o q, upF_o q]; rw [c.2.2.2.2, upF_o q, upF_o q]
  have hM : ∀ k, k ≠ 0 → k ≠ 11 → k ≠ 12 → F2 100 k = F 100 k := fun k q1 q2 q3 => by rcases c5 with c | c; rw [c.2.2.2.2.2, upF_ne q2, upF_ne q1, e100]; rw [c.2.2.2.2, upF_ne q3, upF_ne q1, e100]
  have hA : ∀ i, i ≠ 220 + r.toNat → i ≠ 90 → (i < 106 ∨ 110 < i) → A2 i = A i := fun i q1 q2 q3 => (k3 i q3).trans (c2 i q1 q2)
  have hS : ∀ i, i ≠ 2 → i ≠ 590 → (i < 200 ∨ 230 ≤ i) → S' i = S i := fun i q1 q2 q3 => by
    rcases c5 with c | c
    · exact c.2.2.2.2.1 i q1 q2 (by omega) (by omega)
    · rw [c.2.2.2.1]
  have bc : ∀ b, 0 ≤ b → b < F 2 2 → b ≠ r → BC F2 A2 b.toNat (U b) ∧ BR A2 b (U b) ∧ BW (U b) := fun b q1 q2 q3 => by
    obtain ⟨y1, y2, y3⟩ := a4 b q1 q2
    refine ⟨y1.to (by rw [hF _ (by omega), c3 _ (by omega) (by omega) (by omega)]) (hA _ (by omega) (by omega) (by omega)), k2 b (U b) q3 ?_, y3⟩
    unfold BR
    rw [c2 106 (by omega) (by omega), c2 107 (by omega) (by omega), c2 108 (by omega) (by omega), c2 109 (by omega) (by omega), c2 110 (by omega) (by omega)]
    exact y2
  have bn : BC F2 A2 r.toNat (bnew sq z) := c1.to (hF _ (by omega)) (k3 _ (by omega))
  have hW := bnew_W h1 h2
  refine ⟨h.1.to (fun j q1 q2 q3 => hS j q2 (by omega) (by omega)) (fun j q1 q2 => hS j (by omega) (by omega) (by omega)), ?_,
    h.2.2.1.to (fun i q => hS i (by omega) (by omega) (by omega)) (by rw [hF 3 (by decide), c3 3 (by decide) (by decide) (by omega)]) (hM 18 (by decide) (by decide) (by decide)) (fun i q1 q2 => by rw [hF i (by omega), c3 i (by omega) (by omega) (by omega)]) (fun i q => hA i (by omega) (by omega) (by omega)),
    h.2.2.2.1.to (by rw [hF 4 (by decide), c3 4 (by decide) (by decide) (by omega)]) (hM 26 (by decide) (by decide) (by decide)) (hA 15 (by omega) (by decide) (by decide)) (hA 125 (by omega) (by decide) (by decide)), h.2.2.2.2.1.to (fun i q => hA i (by omega) (by omega) (by omega)), ?_⟩
  · rcases c5 with ⟨d1, d2, d3, d4, d5, d6⟩ | ⟨d1, d2, d3, d4, d5⟩
    · have e2 : F2 2 2 = F 2 2 + 1 := by rw [hF 2 (by decide), d3]
      have e11 : F2 100 11 = F 2 2 + 1 := by rw [d6, upF_at, a3]
      unfold LB
      rw [e2, e11]
      refine ⟨d4, by omega, rfl, fun b q1 q2 => ?_, fun b q1 q2 => ?_, fun q => by omega, ?_⟩
      · by_cases q : b = r
        · subst q; dsimp only; rw [if_pos rfl]; exact ⟨bn, k1, hW⟩
        · dsimp only; rw [if_neg q]; exact bc b q1 (by omega) q
      · rw [d5 _ (by omega) (by omega) (by omega) (by omega), d5 _ (by omega) (by omega) (by omega) (by omega)]; exact a5 b (by omega) q2
      · rw [d5 591 (by decide) (by decide) (by omega) (by omega)]; exact a7
    · have e2 : F2 2 2 = F 2 2 := by rw [hF 2 (by decide), d3]
      have e11 : F2 100 11 = F 100 11 := by rw [d5, upF_ne (by decide), upF_ne (by decide), e100]
      unfold LB
      rw [e2, e11, d4]
      refine ⟨a1, a2, a3, fun b q1 q2 => ?_, a5, a6, a7⟩
      by_cases q : b = r
      · subst q; dsimp only; rw [if_pos rfl]; exact ⟨bn, k1, hW⟩
      · dsimp only; rw [if_neg q]; exact bc b q1 q2 q
  · rcases c5 with ⟨d1, d2, d3, d4, d5, d6⟩ | ⟨d1, d2, d3, d4, d5⟩
    · unfold LF
      rw [hF 0 (by decide), d2, c4 10 (by decide), c4 12 (by decide), d6, upF_ne (by decide), upF_ne (by decide), upF_ne (by decide), upF_ne (by decide), upF_ne (by decide), upF_ne (by decide), e100]
      exact ⟨f1, by omega, f3, by omega, f5, f6⟩
    · unfold LF
      rw [hF 0 (by decide), d2, c4 10 (by decide), c4 12 (by decide), d5, upF_at, upF_ne (by decide), upF_ne (by decide), upF_ne (by decide), upF_ne (by decide), e100]
      exact ⟨f1, by omega, by omega, by omega, f5, f6⟩
/-- a warning more -/
theorem L_newW {n : Int} {X Y : Int → Int} {fx ax : Nat → Prop} {A3 : ab_An} (h : LI S F A U nc T) (hT : 0 ≤ T ∧ T ≤ 512) (hn : 1 ≤ n ∧ n ≤ 40) (hXY : ∀ k, 0 ≤ k → k < n → 0 ≤ X k ∧ X k ≤ 20 ∧ 0 ≤ Y k ∧ Y k ≤ 14) (hw : F 3 2 < 40) (c : NWC S S' F F1 A A1 nc n X Y fx ax) (hfx : ∀ i, fx i → i = 0 ∨ i = 4 ∨ i = 5 ∨ i = 6 ∨ i = 8) (hax : ∀ i, ax i → (16 ≤ i ∧ i ≤ 21) ∨ i = 27)
    (h90 : ∀ i, i ≠ 90 → A3 i = A1 i) (m : NW A3 A2 (F 3 2) (F 0 10) n X Y) (mA : ∀ i, (i < 113 ∨ 117 < i) → (i < 120 ∨ 123 < i) → i ≠ 133 → i ≠ 134 → A2 i = A3 i) (mF : ∀ i, i ≠ 100 → F2 i = F1 i) (m18 : F2 100 18 = F 3 2 + 1) (m11 : F2 100 11 = F 100 11) :
    LO S' ∧ LB S' F2 A2 U ∧ LW S' F2 A2 (fun w => if w = (F 3 2).toNat then n.toNat else nc w) ∧ LSe A2 := by
  obtain ⟨c1, c2, c3, c4, ⟨c51, c52, c53⟩, c6, c7, c8⟩ := c
  obtain ⟨m1, m2, m3, m4, m5⟩ := m
  obtain ⟨w1, w2, w3, w4, w5, w6⟩ := h.2.2.1
  have hnow := h.2.2.2.2.2.2.1
  have hfx' : ∀ i, i ≠ 0 → i ≠ 4 → i ≠ 5 → i ≠ 6 → i ≠ 8 → ¬ fx i := fun i z1 z2 z3 z4 z5 q => by have := hfx i q; omega
  have hax' : ∀ i, (i < 16 ∨ 21 < i) → i ≠ 27 → ¬ ax i := fun i z1 z2 q => by have := hax i q; omega
  have hA : ∀ i, (i < 113 ∨ 117 < i) → (i < 120 ∨ 123 < i) → i ≠ 133 → i ≠ 134 → i ≠ 90 → A2 i = A1 i := fun i z1 z2 z3 z4 z5 => (mA i z1 z2 z3 z4).trans (h90 i z5)
  have e3 : F2 3 2 = F 3 2 + 1 := by rw [mF 3 (by decide), c3]
  have b113 : ∀ j, 113 ≤ j → j ≤ 117 → A3 j = A j := fun j z1 z2 => (h90 j (by omega)).trans (c6 j (by omega) (by omega) (by omega) (hax' j (by omega) (by omega)))
  have hSi : ∀ i, i ≠ 3 → (i < 300 ∨ 490 ≤ i) → (i < 600 ∨ 640 ≤ i) → S' i = S i := fun i z1 z2 z3 => c2 i z1 (by omega) (by omega) (by omega) (by omega) (by omega)
  refine ⟨h.1.to (fun j z1 z2 z3 => hSi j z3 (by omega) (by omega)) (fun j z1 z2 => hSi j (by omega) (by omega) (by omega)), h.2.1.to (fun i z => hSi i (by omega) (by omega) (by omega)) (by rw [mF 2 (by decide), c4 2 (by decide) (by omega) (hfx' 2 (by decide) (by decide) (by decide) (by decide) (by decide))]) m11 (fun i z1 z2 => by rw [mF i (by omega), c4 i (by omega) (by omega) (hfx' i (by omega) (by omega) (by omega) (by omega) (by omega))]) (fun i z => by rw [hA i (by omega) (by omega) (by omega) (by omega) (by omega), c6 i (by omega) (by omega) (by omega) (hax' i (by omega) (by omega))]), ?_, h.2.2.2.2.1.to (fun i z => by rw [hA i (by omega) (by omega) (by omega) (by omega) (by omega), c6 i (by omega) (by omega) (by omega) (hax' i (by omega) (by omega))])⟩
  unfold LW
  rw [e3]
  refine ⟨c1, by omega, m18, fun w z1 z2 => ?_, fun w z1 z2 => ?_, fun w z1 z2 => ?_⟩
  · by_cases z : w = F 3 2
    · subst z
      have eX : ∀ k, 0 ≤ k → k < n → A2 (350 + (F 3 2).toNat) k = X k ∧ A2 (400 + (F 3 2).toNat) k = Y k := fun k y1 y2 => by
        rw [hA _ (by omega) (by omega) (by omega) (by omega) (by omega), hA _ (by omega) (by omega) (by omega) (by omega) (by omega)]; exact c7 k y1 y2
      unfold LW1
      dsimp only
      rw [if_pos rfl]
      have en : ((n.toNat : Nat) : Int) = n := Int.toNat_of_nonneg (by omega)
      rw [en]
      refine ⟨by rw [m3, if_pos rfl], by omega, fun k y1 y2 => ?_, by rw [mF _ (by omega), c51, m4, if_pos rfl], Or.inl ⟨by rw [mF _ (by omega), c52], by rw [m5, if_pos rfl]⟩, by rw [mF _ (by omega), c53]; exact ⟨by decide, by decide⟩, fun y y1 y2 => ?_⟩
      · have q := eX k y1 y2
        rw [q.1, q.2, m1, if_pos (by omega), m2, if_pos (by omega), show 40 * F 3 2 + k - 40 * F 3 2 = k by omega]
        exact ⟨rfl, rfl, hXY k y1 y2⟩
      · rw [hA _ (by omega) (by omega) (by omega) (by omega) (by omega), c8 y y1 y2]
        have e9 : wIn X Y n = wIn (A2 (350 + (F 3 2).toNat)) (A2 (400 + (F 3 2).toNat)) n := funext fun s => wIn_cong hn.1 (fun j y1 y2 => ⟨(eX j y1 y2).1.symm, (eX j y1 y2).2.symm⟩)
        rw [e9]
    · obtain ⟨q1, q2, q3, q4, q5, q6, q7⟩ := w4 w z1 (by omega)
      have hne : w.toNat ≠ (F 3 2).toNat := by omega
      have r3 : A2 (350 + w.toNat) = A (350 + w.toNat) := by rw [hA _ (by omega) (by omega) (by omega) (by omega) (by omega), c6 _ (by omega) (by omega) (by omega) (hax' _ (by omega) (by omega))]
      have r4 : A2 (400 + w.toNat) = A (400 + w.toNat) := by rw [hA _ (by omega) (by omega) (by omega) (by omega) (by omega), c6 _ (by omega) (by omega) (by omega) (hax' _ (by omega) (by omega))]
      have r5 : A2 (450 + w.toNat) = A (450 + w.toNat) := by rw [hA _ (by omega) (by omega) (by omega) (by omega) (by omega), c6 _ (by omega) (by omega) (by omega) (hax' _ (by omega) (by omega))]
      have rF : F2 (300 + w.toNat) = F (300 + w.toNat) := by rw [mF _ (by omega), c4 _ (by omega) (by omega) (hfx' _ (by omega) (by omega) (by omega) (by omega) (by omega))]
      unfold LW1
      dsimp only
      rw [if_neg hne, r3, r4, r5, rF, m3, if_neg z, m4, if_neg z, m5, if_neg z, b113 115 (by decide) (by decide), b113 116 (by decide) (by decide), b113 117 (by decide) (by decide)]
      refine ⟨q1, q2, fun k y1 y2 => ?_, q4, q5, q6, q7⟩
      rw [m1, if_neg (by omega), m2, if_neg (by omega), b113 113 (by decide) (by decide), b113 114 (by decide) (by decide)]
      exact q3 k y1 y2
  · have q := w5 w (by omega) z2
    rw [c2 _ (by omega) (by omega) (by omega) (by omega) (by omega) (by omega), c2 _ (by omega) (by omega) (by omega) (by omega) (by omega) (by omega), c2 _ (by omega) (by omega) (by omega) (by omega) (by omega) (by omega), c2 _ (by omega) (by omega) (by omega) (by omega) (by omega) (by omega), c2 (600 + w) (by omega) (by omega) (by omega) (by omega) (by omega) (Or.inr (Or.inr ⟨by omega, q.2.2.2.2⟩))]
    exact q
  · rw [m4, m5, b113 116 (by decide) (by decide), b113 117 (by decide) (by decide)]
    have q := w6 w z1 z2
    by_cases z : w = F 3 2
    · rw [if_pos z, if_pos z]; exact ⟨⟨by omega, by omega⟩, ⟨by decide, by decide⟩⟩
    · rw [if_neg z, if_neg z]; exact q
end
