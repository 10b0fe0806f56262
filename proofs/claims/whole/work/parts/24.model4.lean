/-! a berg: parts, size, age, out, gone -/
abbrev bst : Type := (Int → Int) × Int × Int × Int × Int
def bsM (ld ac up w : Int → Int) (u : bst) : Int := mw w (spT ld (drT ld ac up u.1)) 280
def bsS (ld ac up w : Int → Int) (u : bst) : Int := if bsM ld ac up w u = 1000000 then u.2.1 else u.2.1 - bsM ld ac up w u
/-- one step of a berg -/
def bs1 (ld ac up w : Int → Int) (u : bst) : bst := if ¬ u.2.2.2.2 = 0 then u else
  (fun t => if bsM ld ac up w u = 1000000 ∨ bsS ld ac up w u ≤ 0 then 0 else spT ld (drT ld ac up u.1) t, bsS ld ac up w u, u.2.2.1 + 1, u.2.2.2.1 + drT ld ac up u.1 (-1), if bsM ld ac up w u = 1000000 ∨ bsS ld ac up w u ≤ 0 then 1 else 0)
def bsn (ld ac up w : Int → Int) : Nat → bst → bst
  | 0, u => u
  | n + 1, u => bs1 ld ac up w (bsn ld ac up w n u)
/-- a berg that may be: its parts are none below 0, at most a million; one that is gone has none -/
def BW (u : bst) : Prop := (∀ k, 0 ≤ k → k < 280 → 0 ≤ u.1 k) ∧ sm u.1 280 ≤ 1000000 ∧ -50 ≤ u.2.1 ∧ u.2.1 ≤ 1000 ∧ (u.2.2.2.2 = 0 ∨ u.2.2.2.2 = 1) ∧ (u.2.2.2.2 = 0 → 1 ≤ u.2.1) ∧ (u.2.2.2.2 = 1 → ∀ k, 0 ≤ k → k < 280 → u.1 k = 0)
/-- the reference holds the berg u as its number b -/
def BR (A : ab_An) (b : Int) (u : bst) : Prop := (∀ k, 0 ≤ k → k < 280 → A 106 (280 * b + k) = u.1 k) ∧ A 107 b = u.2.1 ∧ A 108 b = u.2.2.1 ∧ A 109 b = u.2.2.2.1 ∧ A 110 b = u.2.2.2.2
theorem drT_cong {ld ac up p q : Int → Int} (h : ∀ k, 0 ≤ k → k < 280 → p k = q k) (t : Int) : drT ld ac up p t = drT ld ac up q t := sm_cong (n := 280) (fun k a b => by simp only [cb]; rw [h k a (by omega)])
theorem spT_cong {ld p q : Int → Int} (h : ∀ k, 0 ≤ k → k < 280 → p k = q k) {t : Int} (h0 : 0 ≤ t) (h1 : t < 280) : spT ld p t = spT ld q t := by
  unfold spT
  rw [h t h0 h1]
  refine congrArg (fun z => q t + z) (sm_cong (n := 280) (fun k a b => sm_cong (n := 4) (fun j _ _ => ?_)))
  unfold sterm
  rw [h k a (by omega)]
theorem mw_cong {w p q : Int → Int} : ∀ {n : Nat}, (∀ k : Int, 0 ≤ k → k < n → p k = q k) → mw w p n = mw w q n
  | 0, _ => rfl
  | n + 1, h => by
    have h1 := mw_cong (w := w) (p := p) (q := q) (n := n) (fun k a b => h k a (by omega))
    have h2 := h n (by omega) (by omega)
    simp only [mw]
    rw [h1, h2]
theorem BW.le {u : bst} (h : BW u) {k : Int} (h0 : 0 ≤ k) (h1 : k < 280) : 0 ≤ u.1 k ∧ u.1 k ≤ 1000000 := by
  have h2 := sm_one (f := u.1) (n := 280) (fun j a b => h.1 j a (by omega)) h0 (by omega)
  have h3 := h.1 k h0 h1
  have h4 := h.2.1
  omega
theorem bs1_dr {ld ac up : Int → Int} {u : bst} (h : BW u) : (∀ k, 0 ≤ k → k < 280 → 0 ≤ drT ld ac up u.1 k ∧ drT ld ac up u.1 k ≤ 1000000) ∧ 0 ≤ drT ld ac up u.1 (-1) ∧ sm (drT ld ac up u.1) 280 ≤ 1000000 := by
  have h0 := drT_nonneg (ld := ld) (ac := ac) (up := up) (p := u.1) (fun k a b => h.1 k a b)
  have h1 := drT_mass (ld := ld) (ac := ac) (up := up) (p := u.1)
  have h2 := h0 (-1)
  have h3 := h.2.1
  refine ⟨fun k a b => ⟨h0 k, ?_⟩, h2, by omega⟩
  have h4 := sm_one (f := drT ld ac up u.1) (n := 280) (fun j _ _ => h0 j) a (by omega)
  omega
theorem bs1_sp {ld ac up : Int → Int} {u : bst} (h : BW u) : (∀ k, 0 ≤ k → k < 280 → 0 ≤ spT ld (drT ld ac up u.1) k ∧ spT ld (drT ld ac up u.1) k ≤ 1000000) ∧ sm (spT ld (drT ld ac up u.1)) 280 ≤ 1000000 := by
  obtain ⟨h1, h2, h3⟩ := bs1_dr (ld := ld) (ac := ac) (up := up) h
  have h0 : ∀ k, 0 ≤ k → k < 280 → 0 ≤ spT ld (drT ld ac up u.1) k := fun k a b => spT_nonneg (fun j a b => (h1 j a b).1) a b
  have h4 := spT_mass (ld := ld) (p := drT ld ac up u.1)
  refine ⟨fun k a b => ⟨h0 k a b, ?_⟩, by omega⟩
  have h5 := sm_one (f := spT ld (drT ld ac up u.1)) (n := 280) (fun j a b => h0 j a (by omega)) a (by omega)
  omega
theorem bs1_W {ld ac up w : Int → Int} {u : bst} (h : BW u) (hw : ∀ k, 0 ≤ k → k < 280 → 0 ≤ w k ∧ w k ≤ 50) : BW (bs1 ld ac up w u) := by
  unfold bs1
  split
  · exact h
  · rename_i hg
    have hg : u.2.2.2.2 = 0 := by omega
    obtain ⟨s1, s2⟩ := bs1_sp (ld := ld) (ac := ac) (up := up) h
    have hm := mw_rng (w := w) (p := spT ld (drT ld ac up u.1)) (n := 280) (fun k a b => hw k a (by omega))
    have hm : 0 ≤ bsM ld ac up w u ∧ (bsM ld ac up w u = 1000000 ∨ bsM ld ac up w u ≤ 50) := hm
    have hs1 := h.2.2.2.2.2.1 hg
    have hs2 := h.2.2.2.1
    have hS : -50 ≤ bsS ld ac up w u ∧ bsS ld ac up w u ≤ 1000 := by unfold bsS; split <;> omega
    generalize bsS ld ac up w u = sS at hS ⊢
    generalize bsM ld ac up w u = mM at hm ⊢
    by_cases hd : mM = 1000000 ∨ sS ≤ 0
    · have e : (fun t => if mM = 1000000 ∨ sS ≤ 0 then 0 else spT ld (drT ld ac up u.1) t) = fun _ => 0 := by
        funext t; rw [if_pos hd]
      rw [e, if_pos hd]
      refine ⟨fun k _ _ => Int.le_refl _, ?_, hS.1, hS.2, Or.inr rfl, fun z => absurd (show (1 : Int) = 0 from z) (by decide), fun _ k _ _ => rfl⟩
      show sm (fun _ => 0) 280 ≤ _
      rw [sm_zero]; decide
    · have e : (fun t => if mM = 1000000 ∨ sS ≤ 0 then 0 else spT ld (drT ld ac up u.1) t) = spT ld (drT ld ac up u.1) := by
        funext t; rw [if_neg hd]
      rw [e, if_neg hd]
      exact ⟨fun k a b => (s1 k a b).1, s2, hS.1, hS.2, Or.inl rfl, fun z => by show 1 ≤ sS; omega, fun z => absurd (show (0 : Int) = 1 from z) (by decide)⟩
theorem bsn_W {ld ac up w : Int → Int} {u : bst} (h : BW u) (hw : ∀ k, 0 ≤ k → k < 280 → 0 ≤ w k ∧ w k ≤ 50) : ∀ n, BW (bsn ld ac up w n u)
  | 0 => h
  | n + 1 => bs1_W (bsn_W h hw n) hw
theorem bsn_step {ld ac up w : Int → Int} {u : bst} {t : Int} (h : 0 ≤ t) : bsn ld ac up w (t + 1).toNat u = bs1 ld ac up w (bsn ld ac up w t.toNat u) := by
  have e : (t + 1).toNat = t.toNat + 1 := by omega
  rw [e]; rfl
theorem bs1_gone {ld ac up w : Int → Int} {u : bst} (h : ¬ u.2.2.2.2 = 0) : bs1 ld ac up w u = u := by unfold bs1; rw [if_pos h]
theorem drA_280 {A : ab_An} {b : Int} : drA A b 280 109 b = A 109 b + drT (A 101) (A 102) (A 103) (fun x => A 106 (280 * b + x)) (-1) := drA_109
/-- what the reference's rows are behind one berg's step -/
theorem BR_step {A A1 A2 A3 A4 : ab_An} {b : Int} {u : bst} (hb : 0 ≤ b ∧ b < 10) (hR : BR A b u) (hW : BW u) (hg : u.2.2.2.2 = 0)
    (e1 : A1 = setRow (drA A b 280) 106 (280 * b) 280 (drT (A 101) (A 102) (A 103) (fun x => A 106 (280 * b + x)))) (e2 : A2 = setRow (spA A1 b 280 1) 106 (280 * b) 280 (spT (A1 101) (fun x => A1 106 (280 * b + x))))
    (e3 : (mw (A2 104) (fun x => A2 106 (280 * b + x)) 280 = 1000000 ∧ A3 = setRow (upA A2 110 b 1) 106 (280 * b) 280 (fun _ => 0)) ∨ (mw (A2 104) (fun x => A2 106 (280 * b + x)) 280 ≤ 50 ∧ A2 107 b - mw (A2 104) (fun x => A2 106 (280 * b + x)) 280 ≤ 0 ∧ A3 = setRow (upA (upA A2 107 b (A2 107 b - mw (A2 104) (fun x => A2 106 (280 * b + x)) 280)) 110 b 1) 106 (280 * b) 280 (fun _ => 0)) ∨ (mw (A2 104) (fun x => A2 106 (280 * b + x)) 280 ≤ 50 ∧ 0 < A2 107 b - mw (A2 104) (fun x => A2 106 (280 * b + x)) 280 ∧ A3 = upA A2 107 b (A2 107 b - mw (A2 104) (fun x => A2 106 (280 * b + x)) 280)))
    (e4 : A4 = upA A3 108 b (A3 108 b + 1)) :
    BR A4 b (bs1 (A 101) (A 102) (A 103) (A 104) u) ∧ (∀ b' u', 0 ≤ b' → b' ≠ b → BR A b' u' → BR A4 b' u') ∧ ∀ i, i ≠ 106 → i ≠ 107 → i ≠ 108 → i ≠ 109 → i ≠ 110 → i ≠ 119 → A4 i = A i := by
  obtain ⟨r1, r2, r3, r4, r5⟩ := hR
  have rowD : ∀ t, drT (A 101) (A 102) (A 103) (fun x => A 106 (280 * b + x)) t = drT (A 101) (A 102) (A 103) u.1 t := fun t => drT_cong r1 t
  have a1o : ∀ i, i ≠ 106 → i ≠ 109 → i ≠ 119 → A1 i = A i := fun i q1 q2 q3 => by rw [e1, setRow_other q1, drA_o q2 q3]
  have a1p : ∀ k, 0 ≤ k → k < 280 → A1 106 (280 * b + k) = drT (A 101) (A 102) (A 103) u.1 k := fun k a c => by
    have : 280 * b + k - 280 * b = k := by omega
    rw [e1, setRow_in (by omega) (by omega), rowD, this]
  have a2o : ∀ i, i ≠ 106 → i ≠ 119 → A2 i = A1 i := fun i q1 q2 => by rw [e2, setRow_other q1, spA_o q2]
  have a2p : ∀ k, 0 ≤ k → k < 280 → A2 106 (280 * b + k) = spT (A 101) (drT (A 101) (A 102) (A 103) u.1) k := fun k a c => by
    rw [e2, setRow_in (by omega) (by omega), a1o 101 (by decide) (by decide) (by decide)]
    have : 280 * b + k - 280 * b = k := by omega
    rw [this]
    exact spT_cong a1p a c
  have a104 : A2 104 = A 104 := (a2o 104 (by decide) (by decide)).trans (a1o 104 (by decide) (by decide) (by decide))
  have hm : mw (A2 104) (fun x => A2 106 (280 * b + x)) 280 = bsM (A 101) (A 102) (A 103) (A 104) u := by
    rw [a104]; exact mw_cong (n := 280) (fun k a c => a2p k a (by omega))
  have a107 : A2 107 b = u.2.1 := by rw [a2o 107 (by decide) (by decide), a1o 107 (by decide) (by decide) (by decide)]; exact r2
  rw [hm, a107] at e3
  have o109 : A1 109 b = u.2.2.2.1 + drT (A 101) (A 102) (A 103) u.1 (-1) := by
    rw [e1, setRow_other (by decide), drA_280, r4, rowD (-1)]
  have far : ∀ (b' k : Int), 0 ≤ b' → b' ≠ b → 0 ≤ k → k < 280 → (280 * b' + k < 280 * b ∨ 280 * b + 280 ≤ 280 * b' + k) := fun b' k _ hne _ _ => by omega
  have a12 : ∀ (b' k : Int), 0 ≤ b' → b' ≠ b → 0 ≤ k → k < 280 → A2 106 (280 * b' + k) = A 106 (280 * b' + k) := fun b' k q1 q2 q3 q4 => by
    rw [e2, setRow_out (far b' k q1 q2 q3 q4), spA_o (by decide), e1, setRow_out (far b' k q1 q2 q3 q4), drA_o (by decide) (by decide)]
  have o109' : ∀ b', b' ≠ b → A1 109 b' = A 109 b' := fun b' q => by rw [e1, setRow_other (by decide), drA_109o q]
  have hSd : bsS (A 101) (A 102) (A 103) (A 104) u = if bsM (A 101) (A 102) (A 103) (A 104) u = 1000000 then u.2.1 else u.2.1 - bsM (A 101) (A 102) (A 103) (A 104) u := rfl
  unfold bs1
  rw [if_neg (by omega)]
  clear hm
  generalize bsS (A 101) (A 102) (A 103) (A 104) u = sS at hSd ⊢
  generalize bsM (A 101) (A 102) (A 103) (A 104) u = mM at hSd e3 ⊢
  rcases e3 with ⟨q1, e3⟩ | ⟨q1, q2, e3⟩ | ⟨q1, q2, e3⟩
  · have hS : sS = u.2.1 := by rw [hSd, if_pos q1]
    have hd : mM = 1000000 ∨ sS ≤ 0 := Or.inl q1
    refine ⟨⟨fun k a c => ?_, ?_, ?_, ?_, ?_⟩, fun b' u' p0 p1 hR' => ⟨fun k a c => ?_, ?_, ?_, ?_, ?_⟩, fun i p1 p2 p3 p4 p5 p6 => ?_⟩
    · rw [e4, upA_other (by decide), e3, setRow_in (by omega) (by omega)]; simp [hd]
    · rw [e4, upA_other (by decide), e3, setRow_other (by decide), upA_other (by decide), a107]; exact hS.symm
    · rw [e4, upA_at, e3, setRow_other (by decide), upA_other (by decide), a2o 108 (by decide) (by decide), a1o 108 (by decide) (by decide) (by decide), r3]
    · rw [e4, upA_other (by decide), e3, setRow_other (by decide), upA_other (by decide), a2o 109 (by decide) (by decide), o109]
    · rw [e4, upA_other (by decide), e3, setRow_other (by decide), upA_at]; simp [hd]
    · rw [e4, upA_other (by decide), e3, setRow_out (far b' k p0 p1 a c), upA_other (by decide), a12 b' k p0 p1 a c]; exact hR'.1 k a c
    · rw [e4, upA_other (by decide), e3, setRow_other (by decide), upA_other (by decide), a2o 107 (by decide) (by decide), a1o 107 (by decide) (by decide) (by decide)]; exact hR'.2.1
    · rw [e4, upA_ne p1, e3, setRow_other (by decide), upA_other (by decide), a2o 108 (by decide) (by decide), a1o 108 (by decide) (by decide) (by decide)]; exact hR'.2.2.1
    · rw [e4, upA_other (by decide), e3, setRow_other (by decide), upA_other (by decide), a2o 109 (by decide) (by decide), o109' b' p1]; exact hR'.2.2.2.1
    · rw [e4, upA_other (by decide), e3, setRow_other (by decide), upA_ne p1, a2o 110 (by decide) (by decide), a1o 110 (by decide) (by decide) (by decide)]; exact hR'.2.2.2.2
    · rw [e4, upA_other p3, e3, setRow_other p1, upA_other p5, a2o i p1 p6, a1o i p1 p4 p6]
  · have hS : sS = u.2.1 - mM := by rw [hSd, if_neg (by omega)]
    have hd : mM = 1000000 ∨ sS ≤ 0 := Or.inr (by omega)
    refine ⟨⟨fun k a c => ?_, ?_, ?_, ?_, ?_⟩, fun b' u' p0 p1 hR' => ⟨fun k a c => ?_, ?_, ?_, ?_, ?_⟩, fun i p1 p2 p3 p4 p5 p6 => ?_⟩
    · rw [e4, upA_other (by decide), e3, setRow_in (by omega) (by omega)]; simp [hd]
    · rw [e4, upA_other (by decide), e3, setRow_other (by decide), upA_other (by decide), upA_at]; exact hS.symm
    · rw [e4, upA_at, e3, setRow_other (by decide), upA_other (by decide), upA_other (by decide), a2o 108 (by decide) (by decide), a1o 108 (by decide) (by decide) (by decide), r3]
    · rw [e4, upA_other (by decide), e3, setRow_other (by decide), upA_other (by decide), upA_other (by decide), a2o 109 (by decide) (by decide), o109]
    · rw [e4, upA_other (by decide), e3, setRow_other (by decide), upA_at]; simp [hd]
    · rw [e4, upA_other (by decide), e3, setRow_out (far b' k p0 p1 a c), upA_other (by decide), upA_other (by decide), a12 b' k p0 p1 a c]; exact hR'.1 k a c
    · rw [e4, upA_other (by decide), e3, setRow_other (by decide), upA_other (by decide), upA_ne p1, a2o 107 (by decide) (by decide), a1o 107 (by decide) (by decide) (by decide)]; exact hR'.2.1
    · rw [e4, upA_ne p1, e3, setRow_other (by decide), upA_other (by decide), upA_other (by decide), a2o 108 (by decide) (by decide), a1o 108 (by decide) (by decide) (by decide)]; exact hR'.2.2.1
    · rw [e4, upA_other (by decide), e3, setRow_other (by decide), upA_other (by decide), upA_other (by decide), a2o 109 (by decide) (by decide), o109' b' p1]; exact hR'.2.2.2.1
    · rw [e4, upA_other (by decide), e3, setRow_other (by decide), upA_ne p1, upA_other (by decide), a2o 110 (by decide) (by decide), a1o 110 (by decide) (by decide) (by decide)]; exact hR'.2.2.2.2
    · rw [e4, upA_other p3, e3, setRow_other p1, upA_other p5, upA_other p2, a2o i p1 p6, a1o i p1 p4 p6]
  · have hS : sS = u.2.1 - mM := by rw [hSd, if_neg (by omega)]
    have hd : ¬ (mM = 1000000 ∨ sS ≤ 0) := by omega
    refine ⟨⟨fun k a c => ?_, ?_, ?_, ?_, ?_⟩, fun b' u' p0 p1 hR' => ⟨fun k a c => ?_, ?_, ?_, ?_, ?_⟩, fun i p1 p2 p3 p4 p5 p6 => ?_⟩
    · rw [e4, upA_other (by decide), e3, upA_other (by decide), a2p k a c]; simp only [if_neg hd]
    · rw [e4, upA_other (by decide), e3, upA_at]; exact hS.symm
    · rw [e4, upA_at, e3, upA_other (by decide), a2o 108 (by decide) (by decide), a1o 108 (by decide) (by decide) (by decide), r3]
    · rw [e4, upA_other (by decide), e3, upA_other (by decide), a2o 109 (by decide) (by decide), o109]
    · rw [e4, upA_other (by decide), e3, upA_other (by decide), a2o 110 (by decide) (by decide), a1o 110 (by decide) (by decide) (by decide), r5, hg]; simp only [if_neg hd]
    · rw [e4, upA_other (by decide), e3, upA_other (by decide), a12 b' k p0 p1 a c]; exact hR'.1 k a c
    · rw [e4, upA_other (by decide), e3, upA_ne p1, a2o 107 (by decide) (by decide), a1o 107 (by decide) (by decide) (by decide)]; exact hR'.2.1
    · rw [e4, upA_ne p1, e3, upA_other (by decide), a2o 108 (by decide) (by decide), a1o 108 (by decide) (by decide) (by decide)]; exact hR'.2.2.1
    · rw [e4, upA_other (by decide), e3, upA_other (by decide), a2o 109 (by decide) (by decide), o109' b' p1]; exact hR'.2.2.2.1
    · rw [e4, upA_other (by decide), e3, upA_other (by decide), a2o 110 (by decide) (by decide), a1o 110 (by decide) (by decide) (by decide)]; exact hR'.2.2.2.2
    · rw [e4, upA_other p3, e3, upA_other p2, a2o i p1 p6, a1o i p1 p4 p6]
theorem BR_h2 {A A1 : ab_An} {b : Int} {u : bst} (hR : BR A b u) (hW : BW u) (e1 : A1 = setRow (drA A b 280) 106 (280 * b) 280 (drT (A 101) (A 102) (A 103) (fun x => A 106 (280 * b + x)))) : (∀ k, 0 ≤ k → k < 280 → A1 106 (280 * b + k) = drT (A 101) (A 102) (A 103) u.1 k) ∧ (∀ k, 0 ≤ k → k < 280 → 0 ≤ A1 106 (280 * b + k) ∧ A1 106 (280 * b + k) ≤ 1000000) ∧ ∀ i, i ≠ 106 → i ≠ 109 → i ≠ 119 → A1 i = A i := by
  have h1 : ∀ k, 0 ≤ k → k < 280 → A1 106 (280 * b + k) = drT (A 101) (A 102) (A 103) u.1 k := fun k a c => by
    have : 280 * b + k - 280 * b = k := by omega
    rw [e1, setRow_in (by omega) (by omega), this]
    exact drT_cong hR.1 k
  refine ⟨h1, fun k a c => ?_, fun i q1 q2 q3 => by rw [e1, setRow_other q1, drA_o q2 q3]⟩
  rw [h1 k a c]
  exact (bs1_dr hW).1 k a c
theorem BR_h3 {A A1 A2 : ab_An} {b : Int} {u : bst} (hR : BR A b u) (hW : BW u) (e1 : A1 = setRow (drA A b 280) 106 (280 * b) 280 (drT (A 101) (A 102) (A 103) (fun x => A 106 (280 * b + x)))) (e2 : A2 = setRow (spA A1 b 280 1) 106 (280 * b) 280 (spT (A1 101) (fun x => A1 106 (280 * b + x)))) : (∀ k, 0 ≤ k → k < 280 → inR (A2 106 (280 * b + k))) ∧ ∀ i, i ≠ 106 → i ≠ 109 → i ≠ 119 → A2 i = A i := by
  obtain ⟨h1, h2, h3⟩ := BR_h2 hR hW e1
  refine ⟨fun k a c => ?_, fun i q1 q2 q3 => by rw [e2, setRow_other q1, spA_o q3, h3 i q1 q2 q3]⟩
  have : 280 * b + k - 280 * b = k := by omega
  have e : A2 106 (280 * b + k) = spT (A 101) (drT (A 101) (A 102) (A 103) u.1) k := by
    rw [e2, setRow_in (by omega) (by omega), this, h3 101 (by decide) (by decide) (by decide)]
    exact spT_cong h1 a c
  have := (bs1_sp (ld := A 101) (ac := A 102) (up := A 103) hW).1 k a c
  rw [e]
  exact ⟨by omega, by omega⟩

set_option maxHeartbeats 4000000 in
set_option maxRecDepth 100000 in
theorem m_step (l : Launch) (S : ab_St) (F : ab_Fn) (A : ab_An) (hS : ab_SM S) (n : Int) (rn : inR n) (hb : 0 ≤ F 100 11 ∧ F 100 11 ≤ 10) (hl : ∀ k, 0 ≤ k → k < 280 → A 101 k = 0 ∨ A 101 k = 1) (hc : ∀ k, 0 ≤ k → k < 280 → -2 ≤ A 102 k ∧ A 102 k ≤ 2 ∧ -2 ≤ A 103 k ∧ A 103 k ≤ 2) (hw : ∀ k, 0 ≤ k → k < 280 → 0 ≤ A 104 k ∧ A 104 k ≤ 50) (U : Int → bst) (hU : ∀ b, 0 ≤ b → b < F 100 11 → BR A b (U b) ∧ BW (U b)) : ab_Met l yX10_step cX10_step 4 (some .int) { frames := 2, cells := 0, slots := 0, locals := 53 } 0 0 [aR 100, aI n] S F A (fun v S' F' A' => S = S' ∧ ∃ t r : Int, v = some (aI r) ∧ ((t = 1 ∧ ¬ (0 ≤ n ∧ n ≤ 50) ∧ F' = upF F 100 0 1 ∧ A = A') ∨ (t = 0 ∧ (0 ≤ n ∧ n ≤ 50) ∧ r = F 100 5 + n ∧ F' = upF (upF F 100 0 0) 100 5 (F 100 5 + n) ∧ (∀ b, 0 ≤ b → b < F 100 11 → BR A' b (bsn (A 101) (A 102) (A 103) (A 104) n.toNat (U b))) ∧ ∀ i, i ≠ 106 → i ≠ 107 → i ≠ 108 → i ≠ 109 → i ≠ 110 → i ≠ 119 → A' i = A i))) := by
  refine ab_enter (by decide) (by simp [aI, aR, aX, ab_val, Value.category]) (Nat.le_of_ble_eq_true rfl) (fun E C hr => ?_)
  refine j_eq (lv' := [some (aR 100), some (aI n), none, none]) ?_
  refine j_aload_n C dX10_step_0 rfl rfl ?_
  refine j_iconst C dX10_step_1 ?_
  refine j_putI C fp_X10_3 (sM_100 hS) rfl dX10_step_2 ?_
  refine j_aload_n C dX10_step_5 rfl rfl ?_
  refine j_iload_n C dX10_step_6 rfl rfl ?_
  refine j_iconst C dX10_step_7 ?_
  refine j_bipush C dX10_step_8 rfl ?_
  refine j_callS C (vs := [aI n, aI 0, aI 50]) (st := [aR 100]) cl_X10_97 sc_yX10_in (fun _ => m_in _ S (upF F 100 0 0) A hS _ _ _ rn ⟨by omega, by omega⟩ ⟨by omega, by omega⟩) rfl ⟨rfl, rfl, by decide, by decide⟩ ⟨by decide, by decide⟩ (fun _ => Nat.le_of_ble_eq_true rfl) (fun v hv => by simp only [List.mem_cons, List.not_mem_nil, or_false] at hv; rcases hv with rfl <;> first | exact (lM_100 hS)) (fun v hv => by simp only [List.mem_cons, List.not_mem_nil, or_false, Option.some.injEq, reduceCtorEq, false_or] at hv; rcases hv with rfl | rfl <;> first | exact (lM_100 hS) | exact trivial) dX10_step_10 (fun v_10 S_10 F_10 A_10 hP_10 => ?_)
  obtain ⟨rfl, rfl, rfl, z_10, rfl, ⟨rfl, hz_10⟩ | ⟨rfl, hz_10⟩⟩ := hP_10
  · show ab_J E 4 0 0 S (upF F 100 0 0) A 13 [some (aR 100), some (aI n), none, none] [aI 1, aR 100]
    refine j_if_ne C (tgt := 20) dX10_step_13 (by decide) ⟨by omega, by omega⟩ (fun c13 => ?_) (fun c13 => ?_)
    · refine j_iconst C dX10_step_20 ?_
      refine j_iconst C dX10_step_21 ?_
      refine j_callV C (vs := [aI 0, aI 1]) (st := []) cl_X10_111 im_yX10_throwsIf se_yX10_throwsIf (fun _ => m_throwsIf0 _ S (upF F 100 0 0) A hS _) (sM_100 hS) rfl rfl rfl ⟨rfl, rfl, by decide, by decide⟩ ⟨by decide, by decide⟩ (fun _ => Nat.le_of_ble_eq_true rfl) (fun v hv => by cases hv) (fun v hv => by simp only [List.mem_cons, List.not_mem_nil, or_false, Option.some.injEq, reduceCtorEq, false_or] at hv; rcases hv with rfl | rfl <;> first | exact (lM_100 hS) | exact trivial) dX10_step_22 (fun v_22 S_22 F_22 A_22 hP_22 => ?_)
      obtain ⟨rfl, rfl, rfl, rfl⟩ := hP_22
      show ab_J E 4 0 0 S (upF F 100 0 0) A 25 [some (aR 100), some (aI n), none, none] [aI 0]
      refine j_if_eq C (tgt := 30) dX10_step_25 (by decide) ⟨by omega, by omega⟩ (fun c25 => ?_) (fun c25 => ?_)
      · refine j_iconst C dX10_step_30 ?_
        refine j_istore_n C (lv' := [some (aR 100), some (aI n), some (aI 0), none]) dX10_step_31 rfl (by decide) rfl ?_
        have K32 : ∀ (N : Nat) (t : Int) (B : ab_An), (0 ≤ t ∧ t ≤ n) → (∀ b, 0 ≤ b → b < F 100 11 → BR B b (bsn (A 101) (A 102) (A 103) (A 104) t.toNat (U b))) → (∀ i, i ≠ 106 → i ≠ 107 → i ≠ 108 → i ≠ 109 → i ≠ 110 → i ≠ 119 → B i = A i) → ((n - t).toNat) < N → ab_J E 4 0 0 S (upF (upF F 100 0 0) 100 5 (F 100 5 + t)) B 32 [some (aR 100), some (aI n), some (aI t), none] [] := by
          intro N
          induction N with
          | zero => intro t B ht hB hO hm; exact absurd hm (Nat.not_lt_zero _)
          | succ N ih =>
            have ih32 := ih
            clear ih
            intro t B ht hB hO hm32
            refine j_iload_n C dX10_step_32 rfl rfl ?_
            refine j_iload_n C dX10_step_33 rfl rfl ?_
            refine j_icmp_ge C (tgt := 106) dX10_step_34 (by decide) ⟨by omega, by omega⟩ ⟨by omega, by omega⟩ (fun c34 => ?_) (fun c34 => ?_)
            · have e : t = n := by omega
              subst e
              refine j_aload_n C dX10_step_106 rfl rfl ?_
              refine j_get C (aI (F 100 5 + t)) fl_X10_140 (sM_100 hS) (fun _ => rfl) dX10_step_107 ?_
              exact j_iret C hr (Nat.le_refl _) (Nat.le_refl _) dX10_step_110 ⟨rfl, 0, _, rfl, by first | exact Or.inl ⟨rfl, by omega, upF_up _ _ _ _ _, rfl⟩ | exact Or.inr ⟨rfl, by omega, rfl, rfl, hB, hO⟩⟩
            · refine j_aload_n C dX10_step_37 rfl rfl ?_
              refine j_dup C dX10_step_38 (fun _ => rfl) ?_
              refine j_get C (aI (F 100 5 + t)) fl_X10_140 (sM_100 hS) (fun _ => rfl) dX10_step_39 ?_
              refine j_iconst C dX10_step_42 ?_
              refine j_iadd C dX10_step_43 ?_
              refine j_eq (st' := [aI (F 100 5 + (t + 1)), aR 100]) ?_ (e1 := by first | rfl | (simp only [List.cons.injEq, and_true]; exact congrArg aI (by show F 100 5 + t + 1 = _; omega)))
              refine j_putI C fp_X10_140 (sM_100 hS) rfl dX10_step_44 ?_
              refine j_iconst C dX10_step_47 ?_
              refine j_istore_n C (lv' := [some (aR 100), some (aI n), some (aI t), some (aI 0)]) dX10_step_48 rfl (by decide) rfl ?_
              have K49 : ∀ (N : Nat) (b : Int) (B2 : ab_An), (0 ≤ b ∧ b ≤ F 100 11) → (∀ b', 0 ≤ b' → b' < b → BR B2 b' (bsn (A 101) (A 102) (A 103) (A 104) (t + 1).toNat (U b'))) → (∀ b', b ≤ b' → b' < F 100 11 → BR B2 b' (bsn (A 101) (A 102) (A 103) (A 104) t.toNat (U b'))) → (∀ i, i ≠ 106 → i ≠ 107 → i ≠ 108 → i ≠ 109 → i ≠ 110 → i ≠ 119 → B2 i = A i) → ((F 100 11 - b).toNat) < N → ab_J E 4 0 0 S (upF (upF F 100 0 0) 100 5 (F 100 5 + (t + 1))) B2 49 [some (aR 100), some (aI n), some (aI t), some (aI b)] [] := by
                intro N
                induction N with
                | zero => intro b B2 hb0 h1 h2 hO2 hm; exact absurd hm (Nat.not_lt_zero _)
                | succ N ih =>
                  have ih49 := ih
                  clear ih
                  intro b B2 hb0 h1 h2 hO2 hm49
                  refine j_iload_n C dX10_step_49 rfl rfl ?_
                  refine j_aload_n C dX10_step_50 rfl rfl ?_
                  refine j_get C (aI (F 100 11)) fl_X10_101 (sM_100 hS) (fun _ => rfl) dX10_step_51 ?_
                  refine j_icmp_ge C (tgt := 100) dX10_step_54 (by decide) ⟨by omega, by omega⟩ ⟨by omega, by omega⟩ (fun c54 => ?_) (fun c54 => ?_)
                  · refine j_iinc C (lv' := [some (aR 100), some (aI n), some (aI (t + 1)), some (aI b)]) dX10_step_100 rfl (by decide) rfl ?_
                    refine j_goto C (tgt := 32) dX10_step_103 (by decide) ?_
                    refine j_lv (lv' := [some (aR 100), some (aI n), some (aI (t + 1)), none]) ?_ ⟨rfl, rfl, rfl, trivial⟩
                    exact ih32 (t + 1) B2 (by omega) (fun b' q1 q2 => h1 b' q1 (by omega)) hO2 (by omega)
                  · refine j_aload_n C dX10_step_57 rfl rfl ?_
                    refine j_getR C (j := 110) fl_X10_39 (sM_100 hS) rfl dX10_step_58 ?_
                    refine j_iload_n C dX10_step_61 rfl rfl ?_
                    have q62 := h2 b (by omega) (by omega)
                    have w62 : BW (bsn (A 101) (A 102) (A 103) (A 104) t.toNat (U b)) := bsn_W (hU b (by omega) (by omega)).2 hw t.toNat
                    have g62 : B2 110 b = 0 ∨ B2 110 b = 1 := by rw [q62.2.2.2.2]; exact w62.2.2.2.2.1
                    refine j_zald C (sM_110 hS) (by omega) (by omega) (by decide) dX10_step_62 ?_
                    refine j_if_eq C (tgt := 69) dX10_step_63 (by decide) ⟨by omega, by omega⟩ (fun c63 => ?_) (fun c63 => ?_)
                    · refine j_aload_n C dX10_step_69 rfl rfl ?_
                      refine j_iload_n C dX10_step_70 rfl rfl ?_
                      refine j_callV C (vs := [aI b]) (st := []) cl_X10_143 im_yX10_drifts se_yX10_drifts (fun _ => m_drifts _ S (upF (upF F 100 0 0) 100 5 (F 100 5 + (t + 1))) B2 hS _ (by omega) (by rw [hO2 101 (by decide) (by decide) (by decide) (by decide) (by decide) (by decide)]; exact hl) (by rw [hO2 102 (by decide) (by decide) (by decide) (by decide) (by decide) (by decide), hO2 103 (by decide) (by decide) (by decide) (by decide) (by decide) (by decide)]; exact hc)) (sM_100 hS) rfl rfl rfl ⟨rfl, rfl, by decide, by decide⟩ ⟨by decide, by decide⟩ (fun _ => Nat.le_of_ble_eq_true rfl) (fun v hv => by cases hv) (fun v hv => by simp only [List.mem_cons, List.not_mem_nil, or_false, Option.some.injEq, reduceCtorEq, false_or] at hv; rcases hv with rfl | rfl | rfl | rfl <;> first | exact (lM_100 hS) | exact trivial) dX10_step_71 (fun v_71 S_71 F_71 A_71 hP_71 => ?_)
                      obtain ⟨rfl, rfl, rfl, e_71⟩ := hP_71
                      show ab_J E 4 0 0 S (upF (upF F 100 0 0) 100 5 (F 100 5 + (t + 1))) A_71 74 [some (aR 100), some (aI n), some (aI t), some (aI b)] []
                      have k71 := BR_h2 q62 w62 e_71
                      refine j_aload_n C dX10_step_74 rfl rfl ?_
                      refine j_iload_n C dX10_step_75 rfl rfl ?_
                      refine j_callV C (vs := [aI b]) (st := []) cl_X10_146 im_yX10_spreads se_yX10_spreads (fun _ => m_spreads _ S (upF (upF F 100 0 0) 100 5 (F 100 5 + (t + 1))) A_71 hS _ (by omega) (by rw [k71.2.2 101 (by decide) (by decide) (by decide), hO2 101 (by decide) (by decide) (by decide) (by decide) (by decide) (by decide)]; exact hl) k71.2.1) (sM_100 hS) rfl rfl rfl ⟨rfl, rfl, by decide, by decide⟩ ⟨by decide, by decide⟩ (fun _ => Nat.le_of_ble_eq_true rfl) (fun v hv => by cases hv) (fun v hv => by simp only [List.mem_cons, List.not_mem_nil, or_false, Option.some.injEq, reduceCtorEq, false_or] at hv; rcases hv with rfl | rfl | rfl | rfl <;> first | exact (lM_100 hS) | exact trivial) dX10_step_76 (fun v_76 S_76 F_76 A_76 hP_76 => ?_)
                      obtain ⟨rfl, rfl, rfl, e_76⟩ := hP_76
                      show ab_J E 4 0 0 S (upF (upF F 100 0 0) 100 5 (F 100 5 + (t + 1))) A_76 79 [some (aR 100), some (aI n), some (aI t), some (aI b)] []
                      have k76 := BR_h3 q62 w62 e_71 e_76
                      refine j_aload_n C dX10_step_79 rfl rfl ?_
                      refine j_iload_n C dX10_step_80 rfl rfl ?_
                      refine j_callV C (vs := [aI b]) (st := []) cl_X10_149 im_yX10_melts se_yX10_melts (fun _ => m_melts _ S (upF (upF F 100 0 0) 100 5 (F 100 5 + (t + 1))) A_76 hS _ (by omega) (by rw [k76.2 104 (by decide) (by decide) (by decide), hO2 104 (by decide) (by decide) (by decide) (by decide) (by decide) (by decide)]; exact hw) k76.1 (by rw [k76.2 107 (by decide) (by decide) (by decide), q62.2.1]; exact ⟨by have := w62.2.2.1; omega, by have := w62.2.2.2.1; omega⟩)) (sM_100 hS) rfl rfl rfl ⟨rfl, rfl, by decide, by decide⟩ ⟨by decide, by decide⟩ (fun _ => Nat.le_of_ble_eq_true rfl) (fun v hv => by cases hv) (fun v hv => by simp only [List.mem_cons, List.not_mem_nil, or_false, Option.some.injEq, reduceCtorEq, false_or] at hv; rcases hv with rfl | rfl | rfl | rfl <;> first | exact (lM_100 hS) | exact trivial) dX10_step_81 (fun v_81 S_81 F_81 A_81 hP_81 => ?_)
                      obtain ⟨rfl, rfl, rfl, e_81⟩ := hP_81
                      show ab_J E 4 0 0 S (upF (upF F 100 0 0) 100 5 (F 100 5 + (t + 1))) A_81 84 [some (aR 100), some (aI n), some (aI t), some (aI b)] []
                      refine j_aload_n C dX10_step_84 rfl rfl ?_
                      refine j_getR C (j := 108) fl_X10_33 (sM_100 hS) rfl dX10_step_85 ?_
                      refine j_iload_n C dX10_step_88 rfl rfl ?_
                      refine j_dup2 C dX10_step_89 (fun _ => rfl) (fun _ => rfl) ?_
                      refine j_iald C (sM_108 hS) (by omega) (by omega) (by decide) dX10_step_90 ?_
                      refine j_iconst C dX10_step_91 ?_
                      refine j_iadd C dX10_step_92 ?_
                      have k94 := BR_step (A4 := upA A_81 108 b (A_81 108 b + 1)) ⟨by omega, by omega⟩ q62 w62 (by rw [← q62.2.2.2.2]; exact c63) e_71 e_76 e_81 rfl
                      refine j_iast C (sM_108 hS) (by omega) (by omega) (by decide) dX10_step_93 ?_
                      refine j_iinc C (lv' := [some (aR 100), some (aI n), some (aI t), some (aI (b + 1))]) dX10_step_94 rfl (by decide) rfl ?_
                      refine j_goto C (tgt := 49) dX10_step_97 (by decide) ?_
                      exact ih49 (b + 1) _ (by omega) (by first | exact (fun b' q1 q2 => if q : b' = b then by rw [q, bsn_step ht.1, bs1_gone (by rw [← q62.2.2.2.2]; exact c63)]; exact q62 else h1 b' q1 (by omega)) | exact (fun b' q1 q2 => if q : b' = b then by rw [q, bsn_step ht.1]; have kk := k94.1; rw [hO2 101 (by decide) (by decide) (by decide) (by decide) (by decide) (by decide), hO2 102 (by decide) (by decide) (by decide) (by decide) (by decide) (by decide), hO2 103 (by decide) (by decide) (by decide) (by decide) (by decide) (by decide), hO2 104 (by decide) (by decide) (by decide) (by decide) (by decide) (by decide)] at kk; exact kk else k94.2.1 b' _ q1 q (h1 b' q1 (by omega)))) (by first | exact (fun b' q1 q2 => h2 b' (by omega) q2) | exact (fun b' q1 q2 => k94.2.1 b' _ (by omega) (by omega) (h2 b' (by omega) q2))) (by first | exact hO2 | exact (fun i p1 p2 p3 p4 p5 p6 => (k94.2.2 i p1 p2 p3 p4 p5 p6).trans (hO2 i p1 p2 p3 p4 p5 p6))) (by omega)
                    · refine j_goto C (tgt := 94) dX10_step_66 (by decide) ?_
                      refine j_iinc C (lv' := [some (aR 100), some (aI n), some (aI t), some (aI (b + 1))]) dX10_step_94 rfl (by decide) rfl ?_
                      refine j_goto C (tgt := 49) dX10_step_97 (by decide) ?_
                      exact ih49 (b + 1) _ (by omega) (by first | exact (fun b' q1 q2 => if q : b' = b then by rw [q, bsn_step ht.1, bs1_gone (by rw [← q62.2.2.2.2]; exact c63)]; exact q62 else h1 b' q1 (by omega)) | exact (fun b' q1 q2 => if q : b' = b then by rw [q, bsn_step ht.1]; have kk := k94.1; rw [hO2 101 (by decide) (by decide) (by decide) (by decide) (by decide) (by decide), hO2 102 (by decide) (by decide) (by decide) (by decide) (by decide) (by decide), hO2 103 (by decide) (by decide) (by decide) (by decide) (by decide) (by decide), hO2 104 (by decide) (by decide) (by decide) (by decide) (by decide) (by decide)] at kk; exact kk else k94.2.1 b' _ q1 q (h1 b' q1 (by omega)))) (by first | exact (fun b' q1 q2 => h2 b' (by omega) q2) | exact (fun b' q1 q2 => k94.2.1 b' _ (by omega) (by omega) (h2 b' (by omega) q2))) (by first | exact hO2 | exact (fun i p1 p2 p3 p4 p5 p6 => (k94.2.2 i p1 p2 p3 p4 p5 p6).trans (hO2 i p1 p2 p3 p4 p5 p6))) (by omega)
              refine j_eq (F' := (upF (upF F 100 0 0) 100 5 (F 100 5 + (t + 1)))) ?_ (e3 := (upF_up _ _ _ _ _))
              exact K49 _ 0 B (by omega) (fun b' q1 q2 => by omega) (fun b' q1 q2 => hB b' (by omega) q2) hO (Nat.lt_succ_self _)
        refine j_eq (F' := (upF (upF F 100 0 0) 100 5 (F 100 5 + 0))) ?_ (e3 := (by funext i k; by_cases q1 : i = 100 <;> by_cases q2 : k = 5 <;> simp [upF, q1, q2]))
        exact K32 _ 0 A (by omega) (fun b h1 h2 => (hU b h1 h2).1) (fun _ _ _ _ _ _ _ => rfl) (Nat.lt_succ_self _)
      · exact absurd c25 (by decide)
    · exact absurd c13 (by decide)
  · show ab_J E 4 0 0 S (upF F 100 0 0) A 13 [some (aR 100), some (aI n), none, none] [aI 0, aR 100]
    refine j_if_ne C (tgt := 20) dX10_step_13 (by decide) ⟨by omega, by omega⟩ (fun c13 => ?_) (fun c13 => ?_)
    · exact absurd c13 (by decide)
    · refine j_iconst C dX10_step_16 ?_
      refine j_goto C (tgt := 21) dX10_step_17 (by decide) ?_
      refine j_iconst C dX10_step_21 ?_
      refine j_callV C (vs := [aI 1, aI 1]) (st := []) cl_X10_111 im_yX10_throwsIf se_yX10_throwsIf (fun _ => m_throwsIf1 _ S (upF F 100 0 0) A hS _) (sM_100 hS) rfl rfl rfl ⟨rfl, rfl, by decide, by decide⟩ ⟨by decide, by decide⟩ (fun _ => Nat.le_of_ble_eq_true rfl) (fun v hv => by cases hv) (fun v hv => by simp only [List.mem_cons, List.not_mem_nil, or_false, Option.some.injEq, reduceCtorEq, false_or] at hv; rcases hv with rfl | rfl <;> first | exact (lM_100 hS) | exact trivial) dX10_step_22 (fun v_22 S_22 F_22 A_22 hP_22 => ?_)
      obtain ⟨rfl, rfl, rfl, rfl⟩ := hP_22
      show ab_J E 4 0 0 S (upF (upF F 100 0 0) 100 0 1) A 25 [some (aR 100), some (aI n), none, none] [aI 1]
      refine j_if_eq C (tgt := 30) dX10_step_25 (by decide) ⟨by omega, by omega⟩ (fun c25 => ?_) (fun c25 => ?_)
      · exact absurd c25 (by decide)
      · refine j_iconst C dX10_step_28 ?_
        exact j_iret C hr (Nat.le_refl _) (Nat.le_refl _) dX10_step_29 ⟨rfl, 1, _, rfl, by first | exact Or.inl ⟨rfl, by omega, upF_up _ _ _ _ _, rfl⟩ | exact Or.inr ⟨rfl, by omega, rfl, rfl, hB, hO⟩⟩
