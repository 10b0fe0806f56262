/-- the script of the law -/
def ab_X (E : ab_E) (b L : Nat) (xs : Nat → Int32) : Prop := match E with
  | (_, _, _, _, s, _, _, _, _, _, _, _, Am, _, _) => va_X b L xs s s.heap ∧ b < s.heap.size ∧ ¬ Am b
theorem inX (v : Int32) : inR v.toInt := ⟨v.le_toInt, v.toInt_lt⟩
section
variable {E : ab_E} {cc : ByteArray} {nL : Nat} {y : MethodName} {rm : Room} {k n : Nat} {S : ab_St} {F : ab_Fn} {A : ab_An} {pc : Nat} {lv : List (Option ab_V)} {st : List ab_V}
theorem j_slen (C : ab_C E cc nL y rm) {b L : Nat} {xs : Nat → Int32} (hX : ab_X E b L xs) (d : decode cc pc = .ok (.arraylength, 1)) (h : ab_J E nL k n S F A (pc + 1) lv (aI (L : Nat) :: st)) : ab_J E nL k n S F A pc lv (aX (.ref b) :: st) := by
  obtain ⟨p, l, e, R, s, m, args, below, meth, c, Q, K, Am, ad0, S0⟩ := E
  obtain ⟨hx, hb, hml, hown, hnm, hts, hK, hA, hlk, hZ, hR⟩ := C
  intro ad H locs ls g1 g2 g3 g4 g5 g6 g7 g8
  have q := h ad H locs ls g1 g2 g3 g4 g5 g6 g7 g8
  refine va_slen hx hb hX.1 hX.2.1 hX.2.2 g8 d ?_
  exact q
theorem j_sld (C : ab_C E cc nL y rm) {b L : Nat} {xs : Nat → Int32} (hX : ab_X E b L xs) {j : Int} (h0 : 0 ≤ j) (h1 : j < (L : Int)) (hL : (L : Int) < 2147483648) (d : decode cc pc = .ok (.iaload, 1)) (h : ab_J E nL k n S F A (pc + 1) lv (aI ((xs j.toNat).toInt) :: st)) : ab_J E nL k n S F A pc lv (aI j :: aX (.ref b) :: st) := by
  obtain ⟨p, l, e, R, s, m, args, below, meth, c, Q, K, Am, ad0, S0⟩ := E
  obtain ⟨hx, hb, hml, hown, hnm, hts, hK, hA, hlk, hZ, hR⟩ := C
  intro ad H locs ls g1 g2 g3 g4 g5 g6 g7 g8
  have q := h ad H locs ls g1 g2 g3 g4 g5 g6 g7 g8
  refine va_sld (i := Int32.ofInt j) hx hb hX.1 hX.2.1 hX.2.2 g8 (ab_in h0 h1 hL) d ?_
  rw [ab_clamp h0 (by omega)]
  have e9 : (Value.int (xs j.toNat)) = ab_val ad (aI ((xs j.toNat).toInt)) := by
    show Value.int _ = Value.int (Int32.ofInt (xs j.toNat).toInt)
    rw [Int32.ofInt_toInt]
  rw [e9]
  exact q
theorem j_lcmpE (C : ab_C E cc nL y rm) {a b : Int} (hab : a = b) (d : decode cc pc = .ok (.lcmp, 1)) (h : ab_J E nL k n S F A (pc + 1) lv (aI 0 :: st)) : ab_J E nL k n S F A pc lv (aL b :: aL a :: st) := by
  obtain ⟨p, l, e, R, s, m, args, below, meth, c, Q, K, Am, ad0, S0⟩ := E
  obtain ⟨hx, hb, hml, hown, hnm, hts, hK, hA, hlk, hZ, hR⟩ := C
  subst hab
  intro ad H locs ls g1 g2 g3 g4 g5 g6 g7 g8
  have q := h ad H locs ls g1 g2 g3 g4 g5 g6 g7 g8
  refine W.lcmp hx hb d ?_
  have e9 : lg_cmp (Int64.ofInt a) (Int64.ofInt a) = Int32.ofInt 0 := by simp [lg_cmp]
  rw [e9]
  exact q
end
/-! WHAT HOLDS BETWEEN THE CALLS: the class's world and the reference's say the same. -/
def LB (S : ab_St) (F : ab_Fn) (A : ab_An) (U : Int → bst) : Prop := BG S (F 2 2) ∧ (0 ≤ F 2 2 ∧ F 2 2 ≤ 10) ∧ F 100 11 = F 2 2 ∧ (∀ b, 0 ≤ b → b < F 2 2 → BC F A b.toNat (U b) ∧ BR A b (U b) ∧ BW (U b)) ∧ (∀ b : Nat, F 2 2 ≤ b → b < 10 → S (200 + b) = none ∧ S (220 + b) = none) ∧ (F 2 2 = 0 → S 590 = none) ∧ S 591 = none
def LW1 (F : ab_Fn) (A : ab_An) (nc : Nat → Nat) (w : Int) : Prop := ((nc w.toNat : Nat) : Int) = A 115 w ∧ (1 ≤ nc w.toNat ∧ nc w.toNat ≤ 40) ∧ (∀ k : Int, 0 ≤ k → k < (nc w.toNat : Nat) → A (350 + w.toNat) k = A 113 (40 * w + k) ∧ A (400 + w.toNat) k = A 114 (40 * w + k) ∧ 0 ≤ A (350 + w.toNat) k ∧ A (350 + w.toNat) k ≤ 20 ∧ 0 ≤ A (400 + w.toNat) k ∧ A (400 + w.toNat) k ≤ 14) ∧ F (300 + w.toNat) 2 = A 116 w ∧ ((F (300 + w.toNat) 4 = 0 ∧ A 117 w = -1) ∨ (F (300 + w.toNat) 4 = 1 ∧ A 117 w = F (300 + w.toNat) 5 ∧ 0 ≤ F (300 + w.toNat) 5)) ∧ inR (F (300 + w.toNat) 5) ∧ (∀ y, 0 ≤ y → y < 14 → A (450 + w.toNat) y = wb (wIn (A (350 + w.toNat)) (A (400 + w.toNat)) (nc w.toNat : Nat)) y 20)
def LW (S : ab_St) (F : ab_Fn) (A : ab_An) (nc : Nat → Nat) : Prop := WG S nc (F 3 2) ∧ (0 ≤ F 3 2 ∧ F 3 2 ≤ 40) ∧ F 100 18 = F 3 2 ∧ (∀ w, 0 ≤ w → w < F 3 2 → LW1 F A nc w) ∧ (∀ w : Nat, F 3 2 ≤ w → w < 40 → S (300 + w) = none ∧ S (350 + w) = none ∧ S (400 + w) = none ∧ S (450 + w) = none ∧ S (600 + w) = none) ∧ ∀ w, 0 ≤ w → w < 40 → inR (A 116 w) ∧ inR (A 117 w)
def LT (F : ab_Fn) (A : ab_An) : Prop := F 100 26 = F 4 1 ∧ (0 ≤ F 4 1 ∧ F 4 1 ≤ 400) ∧ ∀ i, 0 ≤ i → i < F 4 1 → A 15 i = A 125 i % 256 ∧ -128 ≤ A 125 i ∧ A 125 i ≤ 127
def LSe (A : ab_An) : Prop := (A 101 = A 11 ∧ A 102 = A 12 ∧ A 103 = A 13 ∧ A 104 = A 14) ∧ ∀ k, 0 ≤ k → k < 280 → (A 11 k = 0 ∨ A 11 k = 1) ∧ (-2 ≤ A 12 k ∧ A 12 k ≤ 2 ∧ -2 ≤ A 13 k ∧ A 13 k ≤ 2) ∧ (0 ≤ A 14 k ∧ A 14 k ≤ 50)
def LF (F : ab_Fn) (T : Int) : Prop := F 100 5 = F 0 10 ∧ (0 ≤ F 0 10 ∧ F 0 10 ≤ 50 * T) ∧ F 100 12 = F 0 11 ∧ (0 ≤ F 0 11 ∧ F 0 11 ≤ T) ∧ F 100 31 = F 0 12 ∧ inR (F 0 12)
def LO (S : ab_St) : Prop := ab_SC S ∧ ab_SM S ∧ S 90 = some (sA .long 1)
def LI (S : ab_St) (F : ab_Fn) (A : ab_An) (U : Int → bst) (nc : Nat → Nat) (T : Int) : Prop := LO S ∧ LB S F A U ∧ LW S F A nc ∧ LT F A ∧ LSe A ∧ LF F T
theorem LB.to {S S' : ab_St} {F F' : ab_Fn} {A A' : ab_An} {U : Int → bst} (h : LB S F A U) (hS : ∀ i, (i = 2 ∨ (200 ≤ i ∧ i < 230) ∨ i = 590 ∨ i = 591) → S' i = S i) (h2 : F' 2 2 = F 2 2) (h11 : F' 100 11 = F 100 11) (hF : ∀ i, 200 ≤ i → i < 210 → F' i = F i) (hA : ∀ i, ((106 ≤ i ∧ i ≤ 110) ∨ (220 ≤ i ∧ i < 230)) → A' i = A i) : LB S' F' A' U := by
  obtain ⟨⟨a1, e, a2, a3, a4, a5⟩, b1, b2, b3, b4, b5, b6⟩ := h
  unfold LB
  rw [h2, h11]
  refine ⟨⟨fun b hb => ?_, e, ?_, fun z => ?_, a4, a5⟩, b1, b2, fun b z1 z2 => ?_, fun b z1 z2 => ?_, fun z => ?_, ?_⟩
  · rw [hS _ (by omega), hS _ (by omega)]; exact a1 b hb
  · rw [hS 2 (by omega)]; exact a2
  · obtain ⟨c, c1, c2⟩ := a3 z
    have := a5 z
    exact ⟨c, by rw [hS e (by omega)]; exact c1, c2⟩
  · obtain ⟨q1, q2, q3⟩ := b3 b z1 z2
    refine ⟨q1.to (hF _ (by omega) (by omega)) (hA _ (by omega)), ?_, q3⟩
    unfold BR
    rw [hA 106 (by omega), hA 107 (by omega), hA 108 (by omega), hA 109 (by omega), hA 110 (by omega)]
    exact q2
  · rw [hS _ (by omega), hS _ (by omega)]; exact b4 b z1 z2
  · rw [hS 590 (by omega)]; exact b5 z
  · rw [hS 591 (by omega)]; exact b6
theorem LW1.to {F F' : ab_Fn} {A A' : ab_An} {nc : Nat → Nat} {w : Int} (h : LW1 F A nc w) (hF : F' (300 + w.toNat) = F (300 + w.toNat)) (hA : ∀ i, ((113 ≤ i ∧ i ≤ 117) ∨ i = 350 + w.toNat ∨ i = 400 + w.toNat ∨ i = 450 + w.toNat) → A' i = A i) : LW1 F' A' nc w := by
  unfold LW1
  rw [hF, hA 113 (by omega), hA 114 (by omega), hA 115 (by omega), hA 116 (by omega), hA 117 (by omega), hA (350 + w.toNat) (by omega), hA (400 + w.toNat) (by omega), hA (450 + w.toNat) (by omega)]
  exact h
theorem LW.to {S S' : ab_St} {F F' : ab_Fn} {A A' : ab_An} {nc : Nat → Nat} (h : LW S F A nc) (hS : ∀ i, (i = 3 ∨ (300 ≤ i ∧ i < 490) ∨ (600 ≤ i ∧ i < 640)) → S' i = S i) (h3 : F' 3 2 = F 3 2) (h18 : F' 100 18 = F 100 18) (hF : ∀ i, 300 ≤ i → i < 340 → F' i = F i) (hA : ∀ i, ((113 ≤ i ∧ i ≤ 117) ∨ (350 ≤ i ∧ i < 490)) → A' i = A i) : LW S' F' A' nc := by
  obtain ⟨⟨a1, e, N, a2, a3, a4, a5, a6⟩, b1, b2, b3, b4, b5⟩ := h
  unfold LW
  rw [h3, h18]
  refine ⟨⟨fun w hw => ?_, e, N, ?_, a3, fun z => ?_, a5, a6⟩, b1, b2, fun w z1 z2 => (b3 w z1 z2).to (hF _ (by omega) (by omega)) (fun i hi => hA i (by omega)), fun w z1 z2 => ?_, ?_⟩
  · rw [hS _ (by omega), hS _ (by omega), hS _ (by omega), hS _ (by omega)]; exact a1 w hw
  · rw [hS 3 (by omega)]; exact a2
  · obtain ⟨c, c1, c2⟩ := a4 z
    have := a6 z
    exact ⟨c, by rw [hS e (by omega)]; exact c1, c2⟩
  · rw [hS _ (by omega), hS _ (by omega), hS _ (by omega), hS _ (by omega), hS _ (by omega)]; exact b4 w z1 z2
  · rw [hA 116 (by omega), hA 117 (by omega)]; exact b5
theorem LT.to {F F' : ab_Fn} {A A' : ab_An} (h : LT F A) (h4 : F' 4 1 = F 4 1) (h26 : F' 100 26 = F 100 26) (h15 : A' 15 = A 15) (h125 : A' 125 = A 125) : LT F' A' := by
  unfold LT
  rw [h4, h26, h15, h125]
  exact h
theorem LSe.to {A A' : ab_An} (h : LSe A) (hA : ∀ i, ((11 ≤ i ∧ i ≤ 14) ∨ (101 ≤ i ∧ i ≤ 104)) → A' i = A i) : LSe A' := by
  unfold LSe
  rw [hA 11 (by omega), hA 12 (by omega), hA 13 (by omega), hA 14 (by omega), hA 101 (by omega), hA 102 (by omega), hA 103 (by omega), hA 104 (by omega)]
  exact h
theorem LF.to {F F' : ab_Fn} {T : Int} (h : LF F T) (h0 : ∀ k, 10 ≤ k → k ≤ 12 → F' 0 k = F 0 k) (h1 : F' 100 5 = F 100 5) (h2 : F' 100 12 = F 100 12) (h3 : F' 100 31 = F 100 31) : LF F' (T + 1) := by
  obtain ⟨a1, a2, a3, a4, a5, a6⟩ := h
  unfold LF
  rw [h0 10 (by omega) (by omega), h0 11 (by omega) (by omega), h0 12 (by omega) (by omega), h1, h2, h3]
  exact ⟨a1, by omega, a3, by omega, a5, a6⟩
/-- a call that changes nothing of this -/
theorem LI.to {S : ab_St} {F F' : ab_Fn} {A A' : ab_An} {U : Int → bst} {nc : Nat → Nat} {T : Int} (h : LI S F A U nc T) (hF : ∀ i, (i = 0 ∨ i = 2 ∨ i = 3 ∨ i = 4 ∨ (200 ≤ i ∧ i < 210) ∨ (300 ≤ i ∧ i < 340)) → F' i = F i) (hM : ∀ k, (k = 5 ∨ k = 11 ∨ k = 12 ∨ k = 18 ∨ k = 26 ∨ k = 31) → F' 100 k = F 100 k) (hA : ∀ i, ((11 ≤ i ∧ i ≤ 15) ∨ (101 ≤ i ∧ i ≤ 104) ∨ (106 ≤ i ∧ i ≤ 110) ∨ (113 ≤ i ∧ i ≤ 117) ∨ i = 125 ∨ (220 ≤ i ∧ i < 230) ∨ (350 ≤ i ∧ i < 490)) → A' i = A i) : LI S F' A' U nc (T + 1) :=
  ⟨h.1, h.2.1.to (fun _ _ => rfl) (by rw [hF 2 (by omega)]) (hM 11 (by omega)) (fun i z1 z2 => hF i (by omega)) (fun i z => hA i (by omega)),
    h.2.2.1.to (fun _ _ => rfl) (by rw [hF 3 (by omega)]) (hM 18 (by omega)) (fun i z1 z2 => hF i (by omega)) (fun i z => hA i (by omega)),
    h.2.2.2.1.to (by rw [hF 4 (by omega)]) (hM 26 (by omega)) (hA 15 (by omega)) (hA 125 (by omega)), h.2.2.2.2.1.to (fun i z => hA i (by omega)),
    h.2.2.2.2.2.to (fun k _ _ => by rw [hF 0 (by omega)]) (hM 5 (by omega)) (hM 12 (by omega)) (hM 31 (by omega))⟩
/-- what the contracts ask -/
theorem LI.hp {S : ab_St} {F : ab_Fn} {A : ab_An} {U : Int → bst} {nc : Nat → Nat} {T : Int} (h : LI S F A U nc T) : ∀ b k, 0 ≤ b → b < F 2 2 → 0 ≤ k → k < 280 → 0 ≤ A (220 + b.toNat) k ∧ A (220 + b.toNat) k ≤ 1000000 := fun b k z1 z2 z3 z4 => by
  obtain ⟨q1, q2, q3⟩ := h.2.1.2.2.2.1 b z1 z2
  rw [q1.1 k z3 z4]; exact q3.le z3 z4
theorem LI.hq {S : ab_St} {F : ab_Fn} {A : ab_An} {U : Int → bst} {nc : Nat → Nat} {T : Int} (h : LI S F A U nc T) : ∀ b k, 0 ≤ b → b < F 2 2 → 0 ≤ k → k < 280 → A 106 (280 * b + k) = A (220 + b.toNat) k := fun b k z1 z2 z3 z4 => by
  obtain ⟨q1, q2, q3⟩ := h.2.1.2.2.2.1 b z1 z2
  rw [q1.1 k z3 z4, q2.1 k z3 z4]
theorem LI.hg {S : ab_St} {F : ab_Fn} {A : ab_An} {U : Int → bst} {nc : Nat → Nat} {T : Int} (h : LI S F A U nc T) : ∀ b, 0 ≤ b → b < F 2 2 → F (200 + b.toNat) 4 = 0 ∨ F (200 + b.toNat) 4 = 1 := fun b z1 z2 => by
  obtain ⟨q1, q2, q3⟩ := h.2.1.2.2.2.1 b z1 z2
  rw [q1.2.2.2.2]; exact q3.2.2.2.2.1
theorem LI.hv {S : ab_St} {F : ab_Fn} {A : ab_An} {U : Int → bst} {nc : Nat → Nat} {T : Int} (h : LI S F A U nc T) : ∀ w, 0 ≤ w → w < F 3 2 → inR (F (300 + w.toNat) 2) ∧ (F (300 + w.toNat) 4 = 0 ∨ F (300 + w.toNat) 4 = 1) ∧ inR (F (300 + w.toNat) 5) := fun w z1 z2 => by
  obtain ⟨q1, q2, q3, q4, q5, q6, q7⟩ := h.2.2.1.2.2.2.1 w z1 z2
  refine ⟨by rw [q4]; exact (h.2.2.1.2.2.2.2.2 w z1 (by have := h.2.2.1.2.1; omega)).1, ?_, q6⟩
  rcases q5 with q | q
  · exact Or.inl q.1
  · exact Or.inr q.1
