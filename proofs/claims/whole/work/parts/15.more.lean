def lv_le : List (Option ab_V) → List (Option ab_V) → Prop
  | [], _ => True
  | none :: t, _ :: u => lv_le t u
  | some a :: t, x :: u => x = some a ∧ lv_le t u
  | _ :: _, [] => False
theorem lv_le.at : ∀ {a b : List (Option ab_V)}, lv_le a b → ∀ (i : Nat) (v : ab_V), a[i]? = some (some v) → b[i]? = some (some v)
  | [], _, _, i, v, h => by simp at h
  | none :: t, _ :: u, hl, 0, v, h => by simp at h
  | none :: t, _ :: u, hl, i + 1, v, h => by
    rw [List.getElem?_cons_succ] at h ⊢
    exact lv_le.at (a := t) (b := u) hl i v h
  | some a :: t, x :: u, hl, 0, v, h => by
    rw [List.getElem?_cons_zero] at h ⊢
    rw [hl.1]; exact h
  | some a :: t, x :: u, hl, i + 1, v, h => by
    rw [List.getElem?_cons_succ] at h ⊢
    exact lv_le.at (a := t) (b := u) hl.2 i v h
  | _ :: _, [], hl, _, _, _ => by cases ‹Option ab_V› <;> exact hl.elim
section
variable {E : ab_E} {cc : ByteArray} {nL : Nat} {y : MethodName} {rm : Room} {k n : Nat} {S : ab_St} {F : ab_Fn} {A : ab_An} {pc : Nat} {lv : List (Option ab_V)} {st : List ab_V}
theorem j_ldcI (C : ab_C E cc nL y rm) {index : Nat} {v : Int32} {z : Int} (hw : Cond.constant y.cls index v ∈ ab_tb) (hv : v = Int32.ofInt z) (d : decode cc pc = .ok (.ldc index, 2)) (h : ab_J E nL k n S F A (pc + 2) lv (aI z :: st)) : ab_J E nL k n S F A pc lv st := by
  obtain ⟨p, l, e, R, s, m, args, below, meth, c, Q, K, Am, ad0, S0⟩ := E
  obtain ⟨hx, hb, hml, hown, hnm, hts, hK, hA, hlk, hZ, hR⟩ := C
  intro ad H locs ls g1 g2 g3 g4 g5 g6 g7 g8
  have q := h ad H locs ls g1 g2 g3 g4 g5 g6 g7 g8
  subst hv
  exact lv_ldc hx hb hown (hts _ hw) d q
theorem j_mmax (C : ab_C E cc nL y rm) {index : Nat} {a b : Int} (hw : Cond.methodLink y.cls index Lib.Math.max.name ∈ ab_tb) (ha : inR a) (hb1 : inR b) (hfr : 1 ≤ rm.frames) (hlo : ∀ ad, ((st.map (ab_val ad)).map fun v => v.category).sum + 13 ≤ rm.locals) (hcs : k ≤ rm.cells ∧ n ≤ rm.slots) (d : decode cc pc = .ok (.invokestatic index, 3)) (h : ab_J E nL k n S F A (pc + 3) lv (aI ((max a b : Int)) :: st)) : ab_J E nL k n S F A pc lv (aI b :: aI a :: st) := by
  obtain ⟨p, l, e, R, s, m, args, below, meth, c, Q, K, Am, ad0, S0⟩ := E
  obtain ⟨hx, hb, hml, hown, hnm, hts, hK, hA, hlk, hZ, hR⟩ := C
  intro ad H locs ls g1 g2 g3 g4 g5 g6 g7 g8
  have q := h ad H locs ls g1 g2 g3 g4 g5 g6 g7 g8
  subst hR
  refine va_mmax hx hb (hml.trans g3.symm) hown (hts _ hw) (hts _ (ab_t2 (List.mem_of_getElem? (i := 65) rfl) rfl)) (hts _ (ab_t1 (List.mem_of_getElem? (i := 25) rfl) rfl)) (hts _ (ab_t2 (List.mem_of_getElem? (i := 66) rfl) rfl)) hfr (hlo ad) hcs.1 hcs.2 d ?_
  have e9 : (if Int32.ofInt a < Int32.ofInt b then Int32.ofInt b else Int32.ofInt a) = Int32.ofInt (max a b : Int) := by
    by_cases hlt : a < b
    · rw [if_pos ((ab_lt ha hb1).mpr hlt)]; congr 1; omega
    · rw [if_neg (fun z => hlt ((ab_lt ha hb1).mp z))]; congr 1; omega
  rw [e9]
  exact q
theorem j_mmin (C : ab_C E cc nL y rm) {index : Nat} {a b : Int} (hw : Cond.methodLink y.cls index Lib.Math.min.name ∈ ab_tb) (ha : inR a) (hb1 : inR b) (hfr : 1 ≤ rm.frames) (hlo : ∀ ad, ((st.map (ab_val ad)).map fun v => v.category).sum + 13 ≤ rm.locals) (hcs : k ≤ rm.cells ∧ n ≤ rm.slots) (d : decode cc pc = .ok (.invokestatic index, 3)) (h : ab_J E nL k n S F A (pc + 3) lv (aI ((min a b : Int)) :: st)) : ab_J E nL k n S F A pc lv (aI b :: aI a :: st) := by
  obtain ⟨p, l, e, R, s, m, args, below, meth, c, Q, K, Am, ad0, S0⟩ := E
  obtain ⟨hx, hb, hml, hown, hnm, hts, hK, hA, hlk, hZ, hR⟩ := C
  intro ad H locs ls g1 g2 g3 g4 g5 g6 g7 g8
  have q := h ad H locs ls g1 g2 g3 g4 g5 g6 g7 g8
  subst hR
  refine va_mmin hx hb (hml.trans g3.symm) hown (hts _ hw) (hts _ (ab_t2 (List.mem_of_getElem? (i := 62) rfl) rfl)) (hts _ (ab_t1 (List.mem_of_getElem? (i := 25) rfl) rfl)) (hts _ (ab_t2 (List.mem_of_getElem? (i := 63) rfl) rfl)) hfr (hlo ad) hcs.1 hcs.2 d ?_
  have e9 : (if Int32.ofInt b < Int32.ofInt a then Int32.ofInt b else Int32.ofInt a) = Int32.ofInt (min a b : Int) := by
    by_cases hlt : b < a
    · rw [if_pos ((ab_lt hb1 ha).mpr hlt)]; congr 1; omega
    · rw [if_neg (fun z => hlt ((ab_lt hb1 ha).mp z))]; congr 1; omega
  rw [e9]
  exact q
theorem j_mabs (C : ab_C E cc nL y rm) {index : Nat} {a : Int} (hw : Cond.methodLink y.cls index Lib.Math.abs.name ∈ ab_tb) (ha : inR a) (hfr : 1 ≤ rm.frames) (hlo : ∀ ad, ((st.map (ab_val ad)).map fun v => v.category).sum + 13 ≤ rm.locals) (hcs : k ≤ rm.cells ∧ n ≤ rm.slots) (d : decode cc pc = .ok (.invokestatic index, 3)) (h : ab_J E nL k n S F A (pc + 3) lv (aI ((a.natAbs : Nat) : Int) :: st)) : ab_J E nL k n S F A pc lv (aI a :: st) := by
  obtain ⟨p, l, e, R, s, m, args, below, meth, c, Q, K, Am, ad0, S0⟩ := E
  obtain ⟨hx, hb, hml, hown, hnm, hts, hK, hA, hlk, hZ, hR⟩ := C
  intro ad H locs ls g1 g2 g3 g4 g5 g6 g7 g8
  have q := h ad H locs ls g1 g2 g3 g4 g5 g6 g7 g8
  subst hR
  refine va_mabs hx hb (hml.trans g3.symm) hown (hts _ hw) (hts _ (ab_t5 (List.mem_of_getElem? (i := 195) rfl) rfl)) (hts _ (ab_t1 (List.mem_of_getElem? (i := 25) rfl) rfl)) (hts _ (ab_t5 (List.mem_of_getElem? (i := 196) rfl) rfl)) hfr (hlo ad) hcs.1 hcs.2 d ?_
  have e9 : (if 0 ≤ Int32.ofInt a then Int32.ofInt a else 0 - Int32.ofInt a) = Int32.ofInt ((a.natAbs : Nat) : Int) := by
    have key : (0 : Int32) ≤ Int32.ofInt a ↔ 0 ≤ a := ab_le inR_0 ha
    by_cases hlt : 0 ≤ a
    · rw [if_pos (key.mpr hlt)]; congr 1; omega
    · rw [if_neg (fun z => hlt (key.mp z)), ab_0, ab_sub]; congr 1; omega
  rw [e9]
  exact q
/-- less is known of the locals -/
theorem j_lv {lv' : List (Option ab_V)} (h : ab_J E nL k n S F A pc lv' st) (hle : lv_le lv' lv) : ab_J E nL k n S F A pc lv st := by
  obtain ⟨p, l, e, R, s, m, args, below, meth, c, Q, K, Am, ad0, S0⟩ := E
  intro ad H locs ls g1 g2 g3 g4 g5 g6 g7 g8
  exact h ad H locs ls g1 g2 g3 g4 (fun i v hi => g5 i v (lv_le.at hle i v hi)) g6 g7 g8
end
