section
variable {E : ab_E} {cc : ByteArray} {nL : Nat} {y : MethodName} {rm : Room} {k n : Nat} {S : ab_St} {F : ab_Fn} {A : ab_An} {pc : Nat} {lv : List (Option ab_V)} {st : List ab_V}
/-- System.arraycopy of the first a numbers of a row -/
theorem j_copy (C : ab_C E cc nL y rm) {index i j n0 n1 : Nat} {a : Int} (hl : Cond.methodLink y.cls index arraycopyName ∈ ab_tb) (hn : Cond.native arraycopyName ∈ ab_tb) (hs : Cond.static arraycopyName ∈ ab_tb) (hi : Cond.initialized "java/lang/System" ∈ ab_tb) (h1 : S i = some (sA .int n0)) (h2 : S j = some (sA .int n1)) (ha : 0 ≤ a ∧ a ≤ n0 ∧ a ≤ n1) (hN : (n0 : Int) < 2147483648) (hfr : 1 ≤ rm.frames) (hlo : ∀ ad, ((st.map (ab_val ad)).map fun v => v.category).sum + (nativeFrameWords "java/lang/System" "arraycopy" 5 + 11) ≤ rm.locals) (d : decode cc pc = .ok (.invokestatic index, 3)) (h : ab_J E nL k n S F (setRow A j 0 a (A i)) (pc + 3) lv st) : ab_J E nL k n S F A pc lv (aI a :: aI 0 :: aR j :: aI 0 :: aR i :: st) := by
  obtain ⟨p, l, e, R, s, m, args, below, meth, c, Q, K, Am, ad0, S0⟩ := E
  obtain ⟨hx, hb, hml, hown, hnm, hts, hK, hA, hlk, hZ, hR⟩ := C
  intro ad H locs ls g1 g2 g3 g4 g5 g6 g7 g8
  subst hR
  have hc0 : H[ad i]? = some (arrV (K.2.1 .int) n0 (fun q => .int (Int32.ofInt (A i (q : Int))))) := g6.1 i _ h1
  have hc1 : H[ad j]? = some (arrV (K.2.1 .int) n1 (fun q => .int (Int32.ofInt (A j (q : Int))))) := g6.1 j _ h2
  have hne : S j ≠ none := by rw [h2]; exact fun z => by cases z
  obtain ⟨-, k0, hk0, cm0, hkk0⟩ := (hK.2 0 _ rfl).1 n0 (fun q => .int (Int32.ofInt (A i (q : Int))))
  obtain ⟨-, k1, hk1, cm1, hkk1⟩ := (hK.2 0 _ rfl).1 n1 (fun q => .int (Int32.ofInt (A j (q : Int))))
  have ea : (Int32.ofInt a).toNatClampNeg = a.toNat := ab_clamp ha.1 (by omega)
  have e0 : (Int32.ofInt 0).toNatClampNeg = 0 := rfl
  have ei : (Int32.ofInt a).toInt = a := ab_toInt ⟨by omega, by omega⟩
  have ez : (Int32.ofInt 0).toInt = 0 := rfl
  intro T hT X
  obtain ⟨vm', X', step⟩ := X.arraycopy hx hown (hts _ hl) (hts _ hn) (hts _ hs) (hts _ hi) (src := ad i) (dst := ad j) (cs := arrV (K.2.1 .int) n0 (fun q => .int (Int32.ofInt (A i (q : Int))))) (cd := arrV (K.2.1 .int) n1 (fun q => .int (Int32.ofInt (A j (q : Int))))) (srcPos := Int32.ofInt 0) (destPos := Int32.ofInt 0) (n := Int32.ofInt a) (by rw [hT]; exact hc0) (by rw [hT]; exact hc1)
    (fun _ h => by cases h) (fun _ h => by cases h) (fun h => by cases h) (fun h => by cases h) hk0 hk1 hkk0 hkk1 (by simp [refKind]) (by decide) (by decide) (fun z => by have := (ab_lt (a := a) (b := 0) ⟨by omega, by omega⟩ inR_0).mp z; omega)
    (by rw [ez, ei, arrV_size]; omega)
    (by rw [ez, ei, arrV_size]; omega)
    (fun vm₁ _ q hq => by
      have hq : q < n0 := by rw [ea] at hq; omega
      have e : (arrV (K.2.1 .int) n0 (fun q => .int (Int32.ofInt (A i (q : Int))))).slots.getD ((Int32.ofInt 0).toNatClampNeg + q) .null = .int (Int32.ofInt (A i (q : Int))) := by
        rw [e0, Nat.zero_add, Array.getD_eq_getD_getElem?, arrV_read _ _ hq]
        rfl
      refine ⟨?_, ?_⟩
      · rw [e]; rfl
      · rw [e]; exact trivial)
    (g := F0 m pc ls ((aI a :: aI 0 :: aR j :: aI 0 :: aR i :: st).map (ab_val ad))) rfl (g3.trans hml.symm) (rest := st.map (ab_val ad)) rfl (by rw [hb]; exact d) hfr (by show 2 * 0 + _ + _ ≤ _; have := hlo ad; omega)
  have e1 : copied (arrV (K.2.1 .int) n0 (fun q => .int (Int32.ofInt (A i (q : Int))))) (arrV (K.2.1 .int) n1 (fun q => .int (Int32.ofInt (A j (q : Int))))) (Int32.ofInt 0) (Int32.ofInt 0) (Int32.ofInt a) = arrV (K.2.1 .int) n1 (fun q => .int (va_cpy (fun q : Nat => Int32.ofInt (A i (q : Int))) (fun q : Nat => Int32.ofInt (A j (q : Int))) 0 0 a.toNat q)) := by
    have := va_copied (fun z => Value.int z) (K.2.1 .int) (K.2.1 .int) (n0 := n0) (n1 := n1) (sp := 0) (dp := 0) (n := a.toNat) (fun q : Nat => Int32.ofInt (A i (q : Int))) (fun q : Nat => Int32.ofInt (A j (q : Int))) (by omega)
    unfold copied
    rw [ea, e0]
    exact this
  rw [e1] at X' step
  have hlj : ad j < H.size := (Array.getElem?_eq_some_iff.mp hc1).1
  generalize hcel : arrV (K.2.1 .int) n1 (fun q => .int (va_cpy (fun q : Nat => Int32.ofInt (A i (q : Int))) (fun q : Nat => Int32.ofInt (A j (q : Int))) 0 0 a.toNat q)) = cel at X' step
  have hheap : ((T.setVm vm').setCell (ad j) cel).heap = H.setIfInBounds (ad j) cel := by rw [← hT]; rfl
  have oq : ∀ q : Nat, q ≠ ad j → (H.setIfInBounds (ad j) cel)[q]? = H[q]? := fun q hq => by simp [Array.getElem?_setIfInBounds, Ne.symm hq]
  have hat : (H.setIfInBounds (ad j) cel)[ad j]? = some cel := by simp [Array.getElem?_setIfInBounds, hlj]
  obtain ⟨t, a1, b1⟩ := h ad (H.setIfInBounds (ad j) cel) _ ls g1 g2 g3 g4 g5 (g6.set (i := j) (sh := sA .int n1) hne (upS_self h2).symm (fun _ _ => rfl) (fun b hb => by funext x; simp [setRow, hb]) (by
      show (H.setIfInBounds (ad j) cel)[ad j]? = _
      rw [hat, ← hcel]
      congr 2
      funext q
      show Value.int _ = Value.int (Int32.ofInt (setRow A j 0 a (A i) j (q : Int)))
      congr 1
      unfold va_cpy setRow
      by_cases hq : q < a.toNat
      · rw [if_pos ⟨Nat.zero_le _, by omega⟩]
        simp only [if_true]
        rw [if_pos (by omega)]
        congr 2
        omega
      · rw [if_neg (by omega)]
        simp only [if_true]
        rw [if_neg (by omega)]) oq trivial) g7 ⟨by simp; exact g8.1, fun q q1 q2 => by
      rw [oq q (fun e => q2 (by rw [e]; exact g7 j hne))]
      exact g8.2.1 q q1 q2, fun q hq => by
      rcases List.mem_append.mp hq with h | h
      · exact g8.2.2 q h
      · obtain ⟨z, -, hz⟩ := List.mem_map.mp h
        rw [← hz]
        exact g7 j hne⟩ _ hheap X'
  exact ⟨t, step t a1, b1⟩
end
