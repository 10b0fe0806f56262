section
variable {E : ab_E} {cc : ByteArray} {nL : Nat} {y : MethodName} {rm : Room} {k n : Nat} {S : ab_St} {F : ab_Fn} {A : ab_An} {pc : Nat} {lv : List (Option ab_V)} {st : List ab_V}
theorem ab_mirT {args : Array Value} {s : State} {C : String} {mi : Nat} (h : (Term.mirror C).eval args s none [] s = some (.ref mi)) : va_Mi C mi s := by
  simp only [Term.eval] at h
  cases hc : s.vm.findClass C with
  | none => simp [hc] at h
  | some c0 =>
    cases hk : s.vm.classes[c0]? with
    | none => simp [hc, hk] at h
    | some k0 =>
      cases hm : k0.mirror with
      | none => simp [hc, hk, hm] at h
      | some m0 =>
        simp [hc, hk, hm] at h
        exact ⟨c0, k0, hc, hk, by rw [hm, h]⟩
theorem ab_mir {l : Launch} {ad : Nat → Nat} {Am : Nat → Prop} {s : State} (hZ : ab_Z l ad Am s s.heap) : va_Mi "[Ljava/lang/Object;" (ad (1000200 + 3)) s := by
  obtain ⟨-, s0, b0, h1, hc, hW, h3, h4, h5⟩ := hZ
  exact va_Mi.moved hW.alike (ab_mirT (hc.2.2 3 (by decide)))
/-- the class constant of rows of references -/
theorem j_ldcM (C : ab_C E cc nL y rm) {index : Nat} (hw : Cond.classLink y.cls index "[Ljava/lang/Object;" ∈ ab_tb) (d : decode cc pc = .ok (.ldc index, 2)) (h : ab_J E nL k n S F A (pc + 2) lv (aR (1000200 + 3) :: st)) : ab_J E nL k n S F A pc lv st := by
  obtain ⟨p, l, e, R, s, m, args, below, meth, c, Q, K, Am, ad0, S0⟩ := E
  obtain ⟨hx, hb, hml, hown, hnm, hts, hK, hA, hlk, hZ, hR⟩ := C
  intro ad H locs ls g1 g2 g3 g4 g5 g6 g7 g8
  have q := h ad H locs ls g1 g2 g3 g4 g5 g6 g7 g8
  have e := ab_mir hZ
  rw [← g1.2 _ (by decide)] at e
  exact va_ldcM hx hb hown (hts _ hw) e d q
/-- getClass() of a row of references -/
theorem j_getC (C : ab_C E cc nL y rm) {index i N : Nat} {f : Nat → Option Nat} (hl : Cond.methodLink y.cls index ⟨"java/lang/Object", "getClass", "()Ljava/lang/Class;"⟩ ∈ ab_tb) (hd : Cond.declares ⟨"java/lang/Object", "getClass", "()Ljava/lang/Class;"⟩ ∈ lw_tbl) (hs : Cond.selects "[Ljava/lang/Object;" ⟨"java/lang/Object", "getClass", "()Ljava/lang/Class;"⟩ ⟨"java/lang/Object", "getClass", "()Ljava/lang/Class;"⟩ ∈ ab_tb) (hi : Cond.instanceMethod ⟨"java/lang/Object", "getClass", "()Ljava/lang/Class;"⟩ ∈ ab_tb) (hn : Cond.native ⟨"java/lang/Object", "getClass", "()Ljava/lang/Class;"⟩ ∈ ab_tb) (hS : S i = some (sO N f)) (hfr : 1 ≤ rm.frames) (hlo : ∀ ad, ((st.map (ab_val ad)).map fun v => v.category).sum + 14 ≤ rm.locals) (d : decode cc pc = .ok (.invokevirtual index, 3)) (h : ab_J E nL k n S F A (pc + 3) lv (aR (1000200 + 3) :: st)) : ab_J E nL k n S F A pc lv (aR i :: st) := by
  obtain ⟨p, l, e, R, s, m, args, below, meth, c, Q, K, Am, ad0, S0⟩ := E
  obtain ⟨hx, hb, hml, hown, hnm, hts, hK, hA, hlk, hZ, hR⟩ := C
  intro ad H locs ls g1 g2 g3 g4 g5 g6 g7 g8
  subst hR
  have q := h ad H locs ls g1 g2 g3 g4 g5 g6 g7 g8
  have e := ab_mir hZ
  rw [← g1.2 _ (by decide)] at e
  have hc : H[ad i]? = some (arrV K.2.2 N (fun j => ab_rv ad (f j))) := g6.1 i _ hS
  have hdc : (Cond.declares ⟨"java/lang/Object", "getClass", "()Ljava/lang/Class;"⟩).before args s = true := by
    obtain ⟨-, s0, b0, h1, hc, hW, -⟩ := hZ
    exact va_Dc.use (va_Dc.moved hW.alike (va_Dc.of (h1.1 _ hd)))
  exact va_getC hx hb (hml.trans g3.symm) hown (hts _ hl) hdc (hts _ hs) (hts _ hi) (hts _ hn) e ⟨_, hc, rfl, va_nmO (hK.2 4 _ rfl).2 rfl⟩ hfr (hlo ad) d q
theorem j_acmpT (C : ab_C E cc nL y rm) {i : Nat} {off : Int} {tgt : Nat} (d : decode cc pc = .ok (.if_acmp .eq off, 3)) (ht : (pc : Int) + off = (tgt : Int)) (h : ab_J E nL k n S F A tgt lv st) : ab_J E nL k n S F A pc lv (aR i :: aR i :: st) := by
  obtain ⟨p, l, e, R, s, m, args, below, meth, c, Q, K, Am, ad0, S0⟩ := E
  obtain ⟨hx, hb, hml, hown, hnm, hts, hK, hA, hlk, hZ, hR⟩ := C
  intro ad H locs ls g1 g2 g3 g4 g5 g6 g7 g8
  exact lv_acmp_eq (rx := some (ad i)) (ry := some (ad i)) hx hb d ht (fun _ => h ad H locs ls g1 g2 g3 g4 g5 g6 g7 g8) (fun z => absurd rfl z)
theorem j_acmpF (C : ab_C E cc nL y rm) {i : Nat} {off : Int} {tgt : Nat} (d : decode cc pc = .ok (.if_acmp .ne off, 3)) (ht : (pc : Int) + off = (tgt : Int)) (h : ab_J E nL k n S F A (pc + 3) lv st) : ab_J E nL k n S F A pc lv (aR i :: aR i :: st) := by
  obtain ⟨p, l, e, R, s, m, args, below, meth, c, Q, K, Am, ad0, S0⟩ := E
  obtain ⟨hx, hb, hml, hown, hnm, hts, hK, hA, hlk, hZ, hR⟩ := C
  intro ad H locs ls g1 g2 g3 g4 g5 g6 g7 g8
  exact lv_acmp_ne (rx := some (ad i)) (ry := some (ad i)) hx hb d ht (fun z => absurd rfl z) (fun _ => h ad H locs ls g1 g2 g3 g4 g5 g6 g7 g8)
/-- the length of the empty row that new lists share -/
theorem j_len0 (C : ab_C E cc nL y rm) (d : decode cc pc = .ok (.arraylength, 1)) (h : ab_J E nL k n S F A (pc + 1) lv (aI 0 :: st)) : ab_J E nL k n S F A pc lv (aR (1000200 + 2) :: st) := by
  obtain ⟨p, l, e, R, s, m, args, below, meth, c, Q, K, Am, ad0, S0⟩ := E
  obtain ⟨hx, hb, hml, hown, hnm, hts, hK, hA, hlk, hZ, hR⟩ := C
  intro ad H locs ls g1 g2 g3 g4 g5 g6 g7 g8
  have q := h ad H locs ls g1 g2 g3 g4 g5 g6 g7 g8
  obtain ⟨-, s0, b0, x1, hc, hW, h3, h4, h5⟩ := hZ
  have c2 := hc.2.2 2 (by decide)
  obtain ⟨t, ht, hT⟩ := va_Tof (N := 0) (f := fun _ => .null) (A := fun q => s0.heap.size ≤ q) (by decide) (rq_2 x1) (va_eqt (rl_2 x1)) (fun i hi => absurd hi (Nat.not_lt_zero _)) ab_hA
  cases Option.some.inj (ht.symm.trans c2)
  have e := ab_oT (l := l) (ad := ad) (b0 := b0) hW h4 h5 hT
  rw [← g1.2 _ (by decide)] at e
  exact va_tlen hx hb e g8 rfl d q
/-- System.arraycopy of the first a references of a row -/
theorem j_copyO (C : ab_C E cc nL y rm) {index i j n0 n1 : Nat} {a : Int} {f g : Nat → Option Nat} (hl : Cond.methodLink y.cls index arraycopyName ∈ ab_tb) (hn : Cond.native arraycopyName ∈ ab_tb) (hs : Cond.static arraycopyName ∈ ab_tb) (hi : Cond.initialized "java/lang/System" ∈ ab_tb) (h1 : S i = some (sO n0 f)) (h2 : S j = some (sO n1 g)) (ha : 0 ≤ a ∧ a ≤ n0 ∧ a ≤ n1) (hN : (n0 : Int) < 2147483648) (hel : ∀ q : Nat, (q : Int) < a → ∀ x, f q = some x → ∃ (ci : Nat) (sl : Nat → Option (Option Nat)) (r : vw_C), S x = some (sC ci sl) ∧ vwCl[ci]? = some r ∧ Cond.castable r.1 "java/lang/Object" ∈ lw_tbl) (hfr : 1 ≤ rm.frames) (hlo : ∀ ad, ((st.map (ab_val ad)).map fun v => v.category).sum + (nativeFrameWords "java/lang/System" "arraycopy" 5 + 11) ≤ rm.locals) (d : decode cc pc = .ok (.invokestatic index, 3)) (h : ab_J E nL k n (upS S j (sO n1 (fun q => if (q : Int) < a then f q else g q))) F A (pc + 3) lv st) : ab_J E nL k n S F A pc lv (aI a :: aI 0 :: aR j :: aI 0 :: aR i :: st) := by
  obtain ⟨p, l, e, R, s, m, args, below, meth, c, Q, K, Am, ad0, S0⟩ := E
  obtain ⟨hx, hb, hml, hown, hnm, hts, hK, hA, hlk, hZ, hR⟩ := C
  intro ad H locs ls g1 g2 g3 g4 g5 g6 g7 g8
  subst hR
  have hc0 : H[ad i]? = some (arrV K.2.2 n0 (fun q => ab_rv ad (f q))) := g6.1 i _ h1
  have hc1 : H[ad j]? = some (arrV K.2.2 n1 (fun q => ab_rv ad (g q))) := g6.1 j _ h2
  have hne : S j ≠ none := by rw [h2]; exact fun z => by cases z
  obtain ⟨-, k0, hk0, cm0, hkk0⟩ := (hK.2 4 _ rfl).1 n0 (fun q => ab_rv ad (f q))
  obtain ⟨-, k1, hk1, cm1, hkk1⟩ := (hK.2 4 _ rfl).1 n1 (fun q => ab_rv ad (g q))
  have ea : (Int32.ofInt a).toNatClampNeg = a.toNat := ab_clamp ha.1 (by omega)
  have e0 : (Int32.ofInt 0).toNatClampNeg = 0 := rfl
  have ei : (Int32.ofInt a).toInt = a := ab_toInt ⟨by omega, by omega⟩
  have ez : (Int32.ofInt 0).toInt = 0 := rfl
  intro T hT X
  obtain ⟨vm', X', step⟩ := X.arraycopy hx hown (hts _ hl) (hts _ hn) (hts _ hs) (hts _ hi) (src := ad i) (dst := ad j) (cs := arrV K.2.2 n0 (fun q => ab_rv ad (f q))) (cd := arrV K.2.2 n1 (fun q => ab_rv ad (g q))) (srcPos := Int32.ofInt 0) (destPos := Int32.ofInt 0) (n := Int32.ofInt a) (by rw [hT]; exact hc0) (by rw [hT]; exact hc1)
    (fun _ h => by cases h) (fun _ h => by cases h) (fun h => by cases h) (fun h => by cases h) hk0 hk1 hkk0 hkk1 rfl (by decide) (by decide) (fun z => by have := (ab_lt (a := a) (b := 0) ⟨by omega, by omega⟩ inR_0).mp z; omega)
    (by rw [ez, ei, arrV_size]; omega)
    (by rw [ez, ei, arrV_size]; omega)
    (fun vm₁ hal q hq => by
      have hq : q < n0 ∧ (q : Int) < a := by rw [ea] at hq; omega
      have e : (arrV K.2.2 n0 (fun q => ab_rv ad (f q))).slots.getD ((Int32.ofInt 0).toNatClampNeg + q) .null = ab_rv ad (f q) := by
        rw [e0, Nat.zero_add, Array.getD_eq_getD_getElem?, arrV_read _ _ hq.1]
        rfl
      rw [e]
      cases hy : f q with
      | none => exact ⟨rfl, trivial⟩
      | some x =>
        obtain ⟨ci, sl, r, x1, x2, x3⟩ := hel q hq.2 x hy
        obtain ⟨r', hr', cellV, v1, v2, v3, -⟩ := g6.1 x _ x1
        have hcls := (hK.1 ci r x2).2
        obtain ⟨kA, comp, r1, r2, r3, -⟩ := (hK.2 4 _ rfl).2
        cases hk1.symm.trans r1
        cases hkk1.symm.trans r2
        have hnw : va_Nw (.castable r.1 "java/lang/Object") s := by
          obtain ⟨-, s0, b0, q1, q2, hW, -⟩ := hZ
          exact va_Nw.warmC hW (va_Nw.of rfl (q1.1 _ x3))
        obtain ⟨c0, t1, f1, f2, f3⟩ := Cond.castable_spec (va_Nw.use (A := args) rfl hnw)
        cases hcls.1.symm.trans f1
        cases r3.symm.trans f2
        obtain ⟨kC, hkC, -⟩ := hcls.2
        obtain ⟨kE, hkE, -⟩ := Vm.findClass_spec r3
        obtain ⟨kC', hkC', -⟩ := hal.2.2 _ _ hkC
        obtain ⟨kE', hkE', -⟩ := hal.2.2 _ _ hkE
        refine ⟨rfl, cellV, (show T.heap[ad x]? = some cellV by rw [hT]; exact v1), (fun q h => by rw [v3] at h; cases h), ⟨kC', by rw [v2]; exact hkC'⟩, ⟨kE', hkE'⟩, ?_⟩
        show vm₁.assignable _ _ = true
        rw [hal.assignable, v2]
        exact f3)
    (g := F0 m pc ls ((aI a :: aI 0 :: aR j :: aI 0 :: aR i :: st).map (ab_val ad))) rfl (g3.trans hml.symm) (rest := st.map (ab_val ad)) rfl (by rw [hb]; exact d) hfr (by show 2 * 0 + _ + _ ≤ _; have := hlo ad; omega)
  have e1 : copied (arrV K.2.2 n0 (fun q => ab_rv ad (f q))) (arrV K.2.2 n1 (fun q => ab_rv ad (g q))) (Int32.ofInt 0) (Int32.ofInt 0) (Int32.ofInt a) = arrV K.2.2 n1 (fun q => ab_rv ad (va_cpy f g 0 0 a.toNat q)) := by
    have := va_copied (fun z => ab_rv ad z) K.2.2 K.2.2 (n0 := n0) (n1 := n1) (sp := 0) (dp := 0) (n := a.toNat) f g (by omega)
    unfold copied
    rw [ea, e0]
    exact this
  rw [e1] at X' step
  have hlj : ad j < H.size := (Array.getElem?_eq_some_iff.mp hc1).1
  generalize hcel : arrV K.2.2 n1 (fun q => ab_rv ad (va_cpy f g 0 0 a.toNat q)) = cel at X' step
  have hheap : ((T.setVm vm').setCell (ad j) cel).heap = H.setIfInBounds (ad j) cel := by rw [← hT]; rfl
  have oq : ∀ q : Nat, q ≠ ad j → (H.setIfInBounds (ad j) cel)[q]? = H[q]? := fun q hq => by simp [Array.getElem?_setIfInBounds, Ne.symm hq]
  have hat : (H.setIfInBounds (ad j) cel)[ad j]? = some cel := by simp [Array.getElem?_setIfInBounds, hlj]
  obtain ⟨t, a1, b1⟩ := h ad (H.setIfInBounds (ad j) cel) _ ls g1 (fun b hb => by
      by_cases e : b = j
      · subst e; simp [upS]
      · simp only [upS, e, if_false]; exact g2 b hb) g3 g4 g5 (g6.set (i := j) (sh := sO n1 (fun q => if (q : Int) < a then f q else g q)) hne rfl (fun _ _ => rfl) (fun _ _ => rfl) (by
      show (H.setIfInBounds (ad j) cel)[ad j]? = _
      rw [hat, ← hcel]
      congr 2
      funext q
      show ab_rv ad _ = ab_rv ad _
      congr 1
      unfold va_cpy
      show _ = if (q : Int) < a then f q else g q
      by_cases hq : q < a.toNat
      · rw [if_pos ⟨Nat.zero_le _, by omega⟩, if_pos (by omega)]
        congr 1
        omega
      · rw [if_neg (by omega), if_neg (by omega)]) oq (fun b x e9 => by
      have e9 : (if (b : Int) < a then f b else g b) = some x := e9
      by_cases hq : (b : Int) < a
      · rw [if_pos hq] at e9; exact g6.2.2 i _ h1 b x e9
      · rw [if_neg hq] at e9; exact g6.2.2 j _ h2 b x e9)) (fun b hb => by
      by_cases e : b = j
      · subst e; exact g7 b hne
      · exact g7 b (by simpa [upS, e] using hb)) ⟨by simp; exact g8.1, fun q q1 q2 => by
      rw [oq q (fun e => q2 (by rw [e]; exact g7 j hne))]
      exact g8.2.1 q q1 q2, fun q hq => by
      rcases List.mem_append.mp hq with h | h
      · exact g8.2.2 q h
      · obtain ⟨z, -, hz⟩ := List.mem_map.mp h
        rw [← hz]
        exact g7 j hne⟩ _ hheap X'
  exact ⟨t, step t a1, b1⟩
end
