/-- an instruction's link to a field: of the class y.cls the entry index is the field kk of the class number ci -/
def ab_Fl (own : String) (index ci kk : Nat) : Prop := ∃ r : vw_C, vwCl[ci]? = some r ∧ kk < r.2.2 ∧ (∀ w ∈ u_ws r.1 r.2.1 r.2.2, w ∈ ab_tb) ∧ ∃ ref : String, Cond.fieldLink own index ref (r.2.1 kk).2.1 (r.2.1 kk).2.2.1 ∈ ab_tb ∧ (ref = (r.2.1 kk).1 ∨ Cond.sameField ref (r.2.1 kk).1 (r.2.1 kk).2.1 (r.2.1 kk).2.2.1 ∈ ab_tb)
/-- .. that is written: its type, and whether it's final -/
def ab_Fp (own : String) (index ci kk : Nat) (ty : FieldType) (fin : Bool) : Prop := ab_Fl own index ci kk ∧ ∀ r : vw_C, vwCl[ci]? = some r → (∃ ty0 : Nat → FieldType, ∀ k, k < r.2.2 → parseFieldDescriptor (r.2.1 k).2.2.1 = some (ty0 k)) ∧ (∀ a, a < r.2.2 → ∀ b, b < r.2.2 → a ≠ b → (r.2.1 a).2.1 ≠ (r.2.1 b).2.1) ∧ parseFieldDescriptor (r.2.1 kk).2.2.1 = some ty ∧ (r.2.1 kk).2.2.2 = fin ∧ (fin = true → (r.2.1 kk).1 = own)
theorem ab_same {args : Array Value} {s : State} {ref own nm ds : String} (hts : ∀ w ∈ ab_tb, w.before args s = true) (h : ref = own ∨ Cond.sameField ref own nm ds ∈ ab_tb) : ∀ x, s.fieldFound? own nm ds = some x → s.fieldFound? ref nm ds = some x := by
  intro x hx
  rcases h with h | h
  · rw [h]; exact hx
  · exact u_same (hts _ h) x hx
section
variable {E : ab_E} {cc : ByteArray} {nL : Nat} {y : MethodName} {rm : Room} {k n : Nat} {S : ab_St} {F : ab_Fn} {A : ab_An} {pc : Nat} {lv : List (Option ab_V)} {st : List ab_V}
theorem j_get (C : ab_C E cc nL y rm) {i ci kk index : Nat} {sl : Nat → Option (Option Nat)} (v : ab_V) (fl : ab_Fl y.cls index ci kk) (hS : S i = some (sC ci sl)) (hv : ∀ ad, ab_sv ad (F i kk) (sl kk) = ab_val ad v) (d : decode cc pc = .ok (.getfield index, 3)) (h : ab_J E nL k n S F A (pc + 3) lv (v :: st)) : ab_J E nL k n S F A pc lv (aR i :: st) := by
  obtain ⟨p, l, e, R, s, m, args, below, meth, c, Q, K, Am, ad0, S0⟩ := E
  obtain ⟨hx, hb, hml, hown, hnm, hts, hK, hA, hlk, hZ, hR⟩ := C
  intro ad H locs ls g1 g2 g3 g4 g5 g6 g7 g8
  have q := h ad H locs ls g1 g2 g3 g4 g5 g6 g7 g8
  obtain ⟨r, h1, hk, hin, ref, hw, hsame⟩ := fl
  obtain ⟨r', h1', cel, q1, q2, q3, q4⟩ := g6.1 i _ hS
  cases Option.some.inj (h1.symm.trans h1')
  obtain ⟨hSl, hfc, kC, hkC, hkind⟩ := hK.1 ci r h1
  obtain ⟨cf, kf, fi, f, hi, hsl⟩ := hSl kk hk
  refine W.getf hx hb hown (hts _ hw) (ab_same hts hsame _ hi) (u_facts hfc hkC (u_lays hts hin hk) hi).1 q1 (by rw [q3]; exact fun h => by cases h) (v := ab_val ad v) ?_ rfl rfl d q
  rw [hsl, q4 kk hk]
  exact congrArg some (hv ad)
theorem j_getI (C : ab_C E cc nL y rm) {i ci kk index : Nat} {sl : Nat → Option (Option Nat)} (fl : ab_Fl y.cls index ci kk) (hS : S i = some (sC ci sl)) (hs : sl kk = none) (d : decode cc pc = .ok (.getfield index, 3)) (h : ab_J E nL k n S F A (pc + 3) lv (aI (F i kk) :: st)) : ab_J E nL k n S F A pc lv (aR i :: st) :=
  j_get C (aI (F i kk)) fl hS (fun ad => by rw [hs]; rfl) d h
theorem j_getR (C : ab_C E cc nL y rm) {i ci kk index j : Nat} {sl : Nat → Option (Option Nat)} (fl : ab_Fl y.cls index ci kk) (hS : S i = some (sC ci sl)) (hs : sl kk = some (some j)) (d : decode cc pc = .ok (.getfield index, 3)) (h : ab_J E nL k n S F A (pc + 3) lv (aR j :: st)) : ab_J E nL k n S F A pc lv (aR i :: st) :=
  j_get C (aR j) fl hS (fun ad => by rw [hs]; rfl) d h
theorem ab_put0 (C : ab_C E cc nL y rm) {i ci kk index : Nat} {sl sl' : Nat → Option (Option Nat)} {F' : ab_Fn} (v : ab_V) {ty : FieldType} {fin : Bool} (fp : ab_Fp y.cls index ci kk ty fin) (hfin : fin = true → y.name = "<init>") (hS : S i = some (sC ci sl)) (hn : ∀ ad, narrow ty (ab_val ad v) = ab_val ad v) (hf : ∀ ad, fits ty (ab_val ad v) = true) (hF : ∀ j, j ≠ i → F' j = F j) (hv : ∀ ad, ab_sv ad (F' i kk) (sl' kk) = ab_val ad v) (hv2 : ∀ j, j ≠ kk → F' i j = F i j ∧ sl' j = sl j) (hmn : ∀ k, sl' kk = some (some k) → sl kk = some (some k) ∨ ab_liv S k) (d : decode cc pc = .ok (.putfield index, 3)) (h : ab_J E nL k n (upS S i (sC ci sl')) F' A (pc + 3) lv st) : ab_J E nL k n S F A pc lv (v :: aR i :: st) := by
  obtain ⟨p, l, e, R, s, m, args, below, meth, c, Q, K, Am, ad0, S0⟩ := E
  obtain ⟨hx, hb, hml, hown, hnm, hts, hK, hA, hlk, hZ, hR⟩ := C
  intro ad H locs ls g1 g2 g3 g4 g5 g6 g7 g8
  obtain ⟨⟨r, h1, hk, hin, ref, hw, hsame⟩, fp2⟩ := fp
  obtain ⟨⟨ty0, hty⟩, hnms, hd, hfn, hfo⟩ := fp2 r h1
  obtain ⟨r', h1', cel, q1, q2, q3, q4⟩ := g6.1 i _ hS
  cases Option.some.inj (h1.symm.trans h1')
  have hap := va_apart (own := y.cls) hts hin ty0 hty hnms hK h1
  obtain ⟨hSl, hfc, kC, hkC, hkind⟩ := hK.1 ci r h1
  obtain ⟨cf, kf, fi, f, hi, hsl⟩ := hSl kk hk
  have hst := (u_facts hfc hkC (u_lays hts hin hk) hi).1
  have hne : S i ≠ none := by rw [hS]; exact fun z => by cases z
  have fin9 : ∀ H' : Heap, H'[ad i]? = some (cel.setSlot f.slot (ab_val ad v)) → H'.size = H.size → (∀ q, q ≠ ad i → H'[q]? = H[q]?) → W p l e R s m args below meth c H' (locs ++ [⟨ad i, f.slot⟩]) k n Q (F0 m (pc + 3) ls (st.map (ab_val ad))) := by
    intro H' e1 e2 e3
    rw [hsl] at e1
    have hd2 : ∀ j, upS S i (sC ci sl') j ≠ none → S j ≠ none := fun j hj => by
      by_cases e : j = i
      · rw [e]; exact hne
      · simpa [upS, e] using hj
    refine h ad H' _ ls g1 (fun j hj => ?_) g3 g4 g5 (g6.set hne rfl hF (fun _ _ => rfl) ⟨r, h1, t_OB.to ⟨_, e1, q2, q3, t_set q4 hap hk (ab_val ad v)⟩ (fun j _ => ?_)⟩ e3 (fun j k9 e9 => ?_)) (fun j hj => g7 j (hd2 j hj)) (g8.put e2 e3 (g7 i hne))
    · by_cases e : j = i
      · subst e; simp [upS]
      · simp only [upS, e, if_false]; exact g2 j hj
    · by_cases e : j = kk
      · subst e; simp [updV, hv ad]
      · simp [updV, e, hv2 j e]
    · by_cases e : j = kk
      · subst e
        rcases hmn k9 e9 with q | q
        · exact g6.2.2 i _ hS j k9 q
        · exact q
      · exact g6.2.2 i _ hS j k9 (by rw [← (hv2 j e).2]; exact e9)
  cases fin with
  | false =>
    have hlay := hts _ (hin _ (u_in_lay hk))
    unfold u_lay at hlay
    rw [if_neg (by rw [hfn]; decide)] at hlay
    have h6 := u_store hfc hkC hkind hlay hi hd (hn ad) (hf ad)
    exact W.putK hx hb (f := f) ⟨hown, hts _ hw, ⟨_, _, _, ab_same hts hsame _ hi⟩, hst⟩ (by rw [q2]; exact h6) q1 q3 (by rw [hsl]; exact k2_hasslot (q4 kk hk)) rfl rfl d fin9
  | true =>
    have hlay := hts _ (hin _ (u_in_lay hk))
    unfold u_lay at hlay
    rw [if_pos hfn] at hlay
    have hcf : m.cls = cf := by
      obtain ⟨_, _, c', _, _, _, -, -, hf', -, -, -, hown2, -⟩ := Cond.laysFinal_spec hlay
      have e1 : c' = cf := by have := hi.symm.trans hf'; simp at this; exact this.1.symm
      rw [hfo rfl] at hown2
      rw [← e1]; exact Option.some.inj (hown.symm.trans hown2)
    have h6 := u_fits hfc hkC hkind (Or.inr hlay) hi hd (hn ad) (hf ad)
    exact W.putFinK hx hb hown (hts _ hw) (ab_same hts hsame _ hi) hst hcf (hnm.trans (hfin rfl)) (by rw [q2]; exact h6) q1 q3 (by rw [hsl]; exact k2_hasslot (q4 kk hk)) rfl rfl d fin9
theorem j_putI (C : ab_C E cc nL y rm) {i ci kk index : Nat} {sl : Nat → Option (Option Nat)} {a : Int} (fp : ab_Fp y.cls index ci kk .int false) (hS : S i = some (sC ci sl)) (hs : sl kk = none) (d : decode cc pc = .ok (.putfield index, 3)) (h : ab_J E nL k n S (upF F i kk a) A (pc + 3) lv st) : ab_J E nL k n S F A pc lv (aI a :: aR i :: st) :=
  ab_put0 C (sl' := sl) (F' := upF F i kk a) (aI a) fp (fun z => by cases z) hS (fun _ => rfl) (fun _ => rfl) (fun j hj => by funext x; simp [upF, hj]) (fun ad => by rw [hs]; simp [upF]; rfl) (fun j hj => ⟨by simp [upF, hj], rfl⟩) (fun _ z => Or.inl z) d (by rw [upS_self hS]; exact h)
theorem j_putZ (C : ab_C E cc nL y rm) {i ci kk index : Nat} {sl : Nat → Option (Option Nat)} {a : Int} (fp : ab_Fp y.cls index ci kk .boolean false) (hS : S i = some (sC ci sl)) (hs : sl kk = none) (ha : a = 0 ∨ a = 1) (d : decode cc pc = .ok (.putfield index, 3)) (h : ab_J E nL k n S (upF F i kk a) A (pc + 3) lv st) : ab_J E nL k n S F A pc lv (aI a :: aR i :: st) :=
  ab_put0 C (sl' := sl) (F' := upF F i kk a) (aI a) fp (fun z => by cases z) hS (fun _ => by rcases ha with rfl | rfl <;> rfl) (fun _ => by rcases ha with rfl | rfl <;> rfl) (fun j hj => by funext x; simp [upF, hj]) (fun ad => by rw [hs]; simp [upF]; rfl) (fun j hj => ⟨by simp [upF, hj], rfl⟩) (fun _ z => Or.inl z) d (by rw [upS_self hS]; exact h)
/-- rows of numbers -/
theorem ab_tn {j : Int} (h : 0 ≤ j) : ((j.toNat : Nat) : Int) = j := Int.toNat_of_nonneg h
theorem ab_ld0 (C : ab_C E cc nL y rm) {i N : Nat} {j : Int} {ty : FieldType} (hS : S i = some (sA ty N)) (h0 : 0 ≤ j) (h1 : j < (N : Int)) (hN : (N : Int) < 2147483648) (kit : ∀ (p : Program) (l : Launch) (e : Env) (R : Room) (s : State) (m : MethodId) (args : Array Value) (below : List Frame) (meth : Method) (c : Code) (Q : State → Prop) (H : Heap) (locs : List Loc) (ls : Array Slot) (a : Nat) (cel : Cell) (rest : List Value) (v : Value), p.tables.exec = Jvm.exec → c.code = cc → H[a]? = some cel → s.isArrayOf cel ty → cel.vm ≠ .unknown → ¬ (Int32.ofInt j < 0 ∨ cel.slots.size ≤ (Int32.ofInt j).toNatClampNeg) → cel.slots[(Int32.ofInt j).toNatClampNeg]? = some v → W p l e R s m args below meth c H locs k n Q (F0 m (pc + 1) ls (v :: rest)) → W p l e R s m args below meth c H locs k n Q (F0 m pc ls (.int (Int32.ofInt j) :: .ref a :: rest))) (t0 : Nat) (ht : ∀ K : ab_K, (ab_tys K)[t0]? = some (K.2.1 ty, ty)) (v : ab_V) (hv : ∀ ad, ab_ev ty (A i j) = ab_val ad v) (h : ab_J E nL k n S F A (pc + 1) lv (v :: st)) : ab_J E nL k n S F A pc lv (aI j :: aR i :: st) := by
  obtain ⟨p, l, e, R, s, m, args, below, meth, c, Q, K, Am, ad0, S0⟩ := E
  obtain ⟨hx, hb, hml, hown, hnm, hts, hK, hA, hlk, hZ, hR⟩ := C
  intro ad H locs ls g1 g2 g3 g4 g5 g6 g7 g8
  have q := h ad H locs ls g1 g2 g3 g4 g5 g6 g7 g8
  have hc : H[ad i]? = some (arrV (K.2.1 ty) N (fun j => ab_ev ty (A i (j : Int)))) := g6.1 i _ hS
  refine kit p l e R s m args below meth c Q H locs ls (ad i) _ _ (ab_val ad v) hx hb hc ((hK.2 t0 _ (ht K)).1 N _) (fun z => by cases z) (by rw [arrV_size]; exact ab_in h0 h1 hN) ?_ q
  rw [ab_clamp h0 (by omega), arrV_read _ _ (by omega), ab_tn h0, hv ad]
theorem j_iald (C : ab_C E cc nL y rm) {i N : Nat} {j : Int} (hS : S i = some (sA .int N)) (h0 : 0 ≤ j) (h1 : j < (N : Int)) (hN : (N : Int) < 2147483648) (d : decode cc pc = .ok (.iaload, 1)) (h : ab_J E nL k n S F A (pc + 1) lv (aI (A i j) :: st)) : ab_J E nL k n S F A pc lv (aI j :: aR i :: st) :=
  ab_ld0 C hS h0 h1 hN (fun p l e R s m args below meth c Q H locs ls a cel rest v a1 a2 a3 a4 a5 a6 a7 a8 => W.iald (v := v) a1 a2 a3 a4 a5 a6 a7 rfl rfl d a8) 0 (fun _ => rfl) _ (fun _ => rfl) h
theorem j_bald (C : ab_C E cc nL y rm) {i N : Nat} {j : Int} (hS : S i = some (sA .byte N)) (h0 : 0 ≤ j) (h1 : j < (N : Int)) (hN : (N : Int) < 2147483648) (d : decode cc pc = .ok (.baload, 1)) (h : ab_J E nL k n S F A (pc + 1) lv (aI (A i j) :: st)) : ab_J E nL k n S F A pc lv (aI j :: aR i :: st) :=
  ab_ld0 C hS h0 h1 hN (fun p l e R s m args below meth c Q H locs ls a cel rest v a1 a2 a3 a4 a5 a6 a7 a8 => W.bald (v := v) a1 a2 a3 a4 a5 a6 a7 rfl rfl d a8) 1 (fun _ => rfl) _ (fun _ => rfl) h
theorem j_zald (C : ab_C E cc nL y rm) {i N : Nat} {j : Int} (hS : S i = some (sA .boolean N)) (h0 : 0 ≤ j) (h1 : j < (N : Int)) (hN : (N : Int) < 2147483648) (d : decode cc pc = .ok (.baload, 1)) (h : ab_J E nL k n S F A (pc + 1) lv (aI (A i j) :: st)) : ab_J E nL k n S F A pc lv (aI j :: aR i :: st) :=
  ab_ld0 C hS h0 h1 hN (fun p l e R s m args below meth c Q H locs ls a cel rest v a1 a2 a3 a4 a5 a6 a7 a8 => W.zald (v := v) a1 a2 a3 a4 a5 a6 a7 rfl rfl d a8) 2 (fun _ => rfl) _ (fun _ => rfl) h
theorem j_lald (C : ab_C E cc nL y rm) {i N : Nat} {j : Int} (hS : S i = some (sA .long N)) (h0 : 0 ≤ j) (h1 : j < (N : Int)) (hN : (N : Int) < 2147483648) (d : decode cc pc = .ok (.laload, 1)) (h : ab_J E nL k n S F A (pc + 1) lv (aL (A i j) :: st)) : ab_J E nL k n S F A pc lv (aI j :: aR i :: st) :=
  ab_ld0 C hS h0 h1 hN (fun p l e R s m args below meth c Q H locs ls a cel rest v a1 a2 a3 a4 a5 a6 a7 a8 => W.lald (v := v) a1 a2 a3 a4 a5 a6 a7 rfl rfl d a8) 3 (fun _ => rfl) _ (fun _ => rfl) h
theorem ab_st0 (C : ab_C E cc nL y rm) {i N : Nat} {j : Int} {ty : FieldType} {z : Int} (v : ab_V) (hS : S i = some (sA ty N)) (h0 : 0 ≤ j) (h1 : j < (N : Int)) (hN : (N : Int) < 2147483648) (kit : ∀ (p : Program) (l : Launch) (e : Env) (R : Room) (s : State) (m : MethodId) (args : Array Value) (below : List Frame) (meth : Method) (c : Code) (Q : State → Prop) (H : Heap) (locs : List Loc) (ls : Array Slot) (a : Nat) (cel : Cell) (rest : List Value) (ad : Nat → Nat), p.tables.exec = Jvm.exec → c.code = cc → H[a]? = some cel → s.isArrayOf cel ty → cel.vm ≠ .unknown → ¬ (Int32.ofInt j < 0 ∨ cel.slots.size ≤ (Int32.ofInt j).toNatClampNeg) → (∀ H' : Heap, H'[a]? = some (cel.setSlot (Int32.ofInt j).toNatClampNeg (ab_ev ty z)) → H'.size = H.size → (∀ q, q ≠ a → H'[q]? = H[q]?) → W p l e R s m args below meth c H' (locs ++ [⟨a, (Int32.ofInt j).toNatClampNeg⟩]) k n Q (F0 m (pc + 1) ls rest)) → W p l e R s m args below meth c H locs k n Q (F0 m pc ls (ab_val ad v :: .int (Int32.ofInt j) :: .ref a :: rest))) (t0 : Nat) (ht : ∀ K : ab_K, (ab_tys K)[t0]? = some (K.2.1 ty, ty)) (h : ab_J E nL k n S F (upA A i j z) (pc + 1) lv st) : ab_J E nL k n S F A pc lv (v :: aI j :: aR i :: st) := by
  obtain ⟨p, l, e, R, s, m, args, below, meth, c, Q, K, Am, ad0, S0⟩ := E
  obtain ⟨hx, hb, hml, hown, hnm, hts, hK, hA, hlk, hZ, hR⟩ := C
  intro ad H locs ls g1 g2 g3 g4 g5 g6 g7 g8
  have hc : H[ad i]? = some (arrV (K.2.1 ty) N (fun j => ab_ev ty (A i (j : Int)))) := g6.1 i _ hS
  have hne : S i ≠ none := by rw [hS]; exact fun z => by cases z
  refine kit p l e R s m args below meth c Q H locs ls (ad i) _ _ ad hx hb hc ((hK.2 t0 _ (ht K)).1 N _) (fun z => by cases z) (by rw [arrV_size]; exact ab_in h0 h1 hN) (fun H' e1 e2 e3 => ?_)
  refine h ad H' _ ls g1 g2 g3 g4 g5 (g6.set hne (upS_self hS).symm (fun _ _ => rfl) (fun b hb => by funext x; simp [upA, hb]) ?_ e3 trivial) g7 (g8.put e2 e3 (g7 i hne))
  show H'[ad i]? = _
  rw [e1, ab_clamp h0 (by omega), arrV_store]
  congr 2
  funext q
  by_cases hq : q = j.toNat
  · subst hq
    simp [updV, upA, ab_tn h0]
  · have : ¬ ((q : Int) = j) := fun z => hq (by omega)
    simp [updV, upA, hq, this]
theorem j_iast (C : ab_C E cc nL y rm) {i N : Nat} {j a : Int} (hS : S i = some (sA .int N)) (h0 : 0 ≤ j) (h1 : j < (N : Int)) (hN : (N : Int) < 2147483648) (d : decode cc pc = .ok (.iastore, 1)) (h : ab_J E nL k n S F (upA A i j a) (pc + 1) lv st) : ab_J E nL k n S F A pc lv (aI a :: aI j :: aR i :: st) :=
  ab_st0 C (aI a) hS h0 h1 hN (fun p l e R s m args below meth c Q H locs ls a cel rest ad a1 a2 a3 a4 a5 a6 a7 => W.iast a1 a2 a3 a4 a5 a6 rfl rfl d a7) 0 (fun _ => rfl) h
theorem j_last (C : ab_C E cc nL y rm) {i N : Nat} {j a : Int} (hS : S i = some (sA .long N)) (h0 : 0 ≤ j) (h1 : j < (N : Int)) (hN : (N : Int) < 2147483648) (d : decode cc pc = .ok (.lastore, 1)) (h : ab_J E nL k n S F (upA A i j a) (pc + 1) lv st) : ab_J E nL k n S F A pc lv (aL a :: aI j :: aR i :: st) :=
  ab_st0 C (aL a) hS h0 h1 hN (fun p l e R s m args below meth c Q H locs ls a cel rest ad a1 a2 a3 a4 a5 a6 a7 => W.last a1 a2 a3 a4 a5 a6 rfl rfl d a7) 3 (fun _ => rfl) h
theorem j_bast (C : ab_C E cc nL y rm) {i N : Nat} {j a : Int} (hS : S i = some (sA .byte N)) (h0 : 0 ≤ j) (h1 : j < (N : Int)) (hN : (N : Int) < 2147483648) (hv : narrow .byte (.int (Int32.ofInt a)) = .int (Int32.ofInt a)) (d : decode cc pc = .ok (.bastore, 1)) (h : ab_J E nL k n S F (upA A i j a) (pc + 1) lv st) : ab_J E nL k n S F A pc lv (aI a :: aI j :: aR i :: st) :=
  ab_st0 C (aI a) hS h0 h1 hN (fun p l e R s m args below meth c Q H locs ls x cel rest ad a1 a2 a3 a4 a5 a6 a7 => W.bast a1 a2 a3 a4 a5 a6 rfl rfl d (by rw [hv]; exact a7)) 1 (fun _ => rfl) h
theorem ab_nz01 {a : Int} (ha : a = 0 ∨ a = 1) : narrow .boolean (.int (Int32.ofInt a)) = .int (Int32.ofInt a) := by
  rcases ha with rfl | rfl <;> rfl
theorem j_zast (C : ab_C E cc nL y rm) {i N : Nat} {j a : Int} (hS : S i = some (sA .boolean N)) (h0 : 0 ≤ j) (h1 : j < (N : Int)) (hN : (N : Int) < 2147483648) (ha : a = 0 ∨ a = 1) (d : decode cc pc = .ok (.bastore, 1)) (h : ab_J E nL k n S F (upA A i j a) (pc + 1) lv st) : ab_J E nL k n S F A pc lv (aI a :: aI j :: aR i :: st) :=
  ab_st0 C (aI a) hS h0 h1 hN (fun p l e R s m args below meth c Q H locs ls x cel rest ad a1 a2 a3 a4 a5 a6 a7 => W.zast a1 a2 a3 a4 a5 a6 rfl rfl d (by rw [ab_nz01 ha]; exact a7)) 2 (fun _ => rfl) h
theorem j_alen (C : ab_C E cc nL y rm) {i N : Nat} {ty : FieldType} (hS : S i = some (sA ty N)) (t0 : Nat) (ht : ∀ K : ab_K, (ab_tys K)[t0]? = some (K.2.1 ty, ty)) (d : decode cc pc = .ok (.arraylength, 1)) (h : ab_J E nL k n S F A (pc + 1) lv (aI (N : Int) :: st)) : ab_J E nL k n S F A pc lv (aR i :: st) := by
  obtain ⟨p, l, e, R, s, m, args, below, meth, c, Q, K, Am, ad0, S0⟩ := E
  obtain ⟨hx, hb, hml, hown, hnm, hts, hK, hA, hlk, hZ, hR⟩ := C
  intro ad H locs ls g1 g2 g3 g4 g5 g6 g7 g8
  have q := h ad H locs ls g1 g2 g3 g4 g5 g6 g7 g8
  have hc : H[ad i]? = some (arrV (K.2.1 ty) N (fun j => ab_ev ty (A i (j : Int)))) := g6.1 i _ hS
  exact W.alen (n := Int32.ofInt (N : Int)) hx hb hc ((hK.2 t0 _ (ht K)).1 N _) (by rw [arrV_size]; exact Int32.ofInt_eq_ofNat.symm) rfl rfl d q
/-- ends -/
theorem ab_end0 {P : Option ab_V → ab_St → ab_Fn → ab_An → Prop} {v : Option ab_V} {K : ab_K} {ad0 ad : Nat → Nat} {S0 : ab_St} {s t : State} {H : Heap} {locs : List Loc} {a : Array Value} (hP : P v S F A) (g1 : ab_ext S0 ad0 ad) (g2 : ab_dom S0 S) (g6 : ab_P K ad S F A H) (g7 : ∀ i, S i ≠ none → ab_A ad0 S0 s.heap.size (ad i)) (g8 : va_S (ab_A ad0 S0 s.heap.size) s.heap H locs) (hK : ab_kn K s) (ht : t.heap = H) (hW : s.WarmedH t.vm) : ab_Post K ad0 S0 s.heap.size P a s (.returned (v.map (ab_val ad))) t :=
  ⟨⟨v, ad, S, F, A, rfl, hP, g1, g2, by rw [ht]; exact g6, g7, va_K.moved hW.alike hK⟩, g8.F ht⟩
theorem j_iret (C : ab_C E cc nL y rm) {P : Option ab_V → ab_St → ab_Fn → ab_An → Prop} {mc ms : Nat} (hr : ab_Ret E (some .int) P mc ms) {a : Int} (h1 : k ≤ mc) (h2 : n ≤ ms) (d : decode cc pc = .ok (.ireturn, 1)) (hP : P (some (aI a)) S F A) : ab_J E nL k n S F A pc lv [aI a] := by
  obtain ⟨p, l, e, R, s, m, args, below, meth, c, Q, K, Am, ad0, S0⟩ := E
  obtain ⟨hx, hb, hml, hown, hnm, hts, hK, hA, hlk, hZ, hR⟩ := C
  obtain ⟨r1, rfl, rfl⟩ := hr
  intro ad H locs ls g1 g2 g3 g4 g5 g6 g7 g8
  refine W.widen h1 h2 ?_
  exact W.iret (v := Int32.ofInt a) hx hb r1 (fun t ht hW => ab_end0 (v := some (aI a)) hP g1 g2 g6 g7 g8 hK ht hW) g8.2.2 d
theorem j_zret (C : ab_C E cc nL y rm) {ty : FieldType} {P : Option ab_V → ab_St → ab_Fn → ab_An → Prop} {mc ms : Nat} (hr : ab_Ret E (some ty) P mc ms) {a : Int} (hn : narrow ty (.int (Int32.ofInt a)) = .int (Int32.ofInt a)) (h1 : k ≤ mc) (h2 : n ≤ ms) (d : decode cc pc = .ok (.ireturn, 1)) (hP : P (some (aI a)) S F A) : ab_J E nL k n S F A pc lv [aI a] := by
  obtain ⟨p, l, e, R, s, m, args, below, meth, c, Q, K, Am, ad0, S0⟩ := E
  obtain ⟨hx, hb, hml, hown, hnm, hts, hK, hA, hlk, hZ, hR⟩ := C
  obtain ⟨r1, rfl, rfl⟩ := hr
  intro ad H locs ls g1 g2 g3 g4 g5 g6 g7 g8
  refine W.widen h1 h2 ?_
  exact W.zret (v := Int32.ofInt a) hx hb r1 hn (fun t ht hW => ab_end0 (v := some (aI a)) hP g1 g2 g6 g7 g8 hK ht hW) g8.2.2 d
theorem j_vret (C : ab_C E cc nL y rm) {P : Option ab_V → ab_St → ab_Fn → ab_An → Prop} {mc ms : Nat} (hr : ab_Ret E none P mc ms) (h1 : k ≤ mc) (h2 : n ≤ ms) (d : decode cc pc = .ok (.return_, 1)) (hP : P none S F A) : ab_J E nL k n S F A pc lv [] := by
  obtain ⟨p, l, e, R, s, m, args, below, meth, c, Q, K, Am, ad0, S0⟩ := E
  obtain ⟨hx, hb, hml, hown, hnm, hts, hK, hA, hlk, hZ, hR⟩ := C
  obtain ⟨r1, rfl, rfl⟩ := hr
  intro ad H locs ls g1 g2 g3 g4 g5 g6 g7 g8
  refine W.widen h1 h2 ?_
  exact W.vret hx hb r1 (fun t ht hW => ab_end0 (v := none) hP g1 g2 g6 g7 g8 hK ht hW) g8.2.2 d
theorem j_aret (C : ab_C E cc nL y rm) {rt : FieldType} {P : Option ab_V → ab_St → ab_Fn → ab_An → Prop} {mc ms : Nat} (hr : ab_Ret E (some rt) P mc ms) (hrt : (∃ n, rt = .object n) ∨ ∃ t, rt = .array t) {v : ab_V} (hv : ∀ ad, ab_val ad v = .null ∨ ∃ a, ab_val ad v = .ref a) (h1 : k ≤ mc) (h2 : n ≤ ms) (d : decode cc pc = .ok (.areturn, 1)) (hP : P (some v) S F A) : ab_J E nL k n S F A pc lv [v] := by
  obtain ⟨p, l, e, R, s, m, args, below, meth, c, Q, K, Am, ad0, S0⟩ := E
  obtain ⟨hx, hb, hml, hown, hnm, hts, hK, hA, hlk, hZ, hR⟩ := C
  obtain ⟨r1, rfl, rfl⟩ := hr
  intro ad H locs ls g1 g2 g3 g4 g5 g6 g7 g8
  refine W.widen h1 h2 ?_
  exact W.aret (v := ab_val ad v) hx hb r1 hrt (hv ad) (fun t ht hW => ab_end0 (v := some v) hP g1 g2 g6 g7 g8 hK ht hW) g8.2.2 d
end
