/-- the words of a call: the callee's code, its link, how it is found -/
def ab_Cl (own : String) (index : Nat) (y : MethodName) (cc : ByteArray) (nL : Nat) (ret : Option FieldType) (np : Nat) : Prop := Cond.code y cc nL ret ∈ ab_tb ∧ Cond.methodLink own index y ∈ ab_tb ∧ Cond.initialized y.cls ∈ ab_tb ∧ (y.cls ≠ "java/lang/invoke/MethodHandle" ∧ y.cls ≠ "java/lang/invoke/VarHandle") ∧ (parseMethodDescriptor y.desc).map (fun d => d.parameters.length) = some np
theorem ab_good {w : Cond} (h : w ∈ ab_tb) : goodWord w = true := (List.mem_filter.mp h).2
theorem ab_goodIn {y z : MethodName} {cc cz : ByteArray} {nL nz : Nat} {ret rz : Option FieldType} (h : Cond.code z cz nz rz ∈ ab_tb) : GoodIn ab_tb (Cond.code z cz nz rz :: ab_tb) := by
  intro w hw
  rcases List.mem_cons.mp hw with rfl | hw
  · exact ⟨h, good_of_word (ab_good h)⟩
  · exact ⟨hw, good_of_word (ab_good hw)⟩
theorem ab_blind {l : Launch} {K : ab_K} {ad : Nat → Nat} {S : ab_St} {F : ab_Fn} {A : ab_An} {sz : Nat} {vs : List ab_V} : FrameBlind (ab_Pre l K ad S F A sz vs) := by
  intro a U g mk h
  obtain ⟨h1, h2, h3, h4, h5⟩ := h
  exact ⟨h1, h2, h3, va_K.moved (u := U) (U := U.calling g mk a) (Vm.Alike.refl U.vm) h4, h5⟩
section
variable {E : ab_E} {cc : ByteArray} {nL : Nat} {y : MethodName} {rm : Room} {k n : Nat} {S : ab_St} {F : ab_Fn} {A : ab_An} {pc : Nat} {lv : List (Option ab_V)} {st : List ab_V}
theorem ab_callB {R : Room} {s : State} {args : Array Value} {own : String} {index : Nat} {z : MethodName} {cz : ByteArray} {nz : Nat} {rz : Option FieldType} {rmz : Room} {mc ms np : Nat} (hts : ∀ w ∈ ab_tb, w.before args s = true) (cl : ab_Cl own index z cz nz rz np) (hrc : rmz.cells = mc) (hrs : rmz.slots = ms) (hfr : rmz.frames + 1 ≤ R.frames) (hlo : 8 + (nz + 11) + rmz.locals ≤ R.locals) : CallB R s args own index z cz nz rz (Cond.code z cz nz rz :: ab_tb) rmz mc ms np := by
  obtain ⟨c1, c2, c3, c4, c5⟩ := cl
  refine ⟨hrc, hrs, hfr, hlo, pay_in hts (ab_goodIn (y := z) (cc := cz) (nL := nz) (ret := rz) c1), List.mem_cons_self, hts _ c1, hts _ c3, c4, fun sig h => ?_, hts _ c2⟩
  rw [h] at c5
  exact (Option.some.inj c5).symm
/-- behind a call -/
theorem ab_goOn {p : Program} {l : Launch} {e : Env} {R : Room} {s : State} {m : MethodId} {args : Array Value} {below : List Frame} {meth : Method} {c : Code} {Q : State → Prop} {K : ab_K} {Am : Nat → Prop} {ad0 : Nat → Nat} {S0 : ab_St} {mc ms : Nat} {P : Option ab_V → ab_St → ab_Fn → ab_An → Prop} {ad : Nat → Nat} {H : Heap} {locs : List Loc} {ls : Array Slot} {st0 : List Value} {a : Array Value}
    (hr : va_Run p l e R s m args below meth c H locs k n mc ms (F0 m pc ls st0) (st.map (ab_val ad)) (ab_Post K ad S H.size P a) (ab_A ad S H.size)) (hA : ∀ q, s.heap.size ≤ q → Am q) (hst : ∀ ad', ab_ext S ad ad' → st.map (ab_val ad') = st.map (ab_val ad)) (hlv : ∀ ad', ab_ext S ad ad' → ab_L ad' ls lv)
    (g1 : ab_ext S0 ad0 ad) (g2 : ab_dom S0 S) (g3 : ls.size = nL) (g4 : lv_wf ls) (g7 : ∀ i, S i ≠ none → Am (ad i)) (g8 : va_S Am s.heap H locs)
    (h : ∀ v S' F' A', P v S' F' A' → ab_J (p, l, e, R, s, m, args, below, meth, c, Q, K, Am, ad0, S0) nL (k + mc) (n + ms) S' F' A' (pc + 3) lv (v.toList ++ st)) : W p l e R s m args below meth c H locs k n Q (F0 m pc ls st0) := by
  intro T hT X
  obtain ⟨v9, st₀, t, T', L, h0, X', hL, e1, e2, ⟨⟨v, ad', S', F', A', hv, hP, x1, x2, x3, x4, x5⟩, hz, hk⟩, go⟩ := hr T hT X
  cases hv
  rw [h0] at hz hk
  have hAA := ab_A.mono (ad0 := ad0) (sz' := H.size) g7 hA g8.1
  have hS' : va_S Am s.heap t.heap (locs ++ L) := by
    refine ⟨Nat.le_trans g8.1 hz, fun q h1 h2 => ?_, fun q hq => ?_⟩
    · rw [hk q (Nat.lt_of_lt_of_le h1 g8.1) (fun z => h2 (hAA q z))]
      exact g8.2.1 q h1 h2
    · rcases List.mem_append.mp hq with h | h
      · exact g8.2.2 q h
      · exact hAA _ (hL q h)
  have J := h v S' F' A' hP ad' t.heap (locs ++ L) ls (g1.trans g2 x1) (g2.trans x2) g3 g4 (hlv ad' x1) x3 (fun i hi => hAA _ (x4 i hi)) hS'
  obtain ⟨t2, a1, b1⟩ := J T' e1 X'
  refine ⟨t2, go t2 ?_, b1⟩
  have e9 : (Option.map (ab_val ad') v).toList ++ List.map (ab_val ad) st = List.map (ab_val ad') (v.toList ++ st) := by
    rw [List.map_append, hst ad' x1]
    cases v <;> rfl
  rw [show ({ F0 m pc ls st0 with pc := (F0 m pc ls st0).pc + 3, stack := (Option.map (ab_val ad') v).toList ++ List.map (ab_val ad) st } : JFrame) = F0 m (pc + 3) ls (List.map (ab_val ad') (v.toList ++ st)) by rw [e9]]
  exact a1
/-- names that a list of values speaks of -/
def ab_live (S : ab_St) (v : ab_V) : Prop := match v with
  | .inr (.inl i) => S i ≠ none ∨ 1000000 ≤ i
  | _ => True
theorem ab_live.eq {S : ab_St} {ad ad' : Nat → Nat} (h : ab_ext S ad ad') : ∀ v, ab_live S v → ab_val ad' v = ab_val ad v
  | .inl _, _ => rfl
  | .inr (.inl i), hv => congrArg Value.ref (hv.elim (h.1 i) (h.2 i))
  | .inr (.inr (.inl _)), _ => rfl
  | .inr (.inr (.inr _)), _ => rfl
theorem ab_stk {S : ab_St} {ad ad' : Nat → Nat} (h : ab_ext S ad ad') {st : List ab_V} (hst : ∀ v ∈ st, ab_live S v) : st.map (ab_val ad') = st.map (ab_val ad) := List.map_congr_left fun v hv => ab_live.eq h v (hst v hv)
theorem ab_lvs {S : ab_St} {ad ad' : Nat → Nat} (h : ab_ext S ad ad') {ls : Array Slot} {lv : List (Option ab_V)} (hlv : ∀ v, some v ∈ lv → ab_live S v) (g5 : ab_L ad ls lv) : ab_L ad' ls lv := by
  intro i v hi
  rw [ab_live.eq h v (hlv v (List.mem_of_getElem? hi))]
  exact g5 i v hi
theorem ab_recv {s : State} {K : ab_K} {ad : Nat → Nat} {S : ab_St} {F : ab_Fn} {A : ab_An} {H : Heap} {i ci : Nat} {sl : Nat → Option (Option Nat)} {r : vw_C} (hK : ab_kn K s) (g6 : ab_P K ad S F A H) (hc : vwCl[ci]? = some r) (hS : S i = some (sC ci sl)) : ∃ cellB : Cell, H[ad i]? = some cellB ∧ cellB.vm.isStatics = false ∧ s.vm.findClass r.1 = some cellB.cls := by
  obtain ⟨r', h1', cel, q1, q2, q3, q4⟩ := g6.1 i _ hS
  exact ⟨cel, q1, by rw [q3]; rfl, by rw [q2]; exact (hK.1 ci r hc).2.1⟩
/-- a call of an instance method on an object of our own, by its very class -/
theorem j_callV (C : ab_C E cc nL y rm) {index i ci : Nat} {z : MethodName} {cz : ByteArray} {nz : Nat} {rz : Option FieldType} {rmz : Room} {mc ms np : Nat} {vs : List ab_V} {sl : Nat → Option (Option Nat)} {r : vw_C} {P : Option ab_V → ab_St → ab_Fn → ab_An → Prop} (cl : ab_Cl y.cls index z cz nz rz np) (hins : Cond.instanceMethod z ∈ ab_tb) (hsel : Cond.selects z.cls z z ∈ ab_tb)
    (hM : ∀ l, ab_Met l z cz nz rz rmz mc ms (aR i :: vs) S F A P) (hS : S i = some (sC ci sl)) (hc : vwCl[ci]? = some r) (hcz : r.1 = z.cls) (hnp : vs.length = np) (hrm : rmz.cells = mc ∧ rmz.slots = ms ∧ rmz.frames + 1 ≤ rm.frames ∧ 8 + (nz + 11) + rmz.locals ≤ rm.locals) (hroom : k + mc ≤ rm.cells ∧ n + ms ≤ rm.slots)
    (hcat : ∀ ad, ((st.map (ab_val ad)).map fun v => v.category).sum ≤ 8) (hst : ∀ v ∈ st, ab_live S v) (hlv : ∀ v, some v ∈ lv → ab_live S v) (d : decode cc pc = .ok (.invokevirtual index, 3))
    (h : ∀ v S' F' A', P v S' F' A' → ab_J E nL (k + mc) (n + ms) S' F' A' (pc + 3) lv (v.toList ++ st)) : ab_J E nL k n S F A pc lv (vs.reverse ++ aR i :: st) := by
  obtain ⟨p, l, e, R, s, m, args, below, meth, c, Q, K, Am, ad0, S0⟩ := E
  obtain ⟨hx, hb, hml, hown, hnm, hts, hK, hA, hlk, hZ, hR⟩ := C
  intro ad H locs ls g1 g2 g3 g4 g5 g6 g7 g8
  subst hR
  have hAA := ab_A.mono (ad0 := ad0) (sz' := H.size) g7 hA g8.1
  refine ab_goOn (a := ((aR i :: vs).map (ab_val ad)).toArray) (P := P) ?_ hA (fun ad' x => ab_stk x hst) (fun ad' x => ab_lvs x hlv g5) g1 g2 g3 g4 g7 g8 h
  have hb9 := ab_callB (R := R) (s := s) (args := args) hts cl hrm.1 hrm.2.1 hrm.2.2.1 hrm.2.2.2
  exact va_runV (As := vs.map (ab_val ad)) (rest := st.map (ab_val ad)) (Ts := ab_tb) (C := z.cls) ⟨hx, hb, hml, hown, hts⟩ (hM l K ad H.size) ⟨hb9, hts _ hins, hts _ hsel⟩
    ⟨ab_blind, (by rw [← hcz]; exact ab_recv hK g6 hc hS), fun U hU hW => ⟨rfl, by rw [hU], by rw [hU]; exact g6, va_K.moved hW.alike hK, by rw [hU]; exact hZ.to g1.2 g8 hW hAA⟩⟩ rfl (by rw [List.length_map]; exact hnp) g3 (by simp [F0, List.map_append, List.map_reverse]; rfl) (by show 2 * 0 + _ ≤ 8; have := hcat ad; omega) d hroom
theorem j_callS (C : ab_C E cc nL y rm) {index : Nat} {z : MethodName} {cz : ByteArray} {nz : Nat} {rz : Option FieldType} {rmz : Room} {mc ms np : Nat} {vs : List ab_V} {P : Option ab_V → ab_St → ab_Fn → ab_An → Prop} (cl : ab_Cl y.cls index z cz nz rz np) (hsta : Cond.static z ∈ ab_tb)
    (hM : ∀ l, ab_Met l z cz nz rz rmz mc ms vs S F A P) (hnp : vs.length = np) (hrm : rmz.cells = mc ∧ rmz.slots = ms ∧ rmz.frames + 1 ≤ rm.frames ∧ 8 + (nz + 11) + rmz.locals ≤ rm.locals) (hroom : k + mc ≤ rm.cells ∧ n + ms ≤ rm.slots)
    (hcat : ∀ ad, ((st.map (ab_val ad)).map fun v => v.category).sum ≤ 8) (hst : ∀ v ∈ st, ab_live S v) (hlv : ∀ v, some v ∈ lv → ab_live S v) (d : decode cc pc = .ok (.invokestatic index, 3))
    (h : ∀ v S' F' A', P v S' F' A' → ab_J E nL (k + mc) (n + ms) S' F' A' (pc + 3) lv (v.toList ++ st)) : ab_J E nL k n S F A pc lv (vs.reverse ++ st) := by
  obtain ⟨p, l, e, R, s, m, args, below, meth, c, Q, K, Am, ad0, S0⟩ := E
  obtain ⟨hx, hb, hml, hown, hnm, hts, hK, hA, hlk, hZ, hR⟩ := C
  intro ad H locs ls g1 g2 g3 g4 g5 g6 g7 g8
  subst hR
  have hAA := ab_A.mono (ad0 := ad0) (sz' := H.size) g7 hA g8.1
  refine ab_goOn (a := (vs.map (ab_val ad)).toArray) (P := P) ?_ hA (fun ad' x => ab_stk x hst) (fun ad' x => ab_lvs x hlv g5) g1 g2 g3 g4 g7 g8 h
  have hb9 := ab_callB (R := R) (s := s) (args := args) hts cl hrm.1 hrm.2.1 hrm.2.2.1 hrm.2.2.2
  exact va_runS (As := vs.map (ab_val ad)) (rest := st.map (ab_val ad)) (Ts := ab_tb) ⟨hx, hb, hml, hown, hts⟩ (hM l K ad H.size) ⟨hb9, hts _ hsta⟩
    ⟨ab_blind, fun U hU hW => ⟨rfl, by rw [hU], by rw [hU]; exact g6, va_K.moved hW.alike hK, by rw [hU]; exact hZ.to g1.2 g8 hW hAA⟩⟩ rfl (by rw [List.length_map]; exact hnp) g3 (by simp [F0, List.map_append, List.map_reverse]) (by show 2 * 0 + _ ≤ 8; have := hcat ad; omega) d hroom
theorem j_callI (C : ab_C E cc nL y rm) {index i : Nat} {z : MethodName} {cz : ByteArray} {nz : Nat} {rmz : Room} {mc ms np : Nat} {vs : List ab_V} {P : Option ab_V → ab_St → ab_Fn → ab_An → Prop} (cl : ab_Cl y.cls index z cz nz none np) (hins : Cond.instanceMethod z ∈ ab_tb) (hini : z.name = "<init>")
    (hM : ∀ l, ab_Met l z cz nz none rmz mc ms (aR i :: vs) S F A P) (hnp : vs.length = np) (hrm : rmz.cells = mc ∧ rmz.slots = ms ∧ rmz.frames + 1 ≤ rm.frames ∧ 8 + (nz + 11) + rmz.locals ≤ rm.locals) (hroom : k + mc ≤ rm.cells ∧ n + ms ≤ rm.slots)
    (hcat : ∀ ad, ((st.map (ab_val ad)).map fun v => v.category).sum ≤ 8) (hst : ∀ v ∈ st, ab_live S v) (hlv : ∀ v, some v ∈ lv → ab_live S v) (d : decode cc pc = .ok (.invokespecial index, 3))
    (h : ∀ v S' F' A', P v S' F' A' → ab_J E nL (k + mc) (n + ms) S' F' A' (pc + 3) lv (v.toList ++ st)) : ab_J E nL k n S F A pc lv (vs.reverse ++ aR i :: st) := by
  obtain ⟨p, l, e, R, s, m, args, below, meth, c, Q, K, Am, ad0, S0⟩ := E
  obtain ⟨hx, hb, hml, hown, hnm, hts, hK, hA, hlk, hZ, hR⟩ := C
  intro ad H locs ls g1 g2 g3 g4 g5 g6 g7 g8
  subst hR
  have hAA := ab_A.mono (ad0 := ad0) (sz' := H.size) g7 hA g8.1
  refine ab_goOn (a := ((aR i :: vs).map (ab_val ad)).toArray) (P := P) ?_ hA (fun ad' x => ab_stk x hst) (fun ad' x => ab_lvs x hlv g5) g1 g2 g3 g4 g7 g8 h
  have hb9 := ab_callB (R := R) (s := s) (args := args) hts cl hrm.1 hrm.2.1 hrm.2.2.1 hrm.2.2.2
  exact va_runI (As := vs.map (ab_val ad)) (rest := st.map (ab_val ad)) (Ts := ab_tb) ⟨hx, hb, hml, hown, hts⟩ (hM l K ad H.size) ⟨hb9, hini, hts _ hins⟩
    ⟨ab_blind, fun U hU hW => ⟨rfl, by rw [hU], by rw [hU]; exact g6, va_K.moved hW.alike hK, by rw [hU]; exact hZ.to g1.2 g8 hW hAA⟩⟩ rfl (by rw [List.length_map]; exact hnp) g3 (by simp [F0, List.map_append, List.map_reverse]; rfl) (by show 2 * 0 + _ ≤ 8; have := hcat ad; omega) d hroom
end
