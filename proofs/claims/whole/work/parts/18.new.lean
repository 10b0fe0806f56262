/-! making things -/
def zF (F : ab_Fn) (i : Nat) : ab_Fn := fun i' k => if i' = i then 0 else F i' k
def zA (A : ab_An) (i : Nat) : ab_An := fun i' j => if i' = i then 0 else A i' j
def upN (ad : Nat → Nat) (i h : Nat) : Nat → Nat := fun j => if j = i then h else ad j
theorem ab_at.ad {K : ab_K} {ad ad' : Nat → Nat} {F : ab_Fn} {A : ab_An} {i : Nat} {sh : ab_Sh} {H : Heap} (h : ab_at K ad F A i sh H) (hi : ad' i = ad i) (hm : ab_men sh (fun k => ad' k = ad k)) : ab_at K ad' F A i sh H := by
  match sh, h, hm with
  | .inl (ty, n), h, _ => show H[ad' i]? = _; rw [hi]; exact h
  | .inr (.inl (n, c)), h, hm =>
    show H[ad' i]? = _
    rw [hi]
    refine h.trans (congrArg (fun f => some (arrV K.2.2 n f)) ?_)
    funext j
    cases e : c j with
    | none => rfl
    | some k => exact congrArg Value.ref (hm j k e).symm
  | .inr (.inr (ci, sl)), ⟨r, h1, h2⟩, hm =>
    refine ⟨r, h1, ?_⟩
    rw [hi]
    refine h2.to (fun j _ => ?_)
    cases e : sl j with
    | none => rfl
    | some o => cases o with
      | none => rfl
      | some k => exact congrArg Value.ref (hm j k e).symm
/-- one cell is new -/
theorem ab_P.new {K : ab_K} {ad : Nat → Nat} {S : ab_St} {F F' : ab_Fn} {A A' : ab_An} {H H1 : Heap} {i : Nat} {sh : ab_Sh} (h : ab_P K ad S F A H) (hi : S i = none) (hi6 : i < 1000000) (hF : ∀ j, j ≠ i → F' j = F j) (hA : ∀ j, j ≠ i → A' j = A j) (hm : ab_men sh (ab_liv S)) (z : H1.size = H.size + 1) (oq : ∀ q : Nat, q < H.size → H1[q]? = H[q]?) (he : ab_at K (upN ad i H.size) F' A' i sh H1) : ab_P K (upN ad i H.size) (upS S i sh) F' A' H1 := by
  have hlv : ∀ k, ab_liv S k → ab_liv (upS S i sh) k := fun k hk => by
    rcases hk with hk | hk
    · refine Or.inl ?_
      by_cases e : k = i
      · subst e; simp [upS]
      · simpa [upS, e] using hk
    · exact Or.inr hk
  have hne : ∀ k, ab_liv S k → upN ad i H.size k = ad k := fun k hk => by
    have : k ≠ i := fun e => by
      subst e
      rcases hk with hk | hk
      · exact hk hi
      · omega
    simp [upN, this]
  have hlt : ∀ j, S j ≠ none → ad j < H.size := fun j hj => by
    cases e : S j with
    | none => exact absurd e hj
    | some sh' => exact (h.1 j sh' e).lt
  refine ⟨fun j sh' hj => ?_, fun a b ha hb e => ?_, fun j sh' hj => ?_⟩
  · by_cases e : j = i
    · subst e
      simp [upS] at hj
      subst hj
      exact he
    · simp [upS, e] at hj
      have hjn : S j ≠ none := by rw [hj]; simp
      refine ab_at.ad (ad := ad) (((h.1 j sh' hj).kept (oq _ (hlt j hjn))).congr (hF j e) (hA j e)) (hne j (Or.inl hjn)) ((h.2.2 j sh' hj).mono hne)
  · by_cases ea : a = i
    · by_cases eb : b = i
      · rw [ea, eb]
      · exfalso
        have hbn : S b ≠ none := by simpa [upS, eb] using hb
        have := hlt b hbn
        simp [upN, ea, eb] at e
        omega
    · have han : S a ≠ none := by simpa [upS, ea] using ha
      by_cases eb : b = i
      · exfalso
        have := hlt a han
        simp [upN, ea, eb] at e
        omega
      · have hbn : S b ≠ none := by simpa [upS, eb] using hb
        simp [upN, ea, eb] at e
        exact h.2.1 a b han hbn e
  · by_cases e : j = i
    · subst e
      simp [upS] at hj
      subst hj
      exact hm.mono hlv
    · simp [upS, e] at hj
      exact (h.2.2 j sh' hj).mono hlv
theorem ab_ext.new {S : ab_St} {ad : Nat → Nat} {i h : Nat} (hi : S i = none) (hi6 : i < 1000000) : ab_ext S ad (upN ad i h) := by
  refine ⟨fun j hj => ?_, fun j hj => ?_⟩
  · have : j ≠ i := fun e => hj (by rw [e]; exact hi)
    simp [upN, this]
  · have : j ≠ i := by omega
    simp [upN, this]
section
variable {E : ab_E} {cc : ByteArray} {nL : Nat} {y : MethodName} {rm : Room} {k n : Nat} {S : ab_St} {F : ab_Fn} {A : ab_An} {pc : Nat} {lv : List (Option ab_V)} {st : List ab_V}
/-- behind a making: what the world is -/
theorem ab_made {p : Program} {l : Launch} {e : Env} {R : Room} {s : State} {m : MethodId} {args : Array Value} {below : List Frame} {meth : Method} {c : Code} {Q : State → Prop} {K : ab_K} {Am : Nat → Prop} {ad0 : Nat → Nat} {S0 : ab_St} {F' : ab_Fn} {A' : ab_An} {ad : Nat → Nat} {H H1 : Heap} {locs : List Loc} {ls : Array Slot} {i k1 n1 pc1 : Nat} {sh : ab_Sh} (hA : ∀ q, s.heap.size ≤ q → Am q) (g1 : ab_ext S0 ad0 ad) (g2 : ab_dom S0 S) (g3 : ls.size = nL) (g4 : lv_wf ls) (g5 : ab_L ad ls lv) (g6 : ab_P K ad S F A H) (g7 : ∀ i, S i ≠ none → Am (ad i)) (g8 : va_S Am s.heap H locs)
    (hst : ∀ v ∈ st, ab_live S v) (hlv : ∀ v, some v ∈ lv → ab_live S v) (hi : S i = none) (hi6 : i < 1000000) (hF : ∀ j, j ≠ i → F' j = F j) (hA2 : ∀ j, j ≠ i → A' j = A j) (hm : ab_men sh (ab_liv S)) (z : H1.size = H.size + 1) (oq : ∀ q : Nat, q < H.size → H1[q]? = H[q]?) (he : ab_at K (upN ad i H.size) F' A' i sh H1)
    (h : ab_J (p, l, e, R, s, m, args, below, meth, c, Q, K, Am, ad0, S0) nL k1 n1 (upS S i sh) F' A' pc1 lv (aR i :: st)) : W p l e R s m args below meth c H1 locs k1 n1 Q (F0 m pc1 ls (.ref H.size :: st.map (ab_val ad))) := by
  have x := ab_ext.new (ad := ad) (h := H.size) hi hi6
  have q := h (upN ad i H.size) H1 locs ls (g1.trans g2 x) (fun j hj => ?_) g3 g4 (ab_lvs x hlv g5) (g6.new hi hi6 hF hA2 hm z oq he) (fun j hj => ?_) ⟨Nat.le_trans g8.1 (by omega), fun b h1 h2 => (oq b (Nat.lt_of_lt_of_le h1 g8.1)).trans (g8.2.1 b h1 h2), g8.2.2⟩
  · have e1 : ab_val (upN ad i H.size) (aR i) = .ref H.size := by show Value.ref (upN ad i H.size i) = _; simp [upN]
    rw [List.map_cons, e1, ab_stk x hst] at q
    exact q
  · by_cases e : j = i
    · subst e; simp [upS]
    · simp only [upS, e, if_false]; exact g2 j hj
  · by_cases e : j = i
    · subst e; simp only [upN, if_true]; exact hA _ g8.1
    · have hj' : S j ≠ none := by simpa [upS, e] using hj
      simp only [upN, e, if_false]; exact g7 j hj'
theorem j_new (C : ab_C E cc nL y rm) {index ci : Nat} (i : Nat) {r : vw_C} (sl : Nat → Option (Option Nat)) (hc : vwCl[ci]? = some r) (hin : ∀ w ∈ u_ws r.1 r.2.1 r.2.2, w ∈ ab_tb) (ty : Nat → FieldType) (hty : ∀ k, k < r.2.2 → parseFieldDescriptor (r.2.1 k).2.2.1 = some (ty k)) (hcl : Cond.classLink y.cls index r.1 ∈ ab_tb) (hins : Cond.instantiable r.1 r.2.2 ∈ ab_tb) (hini : Cond.initialized r.1 ∈ ab_tb) (hsl : ∀ k, k < r.2.2 → ∀ ad, defaultValue (ty k) = ab_sv ad 0 (sl k)) (hmn : ∀ j k, sl j ≠ some (some k)) (hi : S i = none) (hi6 : i < 1000000) (hcells : k + 1 ≤ rm.cells) (hslots : n + r.2.2 ≤ rm.slots) (hst : ∀ v ∈ st, ab_live S v) (hlv : ∀ v, some v ∈ lv → ab_live S v) (d : decode cc pc = .ok (.new index, 3)) (h : ab_J E nL (k + 1) (n + r.2.2) (upS S i (sC ci sl)) (zF F i) A (pc + 3) lv (aR i :: st)) : ab_J E nL k n S F A pc lv st := by
  obtain ⟨p, l, e, R, s, m, args, below, meth, c, Q, K, Am, ad0, S0⟩ := E
  obtain ⟨hx, hb, hml, hown, hnm, hts, hK, hA, hlk, hZ, hR⟩ := C
  intro ad H locs ls g1 g2 g3 g4 g5 g6 g7 g8
  subst hR
  have hKn := hK.1 ci r hc
  refine W.newcK hx hb hown (hts _ hcl) (hts _ hins) (hts _ hini) rfl d hcells hslots hKn.2.1 rfl fun H1 kC hkC e1 z1 o1 => ?_
  refine ab_made (S := S) (F := F) (A := A) (F' := zF F i) (A' := A) (sh := sC ci sl) hA g1 g2 g3 g4 g5 g6 g7 g8 hst hlv hi hi6 (fun j hj => by funext x; simp [zF, hj]) (fun _ _ => rfl) (fun j k e => absurd e (hmn j k)) z1 o1 ?_ h
  refine ⟨r, hc, ?_⟩
  have e2 : upN ad i H.size i = H.size := by simp [upN]
  rw [e2]
  refine (u_born ty hts hin hKn hkC e1 hty).to (fun j hj => ?_)
  rw [hsl j hj (upN ad i H.size)]
  simp [zF]
theorem j_newa (C : ab_C E cc nL y rm) {atype : ArrayType} {ty : FieldType} {a : Int} {N : Nat} (i t0 : Nat) (hty : newarray.typeOf atype = ty) (ht : ∀ K : ab_K, (ab_tys K)[t0]? = some (K.2.1 ty, ty)) (hrf : ∀ U cA, va_RA U cA ty → U.vm.findClass ("[" ++ ty.toString) = some cA) (hdv : defaultValue ty = ab_ev ty 0) (harr : Cond.arrayClass ty ∈ ab_tb) (ha : a = (N : Int)) (hN : (N : Int) < 2147483648) (hby : N * componentBytes ty ≤ 536870912) (hi : S i = none) (hi6 : i < 1000000) (hcells : k + 1 ≤ rm.cells) (hslots : n + N ≤ rm.slots) (hst : ∀ v ∈ st, ab_live S v) (hlv : ∀ v, some v ∈ lv → ab_live S v) (d : decode cc pc = .ok (.newarray atype, 2)) (h : ab_J E nL (k + 1) (n + N) (upS S i (sA ty N)) F (zA A i) (pc + 2) lv (aR i :: st)) : ab_J E nL k n S F A pc lv (aI a :: st) := by
  obtain ⟨p, l, e, R, s, m, args, below, meth, c, Q, K, Am, ad0, S0⟩ := E
  obtain ⟨hx, hb, hml, hown, hnm, hts, hK, hA, hlk, hZ, hR⟩ := C
  intro ad H locs ls g1 g2 g3 g4 g5 g6 g7 g8
  subst hR
  subst hty
  have h0 : (0 : Int) ≤ a := by omega
  refine va_newaK hx hb (hts _ harr) rfl d (n := Int32.ofInt a) (N := N) rfl (fun z => ?_) (by rw [ab_clamp h0 (by omega)]; omega) hby hcells hslots rfl fun H1 cA e1 z1 o1 hAr hNm => ?_
  · have := (ab_lt (a := a) (b := 0) ⟨by omega, by omega⟩ inR_0).mp z
    omega
  have hcA : cA = K.2.1 (newarray.typeOf atype) := Option.some.inj (hNm.symm.trans (hrf _ _ (hK.2 t0 _ (ht K)).2))
  refine ab_made (S := S) (F := F) (A := A) (F' := F) (A' := zA A i) (sh := sA (newarray.typeOf atype) N) hA g1 g2 g3 g4 g5 g6 g7 g8 hst hlv hi hi6 (fun _ _ => rfl) (fun j hj => by funext x; simp [zA, hj]) trivial z1 o1 ?_ h
  show H1[upN ad i H.size i]? = _
  have e2 : upN ad i H.size i = H.size := by simp [upN]
  rw [e2, e1, hcA, hdv]
  congr 2
  funext j
  simp [zA]
theorem j_anewa (C : ab_C E cc nL y rm) {index : Nat} {a : Int} {N : Nat} (i : Nat) (hcl : Cond.classLink y.cls index "java/lang/Object" ∈ ab_tb) (hov : Cond.arrayOver (.object "java/lang/Object") ∈ lw_tbl) (ha : a = (N : Int)) (hN : (N : Int) < 2147483648) (hby : N * 4 ≤ 536870912) (hi : S i = none) (hi6 : i < 1000000) (hcells : k + 1 ≤ rm.cells) (hslots : n + N ≤ rm.slots) (hst : ∀ v ∈ st, ab_live S v) (hlv : ∀ v, some v ∈ lv → ab_live S v) (d : decode cc pc = .ok (.anewarray index, 3)) (h : ab_J E nL (k + 1) (n + N) (upS S i (sO N (fun _ => none))) F A (pc + 3) lv (aR i :: st)) : ab_J E nL k n S F A pc lv (aI a :: st) := by
  obtain ⟨p, l, e, R, s, m, args, below, meth, c, Q, K, Am, ad0, S0⟩ := E
  obtain ⟨hx, hb, hml, hown, hnm, hts, hK, hA, hlk, hZ, hR⟩ := C
  intro ad H locs ls g1 g2 g3 g4 g5 g6 g7 g8
  subst hR
  have h0 : (0 : Int) ≤ a := by omega
  have hcN : (Int32.ofInt a).toNatClampNeg = N := by rw [ab_clamp h0 (by omega)]; omega
  have hov9 : va_AO "java/lang/Object" s := by
    obtain ⟨-, s0, b0, q1, q2, hW, -⟩ := hZ
    exact va_AO.moved hW.alike (va_AO.of (q1.1 _ hov))
  refine W.anew hx hb hown (hts _ hcl) (va_AO.use hov9) rfl d (n := Int32.ofInt a) rfl (fun z => ?_) (by rw [hcN]; exact hby) hcells (by rw [hcN]; exact hslots) fun cA kA comp f1 f2 f3 f4 => ?_
  · have := (ab_lt (a := a) (b := 0) ⟨by omega, by omega⟩ inR_0).mp z
    omega
  rw [hcN]
  generalize hH1 : H.push ({ cls := cA, slots := Array.replicate N .null, vm := .none } : Cell) = H1
  have z1 : H1.size = H.size + 1 := by rw [← hH1, Array.size_push]
  have e1 : H1[H.size]? = some (arrV cA N (fun _ => .null)) := by rw [← hH1, Array.getElem?_push_size, ← arrV_new]
  have o1 : ∀ q : Nat, q < H.size → H1[q]? = H[q]? := fun q hq => by rw [← hH1, Array.getElem?_push, if_neg (Nat.ne_of_lt hq)]
  obtain ⟨kA', comp', k1, k2, k3, k4⟩ := (hK.2 4 _ rfl).2
  have hcA : cA = K.2.2 := Option.some.inj (f1.symm.trans k4)
  refine ab_made (S := S) (F := F) (A := A) (F' := F) (A' := A) (sh := sO N (fun _ => none)) hA g1 g2 g3 g4 g5 g6 g7 g8 hst hlv hi hi6 (fun _ _ => rfl) (fun _ _ => rfl) (fun j k e => by cases e) z1 o1 ?_ h
  show H1[upN ad i H.size i]? = _
  have e2 : upN ad i H.size i = H.size := by simp [upN]
  rw [e2, e1, hcA]
  rfl
theorem j_objInit (C : ab_C E cc nL y rm) {index : Nat} {a : ab_V} (ha : ∀ ad, ∃ q, ab_val ad a = .ref q) (hl : Cond.methodLink y.cls index Lib.objectInit ∈ ab_tb) (hi : Cond.instanceMethod Lib.objectInit ∈ ab_tb) (hc : Cond.code Lib.objectInit ⟨#[0xb1]⟩ 1 none ∈ ab_tb) (hfr : 1 ≤ rm.frames) (hlo : ∀ ad, ((st.map (ab_val ad)).map fun v => v.category).sum + 12 ≤ rm.locals) (d : decode cc pc = .ok (.invokespecial index, 3)) (h : ab_J E nL k n S F A (pc + 3) lv st) : ab_J E nL k n S F A pc lv (a :: st) := by
  obtain ⟨p, l, e, R, s, m, args, below, meth, c, Q, K, Am, ad0, S0⟩ := E
  obtain ⟨hx, hb, hml, hown, hnm, hts, hK, hA, hlk, hZ, hR⟩ := C
  intro ad H locs ls g1 g2 g3 g4 g5 g6 g7 g8
  subst hR
  obtain ⟨q, hq⟩ := ha ad
  rw [List.map_cons, hq]
  exact W.objInit hx hb hown (hts _ hl) (hts _ hi) (hts _ hc) rfl (g3.trans hml.symm) rfl d hfr (by show 2 * 0 + _ + 12 ≤ _; have := hlo ad; omega) (h ad H locs ls g1 g2 g3 g4 g5 g6 g7 g8)
/-- a reference into a field -/
theorem j_putR (C : ab_C E cc nL y rm) {i ci kk index j : Nat} {sl : Nat → Option (Option Nat)} {ty : FieldType} {fin : Bool} (fp : ab_Fp y.cls index ci kk ty fin) (hfin : fin = true → y.name = "<init>") (hty : (∃ c, ty = .object c) ∨ ∃ c, ty = .array c) (hS : S i = some (sC ci sl)) (hj : ab_live S (aR j)) (d : decode cc pc = .ok (.putfield index, 3)) (h : ab_J E nL k n (upS S i (sC ci (upL sl kk (some (some j))))) F A (pc + 3) lv st) : ab_J E nL k n S F A pc lv (aR j :: aR i :: st) := by
  refine ab_put0 C (sl' := upL sl kk (some (some j))) (F' := F) (aR j) fp hfin hS (fun ad => ?_) (fun ad => ?_) (fun _ _ => rfl) (fun ad => by simp [upL]; rfl) (fun a ha => ⟨rfl, by simp [upL, ha]⟩) (fun k e => Or.inr ?_) d h
  · rcases hty with ⟨c, rfl⟩ | ⟨c, rfl⟩ <;> rfl
  · rcases hty with ⟨c, rfl⟩ | ⟨c, rfl⟩ <;> rfl
  · simp [upL] at e
    rw [← e]
    exact hj
/-- a number into a final field -/
theorem j_putF (C : ab_C E cc nL y rm) {i ci kk index : Nat} {sl : Nat → Option (Option Nat)} {a : Int} (fp : ab_Fp y.cls index ci kk .int true) (hin : y.name = "<init>") (hS : S i = some (sC ci sl)) (hs : sl kk = none) (d : decode cc pc = .ok (.putfield index, 3)) (h : ab_J E nL k n S (upF F i kk a) A (pc + 3) lv st) : ab_J E nL k n S F A pc lv (aI a :: aR i :: st) :=
  ab_put0 C (sl' := sl) (F' := upF F i kk a) (aI a) fp (fun _ => hin) hS (fun _ => rfl) (fun _ => rfl) (fun j hj => by funext x; simp [upF, hj]) (fun ad => by rw [hs]; simp [upF]; rfl) (fun j hj => ⟨by simp [upF, hj], rfl⟩) (fun _ z => Or.inl z) d (by rw [upS_self hS]; exact h)
/-- rows of references -/
theorem j_aald (C : ab_C E cc nL y rm) {i N x : Nat} {j : Int} {f : Nat → Option Nat} (hS : S i = some (sO N f)) (h0 : 0 ≤ j) (h1 : j < (N : Int)) (hN : (N : Int) < 2147483648) (hf : f j.toNat = some x) (d : decode cc pc = .ok (.aaload, 1)) (h : ab_J E nL k n S F A (pc + 1) lv (aR x :: st)) : ab_J E nL k n S F A pc lv (aI j :: aR i :: st) := by
  obtain ⟨p, l, e, R, s, m, args, below, meth, c, Q, K, Am, ad0, S0⟩ := E
  obtain ⟨hx, hb, hml, hown, hnm, hts, hK, hA, hlk, hZ, hR⟩ := C
  intro ad H locs ls g1 g2 g3 g4 g5 g6 g7 g8
  have q := h ad H locs ls g1 g2 g3 g4 g5 g6 g7 g8
  have hc : H[ad i]? = some (arrV K.2.2 N (fun j => ab_rv ad (f j))) := g6.1 i _ hS
  refine W.aald (v := ab_val ad (aR x)) (ty := .object "java/lang/Object") hx hb hc ((hK.2 4 _ rfl).1 N _) rfl (fun z => by cases z) (by rw [arrV_size]; exact ab_in h0 h1 hN) ?_ rfl rfl d q
  rw [ab_clamp h0 (by omega), arrV_read _ _ (by omega), hf]
  rfl
theorem j_aast (C : ab_C E cc nL y rm) {i N x ci : Nat} {j : Int} {f : Nat → Option Nat} {sl : Nat → Option (Option Nat)} {r : vw_C} (hS : S i = some (sO N f)) (hx9 : S x = some (sC ci sl)) (hc9 : vwCl[ci]? = some r) (hca : Cond.castable r.1 "java/lang/Object" ∈ lw_tbl) (h0 : 0 ≤ j) (h1 : j < (N : Int)) (hN : (N : Int) < 2147483648) (d : decode cc pc = .ok (.aastore, 1)) (h : ab_J E nL k n (upS S i (sO N (upC f j.toNat (some x)))) F A (pc + 1) lv st) : ab_J E nL k n S F A pc lv (aR x :: aI j :: aR i :: st) := by
  obtain ⟨p, l, e, R, s, m, args, below, meth, c, Q, K, Am, ad0, S0⟩ := E
  obtain ⟨hx, hb, hml, hown, hnm, hts, hK, hA, hlk, hZ, hR⟩ := C
  intro ad H locs ls g1 g2 g3 g4 g5 g6 g7 g8
  have hc : H[ad i]? = some (arrV K.2.2 N (fun j => ab_rv ad (f j))) := g6.1 i _ hS
  obtain ⟨r', hr', cellV, v1, v2, v3, -⟩ := g6.1 x _ hx9
  have hcls := (hK.1 ci r hc9).2
  obtain ⟨kA, comp, k1, k2, k3, -⟩ := (hK.2 4 _ rfl).2
  obtain ⟨kE, hkE, -⟩ := Vm.findClass_spec k3
  have hnw : va_Nw (.castable r.1 "java/lang/Object") s := by
    obtain ⟨-, s0, b0, q1, q2, hW, -⟩ := hZ
    exact va_Nw.warmC hW (va_Nw.of rfl (q1.1 _ hca))
  obtain ⟨c0, t1, f1, f2, f3⟩ := Cond.castable_spec (va_Nw.use (A := args) rfl hnw)
  cases hcls.1.symm.trans f1
  cases k3.symm.trans f2
  obtain ⟨kC, hkC, -⟩ := hcls.2
  have hne : S i ≠ none := by rw [hS]; exact fun z => by cases z
  have hin := ab_in h0 h1 hN
  refine W.aast hx hb hc (fun q h => by cases h) (fun h => by cases h) k1 k2 rfl hkE ⟨fun z => hin (Or.inl z), by rw [arrV_size, ab_clamp h0 (by omega)]; omega⟩ v1 (fun q h => by rw [v3] at h; cases h) (by rw [v2]; exact hkC) (by rw [v2]; exact f3) rfl rfl d fun H1 e1 z1 oq => ?_
  refine h ad H1 _ ls g1 (fun a ha => ?_) g3 g4 g5 (g6.set hne rfl (fun _ _ => rfl) (fun _ _ => rfl) ?_ oq (fun a b e9 => ?_)) (fun a ha => ?_) (g8.put z1 oq (g7 i hne))
  · by_cases e : a = i
    · subst e; simp [upS]
    · simp only [upS, e, if_false]; exact g2 a ha
  · show H1[ad i]? = _
    rw [e1, ab_clamp h0 (by omega), arrV_store]
    congr 2
    funext q
    by_cases hq : q = j.toNat
    · subst hq; simp [updV, upC]; rfl
    · simp [updV, upC, hq]
  · by_cases e : a = j.toNat
    · subst e; simp [upC] at e9; rw [← e9]; exact Or.inl (by rw [hx9]; simp)
    · simp [upC, e] at e9; exact g6.2.2 i _ hS a b e9
  · by_cases e : a = i
    · subst e; exact g7 a hne
    · exact g7 a (by simpa [upS, e] using ha)
/-- the length of a row of references -/
theorem j_olen (C : ab_C E cc nL y rm) {i N : Nat} {f : Nat → Option Nat} (hS : S i = some (sO N f)) (d : decode cc pc = .ok (.arraylength, 1)) (h : ab_J E nL k n S F A (pc + 1) lv (aI (N : Nat) :: st)) : ab_J E nL k n S F A pc lv (aR i :: st) := by
  obtain ⟨p, l, e, R, s, m, args, below, meth, c, Q, K, Am, ad0, S0⟩ := E
  obtain ⟨hx, hb, hml, hown, hnm, hts, hK, hA, hlk, hZ, hR⟩ := C
  intro ad H locs ls g1 g2 g3 g4 g5 g6 g7 g8
  have q := h ad H locs ls g1 g2 g3 g4 g5 g6 g7 g8
  have hc : H[ad i]? = some (arrV K.2.2 N (fun j => ab_rv ad (f j))) := g6.1 i _ hS
  exact W.alen (n := Int32.ofInt (N : Int)) hx hb hc ((hK.2 4 _ rfl).1 N _) (by rw [arrV_size]; rfl) rfl rfl d q
/-- a cast to an object's very class -/
theorem j_cast (C : ab_C E cc nL y rm) {i ci index : Nat} {sl : Nat → Option (Option Nat)} {r : vw_C} (hS : S i = some (sC ci sl)) (hc9 : vwCl[ci]? = some r) (hw : Cond.classLink y.cls index r.1 ∈ ab_tb) (d : decode cc pc = .ok (.checkcast index, 3)) (h : ab_J E nL k n S F A (pc + 3) lv (aR i :: st)) : ab_J E nL k n S F A pc lv (aR i :: st) := by
  obtain ⟨p, l, e, R, s, m, args, below, meth, c, Q, K, Am, ad0, S0⟩ := E
  obtain ⟨hx, hb, hml, hown, hnm, hts, hK, hA, hlk, hZ, hR⟩ := C
  intro ad H locs ls g1 g2 g3 g4 g5 g6 g7 g8
  exact va_castS hx hb hown (hts _ hw) (hK.1 ci r hc9).2 (ab_recv hK g6 hc9 hS) d (h ad H locs ls g1 g2 g3 g4 g5 g6 g7 g8)
end
theorem upS_at (S : ab_St) (i : Nat) (sh : ab_Sh) : upS S i sh i = some sh := by simp [upS]
theorem upS_ne {S : ab_St} {i j : Nat} {sh : ab_Sh} (h : j ≠ i) : upS S i sh j = S j := by simp [upS, h]
theorem upS_mv {S : ab_St} {i j : Nat} {a b c : ab_Sh} (h : j ≠ i) : upS (upS (upS S i a) j b) i c = upS (upS S j b) i c := by
  funext x
  by_cases e : x = i
  · subst e; simp [upS]
  · by_cases e2 : x = j
    · subst e2; simp [upS, e]
    · simp [upS, e, e2]
theorem upS_up {S : ab_St} {i : Nat} {a b : ab_Sh} : upS (upS S i a) i b = upS S i b := by
  funext x
  by_cases e : x = i
  · subst e; simp [upS]
  · simp [upS, e]
theorem j_eqS {E : ab_E} {nL k n : Nat} {S S' : ab_St} {F : ab_Fn} {A : ab_An} {pc : Nat} {lv : List (Option ab_V)} {st : List ab_V} (e : S = S') (h : ab_J E nL k n S' F A pc lv st) : ab_J E nL k n S F A pc lv st := by subst e; exact h
theorem lS {S : ab_St} {i : Nat} {sh : ab_Sh} (h : S i = some sh) : ab_live S (aR i) := Or.inl (by rw [h]; exact fun z => by cases z)
