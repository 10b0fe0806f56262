/-! THE ABSTRACT MACHINE: values are numbers (whole, unbounded: they stand for their class mod 2^32), references by names (numbers of our own, 'ad' says where each lies), longs, and raw values. A world: S says what each name is (a row of numbers, a row of references, an object), F the numbers in objects' fields, A the numbers in rows. -/
abbrev ab_V : Type := Int ⊕ (Nat ⊕ (Int ⊕ Value))
def aI (a : Int) : ab_V := .inl a
def aR (i : Nat) : ab_V := .inr (.inl i)
def aL (a : Int) : ab_V := .inr (.inr (.inl a))
def aX (v : Value) : ab_V := .inr (.inr (.inr v))
def ab_val (ad : Nat → Nat) (v : ab_V) : Value := match v with
  | .inl a => .int (Int32.ofInt a)
  | .inr (.inl i) => .ref (ad i)
  | .inr (.inr (.inl a)) => .long (Int64.ofInt a)
  | .inr (.inr (.inr v)) => v
abbrev ab_Sh : Type := (FieldType × Nat) ⊕ ((Nat × (Nat → Option Nat)) ⊕ (Nat × (Nat → Option (Option Nat))))
def sA (ty : FieldType) (n : Nat) : ab_Sh := .inl (ty, n)
def sO (n : Nat) (c : Nat → Option Nat) : ab_Sh := .inr (.inl (n, c))
def sC (ci : Nat) (sl : Nat → Option (Option Nat)) : ab_Sh := .inr (.inr (ci, sl))
abbrev ab_St : Type := Nat → Option ab_Sh
abbrev ab_Fn : Type := Nat → Nat → Int
abbrev ab_An : Type := Nat → Int → Int
def upF (F : ab_Fn) (i k : Nat) (v : Int) : ab_Fn := fun i' k' => if i' = i then (if k' = k then v else F i' k') else F i' k'
def upA (A : ab_An) (i : Nat) (j v : Int) : ab_An := fun i' j' => if i' = i then (if j' = j then v else A i' j') else A i' j'
def upS (S : ab_St) (i : Nat) (sh : ab_Sh) : ab_St := fun i' => if i' = i then some sh else S i'
def upL (sl : Nat → Option (Option Nat)) (k : Nat) (o : Option (Option Nat)) : Nat → Option (Option Nat) := fun k' => if k' = k then o else sl k'
def upC (c : Nat → Option Nat) (k : Nat) (o : Option Nat) : Nat → Option Nat := fun k' => if k' = k then o else c k'
/-- a number that an int holds -/
def inR (a : Int) : Prop := -2147483648 ≤ a ∧ a < 2147483648
abbrev ab_K : Type := va_G × (FieldType → ClassId) × ClassId
def ab_ev (ty : FieldType) (z : Int) : Value := match ty with
  | .long => .long (Int64.ofInt z)
  | _ => .int (Int32.ofInt z)
def ab_rv (ad : Nat → Nat) (o : Option Nat) : Value := match o with
  | none => .null
  | some k => .ref (ad k)
def ab_sv (ad : Nat → Nat) (z : Int) (o : Option (Option Nat)) : Value := match o with
  | none => .int (Int32.ofInt z)
  | some o => ab_rv ad o
def ab_at (K : ab_K) (ad : Nat → Nat) (F : ab_Fn) (A : ab_An) (i : Nat) (sh : ab_Sh) (H : Heap) : Prop := match sh with
  | .inl (ty, n) => H[ad i]? = some (arrV (K.2.1 ty) n (fun j => ab_ev ty (A i (j : Int))))
  | .inr (.inl (n, c)) => H[ad i]? = some (arrV K.2.2 n (fun j => ab_rv ad (c j)))
  | .inr (.inr (ci, sl)) => ∃ r : vw_C, vwCl[ci]? = some r ∧ t_OB (ad i) (K.1.1 ci) r.2.2 (K.1.2 ci) H (fun k => ab_sv ad (F i k) (sl k))
/-- the names that a shape speaks of have p -/
def ab_men (sh : ab_Sh) (p : Nat → Prop) : Prop := match sh with
  | .inl _ => True
  | .inr (.inl (_, c)) => ∀ j k, c j = some k → p k
  | .inr (.inr (_, sl)) => ∀ j k, sl j = some (some k) → p k
def ab_liv (S : ab_St) (k : Nat) : Prop := S k ≠ none ∨ 1000000 ≤ k
/-- no shape speaks of a name that isn't there -/
def ab_cl (S : ab_St) : Prop := ∀ i sh, S i = some sh → ab_men sh (ab_liv S)
def ab_P (K : ab_K) (ad : Nat → Nat) (S : ab_St) (F : ab_Fn) (A : ab_An) (H : Heap) : Prop := (∀ i sh, S i = some sh → ab_at K ad F A i sh H) ∧ (∀ i j, S i ≠ none → S j ≠ none → ad i = ad j → i = j) ∧ ab_cl S
theorem ab_men.mono {sh : ab_Sh} {p q : Nat → Prop} (h : ab_men sh p) (hpq : ∀ k, p k → q k) : ab_men sh q := by
  match sh, h with
  | .inl _, _ => exact trivial
  | .inr (.inl (n, c)), h => exact fun j k e => hpq k (h j k e)
  | .inr (.inr (ci, sl)), h => exact fun j k e => hpq k (h j k e)
def ab_tys (K : ab_K) : List (ClassId × FieldType) := [(K.2.1 .int, .int), (K.2.1 .byte, .byte), (K.2.1 .boolean, .boolean), (K.2.1 .long, .long), (K.2.2, .object "java/lang/Object")]
def ab_kn (K : ab_K) (U : State) : Prop := va_K K.1 vwCl (ab_tys K) U
/-- the words of the tables that any method may use -/
def ab_tb : List Cond := lw_tbl.filter goodWord
/-- which old cells a method may change: those of its world -/
def ab_A (ad : Nat → Nat) (S : ab_St) (sz : Nat) : Nat → Prop := fun q => (∃ i, S i ≠ none ∧ ad i = q) ∨ sz ≤ q
/-- names from 1000000 on are of things that were there at the law's start: they never move -/
def ab_ext (S : ab_St) (ad ad' : Nat → Nat) : Prop := (∀ i, S i ≠ none → ad' i = ad i) ∧ ∀ i, 1000000 ≤ i → ad' i = ad i
def ab_dom (S S' : ab_St) : Prop := ∀ i, S i ≠ none → S' i ≠ none
abbrev ab_E : Type := Program × Launch × Env × Room × State × MethodId × Array Value × List Frame × Method × Code × (State → Prop) × ab_K × (Nat → Prop) × (Nat → Nat) × ab_St
def ab_L (ad : Nat → Nat) (ls : Array Slot) (lv : List (Option ab_V)) : Prop := ∀ (i : Nat) (v : ab_V), lv[i]? = some (some v) → ls[i]? = some (Slot.val (ab_val ad v)) ∧ (ab_val ad v).category = 1
/-- what the Statement gives of the law's start: the tables' words, the premises -/
def ab_S0 (s0 : State) (b0 : Nat) : Prop := (∀ w ∈ lw_tbl, w.before #[Value.ref b0] s0 = true) ∧ (Jvm.Cond.and given_1 narrow_1).before #[Value.ref b0] s0 = true
/-- the texts of the claim, by a number: those of which bytes are read (0 to 7), the messages (8 to 19) -/
def ab_tm (j : Nat) : Term := match j with
  | 0 => .string "BergPatrol$Text" 32
  | 1 => .string "BergPatrol$Text" 41
  | 2 => .string "BergPatrol" 237
  | 3 => .string "BergPatrol" 250
  | 4 => .string "BergPatrolModel" 209
  | 5 => .string "BergPatrolModel" 218
  | 6 => .string "BergPatrolModel" 232
  | 7 => .string "BergPatrolModel" 241
  | 8 => .string "BergPatrol" 277
  | 9 => .string "BergPatrol" 94
  | 10 => .string "BergPatrol" 113
  | 11 => .string "BergPatrol" 120
  | 12 => .string "BergPatrol" 132
  | 13 => .string "BergPatrol" 150
  | 14 => .string "BergPatrol" 156
  | 15 => .string "BergPatrol" 280
  | 16 => .string "BergPatrol" 188
  | 17 => .string "BergPatrol" 218
  | 18 => .string "BergPatrol" 220
  | 19 => .string "BergPatrol" 282
  | _ => .int 0
def ab_sta (j : Nat) : Term := match j with
  | 0 => .static "BergPatrol" "ROUND_X" "[I"
  | 1 => .static "BergPatrol" "ROUND_Y" "[I"
  | 2 => .static "java/util/ArrayList" "DEFAULTCAPACITY_EMPTY_ELEMENTDATA" "[Ljava/lang/Object;"
  | 3 => .mirror "[Ljava/lang/Object;"
  | _ => .int 0
/-- where the old things lie: texts from 1000000 on, their bytes from 1000100 on, static rows from 1000200 on -/
def ab_cn (s0 : State) (b0 : Nat) (ad : Nat → Nat) : Prop := (∀ j, j < 20 → (ab_tm j).eval #[Value.ref b0] s0 none [] s0 = some (.ref (ad (1000000 + j)))) ∧ (∀ j, j < 8 → (Term.field (ab_tm j) "java/lang/String" "value" "[B").eval #[Value.ref b0] s0 none [] s0 = some (.ref (ad (1000100 + j)))) ∧ ∀ j, j < 4 → (ab_sta j).eval #[Value.ref b0] s0 none [] s0 = some (.ref (ad (1000200 + j)))
theorem ab_cn.to {s0 : State} {b0 : Nat} {ad ad' : Nat → Nat} (h : ab_cn s0 b0 ad) (he : ∀ i, 1000000 ≤ i → ad' i = ad i) : ab_cn s0 b0 ad' :=
  ⟨fun j hj => by rw [he _ (by omega)]; exact h.1 j hj, fun j hj => by rw [he _ (by omega)]; exact h.2.1 j hj, fun j hj => by rw [he _ (by omega)]; exact h.2.2 j hj⟩
/-- the old heap, that of the law's start, stands untouched below all that may be written -/
def ab_Z (l : Launch) (ad : Nat → Nat) (Am : Nat → Prop) (U : State) (H : Heap) : Prop := l.stackTraces = false ∧ ∃ (s0 : State) (b0 : Nat), ab_S0 s0 b0 ∧ ab_cn s0 b0 ad ∧ s0.WarmedH U.vm ∧ s0.heap.size ≤ H.size ∧ (∀ q : Nat, q < s0.heap.size → H[q]? = s0.heap[q]?) ∧ ∀ q, Am q → s0.heap.size ≤ q
theorem ab_Z.to {l : Launch} {ad ad' : Nat → Nat} {Am A' : Nat → Prop} {s U : State} {H : Heap} {locs : List Loc} (h : ab_Z l ad Am s s.heap) (he : ∀ i, 1000000 ≤ i → ad' i = ad i) (hS : va_S Am s.heap H locs) (hW : s.WarmedH U.vm) (hA : ∀ q, A' q → Am q) : ab_Z l ad' A' U H := by
  obtain ⟨h0, s0, b0, h1, hc, h2, h3, h4, h5⟩ := h
  refine ⟨h0, s0, b0, h1, hc.to he, State.WarmedH.trans h2 hW, Nat.le_trans h3 hS.1, fun q hq => ?_, fun q hq => h5 q (hA q hq)⟩
  rw [hS.2.1 q (Nat.lt_of_lt_of_le hq h3) (fun ha => absurd hq (Nat.not_lt.mpr (h5 q ha)))]
  exact h4 q hq
def ab_C (E : ab_E) (cc : ByteArray) (nL : Nat) (y : MethodName) (rm : Room) : Prop := match E with
  | (p, l, _, R, s, m, args, _, meth, c, _, K, Am, ad0, _) => p.tables.exec = Jvm.exec ∧ c.code = cc ∧ c.maxLocals = nL ∧ s.vm.findClass y.cls = some m.cls ∧ meth.name = y.name ∧ (∀ w ∈ ab_tb, w.before args s = true) ∧ ab_kn K s ∧ (∀ q, s.heap.size ≤ q → Am q) ∧ meth.locks = false ∧ ab_Z l ad0 Am s s.heap ∧ R = rm
def ab_J (E : ab_E) (nL k n : Nat) (S : ab_St) (F : ab_Fn) (A : ab_An) (pc : Nat) (lv : List (Option ab_V)) (st : List ab_V) : Prop := match E with
  | (p, l, e, R, s, m, args, below, meth, c, Q, K, Am, ad0, S0) => ∀ (ad : Nat → Nat) (H : Heap) (locs : List Loc) (ls : Array Slot), ab_ext S0 ad0 ad → ab_dom S0 S → ls.size = nL → lv_wf ls → ab_L ad ls lv → ab_P K ad S F A H → (∀ i, S i ≠ none → Am (ad i)) → va_S Am s.heap H locs → W p l e R s m args below meth c H locs k n Q (F0 m pc ls (st.map (ab_val ad)))
def ab_Pre (l : Launch) (K : ab_K) (ad : Nat → Nat) (S : ab_St) (F : ab_Fn) (A : ab_An) (sz : Nat) (vs : List ab_V) : Array Value → State → Prop := va_Pc (vs.map (ab_val ad)) (fun U => U.heap.size = sz ∧ ab_P K ad S F A U.heap ∧ ab_kn K U ∧ ab_Z l ad (ab_A ad S sz) U U.heap)
def ab_Post (K : ab_K) (ad : Nat → Nat) (S : ab_St) (sz : Nat) (P : Option ab_V → ab_St → ab_Fn → ab_An → Prop) : Array Value → State → Outcome → State → Prop := fun _ st o t => (∃ v ad' S' F' A', o = .returned (v.map (ab_val ad')) ∧ P v S' F' A' ∧ ab_ext S ad ad' ∧ ab_dom S S' ∧ ab_P K ad' S' F' A' t.heap ∧ (∀ i, S' i ≠ none → ab_A ad S sz (ad' i)) ∧ ab_kn K t) ∧ va_F (ab_A ad S sz) st t
/-- a method's contract over worlds: called with vs in the world S, F, A it comes back with an answer and a world of which P holds -/
def ab_Met (l : Launch) (y : MethodName) (cc : ByteArray) (nL : Nat) (ret : Option FieldType) (rm : Room) (mc ms : Nat) (vs : List ab_V) (S : ab_St) (F : ab_Fn) (A : ab_An) (P : Option ab_V → ab_St → ab_Fn → ab_An → Prop) : Prop :=
  ∀ (K : ab_K) (ad : Nat → Nat) (sz : Nat), Met l y (Cond.code y cc nL ret :: ab_tb) rm (ab_Pre l K ad S F A sz vs) (ab_Post K ad S sz P) mc ms (ab_A ad S sz)
def ab_Ret (E : ab_E) (ret : Option FieldType) (P : Option ab_V → ab_St → ab_Fn → ab_An → Prop) (mc ms : Nat) : Prop := match E with
  | (_, _, _, _, s, _, args, below, meth, _, Q, K, Am, ad0, S0) => meth.sig.returnType = ret ∧ Q = MQ below (ab_Post K ad0 S0 s.heap.size P) args s mc ms (ab_A ad0 S0 s.heap.size) ∧ Am = ab_A ad0 S0 s.heap.size
theorem ab_store {ls : Array Slot} {nL i : Nat} {v : Value} (hs : ls.size = nL) (hw : lv_wf ls) (hi : i < nL) (hc : v.category = 1) :
    ∃ ls', storeLocals ls i v = some ls' ∧ ls'.size = nL ∧ lv_wf ls' ∧ ls'[i]? = some (.val v) ∧ ∀ (j : Nat) (w : Value), j ≠ i → ls[j]? = some (.val w) → w.category = 1 → ls'[j]? = some (.val w) := by
  obtain ⟨ls', e, h⟩ := lv_store1 (l := []) (v := v) ⟨hs, hw, fun q hq => by cases hq⟩ hi hc
  refine ⟨ls', e, h.1, h.2.1, h.2.2 (i, v) List.mem_cons_self, fun j w hj hjw hcw => ?_⟩
  obtain ⟨ls2, e2, h2⟩ := lv_store1 (l := [(j, w)]) (v := v) ⟨hs, hw, fun q hq => by rw [List.mem_singleton.mp hq]; exact hjw⟩ hi hc
  cases e.symm.trans e2
  refine h2.2.2 (j, w) (List.mem_cons_of_mem _ (List.mem_filter.mpr ⟨List.mem_singleton.mpr rfl, ?_⟩))
  simp [hj, hcw]
theorem ab_L.put {ad : Nat → Nat} {ls ls' : Array Slot} {lv : List (Option ab_V)} {i : Nat} {v : ab_V} (h : ab_L ad ls lv) (hc : (ab_val ad v).category = 1) (h1 : ls'[i]? = some (.val (ab_val ad v))) (h2 : ∀ (j : Nat) (w : Value), j ≠ i → ls[j]? = some (.val w) → w.category = 1 → ls'[j]? = some (.val w)) : ab_L ad ls' (lv.set i (some v)) := by
  intro j w hj
  rw [List.getElem?_set] at hj
  by_cases hij : i = j
  · subst hij
    by_cases hl : i < lv.length
    · simp [hl] at hj
      subst hj
      exact ⟨h1, hc⟩
    · simp [hl] at hj
  · rw [if_neg hij] at hj
    obtain ⟨g1, g2⟩ := h j w hj
    exact ⟨h2 j _ (fun e => hij e.symm) g1 g2, g2⟩
theorem ab_at.kept {K : ab_K} {ad : Nat → Nat} {F : ab_Fn} {A : ab_An} {i : Nat} {sh : ab_Sh} {H H1 : Heap} (h : ab_at K ad F A i sh H) (hq : H1[ad i]? = H[ad i]?) : ab_at K ad F A i sh H1 := by
  match sh, h with
  | .inl (ty, n), h => exact hq.trans h
  | .inr (.inl (n, c)), h => exact hq.trans h
  | .inr (.inr (ci, sl)), ⟨r, h1, h2⟩ => exact ⟨r, h1, h2.kept hq⟩
theorem ab_at.lt {K : ab_K} {ad : Nat → Nat} {F : ab_Fn} {A : ab_An} {i : Nat} {sh : ab_Sh} {H : Heap} (h : ab_at K ad F A i sh H) : ad i < H.size := by
  match sh, h with
  | .inl (ty, n), h => exact (Array.getElem?_eq_some_iff.mp h).1
  | .inr (.inl (n, c)), h => exact (Array.getElem?_eq_some_iff.mp h).1
  | .inr (.inr (ci, sl)), ⟨r, h1, ce, h2, _⟩ => exact (Array.getElem?_eq_some_iff.mp h2).1
theorem ab_at.congr {K : ab_K} {ad : Nat → Nat} {F F' : ab_Fn} {A A' : ab_An} {i : Nat} {sh : ab_Sh} {H : Heap} (h : ab_at K ad F A i sh H) (hF : F' i = F i) (hA : A' i = A i) : ab_at K ad F' A' i sh H := by
  match sh, h with
  | .inl (ty, n), h => show H[ad i]? = _; rw [hA]; exact h
  | .inr (.inl (n, c)), h => exact h
  | .inr (.inr (ci, sl)), ⟨r, h1, h2⟩ => exact ⟨r, h1, by rw [hF]; exact h2⟩
/-- one cell of the world changes -/
theorem ab_P.set {K : ab_K} {ad : Nat → Nat} {S S' : ab_St} {F F' : ab_Fn} {A A' : ab_An} {H H1 : Heap} {i : Nat} {sh : ab_Sh} (h : ab_P K ad S F A H) (hi : S i ≠ none) (hS : S' = upS S i sh) (hF : ∀ j, j ≠ i → F' j = F j) (hA : ∀ j, j ≠ i → A' j = A j) (he : ab_at K ad F' A' i sh H1) (oq : ∀ q : Nat, q ≠ ad i → H1[q]? = H[q]?) (hm : ab_men sh (ab_liv S)) : ab_P K ad S' F' A' H1 := by
  subst hS
  have hne : ∀ j, upS S i sh j ≠ none → S j ≠ none := fun j hj => by
    by_cases e : j = i
    · rw [e]; exact hi
    · simpa [upS, e] using hj
  have hlv : ∀ k, ab_liv S k → ab_liv (upS S i sh) k := fun k hk => by
    rcases hk with hk | hk
    · refine Or.inl ?_
      by_cases e : k = i
      · subst e; simp [upS]
      · simpa [upS, e] using hk
    · exact Or.inr hk
  refine ⟨fun j sh' hj => ?_, fun a b ha hb => h.2.1 a b (hne a ha) (hne b hb), fun j sh' hj => ?_⟩
  case refine_2 =>
    by_cases e : j = i
    · subst e
      simp [upS] at hj
      subst hj
      exact hm.mono hlv
    · simp [upS, e] at hj
      exact (h.2.2 j sh' hj).mono hlv
  by_cases e : j = i
  · subst e
    simp [upS] at hj
    subst hj
    exact he
  · simp [upS, e] at hj
    exact ((h.1 j sh' hj).kept (oq _ fun q => e (h.2.1 j i (by rw [hj]; simp) hi q))).congr (hF j e) (hA j e)
theorem upS_self {S : ab_St} {i : Nat} {sh : ab_Sh} (h : S i = some sh) : upS S i sh = S := by
  funext j
  by_cases e : j = i
  · subst e; simp [upS, h]
  · simp [upS, e]
theorem ab_ext.trans {S S' : ab_St} {a b c : Nat → Nat} (h1 : ab_ext S a b) (hd : ab_dom S S') (h2 : ab_ext S' b c) : ab_ext S a c := ⟨fun i hi => (h2.1 i (hd i hi)).trans (h1.1 i hi), fun i hi => (h2.2 i hi).trans (h1.2 i hi)⟩
theorem ab_dom.trans {S S' S'' : ab_St} (h1 : ab_dom S S') (h2 : ab_dom S' S'') : ab_dom S S'' := fun i hi => h2 i (h1 i hi)
theorem ab_A.mono {ad0 ad : Nat → Nat} {S : ab_St} {sz sz' : Nat} {Am : Nat → Prop} (h1 : ∀ i, S i ≠ none → Am (ad i)) (h2 : ∀ q, sz ≤ q → Am q) (h3 : sz ≤ sz') : ∀ q, ab_A ad S sz' q → Am q := by
  intro q h
  rcases h with ⟨i, hi, rfl⟩ | h
  · exact h1 i hi
  · exact h2 q (Nat.le_trans h3 h)
/-- from a contract's start to its body -/
theorem ab_enter {l : Launch} {y : MethodName} {cc : ByteArray} {nL : Nat} {ret : Option FieldType} {rm : Room} {mc ms : Nat} {vs : List ab_V} {S : ab_St} {F : ab_Fn} {A : ab_An} {P : Option ab_V → ab_St → ab_Fn → ab_An → Prop}
    (hy : plainName y.cls = true) (hcat : ∀ (ad : Nat → Nat) (v : ab_V), v ∈ vs → (ab_val ad v).category = 1) (hlen : vs.length ≤ nL)
    (body : ∀ E : ab_E, ab_C E cc nL y rm → ab_Ret E ret P mc ms → ab_J E nL 0 0 S F A 0 (vs.map some ++ List.replicate (nL - vs.length) none) []) : ab_Met l y cc nL ret rm mc ms vs S F A P := by
  intro K ad sz
  refine Met.ofW (cc := cc) (maxL := nL) (ret := ret) hy rfl ?_
  intro p e s m args below meth c s₁ B hml hv
  obtain ⟨rfl, hsz, hP, hK, hZ⟩ := hv
  subst hsz
  have hts := atoms_spec (ws := Cond.code y cc nL ret :: ab_tb) B.pre
  have hcs : ∀ vs : List ab_V, (∀ v ∈ vs, (ab_val ad v).category = 1) → lg_sl (vs.map (ab_val ad)) = vs.map (fun v => Slot.val (ab_val ad v)) := by
    intro vs
    induction vs with
    | nil => intro _; rfl
    | cons v t ih =>
      intro h
      have h1 := h v List.mem_cons_self
      have h2 := ih (fun w hw => h w (List.mem_cons_of_mem _ hw))
      simp only [lg_sl, List.map_cons, List.flatMap_cons] at h2 ⊢
      rw [h2, if_neg (by omega)]
      rfl
  have hsl := hcs vs (hcat ad)
  have hl0 : (lg_sl (vs.map (ab_val ad))).length ≤ nL := by rw [hsl, List.length_map]; exact hlen
  have hl := lv_entry (vs.map (ab_val ad)) (n := nL) hl0
  have J := body (p, l, e, rm, s, m, (vs.map (ab_val ad)).toArray, below, meth, c, MQ below (ab_Post K ad S s.heap.size P) (vs.map (ab_val ad)).toArray s mc ms (ab_A ad S s.heap.size), K, ab_A ad S s.heap.size, ad, S)
    ⟨B.exec, B.bytes, hml, findClass_of_methodNamed B.named, (name_of_methodNamed B.named B.method).1, fun w hw => hts w (List.mem_cons_of_mem _ hw), hK, fun q h => Or.inr h, B.notSynchronized, hZ, rfl⟩ ⟨B.returns, rfl, rfl⟩
  rw [lg_entry_eq]
  refine J ad s.heap [] _ ⟨fun _ _ => rfl, fun _ _ => rfl⟩ (fun _ h => h) hl.1 hl.2.1 ?_ hP (fun i hi => Or.inl ⟨i, hi, rfl⟩) va_S.rf
  intro i v hi
  have hiv : i < vs.length ∧ vs[i]? = some v := by
    by_cases hlt : i < vs.length
    · rw [List.getElem?_append_left (by simpa using hlt), List.getElem?_map] at hi
      refine ⟨hlt, ?_⟩
      cases hx : vs[i]? with
      | none => rw [hx] at hi; cases hi
      | some w => rw [hx] at hi; cases hi; rfl
    · rw [List.getElem?_append_right (by simpa using Nat.not_lt.mp hlt)] at hi
      rw [List.getElem?_replicate] at hi
      split at hi <;> cases hi
  refine ⟨?_, hcat ad v (List.mem_of_getElem? hiv.2)⟩
  rw [hsl, List.getElem?_toArray, List.getElem?_append_left (by simpa using hiv.1), List.getElem?_map, hiv.2]
  rfl
