set_option maxHeartbeats 1000000 in
/-- a constructor with a text, of a class that passes it on by its own index ix (after the library's law for index 7) -/
theorem vy_ctor {p : Program} {l : Launch} {e : Env} {R : Room} {s : State} {m₀ : MethodId} {args : Array Value} {below : List Frame} {meth : Method} {c : Code} {W : State} {locs : List Loc} {cells slots : Nat}
    (X : Stand p l e R s m₀ args below meth c W locs cells slots) (hexec : p.tables.exec = Jvm.exec) (htr : e.platform.stackTraces = false) {own cls Y : String} {r : List String} {ic ix : Nat} {rx : ByteArray}
    (x0 : decode rx 0 = .ok (.aload_n 0, 1)) (x1 : decode rx 1 = .ok (.aload_n 1, 1)) (x2 : decode rx 2 = .ok (.invokespecial ix, 3)) (x5 : decode rx 5 = .ok (.return_, 1))
    (hown : s.vm.findClass own = some m₀.cls) (hcls : Bundle.fit cls = true) (hY : Bundle.fit Y = true) (hnames : ∀ n ∈ r, Bundle.fit n = true)
    (w0 : ∀ a ∈ Bundle.throwableAtoms, a.before args s = true) (w00 : ∀ a ∈ Bundle.throwableSAtoms, a.before args s = true) (w1 : ∀ a ∈ Bundle.passSAtoms cls Y ix rx, a.before args s = true) (w2 : ∀ a ∈ Bundle.chainSAtoms Y r, a.before args s = true)
    (t1 : (Cond.methodLink own ic (Bundle.initS cls)).before args s = true) (t2 : (Cond.instantiable cls 6).before args s = true) (t4 : (Cond.selects cls Bundle.tFill0 Bundle.tFill0).before args s = true) (t5 : (Cond.selects cls Bundle.tFill Bundle.tFill).before args s = true)
    (l1 : (Cond.lays cls Bundle.tN "cause" "Ljava/lang/Throwable;").before args s = true) (l2 : (Cond.lays cls Bundle.tN "stackTrace" Bundle.steD).before args s = true) (l3 : (Cond.lays cls Bundle.tN "suppressedExceptions" Bundle.listD).before args s = true) (l4 : (Cond.lays cls Bundle.tN "detailMessage" "Ljava/lang/String;").before args s = true)
    (u1 : (Cond.isRef (.static Bundle.tN "UNASSIGNED_STACK" Bundle.steD)).before args s = true) (u2 : (Cond.isRef (.static Bundle.tN "SUPPRESSED_SENTINEL" Bundle.listD)).before args s = true)
    (b1 : (Cond.fieldLink Bundle.tN 198 Bundle.tN "backtrace" "Ljava/lang/Object;").before args s = true) (b2 : (Cond.lays Bundle.tN Bundle.tN "backtrace" "Ljava/lang/Object;").before args s = true) (b3 : (Cond.lays cls Bundle.tN "backtrace" "Ljava/lang/Object;").before args s = true)
    (hlocs : ∀ x ∈ locs, ∀ cell, s.heap[x.base]? = some cell → cell.vm.isStatics = false)
    {a : Addr} {cX : ClassId} {kX : Class} (hfoundX : s.vm.findClass cls = some cX) (hkX : s.vm.classes[cX]? = some kX) (hcell : W.heap[a]? = some (freshCell cX kX)) (hnew : s.heap.size ≤ a)
    {msg : Value} (hmsg : msg.isRef = true)
    {g : JFrame} (hg : g.method = m₀) (hsize : g.locals.size = c.maxLocals) (hlocked : g.locked = none) (hentered : g.entered = []) {rest : List Value} (hstack : g.stack = msg :: .ref a :: .ref a :: rest)
    (hd6 : decode c.code g.pc = .ok (.invokespecial ic, 3)) (hd9 : decode c.code (g.pc + 3) = .ok (.athrow, 1)) (hout : ∀ x ∈ c.exceptionTable.toList, covers x (g.pc + 3) = false)
    (hRframes : r.length + 4 < R.frames) (hRlocals : 2 * g.monitorRoom + ((Value.ref a :: rest).map fun v => v.category).sum + (13 * (r.length + 2) + 42) ≤ R.locals) (hlocks : meth.locks = false) :
    ∃ U : State, Steps p.tables e below (W.setTop g) U ∧ U.status = .running ∧ Ended U below (.threw a) ∧ s.WarmedH U.vm ∧ s.sameButNew ({ U with vm := s.vm } : State) locs cells slots ∧
      ∃ ce : Cell, U.heap[a]? = some ce ∧ ce.vm = .none ∧ s.vm.findClass cls = some ce.cls := by
  have howns : e.platform.frameOwnsMonitors = true := by rw [X.admits.platform]
  have hfin : e.platform.finalization = false := by rw [X.admits.platform]
  have hpl : e.platform.magicAccessors = ({} : Platform).magicAccessors := by rw [X.admits.platform]
  obtain ⟨T, Z0, L, -, Y9⟩ := ThrowableC.of_atoms (args := args) howns hfin hpl w0
  obtain ⟨Z, M, LZ, LM, hnZ⟩ := Init0T.ofS_atoms (args := args) hpl L Y9 w00
  obtain ⟨P1, L1, hP1m, hs1⟩ := PassC.ofS_atoms (args := args) (s := s) hpl (X := cls) (Y := Y) (Bundle.fit_spec hcls).1 (Bundle.fit_spec hY).2 x0 x1 x2 x5 w1
  obtain ⟨P2, Ps, hlen, L2, hL, hP2m, hlink2, hlink⟩ := Bundle.chainS (args := args) hpl hnZ r Y hY hnames w2
  have hsup : P1.sup = P2.m := Option.some.inj (hs1.symm.trans hP2m)
  have hfound : s.vm.findClass cls = some P1.m.cls := findClass_of_methodNamed hP1m
  cases Option.some.inj (hfoundX.symm.trans hfound)
  obtain ⟨c1, kX', hc1, hk, hord, -, -, hn6⟩ := Cond.instantiable_spec t2
  cases Option.some.inj (hc1.symm.trans hfound)
  cases Option.some.inj (hkX.symm.trans hk)
  have hsel0 : selectMethod e.platform s.vm P1.m.cls T.fill0 = .method T.fill0 := by
    obtain ⟨c2, r2, m2, q1, q2, q3, q4, -⟩ := Cond.selects_spec t4
    cases Option.some.inj (q1.symm.trans hfound)
    cases Option.some.inj (q2.symm.trans (State.methodFound?_of_named Y9.fill0 (by decide)))
    cases Option.some.inj (q3.symm.trans Y9.fill0)
    rw [Launch.admits_selectMethod X.admits]; exact q4
  have hselF : selectMethod e.platform s.vm P1.m.cls T.fill = .method T.fill := by
    obtain ⟨c2, r2, m2, q1, q2, q3, q4, -⟩ := Cond.selects_spec t5
    cases Option.some.inj (q1.symm.trans hfound)
    cases Option.some.inj (q2.symm.trans (State.methodFound?_of_named Y9.fill (by decide)))
    cases Option.some.inj (q3.symm.trans Y9.fill)
    rw [Launch.admits_selectMethod X.admits]; exact q4
  obtain ⟨cellS0, hcS0, hiss⟩ := Y9.statics
  obtain ⟨u0, hu0⟩ := Cond.staticRefV Y9.unassigned L.unassignedStatic L.statics hcS0 hiss u1
  obtain ⟨sen, hsen⟩ := Cond.staticRefV Y9.sentinel L.sentinelStatic L.statics hcS0 hiss u2
  obtain ⟨ci198, i198, fB, hk198, hg198, ha198, hsB, -, hnB, htB, hffB⟩ := Cond.ownField (t := .object "java/lang/Object") Y9.found L.cls (by decide +kernel) b1 b2 e.platform hpl
  obtain ⟨cellS, hcS', heS, -, hkeep⟩ := X.same.2.2.2.2.2 T.aS cellS0 hcS0
  have hcellS : W.heap[T.aS]? = some cellS := hcS'
  have hout' : ∀ i, (⟨T.aS, i⟩ : Loc) ∉ locs := fun i hmem => by
    have := hlocs _ hmem cellS0 hcS0
    rw [hiss] at this; cases this
  have hknownS : cellS.vm ≠ .unknown := by
    rw [heS]; intro hu
    rw [show cellS0.vm = .unknown from hu] at hiss
    cases hiss
  have hneS : T.aS ≠ a := Nat.ne_of_lt (Nat.lt_of_lt_of_le (Array.getElem?_eq_some_iff.mp hcS0).1 hnew)
  obtain ⟨iM, hffM⟩ := Y9.msg
  obtain ⟨tyC, dC, hdC, hdnC⟩ := Cond.laysAt hfound hk Y9.cause l1
  obtain ⟨tyS, dS, hdS, hdnS⟩ := Cond.laysAt hfound hk Y9.stack l2
  obtain ⟨tyP, dP, hdP, hdnP⟩ := Cond.laysAt hfound hk Y9.supp l3
  obtain ⟨tyM, dM, hdM, hdnM⟩ := Cond.laysAt hfound hk hffM l4
  obtain ⟨tyB, dB, hdB, hdnB⟩ := Cond.laysAt hfound hk hffB b3
  have bC := Cond.laysApart hdB hdC hdnB hdnC (by rw [hnB, Y9.causeName]; decide)
  have bS := Cond.laysApart hdB hdS hdnB hdnS (by rw [hnB, Y9.stackName]; decide)
  have bP := Cond.laysApart hdB hdP hdnB hdnP (by rw [hnB, Y9.suppName]; decide)
  have hskip : SkipFacts T e.platform s (fun u => u) u0 ((preparedCellV T.toThrowableT (freshCell P1.m.cls kX) a u0 sen).withEntry W.cur) :=
    ⟨{ ci198 := ci198, i198 := i198, fBack := fB }, ⟨hk198, hg198, ha198, hsB⟩, by
      have := fresh_default (c := P1.m.cls) tyB
      rw [htB] at this
      simpa [preparedCellV, Cell.setSlot, Cell.withEntry, Array.getElem?_setIfInBounds, bC, bS, bP, bC.symm, bS.symm, bP.symm, defaultValue] using this, fun _ _ => rfl⟩
  obtain ⟨tm, methC, cdC, kC, vm₁, hnC, -, -, -, -, -, -, -, hW₁, st1⟩ := Steps.initColdS (tb := p.tables) (e := e) (below := below) (s := s) (U := W) X.here hexec X.warmed hpl hown (t := Bundle.initS cls) rfl rfl (Bundle.fit_spec hcls).2
    t1 (w1 (.instanceMethod (Bundle.initS cls)) (by simp [Bundle.passSAtoms])) (bytes := rx) (maxL := 2) (w1 (.code (Bundle.initS cls) rx 2 none) (by simp [Bundle.passSAtoms]))
    (f := g) hg (a := a) (msg := msg) (rest := .ref a :: rest) hstack hd6
  cases Option.some.inj (hnC.symm.trans hP1m)
  have X₁ := X.noted hW₁
  obtain ⟨vm₂, X₂, st2⟩ := X₁.ctorMessageOffV hexec (g := { g with stack := .ref a :: rest }) hg hsize T L Z LZ M LM (P1 :: P2 :: Ps)
    (fun P hP => by
      rcases List.mem_cons.mp hP with rfl | hP
      · exact L1
      · rcases List.mem_cons.mp hP with rfl | hP
        · exact L2
        · exact hL P hP) ⟨hsup, hlink2, hlink⟩ (u0 := u0) (sen := sen) (self := a) hmsg (cell := freshCell P1.m.cls kX) (cellS := cellS)
    hcell (fun _ => by simp) (by simp) rfl rfl hsel0 hselF hcellS hneS hknownS (by rw [hkeep _ (hout' _)]; exact hu0) (by rw [hkeep _ (hout' _)]; exact hsen)
    (Takes.of_laid hk hord tyC (by rw [Y9.causeType]; rfl)) (Takes.of_laid hk hord tyS (by rw [Y9.stackType]; exact fits_refV_array _ u0)) (Takes.of_laid hk hord tyP (by rw [Y9.suppType]; exact fits_refV_object _ sen))
    (Takes.of_laid hk hord tyM (by rw [Y9.msgType]; exact fits_refV_object _ ⟨msg, hmsg⟩)) Y9.objLocals hskip htr [] hd6
    (by simp only [List.length_cons, hlen]; omega) (by simp only [List.length_cons, hlen]; exact hRlocals)
  obtain ⟨hwalk, hrun, hended, hWU, hsame⟩ := X₂.athrowLeaves hexec (g := { g with stack := .ref a :: rest, pc := g.pc + 3 }) hg hlocked hentered hout (a := a) (rest := rest) rfl hd9
  have hlt : a < ((W.setVm vm₁).setVm vm₂).heap.size := (Array.getElem?_eq_some_iff.mp hcell).1
  have hU := heapAt_setCell_self (s := (W.setVm vm₁).setVm vm₂) (plainBareV T.toThrowableT (freshCell P1.m.cls kX) a u0 sen msg) hlt
  refine ⟨_, st1 _ (fun acts => ?_), hrun, hended, hWU, hsame.weaken (fun y hy hlt' => ?_) (Nat.le_refl _) (Nat.le_refl _), _, hU, rfl, hfound⟩
  · rw [doInvoke_state]
    exact st2 _ hwalk
  · rcases List.mem_append.mp hy with h1 | h1
    · exact h1
    · exfalso
      have hb : y.base = a := by
        simp only [List.mem_cons, List.not_mem_nil, or_false] at h1
        rcases h1 with rfl | rfl | rfl | rfl | rfl <;> rfl
      rw [hb] at hlt'
      exact Nat.not_lt.mpr hnew hlt'
theorem nse_A : ∀ w ∈ (Bundle.throwableAtoms.filter vx_no), w ∈ lw_tbl ∧ vy_md w = true := by
  have e : (Bundle.throwableAtoms.filter vx_no) = vy_at [(1, 14), (3, 45), (3, 54), (3, 60), (3, 63), (3, 65), (3, 46), (3, 47), (1, 38), (1, 39), (3, 48), (3, 53), (3, 61), (3, 81), (3, 35), (3, 82), (3, 37), (3, 83), (3, 39), (3, 49), (3, 51), (3, 41)] := by decide +kernel
  rw [e]
  intro w hw
  refine ⟨vy_mem hw, (List.all_eq_true (p := vy_md)).mp ?_ w hw⟩
  decide +kernel
theorem nse_S : ∀ w ∈ (Bundle.throwableSAtoms), w ∈ lw_tbl ∧ vy_md w = true := by
  have e : (Bundle.throwableSAtoms) = vy_at [(3, 77), (3, 78), (3, 80), (3, 41)] := by decide +kernel
  rw [e]
  intro w hw
  refine ⟨vy_mem hw, (List.all_eq_true (p := vy_md)).mp ?_ w hw⟩
  decide +kernel
def nse_b : ByteArray := ⟨#[0x2a, 0x2b, 0xb7, 0x00, 0x0d, 0xb1]⟩
theorem nse_P : ∀ w ∈ (Bundle.passSAtoms "java/util/NoSuchElementException" "java/lang/RuntimeException" 13 nse_b), w ∈ lw_tbl ∧ vy_md w = true := by
  have e : (Bundle.passSAtoms "java/util/NoSuchElementException" "java/lang/RuntimeException" 13 nse_b) = vy_at [(4, 44), (4, 45), (4, 46), (3, 71), (3, 27)] := by decide +kernel
  rw [e]
  intro w hw
  refine ⟨vy_mem hw, (List.all_eq_true (p := vy_md)).mp ?_ w hw⟩
  decide +kernel
theorem nse_C : ∀ w ∈ (Bundle.chainSAtoms "java/lang/RuntimeException" ["java/lang/Exception"]), w ∈ lw_tbl ∧ vy_md w = true := by
  have e : (Bundle.chainSAtoms "java/lang/RuntimeException" ["java/lang/Exception"]) = vy_at [(3, 71), (3, 72), (3, 73), (3, 74), (3, 29), (3, 74), (3, 75), (3, 76), (3, 77), (3, 31)] := by decide +kernel
  rw [e]
  intro w hw
  refine ⟨vy_mem hw, (List.all_eq_true (p := vy_md)).mp ?_ w hw⟩
  decide +kernel
theorem j_throwSN {E : ab_E} {cc : ByteArray} {nL : Nat} {y : MethodName} {rm : Room} {k n : Nat} {S : ab_St} {F : ab_Fn} {A : ab_An} {pc : Nat} {lv : List (Option ab_V)} {st : List ab_V} (C : ab_C E cc nL y rm) (hy9 : y.cls = "BergPatrol") {P : String → ab_St → ab_Fn → ab_An → Prop} {mc ms : Nat} (RX : ab_RetX E P mc ms) {text : String} {is j : Nat}
    (hj : j < 20) (htm : ab_tm j = .string y.cls is) (hsr : Cond.stringRef y.cls is text ∈ lw_tbl)
    (hrm : 5 < rm.frames ∧ k + 1 ≤ rm.cells ∧ n + 6 ≤ rm.slots) (hlo : ∀ ad, ((st.map (ab_val ad)).map fun v => v.category).sum + 82 ≤ rm.locals) (hc : k + 1 ≤ mc ∧ n + 6 ≤ ms)
    (d0 : decode cc pc = .ok (.new 186, 3)) (d3 : decode cc (pc + 3) = .ok (.dup, 1)) (d4 : decode cc (pc + 4) = .ok (.ldc is, 2)) (d6 : decode cc (pc + 6) = .ok (.invokespecial 190, 3)) (d9 : decode cc (pc + 9) = .ok (.athrow, 1))
    (hP : P "java/util/NoSuchElementException" S F A) : ab_J E nL k n S F A pc lv st := by
  obtain ⟨p, l, e, R, s, m, args, below, meth, c, Q, K, Am, ad0, S0⟩ := E
  obtain ⟨hx, hb, hml, hown, hnm, hts, hK, hA, hlk, hZ, hR⟩ := C
  obtain ⟨htb, hQ, hAm⟩ := RX
  intro ad H locs ls g1 g2 g3 g4 g5 g6 g7 g8
  subst hR
  subst hQ
  rw [hy9] at hown htm hsr
  have hstr := ab_ref hZ hj htm hsr
  intro T hT X
  have htr : e.platform.stackTraces = false := (show e.platform.stackTraces = l.stackTraces by rw [X.admits.platform]).trans hZ.1
  have Y := vx_rebase X (R' := { frames := R.frames, locals := R.locals, cells := 1, slots := 6 }) (Nat.le_refl _) (Nat.le_refl _) hrm.2.1 hrm.2.2
  obtain ⟨s', hA9⟩ : ∃ z, z = (T.setVm s.vm).setFrames (.invoking m args :: below) := ⟨_, rfl⟩
  rw [← hA9] at Y
  have hvm : s'.vm = s.vm := by rw [hA9]; rfl
  have hhp : s'.heap = H := by rw [hA9]; exact hT
  have hW0 : s.WarmedH s'.vm := by rw [hvm]; exact State.WarmedH.refl s
  have hw9 : ∀ {w : Cond}, w ∈ lw_tbl → vy_md w = true → w.before args s' = true := fun h1 h2 => vx_ot_at hW0 hvm.symm (vy_ot h2) (vy_mv (args := args) hZ h1 h2)
  have hU' : vx_Zq Bundle.tN "UNASSIGNED_STACK" Bundle.steD Am s' s'.heap := by rw [hhp]; exact vx_Zq.moved hW0.alike ((vy_U hZ).kept g8.2.1)
  have hN' : vx_Zq Bundle.tN "SUPPRESSED_SENTINEL" Bundle.listD Am s' s'.heap := by rw [hhp]; exact vx_Zq.moved hW0.alike ((vy_N hZ).kept g8.2.1)
  have hown' : s'.vm.findClass "BergPatrol" = some m.cls := by rw [hvm]; exact hown
  obtain ⟨vm₁, cX, kX, hfX, hkX, -, -, X₁, st1⟩ := Y.newCold hx (own := "BergPatrol") (C := "java/util/NoSuchElementException") (index := 186) (n := 6) hown' (hw9 (lw_t4 (List.mem_of_getElem? (i := 33) rfl)) rfl) (hw9 (lw_t4 (List.mem_of_getElem? (i := 34) rfl)) rfl) (hw9 (lw_t1 (List.mem_of_getElem? (i := 27) rfl)) rfl)
    (g := F0 m pc ls (st.map (ab_val ad))) rfl (by rw [hb]; exact d0) (Nat.le_refl _) (Nat.le_refl _)
  generalize hT1 : (T.setVm vm₁).pushCell { cls := cX, slots := kX.instanceTypes.map defaultValue, vm := .none } = T1 at X₁ st1
  have hcat : (Value.ref T.heap.size).category = 1 := rfl
  have hcellA : T1.heap[T.heap.size]? = some (freshCell cX kX) := by rw [← hT1]; exact State.heap_pushCell_size _ _
  have d3' : decode c.code (pc + 3) = .ok (.dup, 1) := by rw [hb]; exact d3
  have d4' : decode c.code (pc + 4) = .ok (.ldc is, 2) := by rw [hb]; exact d4
  have hstr' : vk_R "BergPatrol" is text (ad0 (1000000 + j)) s' := vk_R.warm hW0 hstr
  have hlo9 := hlo ad
  obtain ⟨U, hsteps, hrun, hend, hW, hsame, ce, hce, hcv, hcl9⟩ := vy_ctor X₁ hx htr (own := "BergPatrol") (cls := "java/util/NoSuchElementException") (Y := "java/lang/RuntimeException") (r := ["java/lang/Exception"]) (ic := 190) (ix := 13) (rx := nse_b) (by decide +kernel) (by decide +kernel) (by decide +kernel) (by decide +kernel) hown' (by decide +kernel) (by decide +kernel) (by decide +kernel)
    (vx_own (fun w hw => hw9 (nse_A w hw).1 (nse_A w hw).2) (vx_isRefq hU'.1) (vx_isRefq hN'.1) hU'.2.word hN'.2.word) (fun w hw => hw9 (nse_S w hw).1 (nse_S w hw).2) (fun w hw => hw9 (nse_P w hw).1 (nse_P w hw).2) (fun w hw => hw9 (nse_C w hw).1 (nse_C w hw).2)
    (hw9 (lw_t4 (List.mem_of_getElem? (i := 43) rfl)) rfl) (hw9 (lw_t4 (List.mem_of_getElem? (i := 34) rfl)) rfl) (hw9 (lw_t4 (List.mem_of_getElem? (i := 36) rfl)) rfl) (hw9 (lw_t3 (List.mem_of_getElem? (i := 59) rfl)) rfl) (hw9 (lw_t4 (List.mem_of_getElem? (i := 37) rfl)) rfl) (hw9 (lw_t4 (List.mem_of_getElem? (i := 38) rfl)) rfl) (hw9 (lw_t4 (List.mem_of_getElem? (i := 39) rfl)) rfl) (hw9 (lw_t4 (List.mem_of_getElem? (i := 40) rfl)) rfl) (vx_isRefq hU'.1) (vx_isRefq hN'.1) (hw9 (lw_t3 (List.mem_of_getElem? (i := 44) rfl)) rfl) (hw9 (lw_t3 (List.mem_of_getElem? (i := 43) rfl)) rfl) (hw9 (lw_t4 (List.mem_of_getElem? (i := 41) rfl)) rfl) (fun x hx => nomatch hx) hfX hkX hcellA (by rw [hhp, hT]; exact Nat.le_refl _) (msg := .ref (ad0 (1000000 + j))) rfl
    (g := { method := m, pc := pc + 6, locals := ls, stack := .ref (ad0 (1000000 + j)) :: .ref T.heap.size :: .ref T.heap.size :: st.map (ab_val ad), locked := none }) rfl (g3.trans hml.symm) rfl rfl (rest := st.map (ab_val ad)) rfl
    (by rw [hb]; exact d6) (by rw [hb]; exact d9) (fun x hx => (htb x hx).elim) hrm.1 (by show 2 * 0 + _ + (13 * 3 + 42) ≤ R.locals; simp only [List.map_cons, List.sum_cons, hcat]; omega) hlk
  obtain ⟨f1, f2⟩ := vx_frame hsame
  rw [hhp] at f1 f2
  have hWs : s.WarmedH U.vm := State.WarmedH.trans hW0 hW
  have hcl : s.vm.findClass "java/util/NoSuchElementException" = some ce.cls := by
    rw [hvm] at hcl9
    exact hcl9
  have hall : s.sameButNew ({ U with vm := s.vm } : State) locs mc ms := by
    subst hA9
    obtain ⟨e1, e2⟩ := hsame
    rw [State.setFrames_setFrames] at e1
    have h2 : (T.setVm s.vm).sameButNew ({ U with vm := s.vm } : State) [] (0 + 1) (0 + 6) := ⟨e1, e2⟩
    have h3 := X.same.trans h2
    rw [List.append_nil] at h3
    exact h3.mono hc.1 hc.2
  have hq : ∀ q : Nat, q < H.size → U.heap[q]? = H[q]? := fun q hq => f2 q hq (fun z hz => nomatch hz)
  refine ⟨U, ?_, .threw T.heap.size, hrun, hend, Or.inr ⟨T.heap.size, rfl, "java/util/NoSuchElementException", ce, locs, ⟨⟨ad, S, F, A, hP, g1, g2, g6.grow hq, fun i hi => by rw [← hAm]; exact g7 i hi, va_K.moved hWs.alike hK⟩, Nat.le_trans g8.1 f1, fun q h1 h2 => ?_⟩, hce, hcv, hcl, hWs, hall, fun z hz => by rw [← hAm]; exact g8.2.2 z hz⟩⟩
  · refine st1 _ ?_
    show Steps p.tables e below (T1.setTop { method := m, pc := pc + 3, locals := ls, stack := .ref T.heap.size :: st.map (ab_val ad), locked := none }) _
    jvm_step X₁.here [X₁.here.top, hx, d3', Value.category]
    exact X₁.ldcString hx (own := "BergPatrol") (text := text) (index := is) (a := ad0 (1000000 + j)) hown' hstr'.1 hstr'.2
      (g := { method := m, pc := pc + 4, locals := ls, stack := .ref T.heap.size :: .ref T.heap.size :: st.map (ab_val ad), locked := none }) rfl d4' _ hsteps
  · rw [hq q (Nat.lt_of_lt_of_le h1 g8.1)]
    exact g8.2.1 q h1 (by rw [hAm]; exact h2)
