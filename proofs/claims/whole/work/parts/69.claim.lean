theorem nx_8 {s0 : State} {b0 : Nat} (h : ab_S0 s0 b0) : ((Jvm.Cond.exactly (Jvm.Term.string "BergPatrol" (277 : Nat)) "java/lang/String") : Cond).before #[Value.ref b0] s0 = true := (ba2 (ba1 (ba2 (ba2 (ba2 (ba1 (ba2 (ba1 (ba1 (ba2 h.2))))))))))

theorem nx_9 {s0 : State} {b0 : Nat} (h : ab_S0 s0 b0) : ((Jvm.Cond.exactly (Jvm.Term.string "BergPatrol" (94 : Nat)) "java/lang/String") : Cond).before #[Value.ref b0] s0 = true := (ba2 (ba2 (ba2 (ba1 (ba2 (ba1 (ba2 (ba2 (ba1 (ba1 (ba2 h.2)))))))))))

theorem nx_10 {s0 : State} {b0 : Nat} (h : ab_S0 s0 b0) : ((Jvm.Cond.exactly (Jvm.Term.string "BergPatrol" (113 : Nat)) "java/lang/String") : Cond).before #[Value.ref b0] s0 = true := (ba2 (ba2 (ba2 (ba1 (ba1 (ba1 (ba1 (ba1 (ba2 (ba1 (ba2 h.2)))))))))))

theorem nx_11 {s0 : State} {b0 : Nat} (h : ab_S0 s0 b0) : ((Jvm.Cond.exactly (Jvm.Term.string "BergPatrol" (120 : Nat)) "java/lang/String") : Cond).before #[Value.ref b0] s0 = true := (ba2 (ba2 (ba2 (ba2 (ba1 (ba2 (ba1 (ba1 (ba2 (ba1 (ba2 h.2)))))))))))

theorem nx_12 {s0 : State} {b0 : Nat} (h : ab_S0 s0 b0) : ((Jvm.Cond.exactly (Jvm.Term.string "BergPatrol" (132 : Nat)) "java/lang/String") : Cond).before #[Value.ref b0] s0 = true := (ba1 (ba2 (ba2 (ba2 (ba1 (ba2 (ba1 (ba2 (ba1 (ba2 h.2))))))))))

theorem nx_13 {s0 : State} {b0 : Nat} (h : ab_S0 s0 b0) : ((Jvm.Cond.exactly (Jvm.Term.string "BergPatrol" (150 : Nat)) "java/lang/String") : Cond).before #[Value.ref b0] s0 = true := (ba1 (ba2 (ba2 (ba2 (ba2 (ba2 (ba2 (ba1 (ba2 (ba1 (ba2 h.2)))))))))))

theorem nx_14 {s0 : State} {b0 : Nat} (h : ab_S0 s0 b0) : ((Jvm.Cond.exactly (Jvm.Term.string "BergPatrol" (156 : Nat)) "java/lang/String") : Cond).before #[Value.ref b0] s0 = true := (ba1 (ba1 (ba1 (ba2 (ba2 (ba1 (ba2 (ba2 (ba1 (ba2 h.2))))))))))

theorem nx_15 {s0 : State} {b0 : Nat} (h : ab_S0 s0 b0) : ((Jvm.Cond.exactly (Jvm.Term.string "BergPatrol" (280 : Nat)) "java/lang/String") : Cond).before #[Value.ref b0] s0 = true := (ba1 (ba2 (ba2 (ba2 (ba1 (ba2 (ba2 (ba2 (ba1 (ba2 h.2))))))))))

theorem nx_16 {s0 : State} {b0 : Nat} (h : ab_S0 s0 b0) : ((Jvm.Cond.exactly (Jvm.Term.string "BergPatrol" (188 : Nat)) "java/lang/String") : Cond).before #[Value.ref b0] s0 = true := (ba2 (ba2 (ba2 (ba2 (ba2 (ba2 (ba2 (ba2 (ba2 (ba1 (ba2 h.2)))))))))))

theorem nx_17 {s0 : State} {b0 : Nat} (h : ab_S0 s0 b0) : ((Jvm.Cond.exactly (Jvm.Term.string "BergPatrol" (218 : Nat)) "java/lang/String") : Cond).before #[Value.ref b0] s0 = true := (ba2 (ba1 (ba2 (ba2 (ba2 (ba2 (ba1 (ba1 (ba2 (ba2 h.2))))))))))

theorem nx_18 {s0 : State} {b0 : Nat} (h : ab_S0 s0 b0) : ((Jvm.Cond.exactly (Jvm.Term.string "BergPatrol" (220 : Nat)) "java/lang/String") : Cond).before #[Value.ref b0] s0 = true := (ba1 (ba2 (ba2 (ba2 (ba1 (ba2 (ba1 (ba2 (ba1 (ba2 (ba2 h.2)))))))))))

theorem nx_19 {s0 : State} {b0 : Nat} (h : ab_S0 s0 b0) : ((Jvm.Cond.exactly (Jvm.Term.string "BergPatrol" (282 : Nat)) "java/lang/String") : Cond).before #[Value.ref b0] s0 = true := (ba1 (ba1 (ba1 (ba1 (ba2 (ba2 (ba2 (ba1 (ba2 (ba2 h.2))))))))))

theorem ny_0 {s0 : State} {b0 : Nat} (h : ab_S0 s0 b0) : ((Jvm.Cond.arrayOf (Jvm.Term.static "BergPatrol" "ROUND_X" "[I") Jvm.ClassFile.FieldType.int) : Cond).before #[Value.ref b0] s0 = true := (ba2 (ba2 (ba2 (ba2 (ba1 (ba1 (ba1 (ba1 (ba1 (ba1 (ba2 h.2)))))))))))

theorem ny_1 {s0 : State} {b0 : Nat} (h : ab_S0 s0 b0) : ((Jvm.Cond.arrayOf (Jvm.Term.static "BergPatrol" "ROUND_Y" "[I") Jvm.ClassFile.FieldType.int) : Cond).before #[Value.ref b0] s0 = true := (ba1 (ba1 (ba1 (ba1 (ba2 (ba1 (ba1 (ba1 (ba1 (ba2 h.2))))))))))

theorem ny_2 {s0 : State} {b0 : Nat} (h : ab_S0 s0 b0) : ((Jvm.Cond.arrayOf (Jvm.Term.static "java/util/ArrayList" "DEFAULTCAPACITY_EMPTY_ELEMENTDATA" "[Ljava/lang/Object;") (Jvm.ClassFile.FieldType.object "java/lang/Object")) : Cond).before #[Value.ref b0] s0 = true := (ba1 (ba2 (ba2 (ba1 (ba1 (ba1 (ba1 (ba1 (ba1 (ba1 (ba2 h.2)))))))))))

theorem ny_3 {s0 : State} {b0 : Nat} (h : ab_S0 s0 b0) : ((Jvm.Cond.isRef (Jvm.Term.mirror "[Ljava/lang/Object;")) : Cond).before #[Value.ref b0] s0 = true := (ba1 (ba1 (ba2 (ba2 (ba2 (ba1 (ba2 (ba1 (ba1 (ba2 h.2))))))))))

theorem ex_ref {args : Array Value} {s : State} {t : Term} {C : String} (h : (Cond.exactly t C).before args s = true) : ∃ a, t.eval args s none [] s = some (.ref a) := by
  obtain ⟨a, c, cell, k, h1, -⟩ := Cond.exactly_spec h
  exact ⟨a, h1⟩
theorem ar_ref {args : Array Value} {s : State} {t : Term} {ty : FieldType} (h : (Cond.arrayOf t ty).before args s = true) : ∃ a, t.eval args s none [] s = some (.ref a) := by
  simp only [Cond.before, Cond.holds, Cond.value] at h
  cases e : t.eval args s none [] s with
  | none => rw [e] at h; split at h <;> simp at h
  | some v =>
    cases v with
    | ref a => exact ⟨a, rfl⟩
    | _ => rw [e] at h; split at h <;> simp at h
theorem mi_ref {args : Array Value} {s : State} {C : String} (h : (Cond.isRef (.mirror C)).before args s = true) : ∃ a, (Term.mirror C).eval args s none [] s = some (.ref a) := by
  simp only [Cond.before, Cond.holds, Cond.value] at h
  cases e : (Term.mirror C).eval args s none [] s with
  | none => rw [e] at h; simp at h
  | some v =>
    cases v with
    | ref a => exact ⟨a, rfl⟩
    | _ =>
      exfalso
      simp only [Term.eval] at e
      cases e1 : s.vm.findClass C with
      | none => rw [e1] at e; simp at e
      | some c =>
        rw [e1] at e
        cases e2 : s.vm.classes[c]? with
        | none => simp [e2] at e
        | some k =>
          cases e3 : k.mirror with
          | none => simp [e2, e3] at e
          | some q => simp [e2, e3] at e

theorem cn_ex {s0 : State} {b0 : Nat} (h : ab_S0 s0 b0) : ∃ ad, ab_cn s0 b0 ad := by
  have hf : ∀ j : Nat, ∃ a : Nat, j < 20 → (ab_tm j).eval #[Value.ref b0] s0 none [] s0 = some (.ref a) := fun j => by
    match j with
    | 0 => obtain ⟨a, e⟩ := ex_ref (nx_0 h); exact ⟨a, fun _ => e⟩
    | 1 => obtain ⟨a, e⟩ := ex_ref (nx_1 h); exact ⟨a, fun _ => e⟩
    | 2 => obtain ⟨a, e⟩ := ex_ref (nx_2 h); exact ⟨a, fun _ => e⟩
    | 3 => obtain ⟨a, e⟩ := ex_ref (nx_3 h); exact ⟨a, fun _ => e⟩
    | 4 => obtain ⟨a, e⟩ := ex_ref (nx_4 h); exact ⟨a, fun _ => e⟩
    | 5 => obtain ⟨a, e⟩ := ex_ref (nx_5 h); exact ⟨a, fun _ => e⟩
    | 6 => obtain ⟨a, e⟩ := ex_ref (nx_6 h); exact ⟨a, fun _ => e⟩
    | 7 => obtain ⟨a, e⟩ := ex_ref (nx_7 h); exact ⟨a, fun _ => e⟩
    | 8 => obtain ⟨a, e⟩ := ex_ref (nx_8 h); exact ⟨a, fun _ => e⟩
    | 9 => obtain ⟨a, e⟩ := ex_ref (nx_9 h); exact ⟨a, fun _ => e⟩
    | 10 => obtain ⟨a, e⟩ := ex_ref (nx_10 h); exact ⟨a, fun _ => e⟩
    | 11 => obtain ⟨a, e⟩ := ex_ref (nx_11 h); exact ⟨a, fun _ => e⟩
    | 12 => obtain ⟨a, e⟩ := ex_ref (nx_12 h); exact ⟨a, fun _ => e⟩
    | 13 => obtain ⟨a, e⟩ := ex_ref (nx_13 h); exact ⟨a, fun _ => e⟩
    | 14 => obtain ⟨a, e⟩ := ex_ref (nx_14 h); exact ⟨a, fun _ => e⟩
    | 15 => obtain ⟨a, e⟩ := ex_ref (nx_15 h); exact ⟨a, fun _ => e⟩
    | 16 => obtain ⟨a, e⟩ := ex_ref (nx_16 h); exact ⟨a, fun _ => e⟩
    | 17 => obtain ⟨a, e⟩ := ex_ref (nx_17 h); exact ⟨a, fun _ => e⟩
    | 18 => obtain ⟨a, e⟩ := ex_ref (nx_18 h); exact ⟨a, fun _ => e⟩
    | 19 => obtain ⟨a, e⟩ := ex_ref (nx_19 h); exact ⟨a, fun _ => e⟩
    | j + 20 => exact ⟨0, fun q => absurd q (by omega)⟩
  have hg : ∀ j : Nat, ∃ a : Nat, j < 8 → (Term.field (ab_tm j) "java/lang/String" "value" "[B").eval #[Value.ref b0] s0 none [] s0 = some (.ref a) := fun j => by
    match j with
    | 0 => obtain ⟨a, e⟩ := ar_ref (na_0 h); exact ⟨a, fun _ => e⟩
    | 1 => obtain ⟨a, e⟩ := ar_ref (na_1 h); exact ⟨a, fun _ => e⟩
    | 2 => obtain ⟨a, e⟩ := ar_ref (na_2 h); exact ⟨a, fun _ => e⟩
    | 3 => obtain ⟨a, e⟩ := ar_ref (na_3 h); exact ⟨a, fun _ => e⟩
    | 4 => obtain ⟨a, e⟩ := ar_ref (na_4 h); exact ⟨a, fun _ => e⟩
    | 5 => obtain ⟨a, e⟩ := ar_ref (na_5 h); exact ⟨a, fun _ => e⟩
    | 6 => obtain ⟨a, e⟩ := ar_ref (na_6 h); exact ⟨a, fun _ => e⟩
    | 7 => obtain ⟨a, e⟩ := ar_ref (na_7 h); exact ⟨a, fun _ => e⟩
    | j + 8 => exact ⟨0, fun q => absurd q (by omega)⟩
  have hh : ∀ j : Nat, ∃ a : Nat, j < 4 → (ab_sta j).eval #[Value.ref b0] s0 none [] s0 = some (.ref a) := fun j => by
    match j with
    | 0 => obtain ⟨a, e⟩ := ar_ref (ny_0 h); exact ⟨a, fun _ => e⟩
    | 1 => obtain ⟨a, e⟩ := ar_ref (ny_1 h); exact ⟨a, fun _ => e⟩
    | 2 => obtain ⟨a, e⟩ := ar_ref (ny_2 h); exact ⟨a, fun _ => e⟩
    | 3 => obtain ⟨a, e⟩ := mi_ref (ny_3 h); exact ⟨a, fun _ => e⟩
    | j + 4 => exact ⟨0, fun q => absurd q (by omega)⟩
  obtain ⟨f, hf⟩ := Classical.skolem.mp hf
  obtain ⟨g, hg⟩ := Classical.skolem.mp hg
  obtain ⟨k, hh⟩ := Classical.skolem.mp hh
  refine ⟨fun i => if i < 1000100 then f (i - 1000000) else if i < 1000200 then g (i - 1000100) else k (i - 1000200), fun j hj => ?_, fun j hj => ?_, fun j hj => ?_⟩
  · dsimp only
    rw [if_pos (by omega), show 1000000 + j - 1000000 = j by omega]; exact hf j hj
  · dsimp only
    rw [if_neg (by omega), if_pos (by omega), show 1000100 + j - 1000100 = j by omega]; exact hg j hj
  · dsimp only
    rw [if_neg (by omega), if_neg (by omega), show 1000200 + j - 1000200 = j by omega]; exact hh j hj

theorem kn_ex {s : State} {args : Array Value} (hts : ∀ w ∈ lw_tbl, w.before args s = true) : ∃ K, ab_kn K s := by
  have hts2 : ∀ w ∈ ab_tb, w.before args s = true := fun w hw => hts w (List.mem_filter.mp hw).1
  have hd : ∀ c : Nat, ∃ p : ClassId × (Nat → Nat), ∀ q, vwCl[c]? = some q → u_Kn s q.1 q.2.1 q.2.2 p.1 p.2 := fun c => by
    match c with
    | 0 =>
      obtain ⟨cC, iS, h⟩ := u_known hts2 in_Jx4a65c (hts2 _ (ab_t1 (List.mem_of_getElem? (i := 73) rfl) rfl))
      exact ⟨(cC, iS), fun q hq => by cases hq; exact h⟩
    | 1 =>
      obtain ⟨cC, iS, h⟩ := u_known hts2 in_X0 (hts2 _ (ab_t3 (List.mem_of_getElem? (i := 169) rfl) rfl))
      exact ⟨(cC, iS), fun q hq => by cases hq; exact h⟩
    | 2 =>
      obtain ⟨cC, iS, h⟩ := u_known hts2 in_X1 (hts2 _ (ab_t1 (List.mem_of_getElem? (i := 177) rfl) rfl))
      exact ⟨(cC, iS), fun q hq => by cases hq; exact h⟩
    | 3 =>
      obtain ⟨cC, iS, h⟩ := u_known hts2 in_X2 (hts2 _ (ab_t1 (List.mem_of_getElem? (i := 196) rfl) rfl))
      exact ⟨(cC, iS), fun q hq => by cases hq; exact h⟩
    | 4 =>
      obtain ⟨cC, iS, h⟩ := u_known hts2 in_X3 (hts2 _ (ab_t1 (List.mem_of_getElem? (i := 158) rfl) rfl))
      exact ⟨(cC, iS), fun q hq => by cases hq; exact h⟩
    | 5 =>
      obtain ⟨cC, iS, h⟩ := u_known hts2 in_X4 (hts2 _ (ab_t1 (List.mem_of_getElem? (i := 122) rfl) rfl))
      exact ⟨(cC, iS), fun q hq => by cases hq; exact h⟩
    | 6 =>
      obtain ⟨cC, iS, h⟩ := u_known hts2 in_X5 (hts2 _ (ab_t1 (List.mem_of_getElem? (i := 41) rfl) rfl))
      exact ⟨(cC, iS), fun q hq => by cases hq; exact h⟩
    | 7 =>
      obtain ⟨cC, iS, h⟩ := u_known hts2 in_X6 (hts2 _ (ab_t1 (List.mem_of_getElem? (i := 105) rfl) rfl))
      exact ⟨(cC, iS), fun q hq => by cases hq; exact h⟩
    | 8 =>
      obtain ⟨cC, iS, h⟩ := u_known hts2 in_X7 (hts2 _ (ab_t1 (List.mem_of_getElem? (i := 99) rfl) rfl))
      exact ⟨(cC, iS), fun q hq => by cases hq; exact h⟩
    | 9 =>
      obtain ⟨cC, iS, h⟩ := u_known hts2 in_X8 (hts2 _ (ab_t2 (List.mem_of_getElem? (i := 100) rfl) rfl))
      exact ⟨(cC, iS), fun q hq => by cases hq; exact h⟩
    | 10 =>
      obtain ⟨cC, iS, h⟩ := u_known hts2 in_X9 (hts2 _ (ab_t1 (List.mem_of_getElem? (i := 33) rfl) rfl))
      exact ⟨(cC, iS), fun q hq => by cases hq; exact h⟩
    | 11 =>
      obtain ⟨cC, iS, h⟩ := u_known hts2 in_X10 (hts2 _ (ab_t4 (List.mem_of_getElem? (i := 224) rfl) rfl))
      exact ⟨(cC, iS), fun q hq => by cases hq; exact h⟩
    | c + 12 => exact ⟨(0, fun _ => 0), fun q hq => by cases hq⟩
  obtain ⟨D, hD⟩ := Classical.skolem.mp hd
  obtain ⟨c1, k1, p1, f1, g1, h1⟩ := Cond.arrayClass_spec (hts _ (lw_t1 (List.mem_of_getElem? (i := 71) rfl)))
  obtain ⟨c2, k2, p2, f2, g2, h2⟩ := Cond.arrayClass_spec (hts _ (lw_t3 (List.mem_of_getElem? (i := 92) rfl)))
  obtain ⟨c3, k3, p3, f3, g3, h3⟩ := Cond.arrayClass_spec (hts _ (lw_t1 (List.mem_of_getElem? (i := 70) rfl)))
  obtain ⟨c4, k4, p4, f4, g4, h4⟩ := Cond.arrayClass_spec (hts _ (lw_t6 (List.mem_of_getElem? (i := 68) rfl)))
  obtain ⟨p5, c5, k5, f5, -, g5, h5, i5⟩ := Cond.arrayOver_spec (hts _ (lw_t2 (List.mem_of_getElem? (i := 205) rfl)))
  refine ⟨((fun c => (D c).1, fun c => (D c).2), (fun ty => match ty with | .int => c1 | .byte => c2 | .boolean => c3 | .long => c4 | _ => 0), c5), fun c q hq => hD c q hq, fun k q hk => ?_⟩
  match k, hk with
  | 0, hk => cases hk; exact ⟨fun n z => ⟨fun _ h => (by cases h), k1, g1, p1, h1⟩, f1⟩
  | 1, hk => cases hk; exact ⟨fun n z => ⟨fun _ h => (by cases h), k2, g2, p2, h2⟩, f2⟩
  | 2, hk => cases hk; exact ⟨fun n z => ⟨fun _ h => (by cases h), k3, g3, p3, h3⟩, f3⟩
  | 3, hk => cases hk; exact ⟨fun n z => ⟨fun _ h => (by cases h), k4, g4, p4, h4⟩, f4⟩
  | 4, hk => cases hk; exact ⟨fun n z => ⟨fun _ h => (by cases h), k5, g5, p5, h5⟩, ⟨k5, p5, g5, h5, f5, i5⟩⟩
  | k + 5, hk => cases hk

def R_law : String := "BergPatrolLaw"
def lw_P (b : Addr) (xs : List Int32) (args : Array Value) (s : State) : Prop := args = #[.ref b] ∧ s.IntsAt b xs ∧ xs.length ≤ 3072 ∧ (Jvm.Cond.and given_1 narrow_1).before args s = true
def lw_Q (_ : Array Value) (s : State) (o : Outcome) (t : State) : Prop := o = .returned (some (.int 1)) ∧ Framed s o t [] 601024 7293034
def lw_Z (below : List Frame) (a : Array Value) (s : State) : State → Prop := fun t => ∃ o, t.status = .running ∧ Ended t below o ∧ lw_Q a s o t
/-- the law's own end, with 1 on the stack, nothing written that was there before, its room as the claim has it -/
theorem lw_ret {p : Program} {l : Launch} {e : Env} {s : State} {m : MethodId} {below : List Frame} {meth : Method} {c : Code} {b : Nat} (hx : p.tables.exec = Jvm.exec) (hb : c.code = code) (hr : meth.sig.returnType = ret) (hlocks : meth.locks = false) {pc : Nat} {H : Heap} {ls : Array Slot} (hdg : decode code pc = .ok (.ireturn, 1)) : W p l e room_1 s m #[Value.ref b] below meth c H [] 601024 7293034 (lw_Z below #[Value.ref b] s) (F0 m pc ls [.int 1]) := by
  intro T hT X
  obtain ⟨fs, hret, hrun, hended, hW, hframe⟩ := X.leave (v := some (.int 1)) (hlocks := hlocks) (fun h => by rw [hr] at h; cases h)
  have hmeth' : T.vm.method? m = some meth := X.method'
  refine ⟨T.setFrames fs, ?_, .returned (some (.int 1)), hrun, hended, rfl, ⟨_, rfl⟩, hW, hframe⟩
  jvm_step X.here [X.here.top, hx, hb, hdg, hmeth', hr, ret, narrow_b1]
  (try refine ⟨rfl, ?_⟩); (try refine ⟨rfl, ?_⟩)
  first | (intro acts; rw [hret _ acts rfl rfl rfl]) | rw [hret _ _ rfl rfl rfl]
  exact Steps.refl _
/-- what holds at the law's entry: the machine, the code, the tables' words (any of lw_tbl by 'hts w (by decide +kernel)'), the script of L ints xs at the cell b, what the Statement gives of the start (any of its parts by flat_of_before) -/
def lw_At (p : Program) (s : State) (m : MethodId) (meth : Method) (c : Code) (b L : Nat) (xs : Nat → Int32) : Prop :=
  p.tables.exec = Jvm.exec ∧ c.code = code ∧ meth.sig.returnType = ret ∧ c.maxLocals = 7 ∧ s.vm.findClass R_law = some m.cls ∧ (∀ w ∈ lw_tbl, w.before #[Value.ref b] s = true) ∧ va_X b L xs s s.heap ∧ b < s.heap.size ∧ meth.locks = false ∧ (Jvm.Cond.and given_1 narrow_1).before #[Value.ref b] s = true

/-- from the entry, for every script of at most 3072 ints, the law comes to its end with true -/
theorem whole_start {p : Program} {e : Env} {s : State} {m : MethodId} {below : List Frame} {meth : Method} {c : Code} (l : Launch) (hl9 : l.stackTraces = false) {b L : Nat} {xs : Nat → Int32} (hL : L ≤ 3072) (hnm : meth.name = "law") (C0 : lw_At p s m meth c b L xs) : W p l e room_1 s m #[Value.ref b] below meth c s.heap [] 0 0 (lw_Z below #[Value.ref b] s) (entryFrame m ([Value.ref b] : List Value).toArray 7) := by
  obtain ⟨hx, hb, hr, hml, hown, hts, hX, hbl, hlocks, hgv⟩ := C0
  have hS0 : ab_S0 s b := ⟨hts, hgv⟩
  obtain ⟨ad, had⟩ := cn_ex hS0
  obtain ⟨K, hK⟩ := kn_ex hts
  have C : ab_C (p, l, e, room_1, s, m, #[Value.ref b], below, meth, c, lw_Z below #[Value.ref b] s, K, (fun q : Nat => s.heap.size ≤ q), ad, lw_S0) cL_law 7 yL_law room_1 :=
    ⟨hx, hb, hml, hown, hnm, fun w hw => hts w (List.mem_filter.mp hw).1, hK, fun _ h => h, hlocks, ⟨hl9, s, b, hS0, had, State.WarmedH.refl s, Nat.le_refl _, fun _ _ => rfl, fun _ h => h⟩, rfl⟩
  have hX9 : ab_X (p, l, e, room_1, s, m, #[Value.ref b], below, meth, c, lw_Z below #[Value.ref b] s, K, (fun q : Nat => s.heap.size ≤ q), ad, lw_S0) b L xs := ⟨hX, hbl, Nat.not_le.mpr hbl⟩
  have J := lw_begin C hX9 hL (fun k n S F A i hk hn => by
    refine j_iconst C dL_law_1181 ?_
    intro ad' H locs ls g1 g2 g3 g4 g5 g6 g7 g8
    refine va_forget (fun q hq => g8.2.2 q hq) ?_
    refine W.widen (k := 601024) (n := 7293034) hk hn ?_
    exact lw_ret hx hb hr hlocks dL_law_1182)
  have hl := lv_entry [Value.ref b] (n := 7) (Nat.le_of_ble_eq_true rfl)
  have hP0 : ab_P K ad lw_S0 (fun _ _ => 0) (fun _ _ => 0) s.heap := ⟨fun i sh h => (by unfold lw_S0 at h; cases h), fun i j h => absurd rfl h, fun i sh h => (by unfold lw_S0 at h; cases h)⟩
  rw [lg_entry_eq]
  refine J ad s.heap [] _ ⟨fun _ _ => rfl, fun _ _ => rfl⟩ (fun _ h => h) hl.1 hl.2.1 ?_ hP0 (fun i h => absurd rfl h) va_S.rf
  intro i v hi
  match i, hi with
  | 0, hi => cases hi; exact ⟨rfl, rfl⟩
  | 1, hi => cases hi
  | 2, hi => cases hi
  | 3, hi => cases hi
  | 4, hi => cases hi
  | 5, hi => cases hi
  | 6, hi => cases hi
  | i + 7, hi => cases hi


set_option maxHeartbeats 4000000 in
theorem lw_walk (l : Launch) (hl9 : l.stackTraces = false) (b : Addr) (xs : List Int32) : MetFree l x (headSpec (Jvm.Cond.code x code maxLocals ret :: tables_1) room_1) (lw_P b xs) (fun _ _ _ _ _ => True) lw_Q := by
  refine MetFree.of_bodyS (code := code) (maxLocals := maxLocals) (ret := ret) (by decide) ?_ ?_
  · intro args s m h hn
    obtain ⟨meth, c, h1, h2, h3, h4, h5, h6, -, -⟩ := Cond.code_spec hn (atoms_spec (ws := Jvm.Cond.code x code maxLocals ret :: tables_1) h _ List.mem_cons_self)
    exact ⟨meth, c, h1, h2, h3, h4, h5, h6⟩
  · intro p e s m args below meth c s₁ B hml0 hP _
    obtain ⟨rfl, hx, hbd, hgv⟩ := hP
    obtain ⟨scr, harrAt, hlist, hof, hsmall⟩ := hx
    obtain ⟨hcb, hkn, -, -⟩ := State.arrayAt?_spec harrAt
    have hown : s.vm.findClass R_law = some m.cls := findClass_of_methodNamed B.named
    have hts0 : ∀ c ∈ (Jvm.Cond.code x code maxLocals ret :: tables_1), c.before #[Value.ref b] s = true := atoms_spec (ws := Jvm.Cond.code x code maxLocals ret :: tables_1) B.pre
    have hts : ∀ w ∈ lw_tbl, w.before #[Value.ref b] s = true := k2_hts_sels lw_privs (fun w hw => hts0 w (List.mem_cons_of_mem _ hw)) lw_privs_ok
    have hml : c.maxLocals = 7 := B.maxLocals_eq (hts0 _ List.mem_cons_self)
    have X₀ : Stand p l e room_1 s m #[Value.ref b] below meth c s₁ [] 0 0 := Stand.of_body B
    have hh0 : s₁.heap = s.heap := by rw [B.state]; rfl
    have hsz : scr.slots.size = xs.length := by rw [← Array.length_toList, hlist, List.length_map]
    have hval : ∀ j : Nat, j < xs.length → scr.slots[j]? = some (.int (xs.getD j 0)) := fun j hj => by
      rw [← Array.getElem?_toList, hlist]
      simp [hj]
    have hbl : b < s.heap.size := (Array.getElem?_eq_some_iff.mp hcb).1
    have hX : va_X b xs.length (fun j => xs.getD j 0) s s.heap := ⟨scr, hcb, hof, hkn, hsz, hval⟩
    have K : W p l e room_1 s m #[Value.ref b] below meth c s₁.heap [] 0 0 (lw_Z below #[Value.ref b] s) (entryFrame m ([Value.ref b] : List Value).toArray 7) := by
      rw [hh0]
      exact whole_start l hl9 hbd (name_of_methodNamed B.named B.method).1 ⟨B.exec, B.bytes, B.returns, hml, hown, hts, hX, hbl, B.notSynchronized, hgv⟩
    obtain ⟨t, a1, o, b1, b2, b3⟩ := K s₁ rfl X₀
    exact ⟨t, o, a1, b1, b2, b3⟩
theorem lw_pre_spec {args : Array Value} {s : State} (h : (Jvm.Cond.and given_1 narrow_1).before args s = true) (hr : rest_1_c.before args s = true) : ∃ (b : Addr) (xs : List Int32), lw_P b xs args s := by
  have hs := flat_of_before _ h
  have hq := flat_of_before _ hr
  have hc : (Cond.count 1).before args s = true := hs _ (by decide +kernel)
  have harr : (Cond.arrayOf (.arg 0) .int).before args s = true := hs _ (by decide +kernel)
  have hle : (Cond.le (.length (.arg 0)) (.int 3072)).before args s = true := hs _ (by decide +kernel)
  have hlen : (Cond.isInt (.length (.arg 0))).before args s = true := hq _ (by decide +kernel)
  have hall : (Cond.all (.arg 0) (.isInt (.elem (.arg 0) (.index 0)))).before args s = true := hq _ (by decide +kernel)
  obtain ⟨b, xs, hb, hx⟩ := State.ints_of_pre rfl harr hlen hall
  have hsm : xs.length < 2 ^ 31 := hx.choose_spec.2.2.2
  have hev : (Term.length (.arg 0)).eval args s none [] s = some (.int xs.length.toInt32) := hx.length_eval hb
  have hv := Cond.le_ints hev (show (Term.int 3072).eval args s none [] s = some (.int 3072) from rfl)
  have hd : xs.length.toInt32 ≤ 3072 := by
    simpa [Cond.before, Cond.holds, hv] using hle
  have hN : xs.length ≤ 3072 := (Int32.ofNat_le_ofNat hsm (by decide)).mp (show Int32.ofNat xs.length ≤ Int32.ofNat 3072 from hd)
  exact ⟨b, xs, Cond.one_arg hc (show args[0]? = some (.ref b) from hb), hx, hN, h⟩
theorem lw_comes (l : Launch) (hl9 : l.stackTraces = false) : Comes l x (Jvm.Cond.code x code maxLocals ret :: tables_1) room_1 (fun tb e args s => Calls_1 tb e args s ∧ rest_1 tb e args s ∧ Pre_1 tb e args s)
    (fun _ _ args s o t => lw_Q args s o t) := by
  intro p e ha hc hk s m args below hf hfit hheap happ hpre
  obtain ⟨b, xs, hP⟩ := lw_pre_spec hpre.2.2 hpre.2.1
  obtain ⟨k, o, h1, h2, h3, hQ⟩ := lw_walk l hl9 b xs p e ha hc hk s m args below hf ((Spec.applies_iff_loose hf).mp happ).1 hP trivial
  exact ⟨k, o, h1, h2, h3, hQ⟩
theorem lw_frame {s t : State} {o : Outcome} {args : Array Value} (h : Framed s o t [] 601024 7293034) :
    Framed s o t (fieldLocs frame_1_writes args s ++ arrayLocs frame_1_arrays args s ++ staticLocs frame_1_statics s) 601024 7293034 := h
theorem lw_limb (L : Cond) (hL : ∀ (args : Array Value) (s t : State), L.after args s (.returned (some (.int 1))) t = true) :
    ArmFor flags0 classFile x code maxLocals ret World_1 tables_1 room_1 Calls_1 rest_1 Pre_1
      (fun tb e a s o t => postC L tb e a s o t ∧ Framed s o t (fieldLocs frame_1_writes a s ++ arrayLocs frame_1_arrays a s ++ staticLocs frame_1_statics s) 601024 7293034) := by
  intro l hfl _ _ p e ha hc hk s m args below hf hfit hheap happ hpre
  have hl9 : l.stackTraces = false := by
    unfold Launch.stackTraces
    rw [hfl]
    decide +kernel
  obtain ⟨k, o, h1, h2, h3, rfl, hF⟩ := lw_comes l hl9 p e ha hc hk s m args below hf hfit hheap happ hpre
  exact ⟨k, _, h1, h2, h3, hL args s _, lw_frame hF⟩
theorem i_vc : Claimed_1_1 ∧ Claimed_1_2 := ⟨lw_limb limb_1_1 (fun args s t => by simp [limb_1_1, Cond.after, Cond.holds, Cond.value]), lw_limb limb_1_2 (fun args s t => Cond.after_iff.mpr (by
  first | (rw [show limb_1_2 = Cond.eq .result (.int 1) from rfl, Cond.eq_ints (x := 1) (y := 1) rfl rfl]; simp; done) | (simp [limb_1_2, Cond.value, Term.eval]; done)))⟩
