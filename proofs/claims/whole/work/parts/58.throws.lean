/-- words that stay: the good ones, and 'castable', 'declares' -/
def vy_md : Cond → Bool
  | .castable _ _ => true
  | .declares _ => true
  | w => goodWord w
theorem vy_cs {w : Cond} (h : vy_md w = true) : goodWord w = true ∨ (∃ a b, w = .castable a b) ∨ ∃ x, w = .declares x := by
  cases w <;> first | exact Or.inr (Or.inl ⟨_, _, rfl⟩) | exact Or.inr (Or.inr ⟨_, rfl⟩) | exact Or.inl h
theorem vy_ot {w : Cond} (h : vy_md w = true) : vx_ot w = true := by
  rcases vy_cs h with g | ⟨a, b, rfl⟩ | ⟨x, rfl⟩
  · unfold vx_ot; rw [g, Bool.or_true]
  · rfl
  · rfl
theorem vy_mv {l : Launch} {ad : Nat → Nat} {Am : Nat → Prop} {s : State} {args : Array Value} (hZ : ab_Z l ad Am s s.heap) {w : Cond} (hw : w ∈ lw_tbl) (h : vy_md w = true) : w.before args s = true := by
  obtain ⟨h0, s0, b0, ⟨h1, -⟩, hc, h2, -⟩ := hZ
  have h9 := h1 w hw
  rcases vy_cs h with g | ⟨a, b, rfl⟩ | ⟨x, rfl⟩
  · exact word_at h2 (good_of_word g) h9
  · exact va_Nw.use rfl (va_Nw.warmC h2 (va_Nw.of rfl h9))
  · exact va_Nw.use rfl (va_Nw.warmD h2 (va_Nw.of rfl h9))
def vy_at (ps : List (Nat × Nat)) : List Cond := ps.filterMap fun q => match q.1 with
  | 1 => tables_1_1[q.2]?
  | 2 => tables_1_2[q.2]?
  | 3 => tables_1_3[q.2]?
  | 4 => tables_1_4[q.2]?
  | 5 => tables_1_5[q.2]?
  | _ => tables_1_6[q.2]?
theorem vy_mem {ps : List (Nat × Nat)} {w : Cond} (h : w ∈ vy_at ps) : w ∈ lw_tbl := by
  obtain ⟨q, -, h⟩ := List.mem_filterMap.mp h
  split at h
  · exact lw_t1 (List.mem_of_getElem? h)
  · exact lw_t2 (List.mem_of_getElem? h)
  · exact lw_t3 (List.mem_of_getElem? h)
  · exact lw_t4 (List.mem_of_getElem? h)
  · exact lw_t5 (List.mem_of_getElem? h)
  · exact lw_t6 (List.mem_of_getElem? h)
theorem lf_U {s0 : State} {b0 : Nat} (h : ab_S0 s0 b0) : ((Jvm.Cond.isRef (Jvm.Term.static "java/lang/Throwable" "UNASSIGNED_STACK" "[Ljava/lang/StackTraceElement;")) : Cond).before #[Value.ref b0] s0 = true := (ba2 (ba1 (ba2 (ba1 (ba1 (ba1 (ba1 (ba1 (ba1 (ba2 h.2))))))))))
theorem lf_N {s0 : State} {b0 : Nat} (h : ab_S0 s0 b0) : ((Jvm.Cond.isRef (Jvm.Term.static "java/lang/Throwable" "SUPPRESSED_SENTINEL" "Ljava/util/List;")) : Cond).before #[Value.ref b0] s0 = true := (ba1 (ba2 (ba2 (ba1 (ba1 (ba1 (ba1 (ba1 (ba1 (ba2 h.2))))))))))
theorem lf_IOB_IAE {s0 : State} {b0 : Nat} (h : ab_S0 s0 b0) : ((Jvm.Cond.not (Jvm.Cond.castable "java/lang/IndexOutOfBoundsException" "java/lang/IllegalArgumentException")) : Cond).before #[Value.ref b0] s0 = true := (ba2 (ba1 (ba1 (ba1 (ba2 (ba2 (ba1 (ba1 (ba1 (ba2 h.2))))))))))
theorem lf_IOB_ISE {s0 : State} {b0 : Nat} (h : ab_S0 s0 b0) : ((Jvm.Cond.not (Jvm.Cond.castable "java/lang/IndexOutOfBoundsException" "java/lang/IllegalStateException")) : Cond).before #[Value.ref b0] s0 = true := (ba1 (ba2 (ba2 (ba2 (ba2 (ba2 (ba1 (ba1 (ba1 (ba2 h.2))))))))))
theorem lf_IOB_UOE {s0 : State} {b0 : Nat} (h : ab_S0 s0 b0) : ((Jvm.Cond.not (Jvm.Cond.castable "java/lang/IndexOutOfBoundsException" "java/lang/UnsupportedOperationException")) : Cond).before #[Value.ref b0] s0 = true := (ba1 (ba2 (ba2 (ba1 (ba2 (ba1 (ba1 (ba2 (ba1 (ba1 (ba2 h.2)))))))))))
theorem lf_IOB_NSE {s0 : State} {b0 : Nat} (h : ab_S0 s0 b0) : ((Jvm.Cond.not (Jvm.Cond.castable "java/lang/IndexOutOfBoundsException" "java/util/NoSuchElementException")) : Cond).before #[Value.ref b0] s0 = true := (ba2 (ba2 (ba2 (ba2 (ba1 (ba2 (ba1 (ba2 (ba1 (ba1 (ba2 h.2)))))))))))
theorem lf_IAE_IOB {s0 : State} {b0 : Nat} (h : ab_S0 s0 b0) : ((Jvm.Cond.not (Jvm.Cond.castable "java/lang/IllegalArgumentException" "java/lang/IndexOutOfBoundsException")) : Cond).before #[Value.ref b0] s0 = true := (ba1 (ba1 (ba2 (ba1 (ba1 (ba2 (ba1 (ba1 (ba1 (ba2 h.2))))))))))
theorem lf_IAE_ISE {s0 : State} {b0 : Nat} (h : ab_S0 s0 b0) : ((Jvm.Cond.not (Jvm.Cond.castable "java/lang/IllegalArgumentException" "java/lang/IllegalStateException")) : Cond).before #[Value.ref b0] s0 = true := (ba1 (ba2 (ba2 (ba2 (ba2 (ba2 (ba2 (ba1 (ba1 (ba1 (ba2 h.2)))))))))))
theorem lf_IAE_UOE {s0 : State} {b0 : Nat} (h : ab_S0 s0 b0) : ((Jvm.Cond.not (Jvm.Cond.castable "java/lang/IllegalArgumentException" "java/lang/UnsupportedOperationException")) : Cond).before #[Value.ref b0] s0 = true := (ba2 (ba2 (ba2 (ba1 (ba2 (ba1 (ba1 (ba2 (ba1 (ba1 (ba2 h.2)))))))))))
theorem lf_IAE_NSE {s0 : State} {b0 : Nat} (h : ab_S0 s0 b0) : ((Jvm.Cond.not (Jvm.Cond.castable "java/lang/IllegalArgumentException" "java/util/NoSuchElementException")) : Cond).before #[Value.ref b0] s0 = true := (ba1 (ba1 (ba1 (ba2 (ba2 (ba1 (ba2 (ba1 (ba1 (ba2 h.2))))))))))
theorem lf_ISE_IOB {s0 : State} {b0 : Nat} (h : ab_S0 s0 b0) : ((Jvm.Cond.not (Jvm.Cond.castable "java/lang/IllegalStateException" "java/lang/IndexOutOfBoundsException")) : Cond).before #[Value.ref b0] s0 = true := (ba2 (ba1 (ba2 (ba1 (ba1 (ba2 (ba1 (ba1 (ba1 (ba2 h.2))))))))))
theorem lf_ISE_IAE {s0 : State} {b0 : Nat} (h : ab_S0 s0 b0) : ((Jvm.Cond.not (Jvm.Cond.castable "java/lang/IllegalStateException" "java/lang/IllegalArgumentException")) : Cond).before #[Value.ref b0] s0 = true := (ba1 (ba2 (ba1 (ba1 (ba2 (ba2 (ba1 (ba1 (ba1 (ba2 h.2))))))))))
theorem lf_ISE_UOE {s0 : State} {b0 : Nat} (h : ab_S0 s0 b0) : ((Jvm.Cond.not (Jvm.Cond.castable "java/lang/IllegalStateException" "java/lang/UnsupportedOperationException")) : Cond).before #[Value.ref b0] s0 = true := (ba1 (ba1 (ba2 (ba2 (ba1 (ba1 (ba2 (ba1 (ba1 (ba2 h.2))))))))))
theorem lf_ISE_NSE {s0 : State} {b0 : Nat} (h : ab_S0 s0 b0) : ((Jvm.Cond.not (Jvm.Cond.castable "java/lang/IllegalStateException" "java/util/NoSuchElementException")) : Cond).before #[Value.ref b0] s0 = true := (ba2 (ba1 (ba1 (ba2 (ba2 (ba1 (ba2 (ba1 (ba1 (ba2 h.2))))))))))
theorem lf_UOE_IOB {s0 : State} {b0 : Nat} (h : ab_S0 s0 b0) : ((Jvm.Cond.not (Jvm.Cond.castable "java/lang/UnsupportedOperationException" "java/lang/IndexOutOfBoundsException")) : Cond).before #[Value.ref b0] s0 = true := (ba1 (ba2 (ba2 (ba1 (ba1 (ba2 (ba1 (ba1 (ba1 (ba2 h.2))))))))))
theorem lf_UOE_IAE {s0 : State} {b0 : Nat} (h : ab_S0 s0 b0) : ((Jvm.Cond.not (Jvm.Cond.castable "java/lang/UnsupportedOperationException" "java/lang/IllegalArgumentException")) : Cond).before #[Value.ref b0] s0 = true := (ba1 (ba2 (ba2 (ba1 (ba1 (ba2 (ba2 (ba1 (ba1 (ba1 (ba2 h.2)))))))))))
theorem lf_UOE_ISE {s0 : State} {b0 : Nat} (h : ab_S0 s0 b0) : ((Jvm.Cond.not (Jvm.Cond.castable "java/lang/UnsupportedOperationException" "java/lang/IllegalStateException")) : Cond).before #[Value.ref b0] s0 = true := (ba2 (ba2 (ba2 (ba2 (ba2 (ba2 (ba2 (ba1 (ba1 (ba1 (ba2 h.2)))))))))))
theorem lf_UOE_NSE {s0 : State} {b0 : Nat} (h : ab_S0 s0 b0) : ((Jvm.Cond.not (Jvm.Cond.castable "java/lang/UnsupportedOperationException" "java/util/NoSuchElementException")) : Cond).before #[Value.ref b0] s0 = true := (ba1 (ba2 (ba1 (ba2 (ba2 (ba1 (ba2 (ba1 (ba1 (ba2 h.2))))))))))
theorem lf_NSE_IOB {s0 : State} {b0 : Nat} (h : ab_S0 s0 b0) : ((Jvm.Cond.not (Jvm.Cond.castable "java/util/NoSuchElementException" "java/lang/IndexOutOfBoundsException")) : Cond).before #[Value.ref b0] s0 = true := (ba2 (ba2 (ba2 (ba2 (ba1 (ba1 (ba2 (ba1 (ba1 (ba1 (ba2 h.2)))))))))))
theorem lf_NSE_IAE {s0 : State} {b0 : Nat} (h : ab_S0 s0 b0) : ((Jvm.Cond.not (Jvm.Cond.castable "java/util/NoSuchElementException" "java/lang/IllegalArgumentException")) : Cond).before #[Value.ref b0] s0 = true := (ba1 (ba1 (ba2 (ba1 (ba2 (ba2 (ba1 (ba1 (ba1 (ba2 h.2))))))))))
theorem lf_NSE_ISE {s0 : State} {b0 : Nat} (h : ab_S0 s0 b0) : ((Jvm.Cond.not (Jvm.Cond.castable "java/util/NoSuchElementException" "java/lang/IllegalStateException")) : Cond).before #[Value.ref b0] s0 = true := (ba2 (ba1 (ba1 (ba1 (ba1 (ba1 (ba2 (ba1 (ba1 (ba2 h.2))))))))))
theorem lf_NSE_UOE {s0 : State} {b0 : Nat} (h : ab_S0 s0 b0) : ((Jvm.Cond.not (Jvm.Cond.castable "java/util/NoSuchElementException" "java/lang/UnsupportedOperationException")) : Cond).before #[Value.ref b0] s0 = true := (ba1 (ba2 (ba2 (ba2 (ba1 (ba1 (ba2 (ba1 (ba1 (ba2 h.2))))))))))
theorem vy_Zq {l : Launch} {ad : Nat → Nat} {Am : Nat → Prop} {s : State} (hZ : ab_Z l ad Am s s.heap) {n d : String} (h1 : Cond.laysStatic "java/lang/Throwable" n d ∈ lw_tbl) (h2 : ∀ s0 b0, ab_S0 s0 b0 → (Cond.isRef (.static "java/lang/Throwable" n d)).before #[Value.ref b0] s0 = true) : vx_Zq "java/lang/Throwable" n d Am s s.heap := by
  obtain ⟨h0, s0, b0, hS, hc, hW, h3, h4, h5⟩ := hZ
  have h := vx_Zqof (A := Am) (hS.1 _ h1) (hS.1 _ (lw_t1 (List.mem_of_getElem? (i := 14) rfl))) (h2 s0 b0 hS) (fun a ha h => absurd (h5 a h) (Nat.not_le.mpr ha))
  exact vx_Zq.kept (vx_Zq.moved hW.alike h) (fun a ha _ => h4 a ha)
theorem vy_U {l : Launch} {ad : Nat → Nat} {Am : Nat → Prop} {s : State} (hZ : ab_Z l ad Am s s.heap) : vx_Zq Bundle.tN "UNASSIGNED_STACK" Bundle.steD Am s s.heap := vy_Zq hZ (lw_t3 (List.mem_of_getElem? (i := 50) rfl)) (fun _ _ h => lf_U h)
theorem vy_N {l : Launch} {ad : Nat → Nat} {Am : Nat → Prop} {s : State} (hZ : ab_Z l ad Am s s.heap) : vx_Zq Bundle.tN "SUPPRESSED_SENTINEL" Bundle.listD Am s s.heap := vy_Zq hZ (lw_t3 (List.mem_of_getElem? (i := 52) rfl)) (fun _ _ h => lf_N h)
theorem at_IOB : ∀ w ∈ vx_atS "BergPatrol" 279 "java/lang/IndexOutOfBoundsException" ["java/lang/RuntimeException", "java/lang/Exception"], w ∈ lw_tbl ∧ vy_md w = true := by
  have e : vx_atS "BergPatrol" 279 "java/lang/IndexOutOfBoundsException" ["java/lang/RuntimeException", "java/lang/Exception"] = vy_at [(1, 14), (3, 45), (3, 54), (3, 60), (3, 63), (3, 65), (3, 46), (3, 47), (1, 38), (1, 39), (3, 48), (3, 53), (3, 61), (3, 81), (3, 35), (3, 82), (3, 37), (3, 83), (3, 39), (3, 49), (3, 51), (3, 41), (3, 77), (3, 78), (3, 80), (3, 41), (3, 68), (3, 69), (3, 70), (3, 71), (3, 27), (3, 71), (3, 72), (3, 73), (3, 74), (3, 29), (3, 74), (3, 75), (3, 76), (3, 77), (3, 31), (3, 67), (3, 24), (3, 25), (3, 32), (3, 33), (3, 34), (3, 36), (3, 38), (3, 40), (3, 44), (3, 43), (3, 42)] := by decide +kernel
  rw [e]
  intro w hw
  refine ⟨vy_mem hw, (List.all_eq_true (p := vy_md)).mp ?_ w hw⟩
  decide +kernel
theorem at_IAE : ∀ w ∈ vx_atS "BergPatrol" 96 "java/lang/IllegalArgumentException" ["java/lang/RuntimeException", "java/lang/Exception"], w ∈ lw_tbl ∧ vy_md w = true := by
  have e : vx_atS "BergPatrol" 96 "java/lang/IllegalArgumentException" ["java/lang/RuntimeException", "java/lang/Exception"] = vy_at [(1, 14), (3, 45), (3, 54), (3, 60), (3, 63), (3, 65), (3, 46), (3, 47), (1, 38), (1, 39), (3, 48), (3, 53), (3, 61), (3, 81), (3, 35), (3, 82), (3, 37), (3, 83), (3, 39), (3, 49), (3, 51), (3, 41), (3, 77), (3, 78), (3, 80), (3, 41), (3, 107), (3, 108), (3, 109), (3, 71), (3, 27), (3, 71), (3, 72), (3, 73), (3, 74), (3, 29), (3, 74), (3, 75), (3, 76), (3, 77), (3, 31), (3, 106), (3, 97), (3, 98), (3, 99), (3, 56), (3, 100), (3, 101), (3, 102), (3, 103), (3, 44), (3, 43), (3, 104)] := by decide +kernel
  rw [e]
  intro w hw
  refine ⟨vy_mem hw, (List.all_eq_true (p := vy_md)).mp ?_ w hw⟩
  decide +kernel
theorem at_ISE : ∀ w ∈ vx_atS "BergPatrol" 115 "java/lang/IllegalStateException" ["java/lang/RuntimeException", "java/lang/Exception"], w ∈ lw_tbl ∧ vy_md w = true := by
  have e : vx_atS "BergPatrol" 115 "java/lang/IllegalStateException" ["java/lang/RuntimeException", "java/lang/Exception"] = vy_at [(1, 14), (3, 45), (3, 54), (3, 60), (3, 63), (3, 65), (3, 46), (3, 47), (1, 38), (1, 39), (3, 48), (3, 53), (3, 61), (3, 81), (3, 35), (3, 82), (3, 37), (3, 83), (3, 39), (3, 49), (3, 51), (3, 41), (3, 77), (3, 78), (3, 80), (3, 41), (3, 135), (3, 136), (3, 137), (3, 71), (3, 27), (3, 71), (3, 72), (3, 73), (3, 74), (3, 29), (3, 74), (3, 75), (3, 76), (3, 77), (3, 31), (3, 134), (3, 125), (3, 126), (3, 127), (3, 57), (3, 128), (3, 129), (3, 130), (3, 131), (3, 44), (3, 43), (3, 132)] := by decide +kernel
  rw [e]
  intro w hw
  refine ⟨vy_mem hw, (List.all_eq_true (p := vy_md)).mp ?_ w hw⟩
  decide +kernel
theorem at_UOE : ∀ w ∈ vx_atS "BergPatrol" 134 "java/lang/UnsupportedOperationException" ["java/lang/RuntimeException", "java/lang/Exception"], w ∈ lw_tbl ∧ vy_md w = true := by
  have e : vx_atS "BergPatrol" 134 "java/lang/UnsupportedOperationException" ["java/lang/RuntimeException", "java/lang/Exception"] = vy_at [(1, 14), (3, 45), (3, 54), (3, 60), (3, 63), (3, 65), (3, 46), (3, 47), (1, 38), (1, 39), (3, 48), (3, 53), (3, 61), (3, 81), (3, 35), (3, 82), (3, 37), (3, 83), (3, 39), (3, 49), (3, 51), (3, 41), (3, 77), (3, 78), (3, 80), (3, 41), (3, 164), (3, 165), (3, 166), (3, 71), (3, 27), (3, 71), (3, 72), (3, 73), (3, 74), (3, 29), (3, 74), (3, 75), (3, 76), (3, 77), (3, 31), (3, 163), (3, 154), (3, 155), (3, 156), (3, 58), (3, 157), (3, 158), (3, 159), (3, 160), (3, 44), (3, 43), (3, 161)] := by decide +kernel
  rw [e]
  intro w hw
  refine ⟨vy_mem hw, (List.all_eq_true (p := vy_md)).mp ?_ w hw⟩
  decide +kernel
theorem ab_P.grow {K : ab_K} {ad : Nat → Nat} {S : ab_St} {F : ab_Fn} {A : ab_An} {H H1 : Heap} (h : ab_P K ad S F A H) (hq : ∀ q : Nat, q < H.size → H1[q]? = H[q]?) : ab_P K ad S F A H1 := ⟨fun i sh hi => (h.1 i sh hi).kept (hq _ (h.1 i sh hi).lt), h.2⟩
/-- what is left where a method has thrown -/
def ab_XC (K : ab_K) (ad : Nat → Nat) (S : ab_St) (sz : Nat) (P : String → ab_St → ab_Fn → ab_An → Prop) : String → State → State → Prop := fun X st t => (∃ ad' S' F' A', P X S' F' A' ∧ ab_ext S ad ad' ∧ ab_dom S S' ∧ ab_P K ad' S' F' A' t.heap ∧ (∀ i, S' i ≠ none → ab_A ad S sz (ad' i)) ∧ ab_kn K t) ∧ va_F (ab_A ad S sz) st t
/-- a method that throws: with which class, in which world -/
def ab_XMet (l : Launch) (y : MethodName) (cc : ByteArray) (nL : Nat) (ret : Option FieldType) (rm : Room) (mc ms : Nat) (vs : List ab_V) (S : ab_St) (F : ab_Fn) (A : ab_An) (P : String → ab_St → ab_Fn → ab_An → Prop) : Prop :=
  ∀ (K : ab_K) (ad : Nat → Nat) (sz : Nat), vx_Met l y (Cond.code y cc nL ret :: ab_tb) rm (ab_Pre l K ad S F A sz vs) (fun _ _ _ _ => False) (ab_XC K ad S sz P) mc ms (ab_A ad S sz)
def ab_RetX (E : ab_E) (P : String → ab_St → ab_Fn → ab_An → Prop) (mc ms : Nat) : Prop := match E with
  | (_, _, _, _, s, _, args, below, _, c, Q, K, Am, ad0, S0) => (∀ x ∈ c.exceptionTable.toList, False) ∧ Q = vx_MQ below (fun _ _ _ _ => False) (ab_XC K ad0 S0 s.heap.size P) args s mc ms (ab_A ad0 S0 s.heap.size) ∧ Am = ab_A ad0 S0 s.heap.size
theorem ab_cats {ad : Nat → Nat} : ∀ vs : List ab_V, (∀ v ∈ vs, (ab_val ad v).category = 1) → lg_sl (vs.map (ab_val ad)) = vs.map (fun v => Slot.val (ab_val ad v)) := by
  intro vs
  induction vs with
  | nil => intro _; rfl
  | cons v t ih =>
    intro h
    have h1 := h v List.mem_cons_self
    have h2 := ih (fun w hw => h w (List.mem_cons_of_mem _ hw))
    simp only [lg_sl, List.map_cons, List.flatMap_cons] at h2 ⊢
    rw [h2, if_neg (by omega)]
    rfl
theorem ab_Lin {ad : Nat → Nat} {vs : List ab_V} {nL : Nat} (hcat : ∀ v ∈ vs, (ab_val ad v).category = 1) : ab_L ad (lg_sl (vs.map (ab_val ad)) ++ List.replicate (nL - (lg_sl (vs.map (ab_val ad))).length) Slot.unset).toArray (vs.map some ++ List.replicate (nL - vs.length) none) := by
  intro i v hi
  have hiv : i < vs.length ∧ vs[i]? = some v := by
    by_cases hlt : i < vs.length
    · rw [List.getElem?_append_left (by simpa using hlt), List.getElem?_map] at hi
      refine ⟨hlt, ?_⟩
      cases hx : vs[i]? with
      | none => rw [hx] at hi; cases hi
      | some w => rw [hx] at hi; cases hi; rfl
    · rw [List.getElem?_append_right (by simpa using Nat.not_lt.mp hlt)] at hi
      rw [List.getElem?_replicate] at hi
      split at hi <;> cases hi
  refine ⟨?_, hcat v (List.mem_of_getElem? hiv.2)⟩
  rw [ab_cats vs hcat, List.getElem?_toArray, List.getElem?_append_left (by simpa using hiv.1), List.getElem?_map, hiv.2]
  rfl

theorem ab_enterX {l : Launch} {y : MethodName} {cc : ByteArray} {nL : Nat} {ret : Option FieldType} {rm : Room} {mc ms : Nat} {vs : List ab_V} {S : ab_St} {F : ab_Fn} {A : ab_An} {P : String → ab_St → ab_Fn → ab_An → Prop}
    (hy : plainName y.cls = true) (hcat : ∀ (ad : Nat → Nat) (v : ab_V), v ∈ vs → (ab_val ad v).category = 1) (hlen : vs.length ≤ nL)
    (body : ∀ E : ab_E, ab_C E cc nL y rm → ab_RetX E P mc ms → ab_J E nL 0 0 S F A 0 (vs.map some ++ List.replicate (nL - vs.length) none) []) : ab_XMet l y cc nL ret rm mc ms vs S F A P := by
  intro K ad sz
  refine vx_ofW (cc := cc) (maxL := nL) (ret := ret) hy rfl ?_
  intro p e s m args below meth c s₁ B hml htb hv
  obtain ⟨rfl, hsz, hP, hK, hZ⟩ := hv
  subst hsz
  have hts := atoms_spec (ws := Cond.code y cc nL ret :: ab_tb) B.pre
  have hl0 : (lg_sl (vs.map (ab_val ad))).length ≤ nL := by rw [ab_cats vs (hcat ad), List.length_map]; exact hlen
  have hl := lv_entry (vs.map (ab_val ad)) (n := nL) hl0
  have J := body (p, l, e, rm, s, m, (vs.map (ab_val ad)).toArray, below, meth, c, vx_MQ below (fun _ _ _ _ => False) (ab_XC K ad S s.heap.size P) (vs.map (ab_val ad)).toArray s mc ms (ab_A ad S s.heap.size), K, ab_A ad S s.heap.size, ad, S)
    ⟨B.exec, B.bytes, hml, findClass_of_methodNamed B.named, (name_of_methodNamed B.named B.method).1, fun w hw => hts w (List.mem_cons_of_mem _ hw), hK, fun q h => Or.inr h, B.notSynchronized, hZ, rfl⟩ ⟨htb, rfl, rfl⟩
  rw [lg_entry_eq]
  exact J ad s.heap [] _ ⟨fun _ _ => rfl, fun _ _ => rfl⟩ (fun _ h => h) hl.1 hl.2.1 (ab_Lin (hcat ad)) hP (fun i hi => Or.inl ⟨i, hi, rfl⟩) va_S.rf
section
variable {E : ab_E} {cc : ByteArray} {nL : Nat} {y : MethodName} {rm : Room} {k n : Nat} {S : ab_St} {F : ab_Fn} {A : ab_An} {pc : Nat} {lv : List (Option ab_V)} {st : List ab_V}
theorem j_throwS (C : ab_C E cc nL y rm) {P : String → ab_St → ab_Fn → ab_An → Prop} {mc ms : Nat} (RX : ab_RetX E P mc ms) {cls text : String} {names : List String} {ik is ic j : Nat}
    (hcls : Bundle.fit cls = true) (hnames : ∀ n ∈ names, Bundle.fit n = true) (hk : Cond.classLink y.cls ik cls ∈ ab_tb) (hini : Cond.initialized cls ∈ ab_tb) (hat : ∀ w ∈ vx_atS y.cls ic cls names, w ∈ lw_tbl ∧ vy_md w = true) (hj : j < 20) (htm : ab_tm j = .string y.cls is) (hsr : Cond.stringRef y.cls is text ∈ lw_tbl)
    (hrm : names.length + 3 < rm.frames ∧ k + 1 ≤ rm.cells ∧ n + 6 ≤ rm.slots) (hlo : ∀ ad, ((st.map (ab_val ad)).map fun v => v.category).sum + (13 * (names.length + 1) + 43) ≤ rm.locals) (hc : k + 1 ≤ mc ∧ n + 6 ≤ ms)
    (d0 : decode cc pc = .ok (.new ik, 3)) (d3 : decode cc (pc + 3) = .ok (.dup, 1)) (d4 : decode cc (pc + 4) = .ok (.ldc is, 2)) (d6 : decode cc (pc + 6) = .ok (.invokespecial ic, 3)) (d9 : decode cc (pc + 9) = .ok (.athrow, 1))
    (hP : P cls S F A) : ab_J E nL k n S F A pc lv st := by
  obtain ⟨p, l, e, R, s, m, args, below, meth, c, Q, K, Am, ad0, S0⟩ := E
  obtain ⟨hx, hb, hml, hown, hnm, hts, hK, hA, hlk, hZ, hR⟩ := C
  obtain ⟨htb, hQ, hAm⟩ := RX
  intro ad H locs ls g1 g2 g3 g4 g5 g6 g7 g8
  subst hR
  subst hQ
  refine vx_throwS (A := Am) hx hb hZ.1 (own := y.cls) (cls := cls) (names := names) (sa := ad0 (1000000 + j)) (text := text) hown hcls hnames (hts _ hk) (hts _ hini) (ab_ref hZ hj htm hsr) (fun w hw => vy_mv hZ (hat w hw).1 (hat w hw).2)
    (fun w hw => ?_) (vy_U hZ) (vy_N hZ) g8 (g3.trans hml.symm) d0 d3 d4 d6 d9 (fun x hx => (htb x hx).elim) hrm.1 (hlo ad) hrm.2.1 hrm.2.2 hlk ?_ ?_ hc.1 hc.2
  · rcases List.mem_cons.mp hw with rfl | hw
    · rfl
    · rcases List.mem_cons.mp hw with rfl | hw
      · rfl
      · exact vy_ot (hat w hw).2
  · intro t ht hsz hq
    refine ⟨⟨ad, S, F, A, hP, g1, g2, g6.grow hq, fun i hi => by rw [← hAm]; exact g7 i hi, va_K.moved ht hK⟩, Nat.le_trans g8.1 hsz, fun q h1 h2 => ?_⟩
    rw [hq q (Nat.lt_of_lt_of_le h1 g8.1)]
    exact g8.2.1 q h1 (by rw [hAm]; exact h2)
  · intro z hz
    rw [← hAm]
    exact g8.2.2 z hz
theorem j_throwSW (C : ab_C E cc nL y rm) {P : String → ab_St → ab_Fn → ab_An → Prop} {mc ms : Nat} (RX : ab_RetX E P mc ms) {cls text : String} {names : List String} {ik is ic j : Nat}
    (hcls : Bundle.fit cls = true) (hnames : ∀ n ∈ names, Bundle.fit n = true) (hk : Cond.classLink y.cls ik cls ∈ ab_tb) (hini : Cond.initialized cls ∈ ab_tb) (hat : ∀ w ∈ vx_atS y.cls ic cls names, w ∈ lw_tbl ∧ vy_md w = true) (hj : j < 20) (htm : ab_tm j = .string y.cls is) (hsr : Cond.stringRef y.cls is text ∈ lw_tbl)
    (hrm : names.length + 3 < rm.frames ∧ k + 1 ≤ rm.cells ∧ n + 6 ≤ rm.slots) (hlo : ∀ ad, ((st.map (ab_val ad)).map fun v => v.category).sum + (13 * (names.length + 1) + 43) ≤ rm.locals) (hc : k + 1 ≤ mc ∧ n + 6 ≤ ms)
    (d0 : decode cc pc = .ok (.new ik, 3)) (d3 : decode cc (pc + 3) = .ok (.dup, 1)) (d4 : decode cc (pc + 4) = .ok (.ldc_w is, 3)) (d7 : decode cc (pc + 7) = .ok (.invokespecial ic, 3)) (d10 : decode cc (pc + 10) = .ok (.athrow, 1))
    (hP : P cls S F A) : ab_J E nL k n S F A pc lv st := by
  obtain ⟨p, l, e, R, s, m, args, below, meth, c, Q, K, Am, ad0, S0⟩ := E
  obtain ⟨hx, hb, hml, hown, hnm, hts, hK, hA, hlk, hZ, hR⟩ := C
  obtain ⟨htb, hQ, hAm⟩ := RX
  intro ad H locs ls g1 g2 g3 g4 g5 g6 g7 g8
  subst hR
  subst hQ
  refine vx_throwSW (A := Am) hx hb hZ.1 (own := y.cls) (cls := cls) (names := names) (sa := ad0 (1000000 + j)) (text := text) hown hcls hnames (hts _ hk) (hts _ hini) (ab_ref hZ hj htm hsr) (fun w hw => vy_mv hZ (hat w hw).1 (hat w hw).2)
    (fun w hw => ?_) (vy_U hZ) (vy_N hZ) g8 (g3.trans hml.symm) d0 d3 d4 d7 d10 (fun x hx => (htb x hx).elim) hrm.1 (hlo ad) hrm.2.1 hrm.2.2 hlk ?_ ?_ hc.1 hc.2
  · rcases List.mem_cons.mp hw with rfl | hw
    · rfl
    · rcases List.mem_cons.mp hw with rfl | hw
      · rfl
      · exact vy_ot (hat w hw).2
  · intro t ht hsz hq
    refine ⟨⟨ad, S, F, A, hP, g1, g2, g6.grow hq, fun i hi => by rw [← hAm]; exact g7 i hi, va_K.moved ht hK⟩, Nat.le_trans g8.1 hsz, fun q h1 h2 => ?_⟩
    rw [hq q (Nat.lt_of_lt_of_le h1 g8.1)]
    exact g8.2.1 q h1 (by rw [hAm]; exact h2)
  · intro z hz
    rw [← hAm]
    exact g8.2.2 z hz
/-- where a callee has thrown: what is known in the caller -/
theorem ab_goX {p : Program} {l : Launch} {e : Env} {R : Room} {s : State} {m : MethodId} {args : Array Value} {below : List Frame} {meth : Method} {c : Code} {Q : State → Prop} {K : ab_K} {Am : Nat → Prop} {ad0 : Nat → Nat} {S0 : ab_St} {mc ms : Nat} {P : String → ab_St → ab_Fn → ab_An → Prop} {ad : Nat → Nat} {H : Heap} {locs : List Loc} {ls : Array Slot} {st0 : List Value} {rest : List Value}
    (hr : vx_Run p l e R s m args below meth c H locs k n mc ms (F0 m pc ls st0) rest (fun _ _ _ => False) (ab_XC K ad S H.size P) (ab_A ad S H.size)) (hA : ∀ q, s.heap.size ≤ q → Am q)
    (g1 : ab_ext S0 ad0 ad) (g2 : ab_dom S0 S) (g7 : ∀ i, S i ≠ none → Am (ad i)) (g8 : va_S Am s.heap H locs)
    (h : ∀ (X : String) (ce : Cell) (q : Addr) (ad' : Nat → Nat) (S' : ab_St) (F' : ab_Fn) (A' : ab_An) (H' : Heap) (locs' : List Loc), P X S' F' A' → ab_ext S ad ad' → ab_ext S0 ad0 ad' → ab_dom S0 S' → ab_P K ad' S' F' A' H' → (∀ i, S' i ≠ none → Am (ad' i)) → va_S Am s.heap H' locs' → H'[q]? = some ce → ce.vm = .none → s.vm.findClass X = some ce.cls →
      vx_W p l e R s m args below meth c H' locs' (k + mc) (n + ms) Q (F0 m pc ls rest) q) : W p l e R s m args below meth c H locs k n Q (F0 m pc ls st0) := by
  intro T hT X
  rcases hr T hT X with ⟨v, st₀, t, T', L, -, -, -, -, -, hq, -⟩ | ⟨q, st₀, t, T', L, X9, ce, h0, X', hL, e1, e2, ⟨⟨ad', S', F', A', hP, x1, x2, x3, x4, x5⟩, hz, hk⟩, hce, hcv, hcl, go⟩
  · exact hq.elim
  · rw [h0] at hz hk
    have hAA := ab_A.mono (ad0 := ad0) (sz' := H.size) g7 hA g8.1
    have hS' : va_S Am s.heap t.heap (locs ++ L) := by
      refine ⟨Nat.le_trans g8.1 hz, fun q h1 h2 => ?_, fun q hq => ?_⟩
      · rw [hk q (Nat.lt_of_lt_of_le h1 g8.1) (fun z => h2 (hAA q z))]
        exact g8.2.1 q h1 h2
      · rcases List.mem_append.mp hq with h | h
        · exact g8.2.2 q h
        · exact hAA _ (hL q h)
    obtain ⟨t2, a1, b1⟩ := h X9 ce q ad' S' F' A' t.heap (locs ++ L) hP x1 (g1.trans g2 x1) (g2.trans x2) x3 (fun i hi => hAA _ (x4 i hi)) hS' hce hcv hcl T' e1 X'
    exact ⟨t2, go.trans a1, b1⟩
/-- not caught here -/
theorem ab_passX {p : Program} {l : Launch} {e : Env} {R : Room} {s : State} {m : MethodId} {args : Array Value} {below : List Frame} {meth : Method} {c : Code} {Q : State → Prop} {K : ab_K} {Am : Nat → Prop} {ad0 : Nat → Nat} {S0 : ab_St} {mc ms : Nat} {P : String → ab_St → ab_Fn → ab_An → Prop}
    (C : ab_C (p, l, e, R, s, m, args, below, meth, c, Q, K, Am, ad0, S0) cc nL y rm) (RX : ab_RetX (p, l, e, R, s, m, args, below, meth, c, Q, K, Am, ad0, S0) P mc ms) {X : String} {ce : Cell} {q : Addr} {ad' : Nat → Nat} {S' : ab_St} {F' : ab_Fn} {A' : ab_An} {H' : Heap} {locs' : List Loc} {ls : Array Slot} {rest : List Value}
    (hP : P X S' F' A') (x1 : ab_ext S0 ad0 ad') (x2 : ab_dom S0 S') (x3 : ab_P K ad' S' F' A' H') (x4 : ∀ i, S' i ≠ none → Am (ad' i)) (x5 : va_S Am s.heap H' locs') (x6 : H'[q]? = some ce) (x7 : ce.vm = .none) (x8 : s.vm.findClass X = some ce.cls) (hk : k ≤ mc) (hn : n ≤ ms) :
    vx_W p l e R s m args below meth c H' locs' k n Q (F0 m pc ls rest) q := by
  obtain ⟨hx, hb, hml, hown, hnm, hts, hK, hA, hlk, hZ, hR⟩ := C
  obtain ⟨htb, hQ, hAm⟩ := RX
  subst hQ
  refine vx_out (fun x hx => (htb x hx).elim) hlk x6 x7 x8 (fun t ht hv => ⟨⟨ad', S', F', A', hP, x1, x2, by rw [ht]; exact x3, fun i hi => by rw [← hAm]; exact x4 i hi, va_K.moved hv hK⟩, by rw [ht]; exact x5.1, fun q h1 h2 => by rw [ht]; exact x5.2.1 q h1 (by rw [hAm]; exact h2)⟩) (fun z hz => by rw [← hAm]; exact x5.2.2 z hz) hk hn
theorem j_callXV (C : ab_C E cc nL y rm) {Q : String → ab_St → ab_Fn → ab_An → Prop} {mq mt : Nat} (RX : ab_RetX E Q mq mt) {index i ci : Nat} {z : MethodName} {cz : ByteArray} {nz : Nat} {rz : Option FieldType} {rmz : Room} {mc ms np : Nat} {vs : List ab_V} {sl : Nat → Option (Option Nat)} {r : vw_C} {P : String → ab_St → ab_Fn → ab_An → Prop} (cl : ab_Cl y.cls index z cz nz rz np) (hins : Cond.instanceMethod z ∈ ab_tb) (hsel : Cond.selects z.cls z z ∈ ab_tb)
    (hM : ∀ l, ab_XMet l z cz nz rz rmz mc ms (aR i :: vs) S F A P) (hS : S i = some (sC ci sl)) (hc : vwCl[ci]? = some r) (hcz : r.1 = z.cls) (hnp : vs.length = np) (hrm : rmz.cells = mc ∧ rmz.slots = ms ∧ rmz.frames + 1 ≤ rm.frames ∧ 8 + (nz + 11) + rmz.locals ≤ rm.locals) (hroom : k + mc ≤ rm.cells ∧ n + ms ≤ rm.slots)
    (hcat : ∀ ad, ((st.map (ab_val ad)).map fun v => v.category).sum ≤ 8) (d : decode cc pc = .ok (.invokevirtual index, 3)) (hq : k + mc ≤ mq ∧ n + ms ≤ mt)
    (h : ∀ X S' F' A', P X S' F' A' → Q X S' F' A') : ab_J E nL k n S F A pc lv (vs.reverse ++ aR i :: st) := by
  obtain ⟨p, l, e, R, s, m, args, below, meth, c, Q9, K, Am, ad0, S0⟩ := E
  have C9 := C
  obtain ⟨hx, hb, hml, hown, hnm, hts, hK, hA, hlk, hZ, hR⟩ := C
  intro ad H locs ls g1 g2 g3 g4 g5 g6 g7 g8
  subst hR
  have hAA := ab_A.mono (ad0 := ad0) (sz' := H.size) g7 hA g8.1
  refine ab_goX (P := P) (rest := st.map (ab_val ad)) ?_ hA g1 g2 g7 g8 (fun X ce q ad' S' F' A' H' locs' hP y0 y1 y2 y3 y4 y5 y6 y7 y8 => ab_passX C9 RX (h X S' F' A' hP) y1 y2 y3 y4 y5 y6 y7 y8 hq.1 hq.2)
  have hb9 := ab_callB (R := R) (s := s) (args := args) hts cl hrm.1 hrm.2.1 hrm.2.2.1 hrm.2.2.2
  exact vx_runV (As := vs.map (ab_val ad)) (rest := st.map (ab_val ad)) (Ts := ab_tb) (C := z.cls) ⟨hx, hb, hml, hown, hts⟩ (hM l K ad H.size) ⟨hb9, hts _ hins, hts _ hsel⟩
    ⟨ab_blind, (by rw [← hcz]; exact ab_recv hK g6 hc hS), fun U hU hW => ⟨rfl, by rw [hU], by rw [hU]; exact g6, va_K.moved hW.alike hK, by rw [hU]; exact hZ.to g1.2 g8 hW hAA⟩⟩ rfl (by rw [List.length_map]; exact hnp) g3 (by simp [F0, List.map_append, List.map_reverse]; rfl) (by show 2 * 0 + _ ≤ 8; have := hcat ad; omega) d hroom
theorem j_callXS (C : ab_C E cc nL y rm) {Q : String → ab_St → ab_Fn → ab_An → Prop} {mq mt : Nat} (RX : ab_RetX E Q mq mt) {index : Nat} {z : MethodName} {cz : ByteArray} {nz : Nat} {rz : Option FieldType} {rmz : Room} {mc ms np : Nat} {vs : List ab_V} {P : String → ab_St → ab_Fn → ab_An → Prop} (cl : ab_Cl y.cls index z cz nz rz np) (hsta : Cond.static z ∈ ab_tb)
    (hM : ∀ l, ab_XMet l z cz nz rz rmz mc ms vs S F A P) (hnp : vs.length = np) (hrm : rmz.cells = mc ∧ rmz.slots = ms ∧ rmz.frames + 1 ≤ rm.frames ∧ 8 + (nz + 11) + rmz.locals ≤ rm.locals) (hroom : k + mc ≤ rm.cells ∧ n + ms ≤ rm.slots)
    (hcat : ∀ ad, ((st.map (ab_val ad)).map fun v => v.category).sum ≤ 8) (d : decode cc pc = .ok (.invokestatic index, 3)) (hq : k + mc ≤ mq ∧ n + ms ≤ mt)
    (h : ∀ X S' F' A', P X S' F' A' → Q X S' F' A') : ab_J E nL k n S F A pc lv (vs.reverse ++ st) := by
  obtain ⟨p, l, e, R, s, m, args, below, meth, c, Q9, K, Am, ad0, S0⟩ := E
  have C9 := C
  obtain ⟨hx, hb, hml, hown, hnm, hts, hK, hA, hlk, hZ, hR⟩ := C
  intro ad H locs ls g1 g2 g3 g4 g5 g6 g7 g8
  subst hR
  have hAA := ab_A.mono (ad0 := ad0) (sz' := H.size) g7 hA g8.1
  refine ab_goX (P := P) (rest := st.map (ab_val ad)) ?_ hA g1 g2 g7 g8 (fun X ce q ad' S' F' A' H' locs' hP y0 y1 y2 y3 y4 y5 y6 y7 y8 => ab_passX C9 RX (h X S' F' A' hP) y1 y2 y3 y4 y5 y6 y7 y8 hq.1 hq.2)
  have hb9 := ab_callB (R := R) (s := s) (args := args) hts cl hrm.1 hrm.2.1 hrm.2.2.1 hrm.2.2.2
  exact vx_runS (As := vs.map (ab_val ad)) (rest := st.map (ab_val ad)) (Ts := ab_tb) ⟨hx, hb, hml, hown, hts⟩ (hM l K ad H.size) ⟨hb9, hts _ hsta⟩
    ⟨ab_blind, fun U hU hW => ⟨rfl, by rw [hU], by rw [hU]; exact g6, va_K.moved hW.alike hK, by rw [hU]; exact hZ.to g1.2 g8 hW hAA⟩⟩ rfl (by rw [List.length_map]; exact hnp) g3 (by simp [F0, List.map_append, List.map_reverse]) (by show 2 * 0 + _ ≤ 8; have := hcat ad; omega) d hroom
/-- the table of the running method -/
def ab_T (E : ab_E) (hh : List (Nat × Nat × Nat × Nat)) : Prop := match E with
  | (_, _, _, _, _, _, _, _, _, c, _, _, _, _, _) => c.exceptionTable.toList = tableOf hh
/-- X is not a nm, by the premises -/
def vy_no (X nm : String) : Prop := ∀ (s0 : State) (b0 : Nat), ab_S0 s0 b0 → (Cond.not (.castable X nm)).before #[Value.ref b0] s0 = true
theorem vy_nc {l : Launch} {ad : Nat → Nat} {Am : Nat → Prop} {s : State} (hZ : ab_Z l ad Am s s.heap) {X nm : String} (h : vy_no X nm) : va_Nc X nm s := by
  obtain ⟨h0, s0, b0, hS, hc, hW, -⟩ := hZ
  exact va_Nc.moved hW.alike (va_Nc.of (h s0 b0 hS))
/-- caught here -/
theorem j_catchV (C : ab_C E cc nL y rm) {pre suf : List (Nat × Nat × Nat × Nat)} {x : Nat × Nat × Nat × Nat} (hT : ab_T E (pre ++ x :: suf)) {index i ci : Nat} {z : MethodName} {cz : ByteArray} {nz : Nat} {rz : Option FieldType} {rmz : Room} {mc ms np : Nat} {vs : List ab_V} {sl : Nat → Option (Option Nat)} {r : vw_C} {X0 : String} {P : ab_St → ab_Fn → ab_An → Prop} (cl : ab_Cl y.cls index z cz nz rz np) (hins : Cond.instanceMethod z ∈ ab_tb) (hsel : Cond.selects z.cls z z ∈ ab_tb)
    (hM : ∀ l, ab_XMet l z cz nz rz rmz mc ms (aR i :: vs) S F A (fun X S' F' A' => X = X0 ∧ P S' F' A')) (hS : S i = some (sC ci sl)) (hc : vwCl[ci]? = some r) (hcz : r.1 = z.cls) (hnp : vs.length = np) (hrm : rmz.cells = mc ∧ rmz.slots = ms ∧ rmz.frames + 1 ≤ rm.frames ∧ 8 + (nz + 11) + rmz.locals ≤ rm.locals) (hroom : k + mc ≤ rm.cells ∧ n + ms ≤ rm.slots)
    (hcat : ∀ ad, ((st.map (ab_val ad)).map fun v => v.category).sum ≤ 8) (d : decode cc pc = .ok (.invokevirtual index, 3)) (hlv : ∀ v, some v ∈ lv → ab_live S v)
    (hpre : ∀ q ∈ pre, q.2.2.2 ≠ 0 ∧ ∃ nm, Cond.classLink y.cls q.2.2.2 nm ∈ ab_tb ∧ vy_no X0 nm) (hcov : x.1 ≤ pc ∧ pc < x.2.1) (hx0 : x.2.2.2 ≠ 0) (hlink : Cond.classLink y.cls x.2.2.2 X0 ∈ ab_tb) (hcast : Cond.castable X0 X0 ∈ lw_tbl)
    (h : ∀ S' F' A' q, P S' F' A' → ab_J E nL (k + mc) (n + ms) S' F' A' x.2.2.1 lv [aX (.ref q)]) : ab_J E nL k n S F A pc lv (vs.reverse ++ aR i :: st) := by
  obtain ⟨p, l, e, R, s, m, args, below, meth, c, Q9, K, Am, ad0, S0⟩ := E
  obtain ⟨hx, hb, hml, hown, hnm, hts, hK, hA, hlk, hZ, hR⟩ := C
  intro ad H locs ls g1 g2 g3 g4 g5 g6 g7 g8
  subst hR
  have hAA := ab_A.mono (ad0 := ad0) (sz' := H.size) g7 hA g8.1
  refine ab_goX (K := K) (mc := mc) (ms := ms) (P := fun X S' F' A' => X = X0 ∧ P S' F' A') (rest := st.map (ab_val ad)) ?_ hA g1 g2 g7 g8 (fun X ce q ad' S' F' A' H' locs' hP y0 y1 y2 y3 y4 y5 y6 y7 y8 => ?_)
  · have hb9 := ab_callB (R := R) (s := s) (args := args) hts cl hrm.1 hrm.2.1 hrm.2.2.1 hrm.2.2.2
    exact vx_runV (As := vs.map (ab_val ad)) (rest := st.map (ab_val ad)) (Ts := ab_tb) (C := z.cls) ⟨hx, hb, hml, hown, hts⟩ (hM l K ad H.size) ⟨hb9, hts _ hins, hts _ hsel⟩
      ⟨ab_blind, (by rw [← hcz]; exact ab_recv hK g6 hc hS), fun U hU hW => ⟨rfl, by rw [hU], by rw [hU]; exact g6, va_K.moved hW.alike hK, by rw [hU]; exact hZ.to g1.2 g8 hW hAA⟩⟩ rfl (by rw [List.length_map]; exact hnp) g3 (by simp [F0, List.map_append, List.map_reverse]; rfl) (by show 2 * 0 + _ ≤ 8; have := hcat ad; omega) d hroom
  · obtain ⟨rfl, hP⟩ := hP
    have hT9 : c.exceptionTable.toList = tableOf pre ++ ⟨x.1, x.2.1, x.2.2.1, x.2.2.2⟩ :: tableOf suf := by
      have e9 : c.exceptionTable.toList = tableOf (pre ++ x :: suf) := hT
      rw [e9]; unfold tableOf; rw [List.map_append]; rfl
    refine vx_catch (own := y.cls) (name := X) hown (tableOf pre) _ (tableOf suf) hT9 (fun z hz => ?_) ?_ hx0 (hts _ hlink) (vy_mv hZ hcast rfl) y6 y7 y8 ?_
    · obtain ⟨q9, hq9, rfl⟩ := List.mem_map.mp hz
      obtain ⟨a1, nm, a2, a3⟩ := hpre q9 hq9
      exact Or.inr ⟨a1, nm, hts _ a2, vy_nc hZ a3⟩
    · simp [covers, hcov.1, hcov.2]
    · exact h S' F' A' q hP ad' H' locs' ls y1 y2 g3 g4 (ab_lvs y0 hlv g5) y3 y4 y5
end
/-- contracts of methods with an exception table -/
def ab_MetH (l : Launch) (y : MethodName) (cc : ByteArray) (nL : Nat) (ret : Option FieldType) (hh : List (Nat × Nat × Nat × Nat)) (rm : Room) (mc ms : Nat) (vs : List ab_V) (S : ab_St) (F : ab_Fn) (A : ab_An) (P : Option ab_V → ab_St → ab_Fn → ab_An → Prop) : Prop :=
  ∀ (K : ab_K) (ad : Nat → Nat) (sz : Nat), Met l y (Cond.codeWith y cc nL ret hh :: ab_tb) rm (ab_Pre l K ad S F A sz vs) (ab_Post K ad S sz P) mc ms (ab_A ad S sz)
theorem ab_enterH {l : Launch} {y : MethodName} {cc : ByteArray} {nL : Nat} {ret : Option FieldType} {hh : List (Nat × Nat × Nat × Nat)} {rm : Room} {mc ms : Nat} {vs : List ab_V} {S : ab_St} {F : ab_Fn} {A : ab_An} {P : Option ab_V → ab_St → ab_Fn → ab_An → Prop}
    (hy : plainName y.cls = true) (hcat : ∀ (ad : Nat → Nat) (v : ab_V), v ∈ vs → (ab_val ad v).category = 1) (hlen : vs.length ≤ nL)
    (body : ∀ E : ab_E, ab_C E cc nL y rm → ab_T E hh → ab_Ret E ret P mc ms → ab_J E nL 0 0 S F A 0 (vs.map some ++ List.replicate (nL - vs.length) none) []) : ab_MetH l y cc nL ret hh rm mc ms vs S F A P := by
  intro K ad sz
  refine MetFree.of_bodyS (code := cc) (maxLocals := nL) (ret := ret) hy ?_ ?_
  · intro args s m h hn
    obtain ⟨m9, meth, c, hn9, h1, h2, h3, h4, -, h5, h6, -⟩ := Cond.codeWith_spec (atoms_spec (ws := Cond.codeWith y cc nL ret hh :: ab_tb) h _ List.mem_cons_self)
    cases hn.symm.trans hn9
    exact ⟨meth, c, h1, h2, h3, h4, h5, h6⟩
  · intro p e s m args below meth c s₁ B hml hv _
    have hh0 : s₁.heap = s.heap := by rw [B.state]; rfl
    obtain ⟨rfl, hsz, hP, hK, hZ⟩ := hv
    subst hsz
    have hts := atoms_spec (ws := Cond.codeWith y cc nL ret hh :: ab_tb) B.pre
    have hl0 : (lg_sl (vs.map (ab_val ad))).length ≤ nL := by rw [ab_cats vs (hcat ad), List.length_map]; exact hlen
    have hl := lv_entry (vs.map (ab_val ad)) (n := nL) hl0
    have J := body (p, l, e, rm, s, m, (vs.map (ab_val ad)).toArray, below, meth, c, MQ below (ab_Post K ad S s.heap.size P) (vs.map (ab_val ad)).toArray s mc ms (ab_A ad S s.heap.size), K, ab_A ad S s.heap.size, ad, S)
      ⟨B.exec, B.bytes, hml, findClass_of_methodNamed B.named, (name_of_methodNamed B.named B.method).1, fun w hw => hts w (List.mem_cons_of_mem _ hw), hK, fun q h => Or.inr h, B.notSynchronized, hZ, rfl⟩ (vx_table (x := y) B (hts _ List.mem_cons_self)) ⟨B.returns, rfl, rfl⟩
    have J2 := J ad s.heap [] _ ⟨fun _ _ => rfl, fun _ _ => rfl⟩ (fun _ h => h) hl.1 hl.2.1 (ab_Lin (hcat ad)) hP (fun i hi => Or.inl ⟨i, hi, rfl⟩) va_S.rf
    obtain ⟨t, a1, o, b1, b2, b3⟩ := J2 s₁ hh0 (Stand.of_body B)
    refine ⟨t, o, ?_, b1, b2, ⟨b3.1, b3.2⟩⟩
    rw [lg_entry_eq]
    exact a1
def ab_ClH (own : String) (index : Nat) (y : MethodName) (cc : ByteArray) (nL : Nat) (ret : Option FieldType) (hh : List (Nat × Nat × Nat × Nat)) (np : Nat) : Prop := Cond.codeWith y cc nL ret hh ∈ ab_tb ∧ Cond.methodLink own index y ∈ ab_tb ∧ Cond.initialized y.cls ∈ ab_tb ∧ (y.cls ≠ "java/lang/invoke/MethodHandle" ∧ y.cls ≠ "java/lang/invoke/VarHandle") ∧ (parseMethodDescriptor y.desc).map (fun d => d.parameters.length) = some np
theorem j_callSH {E : ab_E} {cc : ByteArray} {nL : Nat} {y : MethodName} {rm : Room} {k n : Nat} {S : ab_St} {F : ab_Fn} {A : ab_An} {pc : Nat} {lv : List (Option ab_V)} {st : List ab_V} (C : ab_C E cc nL y rm) {index : Nat} {z : MethodName} {cz : ByteArray} {nz : Nat} {rz : Option FieldType} {hh : List (Nat × Nat × Nat × Nat)} {rmz : Room} {mc ms np : Nat} {vs : List ab_V} {P : Option ab_V → ab_St → ab_Fn → ab_An → Prop} (cl : ab_ClH y.cls index z cz nz rz hh np) (hsta : Cond.static z ∈ ab_tb)
    (hM : ∀ l, ab_MetH l z cz nz rz hh rmz mc ms vs S F A P) (hnp : vs.length = np) (hrm : rmz.cells = mc ∧ rmz.slots = ms ∧ rmz.frames + 1 ≤ rm.frames ∧ 8 + (nz + 11) + rmz.locals ≤ rm.locals) (hroom : k + mc ≤ rm.cells ∧ n + ms ≤ rm.slots)
    (hcat : ∀ ad, ((st.map (ab_val ad)).map fun v => v.category).sum ≤ 8) (hst : ∀ v ∈ st, ab_live S v) (hlv : ∀ v, some v ∈ lv → ab_live S v) (d : decode cc pc = .ok (.invokestatic index, 3))
    (h : ∀ v S' F' A', P v S' F' A' → ab_J E nL (k + mc) (n + ms) S' F' A' (pc + 3) lv (v.toList ++ st)) : ab_J E nL k n S F A pc lv (vs.reverse ++ st) := by
  obtain ⟨p, l, e, R, s, m, args, below, meth, c, Q, K, Am, ad0, S0⟩ := E
  obtain ⟨hx, hb, hml, hown, hnm, hts, hK, hA, hlk, hZ, hR⟩ := C
  intro ad H locs ls g1 g2 g3 g4 g5 g6 g7 g8
  subst hR
  have hAA := ab_A.mono (ad0 := ad0) (sz' := H.size) g7 hA g8.1
  refine ab_goOn (a := (vs.map (ab_val ad)).toArray) (P := P) ?_ hA (fun ad' x => ab_stk x hst) (fun ad' x => ab_lvs x hlv g5) g1 g2 g3 g4 g7 g8 h
  obtain ⟨c1, c2, c3, c4, c5⟩ := cl
  have hG : GoodIn ab_tb (Cond.codeWith z cz nz rz hh :: ab_tb) := fun w hw => by
    rcases List.mem_cons.mp hw with rfl | hw
    · exact ⟨c1, good_of_word (ab_good c1)⟩
    · exact ⟨hw, good_of_word (ab_good hw)⟩
  exact vx_runSW (As := vs.map (ab_val ad)) (rest := st.map (ab_val ad)) (Ts := ab_tb) (n := np) ⟨hx, hb, hml, hown, hts⟩ (hM l K ad H.size) ⟨⟨hrm.1, hrm.2.1, hrm.2.2.1, hrm.2.2.2, pay_in hts hG, List.mem_cons_self⟩, hts _ c1, hts _ c3, c4, fun sig h => by rw [h] at c5; exact (Option.some.inj c5).symm, hts _ c2, hts _ hsta⟩
    ⟨ab_blind, fun U hU hW => ⟨rfl, by rw [hU], by rw [hU]; exact g6, va_K.moved hW.alike hK, by rw [hU]; exact hZ.to g1.2 g8 hW hAA⟩⟩ rfl (by rw [List.length_map]; exact hnp) g3 (by simp [F0, List.map_append, List.map_reverse]) (by show 2 * 0 + _ ≤ 8; have := hcat ad; omega) d hroom
