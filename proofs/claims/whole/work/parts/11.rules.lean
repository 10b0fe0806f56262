theorem ab_add (a b : Int) : Int32.ofInt a + Int32.ofInt b = Int32.ofInt (a + b) := Int32.toInt_inj.1 (by simp [Int32.toInt_add, Int32.toInt_ofInt])
theorem ab_sub (a b : Int) : Int32.ofInt a - Int32.ofInt b = Int32.ofInt (a - b) := Int32.toInt_inj.1 (by simp [Int32.toInt_sub, Int32.toInt_ofInt])
theorem ab_mul (a b : Int) : Int32.ofInt a * Int32.ofInt b = Int32.ofInt (a * b) := Int32.toInt_inj.1 (by simp [Int32.toInt_mul, Int32.toInt_ofInt])
theorem ab_neg (a : Int) : -Int32.ofInt a = Int32.ofInt (-a) := (Int32.ofInt_neg a).symm
theorem ab_toInt {a : Int} (h : inR a) : (Int32.ofInt a).toInt = a := Int32.toInt_ofInt_of_le (by have := h.1; omega) (by have := h.2; omega)
theorem ab_lt {a b : Int} (ha : inR a) (hb : inR b) : Int32.ofInt a < Int32.ofInt b ↔ a < b := by rw [Int32.lt_iff_toInt_lt, ab_toInt ha, ab_toInt hb]
theorem ab_le {a b : Int} (ha : inR a) (hb : inR b) : Int32.ofInt a ≤ Int32.ofInt b ↔ a ≤ b := by rw [Int32.le_iff_toInt_le, ab_toInt ha, ab_toInt hb]
theorem ab_eq {a b : Int} (ha : inR a) (hb : inR b) : Int32.ofInt a = Int32.ofInt b ↔ a = b := by rw [← Int32.toInt_inj, ab_toInt ha, ab_toInt hb]
theorem ab_0 : (0 : Int32) = Int32.ofInt 0 := rfl
theorem inR_0 : inR 0 := ⟨by decide, by decide⟩
theorem inR_of (x : Int32) : inR x.toInt := ⟨by have := x.le_toInt; omega, by have := x.toInt_lt; omega⟩
theorem ab_clamp {a : Int} (h : 0 ≤ a) (h2 : a < 2147483648) : (Int32.ofInt a).toNatClampNeg = a.toNat := Int32.toNatClampNeg_ofInt_of_le (by omega) (by omega)
theorem ab_in {a : Int} {N : Nat} (h : 0 ≤ a) (h2 : a < (N : Int)) (hN : (N : Int) < 2147483648) : ¬ (Int32.ofInt a < 0 ∨ N ≤ (Int32.ofInt a).toNatClampNeg) := by
  rw [ab_clamp h (by omega), ab_0, ab_lt ⟨by omega, by omega⟩ inR_0]
  omega
theorem ab_div {a b : Int} (ha : 0 ≤ a) (ha2 : a < 2147483648) (hb : 0 < b) (hb2 : b < 2147483648) : Int32.ofInt a / Int32.ofInt b = Int32.ofInt (a / b) := by
  have h1 : inR a := ⟨by omega, ha2⟩
  have h2 : inR b := ⟨by omega, hb2⟩
  have hd : 0 ≤ a / b := Int.ediv_nonneg ha (by omega)
  have hd2 : a / b ≤ a := Int.ediv_le_self b ha
  rw [← Int32.toInt_inj, Int32.toInt_div_of_ne_right _ _ (fun h => ?_), ab_toInt h1, ab_toInt h2, ab_toInt ⟨by omega, by omega⟩, Int.tdiv_eq_ediv_of_nonneg ha]
  have := congrArg Int32.toInt h
  rw [ab_toInt h2] at this
  have h3 : (-1 : Int32).toInt = -1 := rfl
  omega
theorem ab_rem {a b : Int} (ha : 0 ≤ a) (ha2 : a < 2147483648) (hb : 0 < b) (hb2 : b < 2147483648) : Int32.ofInt a - Int32.ofInt a / Int32.ofInt b * Int32.ofInt b = Int32.ofInt (a % b) := by
  rw [ab_div ha ha2 hb hb2, ab_mul, ab_sub]
  congr 1
  have := Int.emod_add_mul_ediv a b
  rw [Int.mul_comm b] at this
  omega
theorem ab_nz {b : Int} (hb : 0 < b) (hb2 : b < 2147483648) : ¬ Int32.ofInt b = 0 := by
  rw [ab_0, ab_eq ⟨by omega, hb2⟩ inR_0]
  omega
theorem ab_back (x : Int32) : Int32.ofInt x.toInt = x := Int32.ofInt_toInt x
theorem ab_backL (x : Int64) : Int64.ofInt x.toInt = x := Int64.ofInt_toInt x
section
variable {E : ab_E} {cc : ByteArray} {nL : Nat} {y : MethodName} {rm : Room} {k n : Nat} {S : ab_St} {F : ab_Fn} {A : ab_An} {pc : Nat} {lv : List (Option ab_V)} {st : List ab_V}
theorem j_iconst (C : ab_C E cc nL y rm) {z : Int} (d : decode cc pc = .ok (.iconst z, 1))  (h : ab_J E nL k n S F A (pc + 1) lv (aI z :: st)) : ab_J E nL k n S F A pc lv (st) := by
  obtain ⟨p, l, e, R, s, m, args, below, meth, c, Q, K, Am, ad0, S0⟩ := E
  obtain ⟨hx, hb, -⟩ := C
  intro ad H locs ls g1 g2 g3 g4 g5 g6 g7 g8
  have q := h ad H locs ls g1 g2 g3 g4 g5 g6 g7 g8
  exact lv_iconst hx hb d rfl q
theorem j_bipush (C : ab_C E cc nL y rm) {z : Int} (d : decode cc pc = .ok (.bipush z, 2)) (hv : (Int8.ofInt z).toInt32 = Int32.ofInt z) (h : ab_J E nL k n S F A (pc + 2) lv (aI z :: st)) : ab_J E nL k n S F A pc lv (st) := by
  obtain ⟨p, l, e, R, s, m, args, below, meth, c, Q, K, Am, ad0, S0⟩ := E
  obtain ⟨hx, hb, -⟩ := C
  intro ad H locs ls g1 g2 g3 g4 g5 g6 g7 g8
  have q := h ad H locs ls g1 g2 g3 g4 g5 g6 g7 g8
  exact lv_bipush hx hb d hv q
theorem j_sipush (C : ab_C E cc nL y rm) {z : Int} (d : decode cc pc = .ok (.sipush z, 3)) (hv : (Int16.ofInt z).toInt32 = Int32.ofInt z) (h : ab_J E nL k n S F A (pc + 3) lv (aI z :: st)) : ab_J E nL k n S F A pc lv (st) := by
  obtain ⟨p, l, e, R, s, m, args, below, meth, c, Q, K, Am, ad0, S0⟩ := E
  obtain ⟨hx, hb, -⟩ := C
  intro ad H locs ls g1 g2 g3 g4 g5 g6 g7 g8
  have q := h ad H locs ls g1 g2 g3 g4 g5 g6 g7 g8
  exact lv_sipush hx hb d hv q
theorem j_lconst (C : ab_C E cc nL y rm) {z : Fin 2} (d : decode cc pc = .ok (.lconst z, 1))  (h : ab_J E nL k n S F A (pc + 1) lv (aL ((z : Nat) : Int) :: st)) : ab_J E nL k n S F A pc lv (st) := by
  obtain ⟨p, l, e, R, s, m, args, below, meth, c, Q, K, Am, ad0, S0⟩ := E
  obtain ⟨hx, hb, -⟩ := C
  intro ad H locs ls g1 g2 g3 g4 g5 g6 g7 g8
  have q := h ad H locs ls g1 g2 g3 g4 g5 g6 g7 g8
  exact lv_lconst hx hb d (Int64.ofInt_eq_ofNat (n := (z : Nat))).symm q
theorem j_iload_n (C : ab_C E cc nL y rm) {j : Fin 4} {i : Nat} {a : Int} (d : decode cc pc = .ok (.iload_n j, 1)) (hi : (j : Nat) = i) (hl : lv[i]? = some (some (aI a))) (h : ab_J E nL k n S F A (pc + 1) lv (aI a :: st)) : ab_J E nL k n S F A pc lv (st) := by
  obtain ⟨p, l, e, R, s, m, args, below, meth, c, Q, K, Am, ad0, S0⟩ := E
  obtain ⟨hx, hb, -⟩ := C
  intro ad H locs ls g1 g2 g3 g4 g5 g6 g7 g8
  have q := h ad H locs ls g1 g2 g3 g4 g5 g6 g7 g8
  exact lv_iload_n hx hb d hi (g5 i _ hl).1 q
theorem j_iload (C : ab_C E cc nL y rm) {i : Nat} {a : Int} (d : decode cc pc = .ok (.iload i, 2)) (hl : lv[i]? = some (some (aI a))) (h : ab_J E nL k n S F A (pc + 2) lv (aI a :: st)) : ab_J E nL k n S F A pc lv (st) := by
  obtain ⟨p, l, e, R, s, m, args, below, meth, c, Q, K, Am, ad0, S0⟩ := E
  obtain ⟨hx, hb, -⟩ := C
  intro ad H locs ls g1 g2 g3 g4 g5 g6 g7 g8
  have q := h ad H locs ls g1 g2 g3 g4 g5 g6 g7 g8
  exact lv_iload hx hb d (g5 i _ hl).1 q
theorem j_aload_n (C : ab_C E cc nL y rm) {j : Fin 4} {i : Nat} {a : Nat} (d : decode cc pc = .ok (.aload_n j, 1)) (hi : (j : Nat) = i) (hl : lv[i]? = some (some (aR a))) (h : ab_J E nL k n S F A (pc + 1) lv (aR a :: st)) : ab_J E nL k n S F A pc lv (st) := by
  obtain ⟨p, l, e, R, s, m, args, below, meth, c, Q, K, Am, ad0, S0⟩ := E
  obtain ⟨hx, hb, -⟩ := C
  intro ad H locs ls g1 g2 g3 g4 g5 g6 g7 g8
  have q := h ad H locs ls g1 g2 g3 g4 g5 g6 g7 g8
  exact lv_aload_n hx hb d hi (g5 i _ hl).1 q
theorem j_aload (C : ab_C E cc nL y rm) {i : Nat} {a : Nat} (d : decode cc pc = .ok (.aload i, 2)) (hl : lv[i]? = some (some (aR a))) (h : ab_J E nL k n S F A (pc + 2) lv (aR a :: st)) : ab_J E nL k n S F A pc lv (st) := by
  obtain ⟨p, l, e, R, s, m, args, below, meth, c, Q, K, Am, ad0, S0⟩ := E
  obtain ⟨hx, hb, -⟩ := C
  intro ad H locs ls g1 g2 g3 g4 g5 g6 g7 g8
  have q := h ad H locs ls g1 g2 g3 g4 g5 g6 g7 g8
  exact lv_aload hx hb d (g5 i _ hl).1 q
theorem j_xload_n (C : ab_C E cc nL y rm) {j : Fin 4} {i : Nat} {a : Nat} (d : decode cc pc = .ok (.aload_n j, 1)) (hi : (j : Nat) = i) (hl : lv[i]? = some (some (aX (.ref a)))) (h : ab_J E nL k n S F A (pc + 1) lv (aX (.ref a) :: st)) : ab_J E nL k n S F A pc lv (st) := by
  obtain ⟨p, l, e, R, s, m, args, below, meth, c, Q, K, Am, ad0, S0⟩ := E
  obtain ⟨hx, hb, -⟩ := C
  intro ad H locs ls g1 g2 g3 g4 g5 g6 g7 g8
  have q := h ad H locs ls g1 g2 g3 g4 g5 g6 g7 g8
  exact lv_aload_n hx hb d hi (g5 i _ hl).1 q
theorem j_xload (C : ab_C E cc nL y rm) {i : Nat} {a : Nat} (d : decode cc pc = .ok (.aload i, 2)) (hl : lv[i]? = some (some (aX (.ref a)))) (h : ab_J E nL k n S F A (pc + 2) lv (aX (.ref a) :: st)) : ab_J E nL k n S F A pc lv (st) := by
  obtain ⟨p, l, e, R, s, m, args, below, meth, c, Q, K, Am, ad0, S0⟩ := E
  obtain ⟨hx, hb, -⟩ := C
  intro ad H locs ls g1 g2 g3 g4 g5 g6 g7 g8
  have q := h ad H locs ls g1 g2 g3 g4 g5 g6 g7 g8
  exact lv_aload hx hb d (g5 i _ hl).1 q
theorem j_istore_n (C : ab_C E cc nL y rm) {j : Fin 4} {i : Nat} {a : Int} {lv' : List (Option ab_V)} (d : decode cc pc = .ok (.istore_n j, 1)) (hi : (j : Nat) = i) (hn : i < nL) (hl : lv.set i (some (aI a)) = lv') (h : ab_J E nL k n S F A (pc + 1) lv' st) : ab_J E nL k n S F A pc lv (aI a :: st) := by
  obtain ⟨p, l, e, R, s, m, args, below, meth, c, Q, K, Am, ad0, S0⟩ := E
  obtain ⟨hx, hb, -⟩ := C
  intro ad H locs ls g1 g2 g3 g4 g5 g6 g7 g8
  subst hl
  obtain ⟨ls', e', s1, s2, s3, s4⟩ := ab_store (v := ab_val ad (aI a)) g3 g4 hn rfl
  have q := h ad H locs ls' g1 g2 s1 s2 (g5.put rfl s3 s4) g6 g7 g8
  subst hi
  intro T hT X
  obtain ⟨t, a1, b1⟩ := q T hT X
  refine ⟨t, ?_, b1⟩
  jvm_step X.here [X.here.top, ↓top_set X.here.top, hx, hb, d, aI, ab_val]
  exact ⟨ls', e', a1⟩
theorem j_istore (C : ab_C E cc nL y rm) {i : Nat} {a : Int} {lv' : List (Option ab_V)} (d : decode cc pc = .ok (.istore i, 2))  (hn : i < nL) (hl : lv.set i (some (aI a)) = lv') (h : ab_J E nL k n S F A (pc + 2) lv' st) : ab_J E nL k n S F A pc lv (aI a :: st) := by
  obtain ⟨p, l, e, R, s, m, args, below, meth, c, Q, K, Am, ad0, S0⟩ := E
  obtain ⟨hx, hb, -⟩ := C
  intro ad H locs ls g1 g2 g3 g4 g5 g6 g7 g8
  subst hl
  obtain ⟨ls', e', s1, s2, s3, s4⟩ := ab_store (v := ab_val ad (aI a)) g3 g4 hn rfl
  have q := h ad H locs ls' g1 g2 s1 s2 (g5.put rfl s3 s4) g6 g7 g8

  intro T hT X
  obtain ⟨t, a1, b1⟩ := q T hT X
  refine ⟨t, ?_, b1⟩
  jvm_step X.here [X.here.top, ↓top_set X.here.top, hx, hb, d, aI, ab_val]
  exact ⟨ls', e', a1⟩
theorem j_astore_n (C : ab_C E cc nL y rm) {j : Fin 4} {i : Nat} {a : Nat} {lv' : List (Option ab_V)} (d : decode cc pc = .ok (.astore_n j, 1)) (hi : (j : Nat) = i) (hn : i < nL) (hl : lv.set i (some (aR a)) = lv') (h : ab_J E nL k n S F A (pc + 1) lv' st) : ab_J E nL k n S F A pc lv (aR a :: st) := by
  obtain ⟨p, l, e, R, s, m, args, below, meth, c, Q, K, Am, ad0, S0⟩ := E
  obtain ⟨hx, hb, -⟩ := C
  intro ad H locs ls g1 g2 g3 g4 g5 g6 g7 g8
  subst hl
  obtain ⟨ls', e', s1, s2, s3, s4⟩ := ab_store (v := ab_val ad (aR a)) g3 g4 hn rfl
  have q := h ad H locs ls' g1 g2 s1 s2 (g5.put rfl s3 s4) g6 g7 g8
  subst hi
  intro T hT X
  obtain ⟨t, a1, b1⟩ := q T hT X
  refine ⟨t, ?_, b1⟩
  jvm_step X.here [X.here.top, ↓top_set X.here.top, hx, hb, d, aR, ab_val, Value.isRef]
  exact ⟨ls', e', a1⟩
theorem j_astore (C : ab_C E cc nL y rm) {i : Nat} {a : Nat} {lv' : List (Option ab_V)} (d : decode cc pc = .ok (.astore i, 2))  (hn : i < nL) (hl : lv.set i (some (aR a)) = lv') (h : ab_J E nL k n S F A (pc + 2) lv' st) : ab_J E nL k n S F A pc lv (aR a :: st) := by
  obtain ⟨p, l, e, R, s, m, args, below, meth, c, Q, K, Am, ad0, S0⟩ := E
  obtain ⟨hx, hb, -⟩ := C
  intro ad H locs ls g1 g2 g3 g4 g5 g6 g7 g8
  subst hl
  obtain ⟨ls', e', s1, s2, s3, s4⟩ := ab_store (v := ab_val ad (aR a)) g3 g4 hn rfl
  have q := h ad H locs ls' g1 g2 s1 s2 (g5.put rfl s3 s4) g6 g7 g8

  intro T hT X
  obtain ⟨t, a1, b1⟩ := q T hT X
  refine ⟨t, ?_, b1⟩
  jvm_step X.here [X.here.top, ↓top_set X.here.top, hx, hb, d, aR, ab_val, Value.isRef]
  exact ⟨ls', e', a1⟩
theorem j_xstore_n (C : ab_C E cc nL y rm) {j : Fin 4} {i : Nat} {a : Nat} {lv' : List (Option ab_V)} (d : decode cc pc = .ok (.astore_n j, 1)) (hi : (j : Nat) = i) (hn : i < nL) (hl : lv.set i (some (aX (.ref a))) = lv') (h : ab_J E nL k n S F A (pc + 1) lv' st) : ab_J E nL k n S F A pc lv (aX (.ref a) :: st) := by
  obtain ⟨p, l, e, R, s, m, args, below, meth, c, Q, K, Am, ad0, S0⟩ := E
  obtain ⟨hx, hb, -⟩ := C
  intro ad H locs ls g1 g2 g3 g4 g5 g6 g7 g8
  subst hl
  obtain ⟨ls', e', s1, s2, s3, s4⟩ := ab_store (v := ab_val ad (aX (.ref a))) g3 g4 hn rfl
  have q := h ad H locs ls' g1 g2 s1 s2 (g5.put rfl s3 s4) g6 g7 g8
  subst hi
  intro T hT X
  obtain ⟨t, a1, b1⟩ := q T hT X
  refine ⟨t, ?_, b1⟩
  jvm_step X.here [X.here.top, ↓top_set X.here.top, hx, hb, d, aX, ab_val, Value.isRef]
  exact ⟨ls', e', a1⟩
theorem j_xstore (C : ab_C E cc nL y rm) {i : Nat} {a : Nat} {lv' : List (Option ab_V)} (d : decode cc pc = .ok (.astore i, 2))  (hn : i < nL) (hl : lv.set i (some (aX (.ref a))) = lv') (h : ab_J E nL k n S F A (pc + 2) lv' st) : ab_J E nL k n S F A pc lv (aX (.ref a) :: st) := by
  obtain ⟨p, l, e, R, s, m, args, below, meth, c, Q, K, Am, ad0, S0⟩ := E
  obtain ⟨hx, hb, -⟩ := C
  intro ad H locs ls g1 g2 g3 g4 g5 g6 g7 g8
  subst hl
  obtain ⟨ls', e', s1, s2, s3, s4⟩ := ab_store (v := ab_val ad (aX (.ref a))) g3 g4 hn rfl
  have q := h ad H locs ls' g1 g2 s1 s2 (g5.put rfl s3 s4) g6 g7 g8

  intro T hT X
  obtain ⟨t, a1, b1⟩ := q T hT X
  refine ⟨t, ?_, b1⟩
  jvm_step X.here [X.here.top, ↓top_set X.here.top, hx, hb, d, aX, ab_val, Value.isRef]
  exact ⟨ls', e', a1⟩
theorem j_iinc (C : ab_C E cc nL y rm) {i : Nat} {z a : Int} {lv' : List (Option ab_V)} (d : decode cc pc = .ok (.iinc i z, 3)) (hl0 : lv[i]? = some (some (aI a))) (hn : i < nL) (hl : lv.set i (some (aI (a + z))) = lv') (h : ab_J E nL k n S F A (pc + 3) lv' st) : ab_J E nL k n S F A pc lv st := by
  obtain ⟨p, l, e, R, s, m, args, below, meth, c, Q, K, Am, ad0, S0⟩ := E
  obtain ⟨hx, hb, -⟩ := C
  intro ad H locs ls g1 g2 g3 g4 g5 g6 g7 g8
  subst hl
  obtain ⟨ls', e', s1, s2, s3, s4⟩ := ab_store (v := ab_val ad (aI (a + z))) g3 g4 hn rfl
  have q := h ad H locs ls' g1 g2 s1 s2 (g5.put rfl s3 s4) g6 g7 g8
  have hg : ls[i]? = some (.val (.int (Int32.ofInt a))) := (g5 i _ hl0).1
  have e2 : storeLocals ls i (.int (Int32.ofInt a + Int32.ofInt z)) = some ls' := by rw [ab_add]; exact e'
  intro T hT X
  obtain ⟨t, a1, b1⟩ := q T hT X
  refine ⟨t, ?_, b1⟩
  jvm_step X.here [X.here.top, ↓top_set X.here.top, hx, hb, d, hg, e2]
  exact a1
theorem j_iadd (C : ab_C E cc nL y rm) {a b : Int} (d : decode cc pc = .ok (.iadd, 1))  (h : ab_J E nL k n S F A (pc + 1) lv (aI (a + b) :: st)) : ab_J E nL k n S F A pc lv (aI b :: aI a :: st) := by
  obtain ⟨p, l, e, R, s, m, args, below, meth, c, Q, K, Am, ad0, S0⟩ := E
  obtain ⟨hx, hb, -⟩ := C
  intro ad H locs ls g1 g2 g3 g4 g5 g6 g7 g8
  have q := h ad H locs ls g1 g2 g3 g4 g5 g6 g7 g8
  refine lv_iadd hx hb d  ?_
  rw [ab_add]
  exact q
theorem j_isub (C : ab_C E cc nL y rm) {a b : Int} (d : decode cc pc = .ok (.isub, 1))  (h : ab_J E nL k n S F A (pc + 1) lv (aI (a - b) :: st)) : ab_J E nL k n S F A pc lv (aI b :: aI a :: st) := by
  obtain ⟨p, l, e, R, s, m, args, below, meth, c, Q, K, Am, ad0, S0⟩ := E
  obtain ⟨hx, hb, -⟩ := C
  intro ad H locs ls g1 g2 g3 g4 g5 g6 g7 g8
  have q := h ad H locs ls g1 g2 g3 g4 g5 g6 g7 g8
  refine lv_isub hx hb d  ?_
  rw [ab_sub]
  exact q
theorem j_imul (C : ab_C E cc nL y rm) {a b : Int} (d : decode cc pc = .ok (.imul, 1))  (h : ab_J E nL k n S F A (pc + 1) lv (aI (a * b) :: st)) : ab_J E nL k n S F A pc lv (aI b :: aI a :: st) := by
  obtain ⟨p, l, e, R, s, m, args, below, meth, c, Q, K, Am, ad0, S0⟩ := E
  obtain ⟨hx, hb, -⟩ := C
  intro ad H locs ls g1 g2 g3 g4 g5 g6 g7 g8
  have q := h ad H locs ls g1 g2 g3 g4 g5 g6 g7 g8
  refine lv_imul hx hb d  ?_
  rw [ab_mul]
  exact q
theorem j_ineg (C : ab_C E cc nL y rm) {a : Int} (d : decode cc pc = .ok (.ineg, 1))  (h : ab_J E nL k n S F A (pc + 1) lv (aI (-a) :: st)) : ab_J E nL k n S F A pc lv (aI a :: st) := by
  obtain ⟨p, l, e, R, s, m, args, below, meth, c, Q, K, Am, ad0, S0⟩ := E
  obtain ⟨hx, hb, -⟩ := C
  intro ad H locs ls g1 g2 g3 g4 g5 g6 g7 g8
  have q := h ad H locs ls g1 g2 g3 g4 g5 g6 g7 g8
  refine lv_ineg hx hb d  ?_
  rw [ab_neg]
  exact q
theorem j_idiv (C : ab_C E cc nL y rm) {a b : Int} (d : decode cc pc = .ok (.idiv, 1)) (ha : 0 ≤ a) (ha2 : a < 2147483648) (hb1 : 0 < b) (hb2 : b < 2147483648) (h : ab_J E nL k n S F A (pc + 1) lv (aI (a / b) :: st)) : ab_J E nL k n S F A pc lv (aI b :: aI a :: st) := by
  obtain ⟨p, l, e, R, s, m, args, below, meth, c, Q, K, Am, ad0, S0⟩ := E
  obtain ⟨hx, hb, -⟩ := C
  intro ad H locs ls g1 g2 g3 g4 g5 g6 g7 g8
  have q := h ad H locs ls g1 g2 g3 g4 g5 g6 g7 g8
  refine lv_idiv hx hb d (ab_nz hb1 hb2) ?_
  rw [ab_div ha ha2 hb1 hb2]
  exact q
theorem j_irem (C : ab_C E cc nL y rm) {a b : Int} (d : decode cc pc = .ok (.irem, 1)) (ha : 0 ≤ a) (ha2 : a < 2147483648) (hb1 : 0 < b) (hb2 : b < 2147483648) (h : ab_J E nL k n S F A (pc + 1) lv (aI (a % b) :: st)) : ab_J E nL k n S F A pc lv (aI b :: aI a :: st) := by
  obtain ⟨p, l, e, R, s, m, args, below, meth, c, Q, K, Am, ad0, S0⟩ := E
  obtain ⟨hx, hb, -⟩ := C
  intro ad H locs ls g1 g2 g3 g4 g5 g6 g7 g8
  have q := h ad H locs ls g1 g2 g3 g4 g5 g6 g7 g8
  refine lv_irem hx hb d (ab_nz hb1 hb2) ?_
  rw [ab_rem ha ha2 hb1 hb2]
  exact q
theorem j_iand (C : ab_C E cc nL y rm) {a b : Int} (d : decode cc pc = .ok (.iand, 1))  (h : ab_J E nL k n S F A (pc + 1) lv (aI (Int32.ofInt a &&& Int32.ofInt b).toInt :: st)) : ab_J E nL k n S F A pc lv (aI b :: aI a :: st) := by
  obtain ⟨p, l, e, R, s, m, args, below, meth, c, Q, K, Am, ad0, S0⟩ := E
  obtain ⟨hx, hb, -⟩ := C
  intro ad H locs ls g1 g2 g3 g4 g5 g6 g7 g8
  have q := h ad H locs ls g1 g2 g3 g4 g5 g6 g7 g8
  refine lv_iand hx hb d  ?_
  rw [← ab_back (Int32.ofInt a &&& Int32.ofInt b)]
  exact q
theorem j_ior (C : ab_C E cc nL y rm) {a b : Int} (d : decode cc pc = .ok (.ior, 1))  (h : ab_J E nL k n S F A (pc + 1) lv (aI (Int32.ofInt a ||| Int32.ofInt b).toInt :: st)) : ab_J E nL k n S F A pc lv (aI b :: aI a :: st) := by
  obtain ⟨p, l, e, R, s, m, args, below, meth, c, Q, K, Am, ad0, S0⟩ := E
  obtain ⟨hx, hb, -⟩ := C
  intro ad H locs ls g1 g2 g3 g4 g5 g6 g7 g8
  have q := h ad H locs ls g1 g2 g3 g4 g5 g6 g7 g8
  refine lv_ior hx hb d  ?_
  rw [← ab_back (Int32.ofInt a ||| Int32.ofInt b)]
  exact q
theorem j_ishl (C : ab_C E cc nL y rm) {a b : Int} (d : decode cc pc = .ok (.ishl, 1))  (h : ab_J E nL k n S F A (pc + 1) lv (aI (Int32.ofInt a <<< (Int32.ofInt b &&& 31)).toInt :: st)) : ab_J E nL k n S F A pc lv (aI b :: aI a :: st) := by
  obtain ⟨p, l, e, R, s, m, args, below, meth, c, Q, K, Am, ad0, S0⟩ := E
  obtain ⟨hx, hb, -⟩ := C
  intro ad H locs ls g1 g2 g3 g4 g5 g6 g7 g8
  have q := h ad H locs ls g1 g2 g3 g4 g5 g6 g7 g8
  refine lv_ishl hx hb d  ?_
  rw [← ab_back (Int32.ofInt a <<< (Int32.ofInt b &&& 31))]
  exact q
theorem j_ishr (C : ab_C E cc nL y rm) {a b : Int} (d : decode cc pc = .ok (.ishr, 1))  (h : ab_J E nL k n S F A (pc + 1) lv (aI (Int32.ofInt a >>> (Int32.ofInt b &&& 31)).toInt :: st)) : ab_J E nL k n S F A pc lv (aI b :: aI a :: st) := by
  obtain ⟨p, l, e, R, s, m, args, below, meth, c, Q, K, Am, ad0, S0⟩ := E
  obtain ⟨hx, hb, -⟩ := C
  intro ad H locs ls g1 g2 g3 g4 g5 g6 g7 g8
  have q := h ad H locs ls g1 g2 g3 g4 g5 g6 g7 g8
  refine lv_ishr hx hb d  ?_
  rw [← ab_back (Int32.ofInt a >>> (Int32.ofInt b &&& 31))]
  exact q
theorem j_iushr (C : ab_C E cc nL y rm) {a b : Int} (d : decode cc pc = .ok (.iushr, 1))  (h : ab_J E nL k n S F A (pc + 1) lv (aI ((Int32.ofInt a).toUInt32 >>> ((Int32.ofInt b).toUInt32 &&& Int32.toUInt32 31)).toInt32.toInt :: st)) : ab_J E nL k n S F A pc lv (aI b :: aI a :: st) := by
  obtain ⟨p, l, e, R, s, m, args, below, meth, c, Q, K, Am, ad0, S0⟩ := E
  obtain ⟨hx, hb, -⟩ := C
  intro ad H locs ls g1 g2 g3 g4 g5 g6 g7 g8
  have q := h ad H locs ls g1 g2 g3 g4 g5 g6 g7 g8
  refine lv_iushr hx hb d rfl ?_
  rw [← ab_back ((Int32.ofInt a).toUInt32 >>> ((Int32.ofInt b).toUInt32 &&& Int32.toUInt32 31)).toInt32]
  exact q
theorem j_i2b (C : ab_C E cc nL y rm) {a : Int} (d : decode cc pc = .ok (.i2b, 1))  (h : ab_J E nL k n S F A (pc + 1) lv (aI (Int32.ofInt a).toInt8.toInt32.toInt :: st)) : ab_J E nL k n S F A pc lv (aI a :: st) := by
  obtain ⟨p, l, e, R, s, m, args, below, meth, c, Q, K, Am, ad0, S0⟩ := E
  obtain ⟨hx, hb, -⟩ := C
  intro ad H locs ls g1 g2 g3 g4 g5 g6 g7 g8
  have q := h ad H locs ls g1 g2 g3 g4 g5 g6 g7 g8
  refine lv_i2b hx hb d rfl ?_
  rw [← ab_back (Int32.ofInt a).toInt8.toInt32]
  exact q
theorem j_i2c (C : ab_C E cc nL y rm) {a : Int} (d : decode cc pc = .ok (.i2c, 1))  (h : ab_J E nL k n S F A (pc + 1) lv (aI ((Int32.ofInt a).toUInt32 % 65536).toInt32.toInt :: st)) : ab_J E nL k n S F A pc lv (aI a :: st) := by
  obtain ⟨p, l, e, R, s, m, args, below, meth, c, Q, K, Am, ad0, S0⟩ := E
  obtain ⟨hx, hb, -⟩ := C
  intro ad H locs ls g1 g2 g3 g4 g5 g6 g7 g8
  have q := h ad H locs ls g1 g2 g3 g4 g5 g6 g7 g8
  refine lv_i2c hx hb d rfl ?_
  rw [← ab_back ((Int32.ofInt a).toUInt32 % 65536).toInt32]
  exact q
theorem j_i2l (C : ab_C E cc nL y rm) {a : Int} (d : decode cc pc = .ok (.i2l, 1))  (h : ab_J E nL k n S F A (pc + 1) lv (aL (Int32.ofInt a).toInt :: st)) : ab_J E nL k n S F A pc lv (aI a :: st) := by
  obtain ⟨p, l, e, R, s, m, args, below, meth, c, Q, K, Am, ad0, S0⟩ := E
  obtain ⟨hx, hb, -⟩ := C
  intro ad H locs ls g1 g2 g3 g4 g5 g6 g7 g8
  have q := h ad H locs ls g1 g2 g3 g4 g5 g6 g7 g8
  refine lv_i2l hx hb d rfl ?_
  exact q
theorem j_dup (C : ab_C E cc nL y rm) {v : ab_V} (d : decode cc pc = .ok (.dup, 1)) (hv : ∀ ad, (ab_val ad v).category = 1) (h : ab_J E nL k n S F A (pc + 1) lv (v :: v :: st)) : ab_J E nL k n S F A pc lv (v :: st) := by
  obtain ⟨p, l, e, R, s, m, args, below, meth, c, Q, K, Am, ad0, S0⟩ := E
  obtain ⟨hx, hb, -⟩ := C
  intro ad H locs ls g1 g2 g3 g4 g5 g6 g7 g8
  have q := h ad H locs ls g1 g2 g3 g4 g5 g6 g7 g8
  refine lv_dup hx hb d (hv ad) ?_
  exact q
theorem j_pop (C : ab_C E cc nL y rm) {v : ab_V} (d : decode cc pc = .ok (.pop, 1)) (hv : ∀ ad, (ab_val ad v).category = 1) (h : ab_J E nL k n S F A (pc + 1) lv (st)) : ab_J E nL k n S F A pc lv (v :: st) := by
  obtain ⟨p, l, e, R, s, m, args, below, meth, c, Q, K, Am, ad0, S0⟩ := E
  obtain ⟨hx, hb, -⟩ := C
  intro ad H locs ls g1 g2 g3 g4 g5 g6 g7 g8
  have q := h ad H locs ls g1 g2 g3 g4 g5 g6 g7 g8
  refine lv_pop hx hb d (hv ad) ?_
  exact q
theorem j_dup_x1 (C : ab_C E cc nL y rm) {v w : ab_V} (d : decode cc pc = .ok (.dup_x1, 1)) (hv : ∀ ad, (ab_val ad v).category = 1) (hw : ∀ ad, (ab_val ad w).category = 1) (h : ab_J E nL k n S F A (pc + 1) lv (v :: w :: v :: st)) : ab_J E nL k n S F A pc lv (v :: w :: st) := by
  obtain ⟨p, l, e, R, s, m, args, below, meth, c, Q, K, Am, ad0, S0⟩ := E
  obtain ⟨hx, hb, -⟩ := C
  intro ad H locs ls g1 g2 g3 g4 g5 g6 g7 g8
  have q := h ad H locs ls g1 g2 g3 g4 g5 g6 g7 g8
  refine lv_dup_x1 hx hb d (hv ad) (hw ad) ?_
  exact q
theorem j_dup2 (C : ab_C E cc nL y rm) {v w : ab_V} (d : decode cc pc = .ok (.dup2, 1)) (hv : ∀ ad, (ab_val ad v).category = 1) (hw : ∀ ad, (ab_val ad w).category = 1) (h : ab_J E nL k n S F A (pc + 1) lv (v :: w :: v :: w :: st)) : ab_J E nL k n S F A pc lv (v :: w :: st) := by
  obtain ⟨p, l, e, R, s, m, args, below, meth, c, Q, K, Am, ad0, S0⟩ := E
  obtain ⟨hx, hb, -⟩ := C
  intro ad H locs ls g1 g2 g3 g4 g5 g6 g7 g8
  have q := h ad H locs ls g1 g2 g3 g4 g5 g6 g7 g8
  refine lv_dup2_11 hx hb d (hv ad) (hw ad) ?_
  exact q
theorem j_icmp_eq (C : ab_C E cc nL y rm) {a b : Int} {off : Int} {tgt : Nat} (d : decode cc pc = .ok (.if_icmp .eq off, 3)) (ht : (pc : Int) + off = (tgt : Int)) (ha : inR a) (hb1 : inR b) (kt : a = b → ab_J E nL k n S F A tgt lv st) (kf : ¬ (a = b) → ab_J E nL k n S F A (pc + 3) lv st) : ab_J E nL k n S F A pc lv (aI b :: aI a :: st) := by
  obtain ⟨p, l, e, R, s, m, args, below, meth, c, Q, K, Am, ad0, S0⟩ := E
  obtain ⟨hx, hb, -⟩ := C
  intro ad H locs ls g1 g2 g3 g4 g5 g6 g7 g8
  have key : Int32.ofInt a = Int32.ofInt b ↔ a = b := ab_eq ha hb1
  refine lv_icmp_eq hx hb d ht (fun hc => ?_) (fun hc => ?_)
  · exact kt (by first | exact key.mp hc | exact fun z => hc (key.mpr z)) ad H locs ls g1 g2 g3 g4 g5 g6 g7 g8
  · exact kf (by first | exact fun z => hc (key.mpr z) | exact key.mp hc | exact key.mp (Classical.not_not.mp hc)) ad H locs ls g1 g2 g3 g4 g5 g6 g7 g8
theorem j_if_eq (C : ab_C E cc nL y rm) {a : Int} {off : Int} {tgt : Nat} (d : decode cc pc = .ok (.ifCond .eq off, 3)) (ht : (pc : Int) + off = (tgt : Int)) (ha : inR a) (kt : a = 0 → ab_J E nL k n S F A tgt lv st) (kf : ¬ (a = 0) → ab_J E nL k n S F A (pc + 3) lv st) : ab_J E nL k n S F A pc lv (aI a :: st) := by
  obtain ⟨p, l, e, R, s, m, args, below, meth, c, Q, K, Am, ad0, S0⟩ := E
  obtain ⟨hx, hb, -⟩ := C
  intro ad H locs ls g1 g2 g3 g4 g5 g6 g7 g8
  have key : Int32.ofInt a = (0 : Int32) ↔ a = 0 := ab_eq ha inR_0
  refine lv_if_eq hx hb d ht (fun hc => ?_) (fun hc => ?_)
  · exact kt (by first | exact key.mp hc | exact fun z => hc (key.mpr z)) ad H locs ls g1 g2 g3 g4 g5 g6 g7 g8
  · exact kf (by first | exact fun z => hc (key.mpr z) | exact key.mp hc | exact key.mp (Classical.not_not.mp hc)) ad H locs ls g1 g2 g3 g4 g5 g6 g7 g8
theorem j_icmp_ne (C : ab_C E cc nL y rm) {a b : Int} {off : Int} {tgt : Nat} (d : decode cc pc = .ok (.if_icmp .ne off, 3)) (ht : (pc : Int) + off = (tgt : Int)) (ha : inR a) (hb1 : inR b) (kt : ¬ (a = b) → ab_J E nL k n S F A tgt lv st) (kf : a = b → ab_J E nL k n S F A (pc + 3) lv st) : ab_J E nL k n S F A pc lv (aI b :: aI a :: st) := by
  obtain ⟨p, l, e, R, s, m, args, below, meth, c, Q, K, Am, ad0, S0⟩ := E
  obtain ⟨hx, hb, -⟩ := C
  intro ad H locs ls g1 g2 g3 g4 g5 g6 g7 g8
  have key : Int32.ofInt a = Int32.ofInt b ↔ a = b := ab_eq ha hb1
  refine lv_icmp_ne hx hb d ht (fun hc => ?_) (fun hc => ?_)
  · exact kt (by first | exact key.mp hc | exact fun z => hc (key.mpr z)) ad H locs ls g1 g2 g3 g4 g5 g6 g7 g8
  · exact kf (by first | exact fun z => hc (key.mpr z) | exact key.mp hc | exact key.mp (Classical.not_not.mp hc)) ad H locs ls g1 g2 g3 g4 g5 g6 g7 g8
theorem j_if_ne (C : ab_C E cc nL y rm) {a : Int} {off : Int} {tgt : Nat} (d : decode cc pc = .ok (.ifCond .ne off, 3)) (ht : (pc : Int) + off = (tgt : Int)) (ha : inR a) (kt : ¬ (a = 0) → ab_J E nL k n S F A tgt lv st) (kf : a = 0 → ab_J E nL k n S F A (pc + 3) lv st) : ab_J E nL k n S F A pc lv (aI a :: st) := by
  obtain ⟨p, l, e, R, s, m, args, below, meth, c, Q, K, Am, ad0, S0⟩ := E
  obtain ⟨hx, hb, -⟩ := C
  intro ad H locs ls g1 g2 g3 g4 g5 g6 g7 g8
  have key : Int32.ofInt a = (0 : Int32) ↔ a = 0 := ab_eq ha inR_0
  refine lv_if_ne hx hb d ht (fun hc => ?_) (fun hc => ?_)
  · exact kt (by first | exact key.mp hc | exact fun z => hc (key.mpr z)) ad H locs ls g1 g2 g3 g4 g5 g6 g7 g8
  · exact kf (by first | exact fun z => hc (key.mpr z) | exact key.mp hc | exact key.mp (Classical.not_not.mp hc)) ad H locs ls g1 g2 g3 g4 g5 g6 g7 g8
theorem j_icmp_lt (C : ab_C E cc nL y rm) {a b : Int} {off : Int} {tgt : Nat} (d : decode cc pc = .ok (.if_icmp .lt off, 3)) (ht : (pc : Int) + off = (tgt : Int)) (ha : inR a) (hb1 : inR b) (kt : a < b → ab_J E nL k n S F A tgt lv st) (kf : ¬ (a < b) → ab_J E nL k n S F A (pc + 3) lv st) : ab_J E nL k n S F A pc lv (aI b :: aI a :: st) := by
  obtain ⟨p, l, e, R, s, m, args, below, meth, c, Q, K, Am, ad0, S0⟩ := E
  obtain ⟨hx, hb, -⟩ := C
  intro ad H locs ls g1 g2 g3 g4 g5 g6 g7 g8
  have key : Int32.ofInt a < Int32.ofInt b ↔ a < b := ab_lt ha hb1
  refine lv_icmp_lt hx hb d ht (fun hc => ?_) (fun hc => ?_)
  · exact kt (by first | exact key.mp hc | exact fun z => hc (key.mpr z)) ad H locs ls g1 g2 g3 g4 g5 g6 g7 g8
  · exact kf (by first | exact fun z => hc (key.mpr z) | exact key.mp hc | exact key.mp (Classical.not_not.mp hc)) ad H locs ls g1 g2 g3 g4 g5 g6 g7 g8
theorem j_if_lt (C : ab_C E cc nL y rm) {a : Int} {off : Int} {tgt : Nat} (d : decode cc pc = .ok (.ifCond .lt off, 3)) (ht : (pc : Int) + off = (tgt : Int)) (ha : inR a) (kt : a < 0 → ab_J E nL k n S F A tgt lv st) (kf : ¬ (a < 0) → ab_J E nL k n S F A (pc + 3) lv st) : ab_J E nL k n S F A pc lv (aI a :: st) := by
  obtain ⟨p, l, e, R, s, m, args, below, meth, c, Q, K, Am, ad0, S0⟩ := E
  obtain ⟨hx, hb, -⟩ := C
  intro ad H locs ls g1 g2 g3 g4 g5 g6 g7 g8
  have key : Int32.ofInt a < (0 : Int32) ↔ a < 0 := ab_lt ha inR_0
  refine lv_if_lt hx hb d ht (fun hc => ?_) (fun hc => ?_)
  · exact kt (by first | exact key.mp hc | exact fun z => hc (key.mpr z)) ad H locs ls g1 g2 g3 g4 g5 g6 g7 g8
  · exact kf (by first | exact fun z => hc (key.mpr z) | exact key.mp hc | exact key.mp (Classical.not_not.mp hc)) ad H locs ls g1 g2 g3 g4 g5 g6 g7 g8
theorem j_icmp_ge (C : ab_C E cc nL y rm) {a b : Int} {off : Int} {tgt : Nat} (d : decode cc pc = .ok (.if_icmp .ge off, 3)) (ht : (pc : Int) + off = (tgt : Int)) (ha : inR a) (hb1 : inR b) (kt : b ≤ a → ab_J E nL k n S F A tgt lv st) (kf : ¬ (b ≤ a) → ab_J E nL k n S F A (pc + 3) lv st) : ab_J E nL k n S F A pc lv (aI b :: aI a :: st) := by
  obtain ⟨p, l, e, R, s, m, args, below, meth, c, Q, K, Am, ad0, S0⟩ := E
  obtain ⟨hx, hb, -⟩ := C
  intro ad H locs ls g1 g2 g3 g4 g5 g6 g7 g8
  have key : Int32.ofInt b ≤ Int32.ofInt a ↔ b ≤ a := ab_le hb1 ha
  refine lv_icmp_ge hx hb d ht (fun hc => ?_) (fun hc => ?_)
  · exact kt (by first | exact key.mp hc | exact fun z => hc (key.mpr z)) ad H locs ls g1 g2 g3 g4 g5 g6 g7 g8
  · exact kf (by first | exact fun z => hc (key.mpr z) | exact key.mp hc | exact key.mp (Classical.not_not.mp hc)) ad H locs ls g1 g2 g3 g4 g5 g6 g7 g8
theorem j_if_ge (C : ab_C E cc nL y rm) {a : Int} {off : Int} {tgt : Nat} (d : decode cc pc = .ok (.ifCond .ge off, 3)) (ht : (pc : Int) + off = (tgt : Int)) (ha : inR a) (kt : 0 ≤ a → ab_J E nL k n S F A tgt lv st) (kf : ¬ (0 ≤ a) → ab_J E nL k n S F A (pc + 3) lv st) : ab_J E nL k n S F A pc lv (aI a :: st) := by
  obtain ⟨p, l, e, R, s, m, args, below, meth, c, Q, K, Am, ad0, S0⟩ := E
  obtain ⟨hx, hb, -⟩ := C
  intro ad H locs ls g1 g2 g3 g4 g5 g6 g7 g8
  have key : (0 : Int32) ≤ Int32.ofInt a ↔ 0 ≤ a := ab_le inR_0 ha
  refine lv_if_ge hx hb d ht (fun hc => ?_) (fun hc => ?_)
  · exact kt (by first | exact key.mp hc | exact fun z => hc (key.mpr z)) ad H locs ls g1 g2 g3 g4 g5 g6 g7 g8
  · exact kf (by first | exact fun z => hc (key.mpr z) | exact key.mp hc | exact key.mp (Classical.not_not.mp hc)) ad H locs ls g1 g2 g3 g4 g5 g6 g7 g8
theorem j_icmp_gt (C : ab_C E cc nL y rm) {a b : Int} {off : Int} {tgt : Nat} (d : decode cc pc = .ok (.if_icmp .gt off, 3)) (ht : (pc : Int) + off = (tgt : Int)) (ha : inR a) (hb1 : inR b) (kt : b < a → ab_J E nL k n S F A tgt lv st) (kf : ¬ (b < a) → ab_J E nL k n S F A (pc + 3) lv st) : ab_J E nL k n S F A pc lv (aI b :: aI a :: st) := by
  obtain ⟨p, l, e, R, s, m, args, below, meth, c, Q, K, Am, ad0, S0⟩ := E
  obtain ⟨hx, hb, -⟩ := C
  intro ad H locs ls g1 g2 g3 g4 g5 g6 g7 g8
  have key : Int32.ofInt b < Int32.ofInt a ↔ b < a := ab_lt hb1 ha
  refine lv_icmp_gt hx hb d ht (fun hc => ?_) (fun hc => ?_)
  · exact kt (by first | exact key.mp hc | exact fun z => hc (key.mpr z)) ad H locs ls g1 g2 g3 g4 g5 g6 g7 g8
  · exact kf (by first | exact fun z => hc (key.mpr z) | exact key.mp hc | exact key.mp (Classical.not_not.mp hc)) ad H locs ls g1 g2 g3 g4 g5 g6 g7 g8
theorem j_if_gt (C : ab_C E cc nL y rm) {a : Int} {off : Int} {tgt : Nat} (d : decode cc pc = .ok (.ifCond .gt off, 3)) (ht : (pc : Int) + off = (tgt : Int)) (ha : inR a) (kt : 0 < a → ab_J E nL k n S F A tgt lv st) (kf : ¬ (0 < a) → ab_J E nL k n S F A (pc + 3) lv st) : ab_J E nL k n S F A pc lv (aI a :: st) := by
  obtain ⟨p, l, e, R, s, m, args, below, meth, c, Q, K, Am, ad0, S0⟩ := E
  obtain ⟨hx, hb, -⟩ := C
  intro ad H locs ls g1 g2 g3 g4 g5 g6 g7 g8
  have key : (0 : Int32) < Int32.ofInt a ↔ 0 < a := ab_lt inR_0 ha
  refine lv_if_gt hx hb d ht (fun hc => ?_) (fun hc => ?_)
  · exact kt (by first | exact key.mp hc | exact fun z => hc (key.mpr z)) ad H locs ls g1 g2 g3 g4 g5 g6 g7 g8
  · exact kf (by first | exact fun z => hc (key.mpr z) | exact key.mp hc | exact key.mp (Classical.not_not.mp hc)) ad H locs ls g1 g2 g3 g4 g5 g6 g7 g8
theorem j_icmp_le (C : ab_C E cc nL y rm) {a b : Int} {off : Int} {tgt : Nat} (d : decode cc pc = .ok (.if_icmp .le off, 3)) (ht : (pc : Int) + off = (tgt : Int)) (ha : inR a) (hb1 : inR b) (kt : a ≤ b → ab_J E nL k n S F A tgt lv st) (kf : ¬ (a ≤ b) → ab_J E nL k n S F A (pc + 3) lv st) : ab_J E nL k n S F A pc lv (aI b :: aI a :: st) := by
  obtain ⟨p, l, e, R, s, m, args, below, meth, c, Q, K, Am, ad0, S0⟩ := E
  obtain ⟨hx, hb, -⟩ := C
  intro ad H locs ls g1 g2 g3 g4 g5 g6 g7 g8
  have key : Int32.ofInt a ≤ Int32.ofInt b ↔ a ≤ b := ab_le ha hb1
  refine lv_icmp_le hx hb d ht (fun hc => ?_) (fun hc => ?_)
  · exact kt (by first | exact key.mp hc | exact fun z => hc (key.mpr z)) ad H locs ls g1 g2 g3 g4 g5 g6 g7 g8
  · exact kf (by first | exact fun z => hc (key.mpr z) | exact key.mp hc | exact key.mp (Classical.not_not.mp hc)) ad H locs ls g1 g2 g3 g4 g5 g6 g7 g8
theorem j_if_le (C : ab_C E cc nL y rm) {a : Int} {off : Int} {tgt : Nat} (d : decode cc pc = .ok (.ifCond .le off, 3)) (ht : (pc : Int) + off = (tgt : Int)) (ha : inR a) (kt : a ≤ 0 → ab_J E nL k n S F A tgt lv st) (kf : ¬ (a ≤ 0) → ab_J E nL k n S F A (pc + 3) lv st) : ab_J E nL k n S F A pc lv (aI a :: st) := by
  obtain ⟨p, l, e, R, s, m, args, below, meth, c, Q, K, Am, ad0, S0⟩ := E
  obtain ⟨hx, hb, -⟩ := C
  intro ad H locs ls g1 g2 g3 g4 g5 g6 g7 g8
  have key : Int32.ofInt a ≤ (0 : Int32) ↔ a ≤ 0 := ab_le ha inR_0
  refine lv_if_le hx hb d ht (fun hc => ?_) (fun hc => ?_)
  · exact kt (by first | exact key.mp hc | exact fun z => hc (key.mpr z)) ad H locs ls g1 g2 g3 g4 g5 g6 g7 g8
  · exact kf (by first | exact fun z => hc (key.mpr z) | exact key.mp hc | exact key.mp (Classical.not_not.mp hc)) ad H locs ls g1 g2 g3 g4 g5 g6 g7 g8
theorem j_goto (C : ab_C E cc nL y rm) {off : Int} {tgt : Nat} (d : decode cc pc = .ok (.goto off, 3)) (ht : (pc : Int) + off = (tgt : Int)) (h : ab_J E nL k n S F A tgt lv st) : ab_J E nL k n S F A pc lv st := by
  obtain ⟨p, l, e, R, s, m, args, below, meth, c, Q, K, Am, ad0, S0⟩ := E
  obtain ⟨hx, hb, -⟩ := C
  intro ad H locs ls g1 g2 g3 g4 g5 g6 g7 g8
  exact lv_goto hx hb d ht (h ad H locs ls g1 g2 g3 g4 g5 g6 g7 g8)
theorem j_tableOut (C : ab_C E cc nL y rm) {dflt lo hi : Int} {offs : Array Int} {len : Nat} {a : Int} {tgt : Nat} (d : decode cc pc = .ok (.tableswitch dflt lo hi offs, len)) (ha : inR a) (ho : a < lo ∨ hi < a) (ht : (pc : Int) + dflt = (tgt : Int)) (h : ab_J E nL k n S F A tgt lv st) : ab_J E nL k n S F A pc lv (aI a :: st) := by
  obtain ⟨p, l, e, R, s, m, args, below, meth, c, Q, K, Am, ad0, S0⟩ := E
  obtain ⟨hx, hb, -⟩ := C
  intro ad H locs ls g1 g2 g3 g4 g5 g6 g7 g8
  exact lv_tableOut hx hb d (by rw [ab_toInt ha]; exact ho) ht (h ad H locs ls g1 g2 g3 g4 g5 g6 g7 g8)
theorem j_tableIn (C : ab_C E cc nL y rm) {dflt lo hi : Int} {offs : Array Int} {len : Nat} {a off : Int} {tgt : Nat} (z : Int) (d : decode cc pc = .ok (.tableswitch dflt lo hi offs, len)) (ha : a = z) (hz : inR z) (h1 : lo ≤ z) (h2 : z ≤ hi) (ho : offs[(z - lo).toNat]? = some off) (ht : (pc : Int) + off = (tgt : Int)) (h : ab_J E nL k n S F A tgt lv st) : ab_J E nL k n S F A pc lv (aI a :: st) := by
  subst ha
  obtain ⟨p, l, e, R, s, m, args, below, meth, c, Q, K, Am, ad0, S0⟩ := E
  obtain ⟨hx, hb, -⟩ := C
  intro ad H locs ls g1 g2 g3 g4 g5 g6 g7 g8
  exact lv_tableIn hx hb d (by rw [ab_toInt hz]; omega) (by rw [ab_toInt hz]; omega) (by rw [ab_toInt hz]; exact ho) ht (h ad H locs ls g1 g2 g3 g4 g5 g6 g7 g8)
/-- a state said otherwise -/
theorem j_eq {st' : List ab_V} {lv' : List (Option ab_V)} {F' : ab_Fn} {A' : ab_An} (h : ab_J E nL k n S F' A' pc lv' st') (e1 : st = st' := by rfl) (e2 : lv = lv' := by rfl) (e3 : F = F' := by rfl) (e4 : A = A' := by rfl) : ab_J E nL k n S F A pc lv st := by
  subst e1; subst e2; subst e3; subst e4; exact h
theorem j_widen {k' n' : Nat} (h1 : k ≤ k') (h2 : n ≤ n') (h : ab_J E nL k' n' S F A pc lv st) : ab_J E nL k n S F A pc lv st := by
  obtain ⟨p, l, e, R, s, m, args, below, meth, c, Q, K, Am, ad0, S0⟩ := E
  intro ad H locs ls g1 g2 g3 g4 g5 g6 g7 g8
  exact W.widen h1 h2 (h ad H locs ls g1 g2 g3 g4 g5 g6 g7 g8)
end
