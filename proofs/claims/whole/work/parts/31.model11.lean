/-! what is read -/
theorem upF_c {F : ab_Fn} {i k k' : Nat} {a b : Int} (h : k ≠ k') : upF (upF F i k a) i k' b = upF (upF F i k' b) i k a := by
  funext x z
  by_cases h1 : x = i
  · by_cases h2 : z = k
    · have h3 : ¬ z = k' := fun e => h (h2.symm.trans e)
      simp [upF, h1, h2, h]
    · by_cases h3 : z = k'
      · subst h3; simp [upF, h1, h2]
      · simp [upF, h1, h2, h3]
  · simp [upF, h1]

/-- the byte at i, -1 outside of the first e -/
def byt (T : Int → Int) (e : Int) : Int → Int := fun i => if 0 ≤ i ∧ i < e then T i % 256 else -1
theorem byt_in {T : Int → Int} {e i : Int} (h0 : 0 ≤ i) (h1 : i < e) : byt T e i = T i % 256 := if_pos ⟨h0, h1⟩
theorem byt_out {T : Int → Int} {e i : Int} (h : ¬ (0 ≤ i ∧ i < e)) : byt T e i = -1 := if_neg h
def skF (U : Int → Int) (lo hi : Int) : Nat → Int → Int
  | 0, p => p
  | n + 1, p => if lo ≤ U p ∧ U p ≤ hi then skF U lo hi n (p + 1) else p
/-- the first place from p on whose byte isn't from lo to hi -/
def sk (U : Int → Int) (lo hi p : Int) : Int := skF U lo hi 400 p
theorem skF_is {U : Int → Int} {lo hi : Int} : ∀ (n : Nat) (p q : Int), p ≤ q → q - p ≤ n → (∀ i, p ≤ i → i < q → lo ≤ U i ∧ U i ≤ hi) → ¬ (lo ≤ U q ∧ U q ≤ hi) → skF U lo hi n p = q
  | 0, p, q, h1, h2, _, _ => by simp only [skF]; omega
  | n + 1, p, q, h1, h2, h3, h4 => by
    simp only [skF]
    by_cases e : p = q
    · rw [if_neg (by rw [e]; exact h4)]; exact e
    · rw [if_pos (h3 p (Int.le_refl _) (by omega))]
      exact skF_is n (p + 1) q (by omega) (by omega) (fun i a b => h3 i (by omega) b) h4
theorem sk_is {U : Int → Int} {lo hi p q : Int} (h1 : p ≤ q) (h2 : q - p ≤ 400) (h3 : ∀ i, p ≤ i → i < q → lo ≤ U i ∧ U i ≤ hi) (h4 : ¬ (lo ≤ U q ∧ U q ≤ hi)) : q = sk U lo hi p := (skF_is 400 p q h1 h2 h3 h4).symm
/-- the text w stands just from b to q -/
def wok (U : Int → Int) (w : List Int) (b q : Int) : Bool := decide (q - b = (w.length : Nat)) && (List.range w.length).all (fun k => decide (U (b + (k : Nat)) = w.getD k 0))
theorem wok_iff {U : Int → Int} {w : List Int} {b q : Int} : wok U w b q = true ↔ q - b = (w.length : Nat) ∧ ∀ k : Int, 0 ≤ k → k < (w.length : Nat) → U (b + k) = w.getD k.toNat 0 := by
  unfold wok
  rw [Bool.and_eq_true, decide_eq_true_eq, List.all_eq_true]
  refine and_congr Iff.rfl ⟨fun h k h0 h1 => ?_, fun h k hk => ?_⟩
  · have := h k.toNat (List.mem_range.mpr (by omega))
    rw [decide_eq_true_eq, show ((k.toNat : Nat) : Int) = k by omega] at this
    exact this
  · rw [decide_eq_true_eq]
    have := h k (by omega) (by have := List.mem_range.mp hk; omega)
    rw [show ((k : Int)).toNat = k by omega] at this
    exact this
/-- the number of the digits from b on up to p, two at most -/
def nvp (U : Int → Int) (b p : Int) : Int := if p ≤ b then 0 else if p = b + 1 then U b - 48 else 10 * (U b - 48) + U (b + 1) - 48
def nV (U : Int → Int) (b q hi : Int) : Int := if q = b ∨ 2 < q - b ∨ hi < nvp U b q then -1 else nvp U b q
def bl (U : Int → Int) (p : Int) : Int := sk U 32 32 p
def lt' (U : Int → Int) (p : Int) : Int := sk U 97 122 p
def dg (U : Int → Int) (p : Int) : Int := sk U 48 57 p
/-- the corners from p on, behind those in L; whether they are right, where it ended -/
def rcs (U : Int → Int) : Nat → Int → List (Int × Int) → Int × (Int × List (Int × Int))
  | 0, p, L => (0, (p, L))
  | n + 1, p, L =>
    if nV U (bl U p) (dg U (bl U p)) 20 < 0 then (0, (bl U p, L)) else
    if nV U (bl U (dg U (bl U p))) (dg U (bl U (dg U (bl U p)))) 14 < 0 then (0, (bl U (dg U (bl U p)), L)) else
    if ¬ U (bl U (dg U (bl U (dg U (bl U p))))) = 44 then ((if L.length + 1 < 3 then 0 else 1), (bl U (dg U (bl U (dg U (bl U p)))), L ++ [(nV U (bl U p) (dg U (bl U p)) 20, nV U (bl U (dg U (bl U p))) (dg U (bl U (dg U (bl U p)))) 14)])) else
    if L.length + 1 = 40 then (0, (bl U (dg U (bl U (dg U (bl U p)))), L ++ [(nV U (bl U p) (dg U (bl U p)) 20, nV U (bl U (dg U (bl U p))) (dg U (bl U (dg U (bl U p)))) 14)])) else
    rcs U n (bl U (dg U (bl U (dg U (bl U p)))) + 1) (L ++ [(nV U (bl U p) (dg U (bl U p)) 20, nV U (bl U (dg U (bl U p))) (dg U (bl U (dg U (bl U p)))) 14)])
theorem rcs_x {U : Int → Int} {n : Nat} {p b q x : Int} {L : List (Int × Int)} (h1 : b = bl U p) (h2 : q = dg U b) (h3 : x = nV U b q 20) (h : x < 0) : rcs U (n + 1) p L = (0, (b, L)) := by
  simp only [rcs]; rw [← h1, ← h2, ← h3, if_pos h]
theorem rcs_y {U : Int → Int} {n : Nat} {p b q x b2 q2 y : Int} {L : List (Int × Int)} (h1 : b = bl U p) (h2 : q = dg U b) (h3 : x = nV U b q 20) (h : ¬ x < 0) (g1 : b2 = bl U q) (g2 : q2 = dg U b2) (g3 : y = nV U b2 q2 14) (g : y < 0) : rcs U (n + 1) p L = (0, (b2, L)) := by
  simp only [rcs]; rw [← h1, ← h2, ← h3, if_neg h, ← g1, ← g2, ← g3, if_pos g]
theorem rcs_e {U : Int → Int} {n : Nat} {p b q x b2 q2 y c : Int} {L : List (Int × Int)} (h1 : b = bl U p) (h2 : q = dg U b) (h3 : x = nV U b q 20) (h : ¬ x < 0) (g1 : b2 = bl U q) (g2 : q2 = dg U b2) (g3 : y = nV U b2 q2 14) (g : ¬ y < 0) (e1 : c = bl U q2) (e : ¬ U c = 44) : rcs U (n + 1) p L = ((if L.length + 1 < 3 then 0 else 1), (c, L ++ [(x, y)])) := by
  simp only [rcs]; rw [← h1, ← h2, ← h3, if_neg h, ← g1, ← g2, ← g3, if_neg g, ← e1, if_pos e]
theorem rcs_f {U : Int → Int} {n : Nat} {p b q x b2 q2 y c : Int} {L : List (Int × Int)} (h1 : b = bl U p) (h2 : q = dg U b) (h3 : x = nV U b q 20) (h : ¬ x < 0) (g1 : b2 = bl U q) (g2 : q2 = dg U b2) (g3 : y = nV U b2 q2 14) (g : ¬ y < 0) (e1 : c = bl U q2) (e : U c = 44) (f : L.length + 1 = 40) : rcs U (n + 1) p L = (0, (c, L ++ [(x, y)])) := by
  simp only [rcs]; rw [← h1, ← h2, ← h3, if_neg h, ← g1, ← g2, ← g3, if_neg g, ← e1, if_neg (fun z => z e), if_pos f]
theorem rcs_g {U : Int → Int} {n : Nat} {p b q x b2 q2 y c : Int} {L : List (Int × Int)} (h1 : b = bl U p) (h2 : q = dg U b) (h3 : x = nV U b q 20) (h : ¬ x < 0) (g1 : b2 = bl U q) (g2 : q2 = dg U b2) (g3 : y = nV U b2 q2 14) (g : ¬ y < 0) (e1 : c = bl U q2) (e : U c = 44) (f : ¬ L.length + 1 = 40) : rcs U (n + 1) p L = rcs U n (c + 1) (L ++ [(x, y)]) := by
  simp only [rcs]; rw [← h1, ← h2, ← h3, if_neg h, ← g1, ← g2, ← g3, if_neg g, ← e1, if_neg (fun z => z e), if_neg f]
def RING : List Int := [114, 105, 110, 103]
def END : List Int := [101, 110, 100]
/-- what is behind the corners -/
def rdE (U : Int → Int) (e : Int) (r : Int × (Int × List (Int × Int))) : Int × List (Int × Int) := if r.1 = 0 then (r.2.1, []) else if wok U END (bl U r.2.1) (lt' U (bl U r.2.1)) = true then (if bl U (lt' U (bl U r.2.1)) = e then (-1, r.2.2) else (bl U (lt' U (bl U r.2.1)), [])) else (bl U r.2.1, [])
/-- the place that is wrong (-1: none), the corners -/
def rdS (U : Int → Int) (e : Int) : Int × List (Int × Int) := if wok U RING (bl U 0) (lt' U (bl U 0)) = true then rdE U e (rcs U 40 (lt' U (bl U 0)) []) else (bl U 0, [])
theorem rdS_no {U : Int → Int} {e b q : Int} (h1 : b = bl U 0) (h2 : q = lt' U b) (h : ¬ wok U RING b q = true) : rdS U e = (b, []) := by
  unfold rdS; rw [← h1, ← h2, if_neg h]
theorem rdS_go {U : Int → Int} {e b q : Int} (h1 : b = bl U 0) (h2 : q = lt' U b) (h : wok U RING b q = true) : rdS U e = rdE U e (rcs U 40 q []) := by
  unfold rdS; rw [← h1, ← h2, if_pos h]
theorem rdE_0 {U : Int → Int} {e p : Int} {L : List (Int × Int)} : rdE U e (0, (p, L)) = (p, []) := rfl
theorem rdE_w {U : Int → Int} {e p b q : Int} {L : List (Int × Int)} (h1 : b = bl U p) (h2 : q = lt' U b) (h : ¬ wok U END b q = true) : rdE U e (1, (p, L)) = (b, []) := by
  unfold rdE; dsimp only; rw [if_neg (by decide), ← h1, ← h2, if_neg h]
theorem rdE_n {U : Int → Int} {e p b q c : Int} {L : List (Int × Int)} (h1 : b = bl U p) (h2 : q = lt' U b) (h : wok U END b q = true) (h3 : c = bl U q) (h4 : ¬ c = e) : rdE U e (1, (p, L)) = (c, []) := by
  unfold rdE; dsimp only; rw [if_neg (by decide), ← h1, ← h2, if_pos h, ← h3, if_neg h4]
theorem rdE_y {U : Int → Int} {e p b q c : Int} {L : List (Int × Int)} (h1 : b = bl U p) (h2 : q = lt' U b) (h : wok U END b q = true) (h3 : c = bl U q) (h4 : c = e) : rdE U e (1, (p, L)) = (-1, L) := by
  unfold rdE; dsimp only; rw [if_neg (by decide), ← h1, ← h2, if_pos h, ← h3, if_pos h4]
/-- two rows hold the corners -/
def cnr (X Y : Int → Int) (n : Int) (L : List (Int × Int)) : Prop := n = (L.length : Nat) ∧ (∀ k : Nat, k < L.length → X k = (L.getD k (0, 0)).1 ∧ Y k = (L.getD k (0, 0)).2) ∧ ∀ c ∈ L, 0 ≤ c.1 ∧ c.1 ≤ 20 ∧ 0 ≤ c.2 ∧ c.2 ≤ 14
theorem cnr_0 {X Y : Int → Int} : cnr X Y 0 [] := ⟨rfl, fun k h => absurd h (Nat.not_lt_zero _), fun c h => absurd h List.not_mem_nil⟩
theorem cnr_put {X Y X' Y' : Int → Int} {n x y : Int} {L : List (Int × Int)} (h : cnr X Y n L) (hx : X' = fun j => if j = n then x else X j) (hy : Y' = fun j => if j = n then y else Y j) (h1 : 0 ≤ x ∧ x ≤ 20) (h2 : 0 ≤ y ∧ y ≤ 14) : cnr X' Y' (n + 1) (L ++ [(x, y)]) := by
  obtain ⟨g1, g2, g3⟩ := h
  refine ⟨by rw [List.length_append, g1]; simp, fun k hk => ?_, fun c hc => ?_⟩
  · rw [List.length_append] at hk
    have hk : k < L.length + 1 := hk
    subst hx; subst hy
    dsimp only
    by_cases e : k = L.length
    · rw [g1, e, if_pos rfl, if_pos rfl, List.getD_eq_getElem?_getD, List.getElem?_append_right (Nat.le_refl _), Nat.sub_self]; exact ⟨rfl, rfl⟩
    · rw [if_neg (by omega), if_neg (by omega), List.getD_eq_getElem?_getD, List.getElem?_append_left (by omega), ← List.getD_eq_getElem?_getD]; exact g2 k (by omega)
  · rcases List.mem_append.mp hc with h | h
    · exact g3 c h
    · rw [List.mem_singleton.mp h]; exact ⟨h1.1, h1.2, h2.1, h2.2⟩
theorem nvp_0 {U : Int → Int} {b p : Int} (h : p ≤ b) : nvp U b p = 0 := if_pos h
theorem nvp_1 {U : Int → Int} {b p : Int} (h : p = b) : nvp U b (p + 1) = 10 * nvp U b p + U p - 48 := by
  subst h; unfold nvp; rw [if_neg (by omega), if_pos rfl, if_pos (by omega)]; omega
theorem nvp_2 {U : Int → Int} {b p : Int} (h : p = b + 1) : nvp U b (p + 1) = 10 * nvp U b p + U p - 48 := by
  subst h; unfold nvp; rw [if_neg (by omega), if_neg (by omega), if_neg (by omega), if_pos rfl]
theorem nvp_s {U : Int → Int} {b p : Int} (h : b + 2 ≤ p) : nvp U b (p + 1) = nvp U b p := by
  unfold nvp; rw [if_neg (by omega), if_neg (by omega), if_neg (by omega), if_neg (by omega)]
theorem byt_t {T : Int → Int} {e i lo hi : Int} (hT : -128 ≤ T i ∧ T i ≤ 127) (hl : 0 ≤ lo) (hh : hi ≤ 127) (h : lo ≤ byt T e i ∧ byt T e i ≤ hi) : byt T e i = T i ∧ 0 ≤ i ∧ i < e := by
  unfold byt at h ⊢
  by_cases c : 0 ≤ i ∧ i < e
  · rw [if_pos c] at h ⊢; exact ⟨by omega, c⟩
  · rw [if_neg c] at h; omega

set_option maxHeartbeats 4000000 in
set_option maxRecDepth 100000 in
theorem m_isAt (l : Launch) (S : ab_St) (F : ab_Fn) (A : ab_An) (hS : ab_SM S) (lo hi : Int) (hl : 0 ≤ lo ∧ lo ≤ 127 ∧ 0 ≤ hi ∧ hi ≤ 127) (hp : 0 ≤ F 100 28 ∧ F 100 28 ≤ F 100 29 ∧ F 100 29 ≤ 400) (hT : ∀ i, 0 ≤ i → i < F 100 29 → -128 ≤ A 125 i ∧ A 125 i ≤ 127) : ab_Met l yX10_isAt cX10_isAt 3 (some .boolean) { frames := 0, cells := 0, slots := 0, locals := 0 } 0 0 [aR 100, aI lo, aI hi] S F A (fun v S' F' A' => S = S' ∧ F = F' ∧ A = A' ∧ ∃ z : Int, v = some (aI z) ∧ zb z (lo ≤ (byt (A 125) (F 100 29)) (F 100 28) ∧ (byt (A 125) (F 100 29)) (F 100 28) ≤ hi)) := by
  refine ab_enter (by decide) (by simp [aI, aR, aX, ab_val, Value.category]) (Nat.le_of_ble_eq_true rfl) (fun E C hr => ?_)
  refine j_eq (lv' := [some (aR 100), some (aI lo), some (aI hi)]) ?_
  refine j_aload_n C dX10_isAt_0 rfl rfl ?_
  refine j_get C (aI (F 100 28)) fl_X10_181 (sM_100 hS) (fun _ => rfl) dX10_isAt_1 ?_
  refine j_aload_n C dX10_isAt_4 rfl rfl ?_
  refine j_get C (aI (F 100 29)) fl_X10_184 (sM_100 hS) (fun _ => rfl) dX10_isAt_5 ?_
  refine j_icmp_ge C (tgt := 41) dX10_isAt_8 (by decide) ⟨by omega, by omega⟩ ⟨by omega, by omega⟩ (fun c8 => ?_) (fun c8 => ?_)
  · refine j_iconst C dX10_isAt_41 ?_
    exact j_zret C hr (ab_nz01 (by omega)) (Nat.le_refl _) (Nat.le_refl _) dX10_isAt_42 ⟨rfl, rfl, rfl, _, rfl, (by first | (rw [hu]; unfold zb; omega) | (rw [byt_out (by omega)]; unfold zb; omega))⟩
  · have ht := hT (F 100 28) (by omega) (by omega)
    have hu := byt_in (T := A 125) (e := F 100 29) (i := F 100 28) (by omega) (by omega)
    refine j_aload_n C dX10_isAt_11 rfl rfl ?_
    refine j_getR C (j := 125) fl_X10_72 (sM_100 hS) rfl dX10_isAt_12 ?_
    refine j_aload_n C dX10_isAt_15 rfl rfl ?_
    refine j_get C (aI (F 100 28)) fl_X10_181 (sM_100 hS) (fun _ => rfl) dX10_isAt_16 ?_
    refine j_bald C (sM_125 hS) (by omega) (by omega) (by decide) dX10_isAt_19 ?_
    refine j_iload_n C dX10_isAt_20 rfl rfl ?_
    refine j_icmp_lt C (tgt := 41) dX10_isAt_21 (by decide) ⟨by omega, by omega⟩ ⟨by omega, by omega⟩ (fun c21 => ?_) (fun c21 => ?_)
    · refine j_iconst C dX10_isAt_41 ?_
      exact j_zret C hr (ab_nz01 (by omega)) (Nat.le_refl _) (Nat.le_refl _) dX10_isAt_42 ⟨rfl, rfl, rfl, _, rfl, (by first | (rw [hu]; unfold zb; omega) | (rw [byt_out (by omega)]; unfold zb; omega))⟩
    · refine j_aload_n C dX10_isAt_24 rfl rfl ?_
      refine j_getR C (j := 125) fl_X10_72 (sM_100 hS) rfl dX10_isAt_25 ?_
      refine j_aload_n C dX10_isAt_28 rfl rfl ?_
      refine j_get C (aI (F 100 28)) fl_X10_181 (sM_100 hS) (fun _ => rfl) dX10_isAt_29 ?_
      refine j_bald C (sM_125 hS) (by omega) (by omega) (by decide) dX10_isAt_32 ?_
      refine j_iload_n C dX10_isAt_33 rfl rfl ?_
      refine j_icmp_gt C (tgt := 41) dX10_isAt_34 (by decide) ⟨by omega, by omega⟩ ⟨by omega, by omega⟩ (fun c34 => ?_) (fun c34 => ?_)
      · refine j_iconst C dX10_isAt_41 ?_
        exact j_zret C hr (ab_nz01 (by omega)) (Nat.le_refl _) (Nat.le_refl _) dX10_isAt_42 ⟨rfl, rfl, rfl, _, rfl, (by first | (rw [hu]; unfold zb; omega) | (rw [byt_out (by omega)]; unfold zb; omega))⟩
      · refine j_iconst C dX10_isAt_37 ?_
        refine j_goto C (tgt := 42) dX10_isAt_38 (by decide) ?_
        exact j_zret C hr (ab_nz01 (by omega)) (Nat.le_refl _) (Nat.le_refl _) dX10_isAt_42 ⟨rfl, rfl, rfl, _, rfl, (by first | (rw [hu]; unfold zb; omega) | (rw [byt_out (by omega)]; unfold zb; omega))⟩

set_option maxHeartbeats 4000000 in
set_option maxRecDepth 100000 in
theorem m_blanks (l : Launch) (S : ab_St) (F : ab_Fn) (A : ab_An) (hS : ab_SM S) (hp : 0 ≤ F 100 28 ∧ F 100 28 ≤ F 100 29 ∧ F 100 29 ≤ 400) (hT : ∀ i, 0 ≤ i → i < F 100 29 → -128 ≤ A 125 i ∧ A 125 i ≤ 127) : ab_Met l yX10_blanks cX10_blanks 1 none { frames := 1, cells := 0, slots := 0, locals := 22 } 0 0 [aR 100] S F A (fun v S' F' A' => S = S' ∧ A = A' ∧ v = none ∧ ∃ b : Int, b = bl (byt (A 125) (F 100 29)) (F 100 28) ∧ (F 100 28 ≤ b ∧ b ≤ F 100 29) ∧ F' = upF (upF F 100 28 b) 100 30 b) := by
  refine ab_enter (by decide) (by simp [aI, aR, aX, ab_val, Value.category]) (Nat.le_of_ble_eq_true rfl) (fun E C hr => ?_)
  refine j_eq (lv' := [some (aR 100)]) ?_
  have K0 : ∀ (N : Nat) (p : Int), (F 100 28 ≤ p ∧ p ≤ F 100 29) → (∀ i, F 100 28 ≤ i → i < p → 32 ≤ (byt (A 125) (F 100 29)) i ∧ (byt (A 125) (F 100 29)) i ≤ 32) → ((F 100 29 - p).toNat) < N → ab_J E 1 0 0 S (upF F 100 28 p) A 0 [some (aR 100)] [] := by
    intro N
    induction N with
    | zero => intro p hp1 hs hm; exact absurd hm (Nat.not_lt_zero _)
    | succ N ih =>
      have ih0 := ih
      clear ih
      intro p hp1 hs hm0
      refine j_aload_n C dX10_blanks_0 rfl rfl ?_
      refine j_bipush C dX10_blanks_1 rfl ?_
      refine j_bipush C dX10_blanks_3 rfl ?_
      refine j_callV C (vs := [aI 32, aI 32]) (st := []) cl_X10_187 im_yX10_isAt se_yX10_isAt (fun _ => m_isAt _ S (upF F 100 28 p) A hS _ _ (by decide) (by show 0 ≤ p ∧ p ≤ F 100 29 ∧ F 100 29 ≤ 400; omega) hT) (sM_100 hS) rfl rfl rfl ⟨rfl, rfl, by decide, by decide⟩ ⟨by decide, by decide⟩ (fun _ => Nat.le_of_ble_eq_true rfl) (fun v hv => by cases hv) (fun v hv => by simp only [List.mem_cons, List.not_mem_nil, or_false, Option.some.injEq, reduceCtorEq, false_or] at hv; rcases hv with rfl <;> first | exact (lM_100 hS)) dX10_blanks_5 (fun v_5 S_5 F_5 A_5 hP_5 => ?_)
      obtain ⟨rfl, rfl, rfl, z_5, rfl, ⟨rfl, hz_5⟩ | ⟨rfl, hz_5⟩⟩ := hP_5
      · have hz_5 : 32 ≤ (byt (A 125) (F 100 29)) (p) ∧ (byt (A 125) (F 100 29)) (p) ≤ 32 := hz_5
        show ab_J E 1 0 0 S (upF F 100 28 p) A 8 [some (aR 100)] [aI 1]
        refine j_if_eq C (tgt := 24) dX10_blanks_8 (by decide) ⟨by omega, by omega⟩ (fun c8 => ?_) (fun c8 => ?_)
        · exact absurd c8 (by decide)
        · refine j_aload_n C dX10_blanks_11 rfl rfl ?_
          refine j_dup C dX10_blanks_12 (fun _ => rfl) ?_
          refine j_get C (aI p) fl_X10_181 (sM_100 hS) (fun _ => rfl) dX10_blanks_13 ?_
          refine j_iconst C dX10_blanks_16 ?_
          refine j_iadd C dX10_blanks_17 ?_
          refine j_putI C fp_X10_181 (sM_100 hS) rfl dX10_blanks_18 ?_
          refine j_goto C (tgt := 0) dX10_blanks_21 (by decide) ?_
          refine j_eq (F' := (upF F 100 28 (p + 1))) ?_ (e3 := (upF_up _ _ _ _ _))
          exact ih0 (p + 1) (by have q9 : p < F 100 29 := Int.not_le.mp (fun q => by rw [byt_out (by omega)] at hz_5; omega); omega) (fun i q1 q2 => if q : i = p then by rw [q]; exact hz_5 else hs i q1 (by omega)) (by have q9 : p < F 100 29 := Int.not_le.mp (fun q => by rw [byt_out (by omega)] at hz_5; omega); omega)
      · have hz_5 : ¬ (32 ≤ (byt (A 125) (F 100 29)) (p) ∧ (byt (A 125) (F 100 29)) (p) ≤ 32) := hz_5
        show ab_J E 1 0 0 S (upF F 100 28 p) A 8 [some (aR 100)] [aI 0]
        refine j_if_eq C (tgt := 24) dX10_blanks_8 (by decide) ⟨by omega, by omega⟩ (fun c8 => ?_) (fun c8 => ?_)
        · refine j_aload_n C dX10_blanks_24 rfl rfl ?_
          refine j_aload_n C dX10_blanks_25 rfl rfl ?_
          refine j_get C (aI p) fl_X10_181 (sM_100 hS) (fun _ => rfl) dX10_blanks_26 ?_
          refine j_putI C fp_X10_190 (sM_100 hS) rfl dX10_blanks_29 ?_
          exact j_vret C hr (Nat.le_refl _) (Nat.le_refl _) dX10_blanks_32 ⟨rfl, rfl, rfl, _, sk_is hp1.1 (by omega) hs hz_5, hp1, rfl⟩
        · exact absurd c8 (by decide)
  refine j_eq (F' := (upF F 100 28 (F 100 28))) ?_ (e3 := upF_self)
  exact K0 _ (F 100 28) (by omega) (fun i q1 q2 => by omega) (Nat.lt_succ_self _)

set_option maxHeartbeats 4000000 in
set_option maxRecDepth 100000 in
theorem m_readWord (l : Launch) (S : ab_St) (F : ab_Fn) (A : ab_An) (hS : ab_SM S) (j : Nat) (hj : j < 8) (hp : 0 ≤ F 100 28 ∧ F 100 28 ≤ F 100 29 ∧ F 100 29 ≤ 400) (hT : ∀ i, 0 ≤ i → i < F 100 29 → -128 ≤ A 125 i ∧ A 125 i ≤ 127) : ab_Met l yX10_readWord cX10_readWord 4 (some .boolean) { frames := 5, cells := 0, slots := 0, locals := 106 } 0 0 [aR 100, aR (1000000 + j)] S F A (fun v S' F' A' => S = S' ∧ A = A' ∧ ∃ b q z : Int, v = some (aI z) ∧ b = bl (byt (A 125) (F 100 29)) (F 100 28) ∧ q = lt' (byt (A 125) (F 100 29)) b ∧ (F 100 28 ≤ b ∧ b ≤ q ∧ q ≤ F 100 29) ∧ F' = upF (upF F 100 28 q) 100 30 b ∧ zb z (wok (byt (A 125) (F 100 29)) (ab_tx j) b q = true)) := by
  refine ab_enter (by decide) (by simp [aI, aR, aX, ab_val, Value.category]) (Nat.le_of_ble_eq_true rfl) (fun E C hr => ?_)
  refine j_eq (lv' := [some (aR 100), some (aR (1000000 + j)), none, none]) ?_
  have hl := ab_txl j hj
  refine j_aload_n C dX10_readWord_0 rfl rfl ?_
  refine j_callV C (vs := []) (st := []) cl_X10_193 im_yX10_blanks se_yX10_blanks (fun _ => m_blanks _ S F A hS (by show 0 ≤ F 100 28 ∧ F 100 28 ≤ F 100 29 ∧ F 100 29 ≤ 400; omega) hT) (sM_100 hS) rfl rfl rfl ⟨rfl, rfl, by decide, by decide⟩ ⟨by decide, by decide⟩ (fun _ => Nat.le_of_ble_eq_true rfl) (fun v hv => by cases hv) (fun v hv => by simp only [List.mem_cons, List.not_mem_nil, or_false, Option.some.injEq, reduceCtorEq, false_or] at hv; rcases hv with rfl | rfl <;> first | exact (lK (by omega)) | exact (lM_100 hS)) dX10_readWord_1 (fun v_1 S_1 F_1 A_1 hP_1 => ?_)
  obtain ⟨rfl, rfl, rfl, b1, hb1, hr1, rfl⟩ := hP_1
  have hb1 : b1 = bl (byt (A 125) (F 100 29)) (F 100 28) := hb1
  have hr1 : F 100 28 ≤ b1 ∧ b1 ≤ F 100 29 := hr1
  show ab_J E 4 0 0 S (upF (upF F 100 28 b1) 100 30 b1) A 4 [some (aR 100), some (aR (1000000 + j)), none, none] []
  have K4 : ∀ (N : Nat) (p : Int), (b1 ≤ p ∧ p ≤ F 100 29) → (∀ i, b1 ≤ i → i < p → 97 ≤ (byt (A 125) (F 100 29)) i ∧ (byt (A 125) (F 100 29)) i ≤ 122) → ((F 100 29 - p).toNat) < N → ab_J E 4 0 0 S (upF (upF F 100 28 p) 100 30 b1) A 4 [some (aR 100), some (aR (1000000 + j)), none, none] [] := by
    intro N
    induction N with
    | zero => intro p hp1 hs hm; exact absurd hm (Nat.not_lt_zero _)
    | succ N ih =>
      have ih4 := ih
      clear ih
      intro p hp1 hs hm4
      refine j_aload_n C dX10_readWord_4 rfl rfl ?_
      refine j_bipush C dX10_readWord_5 rfl ?_
      refine j_bipush C dX10_readWord_7 rfl ?_
      refine j_callV C (vs := [aI 97, aI 122]) (st := []) cl_X10_187 im_yX10_isAt se_yX10_isAt (fun _ => m_isAt _ S (upF (upF F 100 28 p) 100 30 b1) A hS _ _ (by decide) (by show 0 ≤ p ∧ p ≤ F 100 29 ∧ F 100 29 ≤ 400; omega) hT) (sM_100 hS) rfl rfl rfl ⟨rfl, rfl, by decide, by decide⟩ ⟨by decide, by decide⟩ (fun _ => Nat.le_of_ble_eq_true rfl) (fun v hv => by cases hv) (fun v hv => by simp only [List.mem_cons, List.not_mem_nil, or_false, Option.some.injEq, reduceCtorEq, false_or] at hv; rcases hv with rfl | rfl <;> first | exact (lK (by omega)) | exact (lM_100 hS)) dX10_readWord_9 (fun v_9 S_9 F_9 A_9 hP_9 => ?_)
      obtain ⟨rfl, rfl, rfl, z_9, rfl, ⟨rfl, hz_9⟩ | ⟨rfl, hz_9⟩⟩ := hP_9
      · have hz_9 : 97 ≤ (byt (A 125) (F 100 29)) (p) ∧ (byt (A 125) (F 100 29)) (p) ≤ 122 := hz_9
        show ab_J E 4 0 0 S (upF (upF F 100 28 p) 100 30 b1) A 12 [some (aR 100), some (aR (1000000 + j)), none, none] [aI 1]
        refine j_if_eq C (tgt := 28) dX10_readWord_12 (by decide) ⟨by omega, by omega⟩ (fun c12 => ?_) (fun c12 => ?_)
        · exact absurd c12 (by decide)
        · refine j_aload_n C dX10_readWord_15 rfl rfl ?_
          refine j_dup C dX10_readWord_16 (fun _ => rfl) ?_
          refine j_get C (aI p) fl_X10_181 (sM_100 hS) (fun _ => rfl) dX10_readWord_17 ?_
          refine j_iconst C dX10_readWord_20 ?_
          refine j_iadd C dX10_readWord_21 ?_
          refine j_putI C fp_X10_181 (sM_100 hS) rfl dX10_readWord_22 ?_
          refine j_goto C (tgt := 4) dX10_readWord_25 (by decide) ?_
          refine j_eq (F' := (upF (upF F 100 28 (p + 1)) 100 30 b1)) ?_ (e3 := (by rw [upF_c (by decide), upF_up]))
          exact ih4 (p + 1) (by have q9 : p < F 100 29 := Int.not_le.mp (fun q => by rw [byt_out (by omega)] at hz_9; omega); omega) (fun i q1 q2 => if q : i = p then by rw [q]; exact hz_9 else hs i q1 (by omega)) (by have q9 : p < F 100 29 := Int.not_le.mp (fun q => by rw [byt_out (by omega)] at hz_9; omega); omega)
      · have hz_9 : ¬ (97 ≤ (byt (A 125) (F 100 29)) (p) ∧ (byt (A 125) (F 100 29)) (p) ≤ 122) := hz_9
        show ab_J E 4 0 0 S (upF (upF F 100 28 p) 100 30 b1) A 12 [some (aR 100), some (aR (1000000 + j)), none, none] [aI 0]
        refine j_if_eq C (tgt := 28) dX10_readWord_12 (by decide) ⟨by omega, by omega⟩ (fun c12 => ?_) (fun c12 => ?_)
        · have hq1 := sk_is (U := (byt (A 125) (F 100 29))) (lo := 97) (hi := 122) hp1.1 (by omega) hs hz_9
          refine j_aload_n C dX10_readWord_28 rfl rfl ?_
          refine j_get C (aI p) fl_X10_181 (sM_100 hS) (fun _ => rfl) dX10_readWord_29 ?_
          refine j_aload_n C dX10_readWord_32 rfl rfl ?_
          refine j_get C (aI b1) fl_X10_190 (sM_100 hS) (fun _ => rfl) dX10_readWord_33 ?_
          refine j_isub C dX10_readWord_36 ?_
          refine j_aload_n C dX10_readWord_37 rfl rfl ?_
          refine j_callT C j (by omega) (vs := []) (st := [aI (p - b1)]) cl_X10_196 im_yJ0_length_8abf5 se_yJ0_length_8abf5 (fun _ => (t_length _ S (upF (upF F 100 28 p) 100 30 b1) A _ (by omega))) rfl rfl ⟨rfl, rfl, by decide, by decide⟩ ⟨by decide, by decide⟩ (fun _ => Nat.le_of_ble_eq_true rfl) (fun v hv => by simp only [List.mem_cons, List.not_mem_nil, or_false] at hv; rcases hv with rfl <;> first | exact trivial) (fun v hv => by simp only [List.mem_cons, List.not_mem_nil, or_false, Option.some.injEq, reduceCtorEq, false_or] at hv; rcases hv with rfl | rfl <;> first | exact (lK (by omega)) | exact (lM_100 hS)) dX10_readWord_38 (fun v_38 S_38 F_38 A_38 hP_38 => ?_)
          obtain ⟨rfl, rfl, rfl, rfl⟩ := hP_38
          show ab_J E 4 0 0 S (upF (upF F 100 28 p) 100 30 b1) A 41 [some (aR 100), some (aR (1000000 + j)), none, none] [aI ((ab_tx j).length : Nat), aI (p - b1)]
          refine j_icmp_ne C (tgt := 48) dX10_readWord_41 (by decide) ⟨by omega, by omega⟩ ⟨by omega, by omega⟩ (fun c41 => ?_) (fun c41 => ?_)
          · refine j_iconst C dX10_readWord_48 ?_
            refine j_istore_n C (lv' := [some (aR 100), some (aR (1000000 + j)), some (aI 0), none]) dX10_readWord_49 rfl (by decide) rfl ?_
            refine j_iconst C dX10_readWord_50 ?_
            refine j_istore_n C (lv' := [some (aR 100), some (aR (1000000 + j)), some (aI 0), some (aI 0)]) dX10_readWord_51 rfl (by decide) rfl ?_
            have K52 : ∀ (N : Nat) (z k : Int), (0 ≤ k ∧ k ≤ ((ab_tx j).length : Nat)) → (zb z (p - b1 = ((ab_tx j).length : Nat) ∧ ∀ i, 0 ≤ i → i < k → (byt (A 125) (F 100 29)) (b1 + i) = (ab_tx j).getD i.toNat 0)) → ((((ab_tx j).length : Nat) - k).toNat) < N → ab_J E 4 0 0 S (upF (upF F 100 28 p) 100 30 b1) A 52 [some (aR 100), some (aR (1000000 + j)), some (aI z), some (aI k)] [] := by
              intro N
              induction N with
              | zero => intro z k hk hz hm; exact absurd hm (Nat.not_lt_zero _)
              | succ N ih =>
                have ih52 := ih
                clear ih
                intro z k hk hz hm52
                refine j_iload_n C dX10_readWord_52 rfl rfl ?_
                refine j_if_eq C (tgt := 95) dX10_readWord_53 (by decide) hz.r (fun c53 => ?_) (fun c53 => ?_)
                · refine j_iload_n C dX10_readWord_95 rfl rfl ?_
                  exact j_zret C hr (ab_nz01 hz.c) (Nat.le_refl _) (Nat.le_refl _) dX10_readWord_96 ⟨rfl, rfl, b1, p, _, rfl, hb1, hq1, by omega, rfl, (by first | (have ek : k = ((ab_tx j).length : Nat) := (by omega); rw [ek] at hz; exact hz.iff (by rw [wok_iff])) | (have hf := hz.f c53; rw [c53]; exact zb.zero (fun q => hf (by rw [wok_iff] at q; exact ⟨q.1, fun i q1 q2 => q.2 i q1 (by omega)⟩))))⟩
                · refine j_iload_n C dX10_readWord_56 rfl rfl ?_
                  refine j_aload_n C dX10_readWord_57 rfl rfl ?_
                  refine j_callT C j (by omega) (vs := []) (st := [aI k]) cl_X10_196 im_yJ0_length_8abf5 se_yJ0_length_8abf5 (fun _ => (t_length _ S (upF (upF F 100 28 p) 100 30 b1) A _ (by omega))) rfl rfl ⟨rfl, rfl, by decide, by decide⟩ ⟨by decide, by decide⟩ (fun _ => Nat.le_of_ble_eq_true rfl) (fun v hv => by simp only [List.mem_cons, List.not_mem_nil, or_false] at hv; rcases hv with rfl <;> first | exact trivial) (fun v hv => by simp only [List.mem_cons, List.not_mem_nil, or_false, Option.some.injEq, reduceCtorEq, false_or] at hv; rcases hv with rfl | rfl | rfl | rfl <;> first | exact (lK (by omega)) | exact (lM_100 hS) | exact trivial) dX10_readWord_58 (fun v_58 S_58 F_58 A_58 hP_58 => ?_)
                  obtain ⟨rfl, rfl, rfl, rfl⟩ := hP_58
                  show ab_J E 4 0 0 S (upF (upF F 100 28 p) 100 30 b1) A 61 [some (aR 100), some (aR (1000000 + j)), some (aI z), some (aI k)] [aI ((ab_tx j).length : Nat), aI k]
                  refine j_icmp_ge C (tgt := 95) dX10_readWord_61 (by decide) ⟨by omega, by omega⟩ ⟨by omega, by omega⟩ (fun c61 => ?_) (fun c61 => ?_)
                  · refine j_iload_n C dX10_readWord_95 rfl rfl ?_
                    exact j_zret C hr (ab_nz01 hz.c) (Nat.le_refl _) (Nat.le_refl _) dX10_readWord_96 ⟨rfl, rfl, b1, p, _, rfl, hb1, hq1, by omega, rfl, (by first | (have ek : k = ((ab_tx j).length : Nat) := (by omega); rw [ek] at hz; exact hz.iff (by rw [wok_iff])) | (have hf := hz.f c53; rw [c53]; exact zb.zero (fun q => hf (by rw [wok_iff] at q; exact ⟨q.1, fun i q1 q2 => q.2 i q1 (by omega)⟩))))⟩
                  · have hzt := hz.t (by omega)
                    have hbt := hT (b1 + k) (by omega) (by omega)
                    have hut := byt_in (T := A 125) (e := F 100 29) (i := b1 + k) (by omega) (by omega)
                    have hct := ab_txg hj hk.1 (by omega)
                    refine j_aload_n C dX10_readWord_64 rfl rfl ?_
                    refine j_getR C (j := 125) fl_X10_72 (sM_100 hS) rfl dX10_readWord_65 ?_
                    refine j_aload_n C dX10_readWord_68 rfl rfl ?_
                    refine j_get C (aI b1) fl_X10_190 (sM_100 hS) (fun _ => rfl) dX10_readWord_69 ?_
                    refine j_iload_n C dX10_readWord_72 rfl rfl ?_
                    refine j_iadd C dX10_readWord_73 ?_
                    refine j_bald C (sM_125 hS) (by omega) (by omega) (by decide) dX10_readWord_74 ?_
                    refine j_aload_n C dX10_readWord_75 rfl rfl ?_
                    refine j_iload_n C dX10_readWord_76 rfl rfl ?_
                    refine j_callT C j (by omega) (vs := [aI k]) (st := [aI (A 125 (b1 + k))]) cl_X10_202 im_yJ0_charAt_5068e se_yJ0_charAt_5068e (fun _ => (t_charAt _ S (upF (upF F 100 28 p) 100 30 b1) A _ (by omega) _ (by omega) (by omega))) rfl rfl ⟨rfl, rfl, by decide, by decide⟩ ⟨by decide, by decide⟩ (fun _ => Nat.le_of_ble_eq_true rfl) (fun v hv => by simp only [List.mem_cons, List.not_mem_nil, or_false] at hv; rcases hv with rfl <;> first | exact trivial) (fun v hv => by simp only [List.mem_cons, List.not_mem_nil, or_false, Option.some.injEq, reduceCtorEq, false_or] at hv; rcases hv with rfl | rfl | rfl | rfl <;> first | exact (lK (by omega)) | exact (lM_100 hS) | exact trivial) dX10_readWord_77 (fun v_77 S_77 F_77 A_77 hP_77 => ?_)
                    obtain ⟨rfl, rfl, rfl, rfl⟩ := hP_77
                    show ab_J E 4 0 0 S (upF (upF F 100 28 p) 100 30 b1) A 80 [some (aR 100), some (aR (1000000 + j)), some (aI z), some (aI k)] [aI ((ab_tx j).getD (k).toNat 0), aI (A 125 (b1 + k))]
                    refine j_icmp_ne C (tgt := 87) dX10_readWord_80 (by decide) ⟨by omega, by omega⟩ ⟨by omega, by omega⟩ (fun c80 => ?_) (fun c80 => ?_)
                    · refine j_iconst C dX10_readWord_87 ?_
                      refine j_istore_n C (lv' := [some (aR 100), some (aR (1000000 + j)), some (aI 0), some (aI k)]) dX10_readWord_88 rfl (by decide) rfl ?_
                      refine j_iinc C (lv' := [some (aR 100), some (aR (1000000 + j)), some (aI 0), some (aI (k + 1))]) dX10_readWord_89 rfl (by decide) rfl ?_
                      refine j_goto C (tgt := 52) dX10_readWord_92 (by decide) ?_
                      exact ih52 0 (k + 1) (by omega) (by first | exact zb.one ⟨hzt.1, fun i q1 q2 => if q : i = k then by rw [q, hut]; omega else hzt.2 i q1 (by omega)⟩ | exact zb.zero (fun q => by have := q.2 k hk.1 (by omega); rw [hut] at this; omega)) (by omega)
                    · refine j_iconst C dX10_readWord_83 ?_
                      refine j_goto C (tgt := 88) dX10_readWord_84 (by decide) ?_
                      refine j_istore_n C (lv' := [some (aR 100), some (aR (1000000 + j)), some (aI 1), some (aI k)]) dX10_readWord_88 rfl (by decide) rfl ?_
                      refine j_iinc C (lv' := [some (aR 100), some (aR (1000000 + j)), some (aI 1), some (aI (k + 1))]) dX10_readWord_89 rfl (by decide) rfl ?_
                      refine j_goto C (tgt := 52) dX10_readWord_92 (by decide) ?_
                      exact ih52 1 (k + 1) (by omega) (by first | exact zb.one ⟨hzt.1, fun i q1 q2 => if q : i = k then by rw [q, hut]; omega else hzt.2 i q1 (by omega)⟩ | exact zb.zero (fun q => by have := q.2 k hk.1 (by omega); rw [hut] at this; omega)) (by omega)
            exact K52 _ 0 0 (by omega) (by first | exact zb.one ⟨by omega, fun i q1 q2 => by omega⟩ | exact zb.zero (fun q => by have := q.1; omega)) (Nat.lt_succ_self _)
          · refine j_iconst C dX10_readWord_44 ?_
            refine j_goto C (tgt := 49) dX10_readWord_45 (by decide) ?_
            refine j_istore_n C (lv' := [some (aR 100), some (aR (1000000 + j)), some (aI 1), none]) dX10_readWord_49 rfl (by decide) rfl ?_
            refine j_iconst C dX10_readWord_50 ?_
            refine j_istore_n C (lv' := [some (aR 100), some (aR (1000000 + j)), some (aI 1), some (aI 0)]) dX10_readWord_51 rfl (by decide) rfl ?_
            have K52 : ∀ (N : Nat) (z k : Int), (0 ≤ k ∧ k ≤ ((ab_tx j).length : Nat)) → (zb z (p - b1 = ((ab_tx j).length : Nat) ∧ ∀ i, 0 ≤ i → i < k → (byt (A 125) (F 100 29)) (b1 + i) = (ab_tx j).getD i.toNat 0)) → ((((ab_tx j).length : Nat) - k).toNat) < N → ab_J E 4 0 0 S (upF (upF F 100 28 p) 100 30 b1) A 52 [some (aR 100), some (aR (1000000 + j)), some (aI z), some (aI k)] [] := by
              intro N
              induction N with
              | zero => intro z k hk hz hm; exact absurd hm (Nat.not_lt_zero _)
              | succ N ih =>
                have ih52 := ih
                clear ih
                intro z k hk hz hm52
                refine j_iload_n C dX10_readWord_52 rfl rfl ?_
                refine j_if_eq C (tgt := 95) dX10_readWord_53 (by decide) hz.r (fun c53 => ?_) (fun c53 => ?_)
                · refine j_iload_n C dX10_readWord_95 rfl rfl ?_
                  exact j_zret C hr (ab_nz01 hz.c) (Nat.le_refl _) (Nat.le_refl _) dX10_readWord_96 ⟨rfl, rfl, b1, p, _, rfl, hb1, hq1, by omega, rfl, (by first | (have ek : k = ((ab_tx j).length : Nat) := (by omega); rw [ek] at hz; exact hz.iff (by rw [wok_iff])) | (have hf := hz.f c53; rw [c53]; exact zb.zero (fun q => hf (by rw [wok_iff] at q; exact ⟨q.1, fun i q1 q2 => q.2 i q1 (by omega)⟩))))⟩
                · refine j_iload_n C dX10_readWord_56 rfl rfl ?_
                  refine j_aload_n C dX10_readWord_57 rfl rfl ?_
                  refine j_callT C j (by omega) (vs := []) (st := [aI k]) cl_X10_196 im_yJ0_length_8abf5 se_yJ0_length_8abf5 (fun _ => (t_length _ S (upF (upF F 100 28 p) 100 30 b1) A _ (by omega))) rfl rfl ⟨rfl, rfl, by decide, by decide⟩ ⟨by decide, by decide⟩ (fun _ => Nat.le_of_ble_eq_true rfl) (fun v hv => by simp only [List.mem_cons, List.not_mem_nil, or_false] at hv; rcases hv with rfl <;> first | exact trivial) (fun v hv => by simp only [List.mem_cons, List.not_mem_nil, or_false, Option.some.injEq, reduceCtorEq, false_or] at hv; rcases hv with rfl | rfl | rfl | rfl <;> first | exact (lK (by omega)) | exact (lM_100 hS) | exact trivial) dX10_readWord_58 (fun v_58 S_58 F_58 A_58 hP_58 => ?_)
                  obtain ⟨rfl, rfl, rfl, rfl⟩ := hP_58
                  show ab_J E 4 0 0 S (upF (upF F 100 28 p) 100 30 b1) A 61 [some (aR 100), some (aR (1000000 + j)), some (aI z), some (aI k)] [aI ((ab_tx j).length : Nat), aI k]
                  refine j_icmp_ge C (tgt := 95) dX10_readWord_61 (by decide) ⟨by omega, by omega⟩ ⟨by omega, by omega⟩ (fun c61 => ?_) (fun c61 => ?_)
                  · refine j_iload_n C dX10_readWord_95 rfl rfl ?_
                    exact j_zret C hr (ab_nz01 hz.c) (Nat.le_refl _) (Nat.le_refl _) dX10_readWord_96 ⟨rfl, rfl, b1, p, _, rfl, hb1, hq1, by omega, rfl, (by first | (have ek : k = ((ab_tx j).length : Nat) := (by omega); rw [ek] at hz; exact hz.iff (by rw [wok_iff])) | (have hf := hz.f c53; rw [c53]; exact zb.zero (fun q => hf (by rw [wok_iff] at q; exact ⟨q.1, fun i q1 q2 => q.2 i q1 (by omega)⟩))))⟩
                  · have hzt := hz.t (by omega)
                    have hbt := hT (b1 + k) (by omega) (by omega)
                    have hut := byt_in (T := A 125) (e := F 100 29) (i := b1 + k) (by omega) (by omega)
                    have hct := ab_txg hj hk.1 (by omega)
                    refine j_aload_n C dX10_readWord_64 rfl rfl ?_
                    refine j_getR C (j := 125) fl_X10_72 (sM_100 hS) rfl dX10_readWord_65 ?_
                    refine j_aload_n C dX10_readWord_68 rfl rfl ?_
                    refine j_get C (aI b1) fl_X10_190 (sM_100 hS) (fun _ => rfl) dX10_readWord_69 ?_
                    refine j_iload_n C dX10_readWord_72 rfl rfl ?_
                    refine j_iadd C dX10_readWord_73 ?_
                    refine j_bald C (sM_125 hS) (by omega) (by omega) (by decide) dX10_readWord_74 ?_
                    refine j_aload_n C dX10_readWord_75 rfl rfl ?_
                    refine j_iload_n C dX10_readWord_76 rfl rfl ?_
                    refine j_callT C j (by omega) (vs := [aI k]) (st := [aI (A 125 (b1 + k))]) cl_X10_202 im_yJ0_charAt_5068e se_yJ0_charAt_5068e (fun _ => (t_charAt _ S (upF (upF F 100 28 p) 100 30 b1) A _ (by omega) _ (by omega) (by omega))) rfl rfl ⟨rfl, rfl, by decide, by decide⟩ ⟨by decide, by decide⟩ (fun _ => Nat.le_of_ble_eq_true rfl) (fun v hv => by simp only [List.mem_cons, List.not_mem_nil, or_false] at hv; rcases hv with rfl <;> first | exact trivial) (fun v hv => by simp only [List.mem_cons, List.not_mem_nil, or_false, Option.some.injEq, reduceCtorEq, false_or] at hv; rcases hv with rfl | rfl | rfl | rfl <;> first | exact (lK (by omega)) | exact (lM_100 hS) | exact trivial) dX10_readWord_77 (fun v_77 S_77 F_77 A_77 hP_77 => ?_)
                    obtain ⟨rfl, rfl, rfl, rfl⟩ := hP_77
                    show ab_J E 4 0 0 S (upF (upF F 100 28 p) 100 30 b1) A 80 [some (aR 100), some (aR (1000000 + j)), some (aI z), some (aI k)] [aI ((ab_tx j).getD (k).toNat 0), aI (A 125 (b1 + k))]
                    refine j_icmp_ne C (tgt := 87) dX10_readWord_80 (by decide) ⟨by omega, by omega⟩ ⟨by omega, by omega⟩ (fun c80 => ?_) (fun c80 => ?_)
                    · refine j_iconst C dX10_readWord_87 ?_
                      refine j_istore_n C (lv' := [some (aR 100), some (aR (1000000 + j)), some (aI 0), some (aI k)]) dX10_readWord_88 rfl (by decide) rfl ?_
                      refine j_iinc C (lv' := [some (aR 100), some (aR (1000000 + j)), some (aI 0), some (aI (k + 1))]) dX10_readWord_89 rfl (by decide) rfl ?_
                      refine j_goto C (tgt := 52) dX10_readWord_92 (by decide) ?_
                      exact ih52 0 (k + 1) (by omega) (by first | exact zb.one ⟨hzt.1, fun i q1 q2 => if q : i = k then by rw [q, hut]; omega else hzt.2 i q1 (by omega)⟩ | exact zb.zero (fun q => by have := q.2 k hk.1 (by omega); rw [hut] at this; omega)) (by omega)
                    · refine j_iconst C dX10_readWord_83 ?_
                      refine j_goto C (tgt := 88) dX10_readWord_84 (by decide) ?_
                      refine j_istore_n C (lv' := [some (aR 100), some (aR (1000000 + j)), some (aI 1), some (aI k)]) dX10_readWord_88 rfl (by decide) rfl ?_
                      refine j_iinc C (lv' := [some (aR 100), some (aR (1000000 + j)), some (aI 1), some (aI (k + 1))]) dX10_readWord_89 rfl (by decide) rfl ?_
                      refine j_goto C (tgt := 52) dX10_readWord_92 (by decide) ?_
                      exact ih52 1 (k + 1) (by omega) (by first | exact zb.one ⟨hzt.1, fun i q1 q2 => if q : i = k then by rw [q, hut]; omega else hzt.2 i q1 (by omega)⟩ | exact zb.zero (fun q => by have := q.2 k hk.1 (by omega); rw [hut] at this; omega)) (by omega)
            exact K52 _ 1 0 (by omega) (by first | exact zb.one ⟨by omega, fun i q1 q2 => by omega⟩ | exact zb.zero (fun q => by have := q.1; omega)) (Nat.lt_succ_self _)
        · exact absurd c12 (by decide)
  exact K4 _ b1 (by omega) (fun i q1 q2 => by omega) (Nat.lt_succ_self _)

set_option maxHeartbeats 4000000 in
set_option maxRecDepth 100000 in
theorem m_readNumber (l : Launch) (S : ab_St) (F : ab_Fn) (A : ab_An) (hS : ab_SM S) (hi : Int) (hh : 0 ≤ hi ∧ hi ≤ 99) (hp : 0 ≤ F 100 28 ∧ F 100 28 ≤ F 100 29 ∧ F 100 29 ≤ 400) (hT : ∀ i, 0 ≤ i → i < F 100 29 → -128 ≤ A 125 i ∧ A 125 i ≤ 127) : ab_Met l yX10_readNumber cX10_readNumber 3 (some .int) { frames := 2, cells := 0, slots := 0, locals := 42 } 0 0 [aR 100, aI hi] S F A (fun v S' F' A' => S = S' ∧ A = A' ∧ ∃ b q r : Int, v = some (aI r) ∧ b = bl (byt (A 125) (F 100 29)) (F 100 28) ∧ q = dg (byt (A 125) (F 100 29)) b ∧ (F 100 28 ≤ b ∧ b ≤ q ∧ q ≤ F 100 29) ∧ F' = upF (upF F 100 28 q) 100 30 b ∧ r = nV (byt (A 125) (F 100 29)) b q hi ∧ (-1 ≤ r ∧ r ≤ hi)) := by
  refine ab_enter (by decide) (by simp [aI, aR, aX, ab_val, Value.category]) (Nat.le_of_ble_eq_true rfl) (fun E C hr => ?_)
  refine j_eq (lv' := [some (aR 100), some (aI hi), none]) ?_
  refine j_aload_n C dX10_readNumber_0 rfl rfl ?_
  refine j_callV C (vs := []) (st := []) cl_X10_193 im_yX10_blanks se_yX10_blanks (fun _ => m_blanks _ S F A hS (by show 0 ≤ F 100 28 ∧ F 100 28 ≤ F 100 29 ∧ F 100 29 ≤ 400; omega) hT) (sM_100 hS) rfl rfl rfl ⟨rfl, rfl, by decide, by decide⟩ ⟨by decide, by decide⟩ (fun _ => Nat.le_of_ble_eq_true rfl) (fun v hv => by cases hv) (fun v hv => by simp only [List.mem_cons, List.not_mem_nil, or_false, Option.some.injEq, reduceCtorEq, false_or] at hv; rcases hv with rfl | rfl <;> first | exact (lM_100 hS) | exact trivial) dX10_readNumber_1 (fun v_1 S_1 F_1 A_1 hP_1 => ?_)
  obtain ⟨rfl, rfl, rfl, b1, hb1, hr1, rfl⟩ := hP_1
  have hb1 : b1 = bl (byt (A 125) (F 100 29)) (F 100 28) := hb1
  have hr1 : F 100 28 ≤ b1 ∧ b1 ≤ F 100 29 := hr1
  show ab_J E 3 0 0 S (upF (upF F 100 28 b1) 100 30 b1) A 4 [some (aR 100), some (aI hi), none] []
  refine j_iconst C dX10_readNumber_4 ?_
  refine j_istore_n C (lv' := [some (aR 100), some (aI hi), some (aI 0)]) dX10_readNumber_5 rfl (by decide) rfl ?_
  have K6 : ∀ (N : Nat) (p v0 : Int), (b1 ≤ p ∧ p ≤ F 100 29) → (∀ i, b1 ≤ i → i < p → 48 ≤ (byt (A 125) (F 100 29)) i ∧ (byt (A 125) (F 100 29)) i ≤ 57) → (v0 = nvp (byt (A 125) (F 100 29)) b1 p) → (0 ≤ v0 ∧ v0 ≤ 99 ∧ (p = b1 → v0 = 0) ∧ (p = b1 + 1 → v0 ≤ 9)) → ((F 100 29 - p).toNat) < N → ab_J E 3 0 0 S (upF (upF F 100 28 p) 100 30 b1) A 6 [some (aR 100), some (aI hi), some (aI v0)] [] := by
    intro N
    induction N with
    | zero => intro p v0 hp1 hs hv hvr hm; exact absurd hm (Nat.not_lt_zero _)
    | succ N ih =>
      have ih6 := ih
      clear ih
      intro p v0 hp1 hs hv hvr hm6
      refine j_aload_n C dX10_readNumber_6 rfl rfl ?_
      refine j_bipush C dX10_readNumber_7 rfl ?_
      refine j_bipush C dX10_readNumber_9 rfl ?_
      refine j_callV C (vs := [aI 48, aI 57]) (st := []) cl_X10_187 im_yX10_isAt se_yX10_isAt (fun _ => m_isAt _ S (upF (upF F 100 28 p) 100 30 b1) A hS _ _ (by decide) (by show 0 ≤ p ∧ p ≤ F 100 29 ∧ F 100 29 ≤ 400; omega) hT) (sM_100 hS) rfl rfl rfl ⟨rfl, rfl, by decide, by decide⟩ ⟨by decide, by decide⟩ (fun _ => Nat.le_of_ble_eq_true rfl) (fun v hv => by cases hv) (fun v hv => by simp only [List.mem_cons, List.not_mem_nil, or_false, Option.some.injEq, reduceCtorEq, false_or] at hv; rcases hv with rfl | rfl | rfl <;> first | exact (lM_100 hS) | exact trivial) dX10_readNumber_11 (fun v_11 S_11 F_11 A_11 hP_11 => ?_)
      obtain ⟨rfl, rfl, rfl, z_11, rfl, ⟨rfl, hz_11⟩ | ⟨rfl, hz_11⟩⟩ := hP_11
      · have hz_11 : 48 ≤ (byt (A 125) (F 100 29)) (p) ∧ (byt (A 125) (F 100 29)) (p) ≤ 57 := hz_11
        show ab_J E 3 0 0 S (upF (upF F 100 28 p) 100 30 b1) A 14 [some (aR 100), some (aI hi), some (aI v0)] [aI 1]
        skip
        refine j_if_eq C (tgt := 65) dX10_readNumber_14 (by decide) ⟨by omega, by omega⟩ (fun c14 => ?_) (fun c14 => ?_)
        · exact absurd c14 (by decide)
        · have q8 : p < F 100 29 := Int.not_le.mp (fun q => by rw [byt_out (by omega)] at hz_11; omega)
          have q7 := byt_t (hT p (by omega) (by omega)) (by decide) (by decide) hz_11
          refine j_aload_n C dX10_readNumber_17 rfl rfl ?_
          refine j_get C (aI p) fl_X10_181 (sM_100 hS) (fun _ => rfl) dX10_readNumber_18 ?_
          refine j_aload_n C dX10_readNumber_21 rfl rfl ?_
          refine j_get C (aI b1) fl_X10_190 (sM_100 hS) (fun _ => rfl) dX10_readNumber_22 ?_
          refine j_isub C dX10_readNumber_25 ?_
          refine j_iconst C dX10_readNumber_26 ?_
          refine j_icmp_ge C (tgt := 50) dX10_readNumber_27 (by decide) ⟨by omega, by omega⟩ ⟨by omega, by omega⟩ (fun c27 => ?_) (fun c27 => ?_)
          · refine j_iload_n C dX10_readNumber_50 rfl rfl ?_
            refine j_istore_n C (lv' := [some (aR 100), some (aI hi), some (aI v0)]) dX10_readNumber_51 rfl (by decide) rfl ?_
            refine j_aload_n C dX10_readNumber_52 rfl rfl ?_
            refine j_dup C dX10_readNumber_53 (fun _ => rfl) ?_
            refine j_get C (aI p) fl_X10_181 (sM_100 hS) (fun _ => rfl) dX10_readNumber_54 ?_
            refine j_iconst C dX10_readNumber_57 ?_
            refine j_iadd C dX10_readNumber_58 ?_
            refine j_putI C fp_X10_181 (sM_100 hS) rfl dX10_readNumber_59 ?_
            refine j_goto C (tgt := 6) dX10_readNumber_62 (by decide) ?_
            refine j_eq (F' := (upF (upF F 100 28 (p + 1)) 100 30 b1)) ?_ (e3 := (by rw [upF_c (by decide), upF_up]))
            exact ih6 (p + 1) v0 (by omega) (fun i q1 q2 => if q : i = p then by rw [q]; exact hz_11 else hs i q1 (by omega)) (by first | (rcases (show p = b1 ∨ p = b1 + 1 by omega) with e | e; (rw [nvp_1 e, ← hv, q7.1]); (rw [nvp_2 e, ← hv, q7.1])) | (rw [nvp_s (by omega)]; exact hv)) (by omega) (by omega)
          · refine j_bipush C dX10_readNumber_30 rfl ?_
            refine j_iload_n C dX10_readNumber_32 rfl rfl ?_
            refine j_imul C dX10_readNumber_33 ?_
            refine j_aload_n C dX10_readNumber_34 rfl rfl ?_
            refine j_getR C (j := 125) fl_X10_72 (sM_100 hS) rfl dX10_readNumber_35 ?_
            refine j_aload_n C dX10_readNumber_38 rfl rfl ?_
            refine j_get C (aI p) fl_X10_181 (sM_100 hS) (fun _ => rfl) dX10_readNumber_39 ?_
            refine j_bald C (sM_125 hS) (by omega) (by omega) (by decide) dX10_readNumber_42 ?_
            refine j_iadd C dX10_readNumber_43 ?_
            refine j_bipush C dX10_readNumber_44 rfl ?_
            refine j_isub C dX10_readNumber_46 ?_
            refine j_goto C (tgt := 51) dX10_readNumber_47 (by decide) ?_
            refine j_istore_n C (lv' := [some (aR 100), some (aI hi), some (aI (((10 * v0) + (A 125 p)) - 48))]) dX10_readNumber_51 rfl (by decide) rfl ?_
            refine j_aload_n C dX10_readNumber_52 rfl rfl ?_
            refine j_dup C dX10_readNumber_53 (fun _ => rfl) ?_
            refine j_get C (aI p) fl_X10_181 (sM_100 hS) (fun _ => rfl) dX10_readNumber_54 ?_
            refine j_iconst C dX10_readNumber_57 ?_
            refine j_iadd C dX10_readNumber_58 ?_
            refine j_putI C fp_X10_181 (sM_100 hS) rfl dX10_readNumber_59 ?_
            refine j_goto C (tgt := 6) dX10_readNumber_62 (by decide) ?_
            refine j_eq (F' := (upF (upF F 100 28 (p + 1)) 100 30 b1)) ?_ (e3 := (by rw [upF_c (by decide), upF_up]))
            exact ih6 (p + 1) (((10 * v0) + (A 125 p)) - 48) (by omega) (fun i q1 q2 => if q : i = p then by rw [q]; exact hz_11 else hs i q1 (by omega)) (by first | (rcases (show p = b1 ∨ p = b1 + 1 by omega) with e | e; (rw [nvp_1 e, ← hv, q7.1]); (rw [nvp_2 e, ← hv, q7.1])) | (rw [nvp_s (by omega)]; exact hv)) (by omega) (by omega)
      · have hz_11 : ¬ (48 ≤ (byt (A 125) (F 100 29)) (p) ∧ (byt (A 125) (F 100 29)) (p) ≤ 57) := hz_11
        show ab_J E 3 0 0 S (upF (upF F 100 28 p) 100 30 b1) A 14 [some (aR 100), some (aI hi), some (aI v0)] [aI 0]
        skip
        refine j_if_eq C (tgt := 65) dX10_readNumber_14 (by decide) ⟨by omega, by omega⟩ (fun c14 => ?_) (fun c14 => ?_)
        · have hq1 := sk_is (U := (byt (A 125) (F 100 29))) (lo := 48) (hi := 57) hp1.1 (by omega) hs hz_11
          refine j_aload_n C dX10_readNumber_65 rfl rfl ?_
          refine j_get C (aI p) fl_X10_181 (sM_100 hS) (fun _ => rfl) dX10_readNumber_66 ?_
          refine j_aload_n C dX10_readNumber_69 rfl rfl ?_
          refine j_get C (aI b1) fl_X10_190 (sM_100 hS) (fun _ => rfl) dX10_readNumber_70 ?_
          refine j_icmp_eq C (tgt := 94) dX10_readNumber_73 (by decide) ⟨by omega, by omega⟩ ⟨by omega, by omega⟩ (fun c73 => ?_) (fun c73 => ?_)
          · refine j_iconst C dX10_readNumber_94 ?_
            refine j_goto C (tgt := 99) dX10_readNumber_95 (by decide) ?_
            exact j_iret C hr (Nat.le_refl _) (Nat.le_refl _) dX10_readNumber_99 ⟨rfl, rfl, b1, p, _, rfl, hb1, hq1, by omega, rfl, (by unfold nV; rw [← hv]; first | rw [if_pos (by omega)] | rw [if_neg (by omega)]), by omega⟩
          · refine j_aload_n C dX10_readNumber_76 rfl rfl ?_
            refine j_get C (aI p) fl_X10_181 (sM_100 hS) (fun _ => rfl) dX10_readNumber_77 ?_
            refine j_aload_n C dX10_readNumber_80 rfl rfl ?_
            refine j_get C (aI b1) fl_X10_190 (sM_100 hS) (fun _ => rfl) dX10_readNumber_81 ?_
            refine j_isub C dX10_readNumber_84 ?_
            refine j_iconst C dX10_readNumber_85 ?_
            refine j_icmp_gt C (tgt := 94) dX10_readNumber_86 (by decide) ⟨by omega, by omega⟩ ⟨by omega, by omega⟩ (fun c86 => ?_) (fun c86 => ?_)
            · refine j_iconst C dX10_readNumber_94 ?_
              refine j_goto C (tgt := 99) dX10_readNumber_95 (by decide) ?_
              exact j_iret C hr (Nat.le_refl _) (Nat.le_refl _) dX10_readNumber_99 ⟨rfl, rfl, b1, p, _, rfl, hb1, hq1, by omega, rfl, (by unfold nV; rw [← hv]; first | rw [if_pos (by omega)] | rw [if_neg (by omega)]), by omega⟩
            · refine j_iload_n C dX10_readNumber_89 rfl rfl ?_
              refine j_iload_n C dX10_readNumber_90 rfl rfl ?_
              refine j_icmp_le C (tgt := 98) dX10_readNumber_91 (by decide) ⟨by omega, by omega⟩ ⟨by omega, by omega⟩ (fun c91 => ?_) (fun c91 => ?_)
              · refine j_iload_n C dX10_readNumber_98 rfl rfl ?_
                exact j_iret C hr (Nat.le_refl _) (Nat.le_refl _) dX10_readNumber_99 ⟨rfl, rfl, b1, p, _, rfl, hb1, hq1, by omega, rfl, (by unfold nV; rw [← hv]; first | rw [if_pos (by omega)] | rw [if_neg (by omega)]), by omega⟩
              · refine j_iconst C dX10_readNumber_94 ?_
                refine j_goto C (tgt := 99) dX10_readNumber_95 (by decide) ?_
                exact j_iret C hr (Nat.le_refl _) (Nat.le_refl _) dX10_readNumber_99 ⟨rfl, rfl, b1, p, _, rfl, hb1, hq1, by omega, rfl, (by unfold nV; rw [← hv]; first | rw [if_pos (by omega)] | rw [if_neg (by omega)]), by omega⟩
        · exact absurd c14 (by decide)
  exact K6 _ b1 0 (by omega) (fun i q1 q2 => by omega) (nvp_0 (Int.le_refl _)).symm (by omega) (Nat.lt_succ_self _)
