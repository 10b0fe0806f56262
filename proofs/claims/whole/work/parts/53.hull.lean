/-! the least ring by columns -/
theorem cx_id (u1 u2 v1 v2 w1 w2 : Int) : v1 * (u1 * w2 - u2 * w1) = w1 * (u1 * v2 - u2 * v1) + u1 * (v1 * w2 - v2 * w1) := by
  simp only [Int.mul_sub]
  rw [Int.mul_left_comm v1 u1 w2, Int.mul_left_comm v1 u2 w1, Int.mul_left_comm w1 u1 v2, Int.mul_left_comm w1 u2 v1]
  rw [Int.mul_comm v1 w1, Int.mul_comm w1 v2]
  omega
theorem pos_of_mul {a b : Int} (ha : 0 < a) (h : 0 < a * b) : 0 < b := by
  rcases Int.lt_or_le 0 b with z | z
  · exact z
  · have := Int.mul_nonpos_of_nonneg_of_nonpos (Int.le_of_lt ha) z; omega
theorem nn_of_mul {a b : Int} (ha : 0 < a) (h : 0 ≤ a * b) : 0 ≤ b := by
  rcases Int.lt_or_le b 0 with z | z
  · have := Int.mul_neg_of_pos_of_neg ha z; omega
  · exact z
/-- a, b; c, d; e, f by vectors from c, d -/
theorem cr_vec (a b c d x y : Int) : cr a b c d x y = (c - a) * (y - d) - (d - b) * (x - c) := by
  unfold cr
  rw [show y - b = (y - d) + (d - b) by omega, show x - a = (x - c) + (c - a) by omega, Int.mul_add, Int.mul_add, Int.mul_comm (d - b) (c - a)]
  omega
/-- a turn to the left goes on -/
theorem cr_far {a b c d e f g h : Int} (h1 : a < c) (h2 : c < e) (h3 : e < g) (k1 : 0 < cr a b c d e f) (k2 : 0 < cr c d e f g h) : 0 < cr a b c d g h := by
  rw [cr_vec] at k1 ⊢
  unfold cr at k2
  have id := cx_id (c - a) (d - b) (e - c) (f - d) (g - c) (h - d)
  refine pos_of_mul (a := e - c) (by omega) ?_
  rw [id]
  have m1 := Int.mul_pos (show 0 < g - c by omega) k1
  have m2 := Int.mul_pos (show 0 < c - a by omega) k2
  omega
/-- behind a turn to the left what lay above the line before lies above the new one -/
theorem cr_back {a b c d x y g h : Int} (h1 : a < c) (h2 : x < c) (h3 : c < g) (k1 : 0 ≤ cr a b c d x y) (k2 : 0 < cr a b c d g h) : 0 < cr c d g h x y := by
  rw [cr_vec] at k1 k2
  unfold cr
  have id := cx_id (c - x) (d - y) (c - a) (d - b) (g - c) (h - d)
  have e1 : (g - c) * (y - d) - (h - d) * (x - c) = (c - x) * (h - d) - (d - y) * (g - c) := by
    rw [show y - d = -(d - y) by omega, show x - c = -(c - x) by omega, Int.mul_neg, Int.mul_neg, Int.mul_comm (g - c), Int.mul_comm (h - d)]; omega
  rw [e1]
  refine pos_of_mul (a := c - a) (by omega) ?_
  rw [id]
  have e2 : (c - x) * (d - b) - (d - y) * (c - a) = (c - a) * (y - d) - (d - b) * (x - c) := by
    rw [show y - d = -(d - y) by omega, show x - c = -(c - x) by omega, Int.mul_neg, Int.mul_neg, Int.mul_comm (c - a), Int.mul_comm (d - b)]; omega
  rw [e2]
  have m1 := Int.mul_nonneg (show 0 ≤ g - c by omega) k1
  have m2 := Int.mul_pos (show 0 < c - x by omega) k2
  omega
/-- over an edge that is dropped -/
theorem cr_over {a b c d x y g h : Int} (h1 : a < c) (h2 : a ≤ x) (h3 : a < g) (k1 : 0 ≤ cr a b c d x y) (k2 : ¬ 0 < cr a b c d g h) : 0 ≤ cr a b g h x y := by
  unfold cr at k1 k2 ⊢
  have id := cx_id (g - a) (h - b) (c - a) (d - b) (x - a) (y - b)
  refine nn_of_mul (a := c - a) (by omega) ?_
  rw [id]
  have e1 : (g - a) * (d - b) - (h - b) * (c - a) = -((c - a) * (h - b) - (d - b) * (g - a)) := by
    rw [Int.mul_comm (g - a), Int.mul_comm (h - b)]; omega
  rw [e1]
  have m1 := Int.mul_nonneg (show 0 ≤ x - a by omega) (show 0 ≤ -((c - a) * (h - b) - (d - b) * (g - a)) by omega)
  have m2 := Int.mul_nonneg (show 0 ≤ g - a by omega) k1
  omega
/-- beyond an edge that is dropped -/
theorem cr_beyond {a b c d x y g h : Int} (h1 : a < c) (h2 : c < g) (h4 : x < g) (k1 : 0 ≤ cr c d g h x y) (k2 : ¬ 0 < cr a b c d g h) : 0 ≤ cr a b g h x y := by
  rw [cr_vec] at k1 ⊢
  have id := cx_id (g - x) (h - y) (g - c) (h - d) (g - a) (h - b)
  have e0 : (g - a) * (y - h) - (h - b) * (x - g) = (g - x) * (h - b) - (h - y) * (g - a) := by
    rw [show y - h = -(h - y) by omega, show x - g = -(g - x) by omega, Int.mul_neg, Int.mul_neg, Int.mul_comm (g - a), Int.mul_comm (h - b)]; omega
  have e1 : (g - c) * (y - h) - (h - d) * (x - g) = (g - x) * (h - d) - (h - y) * (g - c) := by
    rw [show y - h = -(h - y) by omega, show x - g = -(g - x) by omega, Int.mul_neg, Int.mul_neg, Int.mul_comm (g - c), Int.mul_comm (h - d)]; omega
  have e2 : (g - c) * (h - b) - (h - d) * (g - a) = -(cr a b c d g h) := by
    unfold cr
    rw [show g - c = (g - a) - (c - a) by omega, show h - d = (h - b) - (d - b) by omega, Int.sub_mul (g - a) (c - a) (h - b), Int.sub_mul (h - b) (d - b) (g - a), Int.mul_comm (h - b) (g - a)]; omega
  rw [e0]
  rw [e1] at k1
  refine nn_of_mul (a := g - c) (by omega) ?_
  rw [id, e2]
  have m1 := Int.mul_nonneg (show 0 ≤ g - a by omega) k1
  have m2 := Int.mul_nonneg (show 0 ≤ g - x by omega) (show 0 ≤ -(cr a b c d g h) by omega)
  omega
theorem cr_neg (a b c d x y : Int) : cr (-a) (-b) (-c) (-d) (-x) (-y) = cr a b c d x y := by
  unfold cr
  rw [show -c - -a = -(c - a) by omega, show -y - -b = -(y - b) by omega, show -d - -b = -(d - b) by omega, show -x - -a = -(x - a) by omega, Int.neg_mul_neg, Int.neg_mul_neg]
theorem cr_c (a b c d : Int) : cr a b c d c d = 0 := by unfold cr; rw [Int.mul_comm]; omega
theorem cr_a (a b c d : Int) : cr a b c d a b = 0 := by unfold cr; rw [show b - b = 0 by omega, show a - a = 0 by omega, Int.mul_zero, Int.mul_zero]; omega
/-- n points of columns below x that have one, from the left: all columns' lowest lie above their edges -/
def CH (hs : Int → Prop) (lo X Y : Int → Int) (n x : Int) : Prop :=
  (∀ i, 0 ≤ i → i < n → hs (X i) ∧ X i < x ∧ Y i = lo (X i)) ∧ (∀ i, 0 ≤ i → i + 1 < n → X i < X (i + 1)) ∧ (∀ i, 0 ≤ i → i + 1 < n → ∀ c, hs c → c < x → 0 ≤ cr (X i) (Y i) (X (i + 1)) (Y (i + 1)) c (lo c) ∧ (cr (X i) (Y i) (X (i + 1)) (Y (i + 1)) c (lo c) = 0 → X i ≤ c ∧ c ≤ X (i + 1))) ∧ (∀ c, hs c → c < x → 0 < n ∧ X 0 ≤ c ∧ c ≤ X (n - 1))
theorem CH_0 {hs : Int → Prop} {lo X Y : Int → Int} {x : Int} (h : ∀ c, hs c → ¬ c < x) : CH hs lo X Y 0 x := ⟨fun i a b => by omega, fun i a b => by omega, fun i a b => by omega, fun c a b => absurd b (h c a)⟩
theorem CH_no {hs : Int → Prop} {lo X Y : Int → Int} {n x : Int} (h : CH hs lo X Y n x) (hx : ¬ hs x) : CH hs lo X Y n (x + 1) := by
  obtain ⟨h1, h2, h3, h4⟩ := h
  have ne : ∀ c, hs c → c < x + 1 → c < x := fun c a b => by
    rcases (show c < x ∨ c = x by omega) with z | z
    · exact z
    · rw [z] at a; exact absurd a hx
  exact ⟨fun i a b => ⟨(h1 i a b).1, by have := (h1 i a b).2.1; omega, (h1 i a b).2.2⟩, h2, fun i a b c d e => h3 i a b c d (ne c d e), fun c a b => h4 c a (ne c a b)⟩
theorem CH_mono {hs : Int → Prop} {lo X Y : Int → Int} {n x : Int} (h : CH hs lo X Y n x) : ∀ (k : Nat) (i : Int), 0 ≤ i → i + k < n → X i + k ≤ X (i + k)
  | 0, i, a, b => by rw [show i + ((0 : Nat) : Int) = i by omega]; omega
  | k + 1, i, a, b => by
    have ih := CH_mono h k i a (by omega)
    have := h.2.1 (i + k) (by omega) (by omega)
    rw [show i + ((k + 1 : Nat) : Int) = i + k + 1 by omega]
    omega
theorem CH_len {hs : Int → Prop} {lo X Y : Int → Int} {n x l u : Int} (h : CH hs lo X Y n x) (hb : ∀ c, hs c → l ≤ c ∧ c ≤ u) (hlu : l ≤ u + 1) : n ≤ u - l + 1 := by
  rcases (show n ≤ 0 ∨ 0 < n by omega) with z | z
  · omega
  · have m := CH_mono h (n - 1).toNat 0 (by omega) (by omega)
    have a := hb _ (h.1 0 (by omega) z).1
    have b := hb _ (h.1 (n - 1) (by omega) (by omega)).1
    rw [show (0 : Int) + ((n - 1).toNat : Nat) = n - 1 by omega] at m
    omega
/-- what the drop leaves: a turn to the left at its end -/
def DR (X Y : Int → Int) (n m x y : Int) : Prop := (m ≤ n ∧ (0 < n → 0 < m) ∧ 0 ≤ m) ∧ (m < 2 ∨ 0 < cr (X (m - 2)) (Y (m - 2)) (X (m - 1)) (Y (m - 1)) x y) ∧ ∀ i, m ≤ i → i < n → 1 ≤ i ∧ ¬ 0 < cr (X (i - 1)) (Y (i - 1)) (X i) (Y i) x y
theorem CH_drop {hs : Int → Prop} {lo X Y : Int → Int} {n m x : Int} (h : CH hs lo X Y n x) (hd : DR X Y n m x (lo x)) (hm : 0 < m) : ∀ (k : Nat) (j : Int), m ≤ j → j + k = n → ∀ c, hs c → c < x → X (j - 1) ≤ c → 0 ≤ cr (X (j - 1)) (Y (j - 1)) x (lo x) c (lo c)
  | 0, j, a, b, c, hc, cx, ge => by
    have le := (h.2.2.2 c hc cx).2.2
    rw [show n = j by omega] at le
    have e : c = X (j - 1) := by omega
    have y := (h.1 (j - 1) (by omega) (by omega)).2.2
    rw [e, ← y, cr_a]; exact Int.le_refl _
  | k + 1, j, a, b, c, hc, cx, ge => by
    have ih := CH_drop h hd hm k (j + 1) (by omega) (by omega)
    rw [show j + 1 - 1 = j by omega] at ih
    have hdj := hd.2.2 j a (by omega)
    have inc := h.2.1 (j - 1) (by omega) (by omega)
    rw [show j - 1 + 1 = j by omega] at inc
    have xj := (h.1 j (by omega) (by omega)).2.1
    rcases (show c ≤ X j ∨ X j ≤ c by omega) with z | z
    · have ed := (h.2.2.1 (j - 1) (by omega) (by omega) c hc cx).1
      rw [show j - 1 + 1 = j by omega] at ed
      exact cr_over inc ge (by omega) ed hdj.2
    · exact cr_beyond inc xj cx (ih c hc cx z) hdj.2
theorem CH_left {hs : Int → Prop} {lo X Y : Int → Int} {n m x : Int} (h : CH hs lo X Y n x) (hd : DR X Y n m x (lo x)) (hm : 2 ≤ m) : ∀ (k : Nat) (i : Int), 0 ≤ i → i + 1 + k = m - 1 → 0 < cr (X i) (Y i) (X (i + 1)) (Y (i + 1)) x (lo x)
  | 0, i, a, b => by
    rcases hd.2.1 with z | z
    · omega
    · rw [show m - 2 = i by omega, show m - 1 = i + 1 by omega] at z; exact z
  | k + 1, i, a, b => by
    have ih := CH_left h hd hm k (i + 1) (by omega) (by omega)
    have mn := hd.1.1
    have i1 := h.2.1 i a (by omega)
    have i2 := h.2.1 (i + 1) (by omega) (by omega)
    have q := h.1 (i + 1 + 1) (by omega) (by omega)
    have ed := h.2.2.1 i a (by omega) (X (i + 1 + 1)) q.1 q.2.1
    rw [← q.2.2] at ed
    have ed2 : 0 < cr (X i) (Y i) (X (i + 1)) (Y (i + 1)) (X (i + 1 + 1)) (Y (i + 1 + 1)) := by
      rcases (show 0 < cr (X i) (Y i) (X (i + 1)) (Y (i + 1)) (X (i + 1 + 1)) (Y (i + 1 + 1)) ∨ cr (X i) (Y i) (X (i + 1)) (Y (i + 1)) (X (i + 1 + 1)) (Y (i + 1 + 1)) = 0 by omega) with z | z
      · exact z
      · have := ed.2 z; omega
    exact cr_far i1 i2 q.2.1 ed2 ih
/-- a column's lowest comes behind the others -/
theorem CH_add {hs : Int → Prop} {lo X Y X' Y' : Int → Int} {n m x : Int} (h : CH hs lo X Y n x) (hx : hs x) (hd : DR X Y n m x (lo x)) (hX : ∀ i, X' i = if i = m then x else X i) (hY : ∀ i, Y' i = if i = m then lo x else Y i) : CH hs lo X' Y' (m + 1) (x + 1) := by
  have h0 := h
  obtain ⟨h1, h2, h3, h4⟩ := h
  have mn := hd.1
  have Xm : X' m = x := by rw [hX, if_pos rfl]
  have Ym : Y' m = lo x := by rw [hY, if_pos rfl]
  have Xo : ∀ i, i < m → X' i = X i := fun i z => by rw [hX, if_neg (by omega)]
  have Yo : ∀ i, i < m → Y' i = Y i := fun i z => by rw [hY, if_neg (by omega)]
  refine ⟨fun i a b => ?_, fun i a b => ?_, fun i a b c hc cx => ?_, fun c hc cx => ?_⟩
  · by_cases z : i = m
    · rw [z, Xm, Ym]; exact ⟨hx, by omega, rfl⟩
    · have := h1 i a (by omega)
      rw [Xo i (by omega), Yo i (by omega)]; exact ⟨this.1, by omega, this.2.2⟩
  · rw [Xo i (by omega)]
    by_cases z : i + 1 = m
    · rw [z, Xm]; exact (h1 i a (by omega)).2.1
    · rw [Xo (i + 1) (by omega)]; exact h2 i a (by omega)
  · rw [Xo i (by omega), Yo i (by omega)]
    have hi := h1 i a (by omega)
    by_cases z : i + 1 = m
    · rw [z, Xm, Ym]
      have dr := CH_drop h0 hd (by omega) (n - m).toNat m (Int.le_refl _) (by omega)
      rw [show m - 1 = i by omega] at dr
      rcases (show c = x ∨ c < x by omega) with y | y
      · rw [y, cr_c]; exact ⟨Int.le_refl _, fun _ => ⟨by omega, by omega⟩⟩
      · rcases (show X i ≤ c ∨ c < X i by omega) with w | w
        · exact ⟨dr c hc y w, fun _ => ⟨w, by omega⟩⟩
        · have i0 : 0 < i := by
            rcases (show 0 < i ∨ i = 0 by omega) with v | v
            · exact v
            · have := (h4 c hc y).2.1; rw [v] at w; omega
          have tl := CH_left h0 hd (by omega) 0 (i - 1) (by omega) (by omega)
          have ed := (h3 (i - 1) (by omega) (by omega) c hc y).1
          have inc := h2 (i - 1) (by omega) (by omega)
          rw [show i - 1 + 1 = i by omega] at tl ed inc
          have := cr_back inc w hi.2.1 ed tl
          exact ⟨by omega, fun q => by omega⟩
    · rw [Xo (i + 1) (by omega), Yo (i + 1) (by omega)]
      rcases (show c = x ∨ c < x by omega) with y | y
      · have tl := CH_left h0 hd (by omega) (m - 2 - i).toNat i a (by omega)
        rw [y]; exact ⟨by omega, fun q => by omega⟩
      · exact h3 i a (by omega) c hc y
  · refine ⟨by omega, ?_, ?_⟩
    · rcases (show c = x ∨ c < x by omega) with y | y
      · by_cases z : m = 0
        · rw [← z, Xm]; omega
        · rw [Xo 0 (by omega)]; have := (h1 0 (by omega) (by omega)).2.1; omega
      · have := h4 c hc y
        rw [Xo 0 (by omega)]; exact this.2.1
    · rw [show m + 1 - 1 = m by omega, Xm]; omega
/-- on a line between its ends one is nearer -/
theorem dd_on {a b c d x y : Int} (h1 : a < c) (h2 : a ≤ x) (h3 : x ≤ c) (h : cr a b c d x y = 0) : (x = c ∧ y = d) ∨ dd a b x y < dd a b c d := by
  have hm : (c - a) * (y - b) = (d - b) * (x - a) := by unfold cr at h; omega
  by_cases z : x = c
  · refine Or.inl ⟨z, ?_⟩
    rw [z, Int.mul_comm (d - b)] at hm
    have := Int.eq_of_mul_eq_mul_left (show c - a ≠ 0 by omega) hm
    omega
  · refine Or.inr ?_
    have hn := congrArg Int.natAbs hm
    rw [Int.natAbs_mul, Int.natAbs_mul] at hn
    have l1 : (x - a).natAbs < (c - a).natAbs := by omega
    have l2 : (y - b).natAbs ≤ (d - b).natAbs := by
      refine Nat.le_of_mul_le_mul_left (c := (c - a).natAbs) ?_ (by omega)
      rw [hn, Nat.mul_comm (c - a).natAbs]
      exact Nat.mul_le_mul_left _ (Nat.le_of_lt l1)
    unfold dd
    omega
/-- an edge of the lower side -/
theorem CH_NX {hs : Int → Prop} {lo X Y : Int → Int} {n x i : Int} {P : Int → Int → Prop} (h : CH hs lo X Y n x) (hP : ∀ c y, P c y → hs c ∧ c < x ∧ lo c ≤ y) (h0 : 0 ≤ i) (h1 : i + 1 < n) : NX P (X i) (Y i) (X (i + 1)) (Y (i + 1)) := by
  have inc := h.2.1 i h0 h1
  refine ⟨fun z => by omega, fun c y hp => ?_⟩
  obtain ⟨p1, p2, p3⟩ := hP c y hp
  have ed := h.2.2.1 i h0 h1 c p1 p2
  have e : cr (X i) (Y i) (X (i + 1)) (Y (i + 1)) c y = cr (X i) (Y i) (X (i + 1)) (Y (i + 1)) c (lo c) + (X (i + 1) - X i) * (y - lo c) := by
    unfold cr
    rw [show y - Y i = (lo c - Y i) + (y - lo c) by omega, Int.mul_add]; omega
  have m := Int.mul_nonneg (show 0 ≤ X (i + 1) - X i by omega) (show 0 ≤ y - lo c by omega)
  rcases (show 0 < cr (X i) (Y i) (X (i + 1)) (Y (i + 1)) c y ∨ cr (X i) (Y i) (X (i + 1)) (Y (i + 1)) c y = 0 by omega) with z | z
  · exact Or.inl z
  · refine Or.inr ⟨z, ?_⟩
    have y0 : y - lo c = 0 := by
      rcases Int.mul_eq_zero.mp (show (X (i + 1) - X i) * (y - lo c) = 0 by omega) with w | w
      · omega
      · exact w
    have := ed.2 (by omega)
    exact dd_on inc this.1 this.2 z
theorem NX_neg {P : Int → Int → Prop} {a b c d : Int} (h : NX (fun x y => P (-x) (-y)) (-a) (-b) (-c) (-d)) : NX P a b c d := by
  refine ⟨fun z => h.1 ⟨by omega, by omega⟩, fun x y hp => ?_⟩
  have q := h.2 (-x) (-y) (by show P (- -x) (- -y); rw [Int.neg_neg, Int.neg_neg]; exact hp)
  rw [cr_neg] at q
  unfold dd at q ⊢
  rcases q with z | ⟨z1, z2⟩
  · exact Or.inl z
  · refine Or.inr ⟨z1, ?_⟩
    rcases z2 with w | w
    · exact Or.inl ⟨by omega, by omega⟩
    · exact Or.inr (by omega)
/-- an upright edge -/
theorem NX_up {P : Int → Int → Prop} {a b d : Int} (h : b < d) (hP : ∀ x y, P x y → x ≤ a ∧ (x = a → b ≤ y ∧ y ≤ d)) : NX P a b a d := by
  refine ⟨fun z => by omega, fun x y hp => ?_⟩
  obtain ⟨p1, p2⟩ := hP x y hp
  have e : cr a b a d x y = (d - b) * (a - x) := by
    unfold cr
    rw [show a - a = 0 by omega, Int.zero_mul, show a - x = -(x - a) by omega, Int.mul_neg]; omega
  rcases (show x = a ∨ x < a by omega) with z | z
  · refine Or.inr ⟨by rw [e, z, show a - a = 0 by omega, Int.mul_zero], ?_⟩
    have := p2 z
    unfold dd
    rcases (show y = d ∨ y < d by omega) with w | w
    · exact Or.inl ⟨z, w⟩
    · exact Or.inr (by omega)
  · refine Or.inl ?_
    rw [e]; exact Int.mul_pos (by omega) (by omega)
/-- both sides together are the least ring -/
theorem CH_LR {hs : Int → Prop} {lo hi X Y : Int → Int} {m n : Int} {P : Int → Int → Prop} (h0 : 0 ≤ m ∧ m ≤ n) (hP : ∀ c y, P c y → hs c ∧ lo c ≤ y ∧ y ≤ hi c) (hQ : ∀ c, hs c → P c (lo c) ∧ P c (hi c) ∧ lo c < hi c ∧ 0 ≤ c ∧ c ≤ 20) (h2 : ∀ c, hs c → hs (c + 1) ∨ hs (c - 1)) (h1 : CH hs lo X Y m 21) (hu : CH (fun c => hs (-c)) (fun c => - hi (-c)) (fun i => - X (m + i)) (fun i => - Y (m + i)) (n - m) 1) : LR P n X Y := by
  by_cases ne : ∃ c, hs c
  · obtain ⟨c0, hc0⟩ := ne
    refine Or.inr ?_
    have k1 := h1.2.2.2 c0 hc0 (by have := (hQ c0 hc0).2.2.2; omega)
    have k2 := hu.2.2.2 (-c0) (by show hs (- -c0); rw [Int.neg_neg]; exact hc0) (by have := (hQ c0 hc0).2.2.2; omega)
    have lof : ∀ c, hs c → X 0 ≤ c ∧ c ≤ X (m - 1) := fun c hc => (h1.2.2.2 c hc (by have := (hQ c hc).2.2.2; omega)).2
    have upf : ∀ c, hs c → c ≤ X m ∧ X (n - 1) ≤ c := fun c hc => by
      have := (hu.2.2.2 (-c) (by show hs (- -c); rw [Int.neg_neg]; exact hc) (by have := (hQ c hc).2.2.2; omega)).2
      have e1 : - X (m + 0) ≤ -c := this.1
      have e2 : -c ≤ - X (m + (n - m - 1)) := this.2
      rw [show m + 0 = m by omega] at e1
      rw [show m + (n - m - 1) = n - 1 by omega] at e2
      omega
    have l0 := h1.1 0 (by omega) k1.1
    have l1 := h1.1 (m - 1) (by omega) (by omega)
    have ua : ∀ i, 0 ≤ i → i < n - m → hs (X (m + i)) ∧ Y (m + i) = hi (X (m + i)) := fun i a b => by
      have q := hu.1 i a b
      have q1 : hs (- - X (m + i)) := q.1
      have q2 : - Y (m + i) = - hi (- - X (m + i)) := q.2.2
      rw [Int.neg_neg] at q1 q2
      exact ⟨q1, by omega⟩
    have u0 := ua 0 (Int.le_refl _) k2.1
    have u1 := ua (n - m - 1) (by omega) (by omega)
    rw [show m + 0 = m by omega] at u0
    rw [show m + (n - m - 1) = n - 1 by omega] at u1
    have ex : X m = X (m - 1) := by have := upf _ l1.1; have := lof _ u0.1; omega
    have en : X (n - 1) = X 0 := by have := upf _ l0.1; have := lof _ u1.1; omega
    have hlt : ∀ c, hs c → lo c < hi c := fun c hc => (hQ c hc).2.2.1
    have wide : X 0 < X (m - 1) := by
      rcases h2 c0 hc0 with z | z
      · have := lof _ z; have := lof _ hc0; omega
      · have := lof _ z; have := lof _ hc0; omega
    have m2 : 2 ≤ m := by
      rcases (show 2 ≤ m ∨ m = 1 by omega) with z | z
      · exact z
      · rw [z] at wide; have : (1 : Int) - 1 = 0 := by decide
        rw [this] at wide; omega
    refine ⟨by omega, fun i a b => ?_, fun x y hp => ?_, fun i a b => ?_, fun i a b => ?_⟩
    · rcases (show i < m ∨ m ≤ i by omega) with z | z
      · have q := h1.1 i a z
        rw [q.2.2]; exact (hQ _ q.1).1
      · have q := ua (i - m) (by omega) (by omega)
        rw [show m + (i - m) = i by omega] at q
        rw [q.2]; exact (hQ _ q.1).2.1
    · have p := hP x y hp
      have := (lof x p.1).1
      rcases (show X 0 < x ∨ X 0 = x by omega) with z | z
      · exact Or.inl z
      · exact Or.inr ⟨z, by rw [l0.2.2, z]; exact p.2.1⟩
    · unfold nx
      rcases (show i + 1 < m ∨ i + 1 = m ∨ (m ≤ i ∧ i + 1 < n) ∨ i + 1 = n by omega) with z | z | z | z
      · rw [if_neg (by omega)]
        exact CH_NX h1 (fun c y hp => ⟨(hP c y hp).1, by have := (hQ c (hP c y hp).1).2.2.2; omega, (hP c y hp).2.1⟩) a z
      · rw [if_neg (by omega), z, show i = m - 1 by omega, ex, u0.2, l1.2.2, ex]
        exact NX_up (hlt _ l1.1) (fun x y hp => ⟨(lof x (hP x y hp).1).2, fun e => by rw [← e]; exact (hP x y hp).2⟩)
      · rw [if_neg (by omega)]
        have q := CH_NX (P := fun x y => P (-x) (-y)) (i := i - m) hu (fun c y hp => by
          have w := hP _ _ hp
          have w2 := (hQ _ w.1).2.2.2
          exact ⟨w.1, by omega, by show - hi (-c) ≤ y; omega⟩) (by omega) (by omega)
        have q2 : NX (fun x y => P (-x) (-y)) (- X (m + (i - m))) (- Y (m + (i - m))) (- X (m + (i - m + 1))) (- Y (m + (i - m + 1))) := q
        rw [show m + (i - m) = i by omega, show m + (i - m + 1) = i + 1 by omega] at q2
        exact NX_neg q2
      · rw [if_pos z, show i = n - 1 by omega, en, u1.2, l0.2.2, en]
        refine NX_neg (NX_up (by have := hlt _ l0.1; omega) (fun x y hp => ?_))
        have w := hP _ _ hp
        have w1 := (lof _ w.1).1
        exact ⟨by omega, fun e => by have e2 : -x = X 0 := by omega
                                     rw [e2] at w; omega⟩
    · rcases (show i < m ∨ m ≤ i by omega) with z | z
      · have := CH_mono h1 i.toNat 0 (Int.le_refl _) (by omega)
        rw [show (0 : Int) + (i.toNat : Nat) = i by omega] at this
        exact fun e => by omega
      · have q := ua (i - m) (by omega) (by omega)
        rw [show m + (i - m) = i by omega] at q
        intro e
        rw [q.2, e.1, l0.2.2] at e
        have := hlt _ l0.1
        omega
  · have no : ∀ c, ¬ hs c := fun c hc => ne ⟨c, hc⟩
    have hm : m ≤ 0 := by
      rcases (show m ≤ 0 ∨ 0 < m by omega) with z | z
      · exact z
      · exact absurd (h1.1 0 (by omega) z).1 (no _)
    have hn : n - m ≤ 0 := by
      rcases (show n - m ≤ 0 ∨ 0 < n - m by omega) with z | z
      · exact z
      · exact absurd (hu.1 0 (by omega) z).1 (no _)
    exact Or.inl ⟨by omega, fun x y hp => no _ (hP x y hp).1⟩
