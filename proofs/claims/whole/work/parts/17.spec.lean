/-! what a step of a berg is -/
theorem sm_zero : ∀ n : Nat, sm (fun _ => 0) n = 0
  | 0 => rfl
  | n + 1 => by simp only [sm]; rw [sm_zero n]; rfl
theorem sm_swap (f : Int → Int → Int) (m : Nat) : ∀ n : Nat, sm (fun t => sm (fun k => f t k) m) n = sm (fun k => sm (fun t => f t k) n) m
  | 0 => (sm_zero m).symm
  | n + 1 => by
    simp only [sm]
    rw [sm_swap f m n, ← sm_add]
theorem sm_pick {v t : Int} (h0 : 0 ≤ t) : ∀ {n : Nat}, sm (fun x => if t = x then v else 0) n = if t < n then v else 0
  | 0 => by simp only [sm]; rw [if_neg (by omega)]
  | n + 1 => by
    simp only [sm]
    rw [sm_pick h0 (n := n)]
    by_cases h1 : t < n
    · rw [if_pos h1, if_neg (by omega), if_pos (by omega)]; omega
    · by_cases h2 : t = n
      · rw [if_neg h1, if_pos h2, if_pos (by omega)]; omega
      · rw [if_neg h1, if_neg h2, if_neg (by omega)]; rfl
def dst (ld ac up : Int → Int) (k : Int) : Int := if 0 ≤ k % 20 + ac k ∧ k % 20 + ac k < 20 ∧ 0 ≤ k / 20 + up k ∧ k / 20 + up k < 14 then (if ld (20 * (k / 20 + up k) + (k % 20 + ac k)) = 0 then 20 * (k / 20 + up k) + (k % 20 + ac k) else k) else -1
theorem dst_out {ld ac up : Int → Int} {k x y : Int} (hx : x = k % 20 + ac k) (hy : y = k / 20 + up k) (h : ¬ (0 ≤ x ∧ x < 20 ∧ 0 ≤ y ∧ y < 14)) : dst ld ac up k = -1 := by
  unfold dst; rw [← hx, ← hy, if_neg h]
theorem dst_in {ld ac up : Int → Int} {k x y : Int} (hx : x = k % 20 + ac k) (hy : y = k / 20 + up k) (h : 0 ≤ x ∧ x < 20 ∧ 0 ≤ y ∧ y < 14) (hl : ld (20 * y + x) = 0) : dst ld ac up k = 20 * y + x := by
  unfold dst; rw [← hx, ← hy, if_pos h, if_pos hl]
theorem dst_stay {ld ac up : Int → Int} {k x y : Int} (hx : x = k % 20 + ac k) (hy : y = k / 20 + up k) (h : 0 ≤ x ∧ x < 20 ∧ 0 ≤ y ∧ y < 14) (hl : ¬ ld (20 * y + x) = 0) : dst ld ac up k = k := by
  unfold dst; rw [← hx, ← hy, if_pos h, if_neg hl]
theorem dst_rng {ld ac up : Int → Int} {k : Int} (h0 : 0 ≤ k) (h1 : k < 280) : -1 ≤ dst ld ac up k ∧ dst ld ac up k < 280 := by
  unfold dst
  split
  · split <;> omega
  · omega
def cb (D p : Int → Int) (t : Int) : Int → Int := fun k => if D k = t then p k else 0
/-- where the parts are behind the drift; those that are out: at -1 -/
def drT (ld ac up p : Int → Int) (t : Int) : Int := sm (cb (dst ld ac up) p t) 280
def sd (ld : Int → Int) (k d : Int) : Int := if 0 ≤ k % 20 + d % 3 - 1 ∧ k % 20 + d % 3 - 1 < 20 ∧ 0 ≤ k / 20 + d / 3 - 1 ∧ k / 20 + d / 3 - 1 < 14 ∧ ld (20 * (k / 20 + d / 3 - 1) + (k % 20 + d % 3 - 1)) = 0 then 20 * (k / 20 + d / 3 - 1) + (k % 20 + d % 3 - 1) else -1
def sterm (ld p : Int → Int) (k d t : Int) : Int := (if sd ld k d = t then p k / 8 else 0) - (if sd ld k d ≠ -1 ∧ k = t then p k / 8 else 0)
def scol (ld p : Int → Int) (t k : Int) : Int := sm (fun j => sterm ld p k (2 * j + 1) t) 4
/-- where the parts are behind the spread -/
def spT (ld p : Int → Int) (t : Int) : Int := p t + sm (scol ld p t) 280
def mw (w p : Int → Int) : Nat → Int
  | 0 => 1000000
  | n + 1 => if 0 < p n then min (mw w p n) (w n) else mw w p n
theorem mw_rng {w p : Int → Int} : ∀ {n : Nat}, (∀ k : Int, 0 ≤ k → k < n → 0 ≤ w k ∧ w k ≤ 50) → 0 ≤ mw w p n ∧ (mw w p n = 1000000 ∨ mw w p n ≤ 50)
  | 0, _ => ⟨by simp [mw], Or.inl rfl⟩
  | n + 1, h => by
    have h1 := mw_rng (w := w) (p := p) (n := n) (fun k a b => h k a (by omega))
    have h2 := h n (by omega) (by omega)
    simp only [mw]
    split <;> omega
theorem mw_far {w p : Int → Int} : ∀ {n : Nat}, (∀ k : Int, 0 ≤ k → k < n → 0 ≤ w k ∧ w k ≤ 50) → (mw w p n = 1000000 ↔ ∀ k : Int, 0 ≤ k → k < n → ¬ 0 < p k)
  | 0, _ => ⟨fun _ k h1 h2 => by omega, fun _ => rfl⟩
  | n + 1, h => by
    have h1 := mw_far (w := w) (p := p) (n := n) (fun k a b => h k a (by omega))
    have h2 := h n (by omega) (by omega)
    have h3 := mw_rng (w := w) (p := p) (n := n) (fun k a b => h k a (by omega))
    simp only [mw]
    by_cases hp : 0 < p n
    · rw [if_pos hp]
      exact ⟨fun e => by omega, fun e => absurd hp (e n (by omega) (by omega))⟩
    · rw [if_neg hp, h1]
      exact ⟨fun e k a b => by
        by_cases q : k = n
        · rw [q]; exact hp
        · exact e k a (by omega), fun e k a b => e k a (by omega)⟩
theorem mw_step {w p : Int → Int} {k : Int} (h : 0 ≤ k) : mw w p (k + 1).toNat = if 0 < p k then min (mw w p k.toNat) (w k) else mw w p k.toNat := by
  have e : (k + 1).toNat = k.toNat + 1 := by omega
  have e2 : ((k.toNat : Nat) : Int) = k := by omega
  rw [e]; simp only [mw]; rw [e2]
theorem sm_ite_le {c : Int → Prop} {p : Int → Int} (dc : ∀ k, Decidable (c k)) (h : ∀ k : Int, 0 ≤ k → k < 280 → 0 ≤ p k) : ∀ k : Int, 0 ≤ k → k < 280 → 0 ≤ (@ite Int (c k) (dc k) (p k) 0) := by
  intro k a b
  have := h k a b
  split <;> omega
theorem drT_nonneg {ld ac up p : Int → Int} (h : ∀ k : Int, 0 ≤ k → k < 280 → 0 ≤ p k) (t : Int) : 0 ≤ drT ld ac up p t := sm_nonneg (n := 280) (sm_ite_le (c := fun k => dst ld ac up k = t) (fun _ => inferInstance) h)
/-- nothing comes from nowhere -/
theorem drT_mass {ld ac up p : Int → Int} : sm (drT ld ac up p) 280 + drT ld ac up p (-1) = sm p 280 := by
  have e1 : sm (drT ld ac up p) 280 = sm (fun k => if 0 ≤ dst ld ac up k then p k else 0) 280 := by
    show sm (fun t => sm (fun k => if dst ld ac up k = t then p k else 0) 280) 280 = _
    rw [sm_swap]
    refine sm_cong (fun k a b => ?_)
    have hr := dst_rng (ld := ld) (ac := ac) (up := up) a b
    by_cases h : 0 ≤ dst ld ac up k
    · rw [if_pos h, sm_pick h, if_pos (by omega)]
    · rw [if_neg h]
      have : sm (fun t => if dst ld ac up k = t then p k else 0) 280 = sm (fun _ => 0) 280 := sm_cong (fun t a b => by rw [if_neg (by omega)])
      rw [this, sm_zero]
  rw [e1]
  show _ + sm (fun k => if dst ld ac up k = -1 then p k else 0) 280 = _
  rw [← sm_add]
  refine sm_cong (fun k a b => ?_)
  have hr := dst_rng (ld := ld) (ac := ac) (up := up) a b
  by_cases h : 0 ≤ dst ld ac up k
  · rw [if_pos h, if_neg (by omega)]; omega
  · rw [if_neg h, if_pos (by omega)]; omega
theorem sd_rng {ld : Int → Int} {k d : Int} : -1 ≤ sd ld k d ∧ sd ld k d < 280 := by
  unfold sd
  split <;> omega
theorem sterm_mass {ld p : Int → Int} {k d : Int} (h0 : 0 ≤ k) (h1 : k < 280) : sm (sterm ld p k d) 280 = 0 := by
  have e : sm (sterm ld p k d) 280 = sm (fun t => (if sd ld k d = t then p k / 8 else 0) + (if k = t then (if sd ld k d ≠ -1 then -(p k / 8) else 0) else 0)) 280 := by
    refine sm_cong (fun t a b => ?_)
    unfold sterm
    by_cases e1 : sd ld k d = -1 <;> by_cases e2 : k = t <;> simp [e1, e2] <;> omega
  rw [e, sm_add, sm_pick h0, if_pos (by omega)]
  have hr := sd_rng (ld := ld) (k := k) (d := d)
  by_cases e1 : sd ld k d = -1
  · have : sm (fun t => if sd ld k d = t then p k / 8 else 0) 280 = sm (fun _ => 0) 280 := sm_cong (fun t a b => by rw [if_neg (by omega)])
    rw [this, sm_zero, if_neg (by omega)]; rfl
  · rw [sm_pick (by omega), if_pos (by omega), if_pos e1]; omega
theorem spT_mass {ld p : Int → Int} : sm (spT ld p) 280 = sm p 280 := by
  show sm (fun t => p t + sm (scol ld p t) 280) 280 = _
  rw [sm_add, sm_swap]
  have : sm (fun k => sm (fun t => scol ld p t k) 280) 280 = sm (fun _ => 0) 280 := by
    refine sm_cong (fun k a b => ?_)
    show sm (fun t => sm (fun j => sterm ld p k (2 * j + 1) t) 4) 280 = 0
    rw [sm_swap]
    have : sm (fun j => sm (fun t => sterm ld p k (2 * j + 1) t) 280) 4 = sm (fun _ => 0) 4 := sm_cong (fun j _ _ => sterm_mass a b)
    rw [this, sm_zero]
  rw [this, sm_zero]; omega
/-- what goes away from a square is at most half of its parts -/
theorem spT_nonneg {ld p : Int → Int} (h : ∀ k : Int, 0 ≤ k → k < 280 → 0 ≤ p k) {t : Int} (h0 : 0 ≤ t) (h1 : t < 280) : 0 ≤ spT ld p t := by
  have key : sm (fun k => if t = k then -(4 * (p t / 8)) else 0) 280 ≤ sm (scol ld p t) 280 := by
    refine sm_le (fun k a b => ?_)
    have hk := h k a b
    show _ ≤ sm (fun j => sterm ld p k (2 * j + 1) t) 4
    have hs : ∀ d, (if t = k then -(p t / 8) else 0) ≤ sterm ld p k d t := by
      intro d
      unfold sterm
      have h8 : 0 ≤ p k / 8 := by omega
      by_cases e2 : t = k
      · subst e2
        by_cases e1 : sd ld t d = -1
        · simp [e1]; split <;> omega
        · simp [e1]; split <;> omega
      · have : ¬ (sd ld k d ≠ -1 ∧ k = t) := fun z => e2 z.2.symm
        rw [if_neg e2, if_neg this]
        split <;> omega
    have s0 := hs (2 * 0 + 1)
    have s1 := hs (2 * 1 + 1)
    have s2 := hs (2 * 2 + 1)
    have s3 := hs (2 * 3 + 1)
    show _ ≤ ((((0 : Int) + sterm ld p k (2 * 0 + 1) t) + sterm ld p k (2 * 1 + 1) t) + sterm ld p k (2 * 2 + 1) t) + sterm ld p k (2 * 3 + 1) t
    by_cases e2 : t = k
    · rw [if_pos e2] at *; omega
    · rw [if_neg e2] at *; omega
  rw [sm_pick h0, if_pos (by omega)] at key
  have ht := h t h0 h1
  unfold spT
  omega
