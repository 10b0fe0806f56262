/-! small pure facts -/
/-- z is the truth of P, as a number -/
def zb (z : Int) (P : Prop) : Prop := (z = 1 ∧ P) ∨ (z = 0 ∧ ¬ P)
theorem zb.c {z : Int} {P : Prop} (h : zb z P) : z = 0 ∨ z = 1 := by rcases h with h | h; exact Or.inr h.1; exact Or.inl h.1
theorem zb.r {z : Int} {P : Prop} (h : zb z P) : inR z := by rcases h.c with rfl | rfl <;> exact ⟨by decide, by decide⟩
theorem zb.t {z : Int} {P : Prop} (h : zb z P) (hz : ¬ z = 0) : P := by rcases h with h | h; exact h.2; exact absurd h.1 hz
theorem zb.f {z : Int} {P : Prop} (h : zb z P) (hz : z = 0) : ¬ P := by rcases h with h | h; (exfalso; omega); exact h.2
theorem zb.iff {z : Int} {P Q : Prop} (h : zb z P) (e : P ↔ Q) : zb z Q := by rcases h with h | h; exact Or.inl ⟨h.1, e.mp h.2⟩; exact Or.inr ⟨h.1, fun q => h.2 (e.mpr q)⟩
theorem zb.eq {z w : Int} {P Q : Prop} (h : zb z P) (g : zb w Q) (e : P ↔ Q) : z = w := by
  rcases h with h | h <;> rcases g with g | g
  · rw [h.1, g.1]
  · exact absurd (e.mp h.2) g.2
  · exact absurd (e.mpr g.2) h.2
  · rw [h.1, g.1]
theorem zb.one {P : Prop} (h : P) : zb 1 P := Or.inl ⟨rfl, h⟩
theorem zb.zero {P : Prop} (h : ¬ P) : zb 0 P := Or.inr ⟨rfl, h⟩
/-- some number from 0 on below n has it -/
def exB (p : Int → Prop) (n : Int) : Prop := ∃ b, 0 ≤ b ∧ b < n ∧ p b
theorem exB_0 {p : Int → Prop} : ¬ exB p 0 := fun ⟨_, h1, h2, _⟩ => by omega
theorem exB_hit {p : Int → Prop} {n : Int} (h0 : 0 ≤ n) (h : p n) : exB p (n + 1) := ⟨n, h0, by omega, h⟩
theorem exB_keep {p : Int → Prop} {n : Int} (h : exB p n) : exB p (n + 1) := by obtain ⟨b, h1, h2, h3⟩ := h; exact ⟨b, h1, by omega, h3⟩
theorem exB_miss {p : Int → Prop} {n : Int} (h : ¬ exB p n) (hn : ¬ p n) : ¬ exB p (n + 1) := fun ⟨b, h1, h2, h3⟩ => by
  by_cases e : b = n
  · subst e; exact hn h3
  · exact h ⟨b, h1, by omega, h3⟩
/-- a sum over the numbers from 0 on below n -/
def sm (f : Int → Int) : Nat → Int
  | 0 => 0
  | n + 1 => sm f n + f n
theorem sm_cong {f g : Int → Int} : ∀ {n : Nat}, (∀ k : Int, 0 ≤ k → k < n → f k = g k) → sm f n = sm g n
  | 0, _ => rfl
  | n + 1, h => by
    have h1 := sm_cong (f := f) (g := g) (n := n) (fun k a b => h k a (by omega))
    have h2 := h n (by omega) (by omega)
    simp only [sm]; rw [h1, h2]
theorem sm_nonneg {f : Int → Int} : ∀ {n : Nat}, (∀ k : Int, 0 ≤ k → k < n → 0 ≤ f k) → 0 ≤ sm f n
  | 0, _ => Int.le_refl _
  | n + 1, h => by
    have h1 := sm_nonneg (f := f) (n := n) (fun k a b => h k a (by omega))
    have h2 := h n (by omega) (by omega)
    simp only [sm]; omega
theorem sm_le {f g : Int → Int} : ∀ {n : Nat}, (∀ k : Int, 0 ≤ k → k < n → f k ≤ g k) → sm f n ≤ sm g n
  | 0, _ => Int.le_refl _
  | n + 1, h => by
    have h1 := sm_le (f := f) (g := g) (n := n) (fun k a b => h k a (by omega))
    have h2 := h n (by omega) (by omega)
    simp only [sm]; omega
theorem sm_mono {f : Int → Int} (m : Nat) : ∀ (n : Nat), (∀ k : Int, 0 ≤ k → k < ((m + n : Nat) : Int) → 0 ≤ f k) → sm f m ≤ sm f (m + n)
  | 0, _ => Int.le_refl _
  | n + 1, h => by
    have h1 := sm_mono (f := f) m n (fun k a b => h k a (by omega))
    have h2 := h ((m + n : Nat) : Int) (by omega) (by omega)
    rw [← Nat.add_assoc]
    simp only [sm]; omega
theorem sm_add (f g : Int → Int) : ∀ n : Nat, sm (fun k => f k + g k) n = sm f n + sm g n
  | 0 => rfl
  | n + 1 => by
    have h := sm_add f g n
    simp only [sm]; rw [h]; omega
theorem sm_step (f : Int → Int) {n : Int} (h : 0 ≤ n) : sm f (n + 1).toNat = sm f n.toNat + f n := by
  have e : (n + 1).toNat = n.toNat + 1 := by omega
  have e2 : ((n.toNat : Nat) : Int) = n := by omega
  rw [e]; simp only [sm]; rw [e2]
theorem sm_part {f : Int → Int} {n : Nat} (h : ∀ k : Int, 0 ≤ k → k < n → 0 ≤ f k) {k : Int} (h0 : 0 ≤ k) (h1 : k < n) : sm f k.toNat + f k ≤ sm f n := by
  rw [← sm_step f h0]
  have e : n = (k + 1).toNat + (n - (k + 1).toNat) := by omega
  rw [e]
  exact sm_mono (k + 1).toNat (n - (k + 1).toNat) (fun j a b => h j a (by omega))
theorem sm_one {f : Int → Int} {n : Nat} (h : ∀ k : Int, 0 ≤ k → k < n → 0 ≤ f k) {k : Int} (h0 : 0 ≤ k) (h1 : k < n) : f k ≤ sm f n := by
  have h2 := sm_part h h0 h1
  have h3 := sm_nonneg (f := f) (n := k.toNat) (fun j a b => h j a (by omega))
  omega
theorem upF_up (F : ab_Fn) (i k : Nat) (a b : Int) : upF (upF F i k a) i k b = upF F i k b := by
  funext i' k'
  by_cases h : i' = i <;> by_cases h2 : k' = k <;> simp [upF, h, h2]
theorem upA_at (A : ab_An) (i : Nat) (j v : Int) : upA A i j v i j = v := by simp [upA]
theorem upA_ne {A : ab_An} {i : Nat} {j v x : Int} (h : x ≠ j) : upA A i j v i x = A i x := by simp [upA, h]
theorem upA_if (A : ab_An) (i : Nat) (j v x : Int) : upA A i j v i x = if x = j then v else A i x := by simp [upA]
theorem upA_other {A : ab_An} {i i' : Nat} {j v : Int} (h : i' ≠ i) : upA A i j v i' = A i' := by funext x; simp [upA, h]
/-- a stretch of a row is another -/
def setRow (A : ab_An) (i : Nat) (lo n : Int) (f : Int → Int) : ab_An := fun i' j => if i' = i then (if lo ≤ j ∧ j < lo + n then f (j - lo) else A i' j) else A i' j
theorem setRow_0 (A : ab_An) (i : Nat) (lo : Int) (f : Int → Int) : A = setRow A i lo 0 f := by
  funext i' j
  by_cases h : i' = i
  · show A i' j = if i' = i then (if lo ≤ j ∧ j < lo + 0 then f (j - lo) else A i' j) else A i' j
    rw [if_pos h, if_neg (by omega)]
  · simp [setRow, h]
theorem setRow_up {A : ab_An} {i : Nat} {lo n j v : Int} {f : Int → Int} (h0 : 0 ≤ n) (hj : j = lo + n) (hv : v = f n) : upA (setRow A i lo n f) i j v = setRow A i lo (n + 1) f := by
  subst hj; subst hv
  funext i' x
  by_cases h : i' = i
  · subst h
    by_cases hx : x = lo + n
    · subst hx
      have h1 : lo ≤ lo + n ∧ lo + n < lo + (n + 1) := by omega
      have h2 : lo + n - lo = n := by omega
      simp [upA, setRow, h1, h2]
    · by_cases h1 : lo ≤ x ∧ x < lo + n
      · have h2 : lo ≤ x ∧ x < lo + (n + 1) := by omega
        simp [upA, setRow, hx, h1, h2]
      · have h2 : ¬ (lo ≤ x ∧ x < lo + (n + 1)) := by omega
        simp [upA, setRow, hx, h1, h2]
  · simp [upA, setRow, h]
theorem setRow_in {A : ab_An} {i : Nat} {lo n j : Int} {f : Int → Int} (h1 : lo ≤ j) (h2 : j < lo + n) : setRow A i lo n f i j = f (j - lo) := by simp [setRow, h1, h2]
theorem setRow_out {A : ab_An} {i : Nat} {lo n j : Int} {f : Int → Int} (h : j < lo ∨ lo + n ≤ j) : setRow A i lo n f i j = A i j := by
  have : ¬ (lo ≤ j ∧ j < lo + n) := by omega
  simp [setRow, this]
theorem setRow_other {A : ab_An} {i i' : Nat} {lo n : Int} {f : Int → Int} (h : i' ≠ i) : setRow A i lo n f i' = A i' := by funext x; simp [setRow, h]
theorem upF_o {F : ab_Fn} {i j k : Nat} {v : Int} (h : j ≠ i) : upF F i k v j = F j := by funext x; simp [upF, h]
theorem upF_at (F : ab_Fn) (i k : Nat) (v : Int) : upF F i k v i k = v := by simp [upF]
theorem upF_ne {F : ab_Fn} {i k j : Nat} {v : Int} (h : j ≠ k) : upF F i k v i j = F i j := by simp [upF, h]
