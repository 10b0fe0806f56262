theorem shC_no : ∀ j, 28 < j → ab_shC j = none
  | 0, h => absurd h (by decide)
  | 1, h => absurd h (by decide)
  | 2, h => absurd h (by decide)
  | 3, h => absurd h (by decide)
  | 4, h => absurd h (by decide)
  | 5, h => absurd h (by decide)
  | 6, h => absurd h (by decide)
  | 7, h => absurd h (by decide)
  | 8, h => absurd h (by decide)
  | 9, h => absurd h (by decide)
  | 10, h => absurd h (by decide)
  | 11, h => absurd h (by decide)
  | 12, h => absurd h (by decide)
  | 13, h => absurd h (by decide)
  | 14, h => absurd h (by decide)
  | 15, h => absurd h (by decide)
  | 16, h => absurd h (by decide)
  | 17, h => absurd h (by decide)
  | 18, h => absurd h (by decide)
  | 19, h => absurd h (by decide)
  | 20, h => absurd h (by decide)
  | 21, h => absurd h (by decide)
  | 22, h => absurd h (by decide)
  | 23, h => absurd h (by decide)
  | 24, h => absurd h (by decide)
  | 25, h => absurd h (by decide)
  | 26, h => absurd h (by decide)
  | 27, h => absurd h (by decide)
  | 28, h => absurd h (by decide)
  | j + 29, _ => rfl
theorem SC_up {S : ab_St} {i : Nat} {sh : ab_Sh} (hi : 28 < i) (h : ab_SC S) : ab_SC (upS S i sh) := fun j hj => by
  rw [upS_ne (fun e => by rw [e, shC_no i hi] at hj; exact hj rfl)]; exact h j hj
/-! squares in warnings -/
theorem ps_up {x y a b c d : Int} : (2 * x + 1 - 2 * a) * (2 * d - 2 * b) < (2 * y + 1 - 2 * b) * (2 * c - 2 * a) ↔ (2 * x + 1 - 2 * a) * (d - b) < (2 * y + 1 - 2 * b) * (c - a) := by
  rw [show 2 * d - 2 * b = 2 * (d - b) by omega, show 2 * c - 2 * a = 2 * (c - a) by omega, Int.mul_left_comm, Int.mul_left_comm (2 * y + 1 - 2 * b)]
  generalize (2 * x + 1 - 2 * a) * (d - b) = u
  generalize (2 * y + 1 - 2 * b) * (c - a) = v
  omega
theorem ps_dn {x y a b c d : Int} : (2 * y + 1 - 2 * b) * (2 * c - 2 * a) < (2 * x + 1 - 2 * a) * (2 * d - 2 * b) ↔ (2 * x + 1 - 2 * c) * (b - d) < (2 * y + 1 - 2 * d) * (a - c) := by
  obtain ⟨p, hp⟩ : ∃ p, p = 2 * x + 1 - 2 * a := ⟨_, rfl⟩
  obtain ⟨q, hq⟩ : ∃ q, q = 2 * y + 1 - 2 * b := ⟨_, rfl⟩
  obtain ⟨e, he⟩ : ∃ e, e = c - a := ⟨_, rfl⟩
  obtain ⟨f, hf⟩ : ∃ f, f = d - b := ⟨_, rfl⟩
  rw [← hp, ← hq, show 2 * c - 2 * a = 2 * e by omega, show 2 * d - 2 * b = 2 * f by omega, show 2 * x + 1 - 2 * c = p - 2 * e by omega, show 2 * y + 1 - 2 * d = q - 2 * f by omega, show b - d = -f by omega, show a - c = -e by omega]
  rw [Int.mul_left_comm q, Int.mul_left_comm p, Int.mul_neg, Int.mul_neg, Int.sub_mul, Int.sub_mul, Int.mul_assoc 2 e f, Int.mul_assoc 2 f e, Int.mul_comm f e]
  generalize q * e = u
  generalize p * f = v
  generalize e * f = w
  omega
theorem wcs_01 {X Y : Int → Int} {n mx my k : Int} : wcs X Y n mx my k = 0 ∨ wcs X Y n mx my k = 1 := by
  unfold wcs
  split
  · split <;> split <;> omega
  · omega
/-- the class goes round from the last corner on -/
def pw (e : Int → Int) (n k : Int) : Int := if k = 0 then 0 else e (n - 1) + sm e (k - 1).toNat
theorem pw_step {e : Int → Int} {n k : Int} (h : 0 ≤ k) : pw e n (k + 1) = pw e n k + e (if k = 0 then n - 1 else k - 1) := by
  unfold pw
  rw [if_neg (by omega), show k + 1 - 1 = k by omega]
  by_cases q : k = 0
  · rw [if_pos q, if_pos q, q]; show e (n - 1) + 0 = 0 + _; omega
  · rw [if_neg q, if_neg q, show k.toNat = (k - 1 + 1).toNat by omega, sm_step e (by omega)]; omega
theorem pw_end {e : Int → Int} {n : Int} (h : 1 ≤ n) : pw e n n = sm e n.toNat := by
  unfold pw
  rw [if_neg (by omega), show n.toNat = (n - 1 + 1).toNat by omega, sm_step e (by omega)]; omega
/-- the bits of the first c squares of a height -/
def wb (e : Int → Int) (y : Int) (c : Int) : Int := sm (fun x => e (20 * y + x) * 2 ^ x.toNat) c.toNat
theorem wb_step {e : Int → Int} {y c : Int} (h : 0 ≤ c) : wb e y (c + 1) = wb e y c + e (20 * y + c) * 2 ^ c.toNat := by unfold wb; rw [sm_step _ h]
theorem two_pos (n : Nat) : (0 : Int) < 2 ^ n := Int.pow_pos (by decide)
theorem wb_lt {e : Int → Int} {y : Int} (h : ∀ s, e s = 0 ∨ e s = 1) : ∀ n : Nat, 0 ≤ wb e y n ∧ wb e y n < 2 ^ n
  | 0 => by
    have : wb e y ((0 : Nat) : Int) = 0 := rfl
    rw [this]; decide
  | n + 1 => by
    have ih := wb_lt (e := e) (y := y) h n
    have e1 : wb e y ((n + 1 : Nat) : Int) = wb e y n + e (20 * y + n) * 2 ^ n := by
      have := wb_step (e := e) (y := y) (c := (n : Int)) (by omega)
      rw [show ((n + 1 : Nat) : Int) = (n : Int) + 1 by omega, this, Int.toNat_natCast]
    rw [e1, Int.pow_succ]
    have h2 := two_pos n
    rcases h (20 * y + n) with q | q <;> rw [q] <;> omega
theorem pow_cast (n : Nat) : ((2 ^ n : Nat) : Int) = (2 : Int) ^ n := by
  induction n with
  | zero => rfl
  | succ n ih => rw [Nat.pow_succ, Int.pow_succ, Int.natCast_mul, ih]; rfl
/-- bit x of the bits -/
theorem wb_bit {e : Int → Int} {y : Int} (h : ∀ s, e s = 0 ∨ e s = 1) {x : Nat} : ∀ n : Nat, x < n → wb e y n / 2 ^ x % 2 = e (20 * y + x)
  | 0, hx => by omega
  | n + 1, hx => by
    have e1 : wb e y ((n + 1 : Nat) : Int) = wb e y n + e (20 * y + n) * 2 ^ n := by
      have := wb_step (e := e) (y := y) (c := (n : Int)) (by omega)
      rw [show ((n + 1 : Nat) : Int) = (n : Int) + 1 by omega, this, Int.toNat_natCast]
    have h2 := two_pos x
    rw [e1]
    by_cases q : x = n
    · subst q
      have hl := wb_lt (e := e) (y := y) h x
      rw [Int.add_mul_ediv_right _ _ (by omega), Int.ediv_eq_zero_of_lt hl.1 hl.2]
      rcases h (20 * y + x) with z | z <;> rw [z] <;> rfl
    · have ih := wb_bit (e := e) (y := y) h (x := x) n (by omega)
      have ep : (2 : Int) ^ n = 2 ^ (n - x - 1) * 2 * 2 ^ x := by
        rw [← Int.pow_succ, ← Int.pow_add]; congr 1; omega
      rw [ep, ← Int.mul_assoc, Int.add_mul_ediv_right _ _ (by omega), ← Int.mul_assoc]
      rw [Int.add_mul_emod_self_right]
      exact ih
theorem or_bit {v : Int} {x : Nat} (hx : x < 20) (h0 : 0 ≤ v) (h1 : v < 2 ^ x) : (Int32.ofInt v ||| Int32.ofInt (Int32.ofInt 1 <<< (Int32.ofInt (x : Int) &&& 31)).toInt).toInt = v + 2 ^ x := by
  have hs : (Int32.ofInt 1 <<< (Int32.ofInt (x : Int) &&& 31)).toInt = 2 ^ x := by
    have : ∀ k : Nat, k < 20 → (Int32.ofInt 1 <<< (Int32.ofInt (k : Int) &&& 31)).toInt = ((2 ^ k : Nat) : Int) := by decide +kernel
    rw [this x hx, pow_cast]
  rw [hs]
  have hp : (2 : Nat) ^ x ≤ 2 ^ 19 := Nat.pow_le_pow_right (by decide) (by omega)
  have hpi : (2 : Int) ^ x ≤ 524288 := by
    rw [← pow_cast]
    have h19 : (2 : Nat) ^ 19 = 524288 := by decide
    omega
  have e : (Int32.ofInt v ||| Int32.ofInt (2 ^ x)) = Int32.ofInt (v + 2 ^ x) := by
    apply Int32.toBitVec_inj.mp
    show BitVec.ofInt 32 v ||| BitVec.ofInt 32 (2 ^ x) = BitVec.ofInt 32 (v + 2 ^ x)
    apply BitVec.eq_of_toNat_eq
    have h2 := two_pos x
    rw [BitVec.toNat_or, BitVec.toNat_ofInt, BitVec.toNat_ofInt, BitVec.toNat_ofInt]
    have a1 : (v % ((2 ^ 32 : Nat) : Int)).toNat = v.toNat := by
      rw [Int.emod_eq_of_lt h0 (by show v < 4294967296; omega)]
    have a2 : ((2 : Int) ^ x % ((2 ^ 32 : Nat) : Int)).toNat = 2 ^ x := by
      rw [Int.emod_eq_of_lt (by omega) (by show (2 : Int) ^ x < 4294967296; omega), ← pow_cast]; exact Int.toNat_natCast _
    have a3 : ((v + 2 ^ x) % ((2 ^ 32 : Nat) : Int)).toNat = 2 ^ x + v.toNat := by
      rw [Int.emod_eq_of_lt (by omega) (by show v + (2 : Int) ^ x < 4294967296; omega), ← pow_cast]; omega
    rw [a1, a2, a3]
    have hl : v.toNat < 2 ^ x := by rw [← pow_cast] at h1; omega
    have := Nat.two_pow_add_eq_or_of_lt (i := x) hl 1
    rw [Nat.mul_one] at this
    rw [this, Nat.or_comm]
  rw [e, ab_toInt ⟨by omega, by have := hpi; omega⟩]
theorem wb_next {e : Int → Int} {k y : Int} (hk : 0 ≤ k ∧ k < 280) (hy : 0 ≤ y ∧ y < 14) : wb e y (min 20 (max 0 (k + 1 - 20 * y))) = wb e y (min 20 (max 0 (k - 20 * y))) + (if y = k / 20 then e k * 2 ^ (k % 20).toNat else 0) := by
  by_cases q : y = k / 20
  · rw [if_pos q, show min 20 (max 0 (k + 1 - 20 * y)) = k % 20 + 1 by omega, show min 20 (max 0 (k - 20 * y)) = k % 20 by omega, wb_step (by omega), show 20 * y + k % 20 = k by omega]
  · rw [if_neg q, show min 20 (max 0 (k + 1 - 20 * y)) = min 20 (max 0 (k - 20 * y)) by omega]; omega
theorem wIn_cong {X Y X' Y' : Int → Int} {n s : Int} (hn : 1 ≤ n) (h : ∀ j, 0 ≤ j → j < n → X j = X' j ∧ Y j = Y' j) : wIn X Y n s = wIn X' Y' n s := by
  unfold wIn
  congr 1
  refine sm_cong (fun k a b => ?_)
  have hm : 0 ≤ (k + 1) % n ∧ (k + 1) % n < n := ⟨Int.emod_nonneg _ (by omega), Int.emod_lt_of_pos _ (by omega)⟩
  have h1 := h k a (by omega)
  have h2 := h _ hm.1 hm.2
  unfold wcs
  rw [h1.1, h1.2, h2.1, h2.2]
theorem slW_up (x y z : Nat) : upL (upL (upL sl0_X8 0 (some (some x))) 1 (some (some y))) 3 (some (some z)) = slW x y z := by
  funext k
  match k with
  | 0 => rfl
  | 1 => rfl
  | 2 => rfl
  | 3 => rfl
  | k + 4 => rfl

set_option maxHeartbeats 4000000 in
set_option maxRecDepth 100000 in
theorem c_passes (l : Launch) (S : ab_St) (F : ab_Fn) (A : ab_An) (hS : ab_SC S) (w n : Nat) (hwO : S (300 + w) = some (sC 9 (slW (350 + w) (400 + w) (450 + w)))) (hwX : S (350 + w) = some (sA .int n)) (hwY : S (400 + w) = some (sA .int n)) (hn : 1 ≤ n ∧ n ≤ 40) (hxy : ∀ k : Int, 0 ≤ k → k < n → 0 ≤ A (350 + w) k ∧ A (350 + w) k ≤ 20 ∧ 0 ≤ A (400 + w) k ∧ A (400 + w) k ≤ 14) (f t x y : Int) (h1 : 0 ≤ f ∧ f < n) (h2 : 0 ≤ t ∧ t < n) (ht : t = (f + 1) % n) (h3 : 0 ≤ x ∧ x < 20) (h4 : 0 ≤ y ∧ y < 14) : ab_Met l yX8_passes cX8_passes 11 (some .boolean) { frames := 0, cells := 0, slots := 0, locals := 0 } 0 0 [aR (300 + w), aI f, aI t, aI x, aI y] S F A (fun v S' F' A' => S = S' ∧ F = F' ∧ A = A' ∧ v = some (aI (wcs (A (350 + w)) (A (400 + w)) n (2 * x + 1) (2 * y + 1) f))) := by
  refine ab_enter (by decide) (by simp [aI, aR, aX, ab_val, Value.category]) (Nat.le_of_ble_eq_true rfl) (fun E C hr => ?_)
  refine j_eq (lv' := [some (aR (300 + w)), some (aI f), some (aI t), some (aI x), some (aI y), none, none, none, none, none, none]) ?_
  have hf := hxy f h1.1 h1.2
  have hg := hxy t h2.1 h2.2
  refine j_aload_n C dX8_passes_0 rfl rfl ?_
  refine j_getR C (j := (400 + w)) fl_X8_40 (hwO) rfl dX8_passes_1 ?_
  refine j_iload_n C dX8_passes_4 rfl rfl ?_
  refine j_iald C (hwY) (by omega) (by omega) (by omega) dX8_passes_5 ?_
  refine j_iload C dX8_passes_6 rfl ?_
  refine j_icmp_le C (tgt := 15) dX8_passes_8 (by decide) ⟨by omega, by omega⟩ ⟨by omega, by omega⟩ (fun c8 => ?_) (fun c8 => ?_)
  · refine j_iconst C dX8_passes_15 ?_
    refine j_istore C (lv' := [some (aR (300 + w)), some (aI f), some (aI t), some (aI x), some (aI y), some (aI 0), none, none, none, none, none]) dX8_passes_16 (by decide) rfl ?_
    refine j_aload_n C dX8_passes_18 rfl rfl ?_
    refine j_getR C (j := (400 + w)) fl_X8_40 (hwO) rfl dX8_passes_19 ?_
    refine j_iload_n C dX8_passes_22 rfl rfl ?_
    refine j_iald C (hwY) (by omega) (by omega) (by omega) dX8_passes_23 ?_
    refine j_iload C dX8_passes_24 rfl ?_
    refine j_icmp_le C (tgt := 33) dX8_passes_26 (by decide) ⟨by omega, by omega⟩ ⟨by omega, by omega⟩ (fun c26 => ?_) (fun c26 => ?_)
    · refine j_iconst C dX8_passes_33 ?_
      refine j_istore C (lv' := [some (aR (300 + w)), some (aI f), some (aI t), some (aI x), some (aI y), some (aI 0), some (aI 0), none, none, none, none]) dX8_passes_34 (by decide) rfl ?_
      refine j_iload C dX8_passes_36 rfl ?_
      refine j_iload C dX8_passes_38 rfl ?_
      refine j_icmp_ne C (tgt := 45) dX8_passes_40 (by decide) ⟨by omega, by omega⟩ ⟨by omega, by omega⟩ (fun c40 => ?_) (fun c40 => ?_)
      · exact absurd c40 (by decide)
      · refine j_iconst C dX8_passes_43 ?_
        exact j_zret C hr rfl (Nat.le_refl _) (Nat.le_refl _) dX8_passes_44 ⟨rfl, rfl, rfl, congrArg (fun z => some (aI z)) (wcs_no (by rw [← ht]; omega)).symm⟩
    · refine j_iconst C dX8_passes_29 ?_
      refine j_goto C (tgt := 34) dX8_passes_30 (by decide) ?_
      refine j_istore C (lv' := [some (aR (300 + w)), some (aI f), some (aI t), some (aI x), some (aI y), some (aI 0), some (aI 1), none, none, none, none]) dX8_passes_34 (by decide) rfl ?_
      refine j_iload C dX8_passes_36 rfl ?_
      refine j_iload C dX8_passes_38 rfl ?_
      refine j_icmp_ne C (tgt := 45) dX8_passes_40 (by decide) ⟨by omega, by omega⟩ ⟨by omega, by omega⟩ (fun c40 => ?_) (fun c40 => ?_)
      · refine j_iload C dX8_passes_45 rfl ?_
        refine j_if_eq C (tgt := 54) dX8_passes_47 (by decide) ⟨by omega, by omega⟩ (fun c47 => ?_) (fun c47 => ?_)
        · refine j_iload_n C dX8_passes_54 rfl rfl ?_
          refine j_istore C (lv' := [some (aR (300 + w)), some (aI f), some (aI t), some (aI x), some (aI y), some (aI 0), some (aI 1), some (aI f), none, none, none]) dX8_passes_55 (by decide) rfl ?_
          refine j_iload C dX8_passes_57 rfl ?_
          refine j_if_eq C (tgt := 66) dX8_passes_59 (by decide) ⟨by omega, by omega⟩ (fun c59 => ?_) (fun c59 => ?_)
          · refine j_iload_n C dX8_passes_66 rfl rfl ?_
            refine j_istore C (lv' := [some (aR (300 + w)), some (aI f), some (aI t), some (aI x), some (aI y), some (aI 0), some (aI 1), some (aI f), some (aI t), none, none]) dX8_passes_67 (by decide) rfl ?_
            refine j_iconst C dX8_passes_69 ?_
            refine j_iload_n C dX8_passes_70 rfl rfl ?_
            refine j_imul C dX8_passes_71 ?_
            refine j_iconst C dX8_passes_72 ?_
            refine j_iadd C dX8_passes_73 ?_
            refine j_iconst C dX8_passes_74 ?_
            refine j_aload_n C dX8_passes_75 rfl rfl ?_
            refine j_getR C (j := (350 + w)) fl_X8_34 (hwO) rfl dX8_passes_76 ?_
            refine j_iload C dX8_passes_79 rfl ?_
            refine j_iald C (hwX) (by omega) (by omega) (by omega) dX8_passes_81 ?_
            refine j_imul C dX8_passes_82 ?_
            refine j_isub C dX8_passes_83 ?_
            refine j_istore C (lv' := [some (aR (300 + w)), some (aI f), some (aI t), some (aI x), some (aI y), some (aI 0), some (aI 1), some (aI f), some (aI t), some (aI (((2 * x) + 1) - (2 * (A (350 + w) f)))), none]) dX8_passes_84 (by decide) rfl ?_
            refine j_iconst C dX8_passes_86 ?_
            refine j_iload C dX8_passes_87 rfl ?_
            refine j_imul C dX8_passes_89 ?_
            refine j_iconst C dX8_passes_90 ?_
            refine j_iadd C dX8_passes_91 ?_
            refine j_iconst C dX8_passes_92 ?_
            refine j_aload_n C dX8_passes_93 rfl rfl ?_
            refine j_getR C (j := (400 + w)) fl_X8_40 (hwO) rfl dX8_passes_94 ?_
            refine j_iload C dX8_passes_97 rfl ?_
            refine j_iald C (hwY) (by omega) (by omega) (by omega) dX8_passes_99 ?_
            refine j_imul C dX8_passes_100 ?_
            refine j_isub C dX8_passes_101 ?_
            refine j_istore C (lv' := [some (aR (300 + w)), some (aI f), some (aI t), some (aI x), some (aI y), some (aI 0), some (aI 1), some (aI f), some (aI t), some (aI (((2 * x) + 1) - (2 * (A (350 + w) f)))), some (aI (((2 * y) + 1) - (2 * (A (400 + w) f))))]) dX8_passes_102 (by decide) rfl ?_
            refine j_iload C dX8_passes_104 rfl ?_
            refine j_aload_n C dX8_passes_106 rfl rfl ?_
            refine j_getR C (j := (400 + w)) fl_X8_40 (hwO) rfl dX8_passes_107 ?_
            refine j_iload C dX8_passes_110 rfl ?_
            refine j_iald C (hwY) (by omega) (by omega) (by omega) dX8_passes_112 ?_
            refine j_aload_n C dX8_passes_113 rfl rfl ?_
            refine j_getR C (j := (400 + w)) fl_X8_40 (hwO) rfl dX8_passes_114 ?_
            refine j_iload C dX8_passes_117 rfl ?_
            refine j_iald C (hwY) (by omega) (by omega) (by omega) dX8_passes_119 ?_
            refine j_isub C dX8_passes_120 ?_
            refine j_imul C dX8_passes_121 ?_
            refine j_iload C dX8_passes_122 rfl ?_
            refine j_aload_n C dX8_passes_124 rfl rfl ?_
            refine j_getR C (j := (350 + w)) fl_X8_34 (hwO) rfl dX8_passes_125 ?_
            refine j_iload C dX8_passes_128 rfl ?_
            refine j_iald C (hwX) (by omega) (by omega) (by omega) dX8_passes_130 ?_
            refine j_aload_n C dX8_passes_131 rfl rfl ?_
            refine j_getR C (j := (350 + w)) fl_X8_34 (hwO) rfl dX8_passes_132 ?_
            refine j_iload C dX8_passes_135 rfl ?_
            refine j_iald C (hwX) (by omega) (by omega) (by omega) dX8_passes_137 ?_
            refine j_isub C dX8_passes_138 ?_
            refine j_imul C dX8_passes_139 ?_
            refine j_icmp_ge C (tgt := 147) dX8_passes_140 (by decide) (mul_inR ⟨by omega, by omega⟩ ⟨by omega, by omega⟩) (mul_inR ⟨by omega, by omega⟩ ⟨by omega, by omega⟩) (fun c140 => ?_) (fun c140 => ?_)
            · refine j_iconst C dX8_passes_147 ?_
              exact j_zret C hr rfl (Nat.le_refl _) (Nat.le_refl _) dX8_passes_148 ⟨rfl, rfl, rfl, congrArg (fun z => some (aI z)) (by first | (rw [wcs_up (by rw [← ht]; omega) (by rw [← ht]; omega), ← ht, if_neg (fun z => absurd (ps_up.mp z) (by omega))]) | (rw [wcs_dn (by rw [← ht]; omega) (by rw [← ht]; omega), ← ht, if_neg (fun z => absurd (ps_dn.mp z) (by omega))]))⟩
            · refine j_iconst C dX8_passes_143 ?_
              refine j_goto C (tgt := 148) dX8_passes_144 (by decide) ?_
              exact j_zret C hr rfl (Nat.le_refl _) (Nat.le_refl _) dX8_passes_148 ⟨rfl, rfl, rfl, congrArg (fun z => some (aI z)) (by first | (rw [wcs_up (by rw [← ht]; omega) (by rw [← ht]; omega), ← ht, if_pos (ps_up.mpr (by omega))]) | (rw [wcs_dn (by rw [← ht]; omega) (by rw [← ht]; omega), ← ht, if_pos (ps_dn.mpr (by omega))]))⟩
          · exact absurd c59 (by decide)
        · exact absurd c47 (by decide)
      · exact absurd c40 (by decide)
  · refine j_iconst C dX8_passes_11 ?_
    refine j_goto C (tgt := 16) dX8_passes_12 (by decide) ?_
    refine j_istore C (lv' := [some (aR (300 + w)), some (aI f), some (aI t), some (aI x), some (aI y), some (aI 1), none, none, none, none, none]) dX8_passes_16 (by decide) rfl ?_
    refine j_aload_n C dX8_passes_18 rfl rfl ?_
    refine j_getR C (j := (400 + w)) fl_X8_40 (hwO) rfl dX8_passes_19 ?_
    refine j_iload_n C dX8_passes_22 rfl rfl ?_
    refine j_iald C (hwY) (by omega) (by omega) (by omega) dX8_passes_23 ?_
    refine j_iload C dX8_passes_24 rfl ?_
    refine j_icmp_le C (tgt := 33) dX8_passes_26 (by decide) ⟨by omega, by omega⟩ ⟨by omega, by omega⟩ (fun c26 => ?_) (fun c26 => ?_)
    · refine j_iconst C dX8_passes_33 ?_
      refine j_istore C (lv' := [some (aR (300 + w)), some (aI f), some (aI t), some (aI x), some (aI y), some (aI 1), some (aI 0), none, none, none, none]) dX8_passes_34 (by decide) rfl ?_
      refine j_iload C dX8_passes_36 rfl ?_
      refine j_iload C dX8_passes_38 rfl ?_
      refine j_icmp_ne C (tgt := 45) dX8_passes_40 (by decide) ⟨by omega, by omega⟩ ⟨by omega, by omega⟩ (fun c40 => ?_) (fun c40 => ?_)
      · refine j_iload C dX8_passes_45 rfl ?_
        refine j_if_eq C (tgt := 54) dX8_passes_47 (by decide) ⟨by omega, by omega⟩ (fun c47 => ?_) (fun c47 => ?_)
        · exact absurd c47 (by decide)
        · refine j_iload_n C dX8_passes_50 rfl rfl ?_
          refine j_goto C (tgt := 55) dX8_passes_51 (by decide) ?_
          refine j_istore C (lv' := [some (aR (300 + w)), some (aI f), some (aI t), some (aI x), some (aI y), some (aI 1), some (aI 0), some (aI t), none, none, none]) dX8_passes_55 (by decide) rfl ?_
          refine j_iload C dX8_passes_57 rfl ?_
          refine j_if_eq C (tgt := 66) dX8_passes_59 (by decide) ⟨by omega, by omega⟩ (fun c59 => ?_) (fun c59 => ?_)
          · exact absurd c59 (by decide)
          · refine j_iload_n C dX8_passes_62 rfl rfl ?_
            refine j_goto C (tgt := 67) dX8_passes_63 (by decide) ?_
            refine j_istore C (lv' := [some (aR (300 + w)), some (aI f), some (aI t), some (aI x), some (aI y), some (aI 1), some (aI 0), some (aI t), some (aI f), none, none]) dX8_passes_67 (by decide) rfl ?_
            refine j_iconst C dX8_passes_69 ?_
            refine j_iload_n C dX8_passes_70 rfl rfl ?_
            refine j_imul C dX8_passes_71 ?_
            refine j_iconst C dX8_passes_72 ?_
            refine j_iadd C dX8_passes_73 ?_
            refine j_iconst C dX8_passes_74 ?_
            refine j_aload_n C dX8_passes_75 rfl rfl ?_
            refine j_getR C (j := (350 + w)) fl_X8_34 (hwO) rfl dX8_passes_76 ?_
            refine j_iload C dX8_passes_79 rfl ?_
            refine j_iald C (hwX) (by omega) (by omega) (by omega) dX8_passes_81 ?_
            refine j_imul C dX8_passes_82 ?_
            refine j_isub C dX8_passes_83 ?_
            refine j_istore C (lv' := [some (aR (300 + w)), some (aI f), some (aI t), some (aI x), some (aI y), some (aI 1), some (aI 0), some (aI t), some (aI f), some (aI (((2 * x) + 1) - (2 * (A (350 + w) t)))), none]) dX8_passes_84 (by decide) rfl ?_
            refine j_iconst C dX8_passes_86 ?_
            refine j_iload C dX8_passes_87 rfl ?_
            refine j_imul C dX8_passes_89 ?_
            refine j_iconst C dX8_passes_90 ?_
            refine j_iadd C dX8_passes_91 ?_
            refine j_iconst C dX8_passes_92 ?_
            refine j_aload_n C dX8_passes_93 rfl rfl ?_
            refine j_getR C (j := (400 + w)) fl_X8_40 (hwO) rfl dX8_passes_94 ?_
            refine j_iload C dX8_passes_97 rfl ?_
            refine j_iald C (hwY) (by omega) (by omega) (by omega) dX8_passes_99 ?_
            refine j_imul C dX8_passes_100 ?_
            refine j_isub C dX8_passes_101 ?_
            refine j_istore C (lv' := [some (aR (300 + w)), some (aI f), some (aI t), some (aI x), some (aI y), some (aI 1), some (aI 0), some (aI t), some (aI f), some (aI (((2 * x) + 1) - (2 * (A (350 + w) t)))), some (aI (((2 * y) + 1) - (2 * (A (400 + w) t))))]) dX8_passes_102 (by decide) rfl ?_
            refine j_iload C dX8_passes_104 rfl ?_
            refine j_aload_n C dX8_passes_106 rfl rfl ?_
            refine j_getR C (j := (400 + w)) fl_X8_40 (hwO) rfl dX8_passes_107 ?_
            refine j_iload C dX8_passes_110 rfl ?_
            refine j_iald C (hwY) (by omega) (by omega) (by omega) dX8_passes_112 ?_
            refine j_aload_n C dX8_passes_113 rfl rfl ?_
            refine j_getR C (j := (400 + w)) fl_X8_40 (hwO) rfl dX8_passes_114 ?_
            refine j_iload C dX8_passes_117 rfl ?_
            refine j_iald C (hwY) (by omega) (by omega) (by omega) dX8_passes_119 ?_
            refine j_isub C dX8_passes_120 ?_
            refine j_imul C dX8_passes_121 ?_
            refine j_iload C dX8_passes_122 rfl ?_
            refine j_aload_n C dX8_passes_124 rfl rfl ?_
            refine j_getR C (j := (350 + w)) fl_X8_34 (hwO) rfl dX8_passes_125 ?_
            refine j_iload C dX8_passes_128 rfl ?_
            refine j_iald C (hwX) (by omega) (by omega) (by omega) dX8_passes_130 ?_
            refine j_aload_n C dX8_passes_131 rfl rfl ?_
            refine j_getR C (j := (350 + w)) fl_X8_34 (hwO) rfl dX8_passes_132 ?_
            refine j_iload C dX8_passes_135 rfl ?_
            refine j_iald C (hwX) (by omega) (by omega) (by omega) dX8_passes_137 ?_
            refine j_isub C dX8_passes_138 ?_
            refine j_imul C dX8_passes_139 ?_
            refine j_icmp_ge C (tgt := 147) dX8_passes_140 (by decide) (mul_inR ⟨by omega, by omega⟩ ⟨by omega, by omega⟩) (mul_inR ⟨by omega, by omega⟩ ⟨by omega, by omega⟩) (fun c140 => ?_) (fun c140 => ?_)
            · refine j_iconst C dX8_passes_147 ?_
              exact j_zret C hr rfl (Nat.le_refl _) (Nat.le_refl _) dX8_passes_148 ⟨rfl, rfl, rfl, congrArg (fun z => some (aI z)) (by first | (rw [wcs_up (by rw [← ht]; omega) (by rw [← ht]; omega), ← ht, if_neg (fun z => absurd (ps_up.mp z) (by omega))]) | (rw [wcs_dn (by rw [← ht]; omega) (by rw [← ht]; omega), ← ht, if_neg (fun z => absurd (ps_dn.mp z) (by omega))]))⟩
            · refine j_iconst C dX8_passes_143 ?_
              refine j_goto C (tgt := 148) dX8_passes_144 (by decide) ?_
              exact j_zret C hr rfl (Nat.le_refl _) (Nat.le_refl _) dX8_passes_148 ⟨rfl, rfl, rfl, congrArg (fun z => some (aI z)) (by first | (rw [wcs_up (by rw [← ht]; omega) (by rw [← ht]; omega), ← ht, if_pos (ps_up.mpr (by omega))]) | (rw [wcs_dn (by rw [← ht]; omega) (by rw [← ht]; omega), ← ht, if_pos (ps_dn.mpr (by omega))]))⟩
      · exact absurd c40 (by decide)
    · refine j_iconst C dX8_passes_29 ?_
      refine j_goto C (tgt := 34) dX8_passes_30 (by decide) ?_
      refine j_istore C (lv' := [some (aR (300 + w)), some (aI f), some (aI t), some (aI x), some (aI y), some (aI 1), some (aI 1), none, none, none, none]) dX8_passes_34 (by decide) rfl ?_
      refine j_iload C dX8_passes_36 rfl ?_
      refine j_iload C dX8_passes_38 rfl ?_
      refine j_icmp_ne C (tgt := 45) dX8_passes_40 (by decide) ⟨by omega, by omega⟩ ⟨by omega, by omega⟩ (fun c40 => ?_) (fun c40 => ?_)
      · exact absurd c40 (by decide)
      · refine j_iconst C dX8_passes_43 ?_
        exact j_zret C hr rfl (Nat.le_refl _) (Nat.le_refl _) dX8_passes_44 ⟨rfl, rfl, rfl, congrArg (fun z => some (aI z)) (wcs_no (by rw [← ht]; omega)).symm⟩

set_option maxHeartbeats 4000000 in
set_option maxRecDepth 100000 in
theorem c_isWithin (l : Launch) (S : ab_St) (F : ab_Fn) (A : ab_An) (hS : ab_SC S) (w n : Nat) (hwO : S (300 + w) = some (sC 9 (slW (350 + w) (400 + w) (450 + w)))) (hwX : S (350 + w) = some (sA .int n)) (hwY : S (400 + w) = some (sA .int n)) (hn : 1 ≤ n ∧ n ≤ 40) (hxy : ∀ k : Int, 0 ≤ k → k < n → 0 ≤ A (350 + w) k ∧ A (350 + w) k ≤ 20 ∧ 0 ≤ A (400 + w) k ∧ A (400 + w) k ≤ 14) (x y : Int) (h3 : 0 ≤ x ∧ x < 20) (h4 : 0 ≤ y ∧ y < 14) : ab_Met l yX8_isWithin cX8_isWithin 6 (some .boolean) { frames := 1, cells := 0, slots := 0, locals := 30 } 0 0 [aR (300 + w), aI x, aI y] S F A (fun v S' F' A' => S = S' ∧ F = F' ∧ A = A' ∧ v = some (aI (wIn (A (350 + w)) (A (400 + w)) n (20 * y + x)))) := by
  refine ab_enter (by decide) (by simp [aI, aR, aX, ab_val, Value.category]) (Nat.le_of_ble_eq_true rfl) (fun E C hr => ?_)
  refine j_eq (lv' := [some (aR (300 + w)), some (aI x), some (aI y), none, none, none]) ?_
  refine j_iconst C dX8_isWithin_0 ?_
  refine j_istore_n C (lv' := [some (aR (300 + w)), some (aI x), some (aI y), some (aI 0), none, none]) dX8_isWithin_1 rfl (by decide) rfl ?_
  refine j_aload_n C dX8_isWithin_2 rfl rfl ?_
  refine j_getR C (j := (350 + w)) fl_X8_34 (hwO) rfl dX8_isWithin_3 ?_
  refine j_alen C (hwX) 0 (fun _ => rfl) dX8_isWithin_6 ?_
  refine j_eq (st' := [aI n]) ?_
  refine j_iconst C dX8_isWithin_7 ?_
  refine j_isub C dX8_isWithin_8 ?_
  refine j_istore C (lv' := [some (aR (300 + w)), some (aI x), some (aI y), some (aI 0), some (aI (n - 1)), none]) dX8_isWithin_9 (by decide) rfl ?_
  refine j_iconst C dX8_isWithin_11 ?_
  refine j_istore C (lv' := [some (aR (300 + w)), some (aI x), some (aI y), some (aI 0), some (aI (n - 1)), some (aI 0)]) dX8_isWithin_12 (by decide) rfl ?_
  have K14 : ∀ (N : Nat) (o la k : Int), (0 ≤ k ∧ k ≤ n) → (la = if k = 0 then (n : Int) - 1 else k - 1) → (o = pw (wcs (A (350 + w)) (A (400 + w)) n (2 * x + 1) (2 * y + 1)) n k % 2) → (((n : Int) - k).toNat) < N → ab_J E 6 0 0 S F A 14 [some (aR (300 + w)), some (aI x), some (aI y), some (aI o), some (aI la), some (aI k)] [] := by
    intro N
    induction N with
    | zero => intro o la k hk hla ho hm; exact absurd hm (Nat.not_lt_zero _)
    | succ N ih =>
      have ih14 := ih
      clear ih
      intro o la k hk hla ho hm14
      have hla2 : 0 ≤ la ∧ la < n := by rw [hla]; split <;> omega
      have ho2 : o = 0 ∨ o = 1 := by omega
      refine j_iload C dX8_isWithin_14 rfl ?_
      refine j_aload_n C dX8_isWithin_16 rfl rfl ?_
      refine j_getR C (j := (350 + w)) fl_X8_34 (hwO) rfl dX8_isWithin_17 ?_
      refine j_alen C (hwX) 0 (fun _ => rfl) dX8_isWithin_20 ?_
      refine j_eq (st' := [aI n, aI k]) ?_
      refine j_icmp_ge C (tgt := 67) dX8_isWithin_21 (by decide) ⟨by omega, by omega⟩ ⟨by omega, by omega⟩ (fun c21 => ?_) (fun c21 => ?_)
      · refine j_iload_n C dX8_isWithin_67 rfl rfl ?_
        exact j_zret C hr (ab_nz01 ho2) (Nat.le_refl _) (Nat.le_refl _) dX8_isWithin_68 ⟨rfl, rfl, rfl, congrArg (fun z => some (aI z)) (by rw [ho, show k = (n : Int) by omega, pw_end (by omega)]; unfold wIn; rw [show (20 * y + x) % 20 = x by omega, show (20 * y + x) / 20 = y by omega])⟩
      · refine j_iload C dX8_isWithin_24 rfl ?_
        refine j_aload_n C dX8_isWithin_26 rfl rfl ?_
        refine j_getR C (j := (400 + w)) fl_X8_40 (hwO) rfl dX8_isWithin_27 ?_
        refine j_alen C (hwY) 0 (fun _ => rfl) dX8_isWithin_30 ?_
        refine j_eq (st' := [aI n, aI k]) ?_
        refine j_icmp_ge C (tgt := 67) dX8_isWithin_31 (by decide) ⟨by omega, by omega⟩ ⟨by omega, by omega⟩ (fun c31 => ?_) (fun c31 => ?_)
        · exact absurd c31 (by omega)
        · have hmod : k = (la + 1) % n := by
            rw [hla]
            by_cases q : k = 0
            · rw [if_pos q, q, show (n : Int) - 1 + 1 = n by omega, Int.emod_self]
            · rw [if_neg q, show k - 1 + 1 = k by omega, Int.emod_eq_of_lt (by omega) (by omega)]
          refine j_aload_n C dX8_isWithin_34 rfl rfl ?_
          refine j_iload C dX8_isWithin_35 rfl ?_
          refine j_iload C dX8_isWithin_37 rfl ?_
          refine j_iload_n C dX8_isWithin_39 rfl rfl ?_
          refine j_iload_n C dX8_isWithin_40 rfl rfl ?_
          refine j_callV C (vs := [aI la, aI k, aI x, aI y]) (st := []) cl_X8_58 im_yX8_passes se_yX8_passes (fun _ => (c_passes _ S F A hS _ _ (hwO) (hwX) (hwY) hn hxy _ _ _ _ hla2 (by omega) hmod h3 h4)) (hwO) rfl rfl rfl ⟨rfl, rfl, by decide, by decide⟩ ⟨by decide, by decide⟩ (fun _ => Nat.le_of_ble_eq_true rfl) (fun v hv => by cases hv) (fun v hv => by simp only [List.mem_cons, List.not_mem_nil, or_false, Option.some.injEq, reduceCtorEq, false_or] at hv; rcases hv with rfl | rfl | rfl | rfl | rfl | rfl <;> first | exact (lS (hwO)) | exact trivial) dX8_isWithin_41 (fun v_41 S_41 F_41 A_41 hP_41 => ?_)
          obtain ⟨rfl, rfl, rfl, rfl⟩ := hP_41
          show ab_J E 6 0 0 S F A 44 [some (aR (300 + w)), some (aI x), some (aI y), some (aI o), some (aI la), some (aI k)] [aI (wcs (A (350 + w)) (A (400 + w)) n (2 * x + 1) (2 * y + 1) la)]
          have hw1 := wcs_01 (X := A (350 + w)) (Y := A (400 + w)) (n := n) (mx := 2 * x + 1) (my := 2 * y + 1) (k := la)
          have hst := pw_step (e := wcs (A (350 + w)) (A (400 + w)) n (2 * x + 1) (2 * y + 1)) (n := n) hk.1
          rw [← hla] at hst
          refine j_if_eq C (tgt := 57) dX8_isWithin_44 (by decide) ⟨by omega, by omega⟩ (fun c44 => ?_) (fun c44 => ?_)
          · refine j_iload C dX8_isWithin_57 rfl ?_
            refine j_istore C (lv' := [some (aR (300 + w)), some (aI x), some (aI y), some (aI o), some (aI k), some (aI k)]) dX8_isWithin_59 (by decide) rfl ?_
            refine j_iinc C (lv' := [some (aR (300 + w)), some (aI x), some (aI y), some (aI o), some (aI k), some (aI (k + 1))]) dX8_isWithin_61 rfl (by decide) rfl ?_
            refine j_goto C (tgt := 14) dX8_isWithin_64 (by decide) ?_
            exact ih14 o k (k + 1) (by omega) (by rw [if_neg (by omega)]; omega) (by rw [hst]; omega) (by omega)
          · refine j_iload_n C dX8_isWithin_47 rfl rfl ?_
            refine j_if_ne C (tgt := 55) dX8_isWithin_48 (by decide) ⟨by omega, by omega⟩ (fun c48 => ?_) (fun c48 => ?_)
            · refine j_iconst C dX8_isWithin_55 ?_
              refine j_istore_n C (lv' := [some (aR (300 + w)), some (aI x), some (aI y), some (aI 0), some (aI la), some (aI k)]) dX8_isWithin_56 rfl (by decide) rfl ?_
              refine j_iload C dX8_isWithin_57 rfl ?_
              refine j_istore C (lv' := [some (aR (300 + w)), some (aI x), some (aI y), some (aI 0), some (aI k), some (aI k)]) dX8_isWithin_59 (by decide) rfl ?_
              refine j_iinc C (lv' := [some (aR (300 + w)), some (aI x), some (aI y), some (aI 0), some (aI k), some (aI (k + 1))]) dX8_isWithin_61 rfl (by decide) rfl ?_
              refine j_goto C (tgt := 14) dX8_isWithin_64 (by decide) ?_
              exact ih14 0 k (k + 1) (by omega) (by rw [if_neg (by omega)]; omega) (by rw [hst]; omega) (by omega)
            · refine j_iconst C dX8_isWithin_51 ?_
              refine j_goto C (tgt := 56) dX8_isWithin_52 (by decide) ?_
              refine j_istore_n C (lv' := [some (aR (300 + w)), some (aI x), some (aI y), some (aI 1), some (aI la), some (aI k)]) dX8_isWithin_56 rfl (by decide) rfl ?_
              refine j_iload C dX8_isWithin_57 rfl ?_
              refine j_istore C (lv' := [some (aR (300 + w)), some (aI x), some (aI y), some (aI 1), some (aI k), some (aI k)]) dX8_isWithin_59 (by decide) rfl ?_
              refine j_iinc C (lv' := [some (aR (300 + w)), some (aI x), some (aI y), some (aI 1), some (aI k), some (aI (k + 1))]) dX8_isWithin_61 rfl (by decide) rfl ?_
              refine j_goto C (tgt := 14) dX8_isWithin_64 (by decide) ?_
              exact ih14 1 k (k + 1) (by omega) (by rw [if_neg (by omega)]; omega) (by rw [hst]; omega) (by omega)
  exact K14 _ 0 (n - 1) 0 (by omega) (by rw [if_pos rfl]) (by unfold pw; rw [if_pos rfl]; rfl) (Nat.lt_succ_self _)

set_option maxHeartbeats 4000000 in
set_option maxRecDepth 100000 in
theorem c_warnInit6 (l : Launch) (S : ab_St) (F : ab_Fn) (A : ab_An) (hS : ab_SC S) (w : Nat) (hw40 : w < 40) (now : Int) (hwO : S (300 + w) = some (sC 9 sl0_X8)) (hfX : S (350 + w) = none) (hfY : S (400 + w) = none) (hfZ : S (450 + w) = none) (hm : 1 ≤ F 6 2 ∧ F 6 2 ≤ 40) (hxy : ∀ k : Int, 0 ≤ k → k < F 6 2 → 0 ≤ A 16 k ∧ A 16 k ≤ 20 ∧ 0 ≤ A 17 k ∧ A 17 k ≤ 14) : ab_Met l yX8_init cX8_init 5 none { frames := 2, cells := 3, slots := 94, locals := 62 } 3 94 [aR (300 + w), aR 6, aI now] S F A (fun v S' F' A' => v = none ∧ S' = (upS (upS (upS (upS S (350 + w) (sA .int (F 6 2).toNat)) (400 + w) (sA .int (F 6 2).toNat)) (450 + w) (sA .int 14)) (300 + w) (sC 9 (slW (350 + w) (400 + w) (450 + w)))) ∧ F' = upF (upF (upF F (300 + w) 2 now) (300 + w) 4 0) (300 + w) 5 0 ∧ (∀ i, i ≠ 350 + w → i ≠ 400 + w → i ≠ 450 + w → A' i = A i) ∧ (∀ k, 0 ≤ k → k < F 6 2 → A' (350 + w) k = A 16 k ∧ A' (400 + w) k = A 17 k) ∧ ∀ y, 0 ≤ y → y < 14 → A' (450 + w) y = wb (wIn (A 16) (A 17) (F 6 2)) y 20) := by
  refine ab_enter (by decide) (by simp [aI, aR, aX, ab_val, Value.category]) (Nat.le_of_ble_eq_true rfl) (fun E C hr => ?_)
  refine j_eq (lv' := [some (aR (300 + w)), some (aR 6), some (aI now), none, none]) ?_
  have he01 : ∀ s, (wIn (A 16) (A 17) (F 6 2)) s = 0 ∨ (wIn (A 16) (A 17) (F 6 2)) s = 1 := fun s => wIn_01
  refine j_aload_n C dX8_init_0 rfl rfl ?_
  refine j_objInit C (fun _ => ⟨_, rfl⟩) (ab_t2 (List.mem_of_getElem? (i := 104) rfl) rfl) (ab_t1 (List.mem_of_getElem? (i := 38) rfl) rfl) (ab_t1 (List.mem_of_getElem? (i := 39) rfl) rfl) (by decide) (fun _ => Nat.le_of_ble_eq_true rfl) dX8_init_1 ?_
  refine j_aload_n C dX8_init_4 rfl rfl ?_
  refine j_get C (aI (F 6 2)) fl_X8_9 ((sC_6 hS)) (fun _ => rfl) dX8_init_5 ?_
  refine j_iconst C dX8_init_8 ?_
  refine j_mmax C (ab_t2 (List.mem_of_getElem? (i := 105) rfl) rfl) ⟨by omega, by omega⟩ ⟨by omega, by omega⟩ (by decide) (fun _ => Nat.le_of_ble_eq_true rfl) ⟨by decide, by decide⟩ dX8_init_9 ?_
  refine j_eq (st' := [aI (F 6 2)]) ?_ (e1 := by first | rfl | (simp only [List.cons.injEq, and_true]; exact congrArg aI ((by omega))))
  refine j_bipush C dX8_init_12 rfl ?_
  refine j_mmin C (ab_t2 (List.mem_of_getElem? (i := 106) rfl) rfl) ⟨by omega, by omega⟩ ⟨by omega, by omega⟩ (by decide) (fun _ => Nat.le_of_ble_eq_true rfl) ⟨by decide, by decide⟩ dX8_init_14 ?_
  refine j_eq (st' := [aI (F 6 2)]) ?_ (e1 := by first | rfl | (simp only [List.cons.injEq, and_true]; exact congrArg aI ((by omega))))
  refine j_istore_n C (lv' := [some (aR (300 + w)), some (aR 6), some (aI now), some (aI (F 6 2)), none]) dX8_init_17 rfl (by decide) rfl ?_
  refine j_aload_n C dX8_init_18 rfl rfl ?_
  refine j_aload_n C dX8_init_19 rfl rfl ?_
  refine j_getR C (j := 16) fl_X8_24 ((sC_6 hS)) rfl dX8_init_20 ?_
  refine j_iload_n C dX8_init_23 rfl rfl ?_
  refine j_callS C (vs := [aR 16, aI (F 6 2)]) (st := [aR (300 + w)]) cl_X8_28 sc_yJ7_copyOf_59c91 (fun _ => (t_copyOf _ S F A 16 (350 + w) 42 _ ((sC_16 hS)) (hfX) (by omega) (by omega) (by omega) (by decide))) rfl ⟨rfl, rfl, by decide, by decide⟩ ⟨by decide, by decide⟩ (fun _ => Nat.le_of_ble_eq_true rfl) (fun v hv => by simp only [List.mem_cons, List.not_mem_nil, or_false] at hv; rcases hv with rfl <;> first | exact (lS (hwO))) (fun v hv => by simp only [List.mem_cons, List.not_mem_nil, or_false, Option.some.injEq, reduceCtorEq, false_or] at hv; rcases hv with rfl | rfl | rfl | rfl <;> first | exact (lS ((sC_6 hS))) | exact (lS (hwO)) | exact trivial) dX8_init_24 (fun v_24 S_24 F_24 A_24 hP_24 => ?_)
  obtain ⟨rfl, rfl, rfl, rfl⟩ := hP_24
  show ab_J E 5 1 40 (upS S (350 + w) (sA .int (F 6 2).toNat)) F (setRow (zA A (350 + w)) (350 + w) 0 (F 6 2) (A 16)) 27 [some (aR (300 + w)), some (aR 6), some (aI now), some (aI (F 6 2)), none] [aR (350 + w), aR (300 + w)]
  refine j_putR C fp_X8_34 (fun _ => rfl) (Or.inr ⟨_, rfl⟩) (((upS_ne (by omega)).trans (hwO))) (lS (upS_at _ _ _)) dX8_init_27 ?_
  refine j_aload_n C dX8_init_30 rfl rfl ?_
  refine j_aload_n C dX8_init_31 rfl rfl ?_
  refine j_getR C (j := 17) fl_X8_37 (((upS_ne (by omega)).trans (((upS_ne (by omega)).trans ((sC_6 hS)))))) rfl dX8_init_32 ?_
  refine j_iload_n C dX8_init_35 rfl rfl ?_
  refine j_callS C (vs := [aR 17, aI (F 6 2)]) (st := [aR (300 + w)]) cl_X8_28 sc_yJ7_copyOf_59c91 (fun _ => (t_copyOf _ (upS (upS S (350 + w) (sA .int (F 6 2).toNat)) (300 + w) (sC 9 (upL sl0_X8 0 (some (some (350 + w)))))) F (setRow (zA A (350 + w)) (350 + w) 0 (F 6 2) (A 16)) 17 (400 + w) 42 _ (((upS_ne (by omega)).trans (((upS_ne (by omega)).trans ((sC_17 hS)))))) (((upS_ne (by omega)).trans (((upS_ne (by omega)).trans (hfY))))) (by omega) (by omega) (by omega) (by decide))) rfl ⟨rfl, rfl, by decide, by decide⟩ ⟨by decide, by decide⟩ (fun _ => Nat.le_of_ble_eq_true rfl) (fun v hv => by simp only [List.mem_cons, List.not_mem_nil, or_false] at hv; rcases hv with rfl <;> first | exact (lS (upS_at _ _ _))) (fun v hv => by simp only [List.mem_cons, List.not_mem_nil, or_false, Option.some.injEq, reduceCtorEq, false_or] at hv; rcases hv with rfl | rfl | rfl | rfl <;> first | exact (lS (((upS_ne (by omega)).trans (((upS_ne (by omega)).trans ((sC_6 hS))))))) | exact (lS (upS_at _ _ _)) | exact trivial) dX8_init_36 (fun v_36 S_36 F_36 A_36 hP_36 => ?_)
  obtain ⟨rfl, rfl, rfl, rfl⟩ := hP_36
  show ab_J E 5 2 80 (upS (upS (upS S (350 + w) (sA .int (F 6 2).toNat)) (300 + w) (sC 9 (upL sl0_X8 0 (some (some (350 + w)))))) (400 + w) (sA .int (F 6 2).toNat)) F (setRow (zA (setRow (zA A (350 + w)) (350 + w) 0 (F 6 2) (A 16)) (400 + w)) (400 + w) 0 (F 6 2) ((setRow (zA A (350 + w)) (350 + w) 0 (F 6 2) (A 16)) 17)) 39 [some (aR (300 + w)), some (aR 6), some (aI now), some (aI (F 6 2)), none] [aR (400 + w), aR (300 + w)]
  refine j_putR C fp_X8_40 (fun _ => rfl) (Or.inr ⟨_, rfl⟩) (((upS_ne (by omega)).trans (upS_at _ _ _))) (lS (upS_at _ _ _)) dX8_init_39 ?_
  refine j_eqS (S' := (upS (upS (upS S (350 + w) (sA .int (F 6 2).toNat)) (400 + w) (sA .int (F 6 2).toNat)) (300 + w) (sC 9 (upL (upL sl0_X8 0 (some (some (350 + w)))) 1 (some (some (400 + w))))))) (upS_mv (by omega)) ?_
  refine j_aload_n C dX8_init_42 rfl rfl ?_
  refine j_iload_n C dX8_init_43 rfl rfl ?_
  refine j_putF C fp_X8_41 rfl (upS_at _ _ _) rfl dX8_init_44 ?_
  refine j_aload_n C dX8_init_47 rfl rfl ?_
  refine j_bipush C dX8_init_48 rfl ?_
  refine j_newa C (atype := .int) (ty := .int) (N := 14) (450 + w) 0 rfl (fun _ => rfl) (fun _ _ h => h) rfl (ab_t1 (List.mem_of_getElem? (i := 71) rfl) rfl) rfl (by decide) (by decide) (((upS_ne (by omega)).trans (((upS_ne (by omega)).trans (((upS_ne (by omega)).trans (hfZ))))))) (by omega) (Nat.le_of_ble_eq_true rfl) (Nat.le_of_ble_eq_true rfl) (fun v hv => by simp only [List.mem_cons, List.not_mem_nil, or_false] at hv; rcases hv with rfl <;> first | exact (lS (upS_at _ _ _))) (fun v hv => by simp only [List.mem_cons, List.not_mem_nil, or_false, Option.some.injEq, reduceCtorEq, false_or] at hv; rcases hv with rfl | rfl | rfl | rfl <;> first | exact (lS (((upS_ne (by omega)).trans (((upS_ne (by omega)).trans (((upS_ne (by omega)).trans ((sC_6 hS))))))))) | exact (lS (upS_at _ _ _)) | exact trivial) dX8_init_50 ?_
  show ab_J E 5 3 94 (upS (upS (upS (upS S (350 + w) (sA .int (F 6 2).toNat)) (400 + w) (sA .int (F 6 2).toNat)) (300 + w) (sC 9 (upL (upL sl0_X8 0 (some (some (350 + w)))) 1 (some (some (400 + w)))))) (450 + w) (sA .int 14)) (upF F (300 + w) 2 now) (zA (setRow (zA (setRow (zA A (350 + w)) (350 + w) 0 (F 6 2) (A 16)) (400 + w)) (400 + w) 0 (F 6 2) ((setRow (zA A (350 + w)) (350 + w) 0 (F 6 2) (A 16)) 17)) (450 + w)) 52 [some (aR (300 + w)), some (aR 6), some (aI now), some (aI (F 6 2)), none] [aR (450 + w), aR (300 + w)]
  refine j_putR C fp_X8_44 (fun _ => rfl) (Or.inr ⟨_, rfl⟩) (((upS_ne (by omega)).trans (upS_at _ _ _))) (lS (upS_at _ _ _)) dX8_init_52 ?_
  refine j_eqS (S' := (upS (upS (upS (upS S (350 + w) (sA .int (F 6 2).toNat)) (400 + w) (sA .int (F 6 2).toNat)) (450 + w) (sA .int 14)) (300 + w) (sC 9 (upL (upL (upL sl0_X8 0 (some (some (350 + w)))) 1 (some (some (400 + w)))) 3 (some (some (450 + w))))))) (upS_mv (by omega)) ?_
  refine j_eqS (S' := (upS (upS (upS (upS S (350 + w) (sA .int (F 6 2).toNat)) (400 + w) (sA .int (F 6 2).toNat)) (450 + w) (sA .int 14)) (300 + w) (sC 9 (slW (350 + w) (400 + w) (450 + w))))) (by funext i; simp only [upS, slW_up]; repeat (first | rfl | omega | split)) ?_
  refine j_aload_n C dX8_init_55 rfl rfl ?_
  refine j_iconst C dX8_init_56 ?_
  refine j_putZ C fp_X8_47 (upS_at _ _ _) rfl (Or.inl rfl) dX8_init_57 ?_
  refine j_aload_n C dX8_init_60 rfl rfl ?_
  refine j_iconst C dX8_init_61 ?_
  refine j_putI C fp_X8_51 (upS_at _ _ _) rfl dX8_init_62 ?_
  refine j_iconst C dX8_init_65 ?_
  refine j_istore C (lv' := [some (aR (300 + w)), some (aR 6), some (aI now), some (aI (F 6 2)), some (aI 0)]) dX8_init_66 (by decide) rfl ?_
  have K68 : ∀ (N : Nat) (k : Int) (B : ab_An), (0 ≤ k ∧ k ≤ 280) → (∀ i, i ≠ 350 + w → i ≠ 400 + w → i ≠ 450 + w → B i = A i) → (∀ j, 0 ≤ j → j < F 6 2 → B (350 + w) j = A 16 j ∧ B (400 + w) j = A 17 j) → (∀ y, 0 ≤ y → y < 14 → B (450 + w) y = wb (wIn (A 16) (A 17) (F 6 2)) y (min 20 (max 0 (k - 20 * y)))) → ((280 - k).toNat) < N → ab_J E 5 3 94 (upS (upS (upS (upS S (350 + w) (sA .int (F 6 2).toNat)) (400 + w) (sA .int (F 6 2).toNat)) (450 + w) (sA .int 14)) (300 + w) (sC 9 (slW (350 + w) (400 + w) (450 + w)))) (upF (upF (upF F (300 + w) 2 now) (300 + w) 4 0) (300 + w) 5 0) B 68 [some (aR (300 + w)), some (aR 6), some (aI now), some (aI (F 6 2)), some (aI k)] [] := by
    intro N
    induction N with
    | zero => intro k B hk hO hX hwb hm; exact absurd hm (Nat.not_lt_zero _)
    | succ N ih =>
      have ih68 := ih
      clear ih
      intro k B hk hO hX hwb hm68
      refine j_iload C dX8_init_68 rfl ?_
      refine j_sipush C dX8_init_70 rfl ?_
      refine j_icmp_ge C (tgt := 119) dX8_init_73 (by decide) ⟨by omega, by omega⟩ ⟨by omega, by omega⟩ (fun c73 => ?_) (fun c73 => ?_)
      · exact j_vret C hr (Nat.le_refl _) (Nat.le_refl _) dX8_init_119 ⟨rfl, rfl, rfl, hO, hX, fun y a c => by rw [hwb y a c, show min 20 (max 0 (k - 20 * y)) = 20 by omega]⟩
      · refine j_aload_n C dX8_init_76 rfl rfl ?_
        refine j_iload C dX8_init_77 rfl ?_
        refine j_bipush C dX8_init_79 rfl ?_
        refine j_irem C dX8_init_81 (by omega) (by omega) (by omega) (by omega) ?_
        refine j_iload C dX8_init_82 rfl ?_
        refine j_bipush C dX8_init_84 rfl ?_
        refine j_idiv C dX8_init_86 (by omega) (by omega) (by omega) (by omega) ?_
        refine j_callV C (vs := [aI (k % 20), aI (k / 20)]) (st := []) cl_X8_54 im_yX8_isWithin se_yX8_isWithin (fun _ => (c_isWithin _ (upS (upS (upS (upS S (350 + w) (sA .int (F 6 2).toNat)) (400 + w) (sA .int (F 6 2).toNat)) (450 + w) (sA .int 14)) (300 + w) (sC 9 (slW (350 + w) (400 + w) (450 + w)))) (upF (upF (upF F (300 + w) 2 now) (300 + w) 4 0) (300 + w) 5 0) B (SC_up (by omega) (SC_up (by omega) (SC_up (by omega) (SC_up (by omega) hS)))) _ _ (upS_at _ _ _) (((upS_ne (by omega)).trans (((upS_ne (by omega)).trans (((upS_ne (by omega)).trans (upS_at _ _ _))))))) (((upS_ne (by omega)).trans (((upS_ne (by omega)).trans (upS_at _ _ _))))) ⟨by omega, by omega⟩ (fun j a c => by have hj : j < F 6 2 := (by omega); rw [(hX j a hj).1, (hX j a hj).2]; exact hxy j a hj) _ _ (by omega) (by omega))) (upS_at _ _ _) rfl rfl rfl ⟨rfl, rfl, by decide, by decide⟩ ⟨by decide, by decide⟩ (fun _ => Nat.le_of_ble_eq_true rfl) (fun v hv => by cases hv) (fun v hv => by simp only [List.mem_cons, List.not_mem_nil, or_false, Option.some.injEq, reduceCtorEq, false_or] at hv; rcases hv with rfl | rfl | rfl | rfl | rfl <;> first | exact (lS (((upS_ne (by omega)).trans (((upS_ne (by omega)).trans (((upS_ne (by omega)).trans (((upS_ne (by omega)).trans ((sC_6 hS))))))))))) | exact (lS (upS_at _ _ _)) | exact trivial) dX8_init_87 (fun v_87 S_87 F_87 A_87 hP_87 => ?_)
        obtain ⟨rfl, rfl, rfl, rfl⟩ := hP_87
        show ab_J E 5 3 94 (upS (upS (upS (upS S (350 + w) (sA .int (F 6 2).toNat)) (400 + w) (sA .int (F 6 2).toNat)) (450 + w) (sA .int 14)) (300 + w) (sC 9 (slW (350 + w) (400 + w) (450 + w)))) (upF (upF (upF F (300 + w) 2 now) (300 + w) 4 0) (300 + w) 5 0) B 90 [some (aR (300 + w)), some (aR 6), some (aI now), some (aI (F 6 2)), some (aI k)] [aI (wIn (B (350 + w)) (B (400 + w)) ((F 6 2).toNat : Nat) (20 * (k / 20) + (k % 20)))]
        have hz90 : wIn (B (350 + w)) (B (400 + w)) ((F 6 2).toNat : Nat) (20 * (k / 20) + k % 20) = (wIn (A 16) (A 17) (F 6 2)) k := by
          rw [show (((F 6 2).toNat : Nat) : Int) = F 6 2 by omega, show 20 * (k / 20) + k % 20 = k by omega]; exact wIn_cong hm.1 hX
        refine j_if_eq C (tgt := 113) dX8_init_90 (by decide) (by rcases wIn_01 (X := B (350 + w)) (Y := B (400 + w)) (n := ((F 6 2).toNat : Nat)) (k := 20 * (k / 20) + k % 20) with q | q <;> rw [q] <;> exact ⟨by decide, by decide⟩) (fun c90 => ?_) (fun c90 => ?_)
        · refine j_iinc C (lv' := [some (aR (300 + w)), some (aR 6), some (aI now), some (aI (F 6 2)), some (aI (k + 1))]) dX8_init_113 rfl (by decide) rfl ?_
          refine j_goto C (tgt := 68) dX8_init_116 (by decide) ?_
          exact ih68 (k + 1) B (by omega) hO hX (fun y a c => by rw [wb_next (by omega) ⟨a, c⟩, ← hz90, c90, hwb y a c]; split <;> omega) (by omega)
        · refine j_aload_n C dX8_init_93 rfl rfl ?_
          refine j_getR C (j := (450 + w)) fl_X8_44 (upS_at _ _ _) rfl dX8_init_94 ?_
          refine j_iload C dX8_init_97 rfl ?_
          refine j_bipush C dX8_init_99 rfl ?_
          refine j_idiv C dX8_init_101 (by omega) (by omega) (by omega) (by omega) ?_
          refine j_dup2 C dX8_init_102 (fun _ => rfl) (fun _ => rfl) ?_
          refine j_iald C (((upS_ne (by omega)).trans (upS_at _ _ _))) (by omega) (by omega) (by decide) dX8_init_103 ?_
          refine j_eq (st' := [aI (wb (wIn (A 16) (A 17) (F 6 2)) (k / 20) (k % 20)), aI (k / 20), aR (450 + w)]) ?_ (e1 := by first | rfl | (simp only [List.cons.injEq, and_true]; exact congrArg aI ((by rw [hwb _ (by omega) (by omega), show min 20 (max 0 (k - 20 * (k / 20))) = k % 20 by omega]))))
          refine j_iconst C dX8_init_104 ?_
          refine j_iload C dX8_init_105 rfl ?_
          refine j_bipush C dX8_init_107 rfl ?_
          refine j_irem C dX8_init_109 (by omega) (by omega) (by omega) (by omega) ?_
          refine j_ishl C dX8_init_110 ?_
          refine j_ior C dX8_init_111 ?_
          refine j_eq (st' := [aI (wb (wIn (A 16) (A 17) (F 6 2)) (k / 20) (k % 20) + 2 ^ (k % 20).toNat), aI (k / 20), aR (450 + w)]) ?_ (e1 := by first | rfl | (simp only [List.cons.injEq, and_true]; exact congrArg aI ((by have q := wb_lt (y := k / 20) he01 (k % 20).toNat; rw [show (((k % 20).toNat : Nat) : Int) = k % 20 by omega] at q; have q2 := or_bit (x := (k % 20).toNat) (by omega) q.1 q.2; rw [show (((k % 20).toNat : Nat) : Int) = k % 20 by omega] at q2; exact q2))))
          refine j_iast C (((upS_ne (by omega)).trans (upS_at _ _ _))) (by omega) (by omega) (by decide) dX8_init_112 ?_
          refine j_iinc C (lv' := [some (aR (300 + w)), some (aR 6), some (aI now), some (aI (F 6 2)), some (aI (k + 1))]) dX8_init_113 rfl (by decide) rfl ?_
          refine j_goto C (tgt := 68) dX8_init_116 (by decide) ?_
          exact ih68 (k + 1) ((upA B (450 + w) (k / 20) (wb (wIn (A 16) (A 17) (F 6 2)) (k / 20) (k % 20) + 2 ^ (k % 20).toNat))) (by omega) (fun i q1 q2 q3 => by rw [upA_other q3]; exact hO i q1 q2 q3) (fun j a c => by rw [upA_other (by omega), upA_other (by omega)]; exact hX j a c) (fun y a c => by rw [wb_next (by omega) ⟨a, c⟩, ← hz90, show wIn (B (350 + w)) (B (400 + w)) ((F 6 2).toNat : Nat) (20 * (k / 20) + k % 20) = 1 by (rcases wIn_01 (X := B (350 + w)) (Y := B (400 + w)) (n := ((F 6 2).toNat : Nat)) (k := 20 * (k / 20) + k % 20) with q | q; exact absurd q c90; exact q)]; exact (if q : y = k / 20 then (by rw [if_pos q, q, upA_at, show min 20 (max 0 (k - 20 * (k / 20))) = k % 20 by omega]; omega) else (by rw [if_neg q, upA_ne q, hwb y a c]; omega))) (by omega)
  exact K68 _ 0 ((zA (setRow (zA (setRow (zA A (350 + w)) (350 + w) 0 (F 6 2) (A 16)) (400 + w)) (400 + w) 0 (F 6 2) ((setRow (zA A (350 + w)) (350 + w) 0 (F 6 2) (A 16)) 17)) (450 + w))) (by omega) (fun i q1 q2 q3 => by rw [zA_ne q3, setRow_other q2, zA_ne q2, setRow_other q1, zA_ne q1]) (fun j a c => ⟨by rw [zA_ne (by omega), setRow_other (by omega), zA_ne (by omega), setRow_in (by omega) (by omega), show j - 0 = j by omega], by rw [zA_ne (by omega), setRow_in (by omega) (by omega), setRow_other (by omega), zA_ne (by omega), show j - 0 = j by omega]⟩) (fun y a c => by rw [show min 20 (max 0 ((0 : Int) - 20 * y)) = 0 by omega]; simp [zA]; rfl) (Nat.lt_succ_self _)

set_option maxHeartbeats 4000000 in
set_option maxRecDepth 100000 in
theorem c_warnInit8 (l : Launch) (S : ab_St) (F : ab_Fn) (A : ab_An) (hS : ab_SC S) (w : Nat) (hw40 : w < 40) (now : Int) (hwO : S (300 + w) = some (sC 9 sl0_X8)) (hfX : S (350 + w) = none) (hfY : S (400 + w) = none) (hfZ : S (450 + w) = none) (hm : 1 ≤ F 8 2 ∧ F 8 2 ≤ 40) (hxy : ∀ k : Int, 0 ≤ k → k < F 8 2 → 0 ≤ A 18 k ∧ A 18 k ≤ 20 ∧ 0 ≤ A 19 k ∧ A 19 k ≤ 14) : ab_Met l yX8_init cX8_init 5 none { frames := 2, cells := 3, slots := 94, locals := 62 } 3 94 [aR (300 + w), aR 8, aI now] S F A (fun v S' F' A' => v = none ∧ S' = (upS (upS (upS (upS S (350 + w) (sA .int (F 8 2).toNat)) (400 + w) (sA .int (F 8 2).toNat)) (450 + w) (sA .int 14)) (300 + w) (sC 9 (slW (350 + w) (400 + w) (450 + w)))) ∧ F' = upF (upF (upF F (300 + w) 2 now) (300 + w) 4 0) (300 + w) 5 0 ∧ (∀ i, i ≠ 350 + w → i ≠ 400 + w → i ≠ 450 + w → A' i = A i) ∧ (∀ k, 0 ≤ k → k < F 8 2 → A' (350 + w) k = A 18 k ∧ A' (400 + w) k = A 19 k) ∧ ∀ y, 0 ≤ y → y < 14 → A' (450 + w) y = wb (wIn (A 18) (A 19) (F 8 2)) y 20) := by
  refine ab_enter (by decide) (by simp [aI, aR, aX, ab_val, Value.category]) (Nat.le_of_ble_eq_true rfl) (fun E C hr => ?_)
  refine j_eq (lv' := [some (aR (300 + w)), some (aR 8), some (aI now), none, none]) ?_
  have he01 : ∀ s, (wIn (A 18) (A 19) (F 8 2)) s = 0 ∨ (wIn (A 18) (A 19) (F 8 2)) s = 1 := fun s => wIn_01
  refine j_aload_n C dX8_init_0 rfl rfl ?_
  refine j_objInit C (fun _ => ⟨_, rfl⟩) (ab_t2 (List.mem_of_getElem? (i := 104) rfl) rfl) (ab_t1 (List.mem_of_getElem? (i := 38) rfl) rfl) (ab_t1 (List.mem_of_getElem? (i := 39) rfl) rfl) (by decide) (fun _ => Nat.le_of_ble_eq_true rfl) dX8_init_1 ?_
  refine j_aload_n C dX8_init_4 rfl rfl ?_
  refine j_get C (aI (F 8 2)) fl_X8_9 ((sC_8 hS)) (fun _ => rfl) dX8_init_5 ?_
  refine j_iconst C dX8_init_8 ?_
  refine j_mmax C (ab_t2 (List.mem_of_getElem? (i := 105) rfl) rfl) ⟨by omega, by omega⟩ ⟨by omega, by omega⟩ (by decide) (fun _ => Nat.le_of_ble_eq_true rfl) ⟨by decide, by decide⟩ dX8_init_9 ?_
  refine j_eq (st' := [aI (F 8 2)]) ?_ (e1 := by first | rfl | (simp only [List.cons.injEq, and_true]; exact congrArg aI ((by omega))))
  refine j_bipush C dX8_init_12 rfl ?_
  refine j_mmin C (ab_t2 (List.mem_of_getElem? (i := 106) rfl) rfl) ⟨by omega, by omega⟩ ⟨by omega, by omega⟩ (by decide) (fun _ => Nat.le_of_ble_eq_true rfl) ⟨by decide, by decide⟩ dX8_init_14 ?_
  refine j_eq (st' := [aI (F 8 2)]) ?_ (e1 := by first | rfl | (simp only [List.cons.injEq, and_true]; exact congrArg aI ((by omega))))
  refine j_istore_n C (lv' := [some (aR (300 + w)), some (aR 8), some (aI now), some (aI (F 8 2)), none]) dX8_init_17 rfl (by decide) rfl ?_
  refine j_aload_n C dX8_init_18 rfl rfl ?_
  refine j_aload_n C dX8_init_19 rfl rfl ?_
  refine j_getR C (j := 18) fl_X8_24 ((sC_8 hS)) rfl dX8_init_20 ?_
  refine j_iload_n C dX8_init_23 rfl rfl ?_
  refine j_callS C (vs := [aR 18, aI (F 8 2)]) (st := [aR (300 + w)]) cl_X8_28 sc_yJ7_copyOf_59c91 (fun _ => (t_copyOf _ S F A 18 (350 + w) 42 _ ((sC_18 hS)) (hfX) (by omega) (by omega) (by omega) (by decide))) rfl ⟨rfl, rfl, by decide, by decide⟩ ⟨by decide, by decide⟩ (fun _ => Nat.le_of_ble_eq_true rfl) (fun v hv => by simp only [List.mem_cons, List.not_mem_nil, or_false] at hv; rcases hv with rfl <;> first | exact (lS (hwO))) (fun v hv => by simp only [List.mem_cons, List.not_mem_nil, or_false, Option.some.injEq, reduceCtorEq, false_or] at hv; rcases hv with rfl | rfl | rfl | rfl <;> first | exact (lS ((sC_8 hS))) | exact (lS (hwO)) | exact trivial) dX8_init_24 (fun v_24 S_24 F_24 A_24 hP_24 => ?_)
  obtain ⟨rfl, rfl, rfl, rfl⟩ := hP_24
  show ab_J E 5 1 40 (upS S (350 + w) (sA .int (F 8 2).toNat)) F (setRow (zA A (350 + w)) (350 + w) 0 (F 8 2) (A 18)) 27 [some (aR (300 + w)), some (aR 8), some (aI now), some (aI (F 8 2)), none] [aR (350 + w), aR (300 + w)]
  refine j_putR C fp_X8_34 (fun _ => rfl) (Or.inr ⟨_, rfl⟩) (((upS_ne (by omega)).trans (hwO))) (lS (upS_at _ _ _)) dX8_init_27 ?_
  refine j_aload_n C dX8_init_30 rfl rfl ?_
  refine j_aload_n C dX8_init_31 rfl rfl ?_
  refine j_getR C (j := 19) fl_X8_37 (((upS_ne (by omega)).trans (((upS_ne (by omega)).trans ((sC_8 hS)))))) rfl dX8_init_32 ?_
  refine j_iload_n C dX8_init_35 rfl rfl ?_
  refine j_callS C (vs := [aR 19, aI (F 8 2)]) (st := [aR (300 + w)]) cl_X8_28 sc_yJ7_copyOf_59c91 (fun _ => (t_copyOf _ (upS (upS S (350 + w) (sA .int (F 8 2).toNat)) (300 + w) (sC 9 (upL sl0_X8 0 (some (some (350 + w)))))) F (setRow (zA A (350 + w)) (350 + w) 0 (F 8 2) (A 18)) 19 (400 + w) 42 _ (((upS_ne (by omega)).trans (((upS_ne (by omega)).trans ((sC_19 hS)))))) (((upS_ne (by omega)).trans (((upS_ne (by omega)).trans (hfY))))) (by omega) (by omega) (by omega) (by decide))) rfl ⟨rfl, rfl, by decide, by decide⟩ ⟨by decide, by decide⟩ (fun _ => Nat.le_of_ble_eq_true rfl) (fun v hv => by simp only [List.mem_cons, List.not_mem_nil, or_false] at hv; rcases hv with rfl <;> first | exact (lS (upS_at _ _ _))) (fun v hv => by simp only [List.mem_cons, List.not_mem_nil, or_false, Option.some.injEq, reduceCtorEq, false_or] at hv; rcases hv with rfl | rfl | rfl | rfl <;> first | exact (lS (((upS_ne (by omega)).trans (((upS_ne (by omega)).trans ((sC_8 hS))))))) | exact (lS (upS_at _ _ _)) | exact trivial) dX8_init_36 (fun v_36 S_36 F_36 A_36 hP_36 => ?_)
  obtain ⟨rfl, rfl, rfl, rfl⟩ := hP_36
  show ab_J E 5 2 80 (upS (upS (upS S (350 + w) (sA .int (F 8 2).toNat)) (300 + w) (sC 9 (upL sl0_X8 0 (some (some (350 + w)))))) (400 + w) (sA .int (F 8 2).toNat)) F (setRow (zA (setRow (zA A (350 + w)) (350 + w) 0 (F 8 2) (A 18)) (400 + w)) (400 + w) 0 (F 8 2) ((setRow (zA A (350 + w)) (350 + w) 0 (F 8 2) (A 18)) 19)) 39 [some (aR (300 + w)), some (aR 8), some (aI now), some (aI (F 8 2)), none] [aR (400 + w), aR (300 + w)]
  refine j_putR C fp_X8_40 (fun _ => rfl) (Or.inr ⟨_, rfl⟩) (((upS_ne (by omega)).trans (upS_at _ _ _))) (lS (upS_at _ _ _)) dX8_init_39 ?_
  refine j_eqS (S' := (upS (upS (upS S (350 + w) (sA .int (F 8 2).toNat)) (400 + w) (sA .int (F 8 2).toNat)) (300 + w) (sC 9 (upL (upL sl0_X8 0 (some (some (350 + w)))) 1 (some (some (400 + w))))))) (upS_mv (by omega)) ?_
  refine j_aload_n C dX8_init_42 rfl rfl ?_
  refine j_iload_n C dX8_init_43 rfl rfl ?_
  refine j_putF C fp_X8_41 rfl (upS_at _ _ _) rfl dX8_init_44 ?_
  refine j_aload_n C dX8_init_47 rfl rfl ?_
  refine j_bipush C dX8_init_48 rfl ?_
  refine j_newa C (atype := .int) (ty := .int) (N := 14) (450 + w) 0 rfl (fun _ => rfl) (fun _ _ h => h) rfl (ab_t1 (List.mem_of_getElem? (i := 71) rfl) rfl) rfl (by decide) (by decide) (((upS_ne (by omega)).trans (((upS_ne (by omega)).trans (((upS_ne (by omega)).trans (hfZ))))))) (by omega) (Nat.le_of_ble_eq_true rfl) (Nat.le_of_ble_eq_true rfl) (fun v hv => by simp only [List.mem_cons, List.not_mem_nil, or_false] at hv; rcases hv with rfl <;> first | exact (lS (upS_at _ _ _))) (fun v hv => by simp only [List.mem_cons, List.not_mem_nil, or_false, Option.some.injEq, reduceCtorEq, false_or] at hv; rcases hv with rfl | rfl | rfl | rfl <;> first | exact (lS (((upS_ne (by omega)).trans (((upS_ne (by omega)).trans (((upS_ne (by omega)).trans ((sC_8 hS))))))))) | exact (lS (upS_at _ _ _)) | exact trivial) dX8_init_50 ?_
  show ab_J E 5 3 94 (upS (upS (upS (upS S (350 + w) (sA .int (F 8 2).toNat)) (400 + w) (sA .int (F 8 2).toNat)) (300 + w) (sC 9 (upL (upL sl0_X8 0 (some (some (350 + w)))) 1 (some (some (400 + w)))))) (450 + w) (sA .int 14)) (upF F (300 + w) 2 now) (zA (setRow (zA (setRow (zA A (350 + w)) (350 + w) 0 (F 8 2) (A 18)) (400 + w)) (400 + w) 0 (F 8 2) ((setRow (zA A (350 + w)) (350 + w) 0 (F 8 2) (A 18)) 19)) (450 + w)) 52 [some (aR (300 + w)), some (aR 8), some (aI now), some (aI (F 8 2)), none] [aR (450 + w), aR (300 + w)]
  refine j_putR C fp_X8_44 (fun _ => rfl) (Or.inr ⟨_, rfl⟩) (((upS_ne (by omega)).trans (upS_at _ _ _))) (lS (upS_at _ _ _)) dX8_init_52 ?_
  refine j_eqS (S' := (upS (upS (upS (upS S (350 + w) (sA .int (F 8 2).toNat)) (400 + w) (sA .int (F 8 2).toNat)) (450 + w) (sA .int 14)) (300 + w) (sC 9 (upL (upL (upL sl0_X8 0 (some (some (350 + w)))) 1 (some (some (400 + w)))) 3 (some (some (450 + w))))))) (upS_mv (by omega)) ?_
  refine j_eqS (S' := (upS (upS (upS (upS S (350 + w) (sA .int (F 8 2).toNat)) (400 + w) (sA .int (F 8 2).toNat)) (450 + w) (sA .int 14)) (300 + w) (sC 9 (slW (350 + w) (400 + w) (450 + w))))) (by funext i; simp only [upS, slW_up]; repeat (first | rfl | omega | split)) ?_
  refine j_aload_n C dX8_init_55 rfl rfl ?_
  refine j_iconst C dX8_init_56 ?_
  refine j_putZ C fp_X8_47 (upS_at _ _ _) rfl (Or.inl rfl) dX8_init_57 ?_
  refine j_aload_n C dX8_init_60 rfl rfl ?_
  refine j_iconst C dX8_init_61 ?_
  refine j_putI C fp_X8_51 (upS_at _ _ _) rfl dX8_init_62 ?_
  refine j_iconst C dX8_init_65 ?_
  refine j_istore C (lv' := [some (aR (300 + w)), some (aR 8), some (aI now), some (aI (F 8 2)), some (aI 0)]) dX8_init_66 (by decide) rfl ?_
  have K68 : ∀ (N : Nat) (k : Int) (B : ab_An), (0 ≤ k ∧ k ≤ 280) → (∀ i, i ≠ 350 + w → i ≠ 400 + w → i ≠ 450 + w → B i = A i) → (∀ j, 0 ≤ j → j < F 8 2 → B (350 + w) j = A 18 j ∧ B (400 + w) j = A 19 j) → (∀ y, 0 ≤ y → y < 14 → B (450 + w) y = wb (wIn (A 18) (A 19) (F 8 2)) y (min 20 (max 0 (k - 20 * y)))) → ((280 - k).toNat) < N → ab_J E 5 3 94 (upS (upS (upS (upS S (350 + w) (sA .int (F 8 2).toNat)) (400 + w) (sA .int (F 8 2).toNat)) (450 + w) (sA .int 14)) (300 + w) (sC 9 (slW (350 + w) (400 + w) (450 + w)))) (upF (upF (upF F (300 + w) 2 now) (300 + w) 4 0) (300 + w) 5 0) B 68 [some (aR (300 + w)), some (aR 8), some (aI now), some (aI (F 8 2)), some (aI k)] [] := by
    intro N
    induction N with
    | zero => intro k B hk hO hX hwb hm; exact absurd hm (Nat.not_lt_zero _)
    | succ N ih =>
      have ih68 := ih
      clear ih
      intro k B hk hO hX hwb hm68
      refine j_iload C dX8_init_68 rfl ?_
      refine j_sipush C dX8_init_70 rfl ?_
      refine j_icmp_ge C (tgt := 119) dX8_init_73 (by decide) ⟨by omega, by omega⟩ ⟨by omega, by omega⟩ (fun c73 => ?_) (fun c73 => ?_)
      · exact j_vret C hr (Nat.le_refl _) (Nat.le_refl _) dX8_init_119 ⟨rfl, rfl, rfl, hO, hX, fun y a c => by rw [hwb y a c, show min 20 (max 0 (k - 20 * y)) = 20 by omega]⟩
      · refine j_aload_n C dX8_init_76 rfl rfl ?_
        refine j_iload C dX8_init_77 rfl ?_
        refine j_bipush C dX8_init_79 rfl ?_
        refine j_irem C dX8_init_81 (by omega) (by omega) (by omega) (by omega) ?_
        refine j_iload C dX8_init_82 rfl ?_
        refine j_bipush C dX8_init_84 rfl ?_
        refine j_idiv C dX8_init_86 (by omega) (by omega) (by omega) (by omega) ?_
        refine j_callV C (vs := [aI (k % 20), aI (k / 20)]) (st := []) cl_X8_54 im_yX8_isWithin se_yX8_isWithin (fun _ => (c_isWithin _ (upS (upS (upS (upS S (350 + w) (sA .int (F 8 2).toNat)) (400 + w) (sA .int (F 8 2).toNat)) (450 + w) (sA .int 14)) (300 + w) (sC 9 (slW (350 + w) (400 + w) (450 + w)))) (upF (upF (upF F (300 + w) 2 now) (300 + w) 4 0) (300 + w) 5 0) B (SC_up (by omega) (SC_up (by omega) (SC_up (by omega) (SC_up (by omega) hS)))) _ _ (upS_at _ _ _) (((upS_ne (by omega)).trans (((upS_ne (by omega)).trans (((upS_ne (by omega)).trans (upS_at _ _ _))))))) (((upS_ne (by omega)).trans (((upS_ne (by omega)).trans (upS_at _ _ _))))) ⟨by omega, by omega⟩ (fun j a c => by have hj : j < F 8 2 := (by omega); rw [(hX j a hj).1, (hX j a hj).2]; exact hxy j a hj) _ _ (by omega) (by omega))) (upS_at _ _ _) rfl rfl rfl ⟨rfl, rfl, by decide, by decide⟩ ⟨by decide, by decide⟩ (fun _ => Nat.le_of_ble_eq_true rfl) (fun v hv => by cases hv) (fun v hv => by simp only [List.mem_cons, List.not_mem_nil, or_false, Option.some.injEq, reduceCtorEq, false_or] at hv; rcases hv with rfl | rfl | rfl | rfl | rfl <;> first | exact (lS (((upS_ne (by omega)).trans (((upS_ne (by omega)).trans (((upS_ne (by omega)).trans (((upS_ne (by omega)).trans ((sC_8 hS))))))))))) | exact (lS (upS_at _ _ _)) | exact trivial) dX8_init_87 (fun v_87 S_87 F_87 A_87 hP_87 => ?_)
        obtain ⟨rfl, rfl, rfl, rfl⟩ := hP_87
        show ab_J E 5 3 94 (upS (upS (upS (upS S (350 + w) (sA .int (F 8 2).toNat)) (400 + w) (sA .int (F 8 2).toNat)) (450 + w) (sA .int 14)) (300 + w) (sC 9 (slW (350 + w) (400 + w) (450 + w)))) (upF (upF (upF F (300 + w) 2 now) (300 + w) 4 0) (300 + w) 5 0) B 90 [some (aR (300 + w)), some (aR 8), some (aI now), some (aI (F 8 2)), some (aI k)] [aI (wIn (B (350 + w)) (B (400 + w)) ((F 8 2).toNat : Nat) (20 * (k / 20) + (k % 20)))]
        have hz90 : wIn (B (350 + w)) (B (400 + w)) ((F 8 2).toNat : Nat) (20 * (k / 20) + k % 20) = (wIn (A 18) (A 19) (F 8 2)) k := by
          rw [show (((F 8 2).toNat : Nat) : Int) = F 8 2 by omega, show 20 * (k / 20) + k % 20 = k by omega]; exact wIn_cong hm.1 hX
        refine j_if_eq C (tgt := 113) dX8_init_90 (by decide) (by rcases wIn_01 (X := B (350 + w)) (Y := B (400 + w)) (n := ((F 8 2).toNat : Nat)) (k := 20 * (k / 20) + k % 20) with q | q <;> rw [q] <;> exact ⟨by decide, by decide⟩) (fun c90 => ?_) (fun c90 => ?_)
        · refine j_iinc C (lv' := [some (aR (300 + w)), some (aR 8), some (aI now), some (aI (F 8 2)), some (aI (k + 1))]) dX8_init_113 rfl (by decide) rfl ?_
          refine j_goto C (tgt := 68) dX8_init_116 (by decide) ?_
          exact ih68 (k + 1) B (by omega) hO hX (fun y a c => by rw [wb_next (by omega) ⟨a, c⟩, ← hz90, c90, hwb y a c]; split <;> omega) (by omega)
        · refine j_aload_n C dX8_init_93 rfl rfl ?_
          refine j_getR C (j := (450 + w)) fl_X8_44 (upS_at _ _ _) rfl dX8_init_94 ?_
          refine j_iload C dX8_init_97 rfl ?_
          refine j_bipush C dX8_init_99 rfl ?_
          refine j_idiv C dX8_init_101 (by omega) (by omega) (by omega) (by omega) ?_
          refine j_dup2 C dX8_init_102 (fun _ => rfl) (fun _ => rfl) ?_
          refine j_iald C (((upS_ne (by omega)).trans (upS_at _ _ _))) (by omega) (by omega) (by decide) dX8_init_103 ?_
          refine j_eq (st' := [aI (wb (wIn (A 18) (A 19) (F 8 2)) (k / 20) (k % 20)), aI (k / 20), aR (450 + w)]) ?_ (e1 := by first | rfl | (simp only [List.cons.injEq, and_true]; exact congrArg aI ((by rw [hwb _ (by omega) (by omega), show min 20 (max 0 (k - 20 * (k / 20))) = k % 20 by omega]))))
          refine j_iconst C dX8_init_104 ?_
          refine j_iload C dX8_init_105 rfl ?_
          refine j_bipush C dX8_init_107 rfl ?_
          refine j_irem C dX8_init_109 (by omega) (by omega) (by omega) (by omega) ?_
          refine j_ishl C dX8_init_110 ?_
          refine j_ior C dX8_init_111 ?_
          refine j_eq (st' := [aI (wb (wIn (A 18) (A 19) (F 8 2)) (k / 20) (k % 20) + 2 ^ (k % 20).toNat), aI (k / 20), aR (450 + w)]) ?_ (e1 := by first | rfl | (simp only [List.cons.injEq, and_true]; exact congrArg aI ((by have q := wb_lt (y := k / 20) he01 (k % 20).toNat; rw [show (((k % 20).toNat : Nat) : Int) = k % 20 by omega] at q; have q2 := or_bit (x := (k % 20).toNat) (by omega) q.1 q.2; rw [show (((k % 20).toNat : Nat) : Int) = k % 20 by omega] at q2; exact q2))))
          refine j_iast C (((upS_ne (by omega)).trans (upS_at _ _ _))) (by omega) (by omega) (by decide) dX8_init_112 ?_
          refine j_iinc C (lv' := [some (aR (300 + w)), some (aR 8), some (aI now), some (aI (F 8 2)), some (aI (k + 1))]) dX8_init_113 rfl (by decide) rfl ?_
          refine j_goto C (tgt := 68) dX8_init_116 (by decide) ?_
          exact ih68 (k + 1) ((upA B (450 + w) (k / 20) (wb (wIn (A 18) (A 19) (F 8 2)) (k / 20) (k % 20) + 2 ^ (k % 20).toNat))) (by omega) (fun i q1 q2 q3 => by rw [upA_other q3]; exact hO i q1 q2 q3) (fun j a c => by rw [upA_other (by omega), upA_other (by omega)]; exact hX j a c) (fun y a c => by rw [wb_next (by omega) ⟨a, c⟩, ← hz90, show wIn (B (350 + w)) (B (400 + w)) ((F 8 2).toNat : Nat) (20 * (k / 20) + k % 20) = 1 by (rcases wIn_01 (X := B (350 + w)) (Y := B (400 + w)) (n := ((F 8 2).toNat : Nat)) (k := 20 * (k / 20) + k % 20) with q | q; exact absurd q c90; exact q)]; exact (if q : y = k / 20 then (by rw [if_pos q, q, upA_at, show min 20 (max 0 (k - 20 * (k / 20))) = k % 20 by omega]; omega) else (by rw [if_neg q, upA_ne q, hwb y a c]; omega))) (by omega)
  exact K68 _ 0 ((zA (setRow (zA (setRow (zA A (350 + w)) (350 + w) 0 (F 8 2) (A 18)) (400 + w)) (400 + w) 0 (F 8 2) ((setRow (zA A (350 + w)) (350 + w) 0 (F 8 2) (A 18)) 19)) (450 + w))) (by omega) (fun i q1 q2 q3 => by rw [zA_ne q3, setRow_other q2, zA_ne q2, setRow_other q1, zA_ne q1]) (fun j a c => ⟨by rw [zA_ne (by omega), setRow_other (by omega), zA_ne (by omega), setRow_in (by omega) (by omega), show j - 0 = j by omega], by rw [zA_ne (by omega), setRow_in (by omega) (by omega), setRow_other (by omega), zA_ne (by omega), show j - 0 = j by omega]⟩) (fun y a c => by rw [show min 20 (max 0 ((0 : Int) - 20 * y)) = 0 by omega]; simp [zA]; rfl) (Nat.lt_succ_self _)
