/-! bytes, and what is written -/
def sb (x : Int) : Int := (x + 128) % 256 - 128
theorem sb_r (x : Int) : -128 ≤ sb x ∧ sb x ≤ 127 := by unfold sb; omega
theorem sb_m (x : Int) : sb x % 256 = x % 256 := by unfold sb; omega
theorem sb_small {x : Int} (h : 0 ≤ x ∧ x ≤ 127) : sb x = x := by unfold sb; omega
theorem sb_bmod (x : Int) : x.bmod 256 = sb x := by
  unfold sb; rw [Int.bmod_def]; split <;> omega
theorem sb_i2b (x : Int) : (Int32.ofInt x).toInt8.toInt32.toInt = sb x := by
  rw [Int8.toInt_toInt32, Int32.toInt_toInt8, Int32.toInt_ofInt]
  rw [Int.bmod_bmod_of_dvd (by decide +kernel)]
  exact sb_bmod x
theorem sb_n (x : Int) : narrow .byte (.int (Int32.ofInt (sb x))) = .int (Int32.ofInt (sb x)) := by
  show Value.int ((Int32.ofInt (sb x)).toInt8.toInt32) = _
  refine congrArg Value.int (Int32.toInt_inj.1 ?_)
  rw [sb_i2b, ab_toInt ⟨by have := sb_r x; omega, by have := sb_r x; omega⟩]
  unfold sb; omega
theorem ab_shr {a : Int} (ha : inR a) (b : Nat) (hb : b < 32) : (Int32.ofInt a >>> (Int32.ofInt (b : Int) &&& 31)).toInt = a / 2 ^ b := by
  have e : ∀ b : Nat, b < 32 → (Int32.ofInt (b : Int) &&& 31 : Int32) = Int32.ofInt (b : Int) ∧ ((Int32.ofInt (b : Int)).toBitVec.smod 32).toNat = b := by decide +kernel
  obtain ⟨e1, e2⟩ := e b hb
  rw [e1]
  show ((Int32.ofInt a).toBitVec.sshiftRight' ((Int32.ofInt (b : Int)).toBitVec.smod 32)).toInt = _
  rw [BitVec.sshiftRight', e2, BitVec.toInt_sshiftRight]
  show (Int32.ofInt a).toInt >>> b = _
  rw [ab_toInt ha, Int.shiftRight_eq_div_pow]
  rfl
/-- one of five -/
def fv (a b c d e j : Int) : Int := if j = 0 then a else if j = 1 then b else if j = 2 then c else if j = 3 then d else e
/-- byte k of five ints -/
def fb (a b c d e k : Int) : Int := fv a b c d e (k / 4) / 2 ^ (24 - 8 * (k % 4)).toNat
theorem fv_r {a b c d e j : Int} (h1 : inR a) (h2 : inR b) (h3 : inR c) (h4 : inR d) (h5 : inR e) : inR (fv a b c d e j) := by
  unfold fv; repeat' split
  all_goals assumption
/-- the row i has the bytes L in its first t places -/
def tp (A : ab_An) (i : Nat) (t : Int) (L : List Int) : Prop := t = (L.length : Nat) ∧ ∀ k : Nat, k < L.length → A i k = L.getD k 0
theorem tp_0 {A : ab_An} {i : Nat} : tp A i 0 [] := ⟨rfl, fun k h => by cases h⟩
theorem tp_put {A : ab_An} {i : Nat} {t c : Int} {L : List Int} (h : tp A i t L) : tp (upA A i t c) i (t + 1) (L ++ [c]) := by
  obtain ⟨h1, h2⟩ := h
  refine ⟨by rw [List.length_append, h1]; simp, fun k hk => ?_⟩
  rw [List.length_append] at hk
  have hk : k < L.length + 1 := hk
  by_cases e : k = L.length
  · rw [h1, e, upA_at, List.getD_eq_getElem?_getD, List.getElem?_append_right (Nat.le_refl _), Nat.sub_self]; rfl
  · rw [upA_ne (by omega), h2 k (by omega), List.getD_eq_getElem?_getD, List.getD_eq_getElem?_getD, List.getElem?_append_left (by omega)]
/-- a number's digits -/
def nu (v : Int) : List Int := if 9 < v then [48 + v / 10, 48 + v % 10] else [48 + v % 10]
theorem nu_len (v : Int) : 1 ≤ (nu v).length ∧ (nu v).length ≤ 2 := by unfold nu; split <;> simp
theorem nu_one {v : Int} (h : ¬ 9 < v) : nu v = [48 + v % 10] := if_neg h
theorem nu_two {v : Int} (h : 9 < v) : nu v = [48 + v / 10, 48 + v % 10] := if_pos h
/-- what is written of the first k corners -/
def wpre (X Y : Int → Int) : Nat → List Int
  | 0 => [114, 105, 110, 103, 32]
  | k + 1 => (if k = 0 then wpre X Y k else wpre X Y k ++ [44]) ++ nu (X k) ++ [32] ++ nu (Y k)
theorem wpre_len (X Y : Int → Int) : ∀ k, (wpre X Y k).length ≤ 5 + 6 * k
  | 0 => Nat.le_refl 5
  | k + 1 => by
    have h1 := wpre_len X Y k
    have h2 := nu_len (X k)
    have h3 := nu_len (Y k)
    simp only [wpre]
    split
    · simp only [List.length_append, List.length_cons, List.length_nil]; omega
    · simp only [List.length_append, List.length_cons, List.length_nil]; omega
theorem wpre_s {X Y : Int → Int} {k : Int} (h : 0 < k) : wpre X Y (k + 1).toNat = wpre X Y k.toNat ++ [44] ++ nu (X k) ++ [32] ++ nu (Y k) := by
  have e : (k + 1).toNat = k.toNat + 1 := by omega
  have e2 : ((k.toNat : Nat) : Int) = k := by omega
  rw [e]; simp only [wpre]; rw [e2, if_neg (by omega)]
theorem wpre_1 {X Y : Int → Int} : wpre X Y 1 = wpre X Y 0 ++ nu (X 0) ++ [32] ++ nu (Y 0) := rfl
/-- the text of a warning -/
def wtx (X Y : Int → Int) (n : Int) : List Int := wpre X Y n.toNat ++ [32, 101, 110, 100]
theorem upF_self {F : ab_Fn} {i k : Nat} : F = upF F i k (F i k) := by
  funext i' k'
  by_cases h : i' = i
  · subst h
    by_cases h2 : k' = k
    · subst h2; simp [upF]
    · simp [upF, h2]
  · simp [upF, h]
theorem txs {j : Nat} {k : Int} (h0 : 0 ≤ k) (h1 : k < ((ab_tx j).length : Nat)) : (ab_tx j).take k.toNat ++ [(ab_tx j).getD k.toNat 0] = (ab_tx j).take (k + 1).toNat := by
  have hl : k.toNat < (ab_tx j).length := by omega
  rw [show (k + 1).toNat = k.toNat + 1 by omega, List.take_add_one, List.getElem?_eq_getElem hl, List.getD_eq_getElem?_getD, List.getElem?_eq_getElem hl]
  rfl
theorem ab_and255m (a : Int) : (Int32.ofInt a &&& Int32.ofInt 255).toInt = a % 256 := by
  have e : (Int32.ofInt a &&& Int32.ofInt 255) = Int32.ofInt (a % 256) := by
    apply Int32.toBitVec_inj.mp
    show BitVec.ofInt 32 a &&& BitVec.ofInt 32 255 = BitVec.ofInt 32 (a % 256)
    apply BitVec.eq_of_toNat_eq
    rw [BitVec.toNat_and, show (BitVec.ofInt 32 255).toNat = 2 ^ 8 - 1 from rfl, Nat.and_two_pow_sub_one_eq_mod, BitVec.toNat_ofInt, BitVec.toNat_ofInt]
    omega
  rw [e, ab_toInt ⟨by omega, by omega⟩]

set_option maxHeartbeats 4000000 in
set_option maxRecDepth 100000 in
theorem m_feed (l : Launch) (S : ab_St) (F : ab_Fn) (A : ab_An) (hS : ab_SM S) (a b c d e : Int) (ra : inR a) (rb : inR b) (rc : inR c) (rd : inR d) (re : inR e) (ht : 0 ≤ F 100 26 ∧ F 100 26 ≤ 400) : ab_Met l yX10_feed cX10_feed 7 (some .int) { frames := 0, cells := 0, slots := 0, locals := 0 } 0 0 [aR 100, aI a, aI b, aI c, aI d, aI e] S F A (fun v S' F' A' => S = S' ∧ ((v = some (aI (-1)) ∧ 400 < F 100 26 + 20 ∧ F' = upF F 100 0 0 ∧ A = A') ∨ (v = some (aI (F 100 26 + 20)) ∧ F 100 26 + 20 ≤ 400 ∧ F' = upF (upF F 100 0 0) 100 26 (F 100 26 + 20) ∧ A' = setRow (upA (upA (upA (upA (upA A 127 0 a) 127 1 b) 127 2 c) 127 3 d) 127 4 e) 125 (F 100 26) 20 (fun x => sb (fb a b c d e x))))) := by
  refine ab_enter (by decide) (by simp [aI, aR, aX, ab_val, Value.category]) (Nat.le_of_ble_eq_true rfl) (fun E C hr => ?_)
  refine j_eq (lv' := [some (aR 100), some (aI a), some (aI b), some (aI c), some (aI d), some (aI e), none]) ?_
  refine j_aload_n C dX10_feed_0 rfl rfl ?_
  refine j_iconst C dX10_feed_1 ?_
  refine j_putI C fp_X10_3 (sM_100 hS) rfl dX10_feed_2 ?_
  refine j_aload_n C dX10_feed_5 rfl rfl ?_
  refine j_get C (aI (F 100 26)) fl_X10_178 (sM_100 hS) (fun _ => rfl) dX10_feed_6 ?_
  refine j_bipush C dX10_feed_9 rfl ?_
  refine j_iadd C dX10_feed_11 ?_
  refine j_sipush C dX10_feed_12 rfl ?_
  refine j_icmp_le C (tgt := 20) dX10_feed_15 (by decide) ⟨by omega, by omega⟩ ⟨by omega, by omega⟩ (fun c15 => ?_) (fun c15 => ?_)
  · refine j_aload_n C dX10_feed_20 rfl rfl ?_
    refine j_getR C (j := 127) fl_X10_76 (sM_100 hS) rfl dX10_feed_21 ?_
    refine j_iconst C dX10_feed_24 ?_
    refine j_iload_n C dX10_feed_25 rfl rfl ?_
    refine j_iast C (sM_127 hS) (by omega) (by omega) (by decide) dX10_feed_26 ?_
    refine j_aload_n C dX10_feed_27 rfl rfl ?_
    refine j_getR C (j := 127) fl_X10_76 (sM_100 hS) rfl dX10_feed_28 ?_
    refine j_iconst C dX10_feed_31 ?_
    refine j_iload_n C dX10_feed_32 rfl rfl ?_
    refine j_iast C (sM_127 hS) (by omega) (by omega) (by decide) dX10_feed_33 ?_
    refine j_aload_n C dX10_feed_34 rfl rfl ?_
    refine j_getR C (j := 127) fl_X10_76 (sM_100 hS) rfl dX10_feed_35 ?_
    refine j_iconst C dX10_feed_38 ?_
    refine j_iload_n C dX10_feed_39 rfl rfl ?_
    refine j_iast C (sM_127 hS) (by omega) (by omega) (by decide) dX10_feed_40 ?_
    refine j_aload_n C dX10_feed_41 rfl rfl ?_
    refine j_getR C (j := 127) fl_X10_76 (sM_100 hS) rfl dX10_feed_42 ?_
    refine j_iconst C dX10_feed_45 ?_
    refine j_iload C dX10_feed_46 rfl ?_
    refine j_iast C (sM_127 hS) (by omega) (by omega) (by decide) dX10_feed_48 ?_
    refine j_aload_n C dX10_feed_49 rfl rfl ?_
    refine j_getR C (j := 127) fl_X10_76 (sM_100 hS) rfl dX10_feed_50 ?_
    refine j_iconst C dX10_feed_53 ?_
    refine j_iload C dX10_feed_54 rfl ?_
    refine j_iast C (sM_127 hS) (by omega) (by omega) (by decide) dX10_feed_56 ?_
    refine j_iconst C dX10_feed_57 ?_
    refine j_istore C (lv' := [some (aR 100), some (aI a), some (aI b), some (aI c), some (aI d), some (aI e), some (aI 0)]) dX10_feed_58 (by decide) rfl ?_
    have K60 : ∀ (N : Nat) (k : Int), (0 ≤ k ∧ k ≤ 20) → ((20 - k).toNat) < N → ab_J E 7 0 0 S (upF F 100 0 0) (setRow (upA (upA (upA (upA (upA A 127 0 a) 127 1 b) 127 2 c) 127 3 d) 127 4 e) 125 (F 100 26) k (fun x => sb (fb a b c d e x))) 60 [some (aR 100), some (aI a), some (aI b), some (aI c), some (aI d), some (aI e), some (aI k)] [] := by
      intro N
      induction N with
      | zero => intro k hk hm; exact absurd hm (Nat.not_lt_zero _)
      | succ N ih =>
        have ih60 := ih
        clear ih
        intro k hk hm60
        refine j_iload C dX10_feed_60 rfl ?_
        refine j_bipush C dX10_feed_62 rfl ?_
        refine j_icmp_ge C (tgt := 106) dX10_feed_64 (by decide) ⟨by omega, by omega⟩ ⟨by omega, by omega⟩ (fun c64 => ?_) (fun c64 => ?_)
        · refine j_aload_n C dX10_feed_106 rfl rfl ?_
          refine j_dup C dX10_feed_107 (fun _ => rfl) ?_
          refine j_get C (aI (F 100 26)) fl_X10_178 (sM_100 hS) (fun _ => rfl) dX10_feed_108 ?_
          refine j_bipush C dX10_feed_111 rfl ?_
          refine j_iadd C dX10_feed_113 ?_
          refine j_putI C fp_X10_178 (sM_100 hS) rfl dX10_feed_114 ?_
          refine j_aload_n C dX10_feed_117 rfl rfl ?_
          refine j_get C (aI ((F 100 26) + 20)) fl_X10_178 (sM_100 hS) (fun _ => rfl) dX10_feed_118 ?_
          exact j_iret C hr (Nat.le_refl _) (Nat.le_refl _) dX10_feed_121 ⟨rfl, Or.inr ⟨rfl, by omega, rfl, by have e : k = 20 := (by omega); rw [e]⟩⟩
        · have hfv : (setRow (upA (upA (upA (upA (upA A 127 0 a) 127 1 b) 127 2 c) 127 3 d) 127 4 e) 125 (F 100 26) k (fun x => sb (fb a b c d e x))) 127 (k / 4) = fv a b c d e (k / 4) := by
            rw [setRow_other (by decide)]; unfold fv
            rcases (show k / 4 = 0 ∨ k / 4 = 1 ∨ k / 4 = 2 ∨ k / 4 = 3 ∨ k / 4 = 4 by omega) with q | q | q | q | q <;> rw [q] <;> simp [upA]
          have hsh : (Int32.ofInt (fv a b c d e (k / 4)) >>> (Int32.ofInt (24 - (8 * (k % 4))) &&& 31)).toInt = fv a b c d e (k / 4) / 2 ^ (24 - 8 * (k % 4)).toNat := by
            rw [← ab_shr (fv_r ra rb rc rd re) (24 - 8 * (k % 4)).toNat (by omega), show (((24 - 8 * (k % 4)).toNat : Nat) : Int) = 24 - 8 * (k % 4) by omega]
          refine j_aload_n C dX10_feed_67 rfl rfl ?_
          refine j_getR C (j := 125) fl_X10_72 (sM_100 hS) rfl dX10_feed_68 ?_
          refine j_aload_n C dX10_feed_71 rfl rfl ?_
          refine j_get C (aI (F 100 26)) fl_X10_178 (sM_100 hS) (fun _ => rfl) dX10_feed_72 ?_
          refine j_iload C dX10_feed_75 rfl ?_
          refine j_iadd C dX10_feed_77 ?_
          refine j_aload_n C dX10_feed_78 rfl rfl ?_
          refine j_getR C (j := 127) fl_X10_76 (sM_100 hS) rfl dX10_feed_79 ?_
          refine j_iload C dX10_feed_82 rfl ?_
          refine j_iconst C dX10_feed_84 ?_
          refine j_idiv C dX10_feed_85 (by omega) (by omega) (by omega) (by omega) ?_
          refine j_iald C (sM_127 hS) (by omega) (by omega) (by decide) dX10_feed_86 ?_
          refine j_eq (st' := [aI (fv a b c d e (k / 4)), aI ((F 100 26) + k), aR 125]) ?_ (e1 := by first | rfl | (simp only [List.cons.injEq, and_true]; exact congrArg aI (hfv)))
          refine j_bipush C dX10_feed_87 rfl ?_
          refine j_bipush C dX10_feed_89 rfl ?_
          refine j_iload C dX10_feed_91 rfl ?_
          refine j_iconst C dX10_feed_93 ?_
          refine j_irem C dX10_feed_94 (by omega) (by omega) (by omega) (by omega) ?_
          refine j_imul C dX10_feed_95 ?_
          refine j_isub C dX10_feed_96 ?_
          refine j_ishr C dX10_feed_97 ?_
          refine j_eq (st' := [aI (fv a b c d e (k / 4) / 2 ^ (24 - 8 * (k % 4)).toNat), aI ((F 100 26) + k), aR 125]) ?_ (e1 := by first | rfl | (simp only [List.cons.injEq, and_true]; exact congrArg aI (hsh)))
          refine j_i2b C dX10_feed_98 ?_
          refine j_eq (st' := [aI (sb (fb a b c d e k)), aI ((F 100 26) + k), aR 125]) ?_ (e1 := by first | rfl | (simp only [List.cons.injEq, and_true]; exact congrArg aI (sb_i2b _)))
          refine j_bast C (sM_125 hS) (by omega) (by omega) (by decide) (sb_n _) dX10_feed_99 ?_
          refine j_iinc C (lv' := [some (aR 100), some (aI a), some (aI b), some (aI c), some (aI d), some (aI e), some (aI (k + 1))]) dX10_feed_100 rfl (by decide) rfl ?_
          refine j_goto C (tgt := 60) dX10_feed_103 (by decide) ?_
          refine j_eq (A' := (setRow (upA (upA (upA (upA (upA A 127 0 a) 127 1 b) 127 2 c) 127 3 d) 127 4 e) 125 (F 100 26) (k + 1) (fun x => sb (fb a b c d e x)))) ?_ (e4 := (setRow_up (by omega) rfl rfl))
          exact ih60 (k + 1) (by omega) (by omega)
    refine j_eq (A' := (setRow (upA (upA (upA (upA (upA A 127 0 a) 127 1 b) 127 2 c) 127 3 d) 127 4 e) 125 (F 100 26) 0 (fun x => sb (fb a b c d e x)))) ?_ (e4 := (setRow_0 _ _ _ _))
    exact K60 _ 0 (by omega) (Nat.lt_succ_self _)
  · refine j_iconst C dX10_feed_18 ?_
    exact j_iret C hr (Nat.le_refl _) (Nat.le_refl _) dX10_feed_19 ⟨rfl, Or.inl ⟨rfl, by omega, rfl, rfl⟩⟩

set_option maxHeartbeats 4000000 in
set_option maxRecDepth 100000 in
theorem m_put (l : Launch) (S : ab_St) (F : ab_Fn) (A : ab_An) (hS : ab_SM S) (c : Int) (ht : 0 ≤ F 100 26 ∧ F 100 26 < 400) : ab_Met l yX10_put cX10_put 2 none { frames := 0, cells := 0, slots := 0, locals := 0 } 0 0 [aR 100, aI c] S F A (fun v S' F' A' => S = S' ∧ v = none ∧ F' = upF F 100 26 (F 100 26 + 1) ∧ A' = upA A 125 (F 100 26) (sb c)) := by
  refine ab_enter (by decide) (by simp [aI, aR, aX, ab_val, Value.category]) (Nat.le_of_ble_eq_true rfl) (fun E C hr => ?_)
  refine j_eq (lv' := [some (aR 100), some (aI c)]) ?_
  refine j_aload_n C dX10_put_0 rfl rfl ?_
  refine j_getR C (j := 125) fl_X10_72 (sM_100 hS) rfl dX10_put_1 ?_
  refine j_aload_n C dX10_put_4 rfl rfl ?_
  refine j_get C (aI (F 100 26)) fl_X10_178 (sM_100 hS) (fun _ => rfl) dX10_put_5 ?_
  refine j_iload_n C dX10_put_8 rfl rfl ?_
  refine j_i2b C dX10_put_9 ?_
  refine j_eq (st' := [aI (sb c), aI (F 100 26), aR 125]) ?_ (e1 := by first | rfl | (simp only [List.cons.injEq, and_true]; exact congrArg aI (sb_i2b _)))
  refine j_bast C (sM_125 hS) (by omega) (by omega) (by decide) (sb_n _) dX10_put_10 ?_
  refine j_aload_n C dX10_put_11 rfl rfl ?_
  refine j_dup C dX10_put_12 (fun _ => rfl) ?_
  refine j_get C (aI (F 100 26)) fl_X10_178 (sM_100 hS) (fun _ => rfl) dX10_put_13 ?_
  refine j_iconst C dX10_put_16 ?_
  refine j_iadd C dX10_put_17 ?_
  refine j_putI C fp_X10_178 (sM_100 hS) rfl dX10_put_18 ?_
  exact j_vret C hr (Nat.le_refl _) (Nat.le_refl _) dX10_put_21 ⟨rfl, rfl, rfl, rfl⟩

set_option maxHeartbeats 4000000 in
set_option maxRecDepth 100000 in
theorem m_putNumber (l : Launch) (S : ab_St) (F : ab_Fn) (A : ab_An) (hS : ab_SM S) (v0 : Int) (L : List Int) (h0 : 0 ≤ v0 ∧ v0 ≤ 99) (hL : tp A 125 (F 100 26) L) (h1 : L.length + 2 ≤ 400) : ab_Met l yX10_putNumber cX10_putNumber 2 none { frames := 1, cells := 0, slots := 0, locals := 21 } 0 0 [aR 100, aI v0] S F A (fun v S' F' A' => S = S' ∧ v = none ∧ ∃ t : Int, F' = upF F 100 26 t ∧ (∀ j, j ≠ 125 → A' j = A j) ∧ tp A' 125 t (L ++ nu v0)) := by
  refine ab_enter (by decide) (by simp [aI, aR, aX, ab_val, Value.category]) (Nat.le_of_ble_eq_true rfl) (fun E C hr => ?_)
  refine j_eq (lv' := [some (aR 100), some (aI v0)]) ?_
  have hl := hL.1
  refine j_iload_n C dX10_putNumber_0 rfl rfl ?_
  refine j_bipush C dX10_putNumber_1 rfl ?_
  refine j_icmp_le C (tgt := 17) dX10_putNumber_3 (by decide) ⟨by omega, by omega⟩ ⟨by omega, by omega⟩ (fun c3 => ?_) (fun c3 => ?_)
  · refine j_aload_n C dX10_putNumber_17 rfl rfl ?_
    refine j_bipush C dX10_putNumber_18 rfl ?_
    refine j_iload_n C dX10_putNumber_20 rfl rfl ?_
    refine j_bipush C dX10_putNumber_21 rfl ?_
    refine j_irem C dX10_putNumber_23 (by omega) (by omega) (by omega) (by omega) ?_
    refine j_iadd C dX10_putNumber_24 ?_
    refine j_callV C (vs := [aI (48 + (v0 % 10))]) (st := []) cl_X10_229 im_yX10_put se_yX10_put (fun _ => m_put _ S F A hS _ (by show 0 ≤ F 100 26 ∧ F 100 26 < 400; omega)) (sM_100 hS) rfl rfl rfl ⟨rfl, rfl, by decide, by decide⟩ ⟨by decide, by decide⟩ (fun _ => Nat.le_of_ble_eq_true rfl) (fun v hv => by cases hv) (fun v hv => by simp only [List.mem_cons, List.not_mem_nil, or_false, Option.some.injEq, reduceCtorEq, false_or] at hv; rcases hv with rfl | rfl <;> first | exact (lM_100 hS) | exact trivial) dX10_putNumber_25 (fun v_25 S_25 F_25 A_25 hP_25 => ?_)
    obtain ⟨rfl, rfl, rfl, rfl⟩ := hP_25
    show ab_J E 2 0 0 S (upF F 100 26 (F 100 26 + 1)) (upA A 125 (F 100 26) (sb (48 + (v0 % 10)))) 28 [some (aR 100), some (aI v0)] []
    exact j_vret C hr (Nat.le_refl _) (Nat.le_refl _) dX10_putNumber_28 ⟨rfl, rfl, _, rfl, fun j hj => by rw [upA_other hj], by rw [nu_one (by omega), sb_small (by omega)]; exact tp_put hL⟩
  · refine j_aload_n C dX10_putNumber_6 rfl rfl ?_
    refine j_bipush C dX10_putNumber_7 rfl ?_
    refine j_iload_n C dX10_putNumber_9 rfl rfl ?_
    refine j_bipush C dX10_putNumber_10 rfl ?_
    refine j_idiv C dX10_putNumber_12 (by omega) (by omega) (by omega) (by omega) ?_
    refine j_iadd C dX10_putNumber_13 ?_
    refine j_callV C (vs := [aI (48 + (v0 / 10))]) (st := []) cl_X10_229 im_yX10_put se_yX10_put (fun _ => m_put _ S F A hS _ (by show 0 ≤ F 100 26 ∧ F 100 26 < 400; omega)) (sM_100 hS) rfl rfl rfl ⟨rfl, rfl, by decide, by decide⟩ ⟨by decide, by decide⟩ (fun _ => Nat.le_of_ble_eq_true rfl) (fun v hv => by cases hv) (fun v hv => by simp only [List.mem_cons, List.not_mem_nil, or_false, Option.some.injEq, reduceCtorEq, false_or] at hv; rcases hv with rfl | rfl <;> first | exact (lM_100 hS) | exact trivial) dX10_putNumber_14 (fun v_14 S_14 F_14 A_14 hP_14 => ?_)
    obtain ⟨rfl, rfl, rfl, rfl⟩ := hP_14
    show ab_J E 2 0 0 S (upF F 100 26 (F 100 26 + 1)) (upA A 125 (F 100 26) (sb (48 + (v0 / 10)))) 17 [some (aR 100), some (aI v0)] []
    refine j_aload_n C dX10_putNumber_17 rfl rfl ?_
    refine j_bipush C dX10_putNumber_18 rfl ?_
    refine j_iload_n C dX10_putNumber_20 rfl rfl ?_
    refine j_bipush C dX10_putNumber_21 rfl ?_
    refine j_irem C dX10_putNumber_23 (by omega) (by omega) (by omega) (by omega) ?_
    refine j_iadd C dX10_putNumber_24 ?_
    refine j_callV C (vs := [aI (48 + (v0 % 10))]) (st := []) cl_X10_229 im_yX10_put se_yX10_put (fun _ => m_put _ S (upF F 100 26 (F 100 26 + 1)) (upA A 125 (F 100 26) (sb (48 + (v0 / 10)))) hS _ (by show 0 ≤ F 100 26 + 1 ∧ F 100 26 + 1 < 400; omega)) (sM_100 hS) rfl rfl rfl ⟨rfl, rfl, by decide, by decide⟩ ⟨by decide, by decide⟩ (fun _ => Nat.le_of_ble_eq_true rfl) (fun v hv => by cases hv) (fun v hv => by simp only [List.mem_cons, List.not_mem_nil, or_false, Option.some.injEq, reduceCtorEq, false_or] at hv; rcases hv with rfl | rfl <;> first | exact (lM_100 hS) | exact trivial) dX10_putNumber_25 (fun v_25 S_25 F_25 A_25 hP_25 => ?_)
    obtain ⟨rfl, rfl, rfl, rfl⟩ := hP_25
    show ab_J E 2 0 0 S (upF (upF F 100 26 (F 100 26 + 1)) 100 26 (F 100 26 + 1 + 1)) (upA (upA A 125 (F 100 26) (sb (48 + (v0 / 10)))) 125 (F 100 26 + 1) (sb (48 + (v0 % 10)))) 28 [some (aR 100), some (aI v0)] []
    exact j_vret C hr (Nat.le_refl _) (Nat.le_refl _) dX10_putNumber_28 ⟨rfl, rfl, _, upF_up _ _ _ _ _, fun j hj => by rw [upA_other hj, upA_other hj], by rw [nu_two (by omega), sb_small (by omega), sb_small (by omega)]; have q := tp_put (c := 48 + v0 % 10) (tp_put (c := 48 + v0 / 10) hL); rw [List.append_assoc] at q; exact q⟩

set_option maxHeartbeats 4000000 in
set_option maxRecDepth 100000 in
theorem m_putText (l : Launch) (S : ab_St) (F : ab_Fn) (A : ab_An) (hS : ab_SM S) (j : Nat) (L : List Int) (hj : j < 8) (hL : tp A 125 (F 100 26) L) (h1 : L.length + 5 ≤ 400) : ab_Met l yX10_putText cX10_putText 3 none { frames := 5, cells := 0, slots := 0, locals := 106 } 0 0 [aR 100, aR (1000000 + j)] S F A (fun v S' F' A' => S = S' ∧ v = none ∧ ∃ t : Int, F' = upF F 100 26 t ∧ (∀ j, j ≠ 125 → A' j = A j) ∧ tp A' 125 t (L ++ ab_tx j)) := by
  refine ab_enter (by decide) (by simp [aI, aR, aX, ab_val, Value.category]) (Nat.le_of_ble_eq_true rfl) (fun E C hr => ?_)
  refine j_eq (lv' := [some (aR 100), some (aR (1000000 + j)), none]) ?_
  have hl := ab_txl j hj
  refine j_iconst C dX10_putText_0 ?_
  refine j_istore_n C (lv' := [some (aR 100), some (aR (1000000 + j)), some (aI 0)]) dX10_putText_1 rfl (by decide) rfl ?_
  have K2 : ∀ (N : Nat) (k t : Int) (B : ab_An), (0 ≤ k ∧ k ≤ ((ab_tx j).length : Nat)) → (∀ i, i ≠ 125 → B i = A i) → (tp B 125 t (L ++ (ab_tx j).take k.toNat)) → (((ab_tx j).length - k).toNat) < N → ab_J E 3 0 0 S (upF F 100 26 t) B 2 [some (aR 100), some (aR (1000000 + j)), some (aI k)] [] := by
    intro N
    induction N with
    | zero => intro k t B hk hO ht hm; exact absurd hm (Nat.not_lt_zero _)
    | succ N ih =>
      have ih2 := ih
      clear ih
      intro k t B hk hO ht hm2
      refine j_iload_n C dX10_putText_2 rfl rfl ?_
      refine j_aload_n C dX10_putText_3 rfl rfl ?_
      refine j_callT C j (by omega) (vs := []) (st := [aI k]) cl_X10_196 im_yJ0_length_8abf5 se_yJ0_length_8abf5 (fun _ => (t_length _ S (upF F 100 26 t) B _ (by omega))) rfl rfl ⟨rfl, rfl, by decide, by decide⟩ ⟨by decide, by decide⟩ (fun _ => Nat.le_of_ble_eq_true rfl) (fun v hv => by simp only [List.mem_cons, List.not_mem_nil, or_false] at hv; rcases hv with rfl <;> first | exact trivial) (fun v hv => by simp only [List.mem_cons, List.not_mem_nil, or_false, Option.some.injEq, reduceCtorEq, false_or] at hv; rcases hv with rfl | rfl | rfl <;> first | exact (lK (by omega)) | exact (lM_100 hS) | exact trivial) dX10_putText_4 (fun v_4 S_4 F_4 A_4 hP_4 => ?_)
      obtain ⟨rfl, rfl, rfl, rfl⟩ := hP_4
      show ab_J E 3 0 0 S (upF F 100 26 t) B 7 [some (aR 100), some (aR (1000000 + j)), some (aI k)] [aI ((ab_tx j).length : Nat), aI k]
      have hl9 : t ≤ 395 + k := by have := ht.1; rw [List.length_append, List.length_take] at this; omega
      have hl8 : 0 ≤ t := by have := ht.1; omega
      refine j_icmp_ge C (tgt := 25) dX10_putText_7 (by decide) ⟨by omega, by omega⟩ ⟨by omega, by omega⟩ (fun c7 => ?_) (fun c7 => ?_)
      · exact j_vret C hr (Nat.le_refl _) (Nat.le_refl _) dX10_putText_25 ⟨rfl, rfl, _, rfl, hO, by rw [show k.toNat = (ab_tx j).length by omega, List.take_length] at ht; exact ht⟩
      · have hg := ab_txg hj hk.1 (by omega)
        refine j_aload_n C dX10_putText_10 rfl rfl ?_
        refine j_aload_n C dX10_putText_11 rfl rfl ?_
        refine j_iload_n C dX10_putText_12 rfl rfl ?_
        refine j_callT C j (by omega) (vs := [aI k]) (st := [aR 100]) cl_X10_202 im_yJ0_charAt_5068e se_yJ0_charAt_5068e (fun _ => (t_charAt _ S (upF F 100 26 t) B _ (by omega) _ (by omega) (by omega))) rfl rfl ⟨rfl, rfl, by decide, by decide⟩ ⟨by decide, by decide⟩ (fun _ => Nat.le_of_ble_eq_true rfl) (fun v hv => by simp only [List.mem_cons, List.not_mem_nil, or_false] at hv; rcases hv with rfl <;> first | exact (lM_100 hS)) (fun v hv => by simp only [List.mem_cons, List.not_mem_nil, or_false, Option.some.injEq, reduceCtorEq, false_or] at hv; rcases hv with rfl | rfl | rfl <;> first | exact (lK (by omega)) | exact (lM_100 hS) | exact trivial) dX10_putText_13 (fun v_13 S_13 F_13 A_13 hP_13 => ?_)
        obtain ⟨rfl, rfl, rfl, rfl⟩ := hP_13
        show ab_J E 3 0 0 S (upF F 100 26 t) B 16 [some (aR 100), some (aR (1000000 + j)), some (aI k)] [aI ((ab_tx j).getD (k).toNat 0), aR 100]
        refine j_callV C (vs := [aI ((ab_tx j).getD (k).toNat 0)]) (st := []) cl_X10_229 im_yX10_put se_yX10_put (fun _ => m_put _ S (upF F 100 26 t) B hS _ (by show 0 ≤ t ∧ t < 400; omega)) (sM_100 hS) rfl rfl rfl ⟨rfl, rfl, by decide, by decide⟩ ⟨by decide, by decide⟩ (fun _ => Nat.le_of_ble_eq_true rfl) (fun v hv => by cases hv) (fun v hv => by simp only [List.mem_cons, List.not_mem_nil, or_false, Option.some.injEq, reduceCtorEq, false_or] at hv; rcases hv with rfl | rfl | rfl <;> first | exact (lK (by omega)) | exact (lM_100 hS) | exact trivial) dX10_putText_16 (fun v_16 S_16 F_16 A_16 hP_16 => ?_)
        obtain ⟨rfl, rfl, rfl, rfl⟩ := hP_16
        show ab_J E 3 0 0 S (upF (upF F 100 26 t) 100 26 (t + 1)) (upA B 125 t (sb ((ab_tx j).getD (k).toNat 0))) 19 [some (aR 100), some (aR (1000000 + j)), some (aI k)] []
        refine j_iinc C (lv' := [some (aR 100), some (aR (1000000 + j)), some (aI (k + 1))]) dX10_putText_19 rfl (by decide) rfl ?_
        refine j_goto C (tgt := 2) dX10_putText_22 (by decide) ?_
        refine j_eq (F' := (upF F 100 26 (t + 1))) ?_ (e3 := (upF_up _ _ _ _ _))
        exact ih2 (k + 1) (t + 1) ((upA B 125 t (sb ((ab_tx j).getD (k).toNat 0)))) (by omega) (fun i q => by rw [upA_other q]; exact hO i q) (by rw [sb_small hg]; have q := tp_put (c := (ab_tx j).getD (k).toNat 0) ht; rw [List.append_assoc, txs hk.1 (by omega)] at q; exact q) (by omega)
  refine j_eq (F' := (upF F 100 26 (F 100 26))) ?_ (e3 := upF_self)
  exact K2 _ 0 (F 100 26) A (by omega) (fun _ _ => rfl) (by rw [show (0 : Int).toNat = 0 from rfl, List.take_zero, List.append_nil]; exact hL) (Nat.lt_succ_self _)

set_option maxHeartbeats 4000000 in
set_option maxRecDepth 100000 in
theorem m_write (l : Launch) (S : ab_St) (F : ab_Fn) (A : ab_An) (hS : ab_SM S) (w : Int) (rw0 : inR w) (hb : 0 ≤ F 100 18 ∧ F 100 18 ≤ 40) (hv : ∀ w, 0 ≤ w → w < F 100 18 → (1 ≤ A 115 w ∧ A 115 w ≤ 40) ∧ ∀ k, 0 ≤ k → k < A 115 w → 0 ≤ A 113 (40 * w + k) ∧ A 113 (40 * w + k) ≤ 20 ∧ 0 ≤ A 114 (40 * w + k) ∧ A 114 (40 * w + k) ≤ 14) : ab_Met l yX10_write cX10_write 3 (some .int) { frames := 6, cells := 0, slots := 0, locals := 128 } 0 0 [aR 100, aI w] S F A (fun v S' F' A' => S = S' ∧ ((F' = upF F 100 0 1 ∧ A = A' ∧ ¬ (0 ≤ w ∧ w < F 100 18) ∧ ∃ r : Int, v = some (aI r)) ∨ ((0 ≤ w ∧ w < F 100 18) ∧ ∃ t : Int, v = some (aI t) ∧ F' = upF (upF F 100 0 0) 100 26 t ∧ (∀ j, j ≠ 125 → A' j = A j) ∧ tp A' 125 t (wtx (fun x => A 113 (40 * w + x)) (fun x => A 114 (40 * w + x)) (A 115 w))))) := by
  refine ab_enter (by decide) (by simp [aI, aR, aX, ab_val, Value.category]) (Nat.le_of_ble_eq_true rfl) (fun E C hr => ?_)
  refine j_eq (lv' := [some (aR 100), some (aI w), none]) ?_
  refine j_aload_n C dX10_write_0 rfl rfl ?_
  refine j_iconst C dX10_write_1 ?_
  refine j_putI C fp_X10_3 (sM_100 hS) rfl dX10_write_2 ?_
  refine j_aload_n C dX10_write_5 rfl rfl ?_
  refine j_aload_n C dX10_write_6 rfl rfl ?_
  refine j_iload_n C dX10_write_7 rfl rfl ?_
  refine j_callV C (vs := [aI w]) (st := [aR 100]) cl_X10_223 im_yX10_noWarning se_yX10_noWarning (fun _ => m_noWarning _ S (upF F 100 0 0) A hS _ rw0 hb) (sM_100 hS) rfl rfl rfl ⟨rfl, rfl, by decide, by decide⟩ ⟨by decide, by decide⟩ (fun _ => Nat.le_of_ble_eq_true rfl) (fun v hv => by simp only [List.mem_cons, List.not_mem_nil, or_false] at hv; rcases hv with rfl <;> first | exact (lM_100 hS)) (fun v hv => by simp only [List.mem_cons, List.not_mem_nil, or_false, Option.some.injEq, reduceCtorEq, false_or] at hv; rcases hv with rfl | rfl <;> first | exact (lM_100 hS) | exact trivial) dX10_write_8 (fun v_8 S_8 F_8 A_8 hP_8 => ?_)
  obtain ⟨rfl, rfl, rfl, z_8, rfl, ⟨rfl, hz_8⟩ | ⟨rfl, hz_8⟩⟩ := hP_8
  · have hz_8 : ¬ (0 ≤ w ∧ w < F 100 18) := hz_8
    show ab_J E 3 0 0 S (upF F 100 0 0) A 11 [some (aR 100), some (aI w), none] [aI 1, aR 100]
    refine j_iconst C dX10_write_11 ?_
    refine j_callV C (vs := [aI 1, aI 1]) (st := []) cl_X10_111 im_yX10_throwsIf se_yX10_throwsIf (fun _ => m_throwsIf1 _ S (upF F 100 0 0) A hS _) (sM_100 hS) rfl rfl rfl ⟨rfl, rfl, by decide, by decide⟩ ⟨by decide, by decide⟩ (fun _ => Nat.le_of_ble_eq_true rfl) (fun v hv => by cases hv) (fun v hv => by simp only [List.mem_cons, List.not_mem_nil, or_false, Option.some.injEq, reduceCtorEq, false_or] at hv; rcases hv with rfl | rfl <;> first | exact (lM_100 hS) | exact trivial) dX10_write_12 (fun v_12 S_12 F_12 A_12 hP_12 => ?_)
    obtain ⟨rfl, rfl, rfl, rfl⟩ := hP_12
    show ab_J E 3 0 0 S (upF (upF F 100 0 0) 100 0 1) A 15 [some (aR 100), some (aI w), none] [aI 1]
    skip
    refine j_if_eq C (tgt := 20) dX10_write_15 (by decide) ⟨by omega, by omega⟩ (fun c15 => ?_) (fun c15 => ?_)
    · exact absurd c15 (by decide)
    · refine j_iconst C dX10_write_18 ?_
      exact j_iret C hr (Nat.le_refl _) (Nat.le_refl _) dX10_write_19 ⟨rfl, Or.inl ⟨upF_up _ _ _ _ _, rfl, by omega, _, rfl⟩⟩
  · have hz_8 : ¬ (¬ (0 ≤ w ∧ w < F 100 18)) := hz_8
    show ab_J E 3 0 0 S (upF F 100 0 0) A 11 [some (aR 100), some (aI w), none] [aI 0, aR 100]
    refine j_iconst C dX10_write_11 ?_
    refine j_callV C (vs := [aI 0, aI 1]) (st := []) cl_X10_111 im_yX10_throwsIf se_yX10_throwsIf (fun _ => m_throwsIf0 _ S (upF F 100 0 0) A hS _) (sM_100 hS) rfl rfl rfl ⟨rfl, rfl, by decide, by decide⟩ ⟨by decide, by decide⟩ (fun _ => Nat.le_of_ble_eq_true rfl) (fun v hv => by cases hv) (fun v hv => by simp only [List.mem_cons, List.not_mem_nil, or_false, Option.some.injEq, reduceCtorEq, false_or] at hv; rcases hv with rfl | rfl <;> first | exact (lM_100 hS) | exact trivial) dX10_write_12 (fun v_12 S_12 F_12 A_12 hP_12 => ?_)
    obtain ⟨rfl, rfl, rfl, rfl⟩ := hP_12
    show ab_J E 3 0 0 S (upF F 100 0 0) A 15 [some (aR 100), some (aI w), none] [aI 0]
    skip
    refine j_if_eq C (tgt := 20) dX10_write_15 (by decide) ⟨by omega, by omega⟩ (fun c15 => ?_) (fun c15 => ?_)
    · have hv9 := hv w (by omega) (by omega)
      refine j_aload_n C dX10_write_20 rfl rfl ?_
      refine j_iconst C dX10_write_21 ?_
      refine j_putI C fp_X10_178 (sM_100 hS) rfl dX10_write_22 ?_
      refine j_aload_n C dX10_write_25 rfl rfl ?_
      refine j_ldcS C (tx := "ring ") 6 (by decide) rfl (lw_t6 (List.mem_of_getElem? (i := 29) rfl)) dX10_write_26 ?_
      refine j_callV C (vs := [aR (1000000 + 6)]) (st := []) cl_X10_234 im_yX10_putText se_yX10_putText (fun _ => m_putText _ S (upF (upF F 100 0 0) 100 26 0) A hS _ _ (by omega) tp_0 (by decide)) (sM_100 hS) rfl rfl rfl ⟨rfl, rfl, by decide, by decide⟩ ⟨by decide, by decide⟩ (fun _ => Nat.le_of_ble_eq_true rfl) (fun v hv => by cases hv) (fun v hv => by simp only [List.mem_cons, List.not_mem_nil, or_false, Option.some.injEq, reduceCtorEq, false_or] at hv; rcases hv with rfl | rfl <;> first | exact (lM_100 hS) | exact trivial) dX10_write_28 (fun v_28 S_28 F_28 A_28 hP_28 => ?_)
      obtain ⟨rfl, rfl, t28, rfl, hO28, ht28⟩ := hP_28
      show ab_J E 3 0 0 S (upF (upF (upF F 100 0 0) 100 26 0) 100 26 t28) A_28 31 [some (aR 100), some (aI w), none] []
      refine j_iconst C dX10_write_31 ?_
      refine j_istore_n C (lv' := [some (aR 100), some (aI w), some (aI 0)]) dX10_write_32 rfl (by decide) rfl ?_
      have K33 : ∀ (N : Nat) (k t : Int) (B : ab_An), (0 ≤ k ∧ k ≤ A 115 w) → (∀ i, i ≠ 125 → B i = A i) → (tp B 125 t (wpre (fun x => A 113 (40 * w + x)) (fun x => A 114 (40 * w + x)) k.toNat)) → ((A 115 w - k).toNat) < N → ab_J E 3 0 0 S (upF (upF F 100 0 0) 100 26 t) B 33 [some (aR 100), some (aI w), some (aI k)] [] := by
        intro N
        induction N with
        | zero => intro k t B hk hO ht hm; exact absurd hm (Nat.not_lt_zero _)
        | succ N ih =>
          have ih33 := ih
          clear ih
          intro k t B hk hO ht hm33
          refine j_iload_n C dX10_write_33 rfl rfl ?_
          refine j_aload_n C dX10_write_34 rfl rfl ?_
          refine j_getR C (j := 115) fl_X10_48 (sM_100 hS) rfl dX10_write_35 ?_
          refine j_iload_n C dX10_write_38 rfl rfl ?_
          refine j_iald C (sM_115 hS) (by omega) (by omega) (by decide) dX10_write_39 ?_
          refine j_eq (st' := [aI (A 115 w), aI k]) ?_ (e1 := by first | rfl | (simp only [List.cons.injEq, and_true]; exact congrArg aI (congrFun (hO 115 (by decide)) w)))
          have hwl := wpre_len (fun x => A 113 (40 * w + x)) (fun x => A 114 (40 * w + x)) k.toNat
          have htl := ht.1
          refine j_icmp_ge C (tgt := 95) dX10_write_40 (by decide) ⟨by omega, by omega⟩ ⟨by omega, by omega⟩ (fun c40 => ?_) (fun c40 => ?_)
          · refine j_aload_n C dX10_write_95 rfl rfl ?_
            refine j_ldcS C (tx := " end") 7 (by decide) rfl (lw_t6 (List.mem_of_getElem? (i := 42) rfl)) dX10_write_96 ?_
            refine j_callV C (vs := [aR (1000000 + 7)]) (st := []) cl_X10_234 im_yX10_putText se_yX10_putText (fun _ => m_putText _ S (upF (upF F 100 0 0) 100 26 t) B hS _ _ (by omega) ht (by omega)) (sM_100 hS) rfl rfl rfl ⟨rfl, rfl, by decide, by decide⟩ ⟨by decide, by decide⟩ (fun _ => Nat.le_of_ble_eq_true rfl) (fun v hv => by cases hv) (fun v hv => by simp only [List.mem_cons, List.not_mem_nil, or_false, Option.some.injEq, reduceCtorEq, false_or] at hv; rcases hv with rfl | rfl | rfl <;> first | exact (lM_100 hS) | exact trivial) dX10_write_98 (fun v_98 S_98 F_98 A_98 hP_98 => ?_)
            obtain ⟨rfl, rfl, t98, rfl, hO98, ht98⟩ := hP_98
            show ab_J E 3 0 0 S (upF (upF (upF F 100 0 0) 100 26 t) 100 26 t98) A_98 101 [some (aR 100), some (aI w), some (aI k)] []
            refine j_aload_n C dX10_write_101 rfl rfl ?_
            refine j_get C (aI t98) fl_X10_178 (sM_100 hS) (fun _ => rfl) dX10_write_102 ?_
            exact j_iret C hr (Nat.le_refl _) (Nat.le_refl _) dX10_write_105 ⟨rfl, Or.inr ⟨by omega, _, rfl, upF_up _ _ _ _ _, fun j q => by rw [hO98 j q, hO j q], by have e : k = A 115 w := (by omega); unfold wtx; rw [e] at ht98; exact ht98⟩⟩
          · have hv8 := hv9.2 k (by omega) (by omega)
            refine j_iload_n C dX10_write_43 rfl rfl ?_
            refine j_if_le C (tgt := 53) dX10_write_44 (by decide) ⟨by omega, by omega⟩ (fun c44 => ?_) (fun c44 => ?_)
            · refine j_aload_n C dX10_write_53 rfl rfl ?_
              refine j_aload_n C dX10_write_54 rfl rfl ?_
              refine j_getR C (j := 113) fl_X10_42 (sM_100 hS) rfl dX10_write_55 ?_
              refine j_bipush C dX10_write_58 rfl ?_
              refine j_iload_n C dX10_write_60 rfl rfl ?_
              refine j_imul C dX10_write_61 ?_
              refine j_iload_n C dX10_write_62 rfl rfl ?_
              refine j_iadd C dX10_write_63 ?_
              refine j_iald C (sM_113 hS) (by omega) (by omega) (by decide) dX10_write_64 ?_
              refine j_eq (st' := [aI (A 113 (40 * w + k)), aR 100]) ?_ (e1 := by first | rfl | (simp only [List.cons.injEq, and_true]; exact congrArg aI (congrFun (hO 113 (by decide)) _)))
              skip
              refine j_callV C (vs := [aI (A 113 (40 * w + k))]) (st := []) cl_X10_238 im_yX10_putNumber se_yX10_putNumber (fun _ => m_putNumber _ S (upF (upF F 100 0 0) 100 26 t) B hS _ _ (by omega) (by first | exact ht | exact tp_put ht) (by (try simp only [List.length_append, List.length_cons, List.length_nil]); have q1 := nu_len (A 113 (40 * w + k)); omega)) (sM_100 hS) rfl rfl rfl ⟨rfl, rfl, by decide, by decide⟩ ⟨by decide, by decide⟩ (fun _ => Nat.le_of_ble_eq_true rfl) (fun v hv => by cases hv) (fun v hv => by simp only [List.mem_cons, List.not_mem_nil, or_false, Option.some.injEq, reduceCtorEq, false_or] at hv; rcases hv with rfl | rfl | rfl <;> first | exact (lM_100 hS) | exact trivial) dX10_write_65 (fun v_65 S_65 F_65 A_65 hP_65 => ?_)
              obtain ⟨rfl, rfl, t65, rfl, hO65, ht65⟩ := hP_65
              show ab_J E 3 0 0 S (upF (upF (upF F 100 0 0) 100 26 t) 100 26 t65) A_65 68 [some (aR 100), some (aI w), some (aI k)] []
              refine j_aload_n C dX10_write_68 rfl rfl ?_
              refine j_bipush C dX10_write_69 rfl ?_
              refine j_callV C (vs := [aI 32]) (st := []) cl_X10_229 im_yX10_put se_yX10_put (fun _ => m_put _ S (upF (upF (upF F 100 0 0) 100 26 t) 100 26 t65) A_65 hS _ (by show 0 ≤ t65 ∧ t65 < 400; have := ht65.1; simp only [List.length_append, List.length_cons, List.length_nil] at this; have q1 := nu_len (A 113 (40 * w + k)); omega)) (sM_100 hS) rfl rfl rfl ⟨rfl, rfl, by decide, by decide⟩ ⟨by decide, by decide⟩ (fun _ => Nat.le_of_ble_eq_true rfl) (fun v hv => by cases hv) (fun v hv => by simp only [List.mem_cons, List.not_mem_nil, or_false, Option.some.injEq, reduceCtorEq, false_or] at hv; rcases hv with rfl | rfl | rfl <;> first | exact (lM_100 hS) | exact trivial) dX10_write_71 (fun v_71 S_71 F_71 A_71 hP_71 => ?_)
              obtain ⟨rfl, rfl, rfl, rfl⟩ := hP_71
              show ab_J E 3 0 0 S (upF (upF (upF (upF F 100 0 0) 100 26 t) 100 26 t65) 100 26 (t65 + 1)) (upA A_65 125 t65 (sb 32)) 74 [some (aR 100), some (aI w), some (aI k)] []
              refine j_aload_n C dX10_write_74 rfl rfl ?_
              refine j_aload_n C dX10_write_75 rfl rfl ?_
              refine j_getR C (j := 114) fl_X10_45 (sM_100 hS) rfl dX10_write_76 ?_
              refine j_bipush C dX10_write_79 rfl ?_
              refine j_iload_n C dX10_write_81 rfl rfl ?_
              refine j_imul C dX10_write_82 ?_
              refine j_iload_n C dX10_write_83 rfl rfl ?_
              refine j_iadd C dX10_write_84 ?_
              refine j_iald C (sM_114 hS) (by omega) (by omega) (by decide) dX10_write_85 ?_
              refine j_eq (st' := [aI (A_65 114 ((40 * w) + k)), aR 100]) ?_
              refine j_eq (st' := [aI (A 114 (40 * w + k)), aR 100]) ?_ (e1 := by first | rfl | (simp only [List.cons.injEq, and_true]; exact congrArg aI ((congrFun (hO65 114 (by decide)) _).trans (by first | exact congrFun (hO 114 (by decide)) _ | exact (congrFun (upA_other (by decide)) _).trans (congrFun (hO 114 (by decide)) _)))))
              refine j_callV C (vs := [aI (A 114 (40 * w + k))]) (st := []) cl_X10_238 im_yX10_putNumber se_yX10_putNumber (fun _ => m_putNumber _ S (upF (upF (upF (upF F 100 0 0) 100 26 t) 100 26 t65) 100 26 (t65 + 1)) (upA A_65 125 t65 (sb 32)) hS _ _ (by omega) (tp_put ht65) (by (try simp only [List.length_append, List.length_cons, List.length_nil]); have q1 := nu_len (A 113 (40 * w + k)); omega)) (sM_100 hS) rfl rfl rfl ⟨rfl, rfl, by decide, by decide⟩ ⟨by decide, by decide⟩ (fun _ => Nat.le_of_ble_eq_true rfl) (fun v hv => by cases hv) (fun v hv => by simp only [List.mem_cons, List.not_mem_nil, or_false, Option.some.injEq, reduceCtorEq, false_or] at hv; rcases hv with rfl | rfl | rfl <;> first | exact (lM_100 hS) | exact trivial) dX10_write_86 (fun v_86 S_86 F_86 A_86 hP_86 => ?_)
              obtain ⟨rfl, rfl, t86, rfl, hO86, ht86⟩ := hP_86
              show ab_J E 3 0 0 S (upF (upF (upF (upF (upF F 100 0 0) 100 26 t) 100 26 t65) 100 26 (t65 + 1)) 100 26 t86) A_86 89 [some (aR 100), some (aI w), some (aI k)] []
              refine j_iinc C (lv' := [some (aR 100), some (aI w), some (aI (k + 1))]) dX10_write_89 rfl (by decide) rfl ?_
              refine j_goto C (tgt := 33) dX10_write_92 (by decide) ?_
              refine j_eq (F' := (upF (upF F 100 0 0) 100 26 t86)) ?_ (e3 := (by simp only [upF_up]))
              exact ih33 (k + 1) t86 A_86 (by omega) (fun i q => by rw [hO86 i q, upA_other q, hO65 i q]; first | exact hO i q | (rw [upA_other q]; exact hO i q)) (by rw [show sb 32 = 32 from rfl] at ht86; have e : k = 0 := (by omega); subst e; exact ht86) (by omega)
            · refine j_aload_n C dX10_write_47 rfl rfl ?_
              refine j_bipush C dX10_write_48 rfl ?_
              refine j_callV C (vs := [aI 44]) (st := []) cl_X10_229 im_yX10_put se_yX10_put (fun _ => m_put _ S (upF (upF F 100 0 0) 100 26 t) B hS _ (by show 0 ≤ t ∧ t < 400; omega)) (sM_100 hS) rfl rfl rfl ⟨rfl, rfl, by decide, by decide⟩ ⟨by decide, by decide⟩ (fun _ => Nat.le_of_ble_eq_true rfl) (fun v hv => by cases hv) (fun v hv => by simp only [List.mem_cons, List.not_mem_nil, or_false, Option.some.injEq, reduceCtorEq, false_or] at hv; rcases hv with rfl | rfl | rfl <;> first | exact (lM_100 hS) | exact trivial) dX10_write_50 (fun v_50 S_50 F_50 A_50 hP_50 => ?_)
              obtain ⟨rfl, rfl, rfl, rfl⟩ := hP_50
              show ab_J E 3 0 0 S (upF (upF (upF F 100 0 0) 100 26 t) 100 26 (t + 1)) (upA B 125 t (sb 44)) 53 [some (aR 100), some (aI w), some (aI k)] []
              refine j_aload_n C dX10_write_53 rfl rfl ?_
              refine j_aload_n C dX10_write_54 rfl rfl ?_
              refine j_getR C (j := 113) fl_X10_42 (sM_100 hS) rfl dX10_write_55 ?_
              refine j_bipush C dX10_write_58 rfl ?_
              refine j_iload_n C dX10_write_60 rfl rfl ?_
              refine j_imul C dX10_write_61 ?_
              refine j_iload_n C dX10_write_62 rfl rfl ?_
              refine j_iadd C dX10_write_63 ?_
              refine j_iald C (sM_113 hS) (by omega) (by omega) (by decide) dX10_write_64 ?_
              refine j_eq (st' := [aI (B 113 ((40 * w) + k)), aR 100]) ?_
              refine j_eq (st' := [aI (A 113 (40 * w + k)), aR 100]) ?_ (e1 := by first | rfl | (simp only [List.cons.injEq, and_true]; exact congrArg aI (congrFun (hO 113 (by decide)) _)))
              skip
              refine j_callV C (vs := [aI (A 113 (40 * w + k))]) (st := []) cl_X10_238 im_yX10_putNumber se_yX10_putNumber (fun _ => m_putNumber _ S (upF (upF (upF F 100 0 0) 100 26 t) 100 26 (t + 1)) (upA B 125 t (sb 44)) hS _ _ (by omega) (by first | exact ht | exact tp_put ht) (by (try simp only [List.length_append, List.length_cons, List.length_nil]); have q1 := nu_len (A 113 (40 * w + k)); omega)) (sM_100 hS) rfl rfl rfl ⟨rfl, rfl, by decide, by decide⟩ ⟨by decide, by decide⟩ (fun _ => Nat.le_of_ble_eq_true rfl) (fun v hv => by cases hv) (fun v hv => by simp only [List.mem_cons, List.not_mem_nil, or_false, Option.some.injEq, reduceCtorEq, false_or] at hv; rcases hv with rfl | rfl | rfl <;> first | exact (lM_100 hS) | exact trivial) dX10_write_65 (fun v_65 S_65 F_65 A_65 hP_65 => ?_)
              obtain ⟨rfl, rfl, t65, rfl, hO65, ht65⟩ := hP_65
              show ab_J E 3 0 0 S (upF (upF (upF (upF F 100 0 0) 100 26 t) 100 26 (t + 1)) 100 26 t65) A_65 68 [some (aR 100), some (aI w), some (aI k)] []
              refine j_aload_n C dX10_write_68 rfl rfl ?_
              refine j_bipush C dX10_write_69 rfl ?_
              refine j_callV C (vs := [aI 32]) (st := []) cl_X10_229 im_yX10_put se_yX10_put (fun _ => m_put _ S (upF (upF (upF (upF F 100 0 0) 100 26 t) 100 26 (t + 1)) 100 26 t65) A_65 hS _ (by show 0 ≤ t65 ∧ t65 < 400; have := ht65.1; simp only [List.length_append, List.length_cons, List.length_nil] at this; have q1 := nu_len (A 113 (40 * w + k)); omega)) (sM_100 hS) rfl rfl rfl ⟨rfl, rfl, by decide, by decide⟩ ⟨by decide, by decide⟩ (fun _ => Nat.le_of_ble_eq_true rfl) (fun v hv => by cases hv) (fun v hv => by simp only [List.mem_cons, List.not_mem_nil, or_false, Option.some.injEq, reduceCtorEq, false_or] at hv; rcases hv with rfl | rfl | rfl <;> first | exact (lM_100 hS) | exact trivial) dX10_write_71 (fun v_71 S_71 F_71 A_71 hP_71 => ?_)
              obtain ⟨rfl, rfl, rfl, rfl⟩ := hP_71
              show ab_J E 3 0 0 S (upF (upF (upF (upF (upF F 100 0 0) 100 26 t) 100 26 (t + 1)) 100 26 t65) 100 26 (t65 + 1)) (upA A_65 125 t65 (sb 32)) 74 [some (aR 100), some (aI w), some (aI k)] []
              refine j_aload_n C dX10_write_74 rfl rfl ?_
              refine j_aload_n C dX10_write_75 rfl rfl ?_
              refine j_getR C (j := 114) fl_X10_45 (sM_100 hS) rfl dX10_write_76 ?_
              refine j_bipush C dX10_write_79 rfl ?_
              refine j_iload_n C dX10_write_81 rfl rfl ?_
              refine j_imul C dX10_write_82 ?_
              refine j_iload_n C dX10_write_83 rfl rfl ?_
              refine j_iadd C dX10_write_84 ?_
              refine j_iald C (sM_114 hS) (by omega) (by omega) (by decide) dX10_write_85 ?_
              refine j_eq (st' := [aI (A_65 114 ((40 * w) + k)), aR 100]) ?_
              refine j_eq (st' := [aI (A 114 (40 * w + k)), aR 100]) ?_ (e1 := by first | rfl | (simp only [List.cons.injEq, and_true]; exact congrArg aI ((congrFun (hO65 114 (by decide)) _).trans (by first | exact congrFun (hO 114 (by decide)) _ | exact (congrFun (upA_other (by decide)) _).trans (congrFun (hO 114 (by decide)) _)))))
              refine j_callV C (vs := [aI (A 114 (40 * w + k))]) (st := []) cl_X10_238 im_yX10_putNumber se_yX10_putNumber (fun _ => m_putNumber _ S (upF (upF (upF (upF (upF F 100 0 0) 100 26 t) 100 26 (t + 1)) 100 26 t65) 100 26 (t65 + 1)) (upA A_65 125 t65 (sb 32)) hS _ _ (by omega) (tp_put ht65) (by (try simp only [List.length_append, List.length_cons, List.length_nil]); have q1 := nu_len (A 113 (40 * w + k)); omega)) (sM_100 hS) rfl rfl rfl ⟨rfl, rfl, by decide, by decide⟩ ⟨by decide, by decide⟩ (fun _ => Nat.le_of_ble_eq_true rfl) (fun v hv => by cases hv) (fun v hv => by simp only [List.mem_cons, List.not_mem_nil, or_false, Option.some.injEq, reduceCtorEq, false_or] at hv; rcases hv with rfl | rfl | rfl <;> first | exact (lM_100 hS) | exact trivial) dX10_write_86 (fun v_86 S_86 F_86 A_86 hP_86 => ?_)
              obtain ⟨rfl, rfl, t86, rfl, hO86, ht86⟩ := hP_86
              show ab_J E 3 0 0 S (upF (upF (upF (upF (upF (upF F 100 0 0) 100 26 t) 100 26 (t + 1)) 100 26 t65) 100 26 (t65 + 1)) 100 26 t86) A_86 89 [some (aR 100), some (aI w), some (aI k)] []
              refine j_iinc C (lv' := [some (aR 100), some (aI w), some (aI (k + 1))]) dX10_write_89 rfl (by decide) rfl ?_
              refine j_goto C (tgt := 33) dX10_write_92 (by decide) ?_
              refine j_eq (F' := (upF (upF F 100 0 0) 100 26 t86)) ?_ (e3 := (by simp only [upF_up]))
              exact ih33 (k + 1) t86 A_86 (by omega) (fun i q => by rw [hO86 i q, upA_other q, hO65 i q]; first | exact hO i q | (rw [upA_other q]; exact hO i q)) (by rw [show sb 32 = 32 from rfl] at ht86; rw [show sb 44 = 44 from rfl] at ht86; rw [wpre_s (by omega)]; exact ht86) (by omega)
      refine j_eq (F' := (upF (upF F 100 0 0) 100 26 t28)) ?_ (e3 := (by simp only [upF_up]))
      exact K33 _ 0 t28 A_28 (by omega) hO28 ht28 (Nat.lt_succ_self _)
    · exact absurd c15 (by decide)

set_option maxHeartbeats 4000000 in
set_option maxRecDepth 100000 in
theorem m_taped (l : Launch) (S : ab_St) (F : ab_Fn) (A : ab_An) (hS : ab_SM S) (i : Int) (ri : inR i) (ht : 0 ≤ F 100 26 ∧ F 100 26 ≤ 400) : ab_Met l yX10_taped cX10_taped 2 (some .int) { frames := 1, cells := 0, slots := 0, locals := 22 } 0 0 [aR 100, aI i] S F A (fun v S' F' A' => S = S' ∧ F' = upF F 100 0 0 ∧ A = A' ∧ ((v = some (aI (-1)) ∧ ¬ (0 ≤ i ∧ i < F 100 26)) ∨ ((0 ≤ i ∧ i < F 100 26) ∧ v = some (aI (A 125 i % 256))))) := by
  refine ab_enter (by decide) (by simp [aI, aR, aX, ab_val, Value.category]) (Nat.le_of_ble_eq_true rfl) (fun E C hr => ?_)
  refine j_eq (lv' := [some (aR 100), some (aI i)]) ?_
  refine j_aload_n C dX10_taped_0 rfl rfl ?_
  refine j_iconst C dX10_taped_1 ?_
  refine j_putI C fp_X10_3 (sM_100 hS) rfl dX10_taped_2 ?_
  refine j_iload_n C dX10_taped_5 rfl rfl ?_
  refine j_iconst C dX10_taped_6 ?_
  refine j_aload_n C dX10_taped_7 rfl rfl ?_
  refine j_get C (aI (F 100 26)) fl_X10_178 (sM_100 hS) (fun _ => rfl) dX10_taped_8 ?_
  refine j_iconst C dX10_taped_11 ?_
  refine j_isub C dX10_taped_12 ?_
  refine j_callS C (vs := [aI i, aI 0, aI ((F 100 26) - 1)]) (st := []) cl_X10_97 sc_yX10_in (fun _ => m_in _ S (upF F 100 0 0) A hS _ _ _ ri ⟨by omega, by omega⟩ ⟨by omega, by omega⟩) rfl ⟨rfl, rfl, by decide, by decide⟩ ⟨by decide, by decide⟩ (fun _ => Nat.le_of_ble_eq_true rfl) (fun v hv => by cases hv) (fun v hv => by simp only [List.mem_cons, List.not_mem_nil, or_false, Option.some.injEq, reduceCtorEq, false_or] at hv; rcases hv with rfl | rfl <;> first | exact (lM_100 hS) | exact trivial) dX10_taped_13 (fun v_13 S_13 F_13 A_13 hP_13 => ?_)
  obtain ⟨rfl, rfl, rfl, z_13, rfl, ⟨rfl, hz_13⟩ | ⟨rfl, hz_13⟩⟩ := hP_13
  · show ab_J E 2 0 0 S (upF F 100 0 0) A 16 [some (aR 100), some (aI i)] [aI 1]
    refine j_if_ne C (tgt := 23) dX10_taped_16 (by decide) ⟨by omega, by omega⟩ (fun c16 => ?_) (fun c16 => ?_)
    · refine j_aload_n C dX10_taped_23 rfl rfl ?_
      refine j_getR C (j := 125) fl_X10_72 (sM_100 hS) rfl dX10_taped_24 ?_
      refine j_iload_n C dX10_taped_27 rfl rfl ?_
      refine j_bald C (sM_125 hS) (by omega) (by omega) (by decide) dX10_taped_28 ?_
      refine j_sipush C dX10_taped_29 rfl ?_
      refine j_iand C dX10_taped_32 ?_
      refine j_eq (st' := [aI (A 125 i % 256)]) ?_ (e1 := by first | rfl | (simp only [List.cons.injEq, and_true]; exact congrArg aI (ab_and255m _)))
      exact j_iret C hr (Nat.le_refl _) (Nat.le_refl _) dX10_taped_33 ⟨rfl, rfl, rfl, (by first | exact Or.inl ⟨rfl, by omega⟩ | exact Or.inr ⟨by omega, rfl⟩)⟩
    · exact absurd c16 (by decide)
  · show ab_J E 2 0 0 S (upF F 100 0 0) A 16 [some (aR 100), some (aI i)] [aI 0]
    refine j_if_ne C (tgt := 23) dX10_taped_16 (by decide) ⟨by omega, by omega⟩ (fun c16 => ?_) (fun c16 => ?_)
    · exact absurd c16 (by decide)
    · refine j_iconst C dX10_taped_19 ?_
      refine j_goto C (tgt := 33) dX10_taped_20 (by decide) ?_
      exact j_iret C hr (Nat.le_refl _) (Nat.le_refl _) dX10_taped_33 ⟨rfl, rfl, rfl, (by first | exact Or.inl ⟨rfl, by omega⟩ | exact Or.inr ⟨by omega, rfl⟩)⟩
