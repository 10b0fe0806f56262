/-- a side of a ring, from corner k to the next one, goes by on the right of a middle (doubled: mx, my): 1, else 0 -/
def wcs (X Y : Int → Int) (n mx my k : Int) : Int := if (my < 2 * Y k ↔ ¬ my < 2 * Y ((k + 1) % n)) then (if 2 * Y k < 2 * Y ((k + 1) % n) then (if (mx - 2 * X k) * (2 * Y ((k + 1) % n) - 2 * Y k) < (my - 2 * Y k) * (2 * X ((k + 1) % n) - 2 * X k) then 1 else 0) else (if (my - 2 * Y k) * (2 * X ((k + 1) % n) - 2 * X k) < (mx - 2 * X k) * (2 * Y ((k + 1) % n) - 2 * Y k) then 1 else 0)) else 0
theorem mul_inR {a b : Int} (ha : -100 ≤ a ∧ a ≤ 100) (hb : -100 ≤ b ∧ b ≤ 100) : inR (a * b) := by
  have h1 : a.natAbs ≤ 100 := by omega
  have h2 : b.natAbs ≤ 100 := by omega
  have h3 : (a * b).natAbs ≤ 10000 := by
    rw [Int.natAbs_mul]
    exact Nat.le_trans (Nat.mul_le_mul h1 h2) (by decide)
  exact ⟨by omega, by omega⟩
theorem wcs_no {X Y : Int → Int} {n mx my k : Int} (h : ¬ (my < 2 * Y k ↔ ¬ my < 2 * Y ((k + 1) % n))) : wcs X Y n mx my k = 0 := by
  unfold wcs; rw [if_neg h]
theorem wcs_up {X Y : Int → Int} {n mx my k : Int} (h : my < 2 * Y k ↔ ¬ my < 2 * Y ((k + 1) % n)) (h2 : 2 * Y k < 2 * Y ((k + 1) % n)) : wcs X Y n mx my k = if (mx - 2 * X k) * (2 * Y ((k + 1) % n) - 2 * Y k) < (my - 2 * Y k) * (2 * X ((k + 1) % n) - 2 * X k) then 1 else 0 := by
  unfold wcs; rw [if_pos h, if_pos h2]
theorem wcs_dn {X Y : Int → Int} {n mx my k : Int} (h : my < 2 * Y k ↔ ¬ my < 2 * Y ((k + 1) % n)) (h2 : ¬ 2 * Y k < 2 * Y ((k + 1) % n)) : wcs X Y n mx my k = if (my - 2 * Y k) * (2 * X ((k + 1) % n) - 2 * X k) < (mx - 2 * X k) * (2 * Y ((k + 1) % n) - 2 * Y k) then 1 else 0 := by
  unfold wcs; rw [if_pos h, if_neg h2]
/-- whether a square is in a ring -/
def wIn (X Y : Int → Int) (n sq : Int) : Int := sm (wcs X Y n (2 * (sq % 20) + 1) (2 * (sq / 20) + 1)) n.toNat % 2
def lsd (f : Int → Int) (s : Int) : Nat → Int
  | 0 => f s
  | d + 1 => if ¬ (d : Int) = 4 ∧ 0 ≤ s % 20 + (d : Int) % 3 - 1 ∧ s % 20 + (d : Int) % 3 - 1 < 20 ∧ 0 ≤ s / 20 + (d : Int) / 3 - 1 ∧ s / 20 + (d : Int) / 3 - 1 < 14 then min (lsd f s d) (f (20 * (s / 20 + (d : Int) / 3 - 1) + (s % 20 + (d : Int) % 3 - 1)) + (if (d : Int) % 2 = 1 then 5 else 7)) else lsd f s d
theorem lsd_no {f : Int → Int} {s d x y : Int} (h0 : 0 ≤ d) (hx : x = s % 20 + d % 3 - 1) (hy : y = s / 20 + d / 3 - 1) (h : d = 4 ∨ ¬ (0 ≤ x ∧ x < 20 ∧ 0 ≤ y ∧ y < 14)) : lsd f s (d + 1).toNat = lsd f s d.toNat := by
  have e : (d + 1).toNat = d.toNat + 1 := by omega
  have e2 : ((d.toNat : Nat) : Int) = d := by omega
  rw [e]; simp only [lsd]; rw [e2, ← hx, ← hy, if_neg (by omega)]
theorem lsd_yes {f : Int → Int} {s d x y : Int} (h0 : 0 ≤ d) (hx : x = s % 20 + d % 3 - 1) (hy : y = s / 20 + d / 3 - 1) (h4 : ¬ d = 4) (h : 0 ≤ x ∧ x < 20 ∧ 0 ≤ y ∧ y < 14) : lsd f s (d + 1).toNat = min (lsd f s d.toNat) (f (20 * y + x) + (if d % 2 = 1 then 5 else 7)) := by
  have e : (d + 1).toNat = d.toNat + 1 := by omega
  have e2 : ((d.toNat : Nat) : Int) = d := by omega
  rw [e]; simp only [lsd]; rw [e2, ← hx, ← hy, if_pos (by omega)]

set_option maxHeartbeats 4000000 in
set_option maxRecDepth 100000 in
theorem m_isWithin (l : Launch) (S : ab_St) (F : ab_Fn) (A : ab_An) (hS : ab_SM S) (w sq : Int) (h1 : 0 ≤ w ∧ w < 40) (h2 : 0 ≤ sq ∧ sq < 280) (hm : 1 ≤ A 115 w ∧ A 115 w ≤ 40) (hr1 : ∀ k, 0 ≤ k → k < A 115 w → 0 ≤ A 113 (40 * w + k) ∧ A 113 (40 * w + k) ≤ 20 ∧ 0 ≤ A 114 (40 * w + k) ∧ A 114 (40 * w + k) ≤ 14) : ab_Met l yX10_isWithin cX10_isWithin 13 (some .boolean) { frames := 0, cells := 0, slots := 0, locals := 0 } 0 0 [aR 100, aI w, aI sq] S F A (fun v S' F' A' => S = S' ∧ F = F' ∧ A = A' ∧ v = some (aI (wIn (fun x => A 113 (40 * w + x)) (fun x => A 114 (40 * w + x)) (A 115 w) sq))) := by
  refine ab_enter (by decide) (by simp [aI, aR, aX, ab_val, Value.category]) (Nat.le_of_ble_eq_true rfl) (fun E C hr => ?_)
  refine j_eq (lv' := [some (aR 100), some (aI w), some (aI sq), none, none, none, none, none, none, none, none, none, none]) ?_
  obtain ⟨mx, hmx⟩ : ∃ x : Int, x = 2 * (sq % 20) + 1 := ⟨_, rfl⟩
  obtain ⟨my, hmy⟩ : ∃ x : Int, x = 2 * (sq / 20) + 1 := ⟨_, rfl⟩
  unfold wIn at hr
  rw [← hmx, ← hmy] at hr
  refine j_iconst C dX10_isWithin_0 ?_
  refine j_iload_n C dX10_isWithin_1 rfl rfl ?_
  refine j_bipush C dX10_isWithin_2 rfl ?_
  refine j_irem C dX10_isWithin_4 (by omega) (by omega) (by omega) (by omega) ?_
  refine j_imul C dX10_isWithin_5 ?_
  refine j_iconst C dX10_isWithin_6 ?_
  refine j_iadd C dX10_isWithin_7 ?_
  refine j_eq (st' := [aI mx]) ?_ (e1 := by first | rfl | (simp only [List.cons.injEq, and_true]; exact congrArg aI (hmx.symm)))
  refine j_istore_n C (lv' := [some (aR 100), some (aI w), some (aI sq), some (aI mx), none, none, none, none, none, none, none, none, none]) dX10_isWithin_8 rfl (by decide) rfl ?_
  refine j_iconst C dX10_isWithin_9 ?_
  refine j_iload_n C dX10_isWithin_10 rfl rfl ?_
  refine j_bipush C dX10_isWithin_11 rfl ?_
  refine j_idiv C dX10_isWithin_13 (by omega) (by omega) (by omega) (by omega) ?_
  refine j_imul C dX10_isWithin_14 ?_
  refine j_iconst C dX10_isWithin_15 ?_
  refine j_iadd C dX10_isWithin_16 ?_
  refine j_eq (st' := [aI my]) ?_ (e1 := by first | rfl | (simp only [List.cons.injEq, and_true]; exact congrArg aI (hmy.symm)))
  refine j_istore C (lv' := [some (aR 100), some (aI w), some (aI sq), some (aI mx), some (aI my), none, none, none, none, none, none, none, none]) dX10_isWithin_17 (by decide) rfl ?_
  refine j_iconst C dX10_isWithin_19 ?_
  refine j_istore C (lv' := [some (aR 100), some (aI w), some (aI sq), some (aI mx), some (aI my), some (aI 0), none, none, none, none, none, none, none]) dX10_isWithin_20 (by decide) rfl ?_
  refine j_iconst C dX10_isWithin_22 ?_
  refine j_istore C (lv' := [some (aR 100), some (aI w), some (aI sq), some (aI mx), some (aI my), some (aI 0), some (aI 0), none, none, none, none, none, none]) dX10_isWithin_23 (by decide) rfl ?_
  have K25 : ∀ (N : Nat) (o k : Int), (0 ≤ k ∧ k ≤ A 115 w) → (o = sm (wcs (fun x => A 113 (40 * w + x)) (fun x => A 114 (40 * w + x)) (A 115 w) mx my) k.toNat % 2) → ((A 115 w - k).toNat) < N → ab_J E 13 0 0 S F A 25 [some (aR 100), some (aI w), some (aI sq), some (aI mx), some (aI my), some (aI o), some (aI k), none, none, none, none, none, none] [] := by
    intro N
    induction N with
    | zero => intro o k hk ho hm; exact absurd hm (Nat.not_lt_zero _)
    | succ N ih =>
      have ih25 := ih
      clear ih
      intro o k hk ho hm25
      refine j_iload C dX10_isWithin_25 rfl ?_
      refine j_aload_n C dX10_isWithin_27 rfl rfl ?_
      refine j_getR C (j := 115) fl_X10_48 (sM_100 hS) rfl dX10_isWithin_28 ?_
      refine j_iload_n C dX10_isWithin_31 rfl rfl ?_
      refine j_iald C (sM_115 hS) (by omega) (by omega) (by decide) dX10_isWithin_32 ?_
      refine j_icmp_ge C (tgt := 203) dX10_isWithin_33 (by decide) ⟨by omega, by omega⟩ ⟨by omega, by omega⟩ (fun c33 => ?_) (fun c33 => ?_)
      · refine j_iload C dX10_isWithin_203 rfl ?_
        exact j_zret C hr (ab_nz01 (by omega)) (Nat.le_refl _) (Nat.le_refl _) dX10_isWithin_205 ⟨rfl, rfl, rfl, by have e : k = A 115 w := (by omega); rw [ho, e]⟩
      · refine j_bipush C dX10_isWithin_36 rfl ?_
        refine j_iload_n C dX10_isWithin_38 rfl rfl ?_
        refine j_imul C dX10_isWithin_39 ?_
        refine j_iload C dX10_isWithin_40 rfl ?_
        refine j_iadd C dX10_isWithin_42 ?_
        refine j_istore C (lv' := [some (aR 100), some (aI w), some (aI sq), some (aI mx), some (aI my), some (aI o), some (aI k), some (aI ((40 * w) + k)), none, none, none, none, none]) dX10_isWithin_43 (by decide) rfl ?_
        refine j_bipush C dX10_isWithin_45 rfl ?_
        refine j_iload_n C dX10_isWithin_47 rfl rfl ?_
        refine j_imul C dX10_isWithin_48 ?_
        refine j_iload C dX10_isWithin_49 rfl ?_
        refine j_iconst C dX10_isWithin_51 ?_
        refine j_iadd C dX10_isWithin_52 ?_
        refine j_aload_n C dX10_isWithin_53 rfl rfl ?_
        refine j_getR C (j := 115) fl_X10_48 (sM_100 hS) rfl dX10_isWithin_54 ?_
        refine j_iload_n C dX10_isWithin_57 rfl rfl ?_
        refine j_iald C (sM_115 hS) (by omega) (by omega) (by decide) dX10_isWithin_58 ?_
        refine j_irem C dX10_isWithin_59 (by omega) (by omega) (by omega) (by omega) ?_
        refine j_eq (st' := [aI ((k + 1) % (A 115 w)), aI (40 * w)]) ?_
        refine j_iadd C dX10_isWithin_60 ?_
        refine j_istore C (lv' := [some (aR 100), some (aI w), some (aI sq), some (aI mx), some (aI my), some (aI o), some (aI k), some (aI ((40 * w) + k)), some (aI ((40 * w) + ((k + 1) % (A 115 w)))), none, none, none, none]) dX10_isWithin_61 (by decide) rfl ?_
        have hk1 := hr1 k (by omega) (by omega)
        have hk2 := hr1 ((k + 1) % A 115 w) (Int.emod_nonneg _ (by omega)) (Int.emod_lt_of_pos _ (by omega))
        obtain ⟨py, hpy⟩ : ∃ x : Int, x = 2 * A 114 (40 * w + k) := ⟨_, rfl⟩
        obtain ⟨qy, hqy⟩ : ∃ x : Int, x = 2 * A 114 (40 * w + (k + 1) % (A 115 w)) := ⟨_, rfl⟩
        obtain ⟨px, hpx⟩ : ∃ x : Int, x = 2 * A 113 (40 * w + k) := ⟨_, rfl⟩
        obtain ⟨qx, hqx⟩ : ∃ x : Int, x = 2 * A 113 (40 * w + (k + 1) % (A 115 w)) := ⟨_, rfl⟩
        obtain ⟨lf, hlf⟩ : ∃ x : Int, x = (mx - px) * (qy - py) := ⟨_, rfl⟩
        obtain ⟨rg, hrg⟩ : ∃ x : Int, x = (my - py) * (qx - px) := ⟨_, rfl⟩
        have rl : inR lf := by rw [hlf]; exact mul_inR (by omega) (by omega)
        have rr : inR rg := by rw [hrg]; exact mul_inR (by omega) (by omega)
        have kq : 0 ≤ (k + 1) % A 115 w ∧ (k + 1) % A 115 w < A 115 w := ⟨Int.emod_nonneg _ (by omega), Int.emod_lt_of_pos _ (by omega)⟩
        have ho2 : o = 0 ∨ o = 1 := by omega
        refine j_iconst C dX10_isWithin_63 ?_
        refine j_aload_n C dX10_isWithin_64 rfl rfl ?_
        refine j_getR C (j := 114) fl_X10_45 (sM_100 hS) rfl dX10_isWithin_65 ?_
        refine j_iload C dX10_isWithin_68 rfl ?_
        refine j_iald C (sM_114 hS) (by omega) (by omega) (by decide) dX10_isWithin_70 ?_
        refine j_eq (st' := [aI (A 114 (40 * w + k)), aI 2]) ?_
        refine j_imul C dX10_isWithin_71 ?_
        refine j_eq (st' := [aI py]) ?_ (e1 := by first | rfl | (simp only [List.cons.injEq, and_true]; exact congrArg aI (hpy.symm)))
        refine j_istore C (lv' := [some (aR 100), some (aI w), some (aI sq), some (aI mx), some (aI my), some (aI o), some (aI k), some (aI ((40 * w) + k)), some (aI ((40 * w) + ((k + 1) % (A 115 w)))), some (aI py), none, none, none]) dX10_isWithin_72 (by decide) rfl ?_
        refine j_iconst C dX10_isWithin_74 ?_
        refine j_aload_n C dX10_isWithin_75 rfl rfl ?_
        refine j_getR C (j := 114) fl_X10_45 (sM_100 hS) rfl dX10_isWithin_76 ?_
        refine j_iload C dX10_isWithin_79 rfl ?_
        refine j_iald C (sM_114 hS) (by omega) (by omega) (by decide) dX10_isWithin_81 ?_
        refine j_eq (st' := [aI (A 114 (40 * w + (k + 1) % (A 115 w))), aI 2]) ?_
        refine j_imul C dX10_isWithin_82 ?_
        refine j_eq (st' := [aI qy]) ?_ (e1 := by first | rfl | (simp only [List.cons.injEq, and_true]; exact congrArg aI (hqy.symm)))
        refine j_istore C (lv' := [some (aR 100), some (aI w), some (aI sq), some (aI mx), some (aI my), some (aI o), some (aI k), some (aI ((40 * w) + k)), some (aI ((40 * w) + ((k + 1) % (A 115 w)))), some (aI py), some (aI qy), none, none]) dX10_isWithin_83 (by decide) rfl ?_
        refine j_iload C dX10_isWithin_85 rfl ?_
        refine j_iload C dX10_isWithin_87 rfl ?_
        refine j_icmp_le C (tgt := 96) dX10_isWithin_89 (by decide) ⟨by omega, by omega⟩ ⟨by omega, by omega⟩ (fun c89 => ?_) (fun c89 => ?_)
        · refine j_iconst C dX10_isWithin_96 ?_
          refine j_iload C dX10_isWithin_97 rfl ?_
          refine j_iload C dX10_isWithin_99 rfl ?_
          refine j_icmp_le C (tgt := 108) dX10_isWithin_101 (by decide) ⟨by omega, by omega⟩ ⟨by omega, by omega⟩ (fun c101 => ?_) (fun c101 => ?_)
          · refine j_iconst C dX10_isWithin_108 ?_
            refine j_icmp_ne C (tgt := 115) dX10_isWithin_109 (by decide) ⟨by omega, by omega⟩ ⟨by omega, by omega⟩ (fun c109 => ?_) (fun c109 => ?_)
            · exact absurd c109 (by decide)
            · refine j_goto C (tgt := 197) dX10_isWithin_112 (by decide) ?_
              refine j_iinc C (lv' := [some (aR 100), some (aI w), some (aI sq), some (aI mx), some (aI my), some (aI o), some (aI (k + 1)), some (aI ((40 * w) + k)), some (aI ((40 * w) + ((k + 1) % (A 115 w)))), some (aI py), some (aI qy), none, none]) dX10_isWithin_197 rfl (by decide) rfl ?_
              refine j_goto C (tgt := 25) dX10_isWithin_200 (by decide) ?_
              refine j_lv (lv' := [some (aR 100), some (aI w), some (aI sq), some (aI mx), some (aI my), some (aI o), some (aI (k + 1)), none, none, none, none, none, none]) ?_ ⟨rfl, rfl, rfl, rfl, rfl, rfl, rfl, trivial⟩
              exact ih25 o (k + 1) (by omega) (by rw [sm_step _ hk.1]; have ww : wcs (fun x => A 113 (40 * w + x)) (fun x => A 114 (40 * w + x)) (A 115 w) mx my k = 0 := wcs_no (by rw [← hpy, ← hqy]; omega); rw [ww]; omega) (by omega)
          · refine j_iconst C dX10_isWithin_104 ?_
            refine j_goto C (tgt := 109) dX10_isWithin_105 (by decide) ?_
            refine j_icmp_ne C (tgt := 115) dX10_isWithin_109 (by decide) ⟨by omega, by omega⟩ ⟨by omega, by omega⟩ (fun c109 => ?_) (fun c109 => ?_)
            · refine j_iload_n C dX10_isWithin_115 rfl rfl ?_
              refine j_iconst C dX10_isWithin_116 ?_
              refine j_aload_n C dX10_isWithin_117 rfl rfl ?_
              refine j_getR C (j := 113) fl_X10_42 (sM_100 hS) rfl dX10_isWithin_118 ?_
              refine j_iload C dX10_isWithin_121 rfl ?_
              refine j_iald C (sM_113 hS) (by omega) (by omega) (by decide) dX10_isWithin_123 ?_
              refine j_eq (st' := [aI (A 113 (40 * w + k)), aI 2, aI mx]) ?_
              refine j_imul C dX10_isWithin_124 ?_
              refine j_eq (st' := [aI px, aI mx]) ?_ (e1 := by first | rfl | (simp only [List.cons.injEq, and_true]; exact congrArg aI (hpx.symm)))
              refine j_isub C dX10_isWithin_125 ?_
              refine j_iload C dX10_isWithin_126 rfl ?_
              refine j_iload C dX10_isWithin_128 rfl ?_
              refine j_isub C dX10_isWithin_130 ?_
              refine j_imul C dX10_isWithin_131 ?_
              refine j_eq (st' := [aI lf]) ?_ (e1 := by first | rfl | (simp only [List.cons.injEq, and_true]; exact congrArg aI (hlf.symm)))
              refine j_istore C (lv' := [some (aR 100), some (aI w), some (aI sq), some (aI mx), some (aI my), some (aI o), some (aI k), some (aI ((40 * w) + k)), some (aI ((40 * w) + ((k + 1) % (A 115 w)))), some (aI py), some (aI qy), some (aI lf), none]) dX10_isWithin_132 (by decide) rfl ?_
              refine j_iload C dX10_isWithin_134 rfl ?_
              refine j_iload C dX10_isWithin_136 rfl ?_
              refine j_isub C dX10_isWithin_138 ?_
              refine j_iconst C dX10_isWithin_139 ?_
              refine j_aload_n C dX10_isWithin_140 rfl rfl ?_
              refine j_getR C (j := 113) fl_X10_42 (sM_100 hS) rfl dX10_isWithin_141 ?_
              refine j_iload C dX10_isWithin_144 rfl ?_
              refine j_iald C (sM_113 hS) (by omega) (by omega) (by decide) dX10_isWithin_146 ?_
              refine j_eq (st' := [aI (A 113 (40 * w + (k + 1) % (A 115 w))), aI 2, aI (my - py)]) ?_
              refine j_imul C dX10_isWithin_147 ?_
              refine j_eq (st' := [aI qx, aI (my - py)]) ?_ (e1 := by first | rfl | (simp only [List.cons.injEq, and_true]; exact congrArg aI (hqx.symm)))
              refine j_iconst C dX10_isWithin_148 ?_
              refine j_aload_n C dX10_isWithin_149 rfl rfl ?_
              refine j_getR C (j := 113) fl_X10_42 (sM_100 hS) rfl dX10_isWithin_150 ?_
              refine j_iload C dX10_isWithin_153 rfl ?_
              refine j_iald C (sM_113 hS) (by omega) (by omega) (by decide) dX10_isWithin_155 ?_
              refine j_eq (st' := [aI (A 113 (40 * w + k)), aI 2, aI qx, aI (my - py)]) ?_
              refine j_imul C dX10_isWithin_156 ?_
              refine j_eq (st' := [aI px, aI qx, aI (my - py)]) ?_ (e1 := by first | rfl | (simp only [List.cons.injEq, and_true]; exact congrArg aI (hpx.symm)))
              refine j_isub C dX10_isWithin_157 ?_
              refine j_imul C dX10_isWithin_158 ?_
              refine j_eq (st' := [aI rg]) ?_ (e1 := by first | rfl | (simp only [List.cons.injEq, and_true]; exact congrArg aI (hrg.symm)))
              refine j_istore C (lv' := [some (aR 100), some (aI w), some (aI sq), some (aI mx), some (aI my), some (aI o), some (aI k), some (aI ((40 * w) + k)), some (aI ((40 * w) + ((k + 1) % (A 115 w)))), some (aI py), some (aI qy), some (aI lf), some (aI rg)]) dX10_isWithin_159 (by decide) rfl ?_
              refine j_iload C dX10_isWithin_161 rfl ?_
              refine j_iload C dX10_isWithin_163 rfl ?_
              refine j_icmp_le C (tgt := 178) dX10_isWithin_165 (by decide) ⟨by omega, by omega⟩ ⟨by omega, by omega⟩ (fun c165 => ?_) (fun c165 => ?_)
              · refine j_iload C dX10_isWithin_178 rfl ?_
                refine j_iload C dX10_isWithin_180 rfl ?_
                refine j_icmp_le C (tgt := 197) dX10_isWithin_182 (by decide) rl rr (fun c182 => ?_) (fun c182 => ?_)
                · refine j_iinc C (lv' := [some (aR 100), some (aI w), some (aI sq), some (aI mx), some (aI my), some (aI o), some (aI (k + 1)), some (aI ((40 * w) + k)), some (aI ((40 * w) + ((k + 1) % (A 115 w)))), some (aI py), some (aI qy), some (aI lf), some (aI rg)]) dX10_isWithin_197 rfl (by decide) rfl ?_
                  refine j_goto C (tgt := 25) dX10_isWithin_200 (by decide) ?_
                  refine j_lv (lv' := [some (aR 100), some (aI w), some (aI sq), some (aI mx), some (aI my), some (aI o), some (aI (k + 1)), none, none, none, none, none, none]) ?_ ⟨rfl, rfl, rfl, rfl, rfl, rfl, rfl, trivial⟩
                  exact ih25 o (k + 1) (by omega) (by rw [sm_step _ hk.1]; have ww : wcs (fun x => A 113 (40 * w + x)) (fun x => A 114 (40 * w + x)) (A 115 w) mx my k = 0 := (by rw [wcs_dn (by rw [← hpy, ← hqy]; omega) (by rw [← hpy, ← hqy]; omega)]; (try dsimp only); rw [← hpy, ← hqy, ← hpx, ← hqx, ← hlf, ← hrg]; rw [if_neg (by omega)]); rw [ww]; omega) (by omega)
                · refine j_iload C dX10_isWithin_185 rfl ?_
                  refine j_if_ne C (tgt := 194) dX10_isWithin_187 (by decide) ⟨by omega, by omega⟩ (fun c187 => ?_) (fun c187 => ?_)
                  · refine j_iconst C dX10_isWithin_194 ?_
                    refine j_istore C (lv' := [some (aR 100), some (aI w), some (aI sq), some (aI mx), some (aI my), some (aI 0), some (aI k), some (aI ((40 * w) + k)), some (aI ((40 * w) + ((k + 1) % (A 115 w)))), some (aI py), some (aI qy), some (aI lf), some (aI rg)]) dX10_isWithin_195 (by decide) rfl ?_
                    refine j_iinc C (lv' := [some (aR 100), some (aI w), some (aI sq), some (aI mx), some (aI my), some (aI 0), some (aI (k + 1)), some (aI ((40 * w) + k)), some (aI ((40 * w) + ((k + 1) % (A 115 w)))), some (aI py), some (aI qy), some (aI lf), some (aI rg)]) dX10_isWithin_197 rfl (by decide) rfl ?_
                    refine j_goto C (tgt := 25) dX10_isWithin_200 (by decide) ?_
                    refine j_lv (lv' := [some (aR 100), some (aI w), some (aI sq), some (aI mx), some (aI my), some (aI 0), some (aI (k + 1)), none, none, none, none, none, none]) ?_ ⟨rfl, rfl, rfl, rfl, rfl, rfl, rfl, trivial⟩
                    exact ih25 0 (k + 1) (by omega) (by rw [sm_step _ hk.1]; have ww : wcs (fun x => A 113 (40 * w + x)) (fun x => A 114 (40 * w + x)) (A 115 w) mx my k = 1 := (by rw [wcs_dn (by rw [← hpy, ← hqy]; omega) (by rw [← hpy, ← hqy]; omega)]; (try dsimp only); rw [← hpy, ← hqy, ← hpx, ← hqx, ← hlf, ← hrg]; rw [if_pos (by omega)]); rw [ww]; omega) (by omega)
                  · refine j_iconst C dX10_isWithin_190 ?_
                    refine j_goto C (tgt := 195) dX10_isWithin_191 (by decide) ?_
                    refine j_istore C (lv' := [some (aR 100), some (aI w), some (aI sq), some (aI mx), some (aI my), some (aI 1), some (aI k), some (aI ((40 * w) + k)), some (aI ((40 * w) + ((k + 1) % (A 115 w)))), some (aI py), some (aI qy), some (aI lf), some (aI rg)]) dX10_isWithin_195 (by decide) rfl ?_
                    refine j_iinc C (lv' := [some (aR 100), some (aI w), some (aI sq), some (aI mx), some (aI my), some (aI 1), some (aI (k + 1)), some (aI ((40 * w) + k)), some (aI ((40 * w) + ((k + 1) % (A 115 w)))), some (aI py), some (aI qy), some (aI lf), some (aI rg)]) dX10_isWithin_197 rfl (by decide) rfl ?_
                    refine j_goto C (tgt := 25) dX10_isWithin_200 (by decide) ?_
                    refine j_lv (lv' := [some (aR 100), some (aI w), some (aI sq), some (aI mx), some (aI my), some (aI 1), some (aI (k + 1)), none, none, none, none, none, none]) ?_ ⟨rfl, rfl, rfl, rfl, rfl, rfl, rfl, trivial⟩
                    exact ih25 1 (k + 1) (by omega) (by rw [sm_step _ hk.1]; have ww : wcs (fun x => A 113 (40 * w + x)) (fun x => A 114 (40 * w + x)) (A 115 w) mx my k = 1 := (by rw [wcs_dn (by rw [← hpy, ← hqy]; omega) (by rw [← hpy, ← hqy]; omega)]; (try dsimp only); rw [← hpy, ← hqy, ← hpx, ← hqx, ← hlf, ← hrg]; rw [if_pos (by omega)]); rw [ww]; omega) (by omega)
              · refine j_iload C dX10_isWithin_168 rfl ?_
                refine j_iload C dX10_isWithin_170 rfl ?_
                refine j_icmp_ge C (tgt := 197) dX10_isWithin_172 (by decide) rl rr (fun c172 => ?_) (fun c172 => ?_)
                · refine j_iinc C (lv' := [some (aR 100), some (aI w), some (aI sq), some (aI mx), some (aI my), some (aI o), some (aI (k + 1)), some (aI ((40 * w) + k)), some (aI ((40 * w) + ((k + 1) % (A 115 w)))), some (aI py), some (aI qy), some (aI lf), some (aI rg)]) dX10_isWithin_197 rfl (by decide) rfl ?_
                  refine j_goto C (tgt := 25) dX10_isWithin_200 (by decide) ?_
                  refine j_lv (lv' := [some (aR 100), some (aI w), some (aI sq), some (aI mx), some (aI my), some (aI o), some (aI (k + 1)), none, none, none, none, none, none]) ?_ ⟨rfl, rfl, rfl, rfl, rfl, rfl, rfl, trivial⟩
                  exact ih25 o (k + 1) (by omega) (by rw [sm_step _ hk.1]; have ww : wcs (fun x => A 113 (40 * w + x)) (fun x => A 114 (40 * w + x)) (A 115 w) mx my k = 0 := (by rw [wcs_up (by rw [← hpy, ← hqy]; omega) (by rw [← hpy, ← hqy]; omega)]; (try dsimp only); rw [← hpy, ← hqy, ← hpx, ← hqx, ← hlf, ← hrg]; rw [if_neg (by omega)]); rw [ww]; omega) (by omega)
                · refine j_goto C (tgt := 185) dX10_isWithin_175 (by decide) ?_
                  refine j_iload C dX10_isWithin_185 rfl ?_
                  refine j_if_ne C (tgt := 194) dX10_isWithin_187 (by decide) ⟨by omega, by omega⟩ (fun c187 => ?_) (fun c187 => ?_)
                  · refine j_iconst C dX10_isWithin_194 ?_
                    refine j_istore C (lv' := [some (aR 100), some (aI w), some (aI sq), some (aI mx), some (aI my), some (aI 0), some (aI k), some (aI ((40 * w) + k)), some (aI ((40 * w) + ((k + 1) % (A 115 w)))), some (aI py), some (aI qy), some (aI lf), some (aI rg)]) dX10_isWithin_195 (by decide) rfl ?_
                    refine j_iinc C (lv' := [some (aR 100), some (aI w), some (aI sq), some (aI mx), some (aI my), some (aI 0), some (aI (k + 1)), some (aI ((40 * w) + k)), some (aI ((40 * w) + ((k + 1) % (A 115 w)))), some (aI py), some (aI qy), some (aI lf), some (aI rg)]) dX10_isWithin_197 rfl (by decide) rfl ?_
                    refine j_goto C (tgt := 25) dX10_isWithin_200 (by decide) ?_
                    refine j_lv (lv' := [some (aR 100), some (aI w), some (aI sq), some (aI mx), some (aI my), some (aI 0), some (aI (k + 1)), none, none, none, none, none, none]) ?_ ⟨rfl, rfl, rfl, rfl, rfl, rfl, rfl, trivial⟩
                    exact ih25 0 (k + 1) (by omega) (by rw [sm_step _ hk.1]; have ww : wcs (fun x => A 113 (40 * w + x)) (fun x => A 114 (40 * w + x)) (A 115 w) mx my k = 1 := (by rw [wcs_up (by rw [← hpy, ← hqy]; omega) (by rw [← hpy, ← hqy]; omega)]; (try dsimp only); rw [← hpy, ← hqy, ← hpx, ← hqx, ← hlf, ← hrg]; rw [if_pos (by omega)]); rw [ww]; omega) (by omega)
                  · refine j_iconst C dX10_isWithin_190 ?_
                    refine j_goto C (tgt := 195) dX10_isWithin_191 (by decide) ?_
                    refine j_istore C (lv' := [some (aR 100), some (aI w), some (aI sq), some (aI mx), some (aI my), some (aI 1), some (aI k), some (aI ((40 * w) + k)), some (aI ((40 * w) + ((k + 1) % (A 115 w)))), some (aI py), some (aI qy), some (aI lf), some (aI rg)]) dX10_isWithin_195 (by decide) rfl ?_
                    refine j_iinc C (lv' := [some (aR 100), some (aI w), some (aI sq), some (aI mx), some (aI my), some (aI 1), some (aI (k + 1)), some (aI ((40 * w) + k)), some (aI ((40 * w) + ((k + 1) % (A 115 w)))), some (aI py), some (aI qy), some (aI lf), some (aI rg)]) dX10_isWithin_197 rfl (by decide) rfl ?_
                    refine j_goto C (tgt := 25) dX10_isWithin_200 (by decide) ?_
                    refine j_lv (lv' := [some (aR 100), some (aI w), some (aI sq), some (aI mx), some (aI my), some (aI 1), some (aI (k + 1)), none, none, none, none, none, none]) ?_ ⟨rfl, rfl, rfl, rfl, rfl, rfl, rfl, trivial⟩
                    exact ih25 1 (k + 1) (by omega) (by rw [sm_step _ hk.1]; have ww : wcs (fun x => A 113 (40 * w + x)) (fun x => A 114 (40 * w + x)) (A 115 w) mx my k = 1 := (by rw [wcs_up (by rw [← hpy, ← hqy]; omega) (by rw [← hpy, ← hqy]; omega)]; (try dsimp only); rw [← hpy, ← hqy, ← hpx, ← hqx, ← hlf, ← hrg]; rw [if_pos (by omega)]); rw [ww]; omega) (by omega)
            · exact absurd c109 (by decide)
        · refine j_iconst C dX10_isWithin_92 ?_
          refine j_goto C (tgt := 97) dX10_isWithin_93 (by decide) ?_
          refine j_iload C dX10_isWithin_97 rfl ?_
          refine j_iload C dX10_isWithin_99 rfl ?_
          refine j_icmp_le C (tgt := 108) dX10_isWithin_101 (by decide) ⟨by omega, by omega⟩ ⟨by omega, by omega⟩ (fun c101 => ?_) (fun c101 => ?_)
          · refine j_iconst C dX10_isWithin_108 ?_
            refine j_icmp_ne C (tgt := 115) dX10_isWithin_109 (by decide) ⟨by omega, by omega⟩ ⟨by omega, by omega⟩ (fun c109 => ?_) (fun c109 => ?_)
            · refine j_iload_n C dX10_isWithin_115 rfl rfl ?_
              refine j_iconst C dX10_isWithin_116 ?_
              refine j_aload_n C dX10_isWithin_117 rfl rfl ?_
              refine j_getR C (j := 113) fl_X10_42 (sM_100 hS) rfl dX10_isWithin_118 ?_
              refine j_iload C dX10_isWithin_121 rfl ?_
              refine j_iald C (sM_113 hS) (by omega) (by omega) (by decide) dX10_isWithin_123 ?_
              refine j_eq (st' := [aI (A 113 (40 * w + k)), aI 2, aI mx]) ?_
              refine j_imul C dX10_isWithin_124 ?_
              refine j_eq (st' := [aI px, aI mx]) ?_ (e1 := by first | rfl | (simp only [List.cons.injEq, and_true]; exact congrArg aI (hpx.symm)))
              refine j_isub C dX10_isWithin_125 ?_
              refine j_iload C dX10_isWithin_126 rfl ?_
              refine j_iload C dX10_isWithin_128 rfl ?_
              refine j_isub C dX10_isWithin_130 ?_
              refine j_imul C dX10_isWithin_131 ?_
              refine j_eq (st' := [aI lf]) ?_ (e1 := by first | rfl | (simp only [List.cons.injEq, and_true]; exact congrArg aI (hlf.symm)))
              refine j_istore C (lv' := [some (aR 100), some (aI w), some (aI sq), some (aI mx), some (aI my), some (aI o), some (aI k), some (aI ((40 * w) + k)), some (aI ((40 * w) + ((k + 1) % (A 115 w)))), some (aI py), some (aI qy), some (aI lf), none]) dX10_isWithin_132 (by decide) rfl ?_
              refine j_iload C dX10_isWithin_134 rfl ?_
              refine j_iload C dX10_isWithin_136 rfl ?_
              refine j_isub C dX10_isWithin_138 ?_
              refine j_iconst C dX10_isWithin_139 ?_
              refine j_aload_n C dX10_isWithin_140 rfl rfl ?_
              refine j_getR C (j := 113) fl_X10_42 (sM_100 hS) rfl dX10_isWithin_141 ?_
              refine j_iload C dX10_isWithin_144 rfl ?_
              refine j_iald C (sM_113 hS) (by omega) (by omega) (by decide) dX10_isWithin_146 ?_
              refine j_eq (st' := [aI (A 113 (40 * w + (k + 1) % (A 115 w))), aI 2, aI (my - py)]) ?_
              refine j_imul C dX10_isWithin_147 ?_
              refine j_eq (st' := [aI qx, aI (my - py)]) ?_ (e1 := by first | rfl | (simp only [List.cons.injEq, and_true]; exact congrArg aI (hqx.symm)))
              refine j_iconst C dX10_isWithin_148 ?_
              refine j_aload_n C dX10_isWithin_149 rfl rfl ?_
              refine j_getR C (j := 113) fl_X10_42 (sM_100 hS) rfl dX10_isWithin_150 ?_
              refine j_iload C dX10_isWithin_153 rfl ?_
              refine j_iald C (sM_113 hS) (by omega) (by omega) (by decide) dX10_isWithin_155 ?_
              refine j_eq (st' := [aI (A 113 (40 * w + k)), aI 2, aI qx, aI (my - py)]) ?_
              refine j_imul C dX10_isWithin_156 ?_
              refine j_eq (st' := [aI px, aI qx, aI (my - py)]) ?_ (e1 := by first | rfl | (simp only [List.cons.injEq, and_true]; exact congrArg aI (hpx.symm)))
              refine j_isub C dX10_isWithin_157 ?_
              refine j_imul C dX10_isWithin_158 ?_
              refine j_eq (st' := [aI rg]) ?_ (e1 := by first | rfl | (simp only [List.cons.injEq, and_true]; exact congrArg aI (hrg.symm)))
              refine j_istore C (lv' := [some (aR 100), some (aI w), some (aI sq), some (aI mx), some (aI my), some (aI o), some (aI k), some (aI ((40 * w) + k)), some (aI ((40 * w) + ((k + 1) % (A 115 w)))), some (aI py), some (aI qy), some (aI lf), some (aI rg)]) dX10_isWithin_159 (by decide) rfl ?_
              refine j_iload C dX10_isWithin_161 rfl ?_
              refine j_iload C dX10_isWithin_163 rfl ?_
              refine j_icmp_le C (tgt := 178) dX10_isWithin_165 (by decide) ⟨by omega, by omega⟩ ⟨by omega, by omega⟩ (fun c165 => ?_) (fun c165 => ?_)
              · refine j_iload C dX10_isWithin_178 rfl ?_
                refine j_iload C dX10_isWithin_180 rfl ?_
                refine j_icmp_le C (tgt := 197) dX10_isWithin_182 (by decide) rl rr (fun c182 => ?_) (fun c182 => ?_)
                · refine j_iinc C (lv' := [some (aR 100), some (aI w), some (aI sq), some (aI mx), some (aI my), some (aI o), some (aI (k + 1)), some (aI ((40 * w) + k)), some (aI ((40 * w) + ((k + 1) % (A 115 w)))), some (aI py), some (aI qy), some (aI lf), some (aI rg)]) dX10_isWithin_197 rfl (by decide) rfl ?_
                  refine j_goto C (tgt := 25) dX10_isWithin_200 (by decide) ?_
                  refine j_lv (lv' := [some (aR 100), some (aI w), some (aI sq), some (aI mx), some (aI my), some (aI o), some (aI (k + 1)), none, none, none, none, none, none]) ?_ ⟨rfl, rfl, rfl, rfl, rfl, rfl, rfl, trivial⟩
                  exact ih25 o (k + 1) (by omega) (by rw [sm_step _ hk.1]; have ww : wcs (fun x => A 113 (40 * w + x)) (fun x => A 114 (40 * w + x)) (A 115 w) mx my k = 0 := (by rw [wcs_dn (by rw [← hpy, ← hqy]; omega) (by rw [← hpy, ← hqy]; omega)]; (try dsimp only); rw [← hpy, ← hqy, ← hpx, ← hqx, ← hlf, ← hrg]; rw [if_neg (by omega)]); rw [ww]; omega) (by omega)
                · refine j_iload C dX10_isWithin_185 rfl ?_
                  refine j_if_ne C (tgt := 194) dX10_isWithin_187 (by decide) ⟨by omega, by omega⟩ (fun c187 => ?_) (fun c187 => ?_)
                  · refine j_iconst C dX10_isWithin_194 ?_
                    refine j_istore C (lv' := [some (aR 100), some (aI w), some (aI sq), some (aI mx), some (aI my), some (aI 0), some (aI k), some (aI ((40 * w) + k)), some (aI ((40 * w) + ((k + 1) % (A 115 w)))), some (aI py), some (aI qy), some (aI lf), some (aI rg)]) dX10_isWithin_195 (by decide) rfl ?_
                    refine j_iinc C (lv' := [some (aR 100), some (aI w), some (aI sq), some (aI mx), some (aI my), some (aI 0), some (aI (k + 1)), some (aI ((40 * w) + k)), some (aI ((40 * w) + ((k + 1) % (A 115 w)))), some (aI py), some (aI qy), some (aI lf), some (aI rg)]) dX10_isWithin_197 rfl (by decide) rfl ?_
                    refine j_goto C (tgt := 25) dX10_isWithin_200 (by decide) ?_
                    refine j_lv (lv' := [some (aR 100), some (aI w), some (aI sq), some (aI mx), some (aI my), some (aI 0), some (aI (k + 1)), none, none, none, none, none, none]) ?_ ⟨rfl, rfl, rfl, rfl, rfl, rfl, rfl, trivial⟩
                    exact ih25 0 (k + 1) (by omega) (by rw [sm_step _ hk.1]; have ww : wcs (fun x => A 113 (40 * w + x)) (fun x => A 114 (40 * w + x)) (A 115 w) mx my k = 1 := (by rw [wcs_dn (by rw [← hpy, ← hqy]; omega) (by rw [← hpy, ← hqy]; omega)]; (try dsimp only); rw [← hpy, ← hqy, ← hpx, ← hqx, ← hlf, ← hrg]; rw [if_pos (by omega)]); rw [ww]; omega) (by omega)
                  · refine j_iconst C dX10_isWithin_190 ?_
                    refine j_goto C (tgt := 195) dX10_isWithin_191 (by decide) ?_
                    refine j_istore C (lv' := [some (aR 100), some (aI w), some (aI sq), some (aI mx), some (aI my), some (aI 1), some (aI k), some (aI ((40 * w) + k)), some (aI ((40 * w) + ((k + 1) % (A 115 w)))), some (aI py), some (aI qy), some (aI lf), some (aI rg)]) dX10_isWithin_195 (by decide) rfl ?_
                    refine j_iinc C (lv' := [some (aR 100), some (aI w), some (aI sq), some (aI mx), some (aI my), some (aI 1), some (aI (k + 1)), some (aI ((40 * w) + k)), some (aI ((40 * w) + ((k + 1) % (A 115 w)))), some (aI py), some (aI qy), some (aI lf), some (aI rg)]) dX10_isWithin_197 rfl (by decide) rfl ?_
                    refine j_goto C (tgt := 25) dX10_isWithin_200 (by decide) ?_
                    refine j_lv (lv' := [some (aR 100), some (aI w), some (aI sq), some (aI mx), some (aI my), some (aI 1), some (aI (k + 1)), none, none, none, none, none, none]) ?_ ⟨rfl, rfl, rfl, rfl, rfl, rfl, rfl, trivial⟩
                    exact ih25 1 (k + 1) (by omega) (by rw [sm_step _ hk.1]; have ww : wcs (fun x => A 113 (40 * w + x)) (fun x => A 114 (40 * w + x)) (A 115 w) mx my k = 1 := (by rw [wcs_dn (by rw [← hpy, ← hqy]; omega) (by rw [← hpy, ← hqy]; omega)]; (try dsimp only); rw [← hpy, ← hqy, ← hpx, ← hqx, ← hlf, ← hrg]; rw [if_pos (by omega)]); rw [ww]; omega) (by omega)
              · refine j_iload C dX10_isWithin_168 rfl ?_
                refine j_iload C dX10_isWithin_170 rfl ?_
                refine j_icmp_ge C (tgt := 197) dX10_isWithin_172 (by decide) rl rr (fun c172 => ?_) (fun c172 => ?_)
                · refine j_iinc C (lv' := [some (aR 100), some (aI w), some (aI sq), some (aI mx), some (aI my), some (aI o), some (aI (k + 1)), some (aI ((40 * w) + k)), some (aI ((40 * w) + ((k + 1) % (A 115 w)))), some (aI py), some (aI qy), some (aI lf), some (aI rg)]) dX10_isWithin_197 rfl (by decide) rfl ?_
                  refine j_goto C (tgt := 25) dX10_isWithin_200 (by decide) ?_
                  refine j_lv (lv' := [some (aR 100), some (aI w), some (aI sq), some (aI mx), some (aI my), some (aI o), some (aI (k + 1)), none, none, none, none, none, none]) ?_ ⟨rfl, rfl, rfl, rfl, rfl, rfl, rfl, trivial⟩
                  exact ih25 o (k + 1) (by omega) (by rw [sm_step _ hk.1]; have ww : wcs (fun x => A 113 (40 * w + x)) (fun x => A 114 (40 * w + x)) (A 115 w) mx my k = 0 := (by rw [wcs_up (by rw [← hpy, ← hqy]; omega) (by rw [← hpy, ← hqy]; omega)]; (try dsimp only); rw [← hpy, ← hqy, ← hpx, ← hqx, ← hlf, ← hrg]; rw [if_neg (by omega)]); rw [ww]; omega) (by omega)
                · refine j_goto C (tgt := 185) dX10_isWithin_175 (by decide) ?_
                  refine j_iload C dX10_isWithin_185 rfl ?_
                  refine j_if_ne C (tgt := 194) dX10_isWithin_187 (by decide) ⟨by omega, by omega⟩ (fun c187 => ?_) (fun c187 => ?_)
                  · refine j_iconst C dX10_isWithin_194 ?_
                    refine j_istore C (lv' := [some (aR 100), some (aI w), some (aI sq), some (aI mx), some (aI my), some (aI 0), some (aI k), some (aI ((40 * w) + k)), some (aI ((40 * w) + ((k + 1) % (A 115 w)))), some (aI py), some (aI qy), some (aI lf), some (aI rg)]) dX10_isWithin_195 (by decide) rfl ?_
                    refine j_iinc C (lv' := [some (aR 100), some (aI w), some (aI sq), some (aI mx), some (aI my), some (aI 0), some (aI (k + 1)), some (aI ((40 * w) + k)), some (aI ((40 * w) + ((k + 1) % (A 115 w)))), some (aI py), some (aI qy), some (aI lf), some (aI rg)]) dX10_isWithin_197 rfl (by decide) rfl ?_
                    refine j_goto C (tgt := 25) dX10_isWithin_200 (by decide) ?_
                    refine j_lv (lv' := [some (aR 100), some (aI w), some (aI sq), some (aI mx), some (aI my), some (aI 0), some (aI (k + 1)), none, none, none, none, none, none]) ?_ ⟨rfl, rfl, rfl, rfl, rfl, rfl, rfl, trivial⟩
                    exact ih25 0 (k + 1) (by omega) (by rw [sm_step _ hk.1]; have ww : wcs (fun x => A 113 (40 * w + x)) (fun x => A 114 (40 * w + x)) (A 115 w) mx my k = 1 := (by rw [wcs_up (by rw [← hpy, ← hqy]; omega) (by rw [← hpy, ← hqy]; omega)]; (try dsimp only); rw [← hpy, ← hqy, ← hpx, ← hqx, ← hlf, ← hrg]; rw [if_pos (by omega)]); rw [ww]; omega) (by omega)
                  · refine j_iconst C dX10_isWithin_190 ?_
                    refine j_goto C (tgt := 195) dX10_isWithin_191 (by decide) ?_
                    refine j_istore C (lv' := [some (aR 100), some (aI w), some (aI sq), some (aI mx), some (aI my), some (aI 1), some (aI k), some (aI ((40 * w) + k)), some (aI ((40 * w) + ((k + 1) % (A 115 w)))), some (aI py), some (aI qy), some (aI lf), some (aI rg)]) dX10_isWithin_195 (by decide) rfl ?_
                    refine j_iinc C (lv' := [some (aR 100), some (aI w), some (aI sq), some (aI mx), some (aI my), some (aI 1), some (aI (k + 1)), some (aI ((40 * w) + k)), some (aI ((40 * w) + ((k + 1) % (A 115 w)))), some (aI py), some (aI qy), some (aI lf), some (aI rg)]) dX10_isWithin_197 rfl (by decide) rfl ?_
                    refine j_goto C (tgt := 25) dX10_isWithin_200 (by decide) ?_
                    refine j_lv (lv' := [some (aR 100), some (aI w), some (aI sq), some (aI mx), some (aI my), some (aI 1), some (aI (k + 1)), none, none, none, none, none, none]) ?_ ⟨rfl, rfl, rfl, rfl, rfl, rfl, rfl, trivial⟩
                    exact ih25 1 (k + 1) (by omega) (by rw [sm_step _ hk.1]; have ww : wcs (fun x => A 113 (40 * w + x)) (fun x => A 114 (40 * w + x)) (A 115 w) mx my k = 1 := (by rw [wcs_up (by rw [← hpy, ← hqy]; omega) (by rw [← hpy, ← hqy]; omega)]; (try dsimp only); rw [← hpy, ← hqy, ← hpx, ← hqx, ← hlf, ← hrg]; rw [if_pos (by omega)]); rw [ww]; omega) (by omega)
            · exact absurd c109 (by decide)
          · refine j_iconst C dX10_isWithin_104 ?_
            refine j_goto C (tgt := 109) dX10_isWithin_105 (by decide) ?_
            refine j_icmp_ne C (tgt := 115) dX10_isWithin_109 (by decide) ⟨by omega, by omega⟩ ⟨by omega, by omega⟩ (fun c109 => ?_) (fun c109 => ?_)
            · exact absurd c109 (by decide)
            · refine j_goto C (tgt := 197) dX10_isWithin_112 (by decide) ?_
              refine j_iinc C (lv' := [some (aR 100), some (aI w), some (aI sq), some (aI mx), some (aI my), some (aI o), some (aI (k + 1)), some (aI ((40 * w) + k)), some (aI ((40 * w) + ((k + 1) % (A 115 w)))), some (aI py), some (aI qy), none, none]) dX10_isWithin_197 rfl (by decide) rfl ?_
              refine j_goto C (tgt := 25) dX10_isWithin_200 (by decide) ?_
              refine j_lv (lv' := [some (aR 100), some (aI w), some (aI sq), some (aI mx), some (aI my), some (aI o), some (aI (k + 1)), none, none, none, none, none, none]) ?_ ⟨rfl, rfl, rfl, rfl, rfl, rfl, rfl, trivial⟩
              exact ih25 o (k + 1) (by omega) (by rw [sm_step _ hk.1]; have ww : wcs (fun x => A 113 (40 * w + x)) (fun x => A 114 (40 * w + x)) (A 115 w) mx my k = 0 := wcs_no (by rw [← hpy, ← hqy]; omega); rw [ww]; omega) (by omega)
  exact K25 _ 0 0 (by omega) rfl (Nat.lt_succ_self _)

set_option maxHeartbeats 4000000 in
set_option maxRecDepth 100000 in
theorem m_least (l : Launch) (S : ab_St) (F : ab_Fn) (A : ab_An) (hS : ab_SM S) (s : Int) (h1 : 0 ≤ s ∧ s < 280) (hf : ∀ k, 0 ≤ k → k < 280 → 0 ≤ A 136 k ∧ A 136 k ≤ 1000000) : ab_Met l yX10_least cX10_least 6 (some .int) { frames := 1, cells := 0, slots := 0, locals := 30 } 0 0 [aR 100, aI s] S F A (fun v S' F' A' => S = S' ∧ F = F' ∧ A = A' ∧ v = some (aI (lsd (A 136) s 9))) := by
  refine ab_enter (by decide) (by simp [aI, aR, aX, ab_val, Value.category]) (Nat.le_of_ble_eq_true rfl) (fun E C hr => ?_)
  refine j_eq (lv' := [some (aR 100), some (aI s), none, none, none, none]) ?_
  refine j_aload_n C dX10_least_0 rfl rfl ?_
  refine j_getR C (j := 136) fl_X10_91 (sM_100 hS) rfl dX10_least_1 ?_
  refine j_iload_n C dX10_least_4 rfl rfl ?_
  refine j_iald C (sM_136 hS) (by omega) (by omega) (by decide) dX10_least_5 ?_
  refine j_istore_n C (lv' := [some (aR 100), some (aI s), some (aI (A 136 s)), none, none, none]) dX10_least_6 rfl (by decide) rfl ?_
  refine j_iconst C dX10_least_7 ?_
  refine j_istore_n C (lv' := [some (aR 100), some (aI s), some (aI (A 136 s)), some (aI 0), none, none]) dX10_least_8 rfl (by decide) rfl ?_
  have K9 : ∀ (N : Nat) (m d : Int), (0 ≤ d ∧ d ≤ 9) → (m = lsd (A 136) s d.toNat) → (0 ≤ m ∧ m ≤ 1000000) → ((9 - d).toNat) < N → ab_J E 6 0 0 S F A 9 [some (aR 100), some (aI s), some (aI m), some (aI d), none, none] [] := by
    intro N
    induction N with
    | zero => intro m d hd hmm hmr hm; exact absurd hm (Nat.not_lt_zero _)
    | succ N ih =>
      have ih9 := ih
      clear ih
      intro m d hd hmm hmr hm9
      refine j_iload_n C dX10_least_9 rfl rfl ?_
      refine j_bipush C dX10_least_10 rfl ?_
      refine j_icmp_ge C (tgt := 95) dX10_least_12 (by decide) ⟨by omega, by omega⟩ ⟨by omega, by omega⟩ (fun c12 => ?_) (fun c12 => ?_)
      · refine j_iload_n C dX10_least_95 rfl rfl ?_
        exact j_iret C hr (Nat.le_refl _) (Nat.le_refl _) dX10_least_96 ⟨rfl, rfl, rfl, by have e : d.toNat = 9 := (by omega); rw [hmm, e]⟩
      · refine j_iload_n C dX10_least_15 rfl rfl ?_
        refine j_bipush C dX10_least_16 rfl ?_
        refine j_irem C dX10_least_18 (by omega) (by omega) (by omega) (by omega) ?_
        refine j_iload_n C dX10_least_19 rfl rfl ?_
        refine j_iconst C dX10_least_20 ?_
        refine j_irem C dX10_least_21 (by omega) (by omega) (by omega) (by omega) ?_
        refine j_iadd C dX10_least_22 ?_
        refine j_iconst C dX10_least_23 ?_
        obtain ⟨x, hx⟩ : ∃ x : Int, x = s % 20 + d % 3 - 1 := ⟨_, rfl⟩
        refine j_isub C dX10_least_24 ?_
        refine j_eq (st' := [aI x]) ?_ (e1 := by first | rfl | (simp only [List.cons.injEq, and_true]; exact congrArg aI (hx.symm)))
        refine j_istore C (lv' := [some (aR 100), some (aI s), some (aI m), some (aI d), some (aI x), none]) dX10_least_25 (by decide) rfl ?_
        refine j_iload_n C dX10_least_27 rfl rfl ?_
        refine j_bipush C dX10_least_28 rfl ?_
        refine j_idiv C dX10_least_30 (by omega) (by omega) (by omega) (by omega) ?_
        refine j_iload_n C dX10_least_31 rfl rfl ?_
        refine j_iconst C dX10_least_32 ?_
        refine j_idiv C dX10_least_33 (by omega) (by omega) (by omega) (by omega) ?_
        refine j_iadd C dX10_least_34 ?_
        refine j_iconst C dX10_least_35 ?_
        obtain ⟨y, hy⟩ : ∃ y : Int, y = s / 20 + d / 3 - 1 := ⟨_, rfl⟩
        refine j_isub C dX10_least_36 ?_
        refine j_eq (st' := [aI y]) ?_ (e1 := by first | rfl | (simp only [List.cons.injEq, and_true]; exact congrArg aI (hy.symm)))
        refine j_istore C (lv' := [some (aR 100), some (aI s), some (aI m), some (aI d), some (aI x), some (aI y)]) dX10_least_37 (by decide) rfl ?_
        refine j_iload_n C dX10_least_39 rfl rfl ?_
        refine j_iconst C dX10_least_40 ?_
        refine j_icmp_eq C (tgt := 89) dX10_least_41 (by decide) ⟨by omega, by omega⟩ ⟨by omega, by omega⟩ (fun c41 => ?_) (fun c41 => ?_)
        · refine j_iinc C (lv' := [some (aR 100), some (aI s), some (aI m), some (aI (d + 1)), some (aI x), some (aI y)]) dX10_least_89 rfl (by decide) rfl ?_
          refine j_goto C (tgt := 9) dX10_least_92 (by decide) ?_
          refine j_lv (lv' := [some (aR 100), some (aI s), some (aI m), some (aI (d + 1)), none, none]) ?_ ⟨rfl, rfl, rfl, rfl, trivial⟩
          exact ih9 m (d + 1) (by omega) (by first | (rw [lsd_no hd.1 hx hy (Or.inl (by omega))]; exact hmm) | (rw [lsd_no hd.1 hx hy (Or.inr hz_48)]; exact hmm) | (rw [lsd_yes hd.1 hx hy (by omega) hz_48, ← hmm]; first | rw [if_pos (by omega)] | rw [if_neg (by omega)])) (by omega) (by omega)
        · refine j_iload C dX10_least_44 rfl ?_
          refine j_iload C dX10_least_46 rfl ?_
          refine j_callS C (vs := [aI x, aI y]) (st := []) cl_X10_126 sc_yX10_isSea (fun _ => m_isSea _ S F A hS _ _ ⟨by omega, by omega⟩ ⟨by omega, by omega⟩) rfl ⟨rfl, rfl, by decide, by decide⟩ ⟨by decide, by decide⟩ (fun _ => Nat.le_of_ble_eq_true rfl) (fun v hv => by cases hv) (fun v hv => by simp only [List.mem_cons, List.not_mem_nil, or_false, Option.some.injEq, reduceCtorEq, false_or] at hv; rcases hv with rfl | rfl | rfl | rfl | rfl | rfl <;> first | exact (lM_100 hS) | exact trivial) dX10_least_48 (fun v_48 S_48 F_48 A_48 hP_48 => ?_)
          obtain ⟨rfl, rfl, rfl, z_48, rfl, ⟨rfl, hz_48⟩ | ⟨rfl, hz_48⟩⟩ := hP_48
          · show ab_J E 6 0 0 S F A 51 [some (aR 100), some (aI s), some (aI m), some (aI d), some (aI x), some (aI y)] [aI 1]
            refine j_if_ne C (tgt := 57) dX10_least_51 (by decide) ⟨by omega, by omega⟩ (fun c51 => ?_) (fun c51 => ?_)
            · refine j_iload_n C dX10_least_57 rfl rfl ?_
              refine j_aload_n C dX10_least_58 rfl rfl ?_
              refine j_getR C (j := 136) fl_X10_91 (sM_100 hS) rfl dX10_least_59 ?_
              refine j_bipush C dX10_least_62 rfl ?_
              refine j_iload C dX10_least_64 rfl ?_
              refine j_imul C dX10_least_66 ?_
              refine j_iload C dX10_least_67 rfl ?_
              refine j_iadd C dX10_least_69 ?_
              have hff := hf (20 * y + x) (by omega) (by omega)
              refine j_iald C (sM_136 hS) (by omega) (by omega) (by decide) dX10_least_70 ?_
              refine j_iload_n C dX10_least_71 rfl rfl ?_
              refine j_iconst C dX10_least_72 ?_
              refine j_irem C dX10_least_73 (by omega) (by omega) (by omega) (by omega) ?_
              refine j_iconst C dX10_least_74 ?_
              refine j_icmp_ne C (tgt := 82) dX10_least_75 (by decide) ⟨by omega, by omega⟩ ⟨by omega, by omega⟩ (fun c75 => ?_) (fun c75 => ?_)
              · refine j_bipush C dX10_least_82 rfl ?_
                refine j_iadd C dX10_least_84 ?_
                refine j_mmin C (ab_t5 (List.mem_of_getElem? (i := 154) rfl) rfl) ⟨by omega, by omega⟩ ⟨by omega, by omega⟩ (by decide) (fun _ => Nat.le_of_ble_eq_true rfl) ⟨by decide, by decide⟩ dX10_least_85 ?_
                refine j_istore_n C (lv' := [some (aR 100), some (aI s), some (aI ((min m ((A 136 ((20 * y) + x)) + 7) : Int))), some (aI d), some (aI x), some (aI y)]) dX10_least_88 rfl (by decide) rfl ?_
                refine j_iinc C (lv' := [some (aR 100), some (aI s), some (aI ((min m ((A 136 ((20 * y) + x)) + 7) : Int))), some (aI (d + 1)), some (aI x), some (aI y)]) dX10_least_89 rfl (by decide) rfl ?_
                refine j_goto C (tgt := 9) dX10_least_92 (by decide) ?_
                refine j_lv (lv' := [some (aR 100), some (aI s), some (aI ((min m ((A 136 ((20 * y) + x)) + 7) : Int))), some (aI (d + 1)), none, none]) ?_ ⟨rfl, rfl, rfl, rfl, trivial⟩
                exact ih9 ((min m ((A 136 ((20 * y) + x)) + 7) : Int)) (d + 1) (by omega) (by first | (rw [lsd_no hd.1 hx hy (Or.inl (by omega))]; exact hmm) | (rw [lsd_no hd.1 hx hy (Or.inr hz_48)]; exact hmm) | (rw [lsd_yes hd.1 hx hy (by omega) hz_48, ← hmm]; first | rw [if_pos (by omega)] | rw [if_neg (by omega)])) (by omega) (by omega)
              · refine j_iconst C dX10_least_78 ?_
                refine j_goto C (tgt := 84) dX10_least_79 (by decide) ?_
                refine j_iadd C dX10_least_84 ?_
                refine j_mmin C (ab_t5 (List.mem_of_getElem? (i := 154) rfl) rfl) ⟨by omega, by omega⟩ ⟨by omega, by omega⟩ (by decide) (fun _ => Nat.le_of_ble_eq_true rfl) ⟨by decide, by decide⟩ dX10_least_85 ?_
                refine j_istore_n C (lv' := [some (aR 100), some (aI s), some (aI ((min m ((A 136 ((20 * y) + x)) + 5) : Int))), some (aI d), some (aI x), some (aI y)]) dX10_least_88 rfl (by decide) rfl ?_
                refine j_iinc C (lv' := [some (aR 100), some (aI s), some (aI ((min m ((A 136 ((20 * y) + x)) + 5) : Int))), some (aI (d + 1)), some (aI x), some (aI y)]) dX10_least_89 rfl (by decide) rfl ?_
                refine j_goto C (tgt := 9) dX10_least_92 (by decide) ?_
                refine j_lv (lv' := [some (aR 100), some (aI s), some (aI ((min m ((A 136 ((20 * y) + x)) + 5) : Int))), some (aI (d + 1)), none, none]) ?_ ⟨rfl, rfl, rfl, rfl, trivial⟩
                exact ih9 ((min m ((A 136 ((20 * y) + x)) + 5) : Int)) (d + 1) (by omega) (by first | (rw [lsd_no hd.1 hx hy (Or.inl (by omega))]; exact hmm) | (rw [lsd_no hd.1 hx hy (Or.inr hz_48)]; exact hmm) | (rw [lsd_yes hd.1 hx hy (by omega) hz_48, ← hmm]; first | rw [if_pos (by omega)] | rw [if_neg (by omega)])) (by omega) (by omega)
            · exact absurd c51 (by decide)
          · show ab_J E 6 0 0 S F A 51 [some (aR 100), some (aI s), some (aI m), some (aI d), some (aI x), some (aI y)] [aI 0]
            refine j_if_ne C (tgt := 57) dX10_least_51 (by decide) ⟨by omega, by omega⟩ (fun c51 => ?_) (fun c51 => ?_)
            · exact absurd c51 (by decide)
            · refine j_goto C (tgt := 89) dX10_least_54 (by decide) ?_
              refine j_iinc C (lv' := [some (aR 100), some (aI s), some (aI m), some (aI (d + 1)), some (aI x), some (aI y)]) dX10_least_89 rfl (by decide) rfl ?_
              refine j_goto C (tgt := 9) dX10_least_92 (by decide) ?_
              refine j_lv (lv' := [some (aR 100), some (aI s), some (aI m), some (aI (d + 1)), none, none]) ?_ ⟨rfl, rfl, rfl, rfl, trivial⟩
              exact ih9 m (d + 1) (by omega) (by first | (rw [lsd_no hd.1 hx hy (Or.inl (by omega))]; exact hmm) | (rw [lsd_no hd.1 hx hy (Or.inr hz_48)]; exact hmm) | (rw [lsd_yes hd.1 hx hy (by omega) hz_48, ← hmm]; first | rw [if_pos (by omega)] | rw [if_neg (by omega)])) (by omega) (by omega)
  exact K9 _ (A 136 s) 0 (by omega) rfl (hf s h1.1 h1.2) (Nat.lt_succ_self _)
