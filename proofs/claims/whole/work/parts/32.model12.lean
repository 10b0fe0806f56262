theorem upF_n28 {F : ab_Fn} {i : Nat} {a b c d : Int} : upF (upF (upF (upF F i 28 a) i 30 b) i 32 c) i 28 d = upF (upF (upF F i 28 d) i 30 b) i 32 c := by
  rw [upF_c (k := 32) (k' := 28) (by decide), upF_c (k := 30) (k' := 28) (by decide), upF_up]
theorem upF_n30 {F : ab_Fn} {i : Nat} {a b c d : Int} : upF (upF (upF (upF F i 28 a) i 30 b) i 32 c) i 30 d = upF (upF (upF F i 28 a) i 30 d) i 32 c := by
  rw [upF_c (k := 32) (k' := 30) (by decide), upF_up]
/-- a new warning in the rows -/
def NW (A A' : ab_An) (W now n : Int) (X Y : Int → Int) : Prop := (∀ j, A' 113 j = if 40 * W ≤ j ∧ j < 40 * W + n then X (j - 40 * W) else A 113 j) ∧ (∀ j, A' 114 j = if 40 * W ≤ j ∧ j < 40 * W + n then Y (j - 40 * W) else A 114 j) ∧ (∀ j, A' 115 j = if j = W then n else A 115 j) ∧ (∀ j, A' 116 j = if j = W then now else A 116 j) ∧ ∀ j, A' 117 j = if j = W then -1 else A 117 j
def fsX (L : List (Int × Int)) (k : Int) : Int := (L.getD k.toNat (0, 0)).1
def snY (L : List (Int × Int)) (k : Int) : Int := (L.getD k.toNat (0, 0)).2
theorem cnr_at {X Y : Int → Int} {n k : Int} {L : List (Int × Int)} (h : cnr X Y n L) (h0 : 0 ≤ k) (h1 : k < n) : X k = fsX L k ∧ Y k = snY L k := by
  have q := h.2.1 k.toNat (by have := h.1; omega)
  rw [show ((k.toNat : Nat) : Int) = k by omega] at q
  exact q
theorem cnr_rng {X Y : Int → Int} {n k : Int} {L : List (Int × Int)} (h : cnr X Y n L) (h0 : 0 ≤ k) (h1 : k < n) : 0 ≤ fsX L k ∧ fsX L k ≤ 20 ∧ 0 ≤ snY L k ∧ snY L k ≤ 14 := by
  have hl : k.toNat < L.length := by have := h.1; omega
  have q := h.2.2 _ (List.getElem_mem hl)
  unfold fsX snY
  rw [List.getD_eq_getElem?_getD, List.getElem?_eq_getElem hl]
  exact q

set_option maxHeartbeats 4000000 in
set_option maxRecDepth 100000 in
theorem m_readRing (l : Launch) (S : ab_St) (F : ab_Fn) (A : ab_An) (hS : ab_SM S) (he : 0 ≤ F 100 29 ∧ F 100 29 ≤ 400) (hT : ∀ i, 0 ≤ i → i < F 100 29 → -128 ≤ A 125 i ∧ A 125 i ≤ 127) : ab_Met l yX10_readRing cX10_readRing 3 (some .boolean) { frames := 6, cells := 0, slots := 0, locals := 129 } 0 0 [aR 100] S F A (fun v S' F' A' => S = S' ∧ ∃ z a b c : Int, v = some (aI z) ∧ F' = upF (upF (upF F 100 28 a) 100 30 b) 100 32 c ∧ (∀ i, i ≠ 133 → i ≠ 134 → A' i = A i) ∧ ((z = 1 ∧ ∃ L, rdS (byt (A 125) (F 100 29)) (F 100 29) = (-1, L) ∧ cnr (A' 133) (A' 134) c L ∧ 3 ≤ L.length ∧ L.length ≤ 40) ∨ (z = 0 ∧ (rdS (byt (A 125) (F 100 29)) (F 100 29)).1 = b ∧ 0 ≤ b ∧ b ≤ F 100 29))) := by
  refine ab_enter (by decide) (by simp [aI, aR, aX, ab_val, Value.category]) (Nat.le_of_ble_eq_true rfl) (fun E C hr => ?_)
  refine j_eq (lv' := [some (aR 100), none, none]) ?_
  refine j_aload_n C dX10_readRing_0 rfl rfl ?_
  refine j_iconst C dX10_readRing_1 ?_
  refine j_putI C fp_X10_181 (sM_100 hS) rfl dX10_readRing_2 ?_
  refine j_aload_n C dX10_readRing_5 rfl rfl ?_
  refine j_iconst C dX10_readRing_6 ?_
  refine j_putI C fp_X10_206 (sM_100 hS) rfl dX10_readRing_7 ?_
  refine j_aload_n C dX10_readRing_10 rfl rfl ?_
  refine j_ldcS C (tx := "ring") 4 (by decide) rfl (lw_t5 (List.mem_of_getElem? (i := 225) rfl)) dX10_readRing_11 ?_
  refine j_callV C (vs := [aR (1000000 + 4)]) (st := []) cl_X10_211 im_yX10_readWord se_yX10_readWord (fun _ => m_readWord _ S (upF (upF F 100 28 0) 100 32 0) A hS _ (by decide) (by show 0 ≤ 0 ∧ 0 ≤ F 100 29 ∧ F 100 29 ≤ 400; omega) hT) (sM_100 hS) rfl rfl rfl ⟨rfl, rfl, by decide, by decide⟩ ⟨by decide, by decide⟩ (fun _ => Nat.le_of_ble_eq_true rfl) (fun v hv => by cases hv) (fun v hv => by simp only [List.mem_cons, List.not_mem_nil, or_false, Option.some.injEq, reduceCtorEq, false_or] at hv; rcases hv with rfl <;> first | exact (lM_100 hS)) dX10_readRing_13 (fun v_13 S_13 F_13 A_13 hP_13 => ?_)
  obtain ⟨rfl, rfl, b13, q13, z_13, rfl, hb13, hq13, hr13, rfl, ⟨rfl, hz_13⟩ | ⟨rfl, hz_13⟩⟩ := hP_13
  · have hb13 : b13 = bl (byt (A 125) (F 100 29)) (0) := hb13
    have hq13 : q13 = lt' (byt (A 125) (F 100 29)) b13 := hq13
    have hr13 : 0 ≤ b13 ∧ b13 ≤ q13 ∧ q13 ≤ F 100 29 := hr13
    have hz_13 : wok (byt (A 125) (F 100 29)) RING b13 q13 = true := hz_13
    show ab_J E 3 0 0 S (upF (upF (upF (upF F 100 28 0) 100 32 0) 100 28 q13) 100 30 b13) A 16 [some (aR 100), none, none] [aI 1]
    refine j_if_ne C (tgt := 21) dX10_readRing_16 (by decide) ⟨by omega, by omega⟩ (fun c16 => ?_) (fun c16 => ?_)
    · have K21 : ∀ (N : Nat) (p bb m : Int) (B : ab_An) (L : List (Int × Int)), (0 ≤ p ∧ p ≤ F 100 29) → (m < 40) → (cnr (B 133) (B 134) m L) → (∀ i, i ≠ 133 → i ≠ 134 → B i = A i) → (rdS (byt (A 125) (F 100 29)) (F 100 29) = rdE (byt (A 125) (F 100 29)) (F 100 29) (rcs (byt (A 125) (F 100 29)) (40 - L.length) p L)) → ((40 - m).toNat) < N → ab_J E 3 0 0 S (upF (upF (upF F 100 28 p) 100 30 bb) 100 32 m) B 21 [some (aR 100), none, none] [] := by
        intro N
        induction N with
        | zero => intro p bb m B L hp hm0 hcn hO hR hm; exact absurd hm (Nat.not_lt_zero _)
        | succ N ih =>
          have ih21 := ih
          clear ih
          intro p bb m B L hp hm0 hcn hO hR hm21
          have e125 : B 125 = A 125 := hO 125 (by decide) (by decide)
          have hTB : ∀ i, 0 ≤ i → i < F 100 29 → -128 ≤ B 125 i ∧ B 125 i ≤ 127 := by rw [e125]; exact hT
          have hml := hcn.1
          have hfu : 40 - L.length = (40 - (L.length + 1)) + 1 := by omega
          refine j_aload_n C dX10_readRing_21 rfl rfl ?_
          refine j_bipush C dX10_readRing_22 rfl ?_
          refine j_callV C (vs := [aI 20]) (st := []) cl_X10_215 im_yX10_readNumber se_yX10_readNumber (fun _ => m_readNumber _ S (upF (upF (upF F 100 28 p) 100 30 bb) 100 32 m) B hS _ (by decide) (by show 0 ≤ p ∧ p ≤ F 100 29 ∧ F 100 29 ≤ 400; omega) hTB) (sM_100 hS) rfl rfl rfl ⟨rfl, rfl, by decide, by decide⟩ ⟨by decide, by decide⟩ (fun _ => Nat.le_of_ble_eq_true rfl) (fun v hv => by cases hv) (fun v hv => by simp only [List.mem_cons, List.not_mem_nil, or_false, Option.some.injEq, reduceCtorEq, false_or] at hv; rcases hv with rfl <;> first | exact (lM_100 hS)) dX10_readRing_24 (fun v_24 S_24 F_24 A_24 hP_24 => ?_)
          obtain ⟨rfl, rfl, b24, q24, r24, rfl, hb24, hq24, hr24, rfl, hn24, hi24⟩ := hP_24
          have hb24 : b24 = bl (byt (B 125) (F 100 29)) (p) := hb24
          have hq24 : q24 = dg (byt (B 125) (F 100 29)) b24 := hq24
          have hr24 : p ≤ b24 ∧ b24 ≤ q24 ∧ q24 ≤ F 100 29 := hr24
          have hn24 : r24 = nV (byt (B 125) (F 100 29)) b24 q24 20 := hn24
          try rw [e125] at hb24
          try rw [e125] at hq24
          try rw [e125] at hn24
          show ab_J E 3 0 0 S (upF (upF (upF (upF (upF F 100 28 p) 100 30 bb) 100 32 m) 100 28 q24) 100 30 b24) B 27 [some (aR 100), none, none] [aI r24]
          refine j_istore_n C (lv' := [some (aR 100), some (aI r24), none]) dX10_readRing_27 rfl (by decide) rfl ?_
          refine j_iload_n C dX10_readRing_28 rfl rfl ?_
          refine j_if_ge C (tgt := 36) dX10_readRing_29 (by decide) ⟨by omega, by omega⟩ (fun c29 => ?_) (fun c29 => ?_)
          · refine j_aload_n C dX10_readRing_36 rfl rfl ?_
            refine j_bipush C dX10_readRing_37 rfl ?_
            refine j_callV C (vs := [aI 14]) (st := []) cl_X10_215 im_yX10_readNumber se_yX10_readNumber (fun _ => m_readNumber _ S (upF (upF (upF (upF (upF F 100 28 p) 100 30 bb) 100 32 m) 100 28 q24) 100 30 b24) B hS _ (by decide) (by show 0 ≤ q24 ∧ q24 ≤ F 100 29 ∧ F 100 29 ≤ 400; omega) hTB) (sM_100 hS) rfl rfl rfl ⟨rfl, rfl, by decide, by decide⟩ ⟨by decide, by decide⟩ (fun _ => Nat.le_of_ble_eq_true rfl) (fun v hv => by cases hv) (fun v hv => by simp only [List.mem_cons, List.not_mem_nil, or_false, Option.some.injEq, reduceCtorEq, false_or] at hv; rcases hv with rfl | rfl <;> first | exact (lM_100 hS) | exact trivial) dX10_readRing_39 (fun v_39 S_39 F_39 A_39 hP_39 => ?_)
            obtain ⟨rfl, rfl, b39, q39, r39, rfl, hb39, hq39, hr39, rfl, hn39, hi39⟩ := hP_39
            have hb39 : b39 = bl (byt (B 125) (F 100 29)) (q24) := hb39
            have hq39 : q39 = dg (byt (B 125) (F 100 29)) b39 := hq39
            have hr39 : q24 ≤ b39 ∧ b39 ≤ q39 ∧ q39 ≤ F 100 29 := hr39
            have hn39 : r39 = nV (byt (B 125) (F 100 29)) b39 q39 14 := hn39
            try rw [e125] at hb39
            try rw [e125] at hq39
            try rw [e125] at hn39
            show ab_J E 3 0 0 S (upF (upF (upF (upF (upF (upF (upF F 100 28 p) 100 30 bb) 100 32 m) 100 28 q24) 100 30 b24) 100 28 q39) 100 30 b39) B 42 [some (aR 100), some (aI r24), none] [aI r39]
            refine j_istore_n C (lv' := [some (aR 100), some (aI r24), some (aI r39)]) dX10_readRing_42 rfl (by decide) rfl ?_
            refine j_iload_n C dX10_readRing_43 rfl rfl ?_
            refine j_if_ge C (tgt := 49) dX10_readRing_44 (by decide) ⟨by omega, by omega⟩ (fun c44 => ?_) (fun c44 => ?_)
            · refine j_aload_n C dX10_readRing_49 rfl rfl ?_
              refine j_getR C (j := 133) fl_X10_82 (sM_100 hS) rfl dX10_readRing_50 ?_
              refine j_aload_n C dX10_readRing_53 rfl rfl ?_
              refine j_get C (aI m) fl_X10_206 (sM_100 hS) (fun _ => rfl) dX10_readRing_54 ?_
              refine j_iload_n C dX10_readRing_57 rfl rfl ?_
              refine j_iast C (sM_133 hS) (by omega) (by omega) (by decide) dX10_readRing_58 ?_
              refine j_aload_n C dX10_readRing_59 rfl rfl ?_
              refine j_getR C (j := 134) fl_X10_85 (sM_100 hS) rfl dX10_readRing_60 ?_
              refine j_aload_n C dX10_readRing_63 rfl rfl ?_
              refine j_get C (aI m) fl_X10_206 (sM_100 hS) (fun _ => rfl) dX10_readRing_64 ?_
              refine j_iload_n C dX10_readRing_67 rfl rfl ?_
              refine j_iast C (sM_134 hS) (by omega) (by omega) (by decide) dX10_readRing_68 ?_
              refine j_aload_n C dX10_readRing_69 rfl rfl ?_
              refine j_dup C dX10_readRing_70 (fun _ => rfl) ?_
              refine j_get C (aI m) fl_X10_206 (sM_100 hS) (fun _ => rfl) dX10_readRing_71 ?_
              refine j_iconst C dX10_readRing_74 ?_
              refine j_iadd C dX10_readRing_75 ?_
              refine j_putI C fp_X10_206 (sM_100 hS) rfl dX10_readRing_76 ?_
              have hcn2 := cnr_put (X' := (upA (upA B 133 m r24) 134 m r39) 133) (Y' := (upA (upA B 133 m r24) 134 m r39) 134) (x := r24) (y := r39) hcn (by funext j; rw [upA_other (by decide)]; exact upA_if _ _ _ _ _) (by funext j; rw [upA_if, upA_other (by decide)]) (by omega) (by omega)
              refine j_aload_n C dX10_readRing_79 rfl rfl ?_
              refine j_callV C (vs := []) (st := []) cl_X10_193 im_yX10_blanks se_yX10_blanks (fun _ => m_blanks _ S (upF (upF (upF (upF (upF (upF (upF (upF F 100 28 p) 100 30 bb) 100 32 m) 100 28 q24) 100 30 b24) 100 28 q39) 100 30 b39) 100 32 (m + 1)) (upA (upA B 133 m r24) 134 m r39) hS (by show 0 ≤ q39 ∧ q39 ≤ F 100 29 ∧ F 100 29 ≤ 400; omega) hTB) (sM_100 hS) rfl rfl rfl ⟨rfl, rfl, by decide, by decide⟩ ⟨by decide, by decide⟩ (fun _ => Nat.le_of_ble_eq_true rfl) (fun v hv => by cases hv) (fun v hv => by simp only [List.mem_cons, List.not_mem_nil, or_false, Option.some.injEq, reduceCtorEq, false_or] at hv; rcases hv with rfl | rfl | rfl <;> first | exact (lM_100 hS) | exact trivial) dX10_readRing_80 (fun v_80 S_80 F_80 A_80 hP_80 => ?_)
              obtain ⟨rfl, rfl, rfl, b80, hb80, hr80, rfl⟩ := hP_80
              have hb80 : b80 = bl (byt (B 125) (F 100 29)) (q39) := hb80
              have hr80 : q39 ≤ b80 ∧ b80 ≤ F 100 29 := hr80
              try rw [e125] at hb80
              show ab_J E 3 0 0 S (upF (upF (upF (upF (upF (upF (upF (upF (upF (upF F 100 28 p) 100 30 bb) 100 32 m) 100 28 q24) 100 30 b24) 100 28 q39) 100 30 b39) 100 32 (m + 1)) 100 28 b80) 100 30 b80) (upA (upA B 133 m r24) 134 m r39) 83 [some (aR 100), some (aI r24), some (aI r39)] []
              refine j_aload_n C dX10_readRing_83 rfl rfl ?_
              refine j_bipush C dX10_readRing_84 rfl ?_
              refine j_bipush C dX10_readRing_86 rfl ?_
              refine j_callV C (vs := [aI 44, aI 44]) (st := []) cl_X10_187 im_yX10_isAt se_yX10_isAt (fun _ => m_isAt _ S (upF (upF (upF (upF (upF (upF (upF (upF (upF (upF F 100 28 p) 100 30 bb) 100 32 m) 100 28 q24) 100 30 b24) 100 28 q39) 100 30 b39) 100 32 (m + 1)) 100 28 b80) 100 30 b80) (upA (upA B 133 m r24) 134 m r39) hS _ _ (by decide) (by show 0 ≤ b80 ∧ b80 ≤ F 100 29 ∧ F 100 29 ≤ 400; omega) hTB) (sM_100 hS) rfl rfl rfl ⟨rfl, rfl, by decide, by decide⟩ ⟨by decide, by decide⟩ (fun _ => Nat.le_of_ble_eq_true rfl) (fun v hv => by cases hv) (fun v hv => by simp only [List.mem_cons, List.not_mem_nil, or_false, Option.some.injEq, reduceCtorEq, false_or] at hv; rcases hv with rfl | rfl | rfl <;> first | exact (lM_100 hS) | exact trivial) dX10_readRing_88 (fun v_88 S_88 F_88 A_88 hP_88 => ?_)
              obtain ⟨rfl, rfl, rfl, z_88, rfl, ⟨rfl, hz_88⟩ | ⟨rfl, hz_88⟩⟩ := hP_88
              · have hz_88 : 44 ≤ (byt (B 125) (F 100 29)) (b80) ∧ (byt (B 125) (F 100 29)) (b80) ≤ 44 := hz_88
                try rw [e125] at hz_88
                show ab_J E 3 0 0 S (upF (upF (upF (upF (upF (upF (upF (upF (upF (upF F 100 28 p) 100 30 bb) 100 32 m) 100 28 q24) 100 30 b24) 100 28 q39) 100 30 b39) 100 32 (m + 1)) 100 28 b80) 100 30 b80) (upA (upA B 133 m r24) 134 m r39) 91 [some (aR 100), some (aI r24), some (aI r39)] [aI 1]
                refine j_if_ne C (tgt := 97) dX10_readRing_91 (by decide) ⟨by omega, by omega⟩ (fun c91 => ?_) (fun c91 => ?_)
                · refine j_aload_n C dX10_readRing_97 rfl rfl ?_
                  refine j_get C (aI (m + 1)) fl_X10_206 (sM_100 hS) (fun _ => rfl) dX10_readRing_98 ?_
                  refine j_bipush C dX10_readRing_101 rfl ?_
                  refine j_icmp_ne C (tgt := 108) dX10_readRing_103 (by decide) ⟨by omega, by omega⟩ ⟨by omega, by omega⟩ (fun c103 => ?_) (fun c103 => ?_)
                  · refine j_aload_n C dX10_readRing_108 rfl rfl ?_
                    refine j_dup C dX10_readRing_109 (fun _ => rfl) ?_
                    refine j_get C (aI b80) fl_X10_181 (sM_100 hS) (fun _ => rfl) dX10_readRing_110 ?_
                    refine j_iconst C dX10_readRing_113 ?_
                    refine j_iadd C dX10_readRing_114 ?_
                    refine j_putI C fp_X10_181 (sM_100 hS) rfl dX10_readRing_115 ?_
                    refine j_goto C (tgt := 21) dX10_readRing_118 (by decide) ?_
                    refine j_lv (lv' := [some (aR 100), none, none]) ?_ ⟨rfl, trivial⟩
                    refine j_eq (F' := (upF (upF (upF F 100 28 (b80 + 1)) 100 30 b80) 100 32 (m + 1))) ?_ (e3 := (by first | rfl | simp only [upF_n28, upF_n30, upF_up]))
                    exact ih21 (b80 + 1) b80 (m + 1) ((upA (upA B 133 m r24) 134 m r39)) ((L ++ [(r24, r39)])) (by have q9 : b80 < F 100 29 := Int.not_le.mp (fun q => by rw [byt_out (by omega)] at hz_88; omega); omega) (by omega) hcn2 (fun i p1 p2 => by rw [upA_other p2, upA_other p1]; exact hO i p1 p2) (by rw [hR, hfu, rcs_g hb24 hq24 hn24 (by omega) hb39 hq39 hn39 (by omega) hb80 (by omega) (by omega), List.length_append]; rfl) (by omega)
                  · refine j_iconst C dX10_readRing_106 ?_
                    exact j_zret C hr (ab_nz01 (by omega)) (Nat.le_refl _) (Nat.le_refl _) dX10_readRing_107 ⟨rfl, _, b80, b80, m + 1, rfl, (by first | rfl | simp only [upF_n28, upF_n30, upF_up]), (fun i p1 p2 => by first | exact hO i p1 p2 | (rw [upA_other p2, upA_other p1]; exact hO i p1 p2)), Or.inr ⟨rfl, (by rw [hR, hfu, rcs_f hb24 hq24 hn24 (by omega) hb39 hq39 hn39 (by omega) hb80 (by omega) (by omega), rdE_0]), by omega, by omega⟩⟩
                · exact absurd c91 (by decide)
              · have hz_88 : ¬ (44 ≤ (byt (B 125) (F 100 29)) (b80) ∧ (byt (B 125) (F 100 29)) (b80) ≤ 44) := hz_88
                try rw [e125] at hz_88
                show ab_J E 3 0 0 S (upF (upF (upF (upF (upF (upF (upF (upF (upF (upF F 100 28 p) 100 30 bb) 100 32 m) 100 28 q24) 100 30 b24) 100 28 q39) 100 30 b39) 100 32 (m + 1)) 100 28 b80) 100 30 b80) (upA (upA B 133 m r24) 134 m r39) 91 [some (aR 100), some (aI r24), some (aI r39)] [aI 0]
                refine j_if_ne C (tgt := 97) dX10_readRing_91 (by decide) ⟨by omega, by omega⟩ (fun c91 => ?_) (fun c91 => ?_)
                · exact absurd c91 (by decide)
                · refine j_goto C (tgt := 121) dX10_readRing_94 (by decide) ?_
                  refine j_aload_n C dX10_readRing_121 rfl rfl ?_
                  refine j_get C (aI (m + 1)) fl_X10_206 (sM_100 hS) (fun _ => rfl) dX10_readRing_122 ?_
                  refine j_iconst C dX10_readRing_125 ?_
                  refine j_icmp_lt C (tgt := 138) dX10_readRing_126 (by decide) ⟨by omega, by omega⟩ ⟨by omega, by omega⟩ (fun c126 => ?_) (fun c126 => ?_)
                  · refine j_iconst C dX10_readRing_138 ?_
                    exact j_zret C hr (ab_nz01 (by omega)) (Nat.le_refl _) (Nat.le_refl _) dX10_readRing_139 ⟨rfl, _, b80, b80, m + 1, rfl, (by first | rfl | simp only [upF_n28, upF_n30, upF_up]), (fun i p1 p2 => by first | exact hO i p1 p2 | (rw [upA_other p2, upA_other p1]; exact hO i p1 p2)), Or.inr ⟨rfl, (by first | rw [hR, hfu, rcs_e hb24 hq24 hn24 (by omega) hb39 hq39 hn39 (by omega) hb80 (by omega), if_pos (by omega), rdE_0] | rw [hR, hfu, rcs_e hb24 hq24 hn24 (by omega) hb39 hq39 hn39 (by omega) hb80 (by omega), if_neg (by omega), rdE_w hb132 hq132 hz_132]), by omega, by omega⟩⟩
                  · refine j_aload_n C dX10_readRing_129 rfl rfl ?_
                    refine j_ldcS C (tx := "end") 5 (by decide) rfl (lw_t6 (List.mem_of_getElem? (i := 4) rfl)) dX10_readRing_130 ?_
                    refine j_callV C (vs := [aR (1000000 + 5)]) (st := []) cl_X10_211 im_yX10_readWord se_yX10_readWord (fun _ => m_readWord _ S (upF (upF (upF (upF (upF (upF (upF (upF (upF (upF F 100 28 p) 100 30 bb) 100 32 m) 100 28 q24) 100 30 b24) 100 28 q39) 100 30 b39) 100 32 (m + 1)) 100 28 b80) 100 30 b80) (upA (upA B 133 m r24) 134 m r39) hS _ (by decide) (by show 0 ≤ b80 ∧ b80 ≤ F 100 29 ∧ F 100 29 ≤ 400; omega) hTB) (sM_100 hS) rfl rfl rfl ⟨rfl, rfl, by decide, by decide⟩ ⟨by decide, by decide⟩ (fun _ => Nat.le_of_ble_eq_true rfl) (fun v hv => by cases hv) (fun v hv => by simp only [List.mem_cons, List.not_mem_nil, or_false, Option.some.injEq, reduceCtorEq, false_or] at hv; rcases hv with rfl | rfl | rfl <;> first | exact (lM_100 hS) | exact trivial) dX10_readRing_132 (fun v_132 S_132 F_132 A_132 hP_132 => ?_)
                    obtain ⟨rfl, rfl, b132, q132, z_132, rfl, hb132, hq132, hr132, rfl, ⟨rfl, hz_132⟩ | ⟨rfl, hz_132⟩⟩ := hP_132
                    · have hb132 : b132 = bl (byt (B 125) (F 100 29)) (b80) := hb132
                      have hq132 : q132 = lt' (byt (B 125) (F 100 29)) b132 := hq132
                      have hr132 : b80 ≤ b132 ∧ b132 ≤ q132 ∧ q132 ≤ F 100 29 := hr132
                      have hz_132 : wok (byt (B 125) (F 100 29)) END b132 q132 = true := hz_132
                      try rw [e125] at hb132
                      try rw [e125] at hq132
                      try rw [e125] at hz_132
                      show ab_J E 3 0 0 S (upF (upF (upF (upF (upF (upF (upF (upF (upF (upF (upF (upF F 100 28 p) 100 30 bb) 100 32 m) 100 28 q24) 100 30 b24) 100 28 q39) 100 30 b39) 100 32 (m + 1)) 100 28 b80) 100 30 b80) 100 28 q132) 100 30 b132) (upA (upA B 133 m r24) 134 m r39) 135 [some (aR 100), some (aI r24), some (aI r39)] [aI 1]
                      refine j_if_ne C (tgt := 140) dX10_readRing_135 (by decide) ⟨by omega, by omega⟩ (fun c135 => ?_) (fun c135 => ?_)
                      · refine j_aload_n C dX10_readRing_140 rfl rfl ?_
                        refine j_callV C (vs := []) (st := []) cl_X10_193 im_yX10_blanks se_yX10_blanks (fun _ => m_blanks _ S (upF (upF (upF (upF (upF (upF (upF (upF (upF (upF (upF (upF F 100 28 p) 100 30 bb) 100 32 m) 100 28 q24) 100 30 b24) 100 28 q39) 100 30 b39) 100 32 (m + 1)) 100 28 b80) 100 30 b80) 100 28 q132) 100 30 b132) (upA (upA B 133 m r24) 134 m r39) hS (by show 0 ≤ q132 ∧ q132 ≤ F 100 29 ∧ F 100 29 ≤ 400; omega) hTB) (sM_100 hS) rfl rfl rfl ⟨rfl, rfl, by decide, by decide⟩ ⟨by decide, by decide⟩ (fun _ => Nat.le_of_ble_eq_true rfl) (fun v hv => by cases hv) (fun v hv => by simp only [List.mem_cons, List.not_mem_nil, or_false, Option.some.injEq, reduceCtorEq, false_or] at hv; rcases hv with rfl | rfl | rfl <;> first | exact (lM_100 hS) | exact trivial) dX10_readRing_141 (fun v_141 S_141 F_141 A_141 hP_141 => ?_)
                        obtain ⟨rfl, rfl, rfl, b141, hb141, hr141, rfl⟩ := hP_141
                        have hb141 : b141 = bl (byt (B 125) (F 100 29)) (q132) := hb141
                        have hr141 : q132 ≤ b141 ∧ b141 ≤ F 100 29 := hr141
                        try rw [e125] at hb141
                        show ab_J E 3 0 0 S (upF (upF (upF (upF (upF (upF (upF (upF (upF (upF (upF (upF (upF (upF F 100 28 p) 100 30 bb) 100 32 m) 100 28 q24) 100 30 b24) 100 28 q39) 100 30 b39) 100 32 (m + 1)) 100 28 b80) 100 30 b80) 100 28 q132) 100 30 b132) 100 28 b141) 100 30 b141) (upA (upA B 133 m r24) 134 m r39) 144 [some (aR 100), some (aI r24), some (aI r39)] []
                        refine j_aload_n C dX10_readRing_144 rfl rfl ?_
                        refine j_get C (aI b141) fl_X10_181 (sM_100 hS) (fun _ => rfl) dX10_readRing_145 ?_
                        refine j_aload_n C dX10_readRing_148 rfl rfl ?_
                        refine j_get C (aI (F 100 29)) fl_X10_184 (sM_100 hS) (fun _ => rfl) dX10_readRing_149 ?_
                        refine j_icmp_ne C (tgt := 159) dX10_readRing_152 (by decide) ⟨by omega, by omega⟩ ⟨by omega, by omega⟩ (fun c152 => ?_) (fun c152 => ?_)
                        · refine j_iconst C dX10_readRing_159 ?_
                          exact j_zret C hr (ab_nz01 (by omega)) (Nat.le_refl _) (Nat.le_refl _) dX10_readRing_160 ⟨rfl, _, b141, b141, m + 1, rfl, (by first | rfl | simp only [upF_n28, upF_n30, upF_up]), (fun i p1 p2 => by first | exact hO i p1 p2 | (rw [upA_other p2, upA_other p1]; exact hO i p1 p2)), (by first | exact Or.inl ⟨rfl, L ++ [(r24, r39)], (by rw [hR, hfu, rcs_e hb24 hq24 hn24 (by omega) hb39 hq39 hn39 (by omega) hb80 (by omega), if_neg (by omega), rdE_y hb132 hq132 hz_132 hb141 (by omega)]), hcn2, (by rw [List.length_append]; show 3 ≤ L.length + 1; omega), (by rw [List.length_append]; show L.length + 1 ≤ 40; omega)⟩ | exact Or.inr ⟨rfl, (by rw [hR, hfu, rcs_e hb24 hq24 hn24 (by omega) hb39 hq39 hn39 (by omega) hb80 (by omega), if_neg (by omega), rdE_n hb132 hq132 hz_132 hb141 (by omega)]), by omega, by omega⟩)⟩
                        · refine j_iconst C dX10_readRing_155 ?_
                          refine j_goto C (tgt := 160) dX10_readRing_156 (by decide) ?_
                          exact j_zret C hr (ab_nz01 (by omega)) (Nat.le_refl _) (Nat.le_refl _) dX10_readRing_160 ⟨rfl, _, b141, b141, m + 1, rfl, (by first | rfl | simp only [upF_n28, upF_n30, upF_up]), (fun i p1 p2 => by first | exact hO i p1 p2 | (rw [upA_other p2, upA_other p1]; exact hO i p1 p2)), (by first | exact Or.inl ⟨rfl, L ++ [(r24, r39)], (by rw [hR, hfu, rcs_e hb24 hq24 hn24 (by omega) hb39 hq39 hn39 (by omega) hb80 (by omega), if_neg (by omega), rdE_y hb132 hq132 hz_132 hb141 (by omega)]), hcn2, (by rw [List.length_append]; show 3 ≤ L.length + 1; omega), (by rw [List.length_append]; show L.length + 1 ≤ 40; omega)⟩ | exact Or.inr ⟨rfl, (by rw [hR, hfu, rcs_e hb24 hq24 hn24 (by omega) hb39 hq39 hn39 (by omega) hb80 (by omega), if_neg (by omega), rdE_n hb132 hq132 hz_132 hb141 (by omega)]), by omega, by omega⟩)⟩
                      · exact absurd c135 (by decide)
                    · have hb132 : b132 = bl (byt (B 125) (F 100 29)) (b80) := hb132
                      have hq132 : q132 = lt' (byt (B 125) (F 100 29)) b132 := hq132
                      have hr132 : b80 ≤ b132 ∧ b132 ≤ q132 ∧ q132 ≤ F 100 29 := hr132
                      have hz_132 : ¬ wok (byt (B 125) (F 100 29)) END b132 q132 = true := hz_132
                      try rw [e125] at hb132
                      try rw [e125] at hq132
                      try rw [e125] at hz_132
                      show ab_J E 3 0 0 S (upF (upF (upF (upF (upF (upF (upF (upF (upF (upF (upF (upF F 100 28 p) 100 30 bb) 100 32 m) 100 28 q24) 100 30 b24) 100 28 q39) 100 30 b39) 100 32 (m + 1)) 100 28 b80) 100 30 b80) 100 28 q132) 100 30 b132) (upA (upA B 133 m r24) 134 m r39) 135 [some (aR 100), some (aI r24), some (aI r39)] [aI 0]
                      refine j_if_ne C (tgt := 140) dX10_readRing_135 (by decide) ⟨by omega, by omega⟩ (fun c135 => ?_) (fun c135 => ?_)
                      · exact absurd c135 (by decide)
                      · refine j_iconst C dX10_readRing_138 ?_
                        exact j_zret C hr (ab_nz01 (by omega)) (Nat.le_refl _) (Nat.le_refl _) dX10_readRing_139 ⟨rfl, _, q132, b132, m + 1, rfl, (by first | rfl | simp only [upF_n28, upF_n30, upF_up]), (fun i p1 p2 => by first | exact hO i p1 p2 | (rw [upA_other p2, upA_other p1]; exact hO i p1 p2)), Or.inr ⟨rfl, (by first | rw [hR, hfu, rcs_e hb24 hq24 hn24 (by omega) hb39 hq39 hn39 (by omega) hb80 (by omega), if_pos (by omega), rdE_0] | rw [hR, hfu, rcs_e hb24 hq24 hn24 (by omega) hb39 hq39 hn39 (by omega) hb80 (by omega), if_neg (by omega), rdE_w hb132 hq132 hz_132]), by omega, by omega⟩⟩
            · refine j_iconst C dX10_readRing_47 ?_
              exact j_zret C hr (ab_nz01 (by omega)) (Nat.le_refl _) (Nat.le_refl _) dX10_readRing_48 ⟨rfl, _, q39, b39, m, rfl, (by first | rfl | simp only [upF_n28, upF_n30, upF_up]), (fun i p1 p2 => by first | exact hO i p1 p2 | (rw [upA_other p2, upA_other p1]; exact hO i p1 p2)), Or.inr ⟨rfl, (by first | rw [hR, hfu, rcs_x hb24 hq24 hn24 (by omega), rdE_0] | rw [hR, hfu, rcs_y hb24 hq24 hn24 (by omega) hb39 hq39 hn39 (by omega), rdE_0]), by omega, by omega⟩⟩
          · refine j_iconst C dX10_readRing_32 ?_
            refine j_goto C (tgt := 42) dX10_readRing_33 (by decide) ?_
            refine j_istore_n C (lv' := [some (aR 100), some (aI r24), some (aI ((-1)))]) dX10_readRing_42 rfl (by decide) rfl ?_
            refine j_iload_n C dX10_readRing_43 rfl rfl ?_
            refine j_if_ge C (tgt := 49) dX10_readRing_44 (by decide) ⟨by omega, by omega⟩ (fun c44 => ?_) (fun c44 => ?_)
            · exact absurd c44 (by decide)
            · refine j_iconst C dX10_readRing_47 ?_
              exact j_zret C hr (ab_nz01 (by omega)) (Nat.le_refl _) (Nat.le_refl _) dX10_readRing_48 ⟨rfl, _, q24, b24, m, rfl, (by first | rfl | simp only [upF_n28, upF_n30, upF_up]), (fun i p1 p2 => by first | exact hO i p1 p2 | (rw [upA_other p2, upA_other p1]; exact hO i p1 p2)), Or.inr ⟨rfl, (by first | rw [hR, hfu, rcs_x hb24 hq24 hn24 (by omega), rdE_0] | rw [hR, hfu, rcs_y hb24 hq24 hn24 (by omega) hb39 hq39 hn39 (by omega), rdE_0]), by omega, by omega⟩⟩
      refine j_eq (F' := (upF (upF (upF F 100 28 q13) 100 30 b13) 100 32 0)) ?_ (e3 := (by rw [upF_c (k := 32) (k' := 28) (by decide), upF_up, upF_c (k := 32) (k' := 30) (by decide)]))
      exact K21 _ q13 b13 0 A ([]) (by omega) (by omega) cnr_0 (fun _ _ _ => rfl) (rdS_go hb13 hq13 hz_13) (Nat.lt_succ_self _)
    · exact absurd c16 (by decide)
  · have hb13 : b13 = bl (byt (A 125) (F 100 29)) (0) := hb13
    have hq13 : q13 = lt' (byt (A 125) (F 100 29)) b13 := hq13
    have hr13 : 0 ≤ b13 ∧ b13 ≤ q13 ∧ q13 ≤ F 100 29 := hr13
    have hz_13 : ¬ wok (byt (A 125) (F 100 29)) RING b13 q13 = true := hz_13
    show ab_J E 3 0 0 S (upF (upF (upF (upF F 100 28 0) 100 32 0) 100 28 q13) 100 30 b13) A 16 [some (aR 100), none, none] [aI 0]
    refine j_if_ne C (tgt := 21) dX10_readRing_16 (by decide) ⟨by omega, by omega⟩ (fun c16 => ?_) (fun c16 => ?_)
    · exact absurd c16 (by decide)
    · refine j_iconst C dX10_readRing_19 ?_
      exact j_zret C hr (ab_nz01 (by omega)) (Nat.le_refl _) (Nat.le_refl _) dX10_readRing_20 ⟨rfl, _, q13, b13, 0, rfl, (by rw [upF_c (k := 32) (k' := 28) (by decide), upF_up, upF_c (k := 32) (k' := 30) (by decide)]), (fun _ _ _ => rfl), Or.inr ⟨rfl, (by rw [rdS_no hb13 hq13 hz_13]), by omega, by omega⟩⟩

set_option maxHeartbeats 4000000 in
set_option maxRecDepth 100000 in
theorem m_read (l : Launch) (S : ab_St) (F : ab_Fn) (A : ab_An) (hS : ab_SM S) (ht : 0 ≤ F 100 26 ∧ F 100 26 ≤ 400) (hb : 0 ≤ F 100 18 ∧ F 100 18 ≤ 40) (hT : ∀ i, 0 ≤ i → i < F 100 26 → -128 ≤ A 125 i ∧ A 125 i ≤ 127) : ab_Met l yX10_read cX10_read 3 (some .int) { frames := 7, cells := 0, slots := 0, locals := 151 } 0 0 [aR 100] S F A (fun v S' F' A' => S = S' ∧ ∃ t : Int, (∃ r : Int, v = some (aI r)) ∧ (∀ k, k ≠ 0 → k ≠ 18 → k ≠ 26 → k ≠ 28 → k ≠ 29 → k ≠ 30 → k ≠ 31 → k ≠ 32 → F' 100 k = F 100 k) ∧ (∀ i, i ≠ 100 → F' i = F i) ∧ F' 100 0 = t ∧ F' 100 26 = 0 ∧ F' 100 31 = (rdS (byt (A 125) (F 100 26)) (F 100 26)).1 ∧ (∀ i, i ≠ 113 → i ≠ 114 → i ≠ 115 → i ≠ 116 → i ≠ 117 → i ≠ 133 → i ≠ 134 → A' i = A i) ∧ ((t = 1 ∧ ¬ (rdS (byt (A 125) (F 100 26)) (F 100 26)).1 = -1 ∧ F' 100 18 = F 100 18 ∧ (∀ i, i ≠ 133 → i ≠ 134 → A' i = A i)) ∨ (t = 2 ∧ (rdS (byt (A 125) (F 100 26)) (F 100 26)).1 = -1 ∧ F 100 18 = 40 ∧ F' 100 18 = F 100 18 ∧ (∀ i, i ≠ 133 → i ≠ 134 → A' i = A i)) ∨ (t = 0 ∧ (rdS (byt (A 125) (F 100 26)) (F 100 26)).1 = -1 ∧ F 100 18 < 40 ∧ F' 100 18 = F 100 18 + 1 ∧ v = some (aI (F 100 18)) ∧ ∃ L, (rdS (byt (A 125) (F 100 26)) (F 100 26)) = (-1, L) ∧ (3 ≤ L.length ∧ L.length ≤ 40) ∧ NW A A' (F 100 18) (F 100 5) (L.length : Nat) (fsX L) (snY L) ∧ ∀ c ∈ L, 0 ≤ c.1 ∧ c.1 ≤ 20 ∧ 0 ≤ c.2 ∧ c.2 ≤ 14))) := by
  refine ab_enter (by decide) (by simp [aI, aR, aX, ab_val, Value.category]) (Nat.le_of_ble_eq_true rfl) (fun E C hr => ?_)
  refine j_eq (lv' := [some (aR 100), none, none]) ?_
  refine j_aload_n C dX10_read_0 rfl rfl ?_
  refine j_iconst C dX10_read_1 ?_
  refine j_putI C fp_X10_3 (sM_100 hS) rfl dX10_read_2 ?_
  refine j_aload_n C dX10_read_5 rfl rfl ?_
  refine j_aload_n C dX10_read_6 rfl rfl ?_
  refine j_get C (aI (F 100 26)) fl_X10_178 (sM_100 hS) (fun _ => rfl) dX10_read_7 ?_
  refine j_putI C fp_X10_184 (sM_100 hS) rfl dX10_read_10 ?_
  refine j_aload_n C dX10_read_13 rfl rfl ?_
  refine j_iconst C dX10_read_14 ?_
  refine j_putI C fp_X10_178 (sM_100 hS) rfl dX10_read_15 ?_
  refine j_aload_n C dX10_read_18 rfl rfl ?_
  refine j_callV C (vs := []) (st := []) cl_X10_219 im_yX10_readRing se_yX10_readRing (fun _ => m_readRing _ S (upF (upF (upF F 100 0 0) 100 29 (F 100 26)) 100 26 0) A hS (by show 0 ≤ F 100 26 ∧ F 100 26 ≤ 400; omega) hT) (sM_100 hS) rfl rfl rfl ⟨rfl, rfl, by decide, by decide⟩ ⟨by decide, by decide⟩ (fun _ => Nat.le_of_ble_eq_true rfl) (fun v hv => by cases hv) (fun v hv => by simp only [List.mem_cons, List.not_mem_nil, or_false, Option.some.injEq, reduceCtorEq, false_or] at hv; rcases hv with rfl <;> first | exact (lM_100 hS)) dX10_read_19 (fun v_19 S_19 F_19 A_19 hP_19 => ?_)
  obtain ⟨rfl, z_19, a19, b19, c19, rfl, rfl, hO19, ⟨rfl, L, hd19, hc19, hl19, hL19⟩ | ⟨rfl, hd19, hb19⟩⟩ := hP_19
  · have hd19 : rdS (byt (A 125) (F 100 26)) (F 100 26) = (-1, L) := hd19
    show ab_J E 3 0 0 S (upF (upF (upF (upF (upF (upF F 100 0 0) 100 29 (F 100 26)) 100 26 0) 100 28 a19) 100 30 b19) 100 32 c19) A_19 22 [some (aR 100), none, none] [aI 1]
    refine j_istore_n C (lv' := [some (aR 100), some (aI 1), none]) dX10_read_22 rfl (by decide) rfl ?_
    refine j_aload_n C dX10_read_23 rfl rfl ?_
    refine j_iload_n C dX10_read_24 rfl rfl ?_
    refine j_if_eq C (tgt := 32) dX10_read_25 (by decide) ⟨by omega, by omega⟩ (fun c25 => ?_) (fun c25 => ?_)
    · exact absurd c25 (by decide)
    · refine j_iconst C dX10_read_28 ?_
      refine j_goto C (tgt := 36) dX10_read_29 (by decide) ?_
      refine j_putI C fp_X10_79 (sM_100 hS) rfl dX10_read_36 ?_
      refine j_aload_n C dX10_read_39 rfl rfl ?_
      refine j_iload_n C dX10_read_40 rfl rfl ?_
      refine j_if_ne C (tgt := 48) dX10_read_41 (by decide) ⟨by omega, by omega⟩ (fun c41 => ?_) (fun c41 => ?_)
      · refine j_iconst C dX10_read_48 ?_
        refine j_iconst C dX10_read_49 ?_
        refine j_callV C (vs := [aI 0, aI 1]) (st := []) cl_X10_111 im_yX10_throwsIf se_yX10_throwsIf (fun _ => m_throwsIf0 _ S (upF (upF (upF (upF (upF (upF (upF F 100 0 0) 100 29 (F 100 26)) 100 26 0) 100 28 a19) 100 30 b19) 100 32 c19) 100 31 ((-1))) A_19 hS _) (sM_100 hS) rfl rfl rfl ⟨rfl, rfl, by decide, by decide⟩ ⟨by decide, by decide⟩ (fun _ => Nat.le_of_ble_eq_true rfl) (fun v hv => by cases hv) (fun v hv => by simp only [List.mem_cons, List.not_mem_nil, or_false, Option.some.injEq, reduceCtorEq, false_or] at hv; rcases hv with rfl | rfl <;> first | exact (lM_100 hS) | exact trivial) dX10_read_50 (fun v_50 S_50 F_50 A_50 hP_50 => ?_)
        obtain ⟨rfl, rfl, rfl, rfl⟩ := hP_50
        show ab_J E 3 0 0 S (upF (upF (upF (upF (upF (upF (upF F 100 0 0) 100 29 (F 100 26)) 100 26 0) 100 28 a19) 100 30 b19) 100 32 c19) 100 31 ((-1))) A_19 53 [some (aR 100), some (aI 1), none] [aI 0]
        refine j_if_ne C (tgt := 78) dX10_read_53 (by decide) ⟨by omega, by omega⟩ (fun c53 => ?_) (fun c53 => ?_)
        · exact absurd c53 (by decide)
        · refine j_aload_n C dX10_read_56 rfl rfl ?_
          refine j_aload_n C dX10_read_57 rfl rfl ?_
          refine j_get C (aI (F 100 18)) fl_X10_104 (sM_100 hS) (fun _ => rfl) dX10_read_58 ?_
          refine j_bipush C dX10_read_61 rfl ?_
          refine j_icmp_ne C (tgt := 70) dX10_read_63 (by decide) ⟨by omega, by omega⟩ ⟨by omega, by omega⟩ (fun c63 => ?_) (fun c63 => ?_)
          · refine j_iconst C dX10_read_70 ?_
            refine j_iconst C dX10_read_71 ?_
            refine j_callV C (vs := [aI 0, aI 2]) (st := []) cl_X10_111 im_yX10_throwsIf se_yX10_throwsIf (fun _ => m_throwsIf0 _ S (upF (upF (upF (upF (upF (upF (upF F 100 0 0) 100 29 (F 100 26)) 100 26 0) 100 28 a19) 100 30 b19) 100 32 c19) 100 31 ((-1))) A_19 hS _) (sM_100 hS) rfl rfl rfl ⟨rfl, rfl, by decide, by decide⟩ ⟨by decide, by decide⟩ (fun _ => Nat.le_of_ble_eq_true rfl) (fun v hv => by cases hv) (fun v hv => by simp only [List.mem_cons, List.not_mem_nil, or_false, Option.some.injEq, reduceCtorEq, false_or] at hv; rcases hv with rfl | rfl <;> first | exact (lM_100 hS) | exact trivial) dX10_read_72 (fun v_72 S_72 F_72 A_72 hP_72 => ?_)
            obtain ⟨rfl, rfl, rfl, rfl⟩ := hP_72
            show ab_J E 3 0 0 S (upF (upF (upF (upF (upF (upF (upF F 100 0 0) 100 29 (F 100 26)) 100 26 0) 100 28 a19) 100 30 b19) 100 32 c19) 100 31 ((-1))) A_19 75 [some (aR 100), some (aI 1), none] [aI 0]
            refine j_if_eq C (tgt := 80) dX10_read_75 (by decide) ⟨by omega, by omega⟩ (fun c75 => ?_) (fun c75 => ?_)
            · have hcl := hc19.1
              refine j_iconst C dX10_read_80 ?_
              refine j_istore_n C (lv' := [some (aR 100), some (aI 1), some (aI 0)]) dX10_read_81 rfl (by decide) rfl ?_
              have K82 : ∀ (N : Nat) (k : Int) (B2 : ab_An), (0 ≤ k ∧ k ≤ c19) → (∀ i, i ≠ 113 → i ≠ 114 → B2 i = A_19 i) → (∀ j, B2 113 j = if 40 * F 100 18 ≤ j ∧ j < 40 * F 100 18 + k then fsX L (j - 40 * F 100 18) else A 113 j) → (∀ j, B2 114 j = if 40 * F 100 18 ≤ j ∧ j < 40 * F 100 18 + k then snY L (j - 40 * F 100 18) else A 114 j) → ((c19 - k).toNat) < N → ab_J E 3 0 0 S (upF (upF (upF (upF (upF (upF (upF F 100 0 0) 100 29 (F 100 26)) 100 26 0) 100 28 a19) 100 30 b19) 100 32 c19) 100 31 ((-1))) B2 82 [some (aR 100), some (aI 1), some (aI k)] [] := by
                intro N
                induction N with
                | zero => intro k B2 hk hO2 hW1 hW2 hm; exact absurd hm (Nat.not_lt_zero _)
                | succ N ih =>
                  have ih82 := ih
                  clear ih
                  intro k B2 hk hO2 hW1 hW2 hm82
                  refine j_iload_n C dX10_read_82 rfl rfl ?_
                  refine j_aload_n C dX10_read_83 rfl rfl ?_
                  refine j_get C (aI c19) fl_X10_206 (sM_100 hS) (fun _ => rfl) dX10_read_84 ?_
                  refine j_icmp_ge C (tgt := 136) dX10_read_87 (by decide) ⟨by omega, by omega⟩ ⟨by omega, by omega⟩ (fun c87 => ?_) (fun c87 => ?_)
                  · have ek : k = (L.length : Nat) := by omega
                    rw [ek] at hW1 hW2
                    refine j_aload_n C dX10_read_136 rfl rfl ?_
                    refine j_aload_n C dX10_read_137 rfl rfl ?_
                    refine j_get C (aI c19) fl_X10_206 (sM_100 hS) (fun _ => rfl) dX10_read_138 ?_
                    refine j_callV C (vs := [aI c19]) (st := []) cl_X10_175 im_yX10_takes se_yX10_takes (fun _ => m_takes _ S (upF (upF (upF (upF (upF (upF (upF F 100 0 0) 100 29 (F 100 26)) 100 26 0) 100 28 a19) 100 30 b19) 100 32 c19) 100 31 ((-1))) B2 hS _ (by show 0 ≤ F 100 18 ∧ F 100 18 < 40; omega)) (sM_100 hS) rfl rfl rfl ⟨rfl, rfl, by decide, by decide⟩ ⟨by decide, by decide⟩ (fun _ => Nat.le_of_ble_eq_true rfl) (fun v hv => by cases hv) (fun v hv => by simp only [List.mem_cons, List.not_mem_nil, or_false, Option.some.injEq, reduceCtorEq, false_or] at hv; rcases hv with rfl | rfl | rfl <;> first | exact (lM_100 hS) | exact trivial) dX10_read_141 (fun v_141 S_141 F_141 A_141 hP_141 => ?_)
                    obtain ⟨rfl, rfl, rfl, rfl⟩ := hP_141
                    show ab_J E 3 0 0 S (upF (upF (upF (upF (upF (upF (upF (upF F 100 0 0) 100 29 (F 100 26)) 100 26 0) 100 28 a19) 100 30 b19) 100 32 c19) 100 31 ((-1))) 100 18 (F 100 18 + 1)) (upA (upA (upA B2 115 (F 100 18) c19) 116 (F 100 18) (F 100 5)) 117 (F 100 18) ((-1))) 144 [some (aR 100), some (aI 1), some (aI k)] [aI (F 100 18)]
                    exact j_iret C hr (Nat.le_refl _) (Nat.le_refl _) dX10_read_144 ⟨rfl, 0, ⟨_, rfl⟩, (fun k h0 h1 h2 h3 h4 h5 h6 h7 => by simp [upF, h0, h1, h2, h3, h4, h5, h6, h7]), (fun i hi => by funext k; simp [upF, hi]), rfl, rfl, ((congrArg Prod.fst hd19).symm), (fun i g1 g2 g3 g4 g5 g6 g7 => by rw [upA_other g5, upA_other g4, upA_other g3, hO2 i g1 g2]; exact hO19 i g6 g7), Or.inr (Or.inr ⟨rfl, (by rw [hd19]), (by omega), rfl, rfl, L, hd19, (by omega), ⟨fun j => hW1 j, fun j => hW2 j, fun j => by rw [upA_other (by decide), upA_other (by decide), upA_if, hO2 115 (by decide) (by decide), hO19 115 (by decide) (by decide), hcl], fun j => by rw [upA_other (by decide), upA_if, upA_other (by decide), hO2 116 (by decide) (by decide), hO19 116 (by decide) (by decide)], fun j => by rw [upA_if, upA_other (by decide), upA_other (by decide), hO2 117 (by decide) (by decide), hO19 117 (by decide) (by decide)]⟩, hc19.2.2⟩)⟩
                  · have hck := cnr_at hc19 hk.1 (by omega)
                    refine j_aload_n C dX10_read_90 rfl rfl ?_
                    refine j_getR C (j := 113) fl_X10_42 (sM_100 hS) rfl dX10_read_91 ?_
                    refine j_bipush C dX10_read_94 rfl ?_
                    refine j_aload_n C dX10_read_96 rfl rfl ?_
                    refine j_get C (aI (F 100 18)) fl_X10_104 (sM_100 hS) (fun _ => rfl) dX10_read_97 ?_
                    refine j_imul C dX10_read_100 ?_
                    refine j_iload_n C dX10_read_101 rfl rfl ?_
                    refine j_iadd C dX10_read_102 ?_
                    refine j_aload_n C dX10_read_103 rfl rfl ?_
                    refine j_getR C (j := 133) fl_X10_82 (sM_100 hS) rfl dX10_read_104 ?_
                    refine j_iload_n C dX10_read_107 rfl rfl ?_
                    refine j_iald C (sM_133 hS) (by omega) (by omega) (by decide) dX10_read_108 ?_
                    refine j_eq (st' := [aI (fsX L k), aI ((40 * (F 100 18)) + k), aR 113]) ?_ (e1 := by first | rfl | (simp only [List.cons.injEq, and_true]; exact congrArg aI ((congrFun (hO2 133 (by decide) (by decide)) k).trans hck.1)))
                    refine j_iast C (sM_113 hS) (by omega) (by omega) (by decide) dX10_read_109 ?_
                    refine j_aload_n C dX10_read_110 rfl rfl ?_
                    refine j_getR C (j := 114) fl_X10_45 (sM_100 hS) rfl dX10_read_111 ?_
                    refine j_bipush C dX10_read_114 rfl ?_
                    refine j_aload_n C dX10_read_116 rfl rfl ?_
                    refine j_get C (aI (F 100 18)) fl_X10_104 (sM_100 hS) (fun _ => rfl) dX10_read_117 ?_
                    refine j_imul C dX10_read_120 ?_
                    refine j_iload_n C dX10_read_121 rfl rfl ?_
                    refine j_iadd C dX10_read_122 ?_
                    refine j_aload_n C dX10_read_123 rfl rfl ?_
                    refine j_getR C (j := 134) fl_X10_85 (sM_100 hS) rfl dX10_read_124 ?_
                    refine j_iload_n C dX10_read_127 rfl rfl ?_
                    refine j_iald C (sM_134 hS) (by omega) (by omega) (by decide) dX10_read_128 ?_
                    refine j_eq (st' := [aI (B2 134 k), aI ((40 * (F 100 18)) + k), aR 114]) ?_
                    refine j_eq (st' := [aI (snY L k), aI ((40 * (F 100 18)) + k), aR 114]) ?_ (e1 := by first | rfl | (simp only [List.cons.injEq, and_true]; exact congrArg aI ((congrFun (hO2 134 (by decide) (by decide)) k).trans hck.2)))
                    refine j_iast C (sM_114 hS) (by omega) (by omega) (by decide) dX10_read_129 ?_
                    refine j_iinc C (lv' := [some (aR 100), some (aI 1), some (aI (k + 1))]) dX10_read_130 rfl (by decide) rfl ?_
                    refine j_goto C (tgt := 82) dX10_read_133 (by decide) ?_
                    exact ih82 (k + 1) ((upA (upA B2 113 ((40 * (F 100 18)) + k) (fsX L k)) 114 ((40 * (F 100 18)) + k) (snY L k))) (by omega) (fun i p1 p2 => by rw [upA_other p2, upA_other p1]; exact hO2 i p1 p2) (fun j => by rw [upA_other (by decide), upA_if, hW1 j]; by_cases e : j = 40 * F 100 18 + k; (rw [if_pos e, if_pos (by omega), e, show 40 * F 100 18 + k - 40 * F 100 18 = k by omega]); (rw [if_neg e]; by_cases e2 : 40 * F 100 18 ≤ j ∧ j < 40 * F 100 18 + k; (rw [if_pos e2, if_pos (by omega)]); (rw [if_neg e2, if_neg (by omega)]))) (fun j => by rw [upA_if, upA_other (by decide), hW2 j]; by_cases e : j = 40 * F 100 18 + k; (rw [if_pos e, if_pos (by omega), e, show 40 * F 100 18 + k - 40 * F 100 18 = k by omega]); (rw [if_neg e]; by_cases e2 : 40 * F 100 18 ≤ j ∧ j < 40 * F 100 18 + k; (rw [if_pos e2, if_pos (by omega)]); (rw [if_neg e2, if_neg (by omega)]))) (by omega)
              exact K82 _ 0 A_19 (by omega) (fun _ _ _ => rfl) (fun j => by rw [if_neg (by omega), hO19 113 (by decide) (by decide)]) (fun j => by rw [if_neg (by omega), hO19 114 (by decide) (by decide)]) (Nat.lt_succ_self _)
            · exact absurd c75 (by decide)
          · refine j_iconst C dX10_read_66 ?_
            refine j_goto C (tgt := 71) dX10_read_67 (by decide) ?_
            refine j_iconst C dX10_read_71 ?_
            refine j_callV C (vs := [aI 1, aI 2]) (st := []) cl_X10_111 im_yX10_throwsIf se_yX10_throwsIf (fun _ => m_throwsIf1 _ S (upF (upF (upF (upF (upF (upF (upF F 100 0 0) 100 29 (F 100 26)) 100 26 0) 100 28 a19) 100 30 b19) 100 32 c19) 100 31 ((-1))) A_19 hS _) (sM_100 hS) rfl rfl rfl ⟨rfl, rfl, by decide, by decide⟩ ⟨by decide, by decide⟩ (fun _ => Nat.le_of_ble_eq_true rfl) (fun v hv => by cases hv) (fun v hv => by simp only [List.mem_cons, List.not_mem_nil, or_false, Option.some.injEq, reduceCtorEq, false_or] at hv; rcases hv with rfl | rfl <;> first | exact (lM_100 hS) | exact trivial) dX10_read_72 (fun v_72 S_72 F_72 A_72 hP_72 => ?_)
            obtain ⟨rfl, rfl, rfl, rfl⟩ := hP_72
            show ab_J E 3 0 0 S (upF (upF (upF (upF (upF (upF (upF (upF F 100 0 0) 100 29 (F 100 26)) 100 26 0) 100 28 a19) 100 30 b19) 100 32 c19) 100 31 ((-1))) 100 0 2) A_19 75 [some (aR 100), some (aI 1), none] [aI 1]
            refine j_if_eq C (tgt := 80) dX10_read_75 (by decide) ⟨by omega, by omega⟩ (fun c75 => ?_) (fun c75 => ?_)
            · exact absurd c75 (by decide)
            · refine j_iconst C dX10_read_78 ?_
              exact j_iret C hr (Nat.le_refl _) (Nat.le_refl _) dX10_read_79 ⟨rfl, 2, ⟨_, rfl⟩, (fun k h0 h1 h2 h3 h4 h5 h6 h7 => by simp [upF, h0, h1, h2, h3, h4, h5, h6, h7]), (fun i hi => by funext k; simp [upF, hi]), rfl, rfl, (by first | exact hd19.symm | exact (congrArg Prod.fst hd19).symm), (fun i g1 g2 g3 g4 g5 g6 g7 => hO19 i g6 g7), (by first | exact Or.inl ⟨rfl, by rw [hd19]; omega, rfl, fun i g6 g7 => hO19 i g6 g7⟩ | exact Or.inr (Or.inl ⟨rfl, by rw [hd19], by omega, rfl, fun i g6 g7 => hO19 i g6 g7⟩))⟩
      · exact absurd c41 (by decide)
  · have hd19 : (rdS (byt (A 125) (F 100 26)) (F 100 26)).1 = b19 := hd19
    show ab_J E 3 0 0 S (upF (upF (upF (upF (upF (upF F 100 0 0) 100 29 (F 100 26)) 100 26 0) 100 28 a19) 100 30 b19) 100 32 c19) A_19 22 [some (aR 100), none, none] [aI 0]
    refine j_istore_n C (lv' := [some (aR 100), some (aI 0), none]) dX10_read_22 rfl (by decide) rfl ?_
    refine j_aload_n C dX10_read_23 rfl rfl ?_
    refine j_iload_n C dX10_read_24 rfl rfl ?_
    refine j_if_eq C (tgt := 32) dX10_read_25 (by decide) ⟨by omega, by omega⟩ (fun c25 => ?_) (fun c25 => ?_)
    · refine j_aload_n C dX10_read_32 rfl rfl ?_
      refine j_get C (aI b19) fl_X10_190 (sM_100 hS) (fun _ => rfl) dX10_read_33 ?_
      refine j_putI C fp_X10_79 (sM_100 hS) rfl dX10_read_36 ?_
      refine j_aload_n C dX10_read_39 rfl rfl ?_
      refine j_iload_n C dX10_read_40 rfl rfl ?_
      refine j_if_ne C (tgt := 48) dX10_read_41 (by decide) ⟨by omega, by omega⟩ (fun c41 => ?_) (fun c41 => ?_)
      · exact absurd c41 (by decide)
      · refine j_iconst C dX10_read_44 ?_
        refine j_goto C (tgt := 49) dX10_read_45 (by decide) ?_
        refine j_iconst C dX10_read_49 ?_
        refine j_callV C (vs := [aI 1, aI 1]) (st := []) cl_X10_111 im_yX10_throwsIf se_yX10_throwsIf (fun _ => m_throwsIf1 _ S (upF (upF (upF (upF (upF (upF (upF F 100 0 0) 100 29 (F 100 26)) 100 26 0) 100 28 a19) 100 30 b19) 100 32 c19) 100 31 b19) A_19 hS _) (sM_100 hS) rfl rfl rfl ⟨rfl, rfl, by decide, by decide⟩ ⟨by decide, by decide⟩ (fun _ => Nat.le_of_ble_eq_true rfl) (fun v hv => by cases hv) (fun v hv => by simp only [List.mem_cons, List.not_mem_nil, or_false, Option.some.injEq, reduceCtorEq, false_or] at hv; rcases hv with rfl | rfl <;> first | exact (lM_100 hS) | exact trivial) dX10_read_50 (fun v_50 S_50 F_50 A_50 hP_50 => ?_)
        obtain ⟨rfl, rfl, rfl, rfl⟩ := hP_50
        show ab_J E 3 0 0 S (upF (upF (upF (upF (upF (upF (upF (upF F 100 0 0) 100 29 (F 100 26)) 100 26 0) 100 28 a19) 100 30 b19) 100 32 c19) 100 31 b19) 100 0 1) A_19 53 [some (aR 100), some (aI 0), none] [aI 1]
        refine j_if_ne C (tgt := 78) dX10_read_53 (by decide) ⟨by omega, by omega⟩ (fun c53 => ?_) (fun c53 => ?_)
        · refine j_iconst C dX10_read_78 ?_
          exact j_iret C hr (Nat.le_refl _) (Nat.le_refl _) dX10_read_79 ⟨rfl, 1, ⟨_, rfl⟩, (fun k h0 h1 h2 h3 h4 h5 h6 h7 => by simp [upF, h0, h1, h2, h3, h4, h5, h6, h7]), (fun i hi => by funext k; simp [upF, hi]), rfl, rfl, (by first | exact hd19.symm | exact (congrArg Prod.fst hd19).symm), (fun i g1 g2 g3 g4 g5 g6 g7 => hO19 i g6 g7), (by first | exact Or.inl ⟨rfl, by rw [hd19]; omega, rfl, fun i g6 g7 => hO19 i g6 g7⟩ | exact Or.inr (Or.inl ⟨rfl, by rw [hd19], by omega, rfl, fun i g6 g7 => hO19 i g6 g7⟩))⟩
        · exact absurd c53 (by decide)
    · exact absurd c25 (by decide)
