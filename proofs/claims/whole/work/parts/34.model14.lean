theorem wr_hit {P : Int → Int → Prop} {a b c d x y : Int} (h : NX P a b c d) (hp : P x y) (hm : cr a b c d x y < 0 ∨ (cr a b c d x y = 0 ∧ dd a b c d < dd a b x y)) : False := by
  rcases h.2 x y hp with q | ⟨q1, q2⟩
  · omega
  · rcases q2 with ⟨e1, e2⟩ | q2
    · rw [e1, e2] at hm
      have : cr a b c d c d = 0 := by rw [e1, e2] at q1; exact q1
      omega
    · omega
theorem wr_miss {P : Int → Int → Prop} {a b c d x y : Int} (h : NX P a b c d) (hp : P x y) (hm : ¬ (cr a b x y c d < 0 ∨ (cr a b x y c d = 0 ∧ dd a b x y < dd a b c d))) : x = c ∧ y = d := by
  rw [cr_anti] at hm
  rcases h.2 x y hp with q | ⟨q1, q2⟩
  · omega
  · rcases q2 with e | q2
    · exact e
    · omega

set_option maxHeartbeats 4000000 in
set_option maxRecDepth 100000 in
theorem m_limits (l : Launch) (S : ab_St) (F : ab_Fn) (A : ab_An) (hS : ab_SM S) (m : Int) (X Y : Int → Int) (hm : 0 ≤ m ∧ m ≤ 1120) (hLR : LR (PT (fun s => exB (fun bb => 0 < A 106 (280 * bb + s)) (F 100 11))) m X Y) (hb : 0 ≤ F 100 11 ∧ F 100 11 ≤ 10) (hp : ∀ sq, 0 ≤ sq → sq < 280 → ∀ b, 0 ≤ b → b < F 100 11 → inR (A 106 (280 * b + sq))) : ab_Met l yX10_limits cX10_limits 6 none { frames := 2, cells := 0, slots := 0, locals := 54 } 0 0 [aR 100] S F A (fun v S' F' A' => S = S' ∧ v = none ∧ F' = upF F 100 24 m ∧ (∀ i, i ≠ 120 → i ≠ 121 → i ≠ 122 → i ≠ 123 → A' i = A i) ∧ ∀ k, 0 ≤ k → k < m → A' 122 k = X k ∧ A' 123 k = Y k) := by
  refine ab_enter (by decide) (by simp [aI, aR, aX, ab_val, Value.category]) (Nat.le_of_ble_eq_true rfl) (fun E C hr => ?_)
  refine j_eq (lv' := [some (aR 100), none, none, none, none, none]) ?_
  refine j_iconst C dX10_limits_0 ?_
  refine j_istore_n C (lv' := [some (aR 100), some (aI 0), none, none, none, none]) dX10_limits_1 rfl (by decide) rfl ?_
  refine j_iconst C dX10_limits_2 ?_
  refine j_istore_n C (lv' := [some (aR 100), some (aI 0), some (aI 0), none, none, none]) dX10_limits_3 rfl (by decide) rfl ?_
  have K4 : ∀ (N : Nat) (n k : Int) (B : ab_An), (0 ≤ k ∧ k ≤ 280) → (0 ≤ n ∧ n ≤ 4 * k) → ((∀ i, i ≠ 120 → i ≠ 121 → i ≠ 122 → i ≠ 123 → B i = A i)) → (FL (fun s => exB (fun bb => 0 < A 106 (280 * bb + s)) (F 100 11)) (B 120) (B 121) n k 0) → ((280 - k).toNat) < N → ab_J E 6 0 0 S F B 4 [some (aR 100), some (aI n), some (aI k), none, none, none] [] := by
    intro N
    induction N with
    | zero => intro n k B hk hn hO hFL hm; exact absurd hm (Nat.not_lt_zero _)
    | succ N ih =>
      have ih4 := ih
      clear ih
      intro n k B hk hn hO hFL hm4
      refine j_iload_n C dX10_limits_4 rfl rfl ?_
      refine j_sipush C dX10_limits_5 rfl ?_
      refine j_icmp_ge C (tgt := 72) dX10_limits_8 (by decide) ⟨by omega, by omega⟩ ⟨by omega, by omega⟩ (fun c8 => ?_) (fun c8 => ?_)
      · have ek : k = 280 := by omega
        rw [ek] at hFL
        have hrg : ∀ j, 0 ≤ j → j < n → 0 ≤ B 120 j ∧ B 120 j ≤ 20 ∧ 0 ≤ B 121 j ∧ B 121 j ≤ 14 := fun j a b => PT_rng (FL_PT hFL a b)
        refine j_aload_n C dX10_limits_72 rfl rfl ?_
        refine j_iconst C dX10_limits_73 ?_
        refine j_putI C fp_X10_159 (sM_100 hS) rfl dX10_limits_74 ?_
        refine j_iload_n C dX10_limits_77 rfl rfl ?_
        refine j_if_ne C (tgt := 82) dX10_limits_78 (by decide) ⟨by omega, by omega⟩ (fun c78 => ?_) (fun c78 => ?_)
        · refine j_iconst C dX10_limits_82 ?_
          refine j_istore_n C (lv' := [some (aR 100), some (aI n), some (aI 0), none, none, none]) dX10_limits_83 rfl (by decide) rfl ?_
          refine j_iconst C dX10_limits_84 ?_
          refine j_istore_n C (lv' := [some (aR 100), some (aI n), some (aI 0), some (aI 1), none, none]) dX10_limits_85 rfl (by decide) rfl ?_
          have K86 : ∀ (N : Nat) (f j : Int), (1 ≤ j ∧ j ≤ n) → (0 ≤ f ∧ f < n) → (∀ i, 0 ≤ i → i < j → B 120 f < B 120 i ∨ (B 120 f = B 120 i ∧ B 121 f ≤ B 121 i)) → ((n - j).toNat) < N → ab_J E 6 0 0 S (upF F 100 24 0) B 86 [some (aR 100), some (aI n), some (aI f), some (aI j), none, none] [] := by
            intro N
            induction N with
            | zero => intro f j hj hf hlx hm; exact absurd hm (Nat.not_lt_zero _)
            | succ N ih =>
              have ih86 := ih
              clear ih
              intro f j hj hf hlx hm86
              refine j_iload_n C dX10_limits_86 rfl rfl ?_
              refine j_iload_n C dX10_limits_87 rfl rfl ?_
              refine j_icmp_ge C (tgt := 144) dX10_limits_88 (by decide) ⟨by omega, by omega⟩ ⟨by omega, by omega⟩ (fun c88 => ?_) (fun c88 => ?_)
              · rcases hLR with ⟨_, e2⟩ | ⟨hm1, hLP, hL0, hLN, hLd⟩
                · exact absurd (FL_PT hFL hf.1 hf.2) (e2 _ _)
                have hf0 : B 120 f = X 0 ∧ B 121 f = Y 0 := by
                  have q1 := hL0 _ _ (FL_PT hFL hf.1 hf.2)
                  obtain ⟨j', j1, j2, j3, j4⟩ := FL_of hFL (hLP 0 (Int.le_refl _) (by omega))
                  have q2 := hlx j' j1 (by omega)
                  rw [j3, j4] at q2
                  omega
                refine j_iload_n C dX10_limits_144 rfl rfl ?_
                refine j_istore_n C (lv' := [some (aR 100), some (aI n), some (aI f), some (aI f), none, none]) dX10_limits_145 rfl (by decide) rfl ?_
                have K146 : ∀ (N : Nat) (a i : Int) (B3 : ab_An), (0 ≤ a ∧ a < n) → (0 ≤ i ∧ i < m) → (B 120 a = X i ∧ B 121 a = Y i) → (B3 120 = B 120) → (B3 121 = B 121) → ((∀ i, i ≠ 120 → i ≠ 121 → i ≠ 122 → i ≠ 123 → B3 i = A i)) → (∀ k, 0 ≤ k → k < i → B3 122 k = X k ∧ B3 123 k = Y k) → ((m - i).toNat) < N → ab_J E 6 0 0 S (upF F 100 24 i) B3 146 [some (aR 100), some (aI n), some (aI f), some (aI a), none, none] [] := by
                  intro N
                  induction N with
                  | zero => intro a i B3 ha hi hax h3_120 h3_121 hO3 hst hm; exact absurd hm (Nat.not_lt_zero _)
                  | succ N ih =>
                    have ih146 := ih
                    clear ih
                    intro a i B3 ha hi hax h3_120 h3_121 hO3 hst hm146
                    refine j_aload_n C dX10_limits_146 rfl rfl ?_
                    refine j_getR C (j := 122) fl_X10_66 (sM_100 hS) rfl dX10_limits_147 ?_
                    refine j_aload_n C dX10_limits_150 rfl rfl ?_
                    refine j_get C (aI i) fl_X10_159 (sM_100 hS) (fun _ => rfl) dX10_limits_151 ?_
                    refine j_aload_n C dX10_limits_154 rfl rfl ?_
                    refine j_getR C (j := 120) fl_X10_60 (sM_100 hS) rfl dX10_limits_155 ?_
                    refine j_iload_n C dX10_limits_158 rfl rfl ?_
                    refine j_iald C (sM_120 hS) (by omega) (by omega) (by decide) dX10_limits_159 ?_
                    refine j_eq (st' := [aI (B 120 a), aI i, aR 122]) ?_ (e1 := by first | rfl | (simp only [List.cons.injEq, and_true]; exact congrArg aI (congrFun h3_120 _)))
                    refine j_iast C (sM_122 hS) (by omega) (by omega) (by decide) dX10_limits_160 ?_
                    refine j_aload_n C dX10_limits_161 rfl rfl ?_
                    refine j_getR C (j := 123) fl_X10_69 (sM_100 hS) rfl dX10_limits_162 ?_
                    refine j_aload_n C dX10_limits_165 rfl rfl ?_
                    refine j_get C (aI i) fl_X10_159 (sM_100 hS) (fun _ => rfl) dX10_limits_166 ?_
                    refine j_aload_n C dX10_limits_169 rfl rfl ?_
                    refine j_getR C (j := 121) fl_X10_63 (sM_100 hS) rfl dX10_limits_170 ?_
                    refine j_iload_n C dX10_limits_173 rfl rfl ?_
                    refine j_iald C (sM_121 hS) (by omega) (by omega) (by decide) dX10_limits_174 ?_
                    refine j_eq (st' := [aI (B3 121 a), aI i, aR 123]) ?_
                    refine j_eq (st' := [aI (B 121 a), aI i, aR 123]) ?_ (e1 := by first | rfl | (simp only [List.cons.injEq, and_true]; exact congrArg aI (congrFun h3_121 _)))
                    refine j_iast C (sM_123 hS) (by omega) (by omega) (by decide) dX10_limits_175 ?_
                    refine j_aload_n C dX10_limits_176 rfl rfl ?_
                    refine j_dup C dX10_limits_177 (fun _ => rfl) ?_
                    refine j_get C (aI i) fl_X10_159 (sM_100 hS) (fun _ => rfl) dX10_limits_178 ?_
                    refine j_iconst C dX10_limits_181 ?_
                    refine j_iadd C dX10_limits_182 ?_
                    refine j_putI C fp_X10_159 (sM_100 hS) rfl dX10_limits_183 ?_
                    refine j_iconst C dX10_limits_186 ?_
                    refine j_istore C (lv' := [some (aR 100), some (aI n), some (aI f), some (aI a), some (aI ((-1))), none]) dX10_limits_187 (by decide) rfl ?_
                    refine j_iconst C dX10_limits_189 ?_
                    refine j_istore C (lv' := [some (aR 100), some (aI n), some (aI f), some (aI a), some (aI ((-1))), some (aI 0)]) dX10_limits_190 (by decide) rfl ?_
                    have K192 : ∀ (N : Nat) (b j2 : Int), (0 ≤ j2 ∧ j2 ≤ n) → (-1 ≤ b ∧ b < n) → (0 ≤ b → ¬ (B 120 b = B 120 a ∧ B 121 b = B 121 a)) → ((∃ j', 0 ≤ j' ∧ j' < j2 ∧ B 120 j' = X (nx m i) ∧ B 121 j' = Y (nx m i)) → 0 ≤ b ∧ B 120 b = X (nx m i) ∧ B 121 b = Y (nx m i)) → ((n - j2).toNat) < N → ab_J E 6 0 0 S (upF (upF F 100 24 i) 100 24 (i + 1)) (upA (upA B3 122 i (B 120 a)) 123 i (B 121 a)) 192 [some (aR 100), some (aI n), some (aI f), some (aI a), some (aI b), some (aI j2)] [] := by
                      intro N
                      induction N with
                      | zero => intro b j2 hj2 hb2 hne hit hm; exact absurd hm (Nat.not_lt_zero _)
                      | succ N ih =>
                        have ih192 := ih
                        clear ih
                        intro b j2 hj2 hb2 hne hit hm192
                        refine j_iload C dX10_limits_192 rfl ?_
                        refine j_iload_n C dX10_limits_194 rfl rfl ?_
                        refine j_icmp_ge C (tgt := 260) dX10_limits_195 (by decide) ⟨by omega, by omega⟩ ⟨by omega, by omega⟩ (fun c195 => ?_) (fun c195 => ?_)
                        · have hgot := hit (by obtain ⟨j', j1, j3, j4⟩ := FL_of hFL (hLP (nx m i) (nx_lt hi).1 (nx_lt hi).2); exact ⟨j', j1, by omega, j4⟩)
                          have hst9 : ∀ k, 0 ≤ k → k < i + 1 → (upA (upA B3 122 i (B 120 a)) 123 i (B 121 a)) 122 k = X k ∧ (upA (upA B3 122 i (B 120 a)) 123 i (B 121 a)) 123 k = Y k := fun k q1 q2 => by
                            rw [upA_other (by decide), upA_if, upA_if, upA_other (by decide)]
                            by_cases e : k = i
                            · rw [if_pos e, if_pos e, e]; exact hax
                            · rw [if_neg e, if_neg e]; exact hst k q1 (by omega)
                          refine j_iload C dX10_limits_260 rfl ?_
                          refine j_istore_n C (lv' := [some (aR 100), some (aI n), some (aI f), some (aI b), some (aI b), some (aI j2)]) dX10_limits_262 rfl (by decide) rfl ?_
                          refine j_aload_n C dX10_limits_263 rfl rfl ?_
                          refine j_getR C (j := 120) fl_X10_60 (sM_100 hS) rfl dX10_limits_264 ?_
                          refine j_iload_n C dX10_limits_267 rfl rfl ?_
                          refine j_iald C (sM_120 hS) (by omega) (by omega) (by decide) dX10_limits_268 ?_
                          refine j_eq (st' := [aI (B3 120 b)]) ?_
                          refine j_eq (st' := [aI (B 120 b)]) ?_ (e1 := by first | rfl | (simp only [List.cons.injEq, and_true]; exact congrArg aI (congrFun h3_120 _)))
                          refine j_aload_n C dX10_limits_269 rfl rfl ?_
                          refine j_getR C (j := 120) fl_X10_60 (sM_100 hS) rfl dX10_limits_270 ?_
                          refine j_iload_n C dX10_limits_273 rfl rfl ?_
                          refine j_iald C (sM_120 hS) (by omega) (by omega) (by decide) dX10_limits_274 ?_
                          refine j_eq (st' := [aI (B3 120 f), aI (B 120 b)]) ?_
                          refine j_eq (st' := [aI (B 120 f), aI (B 120 b)]) ?_ (e1 := by first | rfl | (simp only [List.cons.injEq, and_true]; exact congrArg aI (congrFun h3_120 _)))
                          refine j_icmp_ne C (tgt := 146) dX10_limits_275 (by decide) (by have := hrg b (by omega) (by omega); exact ⟨by omega, by omega⟩) (by have := hrg f (by omega) (by omega); exact ⟨by omega, by omega⟩) (fun c275 => ?_) (fun c275 => ?_)
                          · refine j_lv (lv' := [some (aR 100), some (aI n), some (aI f), some (aI b), none, none]) ?_ ⟨rfl, rfl, rfl, rfl, trivial⟩
                            refine j_eq (F' := (upF F 100 24 (i + 1))) ?_ (e3 := (upF_up _ _ _ _ _))
                            exact ih146 b (i + 1) ((upA (upA B3 122 i (B 120 a)) 123 i (B 121 a))) (by omega) (by have e : ¬ i + 1 = m := (fun e => by have e2 : nx m i = 0 := if_pos e; rw [e2] at hgot; omega); omega) (by have e : ¬ i + 1 = m := (fun e => by have e2 : nx m i = 0 := if_pos e; rw [e2] at hgot; omega); have e2 : nx m i = i + 1 := if_neg e; rw [e2] at hgot; exact hgot.2) ((upA_other (by decide)).trans ((upA_other (by decide)).trans h3_120)) ((upA_other (by decide)).trans ((upA_other (by decide)).trans h3_121)) (fun i g1 g2 g3 g4 => by rw [upA_other g4, upA_other g3]; exact hO3 i g1 g2 g3 g4) hst9 (by have e : ¬ i + 1 = m := (fun e => by have e2 : nx m i = 0 := if_pos e; rw [e2] at hgot; omega); omega)
                          · refine j_aload_n C dX10_limits_278 rfl rfl ?_
                            refine j_getR C (j := 121) fl_X10_63 (sM_100 hS) rfl dX10_limits_279 ?_
                            refine j_iload_n C dX10_limits_282 rfl rfl ?_
                            refine j_iald C (sM_121 hS) (by omega) (by omega) (by decide) dX10_limits_283 ?_
                            refine j_eq (st' := [aI (B3 121 b)]) ?_
                            refine j_eq (st' := [aI (B 121 b)]) ?_ (e1 := by first | rfl | (simp only [List.cons.injEq, and_true]; exact congrArg aI (congrFun h3_121 _)))
                            refine j_aload_n C dX10_limits_284 rfl rfl ?_
                            refine j_getR C (j := 121) fl_X10_63 (sM_100 hS) rfl dX10_limits_285 ?_
                            refine j_iload_n C dX10_limits_288 rfl rfl ?_
                            refine j_iald C (sM_121 hS) (by omega) (by omega) (by decide) dX10_limits_289 ?_
                            refine j_eq (st' := [aI (B3 121 f), aI (B 121 b)]) ?_
                            refine j_eq (st' := [aI (B 121 f), aI (B 121 b)]) ?_ (e1 := by first | rfl | (simp only [List.cons.injEq, and_true]; exact congrArg aI (congrFun h3_121 _)))
                            refine j_icmp_ne C (tgt := 146) dX10_limits_290 (by decide) (by have := hrg b (by omega) (by omega); exact ⟨by omega, by omega⟩) (by have := hrg f (by omega) (by omega); exact ⟨by omega, by omega⟩) (fun c290 => ?_) (fun c290 => ?_)
                            · refine j_lv (lv' := [some (aR 100), some (aI n), some (aI f), some (aI b), none, none]) ?_ ⟨rfl, rfl, rfl, rfl, trivial⟩
                              refine j_eq (F' := (upF F 100 24 (i + 1))) ?_ (e3 := (upF_up _ _ _ _ _))
                              exact ih146 b (i + 1) ((upA (upA B3 122 i (B 120 a)) 123 i (B 121 a))) (by omega) (by have e : ¬ i + 1 = m := (fun e => by have e2 : nx m i = 0 := if_pos e; rw [e2] at hgot; omega); omega) (by have e : ¬ i + 1 = m := (fun e => by have e2 : nx m i = 0 := if_pos e; rw [e2] at hgot; omega); have e2 : nx m i = i + 1 := if_neg e; rw [e2] at hgot; exact hgot.2) ((upA_other (by decide)).trans ((upA_other (by decide)).trans h3_120)) ((upA_other (by decide)).trans ((upA_other (by decide)).trans h3_121)) (fun i g1 g2 g3 g4 => by rw [upA_other g4, upA_other g3]; exact hO3 i g1 g2 g3 g4) hst9 (by have e : ¬ i + 1 = m := (fun e => by have e2 : nx m i = 0 := if_pos e; rw [e2] at hgot; omega); omega)
                            · have hend : i + 1 = m := by
                                by_cases e : i + 1 = m
                                · exact e
                                · have e2 : nx m i = i + 1 := if_neg e
                                  rw [e2] at hgot
                                  exact absurd (show X (i + 1) = X 0 ∧ Y (i + 1) = Y 0 by omega) (hLd (i + 1) (by omega) (by omega))
                              exact j_vret C hr (Nat.le_refl _) (Nat.le_refl _) dX10_limits_293 ⟨rfl, rfl, (by rw [upF_up, hend]), (fun i g1 g2 g3 g4 => by rw [upA_other g4, upA_other g3]; exact hO3 i g1 g2 g3 g4), (fun k q1 q2 => hst9 k q1 (by omega))⟩
                        · refine j_aload_n C dX10_limits_198 rfl rfl ?_
                          refine j_getR C (j := 120) fl_X10_60 (sM_100 hS) rfl dX10_limits_199 ?_
                          refine j_iload C dX10_limits_202 rfl ?_
                          refine j_iald C (sM_120 hS) (by omega) (by omega) (by decide) dX10_limits_204 ?_
                          refine j_eq (st' := [aI (B3 120 j2)]) ?_
                          refine j_eq (st' := [aI (B 120 j2)]) ?_ (e1 := by first | rfl | (simp only [List.cons.injEq, and_true]; exact congrArg aI (congrFun h3_120 _)))
                          refine j_aload_n C dX10_limits_205 rfl rfl ?_
                          refine j_getR C (j := 120) fl_X10_60 (sM_100 hS) rfl dX10_limits_206 ?_
                          refine j_iload_n C dX10_limits_209 rfl rfl ?_
                          refine j_iald C (sM_120 hS) (by omega) (by omega) (by decide) dX10_limits_210 ?_
                          refine j_eq (st' := [aI (B3 120 a), aI (B 120 j2)]) ?_
                          refine j_eq (st' := [aI (B 120 a), aI (B 120 j2)]) ?_ (e1 := by first | rfl | (simp only [List.cons.injEq, and_true]; exact congrArg aI (congrFun h3_120 _)))
                          refine j_icmp_ne C (tgt := 233) dX10_limits_211 (by decide) (by have := hrg j2 (by omega) (by omega); exact ⟨by omega, by omega⟩) (by have := hrg a (by omega) (by omega); exact ⟨by omega, by omega⟩) (fun c211 => ?_) (fun c211 => ?_)
                          · refine j_iload C dX10_limits_233 rfl ?_
                            refine j_if_lt C (tgt := 250) dX10_limits_235 (by decide) ⟨by omega, by omega⟩ (fun c235 => ?_) (fun c235 => ?_)
                            · refine j_iload C dX10_limits_250 rfl ?_
                              refine j_istore C (lv' := [some (aR 100), some (aI n), some (aI f), some (aI a), some (aI j2), some (aI j2)]) dX10_limits_252 (by decide) rfl ?_
                              refine j_iinc C (lv' := [some (aR 100), some (aI n), some (aI f), some (aI a), some (aI j2), some (aI (j2 + 1))]) dX10_limits_254 rfl (by decide) rfl ?_
                              refine j_goto C (tgt := 192) dX10_limits_257 (by decide) ?_
                              exact ih192 j2 (j2 + 1) (by omega) (by omega) (fun _ => by omega) (fun ⟨j', q1, q2, q3, q4⟩ => by by_cases e : j' = j2; (rw [e] at q3 q4; exact ⟨by omega, q3, q4⟩); (have := hit ⟨j', q1, by omega, q3, q4⟩; omega)) (by omega)
                            · refine j_aload_n C dX10_limits_238 rfl rfl ?_
                              refine j_iload_n C dX10_limits_239 rfl rfl ?_
                              refine j_iload C dX10_limits_240 rfl ?_
                              refine j_iload C dX10_limits_242 rfl ?_
                              refine j_callV C (vs := [aI a, aI b, aI j2]) (st := []) cl_X10_162 im_yX10_isMore se_yX10_isMore (fun _ => m_isMore _ S (upF (upF F 100 24 i) 100 24 (i + 1)) (upA (upA B3 122 i (B 120 a)) 123 i (B 121 a)) hS _ _ _ (by omega) (by rw [upA_other (by decide), upA_other (by decide), upA_other (by decide), upA_other (by decide), h3_120, h3_121]; have := hrg a (by omega) (by omega); omega) (by rw [upA_other (by decide), upA_other (by decide), upA_other (by decide), upA_other (by decide), h3_120, h3_121]; have := hrg b (by omega) (by omega); omega) (by rw [upA_other (by decide), upA_other (by decide), upA_other (by decide), upA_other (by decide), h3_120, h3_121]; have := hrg j2 (by omega) (by omega); omega)) (sM_100 hS) rfl rfl rfl ⟨rfl, rfl, by decide, by decide⟩ ⟨by decide, by decide⟩ (fun _ => Nat.le_of_ble_eq_true rfl) (fun v hv => by cases hv) (fun v hv => by simp only [List.mem_cons, List.not_mem_nil, or_false, Option.some.injEq, reduceCtorEq, false_or] at hv; rcases hv with rfl | rfl | rfl | rfl | rfl | rfl <;> first | exact (lM_100 hS) | exact trivial) dX10_limits_244 (fun v_244 S_244 F_244 A_244 hP_244 => ?_)
                              obtain ⟨rfl, rfl, rfl, z_244, rfl, ⟨rfl, hz_244⟩ | ⟨rfl, hz_244⟩⟩ := hP_244
                              · have hz_244 : cr (B3 120 a) (B3 121 a) (B3 120 b) (B3 121 b) (B3 120 j2) (B3 121 j2) < 0 ∨ (cr (B3 120 a) (B3 121 a) (B3 120 b) (B3 121 b) (B3 120 j2) (B3 121 j2) = 0 ∧ dd (B3 120 a) (B3 121 a) (B3 120 b) (B3 121 b) < dd (B3 120 a) (B3 121 a) (B3 120 j2) (B3 121 j2)) := hz_244
                                show ab_J E 6 0 0 S (upF (upF F 100 24 i) 100 24 (i + 1)) (upA (upA B3 122 i (B 120 a)) 123 i (B 121 a)) 247 [some (aR 100), some (aI n), some (aI f), some (aI a), some (aI b), some (aI j2)] [aI 1]
                                skip
                                refine j_if_eq C (tgt := 254) dX10_limits_247 (by decide) ⟨by omega, by omega⟩ (fun c247 => ?_) (fun c247 => ?_)
                                · exact absurd c247 (by decide)
                                · refine j_iload C dX10_limits_250 rfl ?_
                                  refine j_istore C (lv' := [some (aR 100), some (aI n), some (aI f), some (aI a), some (aI j2), some (aI j2)]) dX10_limits_252 (by decide) rfl ?_
                                  refine j_iinc C (lv' := [some (aR 100), some (aI n), some (aI f), some (aI a), some (aI j2), some (aI (j2 + 1))]) dX10_limits_254 rfl (by decide) rfl ?_
                                  refine j_goto C (tgt := 192) dX10_limits_257 (by decide) ?_
                                  exact ih192 j2 (j2 + 1) (by omega) (by omega) (fun _ => by omega) (fun ⟨j', q1, q2, q3, q4⟩ => by by_cases e : j' = j2; (rw [e] at q3 q4; exact ⟨by omega, q3, q4⟩); (exfalso; have h9 := hit ⟨j', q1, by omega, q3, q4⟩; rw [h3_120, h3_121, hax.1, hax.2, h9.2.1, h9.2.2] at hz_244; exact wr_hit (hLN i hi.1 hi.2) (FL_PT hFL hj2.1 (by omega)) hz_244)) (by omega)
                              · have hz_244 : ¬ (cr (B3 120 a) (B3 121 a) (B3 120 b) (B3 121 b) (B3 120 j2) (B3 121 j2) < 0 ∨ (cr (B3 120 a) (B3 121 a) (B3 120 b) (B3 121 b) (B3 120 j2) (B3 121 j2) = 0 ∧ dd (B3 120 a) (B3 121 a) (B3 120 b) (B3 121 b) < dd (B3 120 a) (B3 121 a) (B3 120 j2) (B3 121 j2))) := hz_244
                                show ab_J E 6 0 0 S (upF (upF F 100 24 i) 100 24 (i + 1)) (upA (upA B3 122 i (B 120 a)) 123 i (B 121 a)) 247 [some (aR 100), some (aI n), some (aI f), some (aI a), some (aI b), some (aI j2)] [aI 0]
                                skip
                                refine j_if_eq C (tgt := 254) dX10_limits_247 (by decide) ⟨by omega, by omega⟩ (fun c247 => ?_) (fun c247 => ?_)
                                · refine j_iinc C (lv' := [some (aR 100), some (aI n), some (aI f), some (aI a), some (aI b), some (aI (j2 + 1))]) dX10_limits_254 rfl (by decide) rfl ?_
                                  refine j_goto C (tgt := 192) dX10_limits_257 (by decide) ?_
                                  exact ih192 b (j2 + 1) (by omega) (by omega) hne (fun ⟨j', q1, q2, q3, q4⟩ => by by_cases e : j' = j2; (rw [e] at q3 q4; rw [h3_120, h3_121, hax.1, hax.2, q3, q4] at hz_244; exact ⟨by omega, wr_miss (hLN i hi.1 hi.2) (FL_PT hFL (show 0 ≤ b by omega) hb2.2) hz_244⟩); (exact hit ⟨j', q1, by omega, q3, q4⟩)) (by omega)
                                · exact absurd c247 (by decide)
                          · refine j_aload_n C dX10_limits_214 rfl rfl ?_
                            refine j_getR C (j := 121) fl_X10_63 (sM_100 hS) rfl dX10_limits_215 ?_
                            refine j_iload C dX10_limits_218 rfl ?_
                            refine j_iald C (sM_121 hS) (by omega) (by omega) (by decide) dX10_limits_220 ?_
                            refine j_eq (st' := [aI (B3 121 j2)]) ?_
                            refine j_eq (st' := [aI (B 121 j2)]) ?_ (e1 := by first | rfl | (simp only [List.cons.injEq, and_true]; exact congrArg aI (congrFun h3_121 _)))
                            refine j_aload_n C dX10_limits_221 rfl rfl ?_
                            refine j_getR C (j := 121) fl_X10_63 (sM_100 hS) rfl dX10_limits_222 ?_
                            refine j_iload_n C dX10_limits_225 rfl rfl ?_
                            refine j_iald C (sM_121 hS) (by omega) (by omega) (by decide) dX10_limits_226 ?_
                            refine j_eq (st' := [aI (B3 121 a), aI (B 121 j2)]) ?_
                            refine j_eq (st' := [aI (B 121 a), aI (B 121 j2)]) ?_ (e1 := by first | rfl | (simp only [List.cons.injEq, and_true]; exact congrArg aI (congrFun h3_121 _)))
                            refine j_icmp_ne C (tgt := 233) dX10_limits_227 (by decide) (by have := hrg j2 (by omega) (by omega); exact ⟨by omega, by omega⟩) (by have := hrg a (by omega) (by omega); exact ⟨by omega, by omega⟩) (fun c227 => ?_) (fun c227 => ?_)
                            · refine j_iload C dX10_limits_233 rfl ?_
                              refine j_if_lt C (tgt := 250) dX10_limits_235 (by decide) ⟨by omega, by omega⟩ (fun c235 => ?_) (fun c235 => ?_)
                              · refine j_iload C dX10_limits_250 rfl ?_
                                refine j_istore C (lv' := [some (aR 100), some (aI n), some (aI f), some (aI a), some (aI j2), some (aI j2)]) dX10_limits_252 (by decide) rfl ?_
                                refine j_iinc C (lv' := [some (aR 100), some (aI n), some (aI f), some (aI a), some (aI j2), some (aI (j2 + 1))]) dX10_limits_254 rfl (by decide) rfl ?_
                                refine j_goto C (tgt := 192) dX10_limits_257 (by decide) ?_
                                exact ih192 j2 (j2 + 1) (by omega) (by omega) (fun _ => by omega) (fun ⟨j', q1, q2, q3, q4⟩ => by by_cases e : j' = j2; (rw [e] at q3 q4; exact ⟨by omega, q3, q4⟩); (have := hit ⟨j', q1, by omega, q3, q4⟩; omega)) (by omega)
                              · refine j_aload_n C dX10_limits_238 rfl rfl ?_
                                refine j_iload_n C dX10_limits_239 rfl rfl ?_
                                refine j_iload C dX10_limits_240 rfl ?_
                                refine j_iload C dX10_limits_242 rfl ?_
                                refine j_callV C (vs := [aI a, aI b, aI j2]) (st := []) cl_X10_162 im_yX10_isMore se_yX10_isMore (fun _ => m_isMore _ S (upF (upF F 100 24 i) 100 24 (i + 1)) (upA (upA B3 122 i (B 120 a)) 123 i (B 121 a)) hS _ _ _ (by omega) (by rw [upA_other (by decide), upA_other (by decide), upA_other (by decide), upA_other (by decide), h3_120, h3_121]; have := hrg a (by omega) (by omega); omega) (by rw [upA_other (by decide), upA_other (by decide), upA_other (by decide), upA_other (by decide), h3_120, h3_121]; have := hrg b (by omega) (by omega); omega) (by rw [upA_other (by decide), upA_other (by decide), upA_other (by decide), upA_other (by decide), h3_120, h3_121]; have := hrg j2 (by omega) (by omega); omega)) (sM_100 hS) rfl rfl rfl ⟨rfl, rfl, by decide, by decide⟩ ⟨by decide, by decide⟩ (fun _ => Nat.le_of_ble_eq_true rfl) (fun v hv => by cases hv) (fun v hv => by simp only [List.mem_cons, List.not_mem_nil, or_false, Option.some.injEq, reduceCtorEq, false_or] at hv; rcases hv with rfl | rfl | rfl | rfl | rfl | rfl <;> first | exact (lM_100 hS) | exact trivial) dX10_limits_244 (fun v_244 S_244 F_244 A_244 hP_244 => ?_)
                                obtain ⟨rfl, rfl, rfl, z_244, rfl, ⟨rfl, hz_244⟩ | ⟨rfl, hz_244⟩⟩ := hP_244
                                · have hz_244 : cr (B3 120 a) (B3 121 a) (B3 120 b) (B3 121 b) (B3 120 j2) (B3 121 j2) < 0 ∨ (cr (B3 120 a) (B3 121 a) (B3 120 b) (B3 121 b) (B3 120 j2) (B3 121 j2) = 0 ∧ dd (B3 120 a) (B3 121 a) (B3 120 b) (B3 121 b) < dd (B3 120 a) (B3 121 a) (B3 120 j2) (B3 121 j2)) := hz_244
                                  show ab_J E 6 0 0 S (upF (upF F 100 24 i) 100 24 (i + 1)) (upA (upA B3 122 i (B 120 a)) 123 i (B 121 a)) 247 [some (aR 100), some (aI n), some (aI f), some (aI a), some (aI b), some (aI j2)] [aI 1]
                                  skip
                                  refine j_if_eq C (tgt := 254) dX10_limits_247 (by decide) ⟨by omega, by omega⟩ (fun c247 => ?_) (fun c247 => ?_)
                                  · exact absurd c247 (by decide)
                                  · refine j_iload C dX10_limits_250 rfl ?_
                                    refine j_istore C (lv' := [some (aR 100), some (aI n), some (aI f), some (aI a), some (aI j2), some (aI j2)]) dX10_limits_252 (by decide) rfl ?_
                                    refine j_iinc C (lv' := [some (aR 100), some (aI n), some (aI f), some (aI a), some (aI j2), some (aI (j2 + 1))]) dX10_limits_254 rfl (by decide) rfl ?_
                                    refine j_goto C (tgt := 192) dX10_limits_257 (by decide) ?_
                                    exact ih192 j2 (j2 + 1) (by omega) (by omega) (fun _ => by omega) (fun ⟨j', q1, q2, q3, q4⟩ => by by_cases e : j' = j2; (rw [e] at q3 q4; exact ⟨by omega, q3, q4⟩); (exfalso; have h9 := hit ⟨j', q1, by omega, q3, q4⟩; rw [h3_120, h3_121, hax.1, hax.2, h9.2.1, h9.2.2] at hz_244; exact wr_hit (hLN i hi.1 hi.2) (FL_PT hFL hj2.1 (by omega)) hz_244)) (by omega)
                                · have hz_244 : ¬ (cr (B3 120 a) (B3 121 a) (B3 120 b) (B3 121 b) (B3 120 j2) (B3 121 j2) < 0 ∨ (cr (B3 120 a) (B3 121 a) (B3 120 b) (B3 121 b) (B3 120 j2) (B3 121 j2) = 0 ∧ dd (B3 120 a) (B3 121 a) (B3 120 b) (B3 121 b) < dd (B3 120 a) (B3 121 a) (B3 120 j2) (B3 121 j2))) := hz_244
                                  show ab_J E 6 0 0 S (upF (upF F 100 24 i) 100 24 (i + 1)) (upA (upA B3 122 i (B 120 a)) 123 i (B 121 a)) 247 [some (aR 100), some (aI n), some (aI f), some (aI a), some (aI b), some (aI j2)] [aI 0]
                                  skip
                                  refine j_if_eq C (tgt := 254) dX10_limits_247 (by decide) ⟨by omega, by omega⟩ (fun c247 => ?_) (fun c247 => ?_)
                                  · refine j_iinc C (lv' := [some (aR 100), some (aI n), some (aI f), some (aI a), some (aI b), some (aI (j2 + 1))]) dX10_limits_254 rfl (by decide) rfl ?_
                                    refine j_goto C (tgt := 192) dX10_limits_257 (by decide) ?_
                                    exact ih192 b (j2 + 1) (by omega) (by omega) hne (fun ⟨j', q1, q2, q3, q4⟩ => by by_cases e : j' = j2; (rw [e] at q3 q4; rw [h3_120, h3_121, hax.1, hax.2, q3, q4] at hz_244; exact ⟨by omega, wr_miss (hLN i hi.1 hi.2) (FL_PT hFL (show 0 ≤ b by omega) hb2.2) hz_244⟩); (exact hit ⟨j', q1, by omega, q3, q4⟩)) (by omega)
                                  · exact absurd c247 (by decide)
                            · refine j_goto C (tgt := 254) dX10_limits_230 (by decide) ?_
                              refine j_iinc C (lv' := [some (aR 100), some (aI n), some (aI f), some (aI a), some (aI b), some (aI (j2 + 1))]) dX10_limits_254 rfl (by decide) rfl ?_
                              refine j_goto C (tgt := 192) dX10_limits_257 (by decide) ?_
                              exact ih192 b (j2 + 1) (by omega) (by omega) hne (fun ⟨j', q1, q2, q3, q4⟩ => by have e : j' ≠ j2 := (fun e => by rw [e] at q3 q4; exact (hLN i hi.1 hi.2).1 (by omega)); exact hit ⟨j', q1, by omega, q3, q4⟩) (by omega)
                    exact K192 _ ((-1)) 0 (by omega) (by omega) (fun q => by omega) (fun ⟨j', q1, q2, _⟩ => by omega) (Nat.lt_succ_self _)
                exact K146 _ f 0 B (by omega) (by omega) hf0 rfl rfl hO (fun k q1 q2 => by omega) (Nat.lt_succ_self _)
              · refine j_aload_n C dX10_limits_91 rfl rfl ?_
                refine j_getR C (j := 120) fl_X10_60 (sM_100 hS) rfl dX10_limits_92 ?_
                refine j_iload_n C dX10_limits_95 rfl rfl ?_
                refine j_iald C (sM_120 hS) (by omega) (by omega) (by decide) dX10_limits_96 ?_
                refine j_aload_n C dX10_limits_97 rfl rfl ?_
                refine j_getR C (j := 120) fl_X10_60 (sM_100 hS) rfl dX10_limits_98 ?_
                refine j_iload_n C dX10_limits_101 rfl rfl ?_
                refine j_iald C (sM_120 hS) (by omega) (by omega) (by decide) dX10_limits_102 ?_
                refine j_icmp_lt C (tgt := 136) dX10_limits_103 (by decide) (by have := hrg j (by omega) (by omega); exact ⟨by omega, by omega⟩) (by have := hrg f (by omega) (by omega); exact ⟨by omega, by omega⟩) (fun c103 => ?_) (fun c103 => ?_)
                · refine j_iload_n C dX10_limits_136 rfl rfl ?_
                  refine j_istore_n C (lv' := [some (aR 100), some (aI n), some (aI j), some (aI j), none, none]) dX10_limits_137 rfl (by decide) rfl ?_
                  refine j_iinc C (lv' := [some (aR 100), some (aI n), some (aI j), some (aI (j + 1)), none, none]) dX10_limits_138 rfl (by decide) rfl ?_
                  refine j_goto C (tgt := 86) dX10_limits_141 (by decide) ?_
                  exact ih86 j (j + 1) (by omega) (by omega) (fun i q1 q2 => by by_cases e : i = j; (rw [e]; omega); (have := hlx i q1 (by omega); omega)) (by omega)
                · refine j_aload_n C dX10_limits_106 rfl rfl ?_
                  refine j_getR C (j := 120) fl_X10_60 (sM_100 hS) rfl dX10_limits_107 ?_
                  refine j_iload_n C dX10_limits_110 rfl rfl ?_
                  refine j_iald C (sM_120 hS) (by omega) (by omega) (by decide) dX10_limits_111 ?_
                  refine j_aload_n C dX10_limits_112 rfl rfl ?_
                  refine j_getR C (j := 120) fl_X10_60 (sM_100 hS) rfl dX10_limits_113 ?_
                  refine j_iload_n C dX10_limits_116 rfl rfl ?_
                  refine j_iald C (sM_120 hS) (by omega) (by omega) (by decide) dX10_limits_117 ?_
                  refine j_icmp_ne C (tgt := 138) dX10_limits_118 (by decide) (by have := hrg j (by omega) (by omega); exact ⟨by omega, by omega⟩) (by have := hrg f (by omega) (by omega); exact ⟨by omega, by omega⟩) (fun c118 => ?_) (fun c118 => ?_)
                  · refine j_iinc C (lv' := [some (aR 100), some (aI n), some (aI f), some (aI (j + 1)), none, none]) dX10_limits_138 rfl (by decide) rfl ?_
                    refine j_goto C (tgt := 86) dX10_limits_141 (by decide) ?_
                    exact ih86 f (j + 1) (by omega) (by omega) (fun i q1 q2 => by by_cases e : i = j; (rw [e]; omega); (have := hlx i q1 (by omega); omega)) (by omega)
                  · refine j_aload_n C dX10_limits_121 rfl rfl ?_
                    refine j_getR C (j := 121) fl_X10_63 (sM_100 hS) rfl dX10_limits_122 ?_
                    refine j_iload_n C dX10_limits_125 rfl rfl ?_
                    refine j_iald C (sM_121 hS) (by omega) (by omega) (by decide) dX10_limits_126 ?_
                    refine j_aload_n C dX10_limits_127 rfl rfl ?_
                    refine j_getR C (j := 121) fl_X10_63 (sM_100 hS) rfl dX10_limits_128 ?_
                    refine j_iload_n C dX10_limits_131 rfl rfl ?_
                    refine j_iald C (sM_121 hS) (by omega) (by omega) (by decide) dX10_limits_132 ?_
                    refine j_icmp_ge C (tgt := 138) dX10_limits_133 (by decide) (by have := hrg j (by omega) (by omega); exact ⟨by omega, by omega⟩) (by have := hrg f (by omega) (by omega); exact ⟨by omega, by omega⟩) (fun c133 => ?_) (fun c133 => ?_)
                    · refine j_iinc C (lv' := [some (aR 100), some (aI n), some (aI f), some (aI (j + 1)), none, none]) dX10_limits_138 rfl (by decide) rfl ?_
                      refine j_goto C (tgt := 86) dX10_limits_141 (by decide) ?_
                      exact ih86 f (j + 1) (by omega) (by omega) (fun i q1 q2 => by by_cases e : i = j; (rw [e]; omega); (have := hlx i q1 (by omega); omega)) (by omega)
                    · refine j_iload_n C dX10_limits_136 rfl rfl ?_
                      refine j_istore_n C (lv' := [some (aR 100), some (aI n), some (aI j), some (aI j), none, none]) dX10_limits_137 rfl (by decide) rfl ?_
                      refine j_iinc C (lv' := [some (aR 100), some (aI n), some (aI j), some (aI (j + 1)), none, none]) dX10_limits_138 rfl (by decide) rfl ?_
                      refine j_goto C (tgt := 86) dX10_limits_141 (by decide) ?_
                      exact ih86 j (j + 1) (by omega) (by omega) (fun i q1 q2 => by by_cases e : i = j; (rw [e]; omega); (have := hlx i q1 (by omega); omega)) (by omega)
          exact K86 _ 0 1 (by omega) (by omega) (fun i q1 q2 => by have e : i = 0 := (by omega); rw [e]; omega) (Nat.lt_succ_self _)
        · exact j_vret C hr (Nat.le_refl _) (Nat.le_refl _) dX10_limits_81 ⟨rfl, rfl, (by rcases hLR with ⟨e, _⟩ | ⟨e1, e2, _⟩; rw [e]; (exfalso; obtain ⟨j, j1, j2, _⟩ := FL_of hFL (e2 0 (Int.le_refl _) (by omega)); omega)), (fun i g1 g2 g3 g4 => hO i g1 g2 g3 g4), (fun k q1 q2 => by rcases hLR with ⟨e, _⟩ | ⟨e1, e2, _⟩; omega; (exfalso; obtain ⟨j, j1, j2, _⟩ := FL_of hFL (e2 0 (Int.le_refl _) (by omega)); omega))⟩
      · refine j_aload_n C dX10_limits_11 rfl rfl ?_
        refine j_iload_n C dX10_limits_12 rfl rfl ?_
        refine j_callV C (vs := [aI k]) (st := []) cl_X10_115 im_yX10_mayBe se_yX10_mayBe (fun _ => m_mayBe _ S F B hS _ (by omega) (by omega) hb (by show ∀ b, 0 ≤ b → b < F 100 11 → inR (B 106 (280 * b + k)); rw [hO 106 (by decide) (by decide) (by decide) (by decide)]; exact hp k (by omega) (by omega))) (sM_100 hS) rfl rfl rfl ⟨rfl, rfl, by decide, by decide⟩ ⟨by decide, by decide⟩ (fun _ => Nat.le_of_ble_eq_true rfl) (fun v hv => by cases hv) (fun v hv => by simp only [List.mem_cons, List.not_mem_nil, or_false, Option.some.injEq, reduceCtorEq, false_or] at hv; rcases hv with rfl | rfl | rfl <;> first | exact (lM_100 hS) | exact trivial) dX10_limits_13 (fun v_13 S_13 F_13 A_13 hP_13 => ?_)
        obtain ⟨rfl, rfl, rfl, z_13, rfl, ⟨rfl, hz_13⟩ | ⟨rfl, hz_13⟩⟩ := hP_13
        · have hz_13 : exB (fun bb => 0 < B 106 (280 * bb + k)) (F 100 11) := hz_13
          rw [hO 106 (by decide) (by decide) (by decide) (by decide)] at hz_13
          show ab_J E 6 0 0 S F B 16 [some (aR 100), some (aI n), some (aI k), none, none, none] [aI 1]
          refine j_if_ne C (tgt := 22) dX10_limits_16 (by decide) ⟨by omega, by omega⟩ (fun c16 => ?_) (fun c16 => ?_)
          · refine j_iconst C dX10_limits_22 ?_
            refine j_istore_n C (lv' := [some (aR 100), some (aI n), some (aI k), some (aI 0), none, none]) dX10_limits_23 rfl (by decide) rfl ?_
            have K24 : ∀ (N : Nat) (n2 c : Int) (B2 : ab_An), (0 ≤ c ∧ c ≤ 4) → (0 ≤ n2 ∧ n2 ≤ 4 * k + c) → ((∀ i, i ≠ 120 → i ≠ 121 → i ≠ 122 → i ≠ 123 → B2 i = A i)) → (FL (fun s => exB (fun bb => 0 < A 106 (280 * bb + s)) (F 100 11)) (B2 120) (B2 121) n2 k c) → ((4 - c).toNat) < N → ab_J E 6 0 0 S F B2 24 [some (aR 100), some (aI n2), some (aI k), some (aI c), none, none] [] := by
              intro N
              induction N with
              | zero => intro n2 c B2 hc hn2 hO2 hFL2 hm; exact absurd hm (Nat.not_lt_zero _)
              | succ N ih =>
                have ih24 := ih
                clear ih
                intro n2 c B2 hc hn2 hO2 hFL2 hm24
                refine j_iload_n C dX10_limits_24 rfl rfl ?_
                refine j_iconst C dX10_limits_25 ?_
                refine j_icmp_ge C (tgt := 66) dX10_limits_26 (by decide) ⟨by omega, by omega⟩ ⟨by omega, by omega⟩ (fun c26 => ?_) (fun c26 => ?_)
                · refine j_iinc C (lv' := [some (aR 100), some (aI n2), some (aI (k + 1)), some (aI c), none, none]) dX10_limits_66 rfl (by decide) rfl ?_
                  refine j_goto C (tgt := 4) dX10_limits_69 (by decide) ?_
                  refine j_lv (lv' := [some (aR 100), some (aI n2), some (aI (k + 1)), none, none, none]) ?_ ⟨rfl, rfl, rfl, trivial⟩
                  exact ih4 n2 (k + 1) B2 (by omega) (by omega) hO2 (FL_4 hFL2 (by omega)) (by omega)
                · refine j_aload_n C dX10_limits_29 rfl rfl ?_
                  refine j_getR C (j := 120) fl_X10_60 (sM_100 hS) rfl dX10_limits_30 ?_
                  refine j_iload_n C dX10_limits_33 rfl rfl ?_
                  refine j_iload_n C dX10_limits_34 rfl rfl ?_
                  refine j_bipush C dX10_limits_35 rfl ?_
                  refine j_irem C dX10_limits_37 (by omega) (by omega) (by omega) (by omega) ?_
                  refine j_iload_n C dX10_limits_38 rfl rfl ?_
                  refine j_iconst C dX10_limits_39 ?_
                  refine j_irem C dX10_limits_40 (by omega) (by omega) (by omega) (by omega) ?_
                  refine j_iadd C dX10_limits_41 ?_
                  refine j_iast C (sM_120 hS) (by omega) (by omega) (by decide) dX10_limits_42 ?_
                  refine j_aload_n C dX10_limits_43 rfl rfl ?_
                  refine j_getR C (j := 121) fl_X10_63 (sM_100 hS) rfl dX10_limits_44 ?_
                  refine j_iload_n C dX10_limits_47 rfl rfl ?_
                  refine j_iload_n C dX10_limits_48 rfl rfl ?_
                  refine j_bipush C dX10_limits_49 rfl ?_
                  refine j_idiv C dX10_limits_51 (by omega) (by omega) (by omega) (by omega) ?_
                  refine j_iload_n C dX10_limits_52 rfl rfl ?_
                  refine j_iconst C dX10_limits_53 ?_
                  refine j_idiv C dX10_limits_54 (by omega) (by omega) (by omega) (by omega) ?_
                  refine j_iadd C dX10_limits_55 ?_
                  refine j_iast C (sM_121 hS) (by omega) (by omega) (by decide) dX10_limits_56 ?_
                  refine j_iinc C (lv' := [some (aR 100), some (aI (n2 + 1)), some (aI k), some (aI c), none, none]) dX10_limits_57 rfl (by decide) rfl ?_
                  refine j_iinc C (lv' := [some (aR 100), some (aI (n2 + 1)), some (aI k), some (aI (c + 1)), none, none]) dX10_limits_60 rfl (by decide) rfl ?_
                  refine j_goto C (tgt := 24) dX10_limits_63 (by decide) ?_
                  exact ih24 (n2 + 1) (c + 1) ((upA (upA B2 120 n2 ((k % 20) + (c % 2))) 121 n2 ((k / 20) + (c / 2)))) (by omega) (by omega) (fun i g1 g2 g3 g4 => by rw [upA_other g2, upA_other g1]; exact hO2 i g1 g2 g3 g4) (FL_put hFL2 hz_13 hk.1 (by omega) hn2.1 (fun j => by rw [upA_other (by decide), upA_if]) (fun j => by rw [upA_if, upA_other (by decide)])) (by omega)
            exact K24 _ n 0 B (by omega) (by omega) hO hFL (Nat.lt_succ_self _)
          · exact absurd c16 (by decide)
        · have hz_13 : ¬ exB (fun bb => 0 < B 106 (280 * bb + k)) (F 100 11) := hz_13
          rw [hO 106 (by decide) (by decide) (by decide) (by decide)] at hz_13
          show ab_J E 6 0 0 S F B 16 [some (aR 100), some (aI n), some (aI k), none, none, none] [aI 0]
          refine j_if_ne C (tgt := 22) dX10_limits_16 (by decide) ⟨by omega, by omega⟩ (fun c16 => ?_) (fun c16 => ?_)
          · exact absurd c16 (by decide)
          · refine j_goto C (tgt := 66) dX10_limits_19 (by decide) ?_
            refine j_iinc C (lv' := [some (aR 100), some (aI n), some (aI (k + 1)), none, none, none]) dX10_limits_66 rfl (by decide) rfl ?_
            refine j_goto C (tgt := 4) dX10_limits_69 (by decide) ?_
            exact ih4 n (k + 1) B (by omega) (by omega) hO (FL_no hFL hz_13) (by omega)
  exact K4 _ 0 0 A (by omega) (by omega) (fun _ _ _ _ _ => rfl) FL_0 (Nat.lt_succ_self _)

set_option maxHeartbeats 4000000 in
set_option maxRecDepth 100000 in
theorem m_limit (l : Launch) (S : ab_St) (F : ab_Fn) (A : ab_An) (hS : ab_SM S) (m : Int) (X Y : Int → Int) (hm : 0 ≤ m ∧ m ≤ 1120) (hLR : LR (PT (fun s => exB (fun bb => 0 < A 106 (280 * bb + s)) (F 100 11))) m X Y) (hb : 0 ≤ F 100 11 ∧ F 100 11 ≤ 10) (hp : ∀ sq, 0 ≤ sq → sq < 280 → ∀ b, 0 ≤ b → b < F 100 11 → inR (A 106 (280 * b + sq))) : ab_Met l yX10_limit cX10_limit 1 (some .int) { frames := 3, cells := 0, slots := 0, locals := 79 } 0 0 [aR 100] S F A (fun v S' F' A' => S = S' ∧ v = some (aI m) ∧ F' = upF (upF F 100 0 0) 100 24 m ∧ (∀ i, i ≠ 120 → i ≠ 121 → i ≠ 122 → i ≠ 123 → A' i = A i)) := by
  refine ab_enter (by decide) (by simp [aI, aR, aX, ab_val, Value.category]) (Nat.le_of_ble_eq_true rfl) (fun E C hr => ?_)
  refine j_eq (lv' := [some (aR 100)]) ?_
  refine j_aload_n C dX10_limit_0 rfl rfl ?_
  refine j_iconst C dX10_limit_1 ?_
  refine j_putI C fp_X10_3 (sM_100 hS) rfl dX10_limit_2 ?_
  refine j_aload_n C dX10_limit_5 rfl rfl ?_
  refine j_callV C (vs := []) (st := []) cl_X10_172 im_yX10_limits se_yX10_limits (fun _ => m_limits _ S (upF F 100 0 0) A hS _ _ _ hm hLR hb hp) (sM_100 hS) rfl rfl rfl ⟨rfl, rfl, by decide, by decide⟩ ⟨by decide, by decide⟩ (fun _ => Nat.le_of_ble_eq_true rfl) (fun v hv => by cases hv) (fun v hv => by simp only [List.mem_cons, List.not_mem_nil, or_false, Option.some.injEq, reduceCtorEq, false_or] at hv; rcases hv with rfl <;> first | exact (lM_100 hS)) dX10_limit_6 (fun v_6 S_6 F_6 A_6 hP_6 => ?_)
  obtain ⟨rfl, rfl, rfl, hO6, hst6⟩ := hP_6
  show ab_J E 1 0 0 S (upF (upF F 100 0 0) 100 24 m) A_6 9 [some (aR 100)] []
  refine j_aload_n C dX10_limit_9 rfl rfl ?_
  refine j_get C (aI m) fl_X10_159 (sM_100 hS) (fun _ => rfl) dX10_limit_10 ?_
  exact j_iret C hr (Nat.le_refl _) (Nat.le_refl _) dX10_limit_13 ⟨rfl, rfl, rfl, hO6⟩

set_option maxHeartbeats 4000000 in
set_option maxRecDepth 100000 in
theorem m_corner (l : Launch) (S : ab_St) (F : ab_Fn) (A : ab_An) (hS : ab_SM S) (kk yy : Int) (rk : inR kk) (ry : yy = 0 ∨ yy = 1) (m : Int) (X Y : Int → Int) (hm : 0 ≤ m ∧ m ≤ 1120) (hLR : LR (PT (fun s => exB (fun bb => 0 < A 106 (280 * bb + s)) (F 100 11))) m X Y) (hb : 0 ≤ F 100 11 ∧ F 100 11 ≤ 10) (hp : ∀ sq, 0 ≤ sq → sq < 280 → ∀ b, 0 ≤ b → b < F 100 11 → inR (A 106 (280 * b + sq))) : ab_Met l yX10_corner cX10_corner 3 (some .int) { frames := 3, cells := 0, slots := 0, locals := 79 } 0 0 [aR 100, aI kk, aI yy] S F A (fun v S' F' A' => S = S' ∧ v = some (aI (if 0 ≤ kk ∧ kk < m then (if yy = 1 then Y kk else X kk) else -1)) ∧ F' = upF (upF F 100 0 0) 100 24 m ∧ (∀ i, i ≠ 120 → i ≠ 121 → i ≠ 122 → i ≠ 123 → A' i = A i)) := by
  refine ab_enter (by decide) (by simp [aI, aR, aX, ab_val, Value.category]) (Nat.le_of_ble_eq_true rfl) (fun E C hr => ?_)
  refine j_eq (lv' := [some (aR 100), some (aI kk), some (aI yy)]) ?_
  refine j_aload_n C dX10_corner_0 rfl rfl ?_
  refine j_iconst C dX10_corner_1 ?_
  refine j_putI C fp_X10_3 (sM_100 hS) rfl dX10_corner_2 ?_
  refine j_aload_n C dX10_corner_5 rfl rfl ?_
  refine j_callV C (vs := []) (st := []) cl_X10_172 im_yX10_limits se_yX10_limits (fun _ => m_limits _ S (upF F 100 0 0) A hS _ _ _ hm hLR hb hp) (sM_100 hS) rfl rfl rfl ⟨rfl, rfl, by decide, by decide⟩ ⟨by decide, by decide⟩ (fun _ => Nat.le_of_ble_eq_true rfl) (fun v hv => by cases hv) (fun v hv => by simp only [List.mem_cons, List.not_mem_nil, or_false, Option.some.injEq, reduceCtorEq, false_or] at hv; rcases hv with rfl | rfl | rfl <;> first | exact (lM_100 hS) | exact trivial) dX10_corner_6 (fun v_6 S_6 F_6 A_6 hP_6 => ?_)
  obtain ⟨rfl, rfl, rfl, hO6, hst6⟩ := hP_6
  show ab_J E 3 0 0 S (upF (upF F 100 0 0) 100 24 m) A_6 9 [some (aR 100), some (aI kk), some (aI yy)] []
  refine j_iload_n C dX10_corner_9 rfl rfl ?_
  refine j_iconst C dX10_corner_10 ?_
  refine j_aload_n C dX10_corner_11 rfl rfl ?_
  refine j_get C (aI m) fl_X10_159 (sM_100 hS) (fun _ => rfl) dX10_corner_12 ?_
  refine j_iconst C dX10_corner_15 ?_
  refine j_isub C dX10_corner_16 ?_
  refine j_callS C (vs := [aI kk, aI 0, aI (m - 1)]) (st := []) cl_X10_97 sc_yX10_in (fun _ => m_in _ S (upF (upF F 100 0 0) 100 24 m) A_6 hS _ _ _ rk ⟨by omega, by omega⟩ ⟨by omega, by omega⟩) rfl ⟨rfl, rfl, by decide, by decide⟩ ⟨by decide, by decide⟩ (fun _ => Nat.le_of_ble_eq_true rfl) (fun v hv => by cases hv) (fun v hv => by simp only [List.mem_cons, List.not_mem_nil, or_false, Option.some.injEq, reduceCtorEq, false_or] at hv; rcases hv with rfl | rfl | rfl <;> first | exact (lM_100 hS) | exact trivial) dX10_corner_17 (fun v_17 S_17 F_17 A_17 hP_17 => ?_)
  obtain ⟨rfl, rfl, rfl, z_17, rfl, ⟨rfl, hz_17⟩ | ⟨rfl, hz_17⟩⟩ := hP_17
  · show ab_J E 3 0 0 S (upF (upF F 100 0 0) 100 24 m) A_6 20 [some (aR 100), some (aI kk), some (aI yy)] [aI 1]
    refine j_if_ne C (tgt := 27) dX10_corner_20 (by decide) ⟨by omega, by omega⟩ (fun c20 => ?_) (fun c20 => ?_)
    · refine j_iload_n C dX10_corner_27 rfl rfl ?_
      refine j_if_eq C (tgt := 40) dX10_corner_28 (by decide) ⟨by omega, by omega⟩ (fun c28 => ?_) (fun c28 => ?_)
      · refine j_aload_n C dX10_corner_40 rfl rfl ?_
        refine j_getR C (j := 122) fl_X10_66 (sM_100 hS) rfl dX10_corner_41 ?_
        refine j_iload_n C dX10_corner_44 rfl rfl ?_
        refine j_iald C (sM_122 hS) (by omega) (by omega) (by decide) dX10_corner_45 ?_
        refine j_eq (st' := [aI (X kk)]) ?_ (e1 := by first | rfl | (simp only [List.cons.injEq, and_true]; exact congrArg aI ((hst6 kk (by omega) (by omega)).1)))
        exact j_iret C hr (Nat.le_refl _) (Nat.le_refl _) dX10_corner_46 ⟨rfl, (by first | rw [if_pos (by omega), if_pos (by omega)] | rw [if_pos (by omega), if_neg (by omega)] | rw [if_neg (by omega)]), rfl, hO6⟩
      · refine j_aload_n C dX10_corner_31 rfl rfl ?_
        refine j_getR C (j := 123) fl_X10_69 (sM_100 hS) rfl dX10_corner_32 ?_
        refine j_iload_n C dX10_corner_35 rfl rfl ?_
        refine j_iald C (sM_123 hS) (by omega) (by omega) (by decide) dX10_corner_36 ?_
        refine j_eq (st' := [aI (Y kk)]) ?_ (e1 := by first | rfl | (simp only [List.cons.injEq, and_true]; exact congrArg aI ((hst6 kk (by omega) (by omega)).2)))
        refine j_goto C (tgt := 46) dX10_corner_37 (by decide) ?_
        exact j_iret C hr (Nat.le_refl _) (Nat.le_refl _) dX10_corner_46 ⟨rfl, (by first | rw [if_pos (by omega), if_pos (by omega)] | rw [if_pos (by omega), if_neg (by omega)] | rw [if_neg (by omega)]), rfl, hO6⟩
    · exact absurd c20 (by decide)
  · show ab_J E 3 0 0 S (upF (upF F 100 0 0) 100 24 m) A_6 20 [some (aR 100), some (aI kk), some (aI yy)] [aI 0]
    refine j_if_ne C (tgt := 27) dX10_corner_20 (by decide) ⟨by omega, by omega⟩ (fun c20 => ?_) (fun c20 => ?_)
    · exact absurd c20 (by decide)
    · refine j_iconst C dX10_corner_23 ?_
      refine j_goto C (tgt := 46) dX10_corner_24 (by decide) ?_
      exact j_iret C hr (Nat.le_refl _) (Nat.le_refl _) dX10_corner_46 ⟨rfl, (by first | rw [if_pos (by omega), if_pos (by omega)] | rw [if_pos (by omega), if_neg (by omega)] | rw [if_neg (by omega)]), rfl, hO6⟩

set_option maxHeartbeats 4000000 in
set_option maxRecDepth 100000 in
theorem m_warn (l : Launch) (S : ab_St) (F : ab_Fn) (A : ab_An) (hS : ab_SM S) (hw : 0 ≤ F 100 18 ∧ F 100 18 ≤ 40) (m : Int) (X Y : Int → Int) (hm : 0 ≤ m ∧ m ≤ 1120) (hLR : LR (PT (fun s => exB (fun bb => 0 < A 106 (280 * bb + s)) (F 100 11))) m X Y) (hb : 0 ≤ F 100 11 ∧ F 100 11 ≤ 10) (hp : ∀ sq, 0 ≤ sq → sq < 280 → ∀ b, 0 ≤ b → b < F 100 11 → inR (A 106 (280 * b + sq))) : ab_Met l yX10_warn cX10_warn 2 (some .int) { frames := 3, cells := 0, slots := 0, locals := 79 } 0 0 [aR 100] S F A (fun v S' F' A' => S = S' ∧ (∀ i, i ≠ 113 → i ≠ 114 → i ≠ 115 → i ≠ 116 → i ≠ 117 → i ≠ 120 → i ≠ 121 → i ≠ 122 → i ≠ 123 → A' i = A i) ∧ ((v = some (aI (-1)) ∧ (m = 0 ∨ 40 < m ∨ F 100 18 = 40) ∧ F' = upF (upF F 100 0 0) 100 24 m ∧ (∀ i, i ≠ 120 → i ≠ 121 → i ≠ 122 → i ≠ 123 → A' i = A i)) ∨ (v = some (aI (F 100 18)) ∧ ¬ (m = 0 ∨ 40 < m ∨ F 100 18 = 40) ∧ F' = upF (upF (upF F 100 0 0) 100 24 m) 100 18 (F 100 18 + 1) ∧ NW A A' (F 100 18) (F 100 5) m X Y))) := by
  refine ab_enter (by decide) (by simp [aI, aR, aX, ab_val, Value.category]) (Nat.le_of_ble_eq_true rfl) (fun E C hr => ?_)
  refine j_eq (lv' := [some (aR 100), none]) ?_
  refine j_aload_n C dX10_warn_0 rfl rfl ?_
  refine j_iconst C dX10_warn_1 ?_
  refine j_putI C fp_X10_3 (sM_100 hS) rfl dX10_warn_2 ?_
  refine j_aload_n C dX10_warn_5 rfl rfl ?_
  refine j_callV C (vs := []) (st := []) cl_X10_172 im_yX10_limits se_yX10_limits (fun _ => m_limits _ S (upF F 100 0 0) A hS _ _ _ hm hLR hb hp) (sM_100 hS) rfl rfl rfl ⟨rfl, rfl, by decide, by decide⟩ ⟨by decide, by decide⟩ (fun _ => Nat.le_of_ble_eq_true rfl) (fun v hv => by cases hv) (fun v hv => by simp only [List.mem_cons, List.not_mem_nil, or_false, Option.some.injEq, reduceCtorEq, false_or] at hv; rcases hv with rfl <;> first | exact (lM_100 hS)) dX10_warn_6 (fun v_6 S_6 F_6 A_6 hP_6 => ?_)
  obtain ⟨rfl, rfl, rfl, hO6, hst6⟩ := hP_6
  show ab_J E 2 0 0 S (upF (upF F 100 0 0) 100 24 m) A_6 9 [some (aR 100), none] []
  refine j_aload_n C dX10_warn_9 rfl rfl ?_
  refine j_get C (aI m) fl_X10_159 (sM_100 hS) (fun _ => rfl) dX10_warn_10 ?_
  refine j_if_eq C (tgt := 34) dX10_warn_13 (by decide) ⟨by omega, by omega⟩ (fun c13 => ?_) (fun c13 => ?_)
  · refine j_iconst C dX10_warn_34 ?_
    exact j_iret C hr (Nat.le_refl _) (Nat.le_refl _) dX10_warn_35 ⟨rfl, (fun i g1 g2 g3 g4 g5 g6 g7 g8 g9 => hO6 i g6 g7 g8 g9), Or.inl ⟨rfl, by omega, rfl, hO6⟩⟩
  · refine j_aload_n C dX10_warn_16 rfl rfl ?_
    refine j_get C (aI m) fl_X10_159 (sM_100 hS) (fun _ => rfl) dX10_warn_17 ?_
    refine j_bipush C dX10_warn_20 rfl ?_
    refine j_icmp_gt C (tgt := 34) dX10_warn_22 (by decide) ⟨by omega, by omega⟩ ⟨by omega, by omega⟩ (fun c22 => ?_) (fun c22 => ?_)
    · refine j_iconst C dX10_warn_34 ?_
      exact j_iret C hr (Nat.le_refl _) (Nat.le_refl _) dX10_warn_35 ⟨rfl, (fun i g1 g2 g3 g4 g5 g6 g7 g8 g9 => hO6 i g6 g7 g8 g9), Or.inl ⟨rfl, by omega, rfl, hO6⟩⟩
    · refine j_aload_n C dX10_warn_25 rfl rfl ?_
      refine j_get C (aI (F 100 18)) fl_X10_104 (sM_100 hS) (fun _ => rfl) dX10_warn_26 ?_
      refine j_bipush C dX10_warn_29 rfl ?_
      refine j_icmp_ne C (tgt := 36) dX10_warn_31 (by decide) ⟨by omega, by omega⟩ ⟨by omega, by omega⟩ (fun c31 => ?_) (fun c31 => ?_)
      · refine j_iconst C dX10_warn_36 ?_
        refine j_istore_n C (lv' := [some (aR 100), some (aI 0)]) dX10_warn_37 rfl (by decide) rfl ?_
        have K38 : ∀ (N : Nat) (k : Int) (B2 : ab_An), (0 ≤ k ∧ k ≤ m) → (∀ i, i ≠ 113 → i ≠ 114 → B2 i = A_6 i) → (∀ j, B2 113 j = if 40 * F 100 18 ≤ j ∧ j < 40 * F 100 18 + k then X (j - 40 * F 100 18) else A 113 j) → (∀ j, B2 114 j = if 40 * F 100 18 ≤ j ∧ j < 40 * F 100 18 + k then Y (j - 40 * F 100 18) else A 114 j) → ((m - k).toNat) < N → ab_J E 2 0 0 S (upF (upF F 100 0 0) 100 24 m) B2 38 [some (aR 100), some (aI k)] [] := by
          intro N
          induction N with
          | zero => intro k B2 hk hO2 hW1 hW2 hm; exact absurd hm (Nat.not_lt_zero _)
          | succ N ih =>
            have ih38 := ih
            clear ih
            intro k B2 hk hO2 hW1 hW2 hm38
            refine j_iload_n C dX10_warn_38 rfl rfl ?_
            refine j_aload_n C dX10_warn_39 rfl rfl ?_
            refine j_get C (aI m) fl_X10_159 (sM_100 hS) (fun _ => rfl) dX10_warn_40 ?_
            refine j_icmp_ge C (tgt := 92) dX10_warn_43 (by decide) ⟨by omega, by omega⟩ ⟨by omega, by omega⟩ (fun c43 => ?_) (fun c43 => ?_)
            · have ek : k = m := by omega
              rw [ek] at hW1 hW2
              refine j_aload_n C dX10_warn_92 rfl rfl ?_
              refine j_aload_n C dX10_warn_93 rfl rfl ?_
              refine j_get C (aI m) fl_X10_159 (sM_100 hS) (fun _ => rfl) dX10_warn_94 ?_
              refine j_callV C (vs := [aI m]) (st := []) cl_X10_175 im_yX10_takes se_yX10_takes (fun _ => m_takes _ S (upF (upF F 100 0 0) 100 24 m) B2 hS _ (by show 0 ≤ F 100 18 ∧ F 100 18 < 40; omega)) (sM_100 hS) rfl rfl rfl ⟨rfl, rfl, by decide, by decide⟩ ⟨by decide, by decide⟩ (fun _ => Nat.le_of_ble_eq_true rfl) (fun v hv => by cases hv) (fun v hv => by simp only [List.mem_cons, List.not_mem_nil, or_false, Option.some.injEq, reduceCtorEq, false_or] at hv; rcases hv with rfl | rfl <;> first | exact (lM_100 hS) | exact trivial) dX10_warn_97 (fun v_97 S_97 F_97 A_97 hP_97 => ?_)
              obtain ⟨rfl, rfl, rfl, rfl⟩ := hP_97
              show ab_J E 2 0 0 S (upF (upF (upF F 100 0 0) 100 24 m) 100 18 (F 100 18 + 1)) (upA (upA (upA B2 115 (F 100 18) m) 116 (F 100 18) (F 100 5)) 117 (F 100 18) ((-1))) 100 [some (aR 100), some (aI k)] [aI (F 100 18)]
              exact j_iret C hr (Nat.le_refl _) (Nat.le_refl _) dX10_warn_100 ⟨rfl, (fun i g1 g2 g3 g4 g5 g6 g7 g8 g9 => by rw [upA_other g5, upA_other g4, upA_other g3, hO2 i g1 g2]; exact hO6 i g6 g7 g8 g9), Or.inr ⟨rfl, by omega, rfl, ⟨fun j => hW1 j, fun j => hW2 j, fun j => by rw [upA_other (by decide), upA_other (by decide), upA_if, hO2 115 (by decide) (by decide), hO6 115 (by decide) (by decide) (by decide) (by decide)], fun j => by rw [upA_other (by decide), upA_if, upA_other (by decide), hO2 116 (by decide) (by decide), hO6 116 (by decide) (by decide) (by decide) (by decide)], fun j => by rw [upA_if, upA_other (by decide), upA_other (by decide), hO2 117 (by decide) (by decide), hO6 117 (by decide) (by decide) (by decide) (by decide)]⟩⟩⟩
            · refine j_aload_n C dX10_warn_46 rfl rfl ?_
              refine j_getR C (j := 113) fl_X10_42 (sM_100 hS) rfl dX10_warn_47 ?_
              refine j_bipush C dX10_warn_50 rfl ?_
              refine j_aload_n C dX10_warn_52 rfl rfl ?_
              refine j_get C (aI (F 100 18)) fl_X10_104 (sM_100 hS) (fun _ => rfl) dX10_warn_53 ?_
              refine j_imul C dX10_warn_56 ?_
              refine j_iload_n C dX10_warn_57 rfl rfl ?_
              refine j_iadd C dX10_warn_58 ?_
              refine j_aload_n C dX10_warn_59 rfl rfl ?_
              refine j_getR C (j := 122) fl_X10_66 (sM_100 hS) rfl dX10_warn_60 ?_
              refine j_iload_n C dX10_warn_63 rfl rfl ?_
              refine j_iald C (sM_122 hS) (by omega) (by omega) (by decide) dX10_warn_64 ?_
              refine j_eq (st' := [aI (X k), aI ((40 * (F 100 18)) + k), aR 113]) ?_ (e1 := by first | rfl | (simp only [List.cons.injEq, and_true]; exact congrArg aI ((congrFun (hO2 122 (by decide) (by decide)) k).trans (hst6 k (by omega) (by omega)).1)))
              refine j_iast C (sM_113 hS) (by omega) (by omega) (by decide) dX10_warn_65 ?_
              refine j_aload_n C dX10_warn_66 rfl rfl ?_
              refine j_getR C (j := 114) fl_X10_45 (sM_100 hS) rfl dX10_warn_67 ?_
              refine j_bipush C dX10_warn_70 rfl ?_
              refine j_aload_n C dX10_warn_72 rfl rfl ?_
              refine j_get C (aI (F 100 18)) fl_X10_104 (sM_100 hS) (fun _ => rfl) dX10_warn_73 ?_
              refine j_imul C dX10_warn_76 ?_
              refine j_iload_n C dX10_warn_77 rfl rfl ?_
              refine j_iadd C dX10_warn_78 ?_
              refine j_aload_n C dX10_warn_79 rfl rfl ?_
              refine j_getR C (j := 123) fl_X10_69 (sM_100 hS) rfl dX10_warn_80 ?_
              refine j_iload_n C dX10_warn_83 rfl rfl ?_
              refine j_iald C (sM_123 hS) (by omega) (by omega) (by decide) dX10_warn_84 ?_
              refine j_eq (st' := [aI (B2 123 k), aI ((40 * (F 100 18)) + k), aR 114]) ?_
              refine j_eq (st' := [aI (Y k), aI ((40 * (F 100 18)) + k), aR 114]) ?_ (e1 := by first | rfl | (simp only [List.cons.injEq, and_true]; exact congrArg aI ((congrFun (hO2 123 (by decide) (by decide)) k).trans (hst6 k (by omega) (by omega)).2)))
              refine j_iast C (sM_114 hS) (by omega) (by omega) (by decide) dX10_warn_85 ?_
              refine j_iinc C (lv' := [some (aR 100), some (aI (k + 1))]) dX10_warn_86 rfl (by decide) rfl ?_
              refine j_goto C (tgt := 38) dX10_warn_89 (by decide) ?_
              exact ih38 (k + 1) ((upA (upA B2 113 ((40 * (F 100 18)) + k) (X k)) 114 ((40 * (F 100 18)) + k) (Y k))) (by omega) (fun i p1 p2 => by rw [upA_other p2, upA_other p1]; exact hO2 i p1 p2) (fun j => by rw [upA_other (by decide), upA_if, hW1 j]; by_cases e : j = 40 * F 100 18 + k; (rw [if_pos e, if_pos (by omega), e, show 40 * F 100 18 + k - 40 * F 100 18 = k by omega]); (rw [if_neg e]; by_cases e2 : 40 * F 100 18 ≤ j ∧ j < 40 * F 100 18 + k; (rw [if_pos e2, if_pos (by omega)]); (rw [if_neg e2, if_neg (by omega)]))) (fun j => by rw [upA_if, upA_other (by decide), hW2 j]; by_cases e : j = 40 * F 100 18 + k; (rw [if_pos e, if_pos (by omega), e, show 40 * F 100 18 + k - 40 * F 100 18 = k by omega]); (rw [if_neg e]; by_cases e2 : 40 * F 100 18 ≤ j ∧ j < 40 * F 100 18 + k; (rw [if_pos e2, if_pos (by omega)]); (rw [if_neg e2, if_neg (by omega)]))) (by omega)
        exact K38 _ 0 A_6 (by omega) (fun _ _ _ => rfl) (fun j => by rw [if_neg (by omega), hO6 113 (by decide) (by decide) (by decide) (by decide)]) (fun j => by rw [if_neg (by omega), hO6 114 (by decide) (by decide) (by decide) (by decide)]) (Nat.lt_succ_self _)
      · refine j_iconst C dX10_warn_34 ?_
        exact j_iret C hr (Nat.le_refl _) (Nat.le_refl _) dX10_warn_35 ⟨rfl, (fun i g1 g2 g3 g4 g5 g6 g7 g8 g9 => hO6 i g6 g7 g8 g9), Or.inl ⟨rfl, by omega, rfl, hO6⟩⟩
