theorem aI_inj {a b : Int} (h : some (aI a) = some (aI b)) : a = b := Sum.inl.inj (Option.some.inj h)
section
variable {S : ab_St} {F : ab_Fn} {A : ab_An} {U : Int → bst} {nc : Nat → Nat} {T : Int}
theorem LI.ex (h : LI S F A U nc T) {sq : Int} (h1 : 0 ≤ sq ∧ sq ≤ 279) : exB (fun b => 0 < A 106 (280 * b + sq)) (F 100 11) ↔ exB (fun bb => 0 < A (220 + bb.toNat) sq) (F 2 2) := by
  rw [h.2.1.2.2.1]
  constructor
  · rintro ⟨b, z1, z2, z3⟩
    refine ⟨b, z1, z2, ?_⟩
    have e := h.hq b sq z1 z2 h1.1 (by omega)
    dsimp only at z3 ⊢
    rw [← e]; exact z3
  · rintro ⟨b, z1, z2, z3⟩
    refine ⟨b, z1, z2, ?_⟩
    have e := h.hq b sq z1 z2 h1.1 (by omega)
    dsimp only at z3 ⊢
    rw [e]; exact z3
theorem LI.U1 (h : LI S F A U nc T) : ∀ b, 0 ≤ b → b < F 2 2 → BC F A b.toNat (U b) ∧ BW (U b) := fun b z1 z2 => ⟨(h.2.1.2.2.2.1 b z1 z2).1, (h.2.1.2.2.2.1 b z1 z2).2.2⟩
theorem LI.U2 (h : LI S F A U nc T) : ∀ b, 0 ≤ b → b < F 100 11 → BR A b (U b) ∧ BW (U b) := fun b z1 z2 => by rw [h.2.1.2.2.1] at z2; exact ⟨(h.2.1.2.2.2.1 b z1 z2).2.1, (h.2.1.2.2.2.1 b z1 z2).2.2⟩
theorem BR.to {A A' : ab_An} {b : Int} {u : bst} (h : BR A b u) (hA : ∀ i, 106 ≤ i → i ≤ 110 → A' i = A i) : BR A' b u := by
  unfold BR
  rw [hA 106 (by decide) (by decide), hA 107 (by decide) (by decide), hA 108 (by decide) (by decide), hA 109 (by decide) (by decide), hA 110 (by decide) (by decide)]
  exact h
theorem LI.fp (h : LI S F A U nc T) : ∀ b sq, 0 ≤ b → b < F 100 11 → 0 ≤ sq → sq < 280 → 0 ≤ A 106 (280 * b + sq) ∧ A 106 (280 * b + sq) ≤ 1000000 := fun b sq z1 z2 z3 z4 => by
  rw [h.2.1.2.2.1] at z2
  rw [h.hq b sq z1 z2 z3 z4]; exact h.hp b sq z1 z2 z3 z4
theorem LI.pt (h : LI S F A U nc T) : PT (fun s => exB (fun bb => 0 < A 106 (280 * bb + s)) (F 100 11)) = PT (fun s => 0 < sm (fun bb => A (220 + bb.toNat) s) (F 2 2).toNat) := PT_eq fun s z1 z2 => by
  rw [h.ex ⟨z1, by omega⟩]
  exact exB_sum h.2.1.2.1.1 (fun b y1 y2 => (h.hp b s y1 y2 z1 z2).1)
end

section
variable {S : ab_St} {F : ab_Fn} {A : ab_An} {U : Int → bst} {nc : Nat → Nat} {T : Int}
theorem bergE (h : LI S F A U nc T) {b w r r2 : Int} (hb : 0 ≤ b ∧ b < F 2 2) (h2 : (w = 0 ∧ r2 = A 107 b) ∨ (w = 1 ∧ r2 = A 108 b) ∨ (w = 2 ∧ r2 = A 110 b) ∨ (w = 3 ∧ r2 = sm (fun x => if 0 < A 106 (280 * b + x) then 1 else 0) 280) ∨ (w = 4 ∧ r2 = sm (fun x => A 106 (280 * b + x)) 280) ∨ (w = 5 ∧ r2 = A 109 b)) (h5 : (w = 0 ∧ r = F (200 + b.toNat) 1) ∨ (w = 1 ∧ r = F (200 + b.toNat) 2) ∨ (w = 2 ∧ r = F (200 + b.toNat) 4) ∨ (w = 3 ∧ r = sm (fun x => if 0 < A (220 + b.toNat) x then 1 else 0) 280) ∨ (w = 4 ∧ r = sm (A (220 + b.toNat)) 280) ∨ (w = 5 ∧ r = F (200 + b.toNat) 3)) : r2 = r := by
  obtain ⟨q1, q2, q3⟩ := h.2.1.2.2.2.1 b hb.1 hb.2
  rcases h2 with ⟨a1, a2⟩ | ⟨a1, a2⟩ | ⟨a1, a2⟩ | ⟨a1, a2⟩ | ⟨a1, a2⟩ | ⟨a1, a2⟩ <;> rcases h5 with ⟨b1, b2⟩ | ⟨b1, b2⟩ | ⟨b1, b2⟩ | ⟨b1, b2⟩ | ⟨b1, b2⟩ | ⟨b1, b2⟩ <;> first | (exfalso; omega) | skip
  · rw [a2, b2, q2.2.1, q1.2.1]
  · rw [a2, b2, q2.2.2.1, q1.2.2.1]
  · rw [a2, b2, q2.2.2.2.2, q1.2.2.2.2]
  · rw [a2, b2]; exact sm_cong (n := 280) (fun k z1 z2 => by rw [h.hq b k hb.1 hb.2 z1 (by omega)])
  · rw [a2, b2]; exact sm_cong (n := 280) (fun k z1 z2 => h.hq b k hb.1 hb.2 z1 (by omega))
  · rw [a2, b2, q2.2.2.2.1, q1.2.2.2.1]
end

section
variable {S : ab_St} {F : ab_Fn} {A : ab_An} {U : Int → bst} {nc : Nat → Nat} {T : Int}
theorem fl_eq (h : LI S F A U nc T) : mz (fl (fun k => sm (fun bb => A 106 (280 * bb + k)) (F 2 2).toNat) 20) 0 14 = mz (fl (fun k => sm (fun bb => A (220 + bb.toNat) k) (F 2 2).toNat) 20) 0 14 :=
  mz_cong (n := 14) fun y z1 z2 => fl_cong (fun k y1 y2 => sm_cong fun b w1 w2 => h.hq b k w1 (by omega) y1 y2) 20 y (by decide) z1 (by omega)
theorem fl_R (h : LI S F A U nc T) : inR (mz (fl (fun k => sm (fun bb => A (220 + bb.toNat) k) (F 2 2).toNat) 20) 0 14) := by
  have q := mz_rng (f := fl (fun k => sm (fun bb => A (220 + bb.toNat) k) (F 2 2).toNat) 20) (lo := 0) (c := 2000000000) (by decide) (n := 14) (fun y z1 z2 => by
    have := fl_rng (g := fun k => sm (fun bb => A (220 + bb.toNat) k) (F 2 2).toNat) (fun k y1 y2 => gs_rng h.2.1.2.1 (fun b w1 w2 => h.hp b k w1 w2 y1 y2)) 20 y (by decide) z1 (by omega)
    omega)
  exact ⟨by omega, by omega⟩
theorem LI.by9 (h : LI S F A U nc T) : byt (A 125) (F 100 26) = byt (A 15) (F 4 1) := by
  funext i
  unfold byt
  rw [h.2.2.2.1.1]
  by_cases z : 0 ≤ i ∧ i < F 4 1
  · rw [if_pos z, if_pos z, (h.2.2.2.1.2.2 i z.1 z.2).1, Int.emod_emod_of_dvd _ (Int.dvd_refl 256)]
  · rw [if_neg z, if_neg z]
theorem LI.h15 (h : LI S F A U nc T) : ∀ i, 0 ≤ i → i < F 4 1 → 0 ≤ A 15 i ∧ A 15 i ≤ 255 := fun i z1 z2 => by
  have := h.2.2.2.1.2.2 i z1 z2
  rw [this.1]; omega
theorem LI.inF (h : LI S F A U nc T) {w st : Int} (hw : 0 ≤ w ∧ w < F 3 2) : (A 116 w ≤ st ∧ (A 117 w < 0 ∨ st < A 117 w)) ↔ (F (300 + w.toNat) 2 ≤ st ∧ (F (300 + w.toNat) 4 = 0 ∨ st < F (300 + w.toNat) 5)) := by
  obtain ⟨q1, q2, q3, q4, q5, q6, q7⟩ := h.2.2.1.2.2.2.1 w hw.1 hw.2
  rw [q4]
  rcases q5 with q | q
  · rw [q.1, q.2]; omega
  · rw [q.1, q.2.1]; omega
theorem LI.fres (h : LI S F A U nc T) : F 3 2 < 40 → S (300 + (F 3 2).toNat) = none ∧ S (350 + (F 3 2).toNat) = none ∧ S (400 + (F 3 2).toNat) = none ∧ S (450 + (F 3 2).toNat) = none ∧ S (600 + (F 3 2).toNat) = none := fun z => h.2.2.1.2.2.2.2.1 (F 3 2).toNat (by have := h.2.2.1.2.1; omega) (by have := h.2.2.1.2.1; omega)
theorem countE (h : LI S F A U nc T) {w r r2 : Int} (h1 : (w = 0 ∧ r = F 0 10) ∨ (w = 1 ∧ r = F 2 2) ∨ (w = 2 ∧ r = sm (fun x => if F (200 + x.toNat) 4 = 0 then 1 else 0) (F 2 2).toNat) ∨ (w = 3 ∧ r = F 3 2) ∨ (w = 4 ∧ r = sm (fun x => if (F (300 + x.toNat) 2 ≤ F 0 10 ∧ (F (300 + x.toNat) 4 = 0 ∨ F 0 10 < F (300 + x.toNat) 5)) then 1 else 0) (F 3 2).toNat) ∨ (w = 5 ∧ r = sm (fun x => if 0 < sm (fun bb => A (220 + bb.toNat) x) (F 2 2).toNat then 1 else 0) 280) ∨ (w = 6 ∧ r = F 4 1) ∨ (w = 7 ∧ r = F 0 11) ∨ (¬ (0 ≤ w ∧ w ≤ 7) ∧ r = -1))
    (h2 : (w = 0 ∧ r2 = F 100 5) ∨ (w = 1 ∧ r2 = F 100 11) ∨ (w = 2 ∧ r2 = sm (fun x => if A 110 x = 0 then 1 else 0) (F 100 11).toNat) ∨ (w = 3 ∧ r2 = F 100 18) ∨ (w = 4 ∧ r2 = sm (fun x => if (A 116 x ≤ F 100 5 ∧ (A 117 x < 0 ∨ F 100 5 < A 117 x)) then 1 else 0) (F 100 18).toNat) ∨ (w = 5 ∧ r2 = sm (fun x => if 0 < sm (fun b => A 106 (280 * b + x)) (F 100 11).toNat then 1 else 0) 280) ∨ (w = 6 ∧ r2 = F 100 26) ∨ (w = 7 ∧ r2 = F 100 12) ∨ (¬ (0 ≤ w ∧ w ≤ 7) ∧ r2 = -1)) : r2 = r := by
  rw [h.2.1.2.2.1, h.2.2.1.2.2.1, h.2.2.2.2.2.1, h.2.2.2.2.2.2.2.1, h.2.2.2.1.1] at h2
  rcases h1 with ⟨a1, a2⟩ | ⟨a1, a2⟩ | ⟨a1, a2⟩ | ⟨a1, a2⟩ | ⟨a1, a2⟩ | ⟨a1, a2⟩ | ⟨a1, a2⟩ | ⟨a1, a2⟩ | ⟨a1, a2⟩ <;> rcases h2 with ⟨b1, b2⟩ | ⟨b1, b2⟩ | ⟨b1, b2⟩ | ⟨b1, b2⟩ | ⟨b1, b2⟩ | ⟨b1, b2⟩ | ⟨b1, b2⟩ | ⟨b1, b2⟩ | ⟨b1, b2⟩ <;> first | (exfalso; omega) | (rw [a2, b2]; done) | skip
  · rw [a2, b2]; exact sm_cong fun x z1 z2 => by
      obtain ⟨q1, q2, q3⟩ := h.2.1.2.2.2.1 x z1 (by omega)
      rw [q2.2.2.2.2, q1.2.2.2.2]
  · rw [a2, b2]; exact sm_cong fun x z1 z2 => by
      have e := h.inF (w := x) (st := F 0 10) ⟨z1, by omega⟩
      by_cases z : A 116 x ≤ F 0 10 ∧ (A 117 x < 0 ∨ F 0 10 < A 117 x)
      · rw [if_pos z, if_pos (e.mp z)]
      · rw [if_neg z, if_neg (fun q => z (e.mpr q))]
  · rw [a2, b2]; exact sm_cong (n := 280) fun x z1 z2 => by
      have e : sm (fun b => A 106 (280 * b + x)) (F 2 2).toNat = sm (fun bb => A (220 + bb.toNat) x) (F 2 2).toNat := sm_cong fun b y1 y2 => h.hq b x y1 (by omega) z1 (by omega)
      rw [e]
theorem sm_i01 {p : Int → Prop} (dp : ∀ x, Decidable (p x)) : ∀ n : Nat, 0 ≤ sm (fun x => @ite Int (p x) (dp x) 1 0) n ∧ sm (fun x => @ite Int (p x) (dp x) 1 0) n ≤ n
  | 0 => ⟨Int.le_refl _, Int.le_refl _⟩
  | n + 1 => by
    have h := sm_i01 dp n
    have e : sm (fun x => @ite Int (p x) (dp x) 1 0) (n + 1) = sm (fun x => @ite Int (p x) (dp x) 1 0) n + @ite Int (p n) (dp n) 1 0 := rfl
    rw [e]
    by_cases q : p n
    · rw [if_pos q]; omega
    · rw [if_neg q]; omega
theorem countR (h : LI S F A U nc T) (hT : 0 ≤ T ∧ T ≤ 512) {w r : Int} (h1 : (w = 0 ∧ r = F 0 10) ∨ (w = 1 ∧ r = F 2 2) ∨ (w = 2 ∧ r = sm (fun x => if F (200 + x.toNat) 4 = 0 then 1 else 0) (F 2 2).toNat) ∨ (w = 3 ∧ r = F 3 2) ∨ (w = 4 ∧ r = sm (fun x => if (F (300 + x.toNat) 2 ≤ F 0 10 ∧ (F (300 + x.toNat) 4 = 0 ∨ F 0 10 < F (300 + x.toNat) 5)) then 1 else 0) (F 3 2).toNat) ∨ (w = 5 ∧ r = sm (fun x => if 0 < sm (fun bb => A (220 + bb.toNat) x) (F 2 2).toNat then 1 else 0) 280) ∨ (w = 6 ∧ r = F 4 1) ∨ (w = 7 ∧ r = F 0 11) ∨ (¬ (0 ≤ w ∧ w ≤ 7) ∧ r = -1)) : inR r := by
  have q1 := h.2.1.2.1
  have q2 := h.2.2.1.2.1
  have q3 := h.2.2.2.1.2.1
  have q4 := h.2.2.2.2.2.2.1
  have q5 := h.2.2.2.2.2.2.2.2.1
  rcases h1 with ⟨a1, a2⟩ | ⟨a1, a2⟩ | ⟨a1, a2⟩ | ⟨a1, a2⟩ | ⟨a1, a2⟩ | ⟨a1, a2⟩ | ⟨a1, a2⟩ | ⟨a1, a2⟩ | ⟨a1, a2⟩
  · exact ⟨by omega, by omega⟩
  · exact ⟨by omega, by omega⟩
  · have := sm_i01 (p := fun x => F (200 + x.toNat) 4 = 0) (fun x => inferInstance) (F 2 2).toNat; rw [a2]; exact ⟨by omega, by omega⟩
  · exact ⟨by omega, by omega⟩
  · have := sm_i01 (p := fun x => F (300 + x.toNat) 2 ≤ F 0 10 ∧ (F (300 + x.toNat) 4 = 0 ∨ F 0 10 < F (300 + x.toNat) 5)) (fun x => inferInstance) (F 3 2).toNat; rw [a2]; exact ⟨by omega, by omega⟩
  · have := sm_i01 (p := fun x => 0 < sm (fun bb => A (220 + bb.toNat) x) (F 2 2).toNat) (fun x => inferInstance) 280; rw [a2]; exact ⟨by omega, by omega⟩
  · exact ⟨by omega, by omega⟩
  · exact ⟨by omega, by omega⟩
  · exact ⟨by omega, by omega⟩
theorem LI.opq (h : LI S F A U nc T) (st : Int) : opM A st (F 100 18) = (fun k => (0 ≤ k ∧ k < 280) ∧ ¬ SHc (A 11) (fun w => F (300 + w.toNat) 2 ≤ st ∧ (F (300 + w.toNat) 4 = 0 ∨ st < F (300 + w.toNat) 5)) (fun w => wIn (A (350 + w.toNat)) (A (400 + w.toNat)) (nc w.toNat : Nat)) k (F 3 2)) := by
  funext k
  refine propext (and_congr Iff.rfl (not_congr ?_))
  unfold SHm SHc
  rw [h.2.2.1.2.2.1, h.2.2.2.2.1.1.1]
  refine or_congr Iff.rfl ?_
  constructor
  · rintro ⟨w, z1, z2, z3, z4⟩
    obtain ⟨q1, q2, q3, q4, q5, q6, q7⟩ := h.2.2.1.2.2.2.1 w z1 z2
    refine ⟨w, z1, z2, (h.inF ⟨z1, z2⟩).mp z3, ?_⟩
    rw [← z4, ← q1]
    exact wIn_cong (by omega) (fun j y1 y2 => ⟨(q3 j y1 y2).1, (q3 j y1 y2).2.1⟩)
  · rintro ⟨w, z1, z2, z3, z4⟩
    obtain ⟨q1, q2, q3, q4, q5, q6, q7⟩ := h.2.2.1.2.2.2.1 w z1 z2
    refine ⟨w, z1, z2, (h.inF ⟨z1, z2⟩).mpr z3, ?_⟩
    rw [← z4, ← q1]
    exact (wIn_cong (by omega) (fun j y1 y2 => ⟨(q3 j y1 y2).1, (q3 j y1 y2).2.1⟩)).symm
theorem opM_to {A A' : ab_An} {st n : Int} (h : ∀ i, (i = 101 ∨ (113 ≤ i ∧ i ≤ 117)) → A' i = A i) : opM A' st n = opM A st n := by
  funext k
  unfold opM SHm
  rw [h 101 (by omega), h 113 (by omega), h 114 (by omega), h 115 (by omega), h 116 (by omega), h 117 (by omega)]
end

set_option maxHeartbeats 4000000 in
set_option maxRecDepth 100000 in
theorem lc_0 {E : ab_E} (C : ab_C E cL_law 7 yL_law room_1) {b L : Nat} {xs : Nat → Int32} (hX : ab_X E b L xs) (hL : L ≤ 3072) {k n : Nat} (hk : k + 5 ≤ 601024) (hn : n + 345 ≤ 7293034) {S : ab_St} {F : ab_Fn} {A : ab_An} {U : Int → bst} {nc : Nat → Nat} {T : Int} (hT : 0 ≤ T ∧ T ≤ 512) (hI : LI S F A U nc T) {i : Int} (hi : 0 ≤ i ∧ i + 6 ≤ L)
    (go : ∀ S2 F2 A2 U2 nc2, LI S2 F2 A2 U2 nc2 (T + 1) → ab_J E 7 (k + 5) (n + 345) S2 F2 A2 1175 [some (aX (.ref b)), some (aR 0), some (aR 100), some (aR 90), some (aI i), none, none] []) : ab_J E 7 k n S F A 140 [some (aX (.ref b)), some (aR 0), some (aR 100), some (aR 90), some (aI i), none, none] [] := by
  obtain ⟨⟨hSC, hSM, h90⟩, hLB, hLW, hLT, hLS, hLF⟩ := id hI
  have hb := hLB.2.1
  have hb3 := hLB.2.2.1
  have hw9 := hLW.2.1
  have hw3 := hLW.2.2.1
  have ht := hLT.2.1
  have ht3 := hLT.1
  refine j_aload_n C dL_law_140 rfl rfl ?_
  refine j_xload_n C dL_law_141 rfl rfl ?_
  refine j_iload C dL_law_142 rfl ?_
  refine j_iconst C dL_law_144 ?_
  refine j_iadd C dL_law_145 ?_
  refine j_sld C hX (j := i + 1) (by omega) (by omega) (by omega) dL_law_146 ?_
  refine j_xload_n C dL_law_147 rfl rfl ?_
  refine j_iload C dL_law_148 rfl ?_
  refine j_iconst C dL_law_150 ?_
  refine j_iadd C dL_law_151 ?_
  refine j_sld C hX (j := i + 2) (by omega) (by omega) (by omega) dL_law_152 ?_
  refine j_xload_n C dL_law_153 rfl rfl ?_
  refine j_iload C dL_law_154 rfl ?_
  refine j_iconst C dL_law_156 ?_
  refine j_iadd C dL_law_157 ?_
  refine j_sld C hX (j := i + 3) (by omega) (by omega) (by omega) dL_law_158 ?_
  refine j_xload_n C dL_law_159 rfl rfl ?_
  refine j_iload C dL_law_160 rfl ?_
  refine j_iconst C dL_law_162 ?_
  refine j_iadd C dL_law_163 ?_
  refine j_sld C hX (j := i + 4) (by omega) (by omega) (by omega) dL_law_164 ?_
  refine j_xload_n C dL_law_165 rfl rfl ?_
  refine j_iload C dL_law_166 rfl ?_
  refine j_iconst C dL_law_168 ?_
  refine j_iadd C dL_law_169 ?_
  refine j_sld C hX (j := i + 5) (by omega) (by omega) (by omega) dL_law_170 ?_
  rcases (show 400 < F 4 1 + 20 ∨ F 4 1 + 20 ≤ 400 by omega) with hq | hq
  · refine j_callV C (vs := [aI ((xs (i + 1).toNat).toInt), aI ((xs (i + 2).toNat).toInt), aI ((xs (i + 3).toNat).toInt), aI ((xs (i + 4).toNat).toInt), aI ((xs (i + 5).toNat).toInt)]) (st := []) cl_L_67 im_yX9_feed se_yX9_feed (fun _ => (c_feed _ S F A hSC _ _ _ _ _ (inX _) (inX _) (inX _) (inX _) (inX _) ht)) (sC_0 hSC) rfl rfl rfl ⟨rfl, rfl, by decide, by decide⟩ ⟨(by show k + 0 ≤ 601024; omega), (by show n + 0 ≤ 7293034; omega)⟩ (fun _ => Nat.le_of_ble_eq_true rfl) (fun v hv => by cases hv) (fun v hv => by simp only [List.mem_cons, List.not_mem_nil, or_false, Option.some.injEq, reduceCtorEq, false_or] at hv; rcases hv with rfl | rfl | rfl | rfl | rfl <;> first | exact (lS (sC_0 hSC)) | exact (lS (sM_100 hSM)) | exact (lS h90) | exact trivial) dL_law_171 (fun v_171 S_171 F_171 A_171 hP_171 => ?_)
    obtain ⟨rfl, hc⟩ := hP_171
    obtain ⟨rfl, rfl, rfl⟩ : v_171 = some (aI (-1)) ∧ F = F_171 ∧ A = A_171 := by rcases hc with ⟨h1, h2, h3, h4⟩ | ⟨h1, h2, h3, h4⟩; exact ⟨h1, h3.symm, h4⟩; omega
    show ab_J E 7 k n S F A 174 [some (aX (.ref b)), some (aR 0), some (aR 100), some (aR 90), some (aI i), none, none] [aI (-1)]
    refine j_aload_n C dL_law_174 rfl rfl ?_
    refine j_xload_n C dL_law_175 rfl rfl ?_
    refine j_iload C dL_law_176 rfl ?_
    refine j_iconst C dL_law_178 ?_
    refine j_iadd C dL_law_179 ?_
    refine j_sld C hX (j := i + 1) (by omega) (by omega) (by omega) dL_law_180 ?_
    refine j_xload_n C dL_law_181 rfl rfl ?_
    refine j_iload C dL_law_182 rfl ?_
    refine j_iconst C dL_law_184 ?_
    refine j_iadd C dL_law_185 ?_
    refine j_sld C hX (j := i + 2) (by omega) (by omega) (by omega) dL_law_186 ?_
    refine j_xload_n C dL_law_187 rfl rfl ?_
    refine j_iload C dL_law_188 rfl ?_
    refine j_iconst C dL_law_190 ?_
    refine j_iadd C dL_law_191 ?_
    refine j_sld C hX (j := i + 3) (by omega) (by omega) (by omega) dL_law_192 ?_
    refine j_xload_n C dL_law_193 rfl rfl ?_
    refine j_iload C dL_law_194 rfl ?_
    refine j_iconst C dL_law_196 ?_
    refine j_iadd C dL_law_197 ?_
    refine j_sld C hX (j := i + 4) (by omega) (by omega) (by omega) dL_law_198 ?_
    refine j_xload_n C dL_law_199 rfl rfl ?_
    refine j_iload C dL_law_200 rfl ?_
    refine j_iconst C dL_law_202 ?_
    refine j_iadd C dL_law_203 ?_
    refine j_sld C hX (j := i + 5) (by omega) (by omega) (by omega) dL_law_204 ?_
    refine j_callV C (vs := [aI ((xs (i + 1).toNat).toInt), aI ((xs (i + 2).toNat).toInt), aI ((xs (i + 3).toNat).toInt), aI ((xs (i + 4).toNat).toInt), aI ((xs (i + 5).toNat).toInt)]) (st := [aI (-1)]) cl_L_71 im_yX10_feed se_yX10_feed (fun _ => (m_feed _ S F A hSM _ _ _ _ _ (inX _) (inX _) (inX _) (inX _) (inX _) (by show 0 ≤ F 100 26 ∧ F 100 26 ≤ 400; rw [ht3]; exact ht))) (sM_100 hSM) rfl rfl rfl ⟨rfl, rfl, by decide, by decide⟩ ⟨(by show k + 0 ≤ 601024; omega), (by show n + 0 ≤ 7293034; omega)⟩ (fun _ => Nat.le_of_ble_eq_true rfl) (fun v hv => by simp only [List.mem_cons, List.not_mem_nil, or_false] at hv; rcases hv with rfl <;> first | exact trivial) (fun v hv => by simp only [List.mem_cons, List.not_mem_nil, or_false, Option.some.injEq, reduceCtorEq, false_or] at hv; rcases hv with rfl | rfl | rfl | rfl | rfl <;> first | exact (lS (sC_0 hSC)) | exact (lS (sM_100 hSM)) | exact (lS h90) | exact trivial) dL_law_205 (fun v_205 S_205 F_205 A_205 hP_205 => ?_)
    obtain ⟨rfl, hm⟩ := hP_205
    obtain ⟨rfl, rfl, rfl⟩ : v_205 = some (aI (-1)) ∧ F_205 = upF F 100 0 0 ∧ A = A_205 := by rcases hm with ⟨h1, h2, h3, h4⟩ | ⟨h1, h2, h3, h4⟩; exact ⟨h1, h3, h4⟩; omega
    have hI9 := hI.to (F' := upF F 100 0 0) (A' := A) (fun i z => upF_o (by omega)) (fun k z => upF_ne (by omega)) (fun _ _ => rfl)
    show ab_J E 7 k n S (upF F 100 0 0) A 208 [some (aX (.ref b)), some (aR 0), some (aR 100), some (aR 90), some (aI i), none, none] [aI (-1), aI (-1)]
    refine j_icmp_eq C (tgt := 1175) dL_law_208 (by decide) ⟨by omega, by omega⟩ ⟨by omega, by omega⟩ (fun c208 => ?_) (fun c208 => ?_)
    · exact j_widen (by omega) (by omega) (go _ _ _ _ _ hI9)
    · exact absurd rfl c208
  · refine j_callV C (vs := [aI ((xs (i + 1).toNat).toInt), aI ((xs (i + 2).toNat).toInt), aI ((xs (i + 3).toNat).toInt), aI ((xs (i + 4).toNat).toInt), aI ((xs (i + 5).toNat).toInt)]) (st := []) cl_L_67 im_yX9_feed se_yX9_feed (fun _ => (c_feed _ S F A hSC _ _ _ _ _ (inX _) (inX _) (inX _) (inX _) (inX _) ht)) (sC_0 hSC) rfl rfl rfl ⟨rfl, rfl, by decide, by decide⟩ ⟨(by show k + 0 ≤ 601024; omega), (by show n + 0 ≤ 7293034; omega)⟩ (fun _ => Nat.le_of_ble_eq_true rfl) (fun v hv => by cases hv) (fun v hv => by simp only [List.mem_cons, List.not_mem_nil, or_false, Option.some.injEq, reduceCtorEq, false_or] at hv; rcases hv with rfl | rfl | rfl | rfl | rfl <;> first | exact (lS (sC_0 hSC)) | exact (lS (sM_100 hSM)) | exact (lS h90) | exact trivial) dL_law_171 (fun v_171 S_171 F_171 A_171 hP_171 => ?_)
    obtain ⟨rfl, hc⟩ := hP_171
    obtain ⟨rfl, rfl, hc2, hc3, hc4⟩ : v_171 = some (aI (F 4 1 + 20)) ∧ F_171 = upF F 4 1 (F 4 1 + 20) ∧ (∀ i, i ≠ 15 → A_171 i = A i) ∧ (∀ j, j < F 4 1 → A_171 15 j = A 15 j) ∧ (∀ k, 0 ≤ k → k < 20 → A_171 15 (F 4 1 + k) = fb ((xs (i + 1).toNat).toInt) ((xs (i + 2).toNat).toInt) ((xs (i + 3).toNat).toInt) ((xs (i + 4).toNat).toInt) ((xs (i + 5).toNat).toInt) k % 256) := by rcases hc with ⟨h1, h2, h3, h4⟩ | ⟨h1, h2, h3, h4, h5, h6⟩; omega; exact ⟨h1, h3, h4, h5, h6⟩
    show ab_J E 7 k n S (upF F 4 1 (F 4 1 + 20)) A_171 174 [some (aX (.ref b)), some (aR 0), some (aR 100), some (aR 90), some (aI i), none, none] [aI (F 4 1 + 20)]
    refine j_aload_n C dL_law_174 rfl rfl ?_
    refine j_xload_n C dL_law_175 rfl rfl ?_
    refine j_iload C dL_law_176 rfl ?_
    refine j_iconst C dL_law_178 ?_
    refine j_iadd C dL_law_179 ?_
    refine j_sld C hX (j := i + 1) (by omega) (by omega) (by omega) dL_law_180 ?_
    refine j_xload_n C dL_law_181 rfl rfl ?_
    refine j_iload C dL_law_182 rfl ?_
    refine j_iconst C dL_law_184 ?_
    refine j_iadd C dL_law_185 ?_
    refine j_sld C hX (j := i + 2) (by omega) (by omega) (by omega) dL_law_186 ?_
    refine j_xload_n C dL_law_187 rfl rfl ?_
    refine j_iload C dL_law_188 rfl ?_
    refine j_iconst C dL_law_190 ?_
    refine j_iadd C dL_law_191 ?_
    refine j_sld C hX (j := i + 3) (by omega) (by omega) (by omega) dL_law_192 ?_
    refine j_xload_n C dL_law_193 rfl rfl ?_
    refine j_iload C dL_law_194 rfl ?_
    refine j_iconst C dL_law_196 ?_
    refine j_iadd C dL_law_197 ?_
    refine j_sld C hX (j := i + 4) (by omega) (by omega) (by omega) dL_law_198 ?_
    refine j_xload_n C dL_law_199 rfl rfl ?_
    refine j_iload C dL_law_200 rfl ?_
    refine j_iconst C dL_law_202 ?_
    refine j_iadd C dL_law_203 ?_
    refine j_sld C hX (j := i + 5) (by omega) (by omega) (by omega) dL_law_204 ?_
    refine j_callV C (vs := [aI ((xs (i + 1).toNat).toInt), aI ((xs (i + 2).toNat).toInt), aI ((xs (i + 3).toNat).toInt), aI ((xs (i + 4).toNat).toInt), aI ((xs (i + 5).toNat).toInt)]) (st := [aI (F 4 1 + 20)]) cl_L_71 im_yX10_feed se_yX10_feed (fun _ => (m_feed _ S (upF F 4 1 (F 4 1 + 20)) A_171 hSM _ _ _ _ _ (inX _) (inX _) (inX _) (inX _) (inX _) (by show 0 ≤ F 100 26 ∧ F 100 26 ≤ 400; rw [ht3]; exact ht))) (sM_100 hSM) rfl rfl rfl ⟨rfl, rfl, by decide, by decide⟩ ⟨(by show k + 0 ≤ 601024; omega), (by show n + 0 ≤ 7293034; omega)⟩ (fun _ => Nat.le_of_ble_eq_true rfl) (fun v hv => by simp only [List.mem_cons, List.not_mem_nil, or_false] at hv; rcases hv with rfl <;> first | exact trivial) (fun v hv => by simp only [List.mem_cons, List.not_mem_nil, or_false, Option.some.injEq, reduceCtorEq, false_or] at hv; rcases hv with rfl | rfl | rfl | rfl | rfl <;> first | exact (lS (sC_0 hSC)) | exact (lS (sM_100 hSM)) | exact (lS h90) | exact trivial) dL_law_205 (fun v_205 S_205 F_205 A_205 hP_205 => ?_)
    obtain ⟨rfl, hm⟩ := hP_205
    obtain ⟨rfl, hm1, hm2⟩ : v_205 = some (aI (F 4 1 + 20)) ∧ F_205 = upF (upF (upF F 4 1 (F 4 1 + 20)) 100 0 0) 100 26 ((upF F 4 1 (F 4 1 + 20)) 100 26 + 20) ∧ A_205 = setRow (upA (upA (upA (upA (upA A_171 127 0 ((xs (i + 1).toNat).toInt)) 127 1 ((xs (i + 2).toNat).toInt)) 127 2 ((xs (i + 3).toNat).toInt)) 127 3 ((xs (i + 4).toNat).toInt)) 127 4 ((xs (i + 5).toNat).toInt)) 125 ((upF F 4 1 (F 4 1 + 20)) 100 26) 20 (fun x => sb (fb ((xs (i + 1).toNat).toInt) ((xs (i + 2).toNat).toInt) ((xs (i + 3).toNat).toInt) ((xs (i + 4).toNat).toInt) ((xs (i + 5).toNat).toInt) x)) := by have e9 : (upF F 4 1 (F 4 1 + 20)) 100 26 = F 4 1 := ht3; rcases hm with ⟨h1, h2, h3, h4⟩ | ⟨h1, h2, h3, h4⟩; omega; exact ⟨by rw [h1, e9], h3, h4⟩
    have hI9 := L_feed hI hq rfl hc2 hc3 hc4 hm1 hm2
    show ab_J E 7 k n S F_205 A_205 208 [some (aX (.ref b)), some (aR 0), some (aR 100), some (aR 90), some (aI i), none, none] [aI (F 4 1 + 20), aI (F 4 1 + 20)]
    refine j_icmp_eq C (tgt := 1175) dL_law_208 (by decide) ⟨by omega, by omega⟩ ⟨by omega, by omega⟩ (fun c208 => ?_) (fun c208 => ?_)
    · exact j_widen (by omega) (by omega) (go _ _ _ _ _ hI9)
    · exact absurd rfl c208

set_option maxHeartbeats 4000000 in
set_option maxRecDepth 100000 in
theorem lc_1 {E : ab_E} (C : ab_C E cL_law 7 yL_law room_1) {b L : Nat} {xs : Nat → Int32} (hX : ab_X E b L xs) (hL : L ≤ 3072) {k n : Nat} (hk : k + 5 ≤ 601024) (hn : n + 345 ≤ 7293034) {S : ab_St} {F : ab_Fn} {A : ab_An} {U : Int → bst} {nc : Nat → Nat} {T : Int} (hT : 0 ≤ T ∧ T ≤ 512) (hI : LI S F A U nc T) {i : Int} (hi : 0 ≤ i ∧ i + 6 ≤ L)
    (go : ∀ S2 F2 A2 U2 nc2, LI S2 F2 A2 U2 nc2 (T + 1) → ab_J E 7 (k + 5) (n + 345) S2 F2 A2 1175 [some (aX (.ref b)), some (aR 0), some (aR 100), some (aR 90), some (aI i), none, none] []) : ab_J E 7 k n S F A 213 [some (aX (.ref b)), some (aR 0), some (aR 100), some (aR 90), some (aI i), none, none] [] := by
  obtain ⟨⟨hSC, hSM, h90⟩, hLB, hLW, hLT, hLS, hLF⟩ := id hI
  have hb := hLB.2.1
  have hb3 := hLB.2.2.1
  have hw9 := hLW.2.1
  have hw3 := hLW.2.2.1
  have ht := hLT.2.1
  have ht3 := hLT.1
  refine j_aload_n C dL_law_213 rfl rfl ?_
  refine j_xload_n C dL_law_214 rfl rfl ?_
  refine j_iload C dL_law_215 rfl ?_
  refine j_iconst C dL_law_217 ?_
  refine j_iadd C dL_law_218 ?_
  refine j_sld C hX (j := i + 1) (by omega) (by omega) (by omega) dL_law_219 ?_
  rcases (show ¬ (0 ≤ ((xs (i + 1).toNat).toInt) ∧ ((xs (i + 1).toNat).toInt) ≤ F 4 1) ∨ (0 ≤ ((xs (i + 1).toNat).toInt) ∧ ((xs (i + 1).toNat).toInt) ≤ F 4 1) by omega) with hq | hq
  · refine j_callV C (vs := [aI ((xs (i + 1).toNat).toInt)]) (st := []) cl_L_72 im_yX9_end se_yX9_end (fun _ => (c_end _ S F A hSC _ (inX _) ht)) (sC_0 hSC) rfl rfl rfl ⟨rfl, rfl, by decide, by decide⟩ ⟨(by show k + 0 ≤ 601024; omega), (by show n + 0 ≤ 7293034; omega)⟩ (fun _ => Nat.le_of_ble_eq_true rfl) (fun v hv => by cases hv) (fun v hv => by simp only [List.mem_cons, List.not_mem_nil, or_false, Option.some.injEq, reduceCtorEq, false_or] at hv; rcases hv with rfl | rfl | rfl | rfl | rfl <;> first | exact (lS (sC_0 hSC)) | exact (lS (sM_100 hSM)) | exact (lS h90) | exact trivial) dL_law_220 (fun v_220 S_220 F_220 A_220 hP_220 => ?_)
    obtain ⟨rfl, rfl, z9, rfl, hc⟩ := hP_220
    obtain ⟨rfl, rfl⟩ : z9 = 0 ∧ F = F_220 := by rcases hc with ⟨h1, h2, h3⟩ | ⟨h1, h2, h3⟩; exact ⟨h1, h3.symm⟩; exact absurd h2 hq
    show ab_J E 7 k n S F A 223 [some (aX (.ref b)), some (aR 0), some (aR 100), some (aR 90), some (aI i), none, none] [aI 0]
    refine j_aload_n C dL_law_223 rfl rfl ?_
    refine j_xload_n C dL_law_224 rfl rfl ?_
    refine j_iload C dL_law_225 rfl ?_
    refine j_iconst C dL_law_227 ?_
    refine j_iadd C dL_law_228 ?_
    refine j_sld C hX (j := i + 1) (by omega) (by omega) (by omega) dL_law_229 ?_
    refine j_callV C (vs := [aI ((xs (i + 1).toNat).toInt)]) (st := [aI 0]) cl_L_75 im_yX10_end se_yX10_end (fun _ => (m_end _ S F A hSM _ (inX _) (by show 0 ≤ F 100 26 ∧ F 100 26 ≤ 400; rw [ht3]; exact ht))) (sM_100 hSM) rfl rfl rfl ⟨rfl, rfl, by decide, by decide⟩ ⟨(by show k + 0 ≤ 601024; omega), (by show n + 0 ≤ 7293034; omega)⟩ (fun _ => Nat.le_of_ble_eq_true rfl) (fun v hv => by simp only [List.mem_cons, List.not_mem_nil, or_false] at hv; rcases hv with rfl <;> first | exact trivial) (fun v hv => by simp only [List.mem_cons, List.not_mem_nil, or_false, Option.some.injEq, reduceCtorEq, false_or] at hv; rcases hv with rfl | rfl | rfl | rfl | rfl <;> first | exact (lS (sC_0 hSC)) | exact (lS (sM_100 hSM)) | exact (lS h90) | exact trivial) dL_law_230 (fun v_230 S_230 F_230 A_230 hP_230 => ?_)
    obtain ⟨rfl, rfl, z9, rfl, hm⟩ := hP_230
    obtain ⟨rfl, rfl⟩ : z9 = 0 ∧ F_230 = upF F 100 0 0 := by rcases hm with ⟨h1, h2, h3⟩ | ⟨h1, h2, h3⟩; exact ⟨h1, h3⟩; exact absurd h2 (by rw [ht3]; exact hq)
    have hI9 := hI.to (F' := upF F 100 0 0) (A' := A) (fun i z => upF_o (by omega)) (fun k z => upF_ne (by omega)) (fun _ _ => rfl)
    show ab_J E 7 k n S (upF F 100 0 0) A 233 [some (aX (.ref b)), some (aR 0), some (aR 100), some (aR 90), some (aI i), none, none] [aI 0, aI 0]
    refine j_icmp_eq C (tgt := 1175) dL_law_233 (by decide) ⟨by omega, by omega⟩ ⟨by omega, by omega⟩ (fun c233 => ?_) (fun c233 => ?_)
    · exact j_widen (by omega) (by omega) (go _ _ _ _ _ hI9)
    · exact absurd c233 (by decide)
  · refine j_callV C (vs := [aI ((xs (i + 1).toNat).toInt)]) (st := []) cl_L_72 im_yX9_end se_yX9_end (fun _ => (c_end _ S F A hSC _ (inX _) ht)) (sC_0 hSC) rfl rfl rfl ⟨rfl, rfl, by decide, by decide⟩ ⟨(by show k + 0 ≤ 601024; omega), (by show n + 0 ≤ 7293034; omega)⟩ (fun _ => Nat.le_of_ble_eq_true rfl) (fun v hv => by cases hv) (fun v hv => by simp only [List.mem_cons, List.not_mem_nil, or_false, Option.some.injEq, reduceCtorEq, false_or] at hv; rcases hv with rfl | rfl | rfl | rfl | rfl <;> first | exact (lS (sC_0 hSC)) | exact (lS (sM_100 hSM)) | exact (lS h90) | exact trivial) dL_law_220 (fun v_220 S_220 F_220 A_220 hP_220 => ?_)
    obtain ⟨rfl, rfl, z9, rfl, hc⟩ := hP_220
    obtain ⟨rfl, rfl⟩ : z9 = 1 ∧ F_220 = upF F 4 1 ((xs (i + 1).toNat).toInt) := by rcases hc with ⟨h1, h2, h3⟩ | ⟨h1, h2, h3⟩; exact absurd hq h2; exact ⟨h1, h3⟩
    show ab_J E 7 k n S (upF F 4 1 ((xs (i + 1).toNat).toInt)) A 223 [some (aX (.ref b)), some (aR 0), some (aR 100), some (aR 90), some (aI i), none, none] [aI 1]
    refine j_aload_n C dL_law_223 rfl rfl ?_
    refine j_xload_n C dL_law_224 rfl rfl ?_
    refine j_iload C dL_law_225 rfl ?_
    refine j_iconst C dL_law_227 ?_
    refine j_iadd C dL_law_228 ?_
    refine j_sld C hX (j := i + 1) (by omega) (by omega) (by omega) dL_law_229 ?_
    refine j_callV C (vs := [aI ((xs (i + 1).toNat).toInt)]) (st := [aI 1]) cl_L_75 im_yX10_end se_yX10_end (fun _ => (m_end _ S (upF F 4 1 ((xs (i + 1).toNat).toInt)) A hSM _ (inX _) (by show 0 ≤ F 100 26 ∧ F 100 26 ≤ 400; rw [ht3]; exact ht))) (sM_100 hSM) rfl rfl rfl ⟨rfl, rfl, by decide, by decide⟩ ⟨(by show k + 0 ≤ 601024; omega), (by show n + 0 ≤ 7293034; omega)⟩ (fun _ => Nat.le_of_ble_eq_true rfl) (fun v hv => by simp only [List.mem_cons, List.not_mem_nil, or_false] at hv; rcases hv with rfl <;> first | exact trivial) (fun v hv => by simp only [List.mem_cons, List.not_mem_nil, or_false, Option.some.injEq, reduceCtorEq, false_or] at hv; rcases hv with rfl | rfl | rfl | rfl | rfl <;> first | exact (lS (sC_0 hSC)) | exact (lS (sM_100 hSM)) | exact (lS h90) | exact trivial) dL_law_230 (fun v_230 S_230 F_230 A_230 hP_230 => ?_)
    obtain ⟨rfl, rfl, z9, rfl, hm⟩ := hP_230
    obtain ⟨rfl, hm1⟩ : z9 = 1 ∧ F_230 = upF (upF (upF F 4 1 ((xs (i + 1).toNat).toInt)) 100 0 0) 100 26 ((xs (i + 1).toNat).toInt) := by have e9 : (upF F 4 1 ((xs (i + 1).toNat).toInt)) 100 26 = F 4 1 := ht3; rcases hm with ⟨h1, h2, h3⟩ | ⟨h1, h2, h3⟩; exact absurd hq (by rw [e9] at h2; exact h2); exact ⟨h1, h3⟩
    have hI9 := L_end hI hq rfl hm1
    show ab_J E 7 k n S F_230 A 233 [some (aX (.ref b)), some (aR 0), some (aR 100), some (aR 90), some (aI i), none, none] [aI 1, aI 1]
    refine j_icmp_eq C (tgt := 1175) dL_law_233 (by decide) ⟨by omega, by omega⟩ ⟨by omega, by omega⟩ (fun c233 => ?_) (fun c233 => ?_)
    · exact j_widen (by omega) (by omega) (go _ _ _ _ _ hI9)
    · exact absurd c233 (by decide)

set_option maxHeartbeats 4000000 in
set_option maxRecDepth 100000 in
theorem lc_2 {E : ab_E} (C : ab_C E cL_law 7 yL_law room_1) {b L : Nat} {xs : Nat → Int32} (hX : ab_X E b L xs) (hL : L ≤ 3072) {k n : Nat} (hk : k + 5 ≤ 601024) (hn : n + 345 ≤ 7293034) {S : ab_St} {F : ab_Fn} {A : ab_An} {U : Int → bst} {nc : Nat → Nat} {T : Int} (hT : 0 ≤ T ∧ T ≤ 512) (hI : LI S F A U nc T) {i : Int} (hi : 0 ≤ i ∧ i + 6 ≤ L)
    (go : ∀ S2 F2 A2 U2 nc2, LI S2 F2 A2 U2 nc2 (T + 1) → ab_J E 7 (k + 5) (n + 345) S2 F2 A2 1175 [some (aX (.ref b)), some (aR 0), some (aR 100), some (aR 90), some (aI i), none, none] []) : ab_J E 7 k n S F A 238 [some (aX (.ref b)), some (aR 0), some (aR 100), some (aR 90), some (aI i), none, none] [] := by
  obtain ⟨⟨hSC, hSM, h90⟩, hLB, hLW, hLT, hLS, hLF⟩ := id hI
  have hb := hLB.2.1
  have hb3 := hLB.2.2.1
  have hw9 := hLW.2.1
  have hw3 := hLW.2.2.1
  have ht := hLT.2.1
  have ht3 := hLT.1
  refine j_aload_n C dL_law_238 rfl rfl ?_
  refine j_xload_n C dL_law_239 rfl rfl ?_
  refine j_iload C dL_law_240 rfl ?_
  refine j_iconst C dL_law_242 ?_
  refine j_iadd C dL_law_243 ?_
  refine j_sld C hX (j := i + 1) (by omega) (by omega) (by omega) dL_law_244 ?_
  refine j_xload_n C dL_law_245 rfl rfl ?_
  refine j_iload C dL_law_246 rfl ?_
  refine j_iconst C dL_law_248 ?_
  refine j_iadd C dL_law_249 ?_
  refine j_sld C hX (j := i + 2) (by omega) (by omega) (by omega) dL_law_250 ?_
  refine j_xload_n C dL_law_251 rfl rfl ?_
  refine j_iload C dL_law_252 rfl ?_
  refine j_iconst C dL_law_254 ?_
  refine j_iadd C dL_law_255 ?_
  refine j_sld C hX (j := i + 3) (by omega) (by omega) (by omega) dL_law_256 ?_
  refine j_xload_n C dL_law_257 rfl rfl ?_
  refine j_iload C dL_law_258 rfl ?_
  refine j_iconst C dL_law_260 ?_
  refine j_iadd C dL_law_261 ?_
  refine j_sld C hX (j := i + 4) (by omega) (by omega) (by omega) dL_law_262 ?_
  rcases (show (¬ (0 ≤ ((xs (i + 1).toNat).toInt) ∧ ((xs (i + 1).toNat).toInt) ≤ 279)) ∨ ((0 ≤ ((xs (i + 1).toNat).toInt) ∧ ((xs (i + 1).toNat).toInt) ≤ 279) ∧ ¬ (-2 ≤ ((xs (i + 2).toNat).toInt) ∧ ((xs (i + 2).toNat).toInt) ≤ 2 ∧ -2 ≤ ((xs (i + 3).toNat).toInt) ∧ ((xs (i + 3).toNat).toInt) ≤ 2 ∧ 0 ≤ ((xs (i + 4).toNat).toInt) ∧ ((xs (i + 4).toNat).toInt) ≤ 50)) ∨ ((0 ≤ ((xs (i + 1).toNat).toInt) ∧ ((xs (i + 1).toNat).toInt) ≤ 279) ∧ (-2 ≤ ((xs (i + 2).toNat).toInt) ∧ ((xs (i + 2).toNat).toInt) ≤ 2 ∧ -2 ≤ ((xs (i + 3).toNat).toInt) ∧ ((xs (i + 3).toNat).toInt) ≤ 2 ∧ 0 ≤ ((xs (i + 4).toNat).toInt) ∧ ((xs (i + 4).toNat).toInt) ≤ 50)) by by_cases q0 : (0 ≤ ((xs (i + 1).toNat).toInt) ∧ ((xs (i + 1).toNat).toInt) ≤ 279); (by_cases q1 : (-2 ≤ ((xs (i + 2).toNat).toInt) ∧ ((xs (i + 2).toNat).toInt) ≤ 2 ∧ -2 ≤ ((xs (i + 3).toNat).toInt) ∧ ((xs (i + 3).toNat).toInt) ≤ 2 ∧ 0 ≤ ((xs (i + 4).toNat).toInt) ∧ ((xs (i + 4).toNat).toInt) ≤ 50); (exact Or.inr (Or.inr (⟨q0, q1⟩))); exact Or.inr (Or.inl ⟨q0, q1⟩)); exact Or.inl q0) with hq | ⟨hq1, hq⟩ | ⟨hq1, hq2⟩
  · refine j_callSH C (vs := [aR 0, aI ((xs (i + 1).toNat).toInt), aI ((xs (i + 2).toNat).toInt), aI ((xs (i + 3).toNat).toInt), aI ((xs (i + 4).toNat).toInt)]) (st := []) clh_water (ab_t3 (List.mem_of_getElem? (i := 12) rfl) rfl) (fun _ => (h_water_IOB _ S F A (sC_0 hSC) _ _ _ _ _ (fun _ => x_water1 _ S F A hSC _ _ _ _ (inX _) hq))) rfl ⟨rfl, rfl, by decide, by decide⟩ ⟨(by show k + 1 ≤ 601024; omega), (by show n + 6 ≤ 7293034; omega)⟩ (fun _ => Nat.le_of_ble_eq_true rfl) (fun v hv => by cases hv) (fun v hv => by simp only [List.mem_cons, List.not_mem_nil, or_false, Option.some.injEq, reduceCtorEq, false_or] at hv; rcases hv with rfl | rfl | rfl | rfl | rfl <;> first | exact (lS (sC_0 hSC)) | exact (lS (sM_100 hSM)) | exact (lS h90) | exact trivial) dL_law_263 (fun v_263 S_263 F_263 A_263 hP_263 => ?_)
    obtain ⟨rfl, rfl, rfl, rfl⟩ := hP_263
    show ab_J E 7 (k + 1) (n + 6) S F A 266 [some (aX (.ref b)), some (aR 0), some (aR 100), some (aR 90), some (aI i), none, none] [aI 1]
    refine j_istore C (lv' := [some (aX (.ref b)), some (aR 0), some (aR 100), some (aR 90), some (aI i), some (aI 1), none]) dL_law_266 (by decide) rfl ?_
    refine j_aload_n C dL_law_268 rfl rfl ?_
    refine j_xload_n C dL_law_269 rfl rfl ?_
    refine j_iload C dL_law_270 rfl ?_
    refine j_iconst C dL_law_272 ?_
    refine j_iadd C dL_law_273 ?_
    refine j_sld C hX (j := i + 1) (by omega) (by omega) (by omega) dL_law_274 ?_
    refine j_xload_n C dL_law_275 rfl rfl ?_
    refine j_iload C dL_law_276 rfl ?_
    refine j_iconst C dL_law_278 ?_
    refine j_iadd C dL_law_279 ?_
    refine j_sld C hX (j := i + 2) (by omega) (by omega) (by omega) dL_law_280 ?_
    refine j_xload_n C dL_law_281 rfl rfl ?_
    refine j_iload C dL_law_282 rfl ?_
    refine j_iconst C dL_law_284 ?_
    refine j_iadd C dL_law_285 ?_
    refine j_sld C hX (j := i + 3) (by omega) (by omega) (by omega) dL_law_286 ?_
    refine j_xload_n C dL_law_287 rfl rfl ?_
    refine j_iload C dL_law_288 rfl ?_
    refine j_iconst C dL_law_290 ?_
    refine j_iadd C dL_law_291 ?_
    refine j_sld C hX (j := i + 4) (by omega) (by omega) (by omega) dL_law_292 ?_
    refine j_callV C (vs := [aI ((xs (i + 1).toNat).toInt), aI ((xs (i + 2).toNat).toInt), aI ((xs (i + 3).toNat).toInt), aI ((xs (i + 4).toNat).toInt)]) (st := []) cl_L_81 im_yX10_water se_yX10_water (fun _ => (m_water _ S F A hSM _ _ _ _ (inX _) (inX _) (inX _) (inX _))) (sM_100 hSM) rfl rfl rfl ⟨rfl, rfl, by decide, by decide⟩ ⟨(by show (k + 1) + 0 ≤ 601024; omega), (by show (n + 6) + 0 ≤ 7293034; omega)⟩ (fun _ => Nat.le_of_ble_eq_true rfl) (fun v hv => by cases hv) (fun v hv => by simp only [List.mem_cons, List.not_mem_nil, or_false, Option.some.injEq, reduceCtorEq, false_or] at hv; rcases hv with rfl | rfl | rfl | rfl | rfl | rfl <;> first | exact (lS (sC_0 hSC)) | exact (lS (sM_100 hSM)) | exact (lS h90) | exact trivial) dL_law_293 (fun v_293 S_293 F_293 A_293 hP_293 => ?_)
    obtain ⟨rfl, rfl, t9, rfl, hm⟩ := hP_293
    obtain ⟨rfl, rfl⟩ : t9 = 1 ∧ A = A_293 := by rcases hm with h | h | h; exact ⟨h.1, h.2.2⟩; exact absurd h.2.1 hq; exact absurd h.2.1 hq
    have ht9 : (upF F 100 0 1) 100 0 = 1 := rfl
    have hI9 := hI.to (F' := upF F 100 0 1) (A' := A) (fun i z => upF_o (by omega)) (fun k z => upF_ne (by omega)) (fun _ _ => rfl)
    show ab_J E 7 (k + 1) (n + 6) S (upF F 100 0 1) A 296 [some (aX (.ref b)), some (aR 0), some (aR 100), some (aR 90), some (aI i), some (aI 1), none] []
    refine j_aload_n C dL_law_296 rfl rfl ?_
    refine j_callV C (vs := []) (st := []) cl_L_82 im_yX10_thrown se_yX10_thrown (fun _ => (m_thrown _ S (upF F 100 0 1) A hSM)) (sM_100 hSM) rfl rfl rfl ⟨rfl, rfl, by decide, by decide⟩ ⟨(by show (k + 1) + 0 ≤ 601024; omega), (by show (n + 6) + 0 ≤ 7293034; omega)⟩ (fun _ => Nat.le_of_ble_eq_true rfl) (fun v hv => by cases hv) (fun v hv => by simp only [List.mem_cons, List.not_mem_nil, or_false, Option.some.injEq, reduceCtorEq, false_or] at hv; rcases hv with rfl | rfl | rfl | rfl | rfl | rfl <;> first | exact (lS (sC_0 hSC)) | exact (lS (sM_100 hSM)) | exact (lS h90) | exact trivial) dL_law_297 (fun v_297 S_297 F_297 A_297 hP_297 => ?_)
    obtain ⟨rfl, rfl, rfl, rfl⟩ := hP_297
    rw [ht9]
    show ab_J E 7 (k + 1) (n + 6) S (upF F 100 0 1) A 300 [some (aX (.ref b)), some (aR 0), some (aR 100), some (aR 90), some (aI i), some (aI 1), none] [aI 1]
    refine j_iload C dL_law_300 rfl ?_
    refine j_icmp_eq C (tgt := 307) dL_law_302 (by decide) ⟨by omega, by omega⟩ ⟨by omega, by omega⟩ (fun c302 => ?_) (fun c302 => ?_)
    · refine j_goto C (tgt := 1175) dL_law_307 (by decide) ?_
      refine j_lv (lv' := [some (aX (.ref b)), some (aR 0), some (aR 100), some (aR 90), some (aI i), none, none]) ?_ ⟨rfl, rfl, rfl, rfl, rfl, trivial⟩
      exact j_widen (by omega) (by omega) (go _ _ _ _ _ hI9)
    · exact absurd c302 (by decide)
  · refine j_callSH C (vs := [aR 0, aI ((xs (i + 1).toNat).toInt), aI ((xs (i + 2).toNat).toInt), aI ((xs (i + 3).toNat).toInt), aI ((xs (i + 4).toNat).toInt)]) (st := []) clh_water (ab_t3 (List.mem_of_getElem? (i := 12) rfl) rfl) (fun _ => (h_water_IAE _ S F A (sC_0 hSC) _ _ _ _ _ (fun _ => x_water2 _ S F A hSC _ _ _ _ hq1 (inX _) (inX _) (inX _) hq))) rfl ⟨rfl, rfl, by decide, by decide⟩ ⟨(by show k + 1 ≤ 601024; omega), (by show n + 6 ≤ 7293034; omega)⟩ (fun _ => Nat.le_of_ble_eq_true rfl) (fun v hv => by cases hv) (fun v hv => by simp only [List.mem_cons, List.not_mem_nil, or_false, Option.some.injEq, reduceCtorEq, false_or] at hv; rcases hv with rfl | rfl | rfl | rfl | rfl <;> first | exact (lS (sC_0 hSC)) | exact (lS (sM_100 hSM)) | exact (lS h90) | exact trivial) dL_law_263 (fun v_263 S_263 F_263 A_263 hP_263 => ?_)
    obtain ⟨rfl, rfl, rfl, rfl⟩ := hP_263
    show ab_J E 7 (k + 1) (n + 6) S F A 266 [some (aX (.ref b)), some (aR 0), some (aR 100), some (aR 90), some (aI i), none, none] [aI 2]
    refine j_istore C (lv' := [some (aX (.ref b)), some (aR 0), some (aR 100), some (aR 90), some (aI i), some (aI 2), none]) dL_law_266 (by decide) rfl ?_
    refine j_aload_n C dL_law_268 rfl rfl ?_
    refine j_xload_n C dL_law_269 rfl rfl ?_
    refine j_iload C dL_law_270 rfl ?_
    refine j_iconst C dL_law_272 ?_
    refine j_iadd C dL_law_273 ?_
    refine j_sld C hX (j := i + 1) (by omega) (by omega) (by omega) dL_law_274 ?_
    refine j_xload_n C dL_law_275 rfl rfl ?_
    refine j_iload C dL_law_276 rfl ?_
    refine j_iconst C dL_law_278 ?_
    refine j_iadd C dL_law_279 ?_
    refine j_sld C hX (j := i + 2) (by omega) (by omega) (by omega) dL_law_280 ?_
    refine j_xload_n C dL_law_281 rfl rfl ?_
    refine j_iload C dL_law_282 rfl ?_
    refine j_iconst C dL_law_284 ?_
    refine j_iadd C dL_law_285 ?_
    refine j_sld C hX (j := i + 3) (by omega) (by omega) (by omega) dL_law_286 ?_
    refine j_xload_n C dL_law_287 rfl rfl ?_
    refine j_iload C dL_law_288 rfl ?_
    refine j_iconst C dL_law_290 ?_
    refine j_iadd C dL_law_291 ?_
    refine j_sld C hX (j := i + 4) (by omega) (by omega) (by omega) dL_law_292 ?_
    refine j_callV C (vs := [aI ((xs (i + 1).toNat).toInt), aI ((xs (i + 2).toNat).toInt), aI ((xs (i + 3).toNat).toInt), aI ((xs (i + 4).toNat).toInt)]) (st := []) cl_L_81 im_yX10_water se_yX10_water (fun _ => (m_water _ S F A hSM _ _ _ _ (inX _) (inX _) (inX _) (inX _))) (sM_100 hSM) rfl rfl rfl ⟨rfl, rfl, by decide, by decide⟩ ⟨(by show (k + 1) + 0 ≤ 601024; omega), (by show (n + 6) + 0 ≤ 7293034; omega)⟩ (fun _ => Nat.le_of_ble_eq_true rfl) (fun v hv => by cases hv) (fun v hv => by simp only [List.mem_cons, List.not_mem_nil, or_false, Option.some.injEq, reduceCtorEq, false_or] at hv; rcases hv with rfl | rfl | rfl | rfl | rfl | rfl <;> first | exact (lS (sC_0 hSC)) | exact (lS (sM_100 hSM)) | exact (lS h90) | exact trivial) dL_law_293 (fun v_293 S_293 F_293 A_293 hP_293 => ?_)
    obtain ⟨rfl, rfl, t9, rfl, hm⟩ := hP_293
    obtain ⟨rfl, rfl⟩ : t9 = 2 ∧ A = A_293 := by rcases hm with h | h | h; exact absurd hq1 h.2.1; exact ⟨h.1, h.2.2.2⟩; exact absurd h.2.2.1 hq
    have ht9 : (upF F 100 0 2) 100 0 = 2 := rfl
    have hI9 := hI.to (F' := upF F 100 0 2) (A' := A) (fun i z => upF_o (by omega)) (fun k z => upF_ne (by omega)) (fun _ _ => rfl)
    show ab_J E 7 (k + 1) (n + 6) S (upF F 100 0 2) A 296 [some (aX (.ref b)), some (aR 0), some (aR 100), some (aR 90), some (aI i), some (aI 2), none] []
    refine j_aload_n C dL_law_296 rfl rfl ?_
    refine j_callV C (vs := []) (st := []) cl_L_82 im_yX10_thrown se_yX10_thrown (fun _ => (m_thrown _ S (upF F 100 0 2) A hSM)) (sM_100 hSM) rfl rfl rfl ⟨rfl, rfl, by decide, by decide⟩ ⟨(by show (k + 1) + 0 ≤ 601024; omega), (by show (n + 6) + 0 ≤ 7293034; omega)⟩ (fun _ => Nat.le_of_ble_eq_true rfl) (fun v hv => by cases hv) (fun v hv => by simp only [List.mem_cons, List.not_mem_nil, or_false, Option.some.injEq, reduceCtorEq, false_or] at hv; rcases hv with rfl | rfl | rfl | rfl | rfl | rfl <;> first | exact (lS (sC_0 hSC)) | exact (lS (sM_100 hSM)) | exact (lS h90) | exact trivial) dL_law_297 (fun v_297 S_297 F_297 A_297 hP_297 => ?_)
    obtain ⟨rfl, rfl, rfl, rfl⟩ := hP_297
    rw [ht9]
    show ab_J E 7 (k + 1) (n + 6) S (upF F 100 0 2) A 300 [some (aX (.ref b)), some (aR 0), some (aR 100), some (aR 90), some (aI i), some (aI 2), none] [aI 2]
    refine j_iload C dL_law_300 rfl ?_
    refine j_icmp_eq C (tgt := 307) dL_law_302 (by decide) ⟨by omega, by omega⟩ ⟨by omega, by omega⟩ (fun c302 => ?_) (fun c302 => ?_)
    · refine j_goto C (tgt := 1175) dL_law_307 (by decide) ?_
      refine j_lv (lv' := [some (aX (.ref b)), some (aR 0), some (aR 100), some (aR 90), some (aI i), none, none]) ?_ ⟨rfl, rfl, rfl, rfl, rfl, trivial⟩
      exact j_widen (by omega) (by omega) (go _ _ _ _ _ hI9)
    · exact absurd c302 (by decide)
  · refine j_callSH C (vs := [aR 0, aI ((xs (i + 1).toNat).toInt), aI ((xs (i + 2).toNat).toInt), aI ((xs (i + 3).toNat).toInt), aI ((xs (i + 4).toNat).toInt)]) (st := []) clh_water (ab_t3 (List.mem_of_getElem? (i := 12) rfl) rfl) (fun _ => (h_water_ok _ S F A (sC_0 hSC) _ _ _ _ _ (fun _ => c_water _ S F A hSC _ _ _ _ hq1 hq2) (fun v S' F' A' h => h.2.2.1))) rfl ⟨rfl, rfl, by decide, by decide⟩ ⟨(by show k + 0 ≤ 601024; omega), (by show n + 0 ≤ 7293034; omega)⟩ (fun _ => Nat.le_of_ble_eq_true rfl) (fun v hv => by cases hv) (fun v hv => by simp only [List.mem_cons, List.not_mem_nil, or_false, Option.some.injEq, reduceCtorEq, false_or] at hv; rcases hv with rfl | rfl | rfl | rfl | rfl <;> first | exact (lS (sC_0 hSC)) | exact (lS (sM_100 hSM)) | exact (lS h90) | exact trivial) dL_law_263 (fun v_263 S_263 F_263 A_263 hP_263 => ?_)
    obtain ⟨rfl, rfl, rfl, -, rfl⟩ := hP_263
    show ab_J E 7 k n S F (upA (upA (upA A 12 ((xs (i + 1).toNat).toInt) ((xs (i + 2).toNat).toInt)) 13 ((xs (i + 1).toNat).toInt) ((xs (i + 3).toNat).toInt)) 14 ((xs (i + 1).toNat).toInt) ((xs (i + 4).toNat).toInt)) 266 [some (aX (.ref b)), some (aR 0), some (aR 100), some (aR 90), some (aI i), none, none] [aI 0]
    refine j_istore C (lv' := [some (aX (.ref b)), some (aR 0), some (aR 100), some (aR 90), some (aI i), some (aI 0), none]) dL_law_266 (by decide) rfl ?_
    refine j_aload_n C dL_law_268 rfl rfl ?_
    refine j_xload_n C dL_law_269 rfl rfl ?_
    refine j_iload C dL_law_270 rfl ?_
    refine j_iconst C dL_law_272 ?_
    refine j_iadd C dL_law_273 ?_
    refine j_sld C hX (j := i + 1) (by omega) (by omega) (by omega) dL_law_274 ?_
    refine j_xload_n C dL_law_275 rfl rfl ?_
    refine j_iload C dL_law_276 rfl ?_
    refine j_iconst C dL_law_278 ?_
    refine j_iadd C dL_law_279 ?_
    refine j_sld C hX (j := i + 2) (by omega) (by omega) (by omega) dL_law_280 ?_
    refine j_xload_n C dL_law_281 rfl rfl ?_
    refine j_iload C dL_law_282 rfl ?_
    refine j_iconst C dL_law_284 ?_
    refine j_iadd C dL_law_285 ?_
    refine j_sld C hX (j := i + 3) (by omega) (by omega) (by omega) dL_law_286 ?_
    refine j_xload_n C dL_law_287 rfl rfl ?_
    refine j_iload C dL_law_288 rfl ?_
    refine j_iconst C dL_law_290 ?_
    refine j_iadd C dL_law_291 ?_
    refine j_sld C hX (j := i + 4) (by omega) (by omega) (by omega) dL_law_292 ?_
    refine j_callV C (vs := [aI ((xs (i + 1).toNat).toInt), aI ((xs (i + 2).toNat).toInt), aI ((xs (i + 3).toNat).toInt), aI ((xs (i + 4).toNat).toInt)]) (st := []) cl_L_81 im_yX10_water se_yX10_water (fun _ => (m_water _ S F (upA (upA (upA A 12 ((xs (i + 1).toNat).toInt) ((xs (i + 2).toNat).toInt)) 13 ((xs (i + 1).toNat).toInt) ((xs (i + 3).toNat).toInt)) 14 ((xs (i + 1).toNat).toInt) ((xs (i + 4).toNat).toInt)) hSM _ _ _ _ (inX _) (inX _) (inX _) (inX _))) (sM_100 hSM) rfl rfl rfl ⟨rfl, rfl, by decide, by decide⟩ ⟨(by show k + 0 ≤ 601024; omega), (by show n + 0 ≤ 7293034; omega)⟩ (fun _ => Nat.le_of_ble_eq_true rfl) (fun v hv => by cases hv) (fun v hv => by simp only [List.mem_cons, List.not_mem_nil, or_false, Option.some.injEq, reduceCtorEq, false_or] at hv; rcases hv with rfl | rfl | rfl | rfl | rfl | rfl <;> first | exact (lS (sC_0 hSC)) | exact (lS (sM_100 hSM)) | exact (lS h90) | exact trivial) dL_law_293 (fun v_293 S_293 F_293 A_293 hP_293 => ?_)
    obtain ⟨rfl, rfl, t9, rfl, hm⟩ := hP_293
    obtain ⟨rfl, hm2⟩ : t9 = 0 ∧ A_293 = upA (upA (upA (upA (upA (upA A 12 ((xs (i + 1).toNat).toInt) ((xs (i + 2).toNat).toInt)) 13 ((xs (i + 1).toNat).toInt) ((xs (i + 3).toNat).toInt)) 14 ((xs (i + 1).toNat).toInt) ((xs (i + 4).toNat).toInt)) 102 ((xs (i + 1).toNat).toInt) ((xs (i + 2).toNat).toInt)) 103 ((xs (i + 1).toNat).toInt) ((xs (i + 3).toNat).toInt)) 104 ((xs (i + 1).toNat).toInt) ((xs (i + 4).toNat).toInt) := by rcases hm with h | h | h; exact absurd hq1 h.2.1; exact absurd hq2 h.2.2.1; exact ⟨h.1, h.2.2.2⟩
    have ht9 : (upF F 100 0 0) 100 0 = 0 := rfl
    have hI9 := L_water hI hq1 hq2 rfl rfl hm2
    show ab_J E 7 k n S (upF F 100 0 0) A_293 296 [some (aX (.ref b)), some (aR 0), some (aR 100), some (aR 90), some (aI i), some (aI 0), none] []
    refine j_aload_n C dL_law_296 rfl rfl ?_
    refine j_callV C (vs := []) (st := []) cl_L_82 im_yX10_thrown se_yX10_thrown (fun _ => (m_thrown _ S (upF F 100 0 0) A_293 hSM)) (sM_100 hSM) rfl rfl rfl ⟨rfl, rfl, by decide, by decide⟩ ⟨(by show k + 0 ≤ 601024; omega), (by show n + 0 ≤ 7293034; omega)⟩ (fun _ => Nat.le_of_ble_eq_true rfl) (fun v hv => by cases hv) (fun v hv => by simp only [List.mem_cons, List.not_mem_nil, or_false, Option.some.injEq, reduceCtorEq, false_or] at hv; rcases hv with rfl | rfl | rfl | rfl | rfl | rfl <;> first | exact (lS (sC_0 hSC)) | exact (lS (sM_100 hSM)) | exact (lS h90) | exact trivial) dL_law_297 (fun v_297 S_297 F_297 A_297 hP_297 => ?_)
    obtain ⟨rfl, rfl, rfl, rfl⟩ := hP_297
    rw [ht9]
    show ab_J E 7 k n S (upF F 100 0 0) A_293 300 [some (aX (.ref b)), some (aR 0), some (aR 100), some (aR 90), some (aI i), some (aI 0), none] [aI 0]
    refine j_iload C dL_law_300 rfl ?_
    refine j_icmp_eq C (tgt := 307) dL_law_302 (by decide) ⟨by omega, by omega⟩ ⟨by omega, by omega⟩ (fun c302 => ?_) (fun c302 => ?_)
    · refine j_goto C (tgt := 1175) dL_law_307 (by decide) ?_
      refine j_lv (lv' := [some (aX (.ref b)), some (aR 0), some (aR 100), some (aR 90), some (aI i), none, none]) ?_ ⟨rfl, rfl, rfl, rfl, rfl, trivial⟩
      exact j_widen (by omega) (by omega) (go _ _ _ _ _ hI9)
    · exact absurd c302 (by decide)

set_option maxHeartbeats 4000000 in
set_option maxRecDepth 100000 in
theorem lc_3 {E : ab_E} (C : ab_C E cL_law 7 yL_law room_1) {b L : Nat} {xs : Nat → Int32} (hX : ab_X E b L xs) (hL : L ≤ 3072) {k n : Nat} (hk : k + 5 ≤ 601024) (hn : n + 345 ≤ 7293034) {S : ab_St} {F : ab_Fn} {A : ab_An} {U : Int → bst} {nc : Nat → Nat} {T : Int} (hT : 0 ≤ T ∧ T ≤ 512) (hI : LI S F A U nc T) {i : Int} (hi : 0 ≤ i ∧ i + 6 ≤ L)
    (go : ∀ S2 F2 A2 U2 nc2, LI S2 F2 A2 U2 nc2 (T + 1) → ab_J E 7 (k + 5) (n + 345) S2 F2 A2 1175 [some (aX (.ref b)), some (aR 0), some (aR 100), some (aR 90), some (aI i), none, none] []) : ab_J E 7 k n S F A 310 [some (aX (.ref b)), some (aR 0), some (aR 100), some (aR 90), some (aI i), none, none] [] := by
  obtain ⟨⟨hSC, hSM, h90⟩, hLB, hLW, hLT, hLS, hLF⟩ := id hI
  have hb := hLB.2.1
  have hb3 := hLB.2.2.1
  have hw9 := hLW.2.1
  have hw3 := hLW.2.2.1
  have ht := hLT.2.1
  have ht3 := hLT.1
  refine j_aload_n C dL_law_310 rfl rfl ?_
  refine j_xload_n C dL_law_311 rfl rfl ?_
  refine j_iload C dL_law_312 rfl ?_
  refine j_iconst C dL_law_314 ?_
  refine j_iadd C dL_law_315 ?_
  refine j_sld C hX (j := i + 1) (by omega) (by omega) (by omega) dL_law_316 ?_
  refine j_xload_n C dL_law_317 rfl rfl ?_
  refine j_iload C dL_law_318 rfl ?_
  refine j_iconst C dL_law_320 ?_
  refine j_iadd C dL_law_321 ?_
  refine j_sld C hX (j := i + 2) (by omega) (by omega) (by omega) dL_law_322 ?_
  refine j_if_eq C (tgt := 330) dL_law_323 (by decide) (inX _) (fun c323 => ?_) (fun c323 => ?_)
  · refine j_iconst C dL_law_330 ?_
    rcases (show (¬ (0 ≤ ((xs (i + 1).toNat).toInt) ∧ ((xs (i + 1).toNat).toInt) ≤ 279)) ∨ ((0 ≤ ((xs (i + 1).toNat).toInt) ∧ ((xs (i + 1).toNat).toInt) ≤ 279) ∧ ¬ (¬ ((0 : Int) = 1 ∧ exB (fun bb => 0 < A (220 + bb.toNat) ((xs (i + 1).toNat).toInt)) (F 2 2)))) ∨ ((0 ≤ ((xs (i + 1).toNat).toInt) ∧ ((xs (i + 1).toNat).toInt) ≤ 279) ∧ (¬ ((0 : Int) = 1 ∧ exB (fun bb => 0 < A (220 + bb.toNat) ((xs (i + 1).toNat).toInt)) (F 2 2)))) by by_cases q0 : (0 ≤ ((xs (i + 1).toNat).toInt) ∧ ((xs (i + 1).toNat).toInt) ≤ 279); (by_cases q1 : (¬ ((0 : Int) = 1 ∧ exB (fun bb => 0 < A (220 + bb.toNat) ((xs (i + 1).toNat).toInt)) (F 2 2))); (exact Or.inr (Or.inr (⟨q0, q1⟩))); exact Or.inr (Or.inl ⟨q0, q1⟩)); exact Or.inl q0) with hq | ⟨hq1, hq⟩ | ⟨hq1, hq2⟩
    · refine j_callSH C (vs := [aR 0, aI ((xs (i + 1).toNat).toInt), aI 0]) (st := []) clh_land (ab_t3 (List.mem_of_getElem? (i := 113) rfl) rfl) (fun _ => (h_land_IOB _ S F A (sC_0 hSC) _ _ _ (fun _ => x_land1 _ S F A hSC _ _ (inX _) hq))) rfl ⟨rfl, rfl, by decide, by decide⟩ ⟨(by show k + 1 ≤ 601024; omega), (by show n + 6 ≤ 7293034; omega)⟩ (fun _ => Nat.le_of_ble_eq_true rfl) (fun v hv => by cases hv) (fun v hv => by simp only [List.mem_cons, List.not_mem_nil, or_false, Option.some.injEq, reduceCtorEq, false_or] at hv; rcases hv with rfl | rfl | rfl | rfl | rfl <;> first | exact (lS (sC_0 hSC)) | exact (lS (sM_100 hSM)) | exact (lS h90) | exact trivial) dL_law_331 (fun v_331 S_331 F_331 A_331 hP_331 => ?_)
      obtain ⟨rfl, rfl, rfl, rfl⟩ := hP_331
      show ab_J E 7 (k + 1) (n + 6) S F A 334 [some (aX (.ref b)), some (aR 0), some (aR 100), some (aR 90), some (aI i), none, none] [aI 1]
      refine j_istore C (lv' := [some (aX (.ref b)), some (aR 0), some (aR 100), some (aR 90), some (aI i), some (aI 1), none]) dL_law_334 (by decide) rfl ?_
      refine j_aload_n C dL_law_336 rfl rfl ?_
      refine j_xload_n C dL_law_337 rfl rfl ?_
      refine j_iload C dL_law_338 rfl ?_
      refine j_iconst C dL_law_340 ?_
      refine j_iadd C dL_law_341 ?_
      refine j_sld C hX (j := i + 1) (by omega) (by omega) (by omega) dL_law_342 ?_
      refine j_xload_n C dL_law_343 rfl rfl ?_
      refine j_iload C dL_law_344 rfl ?_
      refine j_iconst C dL_law_346 ?_
      refine j_iadd C dL_law_347 ?_
      refine j_sld C hX (j := i + 2) (by omega) (by omega) (by omega) dL_law_348 ?_
      refine j_if_eq C (tgt := 356) dL_law_349 (by decide) (inX _) (fun c349 => ?_) (fun c349 => ?_)
      · refine j_iconst C dL_law_356 ?_
        refine j_callV C (vs := [aI ((xs (i + 1).toNat).toInt), aI 0]) (st := []) cl_L_88 im_yX10_land se_yX10_land (fun _ => (m_land _ S F A hSM _ _ (inX _) (Or.inl rfl) (by show 0 ≤ F 100 11 ∧ F 100 11 ≤ 10; rw [hb3]; exact hb) (fun q b z1 z2 => by have := hI.fp b _ z1 z2 q.1 (by omega); exact ⟨by show _ ≤ A 106 _; omega, by show A 106 _ < _; omega⟩))) (sM_100 hSM) rfl rfl rfl ⟨rfl, rfl, by decide, by decide⟩ ⟨(by show (k + 1) + 0 ≤ 601024; omega), (by show (n + 6) + 0 ≤ 7293034; omega)⟩ (fun _ => Nat.le_of_ble_eq_true rfl) (fun v hv => by cases hv) (fun v hv => by simp only [List.mem_cons, List.not_mem_nil, or_false, Option.some.injEq, reduceCtorEq, false_or] at hv; rcases hv with rfl | rfl | rfl | rfl | rfl | rfl <;> first | exact (lS (sC_0 hSC)) | exact (lS (sM_100 hSM)) | exact (lS h90) | exact trivial) dL_law_357 (fun v_357 S_357 F_357 A_357 hP_357 => ?_)
        obtain ⟨rfl, rfl, t9, rfl, hm⟩ := hP_357
        obtain ⟨rfl, rfl⟩ : t9 = 1 ∧ A = A_357 := by rcases hm with h | h | h; exact ⟨h.1, h.2.2⟩; exact absurd h.2.1 hq; exact absurd h.2.1 hq
        have ht9 : (upF F 100 0 1) 100 0 = 1 := rfl
        have hI9 := hI.to (F' := upF F 100 0 1) (A' := A) (fun i z => upF_o (by omega)) (fun k z => upF_ne (by omega)) (fun _ _ => rfl)
        show ab_J E 7 (k + 1) (n + 6) S (upF F 100 0 1) A 360 [some (aX (.ref b)), some (aR 0), some (aR 100), some (aR 90), some (aI i), some (aI 1), none] []
        refine j_aload_n C dL_law_360 rfl rfl ?_
        refine j_callV C (vs := []) (st := []) cl_L_82 im_yX10_thrown se_yX10_thrown (fun _ => (m_thrown _ S (upF F 100 0 1) A hSM)) (sM_100 hSM) rfl rfl rfl ⟨rfl, rfl, by decide, by decide⟩ ⟨(by show (k + 1) + 0 ≤ 601024; omega), (by show (n + 6) + 0 ≤ 7293034; omega)⟩ (fun _ => Nat.le_of_ble_eq_true rfl) (fun v hv => by cases hv) (fun v hv => by simp only [List.mem_cons, List.not_mem_nil, or_false, Option.some.injEq, reduceCtorEq, false_or] at hv; rcases hv with rfl | rfl | rfl | rfl | rfl | rfl <;> first | exact (lS (sC_0 hSC)) | exact (lS (sM_100 hSM)) | exact (lS h90) | exact trivial) dL_law_361 (fun v_361 S_361 F_361 A_361 hP_361 => ?_)
        obtain ⟨rfl, rfl, rfl, rfl⟩ := hP_361
        rw [ht9]
        show ab_J E 7 (k + 1) (n + 6) S (upF F 100 0 1) A 364 [some (aX (.ref b)), some (aR 0), some (aR 100), some (aR 90), some (aI i), some (aI 1), none] [aI 1]
        refine j_iload C dL_law_364 rfl ?_
        refine j_icmp_eq C (tgt := 371) dL_law_366 (by decide) ⟨by omega, by omega⟩ ⟨by omega, by omega⟩ (fun c366 => ?_) (fun c366 => ?_)
        · refine j_goto C (tgt := 1175) dL_law_371 (by decide) ?_
          refine j_lv (lv' := [some (aX (.ref b)), some (aR 0), some (aR 100), some (aR 90), some (aI i), none, none]) ?_ ⟨rfl, rfl, rfl, rfl, rfl, trivial⟩
          exact j_widen (by omega) (by omega) (go _ _ _ _ _ hI9)
        · exact absurd c366 (by decide)
      · exact absurd c323 c349
    · refine j_callSH C (vs := [aR 0, aI ((xs (i + 1).toNat).toInt), aI 0]) (st := []) clh_land (ab_t3 (List.mem_of_getElem? (i := 113) rfl) rfl) (fun _ => (h_land_ISE _ S F A (sC_0 hSC) _ _ _ (fun _ => x_land2 _ S F A hSC _ _ hq1 (Or.inl rfl) hLB.1 hb (fun b z1 z2 => by have := hI.hp b _ z1 z2 hq1.1 (by omega); exact ⟨by omega, by omega⟩) (Classical.not_not.mp hq)))) rfl ⟨rfl, rfl, by decide, by decide⟩ ⟨(by show k + 1 ≤ 601024; omega), (by show n + 6 ≤ 7293034; omega)⟩ (fun _ => Nat.le_of_ble_eq_true rfl) (fun v hv => by cases hv) (fun v hv => by simp only [List.mem_cons, List.not_mem_nil, or_false, Option.some.injEq, reduceCtorEq, false_or] at hv; rcases hv with rfl | rfl | rfl | rfl | rfl <;> first | exact (lS (sC_0 hSC)) | exact (lS (sM_100 hSM)) | exact (lS h90) | exact trivial) dL_law_331 (fun v_331 S_331 F_331 A_331 hP_331 => ?_)
      obtain ⟨rfl, rfl, rfl, rfl⟩ := hP_331
      show ab_J E 7 (k + 1) (n + 6) S F A 334 [some (aX (.ref b)), some (aR 0), some (aR 100), some (aR 90), some (aI i), none, none] [aI 2]
      refine j_istore C (lv' := [some (aX (.ref b)), some (aR 0), some (aR 100), some (aR 90), some (aI i), some (aI 2), none]) dL_law_334 (by decide) rfl ?_
      refine j_aload_n C dL_law_336 rfl rfl ?_
      refine j_xload_n C dL_law_337 rfl rfl ?_
      refine j_iload C dL_law_338 rfl ?_
      refine j_iconst C dL_law_340 ?_
      refine j_iadd C dL_law_341 ?_
      refine j_sld C hX (j := i + 1) (by omega) (by omega) (by omega) dL_law_342 ?_
      refine j_xload_n C dL_law_343 rfl rfl ?_
      refine j_iload C dL_law_344 rfl ?_
      refine j_iconst C dL_law_346 ?_
      refine j_iadd C dL_law_347 ?_
      refine j_sld C hX (j := i + 2) (by omega) (by omega) (by omega) dL_law_348 ?_
      refine j_if_eq C (tgt := 356) dL_law_349 (by decide) (inX _) (fun c349 => ?_) (fun c349 => ?_)
      · refine j_iconst C dL_law_356 ?_
        refine j_callV C (vs := [aI ((xs (i + 1).toNat).toInt), aI 0]) (st := []) cl_L_88 im_yX10_land se_yX10_land (fun _ => (m_land _ S F A hSM _ _ (inX _) (Or.inl rfl) (by show 0 ≤ F 100 11 ∧ F 100 11 ≤ 10; rw [hb3]; exact hb) (fun q b z1 z2 => by have := hI.fp b _ z1 z2 q.1 (by omega); exact ⟨by show _ ≤ A 106 _; omega, by show A 106 _ < _; omega⟩))) (sM_100 hSM) rfl rfl rfl ⟨rfl, rfl, by decide, by decide⟩ ⟨(by show (k + 1) + 0 ≤ 601024; omega), (by show (n + 6) + 0 ≤ 7293034; omega)⟩ (fun _ => Nat.le_of_ble_eq_true rfl) (fun v hv => by cases hv) (fun v hv => by simp only [List.mem_cons, List.not_mem_nil, or_false, Option.some.injEq, reduceCtorEq, false_or] at hv; rcases hv with rfl | rfl | rfl | rfl | rfl | rfl <;> first | exact (lS (sC_0 hSC)) | exact (lS (sM_100 hSM)) | exact (lS h90) | exact trivial) dL_law_357 (fun v_357 S_357 F_357 A_357 hP_357 => ?_)
        obtain ⟨rfl, rfl, t9, rfl, hm⟩ := hP_357
        obtain ⟨rfl, rfl⟩ : t9 = 2 ∧ A = A_357 := by rcases hm with h | h | h; exact absurd hq1 h.2.1; exact ⟨h.1, h.2.2.2⟩; exact absurd ((fun h => ⟨h.1, (hI.ex hq1).mpr h.2⟩) (Classical.not_not.mp hq)) h.2.2.1
        have ht9 : (upF F 100 0 2) 100 0 = 2 := rfl
        have hI9 := hI.to (F' := upF F 100 0 2) (A' := A) (fun i z => upF_o (by omega)) (fun k z => upF_ne (by omega)) (fun _ _ => rfl)
        show ab_J E 7 (k + 1) (n + 6) S (upF F 100 0 2) A 360 [some (aX (.ref b)), some (aR 0), some (aR 100), some (aR 90), some (aI i), some (aI 2), none] []
        refine j_aload_n C dL_law_360 rfl rfl ?_
        refine j_callV C (vs := []) (st := []) cl_L_82 im_yX10_thrown se_yX10_thrown (fun _ => (m_thrown _ S (upF F 100 0 2) A hSM)) (sM_100 hSM) rfl rfl rfl ⟨rfl, rfl, by decide, by decide⟩ ⟨(by show (k + 1) + 0 ≤ 601024; omega), (by show (n + 6) + 0 ≤ 7293034; omega)⟩ (fun _ => Nat.le_of_ble_eq_true rfl) (fun v hv => by cases hv) (fun v hv => by simp only [List.mem_cons, List.not_mem_nil, or_false, Option.some.injEq, reduceCtorEq, false_or] at hv; rcases hv with rfl | rfl | rfl | rfl | rfl | rfl <;> first | exact (lS (sC_0 hSC)) | exact (lS (sM_100 hSM)) | exact (lS h90) | exact trivial) dL_law_361 (fun v_361 S_361 F_361 A_361 hP_361 => ?_)
        obtain ⟨rfl, rfl, rfl, rfl⟩ := hP_361
        rw [ht9]
        show ab_J E 7 (k + 1) (n + 6) S (upF F 100 0 2) A 364 [some (aX (.ref b)), some (aR 0), some (aR 100), some (aR 90), some (aI i), some (aI 2), none] [aI 2]
        refine j_iload C dL_law_364 rfl ?_
        refine j_icmp_eq C (tgt := 371) dL_law_366 (by decide) ⟨by omega, by omega⟩ ⟨by omega, by omega⟩ (fun c366 => ?_) (fun c366 => ?_)
        · refine j_goto C (tgt := 1175) dL_law_371 (by decide) ?_
          refine j_lv (lv' := [some (aX (.ref b)), some (aR 0), some (aR 100), some (aR 90), some (aI i), none, none]) ?_ ⟨rfl, rfl, rfl, rfl, rfl, trivial⟩
          exact j_widen (by omega) (by omega) (go _ _ _ _ _ hI9)
        · exact absurd c366 (by decide)
      · exact absurd c323 c349
    · refine j_callSH C (vs := [aR 0, aI ((xs (i + 1).toNat).toInt), aI 0]) (st := []) clh_land (ab_t3 (List.mem_of_getElem? (i := 113) rfl) rfl) (fun _ => (h_land_ok _ S F A (sC_0 hSC) _ _ _ (fun _ => c_land _ S F A hSC _ _ hq1 (Or.inl rfl) hLB.1 hb (fun b z1 z2 => by have := hI.hp b _ z1 z2 hq1.1 (by omega); exact ⟨by omega, by omega⟩) hq2) (fun v S' F' A' h => h.2.2.1))) rfl ⟨rfl, rfl, by decide, by decide⟩ ⟨(by show k + 0 ≤ 601024; omega), (by show n + 0 ≤ 7293034; omega)⟩ (fun _ => Nat.le_of_ble_eq_true rfl) (fun v hv => by cases hv) (fun v hv => by simp only [List.mem_cons, List.not_mem_nil, or_false, Option.some.injEq, reduceCtorEq, false_or] at hv; rcases hv with rfl | rfl | rfl | rfl | rfl <;> first | exact (lS (sC_0 hSC)) | exact (lS (sM_100 hSM)) | exact (lS h90) | exact trivial) dL_law_331 (fun v_331 S_331 F_331 A_331 hP_331 => ?_)
      obtain ⟨rfl, rfl, rfl, -, rfl⟩ := hP_331
      show ab_J E 7 k n S F (upA A 11 ((xs (i + 1).toNat).toInt) 0) 334 [some (aX (.ref b)), some (aR 0), some (aR 100), some (aR 90), some (aI i), none, none] [aI 0]
      refine j_istore C (lv' := [some (aX (.ref b)), some (aR 0), some (aR 100), some (aR 90), some (aI i), some (aI 0), none]) dL_law_334 (by decide) rfl ?_
      refine j_aload_n C dL_law_336 rfl rfl ?_
      refine j_xload_n C dL_law_337 rfl rfl ?_
      refine j_iload C dL_law_338 rfl ?_
      refine j_iconst C dL_law_340 ?_
      refine j_iadd C dL_law_341 ?_
      refine j_sld C hX (j := i + 1) (by omega) (by omega) (by omega) dL_law_342 ?_
      refine j_xload_n C dL_law_343 rfl rfl ?_
      refine j_iload C dL_law_344 rfl ?_
      refine j_iconst C dL_law_346 ?_
      refine j_iadd C dL_law_347 ?_
      refine j_sld C hX (j := i + 2) (by omega) (by omega) (by omega) dL_law_348 ?_
      refine j_if_eq C (tgt := 356) dL_law_349 (by decide) (inX _) (fun c349 => ?_) (fun c349 => ?_)
      · refine j_iconst C dL_law_356 ?_
        refine j_callV C (vs := [aI ((xs (i + 1).toNat).toInt), aI 0]) (st := []) cl_L_88 im_yX10_land se_yX10_land (fun _ => (m_land _ S F (upA A 11 ((xs (i + 1).toNat).toInt) 0) hSM _ _ (inX _) (Or.inl rfl) (by show 0 ≤ F 100 11 ∧ F 100 11 ≤ 10; rw [hb3]; exact hb) (fun q b z1 z2 => by have := hI.fp b _ z1 z2 q.1 (by omega); exact ⟨by show _ ≤ A 106 _; omega, by show A 106 _ < _; omega⟩))) (sM_100 hSM) rfl rfl rfl ⟨rfl, rfl, by decide, by decide⟩ ⟨(by show k + 0 ≤ 601024; omega), (by show n + 0 ≤ 7293034; omega)⟩ (fun _ => Nat.le_of_ble_eq_true rfl) (fun v hv => by cases hv) (fun v hv => by simp only [List.mem_cons, List.not_mem_nil, or_false, Option.some.injEq, reduceCtorEq, false_or] at hv; rcases hv with rfl | rfl | rfl | rfl | rfl | rfl <;> first | exact (lS (sC_0 hSC)) | exact (lS (sM_100 hSM)) | exact (lS h90) | exact trivial) dL_law_357 (fun v_357 S_357 F_357 A_357 hP_357 => ?_)
        obtain ⟨rfl, rfl, t9, rfl, hm⟩ := hP_357
        obtain ⟨rfl, hm2⟩ : t9 = 0 ∧ A_357 = upA (upA A 11 ((xs (i + 1).toNat).toInt) 0) 101 ((xs (i + 1).toNat).toInt) 0 := by rcases hm with h | h | h; exact absurd hq1 h.2.1; exact absurd ((fun h => ⟨h.1, (hI.ex hq1).mp h.2⟩) h.2.2.1) hq2; exact ⟨h.1, h.2.2.2⟩
        have ht9 : (upF F 100 0 0) 100 0 = 0 := rfl
        have hI9 := L_land hI (Or.inl rfl) rfl rfl hm2
        show ab_J E 7 k n S (upF F 100 0 0) A_357 360 [some (aX (.ref b)), some (aR 0), some (aR 100), some (aR 90), some (aI i), some (aI 0), none] []
        refine j_aload_n C dL_law_360 rfl rfl ?_
        refine j_callV C (vs := []) (st := []) cl_L_82 im_yX10_thrown se_yX10_thrown (fun _ => (m_thrown _ S (upF F 100 0 0) A_357 hSM)) (sM_100 hSM) rfl rfl rfl ⟨rfl, rfl, by decide, by decide⟩ ⟨(by show k + 0 ≤ 601024; omega), (by show n + 0 ≤ 7293034; omega)⟩ (fun _ => Nat.le_of_ble_eq_true rfl) (fun v hv => by cases hv) (fun v hv => by simp only [List.mem_cons, List.not_mem_nil, or_false, Option.some.injEq, reduceCtorEq, false_or] at hv; rcases hv with rfl | rfl | rfl | rfl | rfl | rfl <;> first | exact (lS (sC_0 hSC)) | exact (lS (sM_100 hSM)) | exact (lS h90) | exact trivial) dL_law_361 (fun v_361 S_361 F_361 A_361 hP_361 => ?_)
        obtain ⟨rfl, rfl, rfl, rfl⟩ := hP_361
        rw [ht9]
        show ab_J E 7 k n S (upF F 100 0 0) A_357 364 [some (aX (.ref b)), some (aR 0), some (aR 100), some (aR 90), some (aI i), some (aI 0), none] [aI 0]
        refine j_iload C dL_law_364 rfl ?_
        refine j_icmp_eq C (tgt := 371) dL_law_366 (by decide) ⟨by omega, by omega⟩ ⟨by omega, by omega⟩ (fun c366 => ?_) (fun c366 => ?_)
        · refine j_goto C (tgt := 1175) dL_law_371 (by decide) ?_
          refine j_lv (lv' := [some (aX (.ref b)), some (aR 0), some (aR 100), some (aR 90), some (aI i), none, none]) ?_ ⟨rfl, rfl, rfl, rfl, rfl, trivial⟩
          exact j_widen (by omega) (by omega) (go _ _ _ _ _ hI9)
        · exact absurd c366 (by decide)
      · exact absurd c323 c349
  · refine j_iconst C dL_law_326 ?_
    refine j_goto C (tgt := 331) dL_law_327 (by decide) ?_
    rcases (show (¬ (0 ≤ ((xs (i + 1).toNat).toInt) ∧ ((xs (i + 1).toNat).toInt) ≤ 279)) ∨ ((0 ≤ ((xs (i + 1).toNat).toInt) ∧ ((xs (i + 1).toNat).toInt) ≤ 279) ∧ ¬ (¬ ((1 : Int) = 1 ∧ exB (fun bb => 0 < A (220 + bb.toNat) ((xs (i + 1).toNat).toInt)) (F 2 2)))) ∨ ((0 ≤ ((xs (i + 1).toNat).toInt) ∧ ((xs (i + 1).toNat).toInt) ≤ 279) ∧ (¬ ((1 : Int) = 1 ∧ exB (fun bb => 0 < A (220 + bb.toNat) ((xs (i + 1).toNat).toInt)) (F 2 2)))) by by_cases q0 : (0 ≤ ((xs (i + 1).toNat).toInt) ∧ ((xs (i + 1).toNat).toInt) ≤ 279); (by_cases q1 : (¬ ((1 : Int) = 1 ∧ exB (fun bb => 0 < A (220 + bb.toNat) ((xs (i + 1).toNat).toInt)) (F 2 2))); (exact Or.inr (Or.inr (⟨q0, q1⟩))); exact Or.inr (Or.inl ⟨q0, q1⟩)); exact Or.inl q0) with hq | ⟨hq1, hq⟩ | ⟨hq1, hq2⟩
    · refine j_callSH C (vs := [aR 0, aI ((xs (i + 1).toNat).toInt), aI 1]) (st := []) clh_land (ab_t3 (List.mem_of_getElem? (i := 113) rfl) rfl) (fun _ => (h_land_IOB _ S F A (sC_0 hSC) _ _ _ (fun _ => x_land1 _ S F A hSC _ _ (inX _) hq))) rfl ⟨rfl, rfl, by decide, by decide⟩ ⟨(by show k + 1 ≤ 601024; omega), (by show n + 6 ≤ 7293034; omega)⟩ (fun _ => Nat.le_of_ble_eq_true rfl) (fun v hv => by cases hv) (fun v hv => by simp only [List.mem_cons, List.not_mem_nil, or_false, Option.some.injEq, reduceCtorEq, false_or] at hv; rcases hv with rfl | rfl | rfl | rfl | rfl <;> first | exact (lS (sC_0 hSC)) | exact (lS (sM_100 hSM)) | exact (lS h90) | exact trivial) dL_law_331 (fun v_331 S_331 F_331 A_331 hP_331 => ?_)
      obtain ⟨rfl, rfl, rfl, rfl⟩ := hP_331
      show ab_J E 7 (k + 1) (n + 6) S F A 334 [some (aX (.ref b)), some (aR 0), some (aR 100), some (aR 90), some (aI i), none, none] [aI 1]
      refine j_istore C (lv' := [some (aX (.ref b)), some (aR 0), some (aR 100), some (aR 90), some (aI i), some (aI 1), none]) dL_law_334 (by decide) rfl ?_
      refine j_aload_n C dL_law_336 rfl rfl ?_
      refine j_xload_n C dL_law_337 rfl rfl ?_
      refine j_iload C dL_law_338 rfl ?_
      refine j_iconst C dL_law_340 ?_
      refine j_iadd C dL_law_341 ?_
      refine j_sld C hX (j := i + 1) (by omega) (by omega) (by omega) dL_law_342 ?_
      refine j_xload_n C dL_law_343 rfl rfl ?_
      refine j_iload C dL_law_344 rfl ?_
      refine j_iconst C dL_law_346 ?_
      refine j_iadd C dL_law_347 ?_
      refine j_sld C hX (j := i + 2) (by omega) (by omega) (by omega) dL_law_348 ?_
      refine j_if_eq C (tgt := 356) dL_law_349 (by decide) (inX _) (fun c349 => ?_) (fun c349 => ?_)
      · exact absurd c349 c323
      · refine j_iconst C dL_law_352 ?_
        refine j_goto C (tgt := 357) dL_law_353 (by decide) ?_
        refine j_callV C (vs := [aI ((xs (i + 1).toNat).toInt), aI 1]) (st := []) cl_L_88 im_yX10_land se_yX10_land (fun _ => (m_land _ S F A hSM _ _ (inX _) (Or.inr rfl) (by show 0 ≤ F 100 11 ∧ F 100 11 ≤ 10; rw [hb3]; exact hb) (fun q b z1 z2 => by have := hI.fp b _ z1 z2 q.1 (by omega); exact ⟨by show _ ≤ A 106 _; omega, by show A 106 _ < _; omega⟩))) (sM_100 hSM) rfl rfl rfl ⟨rfl, rfl, by decide, by decide⟩ ⟨(by show (k + 1) + 0 ≤ 601024; omega), (by show (n + 6) + 0 ≤ 7293034; omega)⟩ (fun _ => Nat.le_of_ble_eq_true rfl) (fun v hv => by cases hv) (fun v hv => by simp only [List.mem_cons, List.not_mem_nil, or_false, Option.some.injEq, reduceCtorEq, false_or] at hv; rcases hv with rfl | rfl | rfl | rfl | rfl | rfl <;> first | exact (lS (sC_0 hSC)) | exact (lS (sM_100 hSM)) | exact (lS h90) | exact trivial) dL_law_357 (fun v_357 S_357 F_357 A_357 hP_357 => ?_)
        obtain ⟨rfl, rfl, t9, rfl, hm⟩ := hP_357
        obtain ⟨rfl, rfl⟩ : t9 = 1 ∧ A = A_357 := by rcases hm with h | h | h; exact ⟨h.1, h.2.2⟩; exact absurd h.2.1 hq; exact absurd h.2.1 hq
        have ht9 : (upF F 100 0 1) 100 0 = 1 := rfl
        have hI9 := hI.to (F' := upF F 100 0 1) (A' := A) (fun i z => upF_o (by omega)) (fun k z => upF_ne (by omega)) (fun _ _ => rfl)
        show ab_J E 7 (k + 1) (n + 6) S (upF F 100 0 1) A 360 [some (aX (.ref b)), some (aR 0), some (aR 100), some (aR 90), some (aI i), some (aI 1), none] []
        refine j_aload_n C dL_law_360 rfl rfl ?_
        refine j_callV C (vs := []) (st := []) cl_L_82 im_yX10_thrown se_yX10_thrown (fun _ => (m_thrown _ S (upF F 100 0 1) A hSM)) (sM_100 hSM) rfl rfl rfl ⟨rfl, rfl, by decide, by decide⟩ ⟨(by show (k + 1) + 0 ≤ 601024; omega), (by show (n + 6) + 0 ≤ 7293034; omega)⟩ (fun _ => Nat.le_of_ble_eq_true rfl) (fun v hv => by cases hv) (fun v hv => by simp only [List.mem_cons, List.not_mem_nil, or_false, Option.some.injEq, reduceCtorEq, false_or] at hv; rcases hv with rfl | rfl | rfl | rfl | rfl | rfl <;> first | exact (lS (sC_0 hSC)) | exact (lS (sM_100 hSM)) | exact (lS h90) | exact trivial) dL_law_361 (fun v_361 S_361 F_361 A_361 hP_361 => ?_)
        obtain ⟨rfl, rfl, rfl, rfl⟩ := hP_361
        rw [ht9]
        show ab_J E 7 (k + 1) (n + 6) S (upF F 100 0 1) A 364 [some (aX (.ref b)), some (aR 0), some (aR 100), some (aR 90), some (aI i), some (aI 1), none] [aI 1]
        refine j_iload C dL_law_364 rfl ?_
        refine j_icmp_eq C (tgt := 371) dL_law_366 (by decide) ⟨by omega, by omega⟩ ⟨by omega, by omega⟩ (fun c366 => ?_) (fun c366 => ?_)
        · refine j_goto C (tgt := 1175) dL_law_371 (by decide) ?_
          refine j_lv (lv' := [some (aX (.ref b)), some (aR 0), some (aR 100), some (aR 90), some (aI i), none, none]) ?_ ⟨rfl, rfl, rfl, rfl, rfl, trivial⟩
          exact j_widen (by omega) (by omega) (go _ _ _ _ _ hI9)
        · exact absurd c366 (by decide)
    · refine j_callSH C (vs := [aR 0, aI ((xs (i + 1).toNat).toInt), aI 1]) (st := []) clh_land (ab_t3 (List.mem_of_getElem? (i := 113) rfl) rfl) (fun _ => (h_land_ISE _ S F A (sC_0 hSC) _ _ _ (fun _ => x_land2 _ S F A hSC _ _ hq1 (Or.inr rfl) hLB.1 hb (fun b z1 z2 => by have := hI.hp b _ z1 z2 hq1.1 (by omega); exact ⟨by omega, by omega⟩) (Classical.not_not.mp hq)))) rfl ⟨rfl, rfl, by decide, by decide⟩ ⟨(by show k + 1 ≤ 601024; omega), (by show n + 6 ≤ 7293034; omega)⟩ (fun _ => Nat.le_of_ble_eq_true rfl) (fun v hv => by cases hv) (fun v hv => by simp only [List.mem_cons, List.not_mem_nil, or_false, Option.some.injEq, reduceCtorEq, false_or] at hv; rcases hv with rfl | rfl | rfl | rfl | rfl <;> first | exact (lS (sC_0 hSC)) | exact (lS (sM_100 hSM)) | exact (lS h90) | exact trivial) dL_law_331 (fun v_331 S_331 F_331 A_331 hP_331 => ?_)
      obtain ⟨rfl, rfl, rfl, rfl⟩ := hP_331
      show ab_J E 7 (k + 1) (n + 6) S F A 334 [some (aX (.ref b)), some (aR 0), some (aR 100), some (aR 90), some (aI i), none, none] [aI 2]
      refine j_istore C (lv' := [some (aX (.ref b)), some (aR 0), some (aR 100), some (aR 90), some (aI i), some (aI 2), none]) dL_law_334 (by decide) rfl ?_
      refine j_aload_n C dL_law_336 rfl rfl ?_
      refine j_xload_n C dL_law_337 rfl rfl ?_
      refine j_iload C dL_law_338 rfl ?_
      refine j_iconst C dL_law_340 ?_
      refine j_iadd C dL_law_341 ?_
      refine j_sld C hX (j := i + 1) (by omega) (by omega) (by omega) dL_law_342 ?_
      refine j_xload_n C dL_law_343 rfl rfl ?_
      refine j_iload C dL_law_344 rfl ?_
      refine j_iconst C dL_law_346 ?_
      refine j_iadd C dL_law_347 ?_
      refine j_sld C hX (j := i + 2) (by omega) (by omega) (by omega) dL_law_348 ?_
      refine j_if_eq C (tgt := 356) dL_law_349 (by decide) (inX _) (fun c349 => ?_) (fun c349 => ?_)
      · exact absurd c349 c323
      · refine j_iconst C dL_law_352 ?_
        refine j_goto C (tgt := 357) dL_law_353 (by decide) ?_
        refine j_callV C (vs := [aI ((xs (i + 1).toNat).toInt), aI 1]) (st := []) cl_L_88 im_yX10_land se_yX10_land (fun _ => (m_land _ S F A hSM _ _ (inX _) (Or.inr rfl) (by show 0 ≤ F 100 11 ∧ F 100 11 ≤ 10; rw [hb3]; exact hb) (fun q b z1 z2 => by have := hI.fp b _ z1 z2 q.1 (by omega); exact ⟨by show _ ≤ A 106 _; omega, by show A 106 _ < _; omega⟩))) (sM_100 hSM) rfl rfl rfl ⟨rfl, rfl, by decide, by decide⟩ ⟨(by show (k + 1) + 0 ≤ 601024; omega), (by show (n + 6) + 0 ≤ 7293034; omega)⟩ (fun _ => Nat.le_of_ble_eq_true rfl) (fun v hv => by cases hv) (fun v hv => by simp only [List.mem_cons, List.not_mem_nil, or_false, Option.some.injEq, reduceCtorEq, false_or] at hv; rcases hv with rfl | rfl | rfl | rfl | rfl | rfl <;> first | exact (lS (sC_0 hSC)) | exact (lS (sM_100 hSM)) | exact (lS h90) | exact trivial) dL_law_357 (fun v_357 S_357 F_357 A_357 hP_357 => ?_)
        obtain ⟨rfl, rfl, t9, rfl, hm⟩ := hP_357
        obtain ⟨rfl, rfl⟩ : t9 = 2 ∧ A = A_357 := by rcases hm with h | h | h; exact absurd hq1 h.2.1; exact ⟨h.1, h.2.2.2⟩; exact absurd ((fun h => ⟨h.1, (hI.ex hq1).mpr h.2⟩) (Classical.not_not.mp hq)) h.2.2.1
        have ht9 : (upF F 100 0 2) 100 0 = 2 := rfl
        have hI9 := hI.to (F' := upF F 100 0 2) (A' := A) (fun i z => upF_o (by omega)) (fun k z => upF_ne (by omega)) (fun _ _ => rfl)
        show ab_J E 7 (k + 1) (n + 6) S (upF F 100 0 2) A 360 [some (aX (.ref b)), some (aR 0), some (aR 100), some (aR 90), some (aI i), some (aI 2), none] []
        refine j_aload_n C dL_law_360 rfl rfl ?_
        refine j_callV C (vs := []) (st := []) cl_L_82 im_yX10_thrown se_yX10_thrown (fun _ => (m_thrown _ S (upF F 100 0 2) A hSM)) (sM_100 hSM) rfl rfl rfl ⟨rfl, rfl, by decide, by decide⟩ ⟨(by show (k + 1) + 0 ≤ 601024; omega), (by show (n + 6) + 0 ≤ 7293034; omega)⟩ (fun _ => Nat.le_of_ble_eq_true rfl) (fun v hv => by cases hv) (fun v hv => by simp only [List.mem_cons, List.not_mem_nil, or_false, Option.some.injEq, reduceCtorEq, false_or] at hv; rcases hv with rfl | rfl | rfl | rfl | rfl | rfl <;> first | exact (lS (sC_0 hSC)) | exact (lS (sM_100 hSM)) | exact (lS h90) | exact trivial) dL_law_361 (fun v_361 S_361 F_361 A_361 hP_361 => ?_)
        obtain ⟨rfl, rfl, rfl, rfl⟩ := hP_361
        rw [ht9]
        show ab_J E 7 (k + 1) (n + 6) S (upF F 100 0 2) A 364 [some (aX (.ref b)), some (aR 0), some (aR 100), some (aR 90), some (aI i), some (aI 2), none] [aI 2]
        refine j_iload C dL_law_364 rfl ?_
        refine j_icmp_eq C (tgt := 371) dL_law_366 (by decide) ⟨by omega, by omega⟩ ⟨by omega, by omega⟩ (fun c366 => ?_) (fun c366 => ?_)
        · refine j_goto C (tgt := 1175) dL_law_371 (by decide) ?_
          refine j_lv (lv' := [some (aX (.ref b)), some (aR 0), some (aR 100), some (aR 90), some (aI i), none, none]) ?_ ⟨rfl, rfl, rfl, rfl, rfl, trivial⟩
          exact j_widen (by omega) (by omega) (go _ _ _ _ _ hI9)
        · exact absurd c366 (by decide)
    · refine j_callSH C (vs := [aR 0, aI ((xs (i + 1).toNat).toInt), aI 1]) (st := []) clh_land (ab_t3 (List.mem_of_getElem? (i := 113) rfl) rfl) (fun _ => (h_land_ok _ S F A (sC_0 hSC) _ _ _ (fun _ => c_land _ S F A hSC _ _ hq1 (Or.inr rfl) hLB.1 hb (fun b z1 z2 => by have := hI.hp b _ z1 z2 hq1.1 (by omega); exact ⟨by omega, by omega⟩) hq2) (fun v S' F' A' h => h.2.2.1))) rfl ⟨rfl, rfl, by decide, by decide⟩ ⟨(by show k + 0 ≤ 601024; omega), (by show n + 0 ≤ 7293034; omega)⟩ (fun _ => Nat.le_of_ble_eq_true rfl) (fun v hv => by cases hv) (fun v hv => by simp only [List.mem_cons, List.not_mem_nil, or_false, Option.some.injEq, reduceCtorEq, false_or] at hv; rcases hv with rfl | rfl | rfl | rfl | rfl <;> first | exact (lS (sC_0 hSC)) | exact (lS (sM_100 hSM)) | exact (lS h90) | exact trivial) dL_law_331 (fun v_331 S_331 F_331 A_331 hP_331 => ?_)
      obtain ⟨rfl, rfl, rfl, -, rfl⟩ := hP_331
      show ab_J E 7 k n S F (upA A 11 ((xs (i + 1).toNat).toInt) 1) 334 [some (aX (.ref b)), some (aR 0), some (aR 100), some (aR 90), some (aI i), none, none] [aI 0]
      refine j_istore C (lv' := [some (aX (.ref b)), some (aR 0), some (aR 100), some (aR 90), some (aI i), some (aI 0), none]) dL_law_334 (by decide) rfl ?_
      refine j_aload_n C dL_law_336 rfl rfl ?_
      refine j_xload_n C dL_law_337 rfl rfl ?_
      refine j_iload C dL_law_338 rfl ?_
      refine j_iconst C dL_law_340 ?_
      refine j_iadd C dL_law_341 ?_
      refine j_sld C hX (j := i + 1) (by omega) (by omega) (by omega) dL_law_342 ?_
      refine j_xload_n C dL_law_343 rfl rfl ?_
      refine j_iload C dL_law_344 rfl ?_
      refine j_iconst C dL_law_346 ?_
      refine j_iadd C dL_law_347 ?_
      refine j_sld C hX (j := i + 2) (by omega) (by omega) (by omega) dL_law_348 ?_
      refine j_if_eq C (tgt := 356) dL_law_349 (by decide) (inX _) (fun c349 => ?_) (fun c349 => ?_)
      · exact absurd c349 c323
      · refine j_iconst C dL_law_352 ?_
        refine j_goto C (tgt := 357) dL_law_353 (by decide) ?_
        refine j_callV C (vs := [aI ((xs (i + 1).toNat).toInt), aI 1]) (st := []) cl_L_88 im_yX10_land se_yX10_land (fun _ => (m_land _ S F (upA A 11 ((xs (i + 1).toNat).toInt) 1) hSM _ _ (inX _) (Or.inr rfl) (by show 0 ≤ F 100 11 ∧ F 100 11 ≤ 10; rw [hb3]; exact hb) (fun q b z1 z2 => by have := hI.fp b _ z1 z2 q.1 (by omega); exact ⟨by show _ ≤ A 106 _; omega, by show A 106 _ < _; omega⟩))) (sM_100 hSM) rfl rfl rfl ⟨rfl, rfl, by decide, by decide⟩ ⟨(by show k + 0 ≤ 601024; omega), (by show n + 0 ≤ 7293034; omega)⟩ (fun _ => Nat.le_of_ble_eq_true rfl) (fun v hv => by cases hv) (fun v hv => by simp only [List.mem_cons, List.not_mem_nil, or_false, Option.some.injEq, reduceCtorEq, false_or] at hv; rcases hv with rfl | rfl | rfl | rfl | rfl | rfl <;> first | exact (lS (sC_0 hSC)) | exact (lS (sM_100 hSM)) | exact (lS h90) | exact trivial) dL_law_357 (fun v_357 S_357 F_357 A_357 hP_357 => ?_)
        obtain ⟨rfl, rfl, t9, rfl, hm⟩ := hP_357
        obtain ⟨rfl, hm2⟩ : t9 = 0 ∧ A_357 = upA (upA A 11 ((xs (i + 1).toNat).toInt) 1) 101 ((xs (i + 1).toNat).toInt) 1 := by rcases hm with h | h | h; exact absurd hq1 h.2.1; exact absurd ((fun h => ⟨h.1, (hI.ex hq1).mp h.2⟩) h.2.2.1) hq2; exact ⟨h.1, h.2.2.2⟩
        have ht9 : (upF F 100 0 0) 100 0 = 0 := rfl
        have hI9 := L_land hI (Or.inr rfl) rfl rfl hm2
        show ab_J E 7 k n S (upF F 100 0 0) A_357 360 [some (aX (.ref b)), some (aR 0), some (aR 100), some (aR 90), some (aI i), some (aI 0), none] []
        refine j_aload_n C dL_law_360 rfl rfl ?_
        refine j_callV C (vs := []) (st := []) cl_L_82 im_yX10_thrown se_yX10_thrown (fun _ => (m_thrown _ S (upF F 100 0 0) A_357 hSM)) (sM_100 hSM) rfl rfl rfl ⟨rfl, rfl, by decide, by decide⟩ ⟨(by show k + 0 ≤ 601024; omega), (by show n + 0 ≤ 7293034; omega)⟩ (fun _ => Nat.le_of_ble_eq_true rfl) (fun v hv => by cases hv) (fun v hv => by simp only [List.mem_cons, List.not_mem_nil, or_false, Option.some.injEq, reduceCtorEq, false_or] at hv; rcases hv with rfl | rfl | rfl | rfl | rfl | rfl <;> first | exact (lS (sC_0 hSC)) | exact (lS (sM_100 hSM)) | exact (lS h90) | exact trivial) dL_law_361 (fun v_361 S_361 F_361 A_361 hP_361 => ?_)
        obtain ⟨rfl, rfl, rfl, rfl⟩ := hP_361
        rw [ht9]
        show ab_J E 7 k n S (upF F 100 0 0) A_357 364 [some (aX (.ref b)), some (aR 0), some (aR 100), some (aR 90), some (aI i), some (aI 0), none] [aI 0]
        refine j_iload C dL_law_364 rfl ?_
        refine j_icmp_eq C (tgt := 371) dL_law_366 (by decide) ⟨by omega, by omega⟩ ⟨by omega, by omega⟩ (fun c366 => ?_) (fun c366 => ?_)
        · refine j_goto C (tgt := 1175) dL_law_371 (by decide) ?_
          refine j_lv (lv' := [some (aX (.ref b)), some (aR 0), some (aR 100), some (aR 90), some (aI i), none, none]) ?_ ⟨rfl, rfl, rfl, rfl, rfl, trivial⟩
          exact j_widen (by omega) (by omega) (go _ _ _ _ _ hI9)
        · exact absurd c366 (by decide)

set_option maxHeartbeats 4000000 in
set_option maxRecDepth 100000 in
theorem lc_7 {E : ab_E} (C : ab_C E cL_law 7 yL_law room_1) {b L : Nat} {xs : Nat → Int32} (hX : ab_X E b L xs) (hL : L ≤ 3072) {k n : Nat} (hk : k + 5 ≤ 601024) (hn : n + 345 ≤ 7293034) {S : ab_St} {F : ab_Fn} {A : ab_An} {U : Int → bst} {nc : Nat → Nat} {T : Int} (hT : 0 ≤ T ∧ T ≤ 512) (hI : LI S F A U nc T) {i : Int} (hi : 0 ≤ i ∧ i + 6 ≤ L)
    (go : ∀ S2 F2 A2 U2 nc2, LI S2 F2 A2 U2 nc2 (T + 1) → ab_J E 7 (k + 5) (n + 345) S2 F2 A2 1175 [some (aX (.ref b)), some (aR 0), some (aR 100), some (aR 90), some (aI i), none, none] []) : ab_J E 7 k n S F A 566 [some (aX (.ref b)), some (aR 0), some (aR 100), some (aR 90), some (aI i), none, none] [] := by
  obtain ⟨⟨hSC, hSM, h90⟩, hLB, hLW, hLT, hLS, hLF⟩ := id hI
  have hb := hLB.2.1
  have hb3 := hLB.2.2.1
  have hw9 := hLW.2.1
  have hw3 := hLW.2.2.1
  have ht := hLT.2.1
  have ht3 := hLT.1
  refine j_aload_n C dL_law_566 rfl rfl ?_
  refine j_xload_n C dL_law_567 rfl rfl ?_
  refine j_iload C dL_law_568 rfl ?_
  refine j_iconst C dL_law_570 ?_
  refine j_iadd C dL_law_571 ?_
  refine j_sld C hX (j := i + 1) (by omega) (by omega) (by omega) dL_law_572 ?_
  refine j_xload_n C dL_law_573 rfl rfl ?_
  refine j_iload C dL_law_574 rfl ?_
  refine j_iconst C dL_law_576 ?_
  refine j_iadd C dL_law_577 ?_
  refine j_sld C hX (j := i + 2) (by omega) (by omega) (by omega) dL_law_578 ?_
  refine j_aload_n C dL_law_579 rfl rfl ?_
  rcases (show (¬ (0 ≤ ((xs (i + 1).toNat).toInt) ∧ ((xs (i + 1).toNat).toInt) < F 2 2)) ∨ ((0 ≤ ((xs (i + 1).toNat).toInt) ∧ ((xs (i + 1).toNat).toInt) < F 2 2) ∧ ¬ (0 ≤ ((xs (i + 2).toNat).toInt) ∧ ((xs (i + 2).toNat).toInt) ≤ 279)) ∨ ((0 ≤ ((xs (i + 1).toNat).toInt) ∧ ((xs (i + 1).toNat).toInt) < F 2 2) ∧ (0 ≤ ((xs (i + 2).toNat).toInt) ∧ ((xs (i + 2).toNat).toInt) ≤ 279)) by by_cases q0 : (0 ≤ ((xs (i + 1).toNat).toInt) ∧ ((xs (i + 1).toNat).toInt) < F 2 2); (by_cases q1 : (0 ≤ ((xs (i + 2).toNat).toInt) ∧ ((xs (i + 2).toNat).toInt) ≤ 279); (exact Or.inr (Or.inr (⟨q0, q1⟩))); exact Or.inr (Or.inl ⟨q0, q1⟩)); exact Or.inl q0) with hq | ⟨hq1, hq⟩ | ⟨hq1, hq2⟩
  · refine j_callSH C (vs := [aR 0, aI ((xs (i + 1).toNat).toInt), aI ((xs (i + 2).toNat).toInt), aR 90]) (st := []) clh_parts (ab_t4 (List.mem_of_getElem? (i := 13) rfl) rfl) (fun _ => (h_parts_IOB _ S F A (sC_0 hSC) h90 _ _ _ (fun _ => x_parts1 _ S F A hSC hLB.1 hb _ _ (inX _) hq))) rfl ⟨rfl, rfl, by decide, by decide⟩ ⟨(by show k + 1 ≤ 601024; omega), (by show n + 6 ≤ 7293034; omega)⟩ (fun _ => Nat.le_of_ble_eq_true rfl) (fun v hv => by cases hv) (fun v hv => by simp only [List.mem_cons, List.not_mem_nil, or_false, Option.some.injEq, reduceCtorEq, false_or] at hv; rcases hv with rfl | rfl | rfl | rfl | rfl <;> first | exact (lS (sC_0 hSC)) | exact (lS (sM_100 hSM)) | exact (lS h90) | exact trivial) dL_law_580 (fun v_580 S_580 F_580 A_580 hP_580 => ?_)
    obtain ⟨rfl, rfl, rfl, rfl⟩ := hP_580
    show ab_J E 7 (k + 1) (n + 6) S F A 583 [some (aX (.ref b)), some (aR 0), some (aR 100), some (aR 90), some (aI i), none, none] [aI 1]
    refine j_istore C (lv' := [some (aX (.ref b)), some (aR 0), some (aR 100), some (aR 90), some (aI i), some (aI 1), none]) dL_law_583 (by decide) rfl ?_
    refine j_aload_n C dL_law_585 rfl rfl ?_
    refine j_xload_n C dL_law_586 rfl rfl ?_
    refine j_iload C dL_law_587 rfl ?_
    refine j_iconst C dL_law_589 ?_
    refine j_iadd C dL_law_590 ?_
    refine j_sld C hX (j := i + 1) (by omega) (by omega) (by omega) dL_law_591 ?_
    refine j_xload_n C dL_law_592 rfl rfl ?_
    refine j_iload C dL_law_593 rfl ?_
    refine j_iconst C dL_law_595 ?_
    refine j_iadd C dL_law_596 ?_
    refine j_sld C hX (j := i + 2) (by omega) (by omega) (by omega) dL_law_597 ?_
    refine j_callV C (vs := [aI ((xs (i + 1).toNat).toInt), aI ((xs (i + 2).toNat).toInt)]) (st := []) cl_L_102 im_yX10_parts se_yX10_parts (fun _ => (m_parts _ S F A hSM _ _ (inX _) (inX _) (by show 0 ≤ F 100 11 ∧ F 100 11 ≤ 10; rw [hb3]; exact hb))) (sM_100 hSM) rfl rfl rfl ⟨rfl, rfl, by decide, by decide⟩ ⟨(by show (k + 1) + 0 ≤ 601024; omega), (by show (n + 6) + 0 ≤ 7293034; omega)⟩ (fun _ => Nat.le_of_ble_eq_true rfl) (fun v hv => by cases hv) (fun v hv => by simp only [List.mem_cons, List.not_mem_nil, or_false, Option.some.injEq, reduceCtorEq, false_or] at hv; rcases hv with rfl | rfl | rfl | rfl | rfl | rfl <;> first | exact (lS (sC_0 hSC)) | exact (lS (sM_100 hSM)) | exact (lS h90) | exact trivial) dL_law_598 (fun v_598 S_598 F_598 A_598 hP_598 => ?_)
    obtain ⟨rfl, rfl, t9, r2, rfl, rfl, hm⟩ := hP_598
    obtain rfl : t9 = 1 := by rcases hm with h | h; exact h.1; exact absurd h.2.1 (by rw [hb3]; exact hq)
    have ht9 : (upF F 100 0 1) 100 0 = 1 := rfl
    have hI9 := hI.to (F' := upF F 100 0 1) (A' := A) (fun i z => upF_o (by omega)) (fun k z => upF_ne (by omega)) (fun _ _ => rfl)
    show ab_J E 7 (k + 1) (n + 6) S (upF F 100 0 1) A 601 [some (aX (.ref b)), some (aR 0), some (aR 100), some (aR 90), some (aI i), some (aI 1), none] [aI r2]
    refine j_istore C (lv' := [some (aX (.ref b)), some (aR 0), some (aR 100), some (aR 90), some (aI i), some (aI 1), some (aI r2)]) dL_law_601 (by decide) rfl ?_
    refine j_aload_n C dL_law_603 rfl rfl ?_
    refine j_callV C (vs := []) (st := []) cl_L_82 im_yX10_thrown se_yX10_thrown (fun _ => (m_thrown _ S (upF F 100 0 1) A hSM)) (sM_100 hSM) rfl rfl rfl ⟨rfl, rfl, by decide, by decide⟩ ⟨(by show (k + 1) + 0 ≤ 601024; omega), (by show (n + 6) + 0 ≤ 7293034; omega)⟩ (fun _ => Nat.le_of_ble_eq_true rfl) (fun v hv => by cases hv) (fun v hv => by simp only [List.mem_cons, List.not_mem_nil, or_false, Option.some.injEq, reduceCtorEq, false_or] at hv; rcases hv with rfl | rfl | rfl | rfl | rfl | rfl | rfl <;> first | exact (lS (sC_0 hSC)) | exact (lS (sM_100 hSM)) | exact (lS h90) | exact trivial) dL_law_604 (fun v_604 S_604 F_604 A_604 hP_604 => ?_)
    obtain ⟨rfl, rfl, rfl, rfl⟩ := hP_604
    rw [ht9]
    show ab_J E 7 (k + 1) (n + 6) S (upF F 100 0 1) A 607 [some (aX (.ref b)), some (aR 0), some (aR 100), some (aR 90), some (aI i), some (aI 1), some (aI r2)] [aI 1]
    refine j_iload C dL_law_607 rfl ?_
    refine j_icmp_eq C (tgt := 614) dL_law_609 (by decide) ⟨by omega, by omega⟩ ⟨by omega, by omega⟩ (fun c609 => ?_) (fun c609 => ?_)
    · refine j_iload C dL_law_614 rfl ?_
      refine j_if_ne C (tgt := 631) dL_law_616 (by decide) ⟨by omega, by omega⟩ (fun c616 => ?_) (fun c616 => ?_)
      · refine j_goto C (tgt := 1175) dL_law_631 (by decide) ?_
        refine j_lv (lv' := [some (aX (.ref b)), some (aR 0), some (aR 100), some (aR 90), some (aI i), none, none]) ?_ ⟨rfl, rfl, rfl, rfl, rfl, trivial⟩
        exact j_widen (by omega) (by omega) (go _ _ _ _ _ hI9)
      · exact absurd c616 (by decide)
    · exact absurd c609 (by decide)
  · refine j_callSH C (vs := [aR 0, aI ((xs (i + 1).toNat).toInt), aI ((xs (i + 2).toNat).toInt), aR 90]) (st := []) clh_parts (ab_t4 (List.mem_of_getElem? (i := 13) rfl) rfl) (fun _ => (h_parts_IOB _ S F A (sC_0 hSC) h90 _ _ _ (fun _ => x_parts2 _ S F A hSC hLB.1 hb _ _ hq1 (inX _) hq))) rfl ⟨rfl, rfl, by decide, by decide⟩ ⟨(by show k + 1 ≤ 601024; omega), (by show n + 6 ≤ 7293034; omega)⟩ (fun _ => Nat.le_of_ble_eq_true rfl) (fun v hv => by cases hv) (fun v hv => by simp only [List.mem_cons, List.not_mem_nil, or_false, Option.some.injEq, reduceCtorEq, false_or] at hv; rcases hv with rfl | rfl | rfl | rfl | rfl <;> first | exact (lS (sC_0 hSC)) | exact (lS (sM_100 hSM)) | exact (lS h90) | exact trivial) dL_law_580 (fun v_580 S_580 F_580 A_580 hP_580 => ?_)
    obtain ⟨rfl, rfl, rfl, rfl⟩ := hP_580
    show ab_J E 7 (k + 1) (n + 6) S F A 583 [some (aX (.ref b)), some (aR 0), some (aR 100), some (aR 90), some (aI i), none, none] [aI 1]
    refine j_istore C (lv' := [some (aX (.ref b)), some (aR 0), some (aR 100), some (aR 90), some (aI i), some (aI 1), none]) dL_law_583 (by decide) rfl ?_
    refine j_aload_n C dL_law_585 rfl rfl ?_
    refine j_xload_n C dL_law_586 rfl rfl ?_
    refine j_iload C dL_law_587 rfl ?_
    refine j_iconst C dL_law_589 ?_
    refine j_iadd C dL_law_590 ?_
    refine j_sld C hX (j := i + 1) (by omega) (by omega) (by omega) dL_law_591 ?_
    refine j_xload_n C dL_law_592 rfl rfl ?_
    refine j_iload C dL_law_593 rfl ?_
    refine j_iconst C dL_law_595 ?_
    refine j_iadd C dL_law_596 ?_
    refine j_sld C hX (j := i + 2) (by omega) (by omega) (by omega) dL_law_597 ?_
    refine j_callV C (vs := [aI ((xs (i + 1).toNat).toInt), aI ((xs (i + 2).toNat).toInt)]) (st := []) cl_L_102 im_yX10_parts se_yX10_parts (fun _ => (m_parts _ S F A hSM _ _ (inX _) (inX _) (by show 0 ≤ F 100 11 ∧ F 100 11 ≤ 10; rw [hb3]; exact hb))) (sM_100 hSM) rfl rfl rfl ⟨rfl, rfl, by decide, by decide⟩ ⟨(by show (k + 1) + 0 ≤ 601024; omega), (by show (n + 6) + 0 ≤ 7293034; omega)⟩ (fun _ => Nat.le_of_ble_eq_true rfl) (fun v hv => by cases hv) (fun v hv => by simp only [List.mem_cons, List.not_mem_nil, or_false, Option.some.injEq, reduceCtorEq, false_or] at hv; rcases hv with rfl | rfl | rfl | rfl | rfl | rfl <;> first | exact (lS (sC_0 hSC)) | exact (lS (sM_100 hSM)) | exact (lS h90) | exact trivial) dL_law_598 (fun v_598 S_598 F_598 A_598 hP_598 => ?_)
    obtain ⟨rfl, rfl, t9, r2, rfl, rfl, hm⟩ := hP_598
    obtain rfl : t9 = 1 := by rcases hm with h | h; exact h.1; exact absurd h.2.2.1 hq
    have ht9 : (upF F 100 0 1) 100 0 = 1 := rfl
    have hI9 := hI.to (F' := upF F 100 0 1) (A' := A) (fun i z => upF_o (by omega)) (fun k z => upF_ne (by omega)) (fun _ _ => rfl)
    show ab_J E 7 (k + 1) (n + 6) S (upF F 100 0 1) A 601 [some (aX (.ref b)), some (aR 0), some (aR 100), some (aR 90), some (aI i), some (aI 1), none] [aI r2]
    refine j_istore C (lv' := [some (aX (.ref b)), some (aR 0), some (aR 100), some (aR 90), some (aI i), some (aI 1), some (aI r2)]) dL_law_601 (by decide) rfl ?_
    refine j_aload_n C dL_law_603 rfl rfl ?_
    refine j_callV C (vs := []) (st := []) cl_L_82 im_yX10_thrown se_yX10_thrown (fun _ => (m_thrown _ S (upF F 100 0 1) A hSM)) (sM_100 hSM) rfl rfl rfl ⟨rfl, rfl, by decide, by decide⟩ ⟨(by show (k + 1) + 0 ≤ 601024; omega), (by show (n + 6) + 0 ≤ 7293034; omega)⟩ (fun _ => Nat.le_of_ble_eq_true rfl) (fun v hv => by cases hv) (fun v hv => by simp only [List.mem_cons, List.not_mem_nil, or_false, Option.some.injEq, reduceCtorEq, false_or] at hv; rcases hv with rfl | rfl | rfl | rfl | rfl | rfl | rfl <;> first | exact (lS (sC_0 hSC)) | exact (lS (sM_100 hSM)) | exact (lS h90) | exact trivial) dL_law_604 (fun v_604 S_604 F_604 A_604 hP_604 => ?_)
    obtain ⟨rfl, rfl, rfl, rfl⟩ := hP_604
    rw [ht9]
    show ab_J E 7 (k + 1) (n + 6) S (upF F 100 0 1) A 607 [some (aX (.ref b)), some (aR 0), some (aR 100), some (aR 90), some (aI i), some (aI 1), some (aI r2)] [aI 1]
    refine j_iload C dL_law_607 rfl ?_
    refine j_icmp_eq C (tgt := 614) dL_law_609 (by decide) ⟨by omega, by omega⟩ ⟨by omega, by omega⟩ (fun c609 => ?_) (fun c609 => ?_)
    · refine j_iload C dL_law_614 rfl ?_
      refine j_if_ne C (tgt := 631) dL_law_616 (by decide) ⟨by omega, by omega⟩ (fun c616 => ?_) (fun c616 => ?_)
      · refine j_goto C (tgt := 1175) dL_law_631 (by decide) ?_
        refine j_lv (lv' := [some (aX (.ref b)), some (aR 0), some (aR 100), some (aR 90), some (aI i), none, none]) ?_ ⟨rfl, rfl, rfl, rfl, rfl, trivial⟩
        exact j_widen (by omega) (by omega) (go _ _ _ _ _ hI9)
      · exact absurd c616 (by decide)
    · exact absurd c609 (by decide)
  · refine j_callSH C (vs := [aR 0, aI ((xs (i + 1).toNat).toInt), aI ((xs (i + 2).toNat).toInt), aR 90]) (st := []) clh_parts (ab_t4 (List.mem_of_getElem? (i := 13) rfl) rfl) (fun _ => (h_parts_ok _ S F A (sC_0 hSC) h90 _ _ _ (fun _ => c_parts _ S F A hSC _ _ hq1 hq2 hLB.1 hb) (fun v S' F' A' h => ⟨⟨_, h.2.2.2⟩, h.1 ▸ h90⟩))) rfl ⟨rfl, rfl, by decide, by decide⟩ ⟨(by show k + 0 ≤ 601024; omega), (by show n + 0 ≤ 7293034; omega)⟩ (fun _ => Nat.le_of_ble_eq_true rfl) (fun v hv => by cases hv) (fun v hv => by simp only [List.mem_cons, List.not_mem_nil, or_false, Option.some.injEq, reduceCtorEq, false_or] at hv; rcases hv with rfl | rfl | rfl | rfl | rfl <;> first | exact (lS (sC_0 hSC)) | exact (lS (sM_100 hSM)) | exact (lS h90) | exact trivial) dL_law_580 (fun v_580 S_580 F_580 A_580 hP_580 => ?_)
    obtain ⟨rfl, r9, A9, hc, rfl⟩ := hP_580
    obtain ⟨rfl, rfl, rfl, hc4⟩ := hc
    have er := aI_inj hc4
    show ab_J E 7 k n S F (upA A 90 0 ((Int32.ofInt r9).toInt)) 583 [some (aX (.ref b)), some (aR 0), some (aR 100), some (aR 90), some (aI i), none, none] [aI 0]
    refine j_istore C (lv' := [some (aX (.ref b)), some (aR 0), some (aR 100), some (aR 90), some (aI i), some (aI 0), none]) dL_law_583 (by decide) rfl ?_
    refine j_aload_n C dL_law_585 rfl rfl ?_
    refine j_xload_n C dL_law_586 rfl rfl ?_
    refine j_iload C dL_law_587 rfl ?_
    refine j_iconst C dL_law_589 ?_
    refine j_iadd C dL_law_590 ?_
    refine j_sld C hX (j := i + 1) (by omega) (by omega) (by omega) dL_law_591 ?_
    refine j_xload_n C dL_law_592 rfl rfl ?_
    refine j_iload C dL_law_593 rfl ?_
    refine j_iconst C dL_law_595 ?_
    refine j_iadd C dL_law_596 ?_
    refine j_sld C hX (j := i + 2) (by omega) (by omega) (by omega) dL_law_597 ?_
    refine j_callV C (vs := [aI ((xs (i + 1).toNat).toInt), aI ((xs (i + 2).toNat).toInt)]) (st := []) cl_L_102 im_yX10_parts se_yX10_parts (fun _ => (m_parts _ S F (upA A 90 0 ((Int32.ofInt r9).toInt)) hSM _ _ (inX _) (inX _) (by show 0 ≤ F 100 11 ∧ F 100 11 ≤ 10; rw [hb3]; exact hb))) (sM_100 hSM) rfl rfl rfl ⟨rfl, rfl, by decide, by decide⟩ ⟨(by show k + 0 ≤ 601024; omega), (by show n + 0 ≤ 7293034; omega)⟩ (fun _ => Nat.le_of_ble_eq_true rfl) (fun v hv => by cases hv) (fun v hv => by simp only [List.mem_cons, List.not_mem_nil, or_false, Option.some.injEq, reduceCtorEq, false_or] at hv; rcases hv with rfl | rfl | rfl | rfl | rfl | rfl <;> first | exact (lS (sC_0 hSC)) | exact (lS (sM_100 hSM)) | exact (lS h90) | exact trivial) dL_law_598 (fun v_598 S_598 F_598 A_598 hP_598 => ?_)
    obtain ⟨rfl, rfl, t9, r2, rfl, rfl, hm⟩ := hP_598
    obtain ⟨rfl, e2⟩ : t9 = 0 ∧ r2 = (upA A 90 0 ((Int32.ofInt r9).toInt)) 106 (280 * ((xs (i + 1).toNat).toInt) + ((xs (i + 2).toNat).toInt)) := by rcases hm with h | h; exact absurd ⟨by rw [hb3]; exact hq1, hq2⟩ h.2; exact ⟨h.1, h.2.2.2⟩
    have e3 : r2 = r9 := by rw [e2, er]; exact hI.hq _ _ hq1.1 hq1.2 hq2.1 (by omega)
    have h90r : (upA A 90 0 ((Int32.ofInt r9).toInt)) 90 0 = (Int32.ofInt r2).toInt := by rw [e3]; rfl
    have ht9 : (upF F 100 0 0) 100 0 = 0 := rfl
    have hI9 := hI.to (F' := upF F 100 0 0) (A' := upA A 90 0 ((Int32.ofInt r9).toInt)) (fun i z => upF_o (by omega)) (fun k z => upF_ne (by omega)) (fun i z => upA_other (by omega))
    show ab_J E 7 k n S (upF F 100 0 0) (upA A 90 0 ((Int32.ofInt r9).toInt)) 601 [some (aX (.ref b)), some (aR 0), some (aR 100), some (aR 90), some (aI i), some (aI 0), none] [aI r2]
    refine j_istore C (lv' := [some (aX (.ref b)), some (aR 0), some (aR 100), some (aR 90), some (aI i), some (aI 0), some (aI r2)]) dL_law_601 (by decide) rfl ?_
    refine j_aload_n C dL_law_603 rfl rfl ?_
    refine j_callV C (vs := []) (st := []) cl_L_82 im_yX10_thrown se_yX10_thrown (fun _ => (m_thrown _ S (upF F 100 0 0) (upA A 90 0 ((Int32.ofInt r9).toInt)) hSM)) (sM_100 hSM) rfl rfl rfl ⟨rfl, rfl, by decide, by decide⟩ ⟨(by show k + 0 ≤ 601024; omega), (by show n + 0 ≤ 7293034; omega)⟩ (fun _ => Nat.le_of_ble_eq_true rfl) (fun v hv => by cases hv) (fun v hv => by simp only [List.mem_cons, List.not_mem_nil, or_false, Option.some.injEq, reduceCtorEq, false_or] at hv; rcases hv with rfl | rfl | rfl | rfl | rfl | rfl | rfl <;> first | exact (lS (sC_0 hSC)) | exact (lS (sM_100 hSM)) | exact (lS h90) | exact trivial) dL_law_604 (fun v_604 S_604 F_604 A_604 hP_604 => ?_)
    obtain ⟨rfl, rfl, rfl, rfl⟩ := hP_604
    rw [ht9]
    show ab_J E 7 k n S (upF F 100 0 0) (upA A 90 0 ((Int32.ofInt r9).toInt)) 607 [some (aX (.ref b)), some (aR 0), some (aR 100), some (aR 90), some (aI i), some (aI 0), some (aI r2)] [aI 0]
    refine j_iload C dL_law_607 rfl ?_
    refine j_icmp_eq C (tgt := 614) dL_law_609 (by decide) ⟨by omega, by omega⟩ ⟨by omega, by omega⟩ (fun c609 => ?_) (fun c609 => ?_)
    · refine j_iload C dL_law_614 rfl ?_
      refine j_if_ne C (tgt := 631) dL_law_616 (by decide) ⟨by omega, by omega⟩ (fun c616 => ?_) (fun c616 => ?_)
      · exact absurd c616 (by decide)
      · refine j_aload_n C dL_law_619 rfl rfl ?_
        refine j_iconst C dL_law_620 ?_
        refine j_lald C h90 (by omega) (by omega) (by decide) dL_law_621 ?_
        refine j_iload C dL_law_622 rfl ?_
        refine j_i2l C dL_law_624 ?_
        refine j_lcmpE C h90r dL_law_625 ?_
        refine j_if_eq C (tgt := 631) dL_law_626 (by decide) ⟨by omega, by omega⟩ (fun c626 => ?_) (fun c626 => ?_)
        · refine j_goto C (tgt := 1175) dL_law_631 (by decide) ?_
          refine j_lv (lv' := [some (aX (.ref b)), some (aR 0), some (aR 100), some (aR 90), some (aI i), none, none]) ?_ ⟨rfl, rfl, rfl, rfl, rfl, trivial⟩
          exact j_widen (by omega) (by omega) (go _ _ _ _ _ hI9)
        · exact absurd c626 (by decide)
    · exact absurd c609 (by decide)

set_option maxHeartbeats 4000000 in
set_option maxRecDepth 100000 in
theorem lc_8 {E : ab_E} (C : ab_C E cL_law 7 yL_law room_1) {b L : Nat} {xs : Nat → Int32} (hX : ab_X E b L xs) (hL : L ≤ 3072) {k n : Nat} (hk : k + 5 ≤ 601024) (hn : n + 345 ≤ 7293034) {S : ab_St} {F : ab_Fn} {A : ab_An} {U : Int → bst} {nc : Nat → Nat} {T : Int} (hT : 0 ≤ T ∧ T ≤ 512) (hI : LI S F A U nc T) {i : Int} (hi : 0 ≤ i ∧ i + 6 ≤ L)
    (go : ∀ S2 F2 A2 U2 nc2, LI S2 F2 A2 U2 nc2 (T + 1) → ab_J E 7 (k + 5) (n + 345) S2 F2 A2 1175 [some (aX (.ref b)), some (aR 0), some (aR 100), some (aR 90), some (aI i), none, none] []) : ab_J E 7 k n S F A 634 [some (aX (.ref b)), some (aR 0), some (aR 100), some (aR 90), some (aI i), none, none] [] := by
  obtain ⟨⟨hSC, hSM, h90⟩, hLB, hLW, hLT, hLS, hLF⟩ := id hI
  have hb := hLB.2.1
  have hb3 := hLB.2.2.1
  have hw9 := hLW.2.1
  have hw3 := hLW.2.2.1
  have ht := hLT.2.1
  have ht3 := hLT.1
  refine j_aload_n C dL_law_634 rfl rfl ?_
  refine j_xload_n C dL_law_635 rfl rfl ?_
  refine j_iload C dL_law_636 rfl ?_
  refine j_iconst C dL_law_638 ?_
  refine j_iadd C dL_law_639 ?_
  refine j_sld C hX (j := i + 1) (by omega) (by omega) (by omega) dL_law_640 ?_
  refine j_xload_n C dL_law_641 rfl rfl ?_
  refine j_iload C dL_law_642 rfl ?_
  refine j_iconst C dL_law_644 ?_
  refine j_iadd C dL_law_645 ?_
  refine j_sld C hX (j := i + 2) (by omega) (by omega) (by omega) dL_law_646 ?_
  refine j_aload_n C dL_law_647 rfl rfl ?_
  rcases (show (¬ (0 ≤ ((xs (i + 1).toNat).toInt) ∧ ((xs (i + 1).toNat).toInt) < F 2 2)) ∨ ((0 ≤ ((xs (i + 1).toNat).toInt) ∧ ((xs (i + 1).toNat).toInt) < F 2 2) ∧ ¬ (0 ≤ ((xs (i + 2).toNat).toInt) ∧ ((xs (i + 2).toNat).toInt) ≤ 5)) ∨ ((0 ≤ ((xs (i + 1).toNat).toInt) ∧ ((xs (i + 1).toNat).toInt) < F 2 2) ∧ (0 ≤ ((xs (i + 2).toNat).toInt) ∧ ((xs (i + 2).toNat).toInt) ≤ 5)) by by_cases q0 : (0 ≤ ((xs (i + 1).toNat).toInt) ∧ ((xs (i + 1).toNat).toInt) < F 2 2); (by_cases q1 : (0 ≤ ((xs (i + 2).toNat).toInt) ∧ ((xs (i + 2).toNat).toInt) ≤ 5); (exact Or.inr (Or.inr (⟨q0, q1⟩))); exact Or.inr (Or.inl ⟨q0, q1⟩)); exact Or.inl q0) with hq | ⟨hq1, hq⟩ | ⟨hq1, hq2⟩
  · refine j_callSH C (vs := [aR 0, aI ((xs (i + 1).toNat).toInt), aI ((xs (i + 2).toNat).toInt), aR 90]) (st := []) clh_berg (ab_t4 (List.mem_of_getElem? (i := 25) rfl) rfl) (fun _ => (h_berg_IOB _ S F A (sC_0 hSC) h90 _ _ _ (fun _ => x_berg1 _ S F A hSC hLB.1 hb _ _ (inX _) hq))) rfl ⟨rfl, rfl, by decide, by decide⟩ ⟨(by show k + 1 ≤ 601024; omega), (by show n + 6 ≤ 7293034; omega)⟩ (fun _ => Nat.le_of_ble_eq_true rfl) (fun v hv => by cases hv) (fun v hv => by simp only [List.mem_cons, List.not_mem_nil, or_false, Option.some.injEq, reduceCtorEq, false_or] at hv; rcases hv with rfl | rfl | rfl | rfl | rfl <;> first | exact (lS (sC_0 hSC)) | exact (lS (sM_100 hSM)) | exact (lS h90) | exact trivial) dL_law_648 (fun v_648 S_648 F_648 A_648 hP_648 => ?_)
    obtain ⟨rfl, rfl, rfl, rfl⟩ := hP_648
    show ab_J E 7 (k + 1) (n + 6) S F A 651 [some (aX (.ref b)), some (aR 0), some (aR 100), some (aR 90), some (aI i), none, none] [aI 1]
    refine j_istore C (lv' := [some (aX (.ref b)), some (aR 0), some (aR 100), some (aR 90), some (aI i), some (aI 1), none]) dL_law_651 (by decide) rfl ?_
    refine j_aload_n C dL_law_653 rfl rfl ?_
    refine j_xload_n C dL_law_654 rfl rfl ?_
    refine j_iload C dL_law_655 rfl ?_
    refine j_iconst C dL_law_657 ?_
    refine j_iadd C dL_law_658 ?_
    refine j_sld C hX (j := i + 1) (by omega) (by omega) (by omega) dL_law_659 ?_
    refine j_xload_n C dL_law_660 rfl rfl ?_
    refine j_iload C dL_law_661 rfl ?_
    refine j_iconst C dL_law_663 ?_
    refine j_iadd C dL_law_664 ?_
    refine j_sld C hX (j := i + 2) (by omega) (by omega) (by omega) dL_law_665 ?_
    refine j_callV C (vs := [aI ((xs (i + 1).toNat).toInt), aI ((xs (i + 2).toNat).toInt)]) (st := []) cl_L_105 im_yX10_berg se_yX10_berg (fun _ => (m_berg _ S F A hSM _ _ (inX _) (inX _) (by show 0 ≤ F 100 11 ∧ F 100 11 ≤ 10; rw [hb3]; exact hb) (fun q k z1 z2 => by have := hI.fp _ k q.1 q.2 z1 z2; exact ⟨by show _ ≤ A 106 _; omega, by show A 106 _ < _; omega⟩) (fun q => by have q2 := q.2; have e9 : F 100 11 = F 2 2 := hb3; have y := hLB.2.2.2.1 _ q.1 (by omega); show A 110 _ = 0 ∨ A 110 _ = 1; rw [y.2.1.2.2.2.2]; exact y.2.2.2.2.2.2.1))) (sM_100 hSM) rfl rfl rfl ⟨rfl, rfl, by decide, by decide⟩ ⟨(by show (k + 1) + 0 ≤ 601024; omega), (by show (n + 6) + 0 ≤ 7293034; omega)⟩ (fun _ => Nat.le_of_ble_eq_true rfl) (fun v hv => by cases hv) (fun v hv => by simp only [List.mem_cons, List.not_mem_nil, or_false, Option.some.injEq, reduceCtorEq, false_or] at hv; rcases hv with rfl | rfl | rfl | rfl | rfl | rfl <;> first | exact (lS (sC_0 hSC)) | exact (lS (sM_100 hSM)) | exact (lS h90) | exact trivial) dL_law_666 (fun v_666 S_666 F_666 A_666 hP_666 => ?_)
    obtain ⟨rfl, rfl, t9, r2, rfl, rfl, hm⟩ := hP_666
    obtain rfl : t9 = 1 := by rcases hm with h | h | h; exact h.1; exact absurd h.2.1 (by rw [hb3]; exact hq); exact absurd h.2.1 (by rw [hb3]; exact hq)
    have ht9 : (upF F 100 0 1) 100 0 = 1 := rfl
    have hI9 := hI.to (F' := upF F 100 0 1) (A' := A) (fun i z => upF_o (by omega)) (fun k z => upF_ne (by omega)) (fun _ _ => rfl)
    show ab_J E 7 (k + 1) (n + 6) S (upF F 100 0 1) A 669 [some (aX (.ref b)), some (aR 0), some (aR 100), some (aR 90), some (aI i), some (aI 1), none] [aI r2]
    refine j_istore C (lv' := [some (aX (.ref b)), some (aR 0), some (aR 100), some (aR 90), some (aI i), some (aI 1), some (aI r2)]) dL_law_669 (by decide) rfl ?_
    refine j_aload_n C dL_law_671 rfl rfl ?_
    refine j_callV C (vs := []) (st := []) cl_L_82 im_yX10_thrown se_yX10_thrown (fun _ => (m_thrown _ S (upF F 100 0 1) A hSM)) (sM_100 hSM) rfl rfl rfl ⟨rfl, rfl, by decide, by decide⟩ ⟨(by show (k + 1) + 0 ≤ 601024; omega), (by show (n + 6) + 0 ≤ 7293034; omega)⟩ (fun _ => Nat.le_of_ble_eq_true rfl) (fun v hv => by cases hv) (fun v hv => by simp only [List.mem_cons, List.not_mem_nil, or_false, Option.some.injEq, reduceCtorEq, false_or] at hv; rcases hv with rfl | rfl | rfl | rfl | rfl | rfl | rfl <;> first | exact (lS (sC_0 hSC)) | exact (lS (sM_100 hSM)) | exact (lS h90) | exact trivial) dL_law_672 (fun v_672 S_672 F_672 A_672 hP_672 => ?_)
    obtain ⟨rfl, rfl, rfl, rfl⟩ := hP_672
    rw [ht9]
    show ab_J E 7 (k + 1) (n + 6) S (upF F 100 0 1) A 675 [some (aX (.ref b)), some (aR 0), some (aR 100), some (aR 90), some (aI i), some (aI 1), some (aI r2)] [aI 1]
    refine j_iload C dL_law_675 rfl ?_
    refine j_icmp_eq C (tgt := 682) dL_law_677 (by decide) ⟨by omega, by omega⟩ ⟨by omega, by omega⟩ (fun c677 => ?_) (fun c677 => ?_)
    · refine j_iload C dL_law_682 rfl ?_
      refine j_if_ne C (tgt := 699) dL_law_684 (by decide) ⟨by omega, by omega⟩ (fun c684 => ?_) (fun c684 => ?_)
      · refine j_goto C (tgt := 1175) dL_law_699 (by decide) ?_
        refine j_lv (lv' := [some (aX (.ref b)), some (aR 0), some (aR 100), some (aR 90), some (aI i), none, none]) ?_ ⟨rfl, rfl, rfl, rfl, rfl, trivial⟩
        exact j_widen (by omega) (by omega) (go _ _ _ _ _ hI9)
      · exact absurd c684 (by decide)
    · exact absurd c677 (by decide)
  · refine j_callSH C (vs := [aR 0, aI ((xs (i + 1).toNat).toInt), aI ((xs (i + 2).toNat).toInt), aR 90]) (st := []) clh_berg (ab_t4 (List.mem_of_getElem? (i := 25) rfl) rfl) (fun _ => (h_berg_NSE _ S F A (sC_0 hSC) h90 _ _ _ (fun _ => x_berg2 _ S F A hSC hLB.1 hb _ _ hq1 (inX _) hq))) rfl ⟨rfl, rfl, by decide, by decide⟩ ⟨(by show k + 1 ≤ 601024; omega), (by show n + 6 ≤ 7293034; omega)⟩ (fun _ => Nat.le_of_ble_eq_true rfl) (fun v hv => by cases hv) (fun v hv => by simp only [List.mem_cons, List.not_mem_nil, or_false, Option.some.injEq, reduceCtorEq, false_or] at hv; rcases hv with rfl | rfl | rfl | rfl | rfl <;> first | exact (lS (sC_0 hSC)) | exact (lS (sM_100 hSM)) | exact (lS h90) | exact trivial) dL_law_648 (fun v_648 S_648 F_648 A_648 hP_648 => ?_)
    obtain ⟨rfl, rfl, rfl, rfl⟩ := hP_648
    show ab_J E 7 (k + 1) (n + 6) S F A 651 [some (aX (.ref b)), some (aR 0), some (aR 100), some (aR 90), some (aI i), none, none] [aI 2]
    refine j_istore C (lv' := [some (aX (.ref b)), some (aR 0), some (aR 100), some (aR 90), some (aI i), some (aI 2), none]) dL_law_651 (by decide) rfl ?_
    refine j_aload_n C dL_law_653 rfl rfl ?_
    refine j_xload_n C dL_law_654 rfl rfl ?_
    refine j_iload C dL_law_655 rfl ?_
    refine j_iconst C dL_law_657 ?_
    refine j_iadd C dL_law_658 ?_
    refine j_sld C hX (j := i + 1) (by omega) (by omega) (by omega) dL_law_659 ?_
    refine j_xload_n C dL_law_660 rfl rfl ?_
    refine j_iload C dL_law_661 rfl ?_
    refine j_iconst C dL_law_663 ?_
    refine j_iadd C dL_law_664 ?_
    refine j_sld C hX (j := i + 2) (by omega) (by omega) (by omega) dL_law_665 ?_
    refine j_callV C (vs := [aI ((xs (i + 1).toNat).toInt), aI ((xs (i + 2).toNat).toInt)]) (st := []) cl_L_105 im_yX10_berg se_yX10_berg (fun _ => (m_berg _ S F A hSM _ _ (inX _) (inX _) (by show 0 ≤ F 100 11 ∧ F 100 11 ≤ 10; rw [hb3]; exact hb) (fun q k z1 z2 => by have := hI.fp _ k q.1 q.2 z1 z2; exact ⟨by show _ ≤ A 106 _; omega, by show A 106 _ < _; omega⟩) (fun q => by have q2 := q.2; have e9 : F 100 11 = F 2 2 := hb3; have y := hLB.2.2.2.1 _ q.1 (by omega); show A 110 _ = 0 ∨ A 110 _ = 1; rw [y.2.1.2.2.2.2]; exact y.2.2.2.2.2.2.1))) (sM_100 hSM) rfl rfl rfl ⟨rfl, rfl, by decide, by decide⟩ ⟨(by show (k + 1) + 0 ≤ 601024; omega), (by show (n + 6) + 0 ≤ 7293034; omega)⟩ (fun _ => Nat.le_of_ble_eq_true rfl) (fun v hv => by cases hv) (fun v hv => by simp only [List.mem_cons, List.not_mem_nil, or_false, Option.some.injEq, reduceCtorEq, false_or] at hv; rcases hv with rfl | rfl | rfl | rfl | rfl | rfl <;> first | exact (lS (sC_0 hSC)) | exact (lS (sM_100 hSM)) | exact (lS h90) | exact trivial) dL_law_666 (fun v_666 S_666 F_666 A_666 hP_666 => ?_)
    obtain ⟨rfl, rfl, t9, r2, rfl, rfl, hm⟩ := hP_666
    obtain rfl : t9 = 2 := by rcases hm with h | h | h; exact absurd (by rw [hb3]; exact hq1) h.2; exact h.1; (exfalso; have := h.2.2; omega)
    have ht9 : (upF F 100 0 2) 100 0 = 2 := rfl
    have hI9 := hI.to (F' := upF F 100 0 2) (A' := A) (fun i z => upF_o (by omega)) (fun k z => upF_ne (by omega)) (fun _ _ => rfl)
    show ab_J E 7 (k + 1) (n + 6) S (upF F 100 0 2) A 669 [some (aX (.ref b)), some (aR 0), some (aR 100), some (aR 90), some (aI i), some (aI 2), none] [aI r2]
    refine j_istore C (lv' := [some (aX (.ref b)), some (aR 0), some (aR 100), some (aR 90), some (aI i), some (aI 2), some (aI r2)]) dL_law_669 (by decide) rfl ?_
    refine j_aload_n C dL_law_671 rfl rfl ?_
    refine j_callV C (vs := []) (st := []) cl_L_82 im_yX10_thrown se_yX10_thrown (fun _ => (m_thrown _ S (upF F 100 0 2) A hSM)) (sM_100 hSM) rfl rfl rfl ⟨rfl, rfl, by decide, by decide⟩ ⟨(by show (k + 1) + 0 ≤ 601024; omega), (by show (n + 6) + 0 ≤ 7293034; omega)⟩ (fun _ => Nat.le_of_ble_eq_true rfl) (fun v hv => by cases hv) (fun v hv => by simp only [List.mem_cons, List.not_mem_nil, or_false, Option.some.injEq, reduceCtorEq, false_or] at hv; rcases hv with rfl | rfl | rfl | rfl | rfl | rfl | rfl <;> first | exact (lS (sC_0 hSC)) | exact (lS (sM_100 hSM)) | exact (lS h90) | exact trivial) dL_law_672 (fun v_672 S_672 F_672 A_672 hP_672 => ?_)
    obtain ⟨rfl, rfl, rfl, rfl⟩ := hP_672
    rw [ht9]
    show ab_J E 7 (k + 1) (n + 6) S (upF F 100 0 2) A 675 [some (aX (.ref b)), some (aR 0), some (aR 100), some (aR 90), some (aI i), some (aI 2), some (aI r2)] [aI 2]
    refine j_iload C dL_law_675 rfl ?_
    refine j_icmp_eq C (tgt := 682) dL_law_677 (by decide) ⟨by omega, by omega⟩ ⟨by omega, by omega⟩ (fun c677 => ?_) (fun c677 => ?_)
    · refine j_iload C dL_law_682 rfl ?_
      refine j_if_ne C (tgt := 699) dL_law_684 (by decide) ⟨by omega, by omega⟩ (fun c684 => ?_) (fun c684 => ?_)
      · refine j_goto C (tgt := 1175) dL_law_699 (by decide) ?_
        refine j_lv (lv' := [some (aX (.ref b)), some (aR 0), some (aR 100), some (aR 90), some (aI i), none, none]) ?_ ⟨rfl, rfl, rfl, rfl, rfl, trivial⟩
        exact j_widen (by omega) (by omega) (go _ _ _ _ _ hI9)
      · exact absurd c684 (by decide)
    · exact absurd c677 (by decide)
  · refine j_callSH C (vs := [aR 0, aI ((xs (i + 1).toNat).toInt), aI ((xs (i + 2).toNat).toInt), aR 90]) (st := []) clh_berg (ab_t4 (List.mem_of_getElem? (i := 25) rfl) rfl) (fun _ => (h_berg_ok _ S F A (sC_0 hSC) h90 _ _ _ (fun _ => c_berg _ S F A hSC _ _ hq1 hq2 hLB.1 hb (fun k z1 z2 => by have := hI.hp _ k hq1.1 hq1.2 z1 z2; exact ⟨by omega, by omega⟩) (hI.hg _ hq1.1 hq1.2)) (fun v S' F' A' h => ⟨by obtain ⟨-, -, -, r, e, h5⟩ := h; exact ⟨r, e⟩, h.1 ▸ h90⟩))) rfl ⟨rfl, rfl, by decide, by decide⟩ ⟨(by show k + 0 ≤ 601024; omega), (by show n + 0 ≤ 7293034; omega)⟩ (fun _ => Nat.le_of_ble_eq_true rfl) (fun v hv => by cases hv) (fun v hv => by simp only [List.mem_cons, List.not_mem_nil, or_false, Option.some.injEq, reduceCtorEq, false_or] at hv; rcases hv with rfl | rfl | rfl | rfl | rfl <;> first | exact (lS (sC_0 hSC)) | exact (lS (sM_100 hSM)) | exact (lS h90) | exact trivial) dL_law_648 (fun v_648 S_648 F_648 A_648 hP_648 => ?_)
    obtain ⟨rfl, r9, A9, hc, rfl⟩ := hP_648
    obtain ⟨rfl, rfl, rfl, r8, hc4, hc5⟩ := hc
    have er := aI_inj hc4
    show ab_J E 7 k n S F (upA A 90 0 ((Int32.ofInt r9).toInt)) 651 [some (aX (.ref b)), some (aR 0), some (aR 100), some (aR 90), some (aI i), none, none] [aI 0]
    refine j_istore C (lv' := [some (aX (.ref b)), some (aR 0), some (aR 100), some (aR 90), some (aI i), some (aI 0), none]) dL_law_651 (by decide) rfl ?_
    refine j_aload_n C dL_law_653 rfl rfl ?_
    refine j_xload_n C dL_law_654 rfl rfl ?_
    refine j_iload C dL_law_655 rfl ?_
    refine j_iconst C dL_law_657 ?_
    refine j_iadd C dL_law_658 ?_
    refine j_sld C hX (j := i + 1) (by omega) (by omega) (by omega) dL_law_659 ?_
    refine j_xload_n C dL_law_660 rfl rfl ?_
    refine j_iload C dL_law_661 rfl ?_
    refine j_iconst C dL_law_663 ?_
    refine j_iadd C dL_law_664 ?_
    refine j_sld C hX (j := i + 2) (by omega) (by omega) (by omega) dL_law_665 ?_
    refine j_callV C (vs := [aI ((xs (i + 1).toNat).toInt), aI ((xs (i + 2).toNat).toInt)]) (st := []) cl_L_105 im_yX10_berg se_yX10_berg (fun _ => (m_berg _ S F (upA A 90 0 ((Int32.ofInt r9).toInt)) hSM _ _ (inX _) (inX _) (by show 0 ≤ F 100 11 ∧ F 100 11 ≤ 10; rw [hb3]; exact hb) (fun q k z1 z2 => by have := hI.fp _ k q.1 q.2 z1 z2; exact ⟨by show _ ≤ A 106 _; omega, by show A 106 _ < _; omega⟩) (fun q => by have q2 := q.2; have e9 : F 100 11 = F 2 2 := hb3; have y := hLB.2.2.2.1 _ q.1 (by omega); show A 110 _ = 0 ∨ A 110 _ = 1; rw [y.2.1.2.2.2.2]; exact y.2.2.2.2.2.2.1))) (sM_100 hSM) rfl rfl rfl ⟨rfl, rfl, by decide, by decide⟩ ⟨(by show k + 0 ≤ 601024; omega), (by show n + 0 ≤ 7293034; omega)⟩ (fun _ => Nat.le_of_ble_eq_true rfl) (fun v hv => by cases hv) (fun v hv => by simp only [List.mem_cons, List.not_mem_nil, or_false, Option.some.injEq, reduceCtorEq, false_or] at hv; rcases hv with rfl | rfl | rfl | rfl | rfl | rfl <;> first | exact (lS (sC_0 hSC)) | exact (lS (sM_100 hSM)) | exact (lS h90) | exact trivial) dL_law_666 (fun v_666 S_666 F_666 A_666 hP_666 => ?_)
    obtain ⟨rfl, rfl, t9, r2, rfl, rfl, hm⟩ := hP_666
    obtain ⟨rfl, e2⟩ : t9 = 0 ∧ r2 = r8 := by rcases hm with h | h | h; exact absurd (by rw [hb3]; exact hq1) h.2; exact absurd hq2 h.2.2; exact ⟨h.1, bergE hI hq1 h.2.2 hc5⟩
    have h90r : (upA A 90 0 ((Int32.ofInt r9).toInt)) 90 0 = (Int32.ofInt r2).toInt := by rw [e2, ← er]; rfl
    have ht9 : (upF F 100 0 0) 100 0 = 0 := rfl
    have hI9 := hI.to (F' := upF F 100 0 0) (A' := upA A 90 0 ((Int32.ofInt r9).toInt)) (fun i z => upF_o (by omega)) (fun k z => upF_ne (by omega)) (fun i z => upA_other (by omega))
    show ab_J E 7 k n S (upF F 100 0 0) (upA A 90 0 ((Int32.ofInt r9).toInt)) 669 [some (aX (.ref b)), some (aR 0), some (aR 100), some (aR 90), some (aI i), some (aI 0), none] [aI r2]
    refine j_istore C (lv' := [some (aX (.ref b)), some (aR 0), some (aR 100), some (aR 90), some (aI i), some (aI 0), some (aI r2)]) dL_law_669 (by decide) rfl ?_
    refine j_aload_n C dL_law_671 rfl rfl ?_
    refine j_callV C (vs := []) (st := []) cl_L_82 im_yX10_thrown se_yX10_thrown (fun _ => (m_thrown _ S (upF F 100 0 0) (upA A 90 0 ((Int32.ofInt r9).toInt)) hSM)) (sM_100 hSM) rfl rfl rfl ⟨rfl, rfl, by decide, by decide⟩ ⟨(by show k + 0 ≤ 601024; omega), (by show n + 0 ≤ 7293034; omega)⟩ (fun _ => Nat.le_of_ble_eq_true rfl) (fun v hv => by cases hv) (fun v hv => by simp only [List.mem_cons, List.not_mem_nil, or_false, Option.some.injEq, reduceCtorEq, false_or] at hv; rcases hv with rfl | rfl | rfl | rfl | rfl | rfl | rfl <;> first | exact (lS (sC_0 hSC)) | exact (lS (sM_100 hSM)) | exact (lS h90) | exact trivial) dL_law_672 (fun v_672 S_672 F_672 A_672 hP_672 => ?_)
    obtain ⟨rfl, rfl, rfl, rfl⟩ := hP_672
    rw [ht9]
    show ab_J E 7 k n S (upF F 100 0 0) (upA A 90 0 ((Int32.ofInt r9).toInt)) 675 [some (aX (.ref b)), some (aR 0), some (aR 100), some (aR 90), some (aI i), some (aI 0), some (aI r2)] [aI 0]
    refine j_iload C dL_law_675 rfl ?_
    refine j_icmp_eq C (tgt := 682) dL_law_677 (by decide) ⟨by omega, by omega⟩ ⟨by omega, by omega⟩ (fun c677 => ?_) (fun c677 => ?_)
    · refine j_iload C dL_law_682 rfl ?_
      refine j_if_ne C (tgt := 699) dL_law_684 (by decide) ⟨by omega, by omega⟩ (fun c684 => ?_) (fun c684 => ?_)
      · exact absurd c684 (by decide)
      · refine j_aload_n C dL_law_687 rfl rfl ?_
        refine j_iconst C dL_law_688 ?_
        refine j_lald C h90 (by omega) (by omega) (by decide) dL_law_689 ?_
        refine j_iload C dL_law_690 rfl ?_
        refine j_i2l C dL_law_692 ?_
        refine j_lcmpE C h90r dL_law_693 ?_
        refine j_if_eq C (tgt := 699) dL_law_694 (by decide) ⟨by omega, by omega⟩ (fun c694 => ?_) (fun c694 => ?_)
        · refine j_goto C (tgt := 1175) dL_law_699 (by decide) ?_
          refine j_lv (lv' := [some (aX (.ref b)), some (aR 0), some (aR 100), some (aR 90), some (aI i), none, none]) ?_ ⟨rfl, rfl, rfl, rfl, rfl, trivial⟩
          exact j_widen (by omega) (by omega) (go _ _ _ _ _ hI9)
        · exact absurd c694 (by decide)
    · exact absurd c677 (by decide)

set_option maxHeartbeats 4000000 in
set_option maxRecDepth 100000 in
theorem lc_9 {E : ab_E} (C : ab_C E cL_law 7 yL_law room_1) {b L : Nat} {xs : Nat → Int32} (hX : ab_X E b L xs) (hL : L ≤ 3072) {k n : Nat} (hk : k + 5 ≤ 601024) (hn : n + 345 ≤ 7293034) {S : ab_St} {F : ab_Fn} {A : ab_An} {U : Int → bst} {nc : Nat → Nat} {T : Int} (hT : 0 ≤ T ∧ T ≤ 512) (hI : LI S F A U nc T) {i : Int} (hi : 0 ≤ i ∧ i + 6 ≤ L)
    (go : ∀ S2 F2 A2 U2 nc2, LI S2 F2 A2 U2 nc2 (T + 1) → ab_J E 7 (k + 5) (n + 345) S2 F2 A2 1175 [some (aX (.ref b)), some (aR 0), some (aR 100), some (aR 90), some (aI i), none, none] []) : ab_J E 7 k n S F A 702 [some (aX (.ref b)), some (aR 0), some (aR 100), some (aR 90), some (aI i), none, none] [] := by
  obtain ⟨⟨hSC, hSM, h90⟩, hLB, hLW, hLT, hLS, hLF⟩ := id hI
  have hb := hLB.2.1
  have hb3 := hLB.2.2.1
  have hw9 := hLW.2.1
  have hw3 := hLW.2.2.1
  have ht := hLT.2.1
  have ht3 := hLT.1
  refine j_aload_n C dL_law_702 rfl rfl ?_
  refine j_callV C (vs := []) (st := []) cl_L_106 im_yX9_limit se_yX9_limit (fun _ => (c_limit _ S F A hSC hLB.1 hb hI.hp)) (sC_0 hSC) rfl rfl rfl ⟨rfl, rfl, by decide, by decide⟩ ⟨(by show k + 0 ≤ 601024; omega), (by show n + 0 ≤ 7293034; omega)⟩ (fun _ => Nat.le_of_ble_eq_true rfl) (fun v hv => by cases hv) (fun v hv => by simp only [List.mem_cons, List.not_mem_nil, or_false, Option.some.injEq, reduceCtorEq, false_or] at hv; rcases hv with rfl | rfl | rfl | rfl | rfl <;> first | exact (lS (sC_0 hSC)) | exact (lS (sM_100 hSM)) | exact (lS h90) | exact trivial) dL_law_703 (fun v_703 S_703 F_703 A_703 hP_703 => ?_)
  obtain ⟨rfl, n9, rfl, rfl, hn9, hlr, hO9⟩ := hP_703
  rw [← hI.pt] at hlr
  show ab_J E 7 k n S (upF F 8 2 n9) A_703 706 [some (aX (.ref b)), some (aR 0), some (aR 100), some (aR 90), some (aI i), none, none] [aI n9]
  refine j_aload_n C dL_law_706 rfl rfl ?_
  refine j_callV C (vs := []) (st := [aI n9]) cl_L_109 im_yX10_limit se_yX10_limit (fun _ => (m_limit _ S (upF F 8 2 n9) A_703 hSM n9 _ _ ⟨hn9.1, by omega⟩ (by rw [hO9 106 (by decide) (by decide) (by decide) (by decide) (by decide)]; exact hlr) (by show 0 ≤ F 100 11 ∧ F 100 11 ≤ 10; rw [hb3]; exact hb) (fun sq z1 z2 b z3 z4 => by rw [hO9 106 (by decide) (by decide) (by decide) (by decide) (by decide)]; have := hI.fp b sq z3 z4 z1 z2; exact ⟨by omega, by omega⟩))) (sM_100 hSM) rfl rfl rfl ⟨rfl, rfl, by decide, by decide⟩ ⟨(by show k + 0 ≤ 601024; omega), (by show n + 0 ≤ 7293034; omega)⟩ (fun _ => Nat.le_of_ble_eq_true rfl) (fun v hv => by simp only [List.mem_cons, List.not_mem_nil, or_false] at hv; rcases hv with rfl <;> first | exact trivial) (fun v hv => by simp only [List.mem_cons, List.not_mem_nil, or_false, Option.some.injEq, reduceCtorEq, false_or] at hv; rcases hv with rfl | rfl | rfl | rfl | rfl <;> first | exact (lS (sC_0 hSC)) | exact (lS (sM_100 hSM)) | exact (lS h90) | exact trivial) dL_law_707 (fun v_707 S_707 F_707 A_707 hP_707 => ?_)
  obtain ⟨rfl, rfl, rfl, hm2⟩ := hP_707
  have hI9 := hI.to (F' := (upF (upF (upF F 8 2 n9) 100 0 0) 100 24 n9)) (A' := A_707) (fun i z => by rw [upF_o (by omega), upF_o (by omega), upF_o (by omega)]) (fun k z => by rw [upF_ne (by omega), upF_ne (by omega), upF_o (by decide)]) (fun i z => (hm2 i (by omega) (by omega) (by omega) (by omega)).trans (hO9 i (by omega) (by omega) (by omega) (by omega) (by omega)))
  show ab_J E 7 k n S (upF (upF (upF F 8 2 n9) 100 0 0) 100 24 n9) A_707 710 [some (aX (.ref b)), some (aR 0), some (aR 100), some (aR 90), some (aI i), none, none] [aI n9, aI n9]
  refine j_icmp_eq C (tgt := 1175) dL_law_710 (by decide) ⟨by omega, by omega⟩ ⟨by omega, by omega⟩ (fun c710 => ?_) (fun c710 => ?_)
  · exact j_widen (by omega) (by omega) (go _ _ _ _ _ hI9)
  · exact absurd rfl c710

set_option maxHeartbeats 4000000 in
set_option maxRecDepth 100000 in
theorem lc_10 {E : ab_E} (C : ab_C E cL_law 7 yL_law room_1) {b L : Nat} {xs : Nat → Int32} (hX : ab_X E b L xs) (hL : L ≤ 3072) {k n : Nat} (hk : k + 5 ≤ 601024) (hn : n + 345 ≤ 7293034) {S : ab_St} {F : ab_Fn} {A : ab_An} {U : Int → bst} {nc : Nat → Nat} {T : Int} (hT : 0 ≤ T ∧ T ≤ 512) (hI : LI S F A U nc T) {i : Int} (hi : 0 ≤ i ∧ i + 6 ≤ L)
    (go : ∀ S2 F2 A2 U2 nc2, LI S2 F2 A2 U2 nc2 (T + 1) → ab_J E 7 (k + 5) (n + 345) S2 F2 A2 1175 [some (aX (.ref b)), some (aR 0), some (aR 100), some (aR 90), some (aI i), none, none] []) : ab_J E 7 k n S F A 715 [some (aX (.ref b)), some (aR 0), some (aR 100), some (aR 90), some (aI i), none, none] [] := by
  obtain ⟨⟨hSC, hSM, h90⟩, hLB, hLW, hLT, hLS, hLF⟩ := id hI
  have hb := hLB.2.1
  have hb3 := hLB.2.2.1
  have hw9 := hLW.2.1
  have hw3 := hLW.2.2.1
  have ht := hLT.2.1
  have ht3 := hLT.1
  refine j_aload_n C dL_law_715 rfl rfl ?_
  refine j_xload_n C dL_law_716 rfl rfl ?_
  refine j_iload C dL_law_717 rfl ?_
  refine j_iconst C dL_law_719 ?_
  refine j_iadd C dL_law_720 ?_
  refine j_sld C hX (j := i + 1) (by omega) (by omega) (by omega) dL_law_721 ?_
  refine j_xload_n C dL_law_722 rfl rfl ?_
  refine j_iload C dL_law_723 rfl ?_
  refine j_iconst C dL_law_725 ?_
  refine j_iadd C dL_law_726 ?_
  refine j_sld C hX (j := i + 2) (by omega) (by omega) (by omega) dL_law_727 ?_
  refine j_if_eq C (tgt := 735) dL_law_728 (by decide) (inX _) (fun c728 => ?_) (fun c728 => ?_)
  · refine j_iconst C dL_law_735 ?_
    refine j_callV C (vs := [aI ((xs (i + 1).toNat).toInt), aI 0]) (st := []) cl_L_110 im_yX9_corner se_yX9_corner (fun _ => (c_corner _ S F A hSC hLB.1 hb hI.hp _ _ (inX _) (Or.inl rfl))) (sC_0 hSC) rfl rfl rfl ⟨rfl, rfl, by decide, by decide⟩ ⟨(by show k + 0 ≤ 601024; omega), (by show n + 0 ≤ 7293034; omega)⟩ (fun _ => Nat.le_of_ble_eq_true rfl) (fun v hv => by cases hv) (fun v hv => by simp only [List.mem_cons, List.not_mem_nil, or_false, Option.some.injEq, reduceCtorEq, false_or] at hv; rcases hv with rfl | rfl | rfl | rfl | rfl <;> first | exact (lS (sC_0 hSC)) | exact (lS (sM_100 hSM)) | exact (lS h90) | exact trivial) dL_law_736 (fun v_736 S_736 F_736 A_736 hP_736 => ?_)
    obtain ⟨rfl, n9, rfl, rfl, hn9, hlr, hO9⟩ := hP_736
    rw [← hI.pt] at hlr
    obtain ⟨r9, er⟩ : ∃ r : Int, r = (if 0 ≤ ((xs (i + 1).toNat).toInt) ∧ ((xs (i + 1).toNat).toInt) < n9 then (if (0 : Int) = 1 then A_736 19 ((xs (i + 1).toNat).toInt) else A_736 18 ((xs (i + 1).toNat).toInt)) else -1) := ⟨_, rfl⟩
    rw [← er]
    have hr9 : inR r9 := by rw [er]; split; (rename_i q; have y := PT_rng (LR_in hlr q.1 q.2); split <;> exact ⟨by omega, by omega⟩); exact ⟨by decide, by decide⟩
    show ab_J E 7 k n S (upF F 8 2 n9) A_736 739 [some (aX (.ref b)), some (aR 0), some (aR 100), some (aR 90), some (aI i), none, none] [aI r9]
    refine j_aload_n C dL_law_739 rfl rfl ?_
    refine j_xload_n C dL_law_740 rfl rfl ?_
    refine j_iload C dL_law_741 rfl ?_
    refine j_iconst C dL_law_743 ?_
    refine j_iadd C dL_law_744 ?_
    refine j_sld C hX (j := i + 1) (by omega) (by omega) (by omega) dL_law_745 ?_
    refine j_xload_n C dL_law_746 rfl rfl ?_
    refine j_iload C dL_law_747 rfl ?_
    refine j_iconst C dL_law_749 ?_
    refine j_iadd C dL_law_750 ?_
    refine j_sld C hX (j := i + 2) (by omega) (by omega) (by omega) dL_law_751 ?_
    refine j_if_eq C (tgt := 759) dL_law_752 (by decide) (inX _) (fun c752 => ?_) (fun c752 => ?_)
    · refine j_iconst C dL_law_759 ?_
      refine j_callV C (vs := [aI ((xs (i + 1).toNat).toInt), aI 0]) (st := [aI r9]) cl_L_114 im_yX10_corner se_yX10_corner (fun _ => (m_corner _ S (upF F 8 2 n9) A_736 hSM _ _ (inX _) (Or.inl rfl) n9 _ _ ⟨hn9.1, by omega⟩ (by rw [hO9 106 (by decide) (by decide) (by decide) (by decide) (by decide)]; exact hlr) (by show 0 ≤ F 100 11 ∧ F 100 11 ≤ 10; rw [hb3]; exact hb) (fun sq z1 z2 b z3 z4 => by rw [hO9 106 (by decide) (by decide) (by decide) (by decide) (by decide)]; have := hI.fp b sq z3 z4 z1 z2; exact ⟨by omega, by omega⟩))) (sM_100 hSM) rfl rfl rfl ⟨rfl, rfl, by decide, by decide⟩ ⟨(by show k + 0 ≤ 601024; omega), (by show n + 0 ≤ 7293034; omega)⟩ (fun _ => Nat.le_of_ble_eq_true rfl) (fun v hv => by simp only [List.mem_cons, List.not_mem_nil, or_false] at hv; rcases hv with rfl <;> first | exact trivial) (fun v hv => by simp only [List.mem_cons, List.not_mem_nil, or_false, Option.some.injEq, reduceCtorEq, false_or] at hv; rcases hv with rfl | rfl | rfl | rfl | rfl <;> first | exact (lS (sC_0 hSC)) | exact (lS (sM_100 hSM)) | exact (lS h90) | exact trivial) dL_law_760 (fun v_760 S_760 F_760 A_760 hP_760 => ?_)
      obtain ⟨rfl, rfl, rfl, hm2⟩ := hP_760
      rw [← er]
      have hI9 := hI.to (F' := (upF (upF (upF F 8 2 n9) 100 0 0) 100 24 n9)) (A' := A_760) (fun i z => by rw [upF_o (by omega), upF_o (by omega), upF_o (by omega)]) (fun k z => by rw [upF_ne (by omega), upF_ne (by omega), upF_o (by decide)]) (fun i z => (hm2 i (by omega) (by omega) (by omega) (by omega)).trans (hO9 i (by omega) (by omega) (by omega) (by omega) (by omega)))
      show ab_J E 7 k n S (upF (upF (upF F 8 2 n9) 100 0 0) 100 24 n9) A_760 763 [some (aX (.ref b)), some (aR 0), some (aR 100), some (aR 90), some (aI i), none, none] [aI r9, aI r9]
      refine j_icmp_eq C (tgt := 1175) dL_law_763 (by decide) hr9 hr9 (fun c763 => ?_) (fun c763 => ?_)
      · exact j_widen (by omega) (by omega) (go _ _ _ _ _ hI9)
      · exact absurd rfl c763
    · exact absurd c728 c752
  · refine j_iconst C dL_law_731 ?_
    refine j_goto C (tgt := 736) dL_law_732 (by decide) ?_
    refine j_callV C (vs := [aI ((xs (i + 1).toNat).toInt), aI 1]) (st := []) cl_L_110 im_yX9_corner se_yX9_corner (fun _ => (c_corner _ S F A hSC hLB.1 hb hI.hp _ _ (inX _) (Or.inr rfl))) (sC_0 hSC) rfl rfl rfl ⟨rfl, rfl, by decide, by decide⟩ ⟨(by show k + 0 ≤ 601024; omega), (by show n + 0 ≤ 7293034; omega)⟩ (fun _ => Nat.le_of_ble_eq_true rfl) (fun v hv => by cases hv) (fun v hv => by simp only [List.mem_cons, List.not_mem_nil, or_false, Option.some.injEq, reduceCtorEq, false_or] at hv; rcases hv with rfl | rfl | rfl | rfl | rfl <;> first | exact (lS (sC_0 hSC)) | exact (lS (sM_100 hSM)) | exact (lS h90) | exact trivial) dL_law_736 (fun v_736 S_736 F_736 A_736 hP_736 => ?_)
    obtain ⟨rfl, n9, rfl, rfl, hn9, hlr, hO9⟩ := hP_736
    rw [← hI.pt] at hlr
    obtain ⟨r9, er⟩ : ∃ r : Int, r = (if 0 ≤ ((xs (i + 1).toNat).toInt) ∧ ((xs (i + 1).toNat).toInt) < n9 then (if (1 : Int) = 1 then A_736 19 ((xs (i + 1).toNat).toInt) else A_736 18 ((xs (i + 1).toNat).toInt)) else -1) := ⟨_, rfl⟩
    rw [← er]
    have hr9 : inR r9 := by rw [er]; split; (rename_i q; have y := PT_rng (LR_in hlr q.1 q.2); split <;> exact ⟨by omega, by omega⟩); exact ⟨by decide, by decide⟩
    show ab_J E 7 k n S (upF F 8 2 n9) A_736 739 [some (aX (.ref b)), some (aR 0), some (aR 100), some (aR 90), some (aI i), none, none] [aI r9]
    refine j_aload_n C dL_law_739 rfl rfl ?_
    refine j_xload_n C dL_law_740 rfl rfl ?_
    refine j_iload C dL_law_741 rfl ?_
    refine j_iconst C dL_law_743 ?_
    refine j_iadd C dL_law_744 ?_
    refine j_sld C hX (j := i + 1) (by omega) (by omega) (by omega) dL_law_745 ?_
    refine j_xload_n C dL_law_746 rfl rfl ?_
    refine j_iload C dL_law_747 rfl ?_
    refine j_iconst C dL_law_749 ?_
    refine j_iadd C dL_law_750 ?_
    refine j_sld C hX (j := i + 2) (by omega) (by omega) (by omega) dL_law_751 ?_
    refine j_if_eq C (tgt := 759) dL_law_752 (by decide) (inX _) (fun c752 => ?_) (fun c752 => ?_)
    · exact absurd c752 c728
    · refine j_iconst C dL_law_755 ?_
      refine j_goto C (tgt := 760) dL_law_756 (by decide) ?_
      refine j_callV C (vs := [aI ((xs (i + 1).toNat).toInt), aI 1]) (st := [aI r9]) cl_L_114 im_yX10_corner se_yX10_corner (fun _ => (m_corner _ S (upF F 8 2 n9) A_736 hSM _ _ (inX _) (Or.inr rfl) n9 _ _ ⟨hn9.1, by omega⟩ (by rw [hO9 106 (by decide) (by decide) (by decide) (by decide) (by decide)]; exact hlr) (by show 0 ≤ F 100 11 ∧ F 100 11 ≤ 10; rw [hb3]; exact hb) (fun sq z1 z2 b z3 z4 => by rw [hO9 106 (by decide) (by decide) (by decide) (by decide) (by decide)]; have := hI.fp b sq z3 z4 z1 z2; exact ⟨by omega, by omega⟩))) (sM_100 hSM) rfl rfl rfl ⟨rfl, rfl, by decide, by decide⟩ ⟨(by show k + 0 ≤ 601024; omega), (by show n + 0 ≤ 7293034; omega)⟩ (fun _ => Nat.le_of_ble_eq_true rfl) (fun v hv => by simp only [List.mem_cons, List.not_mem_nil, or_false] at hv; rcases hv with rfl <;> first | exact trivial) (fun v hv => by simp only [List.mem_cons, List.not_mem_nil, or_false, Option.some.injEq, reduceCtorEq, false_or] at hv; rcases hv with rfl | rfl | rfl | rfl | rfl <;> first | exact (lS (sC_0 hSC)) | exact (lS (sM_100 hSM)) | exact (lS h90) | exact trivial) dL_law_760 (fun v_760 S_760 F_760 A_760 hP_760 => ?_)
      obtain ⟨rfl, rfl, rfl, hm2⟩ := hP_760
      rw [← er]
      have hI9 := hI.to (F' := (upF (upF (upF F 8 2 n9) 100 0 0) 100 24 n9)) (A' := A_760) (fun i z => by rw [upF_o (by omega), upF_o (by omega), upF_o (by omega)]) (fun k z => by rw [upF_ne (by omega), upF_ne (by omega), upF_o (by decide)]) (fun i z => (hm2 i (by omega) (by omega) (by omega) (by omega)).trans (hO9 i (by omega) (by omega) (by omega) (by omega) (by omega)))
      show ab_J E 7 k n S (upF (upF (upF F 8 2 n9) 100 0 0) 100 24 n9) A_760 763 [some (aX (.ref b)), some (aR 0), some (aR 100), some (aR 90), some (aI i), none, none] [aI r9, aI r9]
      refine j_icmp_eq C (tgt := 1175) dL_law_763 (by decide) hr9 hr9 (fun c763 => ?_) (fun c763 => ?_)
      · exact j_widen (by omega) (by omega) (go _ _ _ _ _ hI9)
      · exact absurd rfl c763

set_option maxHeartbeats 4000000 in
set_option maxRecDepth 100000 in
theorem lc_13 {E : ab_E} (C : ab_C E cL_law 7 yL_law room_1) {b L : Nat} {xs : Nat → Int32} (hX : ab_X E b L xs) (hL : L ≤ 3072) {k n : Nat} (hk : k + 5 ≤ 601024) (hn : n + 345 ≤ 7293034) {S : ab_St} {F : ab_Fn} {A : ab_An} {U : Int → bst} {nc : Nat → Nat} {T : Int} (hT : 0 ≤ T ∧ T ≤ 512) (hI : LI S F A U nc T) {i : Int} (hi : 0 ≤ i ∧ i + 6 ≤ L)
    (go : ∀ S2 F2 A2 U2 nc2, LI S2 F2 A2 U2 nc2 (T + 1) → ab_J E 7 (k + 5) (n + 345) S2 F2 A2 1175 [some (aX (.ref b)), some (aR 0), some (aR 100), some (aR 90), some (aI i), none, none] []) : ab_J E 7 k n S F A 825 [some (aX (.ref b)), some (aR 0), some (aR 100), some (aR 90), some (aI i), none, none] [] := by
  obtain ⟨⟨hSC, hSM, h90⟩, hLB, hLW, hLT, hLS, hLF⟩ := id hI
  have hb := hLB.2.1
  have hb3 := hLB.2.2.1
  have hw9 := hLW.2.1
  have hw3 := hLW.2.2.1
  have ht := hLT.2.1
  have ht3 := hLT.1
  refine j_aload_n C dL_law_825 rfl rfl ?_
  refine j_callV C (vs := []) (st := []) cl_L_123 im_yX9_fault se_yX9_fault (fun _ => (c_fault _ S F A hSC)) (sC_0 hSC) rfl rfl rfl ⟨rfl, rfl, by decide, by decide⟩ ⟨(by show k + 0 ≤ 601024; omega), (by show n + 0 ≤ 7293034; omega)⟩ (fun _ => Nat.le_of_ble_eq_true rfl) (fun v hv => by cases hv) (fun v hv => by simp only [List.mem_cons, List.not_mem_nil, or_false, Option.some.injEq, reduceCtorEq, false_or] at hv; rcases hv with rfl | rfl | rfl | rfl | rfl <;> first | exact (lS (sC_0 hSC)) | exact (lS (sM_100 hSM)) | exact (lS h90) | exact trivial) dL_law_826 (fun v_826 S_826 F_826 A_826 hP_826 => ?_)
  obtain ⟨rfl, rfl, rfl, rfl⟩ := hP_826
  show ab_J E 7 k n S F A 829 [some (aX (.ref b)), some (aR 0), some (aR 100), some (aR 90), some (aI i), none, none] [aI (F 0 12)]
  refine j_aload_n C dL_law_829 rfl rfl ?_
  refine j_callV C (vs := []) (st := [aI (F 0 12)]) cl_L_126 im_yX10_fault se_yX10_fault (fun _ => (m_fault _ S F A hSM)) (sM_100 hSM) rfl rfl rfl ⟨rfl, rfl, by decide, by decide⟩ ⟨(by show k + 0 ≤ 601024; omega), (by show n + 0 ≤ 7293034; omega)⟩ (fun _ => Nat.le_of_ble_eq_true rfl) (fun v hv => by simp only [List.mem_cons, List.not_mem_nil, or_false] at hv; rcases hv with rfl <;> first | exact trivial) (fun v hv => by simp only [List.mem_cons, List.not_mem_nil, or_false, Option.some.injEq, reduceCtorEq, false_or] at hv; rcases hv with rfl | rfl | rfl | rfl | rfl <;> first | exact (lS (sC_0 hSC)) | exact (lS (sM_100 hSM)) | exact (lS h90) | exact trivial) dL_law_830 (fun v_830 S_830 F_830 A_830 hP_830 => ?_)
  obtain ⟨rfl, rfl, rfl, rfl⟩ := hP_830
  rw [hLF.2.2.2.2.1]
  have hI9 := hI.to (F' := upF F 100 0 0) (A' := A) (fun i z => upF_o (by omega)) (fun k z => upF_ne (by omega)) (fun _ _ => rfl)
  show ab_J E 7 k n S (upF F 100 0 0) A 833 [some (aX (.ref b)), some (aR 0), some (aR 100), some (aR 90), some (aI i), none, none] [aI (F 0 12), aI (F 0 12)]
  refine j_icmp_eq C (tgt := 1175) dL_law_833 (by decide) hLF.2.2.2.2.2 hLF.2.2.2.2.2 (fun c833 => ?_) (fun c833 => ?_)
  · exact j_widen (by omega) (by omega) (go _ _ _ _ _ hI9)
  · exact absurd rfl c833

set_option maxHeartbeats 4000000 in
set_option maxRecDepth 100000 in
theorem lc_17 {E : ab_E} (C : ab_C E cL_law 7 yL_law room_1) {b L : Nat} {xs : Nat → Int32} (hX : ab_X E b L xs) (hL : L ≤ 3072) {k n : Nat} (hk : k + 5 ≤ 601024) (hn : n + 345 ≤ 7293034) {S : ab_St} {F : ab_Fn} {A : ab_An} {U : Int → bst} {nc : Nat → Nat} {T : Int} (hT : 0 ≤ T ∧ T ≤ 512) (hI : LI S F A U nc T) {i : Int} (hi : 0 ≤ i ∧ i + 6 ≤ L)
    (go : ∀ S2 F2 A2 U2 nc2, LI S2 F2 A2 U2 nc2 (T + 1) → ab_J E 7 (k + 5) (n + 345) S2 F2 A2 1175 [some (aX (.ref b)), some (aR 0), some (aR 100), some (aR 90), some (aI i), none, none] []) : ab_J E 7 k n S F A 1032 [some (aX (.ref b)), some (aR 0), some (aR 100), some (aR 90), some (aI i), none, none] [] := by
  obtain ⟨⟨hSC, hSM, h90⟩, hLB, hLW, hLT, hLS, hLF⟩ := id hI
  have hb := hLB.2.1
  have hb3 := hLB.2.2.1
  have hw9 := hLW.2.1
  have hw3 := hLW.2.2.1
  have ht := hLT.2.1
  have ht3 := hLT.1
  refine j_aload_n C dL_law_1032 rfl rfl ?_
  refine j_xload_n C dL_law_1033 rfl rfl ?_
  refine j_iload C dL_law_1034 rfl ?_
  refine j_iconst C dL_law_1036 ?_
  refine j_iadd C dL_law_1037 ?_
  refine j_sld C hX (j := i + 1) (by omega) (by omega) (by omega) dL_law_1038 ?_
  rcases (show (¬ (0 ≤ ((xs (i + 1).toNat).toInt) ∧ ((xs (i + 1).toNat).toInt) < F 4 1)) ∨ ((0 ≤ ((xs (i + 1).toNat).toInt) ∧ ((xs (i + 1).toNat).toInt) < F 4 1)) by by_cases q0 : (0 ≤ ((xs (i + 1).toNat).toInt) ∧ ((xs (i + 1).toNat).toInt) < F 4 1); (exact Or.inr (q0)); exact Or.inl q0) with hq | hq1
  · refine j_callV C (vs := [aI ((xs (i + 1).toNat).toInt)]) (st := []) cl_L_136 im_yX9_taped se_yX9_taped (fun _ => (c_taped _ S F A hSC _ (inX _) ht)) (sC_0 hSC) rfl rfl rfl ⟨rfl, rfl, by decide, by decide⟩ ⟨(by show k + 0 ≤ 601024; omega), (by show n + 0 ≤ 7293034; omega)⟩ (fun _ => Nat.le_of_ble_eq_true rfl) (fun v hv => by cases hv) (fun v hv => by simp only [List.mem_cons, List.not_mem_nil, or_false, Option.some.injEq, reduceCtorEq, false_or] at hv; rcases hv with rfl | rfl | rfl | rfl | rfl <;> first | exact (lS (sC_0 hSC)) | exact (lS (sM_100 hSM)) | exact (lS h90) | exact trivial) dL_law_1039 (fun v_1039 S_1039 F_1039 A_1039 hP_1039 => ?_)
    obtain ⟨rfl, hF9, rfl, hc⟩ := hP_1039
    obtain rfl := hF9.symm
    obtain rfl : v_1039 = some (aI (-1)) := by rcases hc with h | h; exact h.1; exact absurd h.1 hq
    show ab_J E 7 k n S F A 1042 [some (aX (.ref b)), some (aR 0), some (aR 100), some (aR 90), some (aI i), none, none] [aI (-1)]
    refine j_aload_n C dL_law_1042 rfl rfl ?_
    refine j_xload_n C dL_law_1043 rfl rfl ?_
    refine j_iload C dL_law_1044 rfl ?_
    refine j_iconst C dL_law_1046 ?_
    refine j_iadd C dL_law_1047 ?_
    refine j_sld C hX (j := i + 1) (by omega) (by omega) (by omega) dL_law_1048 ?_
    refine j_callV C (vs := [aI ((xs (i + 1).toNat).toInt)]) (st := [aI (-1)]) cl_L_139 im_yX10_taped se_yX10_taped (fun _ => (m_taped _ S F A hSM _ (inX _) (by show 0 ≤ F 100 26 ∧ F 100 26 ≤ 400; rw [ht3]; exact ht))) (sM_100 hSM) rfl rfl rfl ⟨rfl, rfl, by decide, by decide⟩ ⟨(by show k + 0 ≤ 601024; omega), (by show n + 0 ≤ 7293034; omega)⟩ (fun _ => Nat.le_of_ble_eq_true rfl) (fun v hv => by simp only [List.mem_cons, List.not_mem_nil, or_false] at hv; rcases hv with rfl <;> first | exact trivial) (fun v hv => by simp only [List.mem_cons, List.not_mem_nil, or_false, Option.some.injEq, reduceCtorEq, false_or] at hv; rcases hv with rfl | rfl | rfl | rfl | rfl <;> first | exact (lS (sC_0 hSC)) | exact (lS (sM_100 hSM)) | exact (lS h90) | exact trivial) dL_law_1049 (fun v_1049 S_1049 F_1049 A_1049 hP_1049 => ?_)
    obtain ⟨rfl, rfl, rfl, hm⟩ := hP_1049
    obtain rfl : v_1049 = some (aI (-1)) := by rcases hm with h | h; exact h.1; exact absurd h.1 (by rw [ht3]; exact hq)
    have hI9 := hI.to (F' := upF F 100 0 0) (A' := A) (fun i z => upF_o (by omega)) (fun k z => upF_ne (by omega)) (fun _ _ => rfl)
    show ab_J E 7 k n S (upF F 100 0 0) A 1052 [some (aX (.ref b)), some (aR 0), some (aR 100), some (aR 90), some (aI i), none, none] [aI (-1), aI (-1)]
    refine j_icmp_eq C (tgt := 1175) dL_law_1052 (by decide) ⟨by omega, by omega⟩ ⟨by omega, by omega⟩ (fun c1052 => ?_) (fun c1052 => ?_)
    · exact j_widen (by omega) (by omega) (go _ _ _ _ _ hI9)
    · exact absurd rfl c1052
  · refine j_callV C (vs := [aI ((xs (i + 1).toNat).toInt)]) (st := []) cl_L_136 im_yX9_taped se_yX9_taped (fun _ => (c_taped _ S F A hSC _ (inX _) ht)) (sC_0 hSC) rfl rfl rfl ⟨rfl, rfl, by decide, by decide⟩ ⟨(by show k + 0 ≤ 601024; omega), (by show n + 0 ≤ 7293034; omega)⟩ (fun _ => Nat.le_of_ble_eq_true rfl) (fun v hv => by cases hv) (fun v hv => by simp only [List.mem_cons, List.not_mem_nil, or_false, Option.some.injEq, reduceCtorEq, false_or] at hv; rcases hv with rfl | rfl | rfl | rfl | rfl <;> first | exact (lS (sC_0 hSC)) | exact (lS (sM_100 hSM)) | exact (lS h90) | exact trivial) dL_law_1039 (fun v_1039 S_1039 F_1039 A_1039 hP_1039 => ?_)
    obtain ⟨rfl, hF9, rfl, hc⟩ := hP_1039
    obtain rfl := hF9.symm
    obtain rfl : v_1039 = some (aI (A 15 ((xs (i + 1).toNat).toInt))) := by rcases hc with h | h; exact absurd hq1 h.2; exact h.2
    have e9 := hLT.2.2 _ hq1.1 hq1.2
    show ab_J E 7 k n S F A 1042 [some (aX (.ref b)), some (aR 0), some (aR 100), some (aR 90), some (aI i), none, none] [aI (A 15 ((xs (i + 1).toNat).toInt))]
    refine j_aload_n C dL_law_1042 rfl rfl ?_
    refine j_xload_n C dL_law_1043 rfl rfl ?_
    refine j_iload C dL_law_1044 rfl ?_
    refine j_iconst C dL_law_1046 ?_
    refine j_iadd C dL_law_1047 ?_
    refine j_sld C hX (j := i + 1) (by omega) (by omega) (by omega) dL_law_1048 ?_
    refine j_callV C (vs := [aI ((xs (i + 1).toNat).toInt)]) (st := [aI (A 15 ((xs (i + 1).toNat).toInt))]) cl_L_139 im_yX10_taped se_yX10_taped (fun _ => (m_taped _ S F A hSM _ (inX _) (by show 0 ≤ F 100 26 ∧ F 100 26 ≤ 400; rw [ht3]; exact ht))) (sM_100 hSM) rfl rfl rfl ⟨rfl, rfl, by decide, by decide⟩ ⟨(by show k + 0 ≤ 601024; omega), (by show n + 0 ≤ 7293034; omega)⟩ (fun _ => Nat.le_of_ble_eq_true rfl) (fun v hv => by simp only [List.mem_cons, List.not_mem_nil, or_false] at hv; rcases hv with rfl <;> first | exact trivial) (fun v hv => by simp only [List.mem_cons, List.not_mem_nil, or_false, Option.some.injEq, reduceCtorEq, false_or] at hv; rcases hv with rfl | rfl | rfl | rfl | rfl <;> first | exact (lS (sC_0 hSC)) | exact (lS (sM_100 hSM)) | exact (lS h90) | exact trivial) dL_law_1049 (fun v_1049 S_1049 F_1049 A_1049 hP_1049 => ?_)
    obtain ⟨rfl, rfl, rfl, hm⟩ := hP_1049
    obtain rfl : v_1049 = some (aI (A 15 ((xs (i + 1).toNat).toInt))) := by rcases hm with h | h; exact absurd (by rw [ht3]; exact hq1) h.2; rw [h.2, e9.1]
    have hI9 := hI.to (F' := upF F 100 0 0) (A' := A) (fun i z => upF_o (by omega)) (fun k z => upF_ne (by omega)) (fun _ _ => rfl)
    show ab_J E 7 k n S (upF F 100 0 0) A 1052 [some (aX (.ref b)), some (aR 0), some (aR 100), some (aR 90), some (aI i), none, none] [aI (A 15 ((xs (i + 1).toNat).toInt)), aI (A 15 ((xs (i + 1).toNat).toInt))]
    refine j_icmp_eq C (tgt := 1175) dL_law_1052 (by decide) ⟨by omega, by omega⟩ ⟨by omega, by omega⟩ (fun c1052 => ?_) (fun c1052 => ?_)
    · exact j_widen (by omega) (by omega) (go _ _ _ _ _ hI9)
    · exact absurd rfl c1052

set_option maxHeartbeats 4000000 in
set_option maxRecDepth 100000 in
theorem lc_19 {E : ab_E} (C : ab_C E cL_law 7 yL_law room_1) {b L : Nat} {xs : Nat → Int32} (hX : ab_X E b L xs) (hL : L ≤ 3072) {k n : Nat} (hk : k + 5 ≤ 601024) (hn : n + 345 ≤ 7293034) {S : ab_St} {F : ab_Fn} {A : ab_An} {U : Int → bst} {nc : Nat → Nat} {T : Int} (hT : 0 ≤ T ∧ T ≤ 512) (hI : LI S F A U nc T) {i : Int} (hi : 0 ≤ i ∧ i + 6 ≤ L)
    (go : ∀ S2 F2 A2 U2 nc2, LI S2 F2 A2 U2 nc2 (T + 1) → ab_J E 7 (k + 5) (n + 345) S2 F2 A2 1175 [some (aX (.ref b)), some (aR 0), some (aR 100), some (aR 90), some (aI i), none, none] []) : ab_J E 7 k n S F A 1137 [some (aX (.ref b)), some (aR 0), some (aR 100), some (aR 90), some (aI i), none, none] [] := by
  obtain ⟨⟨hSC, hSM, h90⟩, hLB, hLW, hLT, hLS, hLF⟩ := id hI
  have hb := hLB.2.1
  have hb3 := hLB.2.2.1
  have hw9 := hLW.2.1
  have hw3 := hLW.2.2.1
  have ht := hLT.2.1
  have ht3 := hLT.1
  refine j_aload_n C dL_law_1137 rfl rfl ?_
  refine j_callV C (vs := []) (st := []) cl_L_144 im_yX9_flight se_yX9_flight (fun _ => (c_flight _ S F A hSC hLB.1 hb hI.hp)) (sC_0 hSC) rfl rfl rfl ⟨rfl, rfl, by decide, by decide⟩ ⟨(by show k + 0 ≤ 601024; omega), (by show n + 0 ≤ 7293034; omega)⟩ (fun _ => Nat.le_of_ble_eq_true rfl) (fun v hv => by cases hv) (fun v hv => by simp only [List.mem_cons, List.not_mem_nil, or_false, Option.some.injEq, reduceCtorEq, false_or] at hv; rcases hv with rfl | rfl | rfl | rfl | rfl <;> first | exact (lS (sC_0 hSC)) | exact (lS (sM_100 hSM)) | exact (lS h90) | exact trivial) dL_law_1138 (fun v_1138 S_1138 F_1138 A_1138 hP_1138 => ?_)
  obtain ⟨rfl, rfl, rfl, hO9⟩ := hP_1138
  obtain ⟨r9, er⟩ : ∃ r : Int, r = mz (fl (fun k => sm (fun bb => A (220 + bb.toNat) k) (F 2 2).toNat) 20) 0 14 := ⟨_, rfl⟩
  rw [← er]
  have hr9 : inR r9 := by rw [er]; exact fl_R hI
  show ab_J E 7 k n S F A_1138 1141 [some (aX (.ref b)), some (aR 0), some (aR 100), some (aR 90), some (aI i), none, none] [aI r9]
  refine j_aload_n C dL_law_1141 rfl rfl ?_
  refine j_callV C (vs := []) (st := [aI r9]) cl_L_147 im_yX10_flight se_yX10_flight (fun _ => (m_flight _ S F A_1138 hSM (by show 0 ≤ F 100 11 ∧ F 100 11 ≤ 10; rw [hb3]; exact hb) (fun b k z1 z2 z3 z4 => by rw [hO9 106 (by decide) (by decide) (by decide)]; exact hI.fp b k z1 z2 z3 z4))) (sM_100 hSM) rfl rfl rfl ⟨rfl, rfl, by decide, by decide⟩ ⟨(by show k + 0 ≤ 601024; omega), (by show n + 0 ≤ 7293034; omega)⟩ (fun _ => Nat.le_of_ble_eq_true rfl) (fun v hv => by simp only [List.mem_cons, List.not_mem_nil, or_false] at hv; rcases hv with rfl <;> first | exact trivial) (fun v hv => by simp only [List.mem_cons, List.not_mem_nil, or_false, Option.some.injEq, reduceCtorEq, false_or] at hv; rcases hv with rfl | rfl | rfl | rfl | rfl <;> first | exact (lS (sC_0 hSC)) | exact (lS (sM_100 hSM)) | exact (lS h90) | exact trivial) dL_law_1142 (fun v_1142 S_1142 F_1142 A_1142 hP_1142 => ?_)
  obtain ⟨rfl, rfl, hv2, hm2⟩ := hP_1142
  obtain rfl : v_1142 = some (aI r9) := by rw [hv2, er, hb3, hO9 106 (by decide) (by decide) (by decide)]; exact congrArg (fun z => some (aI z)) (fl_eq hI)
  have hI9 := hI.to (F' := upF F 100 0 0) (A' := A_1142) (fun i z => upF_o (by omega)) (fun k z => upF_ne (by omega)) (fun i z => (hm2 i (by omega)).trans (hO9 i (by omega) (by omega) (by omega)))
  show ab_J E 7 k n S (upF F 100 0 0) A_1142 1145 [some (aX (.ref b)), some (aR 0), some (aR 100), some (aR 90), some (aI i), none, none] [aI r9, aI r9]
  refine j_icmp_eq C (tgt := 1175) dL_law_1145 (by decide) hr9 hr9 (fun c1145 => ?_) (fun c1145 => ?_)
  · exact j_widen (by omega) (by omega) (go _ _ _ _ _ hI9)
  · exact absurd rfl c1145

set_option maxHeartbeats 4000000 in
set_option maxRecDepth 100000 in
theorem lc_20 {E : ab_E} (C : ab_C E cL_law 7 yL_law room_1) {b L : Nat} {xs : Nat → Int32} (hX : ab_X E b L xs) (hL : L ≤ 3072) {k n : Nat} (hk : k + 5 ≤ 601024) (hn : n + 345 ≤ 7293034) {S : ab_St} {F : ab_Fn} {A : ab_An} {U : Int → bst} {nc : Nat → Nat} {T : Int} (hT : 0 ≤ T ∧ T ≤ 512) (hI : LI S F A U nc T) {i : Int} (hi : 0 ≤ i ∧ i + 6 ≤ L)
    (go : ∀ S2 F2 A2 U2 nc2, LI S2 F2 A2 U2 nc2 (T + 1) → ab_J E 7 (k + 5) (n + 345) S2 F2 A2 1175 [some (aX (.ref b)), some (aR 0), some (aR 100), some (aR 90), some (aI i), none, none] []) : ab_J E 7 k n S F A 1150 [some (aX (.ref b)), some (aR 0), some (aR 100), some (aR 90), some (aI i), none, none] [] := by
  obtain ⟨⟨hSC, hSM, h90⟩, hLB, hLW, hLT, hLS, hLF⟩ := id hI
  have hb := hLB.2.1
  have hb3 := hLB.2.2.1
  have hw9 := hLW.2.1
  have hw3 := hLW.2.2.1
  have ht := hLT.2.1
  have ht3 := hLT.1
  have hnow := hLF.2.1
  refine j_aload_n C dL_law_1150 rfl rfl ?_
  refine j_xload_n C dL_law_1151 rfl rfl ?_
  refine j_iload C dL_law_1152 rfl ?_
  refine j_iconst C dL_law_1154 ?_
  refine j_iadd C dL_law_1155 ?_
  refine j_sld C hX (j := i + 1) (by omega) (by omega) (by omega) dL_law_1156 ?_
  refine j_callV C (vs := [aI ((xs (i + 1).toNat).toInt)]) (st := []) cl_L_148 im_yX9_count se_yX9_count (fun _ => (c_count _ S F A hSC _ (inX _) hLB.1 hb hI.hg hI.hp nc hLW.1 hw9 hI.hv ⟨by omega, by omega⟩)) (sC_0 hSC) rfl rfl rfl ⟨rfl, rfl, by decide, by decide⟩ ⟨(by show k + 0 ≤ 601024; omega), (by show n + 0 ≤ 7293034; omega)⟩ (fun _ => Nat.le_of_ble_eq_true rfl) (fun v hv => by cases hv) (fun v hv => by simp only [List.mem_cons, List.not_mem_nil, or_false, Option.some.injEq, reduceCtorEq, false_or] at hv; rcases hv with rfl | rfl | rfl | rfl | rfl <;> first | exact (lS (sC_0 hSC)) | exact (lS (sM_100 hSM)) | exact (lS h90) | exact trivial) dL_law_1157 (fun v_1157 S_1157 F_1157 A_1157 hP_1157 => ?_)
  obtain ⟨rfl, rfl, hO9, r9, rfl, hc⟩ := hP_1157
  have hr9 := countR hI hT hc
  show ab_J E 7 k n S F A_1157 1160 [some (aX (.ref b)), some (aR 0), some (aR 100), some (aR 90), some (aI i), none, none] [aI r9]
  refine j_aload_n C dL_law_1160 rfl rfl ?_
  refine j_xload_n C dL_law_1161 rfl rfl ?_
  refine j_iload C dL_law_1162 rfl ?_
  refine j_iconst C dL_law_1164 ?_
  refine j_iadd C dL_law_1165 ?_
  refine j_sld C hX (j := i + 1) (by omega) (by omega) (by omega) dL_law_1166 ?_
  refine j_callV C (vs := [aI ((xs (i + 1).toNat).toInt)]) (st := [aI r9]) cl_L_151 im_yX10_count se_yX10_count (fun _ => (m_count _ S F A_1157 hSM _ (inX _) (by show 0 ≤ F 100 11 ∧ F 100 11 ≤ 10; rw [hb3]; exact hb) (fun b z1 z2 => by rw [hO9 110 (by decide)]; have y := hLB.2.2.2.1 b z1 (by omega); rw [y.2.1.2.2.2.2]; exact y.2.2.2.2.2.2.1) (fun b k z1 z2 z3 z4 => by rw [hO9 106 (by decide)]; exact hI.fp b k z1 z2 z3 z4) (by show 0 ≤ F 100 18 ∧ F 100 18 ≤ 40; rw [hw3]; exact hw9) (by rw [hLF.1]; exact ⟨by omega, by omega⟩) (fun x z1 z2 => by rw [hO9 116 (by decide), hO9 117 (by decide)]; exact hLW.2.2.2.2.2 x z1 (by omega)))) (sM_100 hSM) rfl rfl rfl ⟨rfl, rfl, by decide, by decide⟩ ⟨(by show k + 0 ≤ 601024; omega), (by show n + 0 ≤ 7293034; omega)⟩ (fun _ => Nat.le_of_ble_eq_true rfl) (fun v hv => by simp only [List.mem_cons, List.not_mem_nil, or_false] at hv; rcases hv with rfl <;> first | exact trivial) (fun v hv => by simp only [List.mem_cons, List.not_mem_nil, or_false, Option.some.injEq, reduceCtorEq, false_or] at hv; rcases hv with rfl | rfl | rfl | rfl | rfl <;> first | exact (lS (sC_0 hSC)) | exact (lS (sM_100 hSM)) | exact (lS h90) | exact trivial) dL_law_1167 (fun v_1167 S_1167 F_1167 A_1167 hP_1167 => ?_)
  obtain ⟨rfl, rfl, rfl, r2, rfl, hm⟩ := hP_1167
  rw [hO9 106 (by decide), hO9 110 (by decide), hO9 116 (by decide), hO9 117 (by decide)] at hm
  obtain rfl := (countE hI hc hm).symm
  have hI9 := hI.to (F' := upF F 100 0 0) (A' := A_1157) (fun i z => upF_o (by omega)) (fun k z => upF_ne (by omega)) (fun i z => hO9 i (by omega))
  show ab_J E 7 k n S (upF F 100 0 0) A_1157 1170 [some (aX (.ref b)), some (aR 0), some (aR 100), some (aR 90), some (aI i), none, none] [aI r9, aI r9]
  refine j_icmp_eq C (tgt := 1175) dL_law_1170 (by decide) hr9 hr9 (fun c1170 => ?_) (fun c1170 => ?_)
  · exact j_widen (by omega) (by omega) (go _ _ _ _ _ hI9)
  · exact absurd rfl c1170

set_option maxHeartbeats 4000000 in
set_option maxRecDepth 100000 in
theorem lc_15 {E : ab_E} (C : ab_C E cL_law 7 yL_law room_1) {b L : Nat} {xs : Nat → Int32} (hX : ab_X E b L xs) (hL : L ≤ 3072) {k n : Nat} (hk : k + 5 ≤ 601024) (hn : n + 345 ≤ 7293034) {S : ab_St} {F : ab_Fn} {A : ab_An} {U : Int → bst} {nc : Nat → Nat} {T : Int} (hT : 0 ≤ T ∧ T ≤ 512) (hI : LI S F A U nc T) {i : Int} (hi : 0 ≤ i ∧ i + 6 ≤ L)
    (go : ∀ S2 F2 A2 U2 nc2, LI S2 F2 A2 U2 nc2 (T + 1) → ab_J E 7 (k + 5) (n + 345) S2 F2 A2 1175 [some (aX (.ref b)), some (aR 0), some (aR 100), some (aR 90), some (aI i), none, none] []) : ab_J E 7 k n S F A 901 [some (aX (.ref b)), some (aR 0), some (aR 100), some (aR 90), some (aI i), none, none] [] := by
  obtain ⟨⟨hSC, hSM, h90⟩, hLB, hLW, hLT, hLS, hLF⟩ := id hI
  have hb := hLB.2.1
  have hb3 := hLB.2.2.1
  have hw9 := hLW.2.1
  have hw3 := hLW.2.2.1
  have ht := hLT.2.1
  have ht3 := hLT.1
  refine j_aload_n C dL_law_901 rfl rfl ?_
  refine j_xload_n C dL_law_902 rfl rfl ?_
  refine j_iload C dL_law_903 rfl ?_
  refine j_iconst C dL_law_905 ?_
  refine j_iadd C dL_law_906 ?_
  refine j_sld C hX (j := i + 1) (by omega) (by omega) (by omega) dL_law_907 ?_
  refine j_xload_n C dL_law_908 rfl rfl ?_
  refine j_iload C dL_law_909 rfl ?_
  refine j_iconst C dL_law_911 ?_
  refine j_iadd C dL_law_912 ?_
  refine j_sld C hX (j := i + 2) (by omega) (by omega) (by omega) dL_law_913 ?_
  refine j_aload_n C dL_law_914 rfl rfl ?_
  rcases (show (¬ (0 ≤ ((xs (i + 1).toNat).toInt) ∧ ((xs (i + 1).toNat).toInt) < F 3 2)) ∨ ((0 ≤ ((xs (i + 1).toNat).toInt) ∧ ((xs (i + 1).toNat).toInt) < F 3 2)) by by_cases q0 : (0 ≤ ((xs (i + 1).toNat).toInt) ∧ ((xs (i + 1).toNat).toInt) < F 3 2); (exact Or.inr (q0)); exact Or.inl q0) with hq | hq1
  · refine j_callSH C (vs := [aR 0, aI ((xs (i + 1).toNat).toInt), aI ((xs (i + 2).toNat).toInt), aR 90]) (st := []) clh_force (ab_t4 (List.mem_of_getElem? (i := 154) rfl) rfl) (fun _ => (h_force_IOB _ S F A (sC_0 hSC) h90 _ _ _ (fun _ => x_force _ S F A hSC nc hLW.1 hw9 _ _ (inX _) hq))) rfl ⟨rfl, rfl, by decide, by decide⟩ ⟨(by show k + 1 ≤ 601024; omega), (by show n + 6 ≤ 7293034; omega)⟩ (fun _ => Nat.le_of_ble_eq_true rfl) (fun v hv => by cases hv) (fun v hv => by simp only [List.mem_cons, List.not_mem_nil, or_false, Option.some.injEq, reduceCtorEq, false_or] at hv; rcases hv with rfl | rfl | rfl | rfl | rfl <;> first | exact (lS (sC_0 hSC)) | exact (lS (sM_100 hSM)) | exact (lS h90) | exact trivial) dL_law_915 (fun v_915 S_915 F_915 A_915 hP_915 => ?_)
    obtain ⟨rfl, rfl, rfl, rfl⟩ := hP_915
    show ab_J E 7 (k + 1) (n + 6) S F A 918 [some (aX (.ref b)), some (aR 0), some (aR 100), some (aR 90), some (aI i), none, none] [aI 1]
    refine j_istore C (lv' := [some (aX (.ref b)), some (aR 0), some (aR 100), some (aR 90), some (aI i), some (aI 1), none]) dL_law_918 (by decide) rfl ?_
    refine j_aload_n C dL_law_920 rfl rfl ?_
    refine j_xload_n C dL_law_921 rfl rfl ?_
    refine j_iload C dL_law_922 rfl ?_
    refine j_iconst C dL_law_924 ?_
    refine j_iadd C dL_law_925 ?_
    refine j_sld C hX (j := i + 1) (by omega) (by omega) (by omega) dL_law_926 ?_
    refine j_xload_n C dL_law_927 rfl rfl ?_
    refine j_iload C dL_law_928 rfl ?_
    refine j_iconst C dL_law_930 ?_
    refine j_iadd C dL_law_931 ?_
    refine j_sld C hX (j := i + 2) (by omega) (by omega) (by omega) dL_law_932 ?_
    refine j_callV C (vs := [aI ((xs (i + 1).toNat).toInt), aI ((xs (i + 2).toNat).toInt)]) (st := []) cl_L_132 im_yX10_force se_yX10_force (fun _ => (m_force _ S F A hSM _ _ (inX _) (inX _) (by show 0 ≤ F 100 18 ∧ F 100 18 ≤ 40; rw [hw3]; exact hw9) (fun w z1 z2 => by show inR (A 116 w) ∧ inR (A 117 w); exact hLW.2.2.2.2.2 w z1 z2))) (sM_100 hSM) rfl rfl rfl ⟨rfl, rfl, by decide, by decide⟩ ⟨(by show (k + 1) + 0 ≤ 601024; omega), (by show (n + 6) + 0 ≤ 7293034; omega)⟩ (fun _ => Nat.le_of_ble_eq_true rfl) (fun v hv => by cases hv) (fun v hv => by simp only [List.mem_cons, List.not_mem_nil, or_false, Option.some.injEq, reduceCtorEq, false_or] at hv; rcases hv with rfl | rfl | rfl | rfl | rfl | rfl <;> first | exact (lS (sC_0 hSC)) | exact (lS (sM_100 hSM)) | exact (lS h90) | exact trivial) dL_law_933 (fun v_933 S_933 F_933 A_933 hP_933 => ?_)
    obtain ⟨rfl, rfl, t9, r2, rfl, rfl, hm⟩ := hP_933
    obtain rfl : t9 = 1 := by rcases hm with h | h; exact h.1; exact absurd h.2.1 (by rw [hw3]; exact hq)
    have ht9 : (upF F 100 0 1) 100 0 = 1 := rfl
    have hI9 := hI.to (F' := upF F 100 0 1) (A' := A) (fun i z => upF_o (by omega)) (fun k z => upF_ne (by omega)) (fun _ _ => rfl)
    show ab_J E 7 (k + 1) (n + 6) S (upF F 100 0 1) A 936 [some (aX (.ref b)), some (aR 0), some (aR 100), some (aR 90), some (aI i), some (aI 1), none] [aI r2]
    refine j_istore C (lv' := [some (aX (.ref b)), some (aR 0), some (aR 100), some (aR 90), some (aI i), some (aI 1), some (aI r2)]) dL_law_936 (by decide) rfl ?_
    refine j_aload_n C dL_law_938 rfl rfl ?_
    refine j_callV C (vs := []) (st := []) cl_L_82 im_yX10_thrown se_yX10_thrown (fun _ => (m_thrown _ S (upF F 100 0 1) A hSM)) (sM_100 hSM) rfl rfl rfl ⟨rfl, rfl, by decide, by decide⟩ ⟨(by show (k + 1) + 0 ≤ 601024; omega), (by show (n + 6) + 0 ≤ 7293034; omega)⟩ (fun _ => Nat.le_of_ble_eq_true rfl) (fun v hv => by cases hv) (fun v hv => by simp only [List.mem_cons, List.not_mem_nil, or_false, Option.some.injEq, reduceCtorEq, false_or] at hv; rcases hv with rfl | rfl | rfl | rfl | rfl | rfl | rfl <;> first | exact (lS (sC_0 hSC)) | exact (lS (sM_100 hSM)) | exact (lS h90) | exact trivial) dL_law_939 (fun v_939 S_939 F_939 A_939 hP_939 => ?_)
    obtain ⟨rfl, rfl, rfl, rfl⟩ := hP_939
    rw [ht9]
    show ab_J E 7 (k + 1) (n + 6) S (upF F 100 0 1) A 942 [some (aX (.ref b)), some (aR 0), some (aR 100), some (aR 90), some (aI i), some (aI 1), some (aI r2)] [aI 1]
    refine j_iload C dL_law_942 rfl ?_
    refine j_icmp_eq C (tgt := 949) dL_law_944 (by decide) ⟨by omega, by omega⟩ ⟨by omega, by omega⟩ (fun c944 => ?_) (fun c944 => ?_)
    · refine j_iload C dL_law_949 rfl ?_
      refine j_if_ne C (tgt := 973) dL_law_951 (by decide) ⟨by omega, by omega⟩ (fun c951 => ?_) (fun c951 => ?_)
      · refine j_goto C (tgt := 1175) dL_law_973 (by decide) ?_
        refine j_lv (lv' := [some (aX (.ref b)), some (aR 0), some (aR 100), some (aR 90), some (aI i), none, none]) ?_ ⟨rfl, rfl, rfl, rfl, rfl, trivial⟩
        exact j_widen (by omega) (by omega) (go _ _ _ _ _ hI9)
      · exact absurd c951 (by decide)
    · exact absurd c944 (by decide)
  · refine j_callSH C (vs := [aR 0, aI ((xs (i + 1).toNat).toInt), aI ((xs (i + 2).toNat).toInt), aR 90]) (st := []) clh_force (ab_t4 (List.mem_of_getElem? (i := 154) rfl) rfl) (fun _ => (h_force_ok _ S F A (sC_0 hSC) h90 _ _ _ (fun _ => c_force _ S F A hSC _ _ hq1 (inX _) nc hLW.1 hw9 hI.hv) (fun v S' F' A' h => by obtain ⟨h1, -, -, z, e, hz⟩ := h; exact ⟨⟨z, e, hz.c⟩, h1 ▸ h90⟩))) rfl ⟨rfl, rfl, by decide, by decide⟩ ⟨(by show k + 0 ≤ 601024; omega), (by show n + 0 ≤ 7293034; omega)⟩ (fun _ => Nat.le_of_ble_eq_true rfl) (fun v hv => by cases hv) (fun v hv => by simp only [List.mem_cons, List.not_mem_nil, or_false, Option.some.injEq, reduceCtorEq, false_or] at hv; rcases hv with rfl | rfl | rfl | rfl | rfl <;> first | exact (lS (sC_0 hSC)) | exact (lS (sM_100 hSM)) | exact (lS h90) | exact trivial) dL_law_915 (fun v_915 S_915 F_915 A_915 hP_915 => ?_)
    obtain ⟨rfl, r9, A9, hc, rfl⟩ := hP_915
    obtain ⟨rfl, rfl, rfl, z8, hc4, hc5⟩ := hc
    obtain rfl := aI_inj hc4
    show ab_J E 7 k n S F (upA A 90 0 r9) 918 [some (aX (.ref b)), some (aR 0), some (aR 100), some (aR 90), some (aI i), none, none] [aI 0]
    refine j_istore C (lv' := [some (aX (.ref b)), some (aR 0), some (aR 100), some (aR 90), some (aI i), some (aI 0), none]) dL_law_918 (by decide) rfl ?_
    refine j_aload_n C dL_law_920 rfl rfl ?_
    refine j_xload_n C dL_law_921 rfl rfl ?_
    refine j_iload C dL_law_922 rfl ?_
    refine j_iconst C dL_law_924 ?_
    refine j_iadd C dL_law_925 ?_
    refine j_sld C hX (j := i + 1) (by omega) (by omega) (by omega) dL_law_926 ?_
    refine j_xload_n C dL_law_927 rfl rfl ?_
    refine j_iload C dL_law_928 rfl ?_
    refine j_iconst C dL_law_930 ?_
    refine j_iadd C dL_law_931 ?_
    refine j_sld C hX (j := i + 2) (by omega) (by omega) (by omega) dL_law_932 ?_
    refine j_callV C (vs := [aI ((xs (i + 1).toNat).toInt), aI ((xs (i + 2).toNat).toInt)]) (st := []) cl_L_132 im_yX10_force se_yX10_force (fun _ => (m_force _ S F (upA A 90 0 r9) hSM _ _ (inX _) (inX _) (by show 0 ≤ F 100 18 ∧ F 100 18 ≤ 40; rw [hw3]; exact hw9) (fun w z1 z2 => by show inR (A 116 w) ∧ inR (A 117 w); exact hLW.2.2.2.2.2 w z1 z2))) (sM_100 hSM) rfl rfl rfl ⟨rfl, rfl, by decide, by decide⟩ ⟨(by show k + 0 ≤ 601024; omega), (by show n + 0 ≤ 7293034; omega)⟩ (fun _ => Nat.le_of_ble_eq_true rfl) (fun v hv => by cases hv) (fun v hv => by simp only [List.mem_cons, List.not_mem_nil, or_false, Option.some.injEq, reduceCtorEq, false_or] at hv; rcases hv with rfl | rfl | rfl | rfl | rfl | rfl <;> first | exact (lS (sC_0 hSC)) | exact (lS (sM_100 hSM)) | exact (lS h90) | exact trivial) dL_law_933 (fun v_933 S_933 F_933 A_933 hP_933 => ?_)
    obtain ⟨rfl, rfl, t9, r2, rfl, rfl, hm⟩ := hP_933
    obtain ⟨rfl, e2⟩ : t9 = 0 ∧ r2 = r9 := by rcases hm with h | h; exact absurd (by rw [hw3]; exact hq1) h.2; exact ⟨h.1, zb.eq h.2.2 hc5 (hI.inF hq1)⟩
    subst e2
    have hz2 := hc5.c
    have h90r : (upA A 90 0 r2) 90 0 = r2 := rfl
    have ht9 : (upF F 100 0 0) 100 0 = 0 := rfl
    have hI9 := hI.to (F' := upF F 100 0 0) (A' := upA A 90 0 r2) (fun i z => upF_o (by omega)) (fun k z => upF_ne (by omega)) (fun i z => upA_other (by omega))
    show ab_J E 7 k n S (upF F 100 0 0) (upA A 90 0 r2) 936 [some (aX (.ref b)), some (aR 0), some (aR 100), some (aR 90), some (aI i), some (aI 0), none] [aI r2]
    refine j_istore C (lv' := [some (aX (.ref b)), some (aR 0), some (aR 100), some (aR 90), some (aI i), some (aI 0), some (aI r2)]) dL_law_936 (by decide) rfl ?_
    refine j_aload_n C dL_law_938 rfl rfl ?_
    refine j_callV C (vs := []) (st := []) cl_L_82 im_yX10_thrown se_yX10_thrown (fun _ => (m_thrown _ S (upF F 100 0 0) (upA A 90 0 r2) hSM)) (sM_100 hSM) rfl rfl rfl ⟨rfl, rfl, by decide, by decide⟩ ⟨(by show k + 0 ≤ 601024; omega), (by show n + 0 ≤ 7293034; omega)⟩ (fun _ => Nat.le_of_ble_eq_true rfl) (fun v hv => by cases hv) (fun v hv => by simp only [List.mem_cons, List.not_mem_nil, or_false, Option.some.injEq, reduceCtorEq, false_or] at hv; rcases hv with rfl | rfl | rfl | rfl | rfl | rfl | rfl <;> first | exact (lS (sC_0 hSC)) | exact (lS (sM_100 hSM)) | exact (lS h90) | exact trivial) dL_law_939 (fun v_939 S_939 F_939 A_939 hP_939 => ?_)
    obtain ⟨rfl, rfl, rfl, rfl⟩ := hP_939
    rw [ht9]
    show ab_J E 7 k n S (upF F 100 0 0) (upA A 90 0 r2) 942 [some (aX (.ref b)), some (aR 0), some (aR 100), some (aR 90), some (aI i), some (aI 0), some (aI r2)] [aI 0]
    refine j_iload C dL_law_942 rfl ?_
    refine j_icmp_eq C (tgt := 949) dL_law_944 (by decide) ⟨by omega, by omega⟩ ⟨by omega, by omega⟩ (fun c944 => ?_) (fun c944 => ?_)
    · refine j_iload C dL_law_949 rfl ?_
      refine j_if_ne C (tgt := 973) dL_law_951 (by decide) ⟨by omega, by omega⟩ (fun c951 => ?_) (fun c951 => ?_)
      · exact absurd c951 (by decide)
      · refine j_aload_n C dL_law_954 rfl rfl ?_
        refine j_iconst C dL_law_955 ?_
        refine j_lald C h90 (by omega) (by omega) (by decide) dL_law_956 ?_
        refine j_iload C dL_law_957 rfl ?_
        refine j_if_eq C (tgt := 966) dL_law_959 (by decide) ⟨by omega, by omega⟩ (fun c959 => ?_) (fun c959 => ?_)
        · refine j_lconst C dL_law_966 ?_
          refine j_lcmpE C (by rw [h90r]; omega) dL_law_967 ?_
          refine j_if_eq C (tgt := 973) dL_law_968 (by decide) ⟨by omega, by omega⟩ (fun c968 => ?_) (fun c968 => ?_)
          · refine j_goto C (tgt := 1175) dL_law_973 (by decide) ?_
            refine j_lv (lv' := [some (aX (.ref b)), some (aR 0), some (aR 100), some (aR 90), some (aI i), none, none]) ?_ ⟨rfl, rfl, rfl, rfl, rfl, trivial⟩
            exact j_widen (by omega) (by omega) (go _ _ _ _ _ hI9)
          · exact absurd c968 (by decide)
        · refine j_lconst C dL_law_962 ?_
          refine j_goto C (tgt := 967) dL_law_963 (by decide) ?_
          refine j_lcmpE C (by rw [h90r]; omega) dL_law_967 ?_
          refine j_if_eq C (tgt := 973) dL_law_968 (by decide) ⟨by omega, by omega⟩ (fun c968 => ?_) (fun c968 => ?_)
          · refine j_goto C (tgt := 1175) dL_law_973 (by decide) ?_
            refine j_lv (lv' := [some (aX (.ref b)), some (aR 0), some (aR 100), some (aR 90), some (aI i), none, none]) ?_ ⟨rfl, rfl, rfl, rfl, rfl, trivial⟩
            exact j_widen (by omega) (by omega) (go _ _ _ _ _ hI9)
          · exact absurd c968 (by decide)
    · exact absurd c944 (by decide)

set_option maxHeartbeats 4000000 in
set_option maxRecDepth 100000 in
theorem lc_14 {E : ab_E} (C : ab_C E cL_law 7 yL_law room_1) {b L : Nat} {xs : Nat → Int32} (hX : ab_X E b L xs) (hL : L ≤ 3072) {k n : Nat} (hk : k + 5 ≤ 601024) (hn : n + 345 ≤ 7293034) {S : ab_St} {F : ab_Fn} {A : ab_An} {U : Int → bst} {nc : Nat → Nat} {T : Int} (hT : 0 ≤ T ∧ T ≤ 512) (hI : LI S F A U nc T) {i : Int} (hi : 0 ≤ i ∧ i + 6 ≤ L)
    (go : ∀ S2 F2 A2 U2 nc2, LI S2 F2 A2 U2 nc2 (T + 1) → ab_J E 7 (k + 5) (n + 345) S2 F2 A2 1175 [some (aX (.ref b)), some (aR 0), some (aR 100), some (aR 90), some (aI i), none, none] []) : ab_J E 7 k n S F A 838 [some (aX (.ref b)), some (aR 0), some (aR 100), some (aR 90), some (aI i), none, none] [] := by
  obtain ⟨⟨hSC, hSM, h90⟩, hLB, hLW, hLT, hLS, hLF⟩ := id hI
  have hb := hLB.2.1
  have hb3 := hLB.2.2.1
  have hw9 := hLW.2.1
  have hw3 := hLW.2.2.1
  have ht := hLT.2.1
  have ht3 := hLT.1
  refine j_aload_n C dL_law_838 rfl rfl ?_
  refine j_xload_n C dL_law_839 rfl rfl ?_
  refine j_iload C dL_law_840 rfl ?_
  refine j_iconst C dL_law_842 ?_
  refine j_iadd C dL_law_843 ?_
  refine j_sld C hX (j := i + 1) (by omega) (by omega) (by omega) dL_law_844 ?_
  refine j_aload_n C dL_law_845 rfl rfl ?_
  rcases (show (¬ (0 ≤ ((xs (i + 1).toNat).toInt) ∧ ((xs (i + 1).toNat).toInt) < F 3 2)) ∨ ((0 ≤ ((xs (i + 1).toNat).toInt) ∧ ((xs (i + 1).toNat).toInt) < F 3 2) ∧ ¬ (F (300 + (((xs (i + 1).toNat).toInt)).toNat) 4 = 0)) ∨ ((0 ≤ ((xs (i + 1).toNat).toInt) ∧ ((xs (i + 1).toNat).toInt) < F 3 2) ∧ (F (300 + (((xs (i + 1).toNat).toInt)).toNat) 4 = 0)) by by_cases q0 : (0 ≤ ((xs (i + 1).toNat).toInt) ∧ ((xs (i + 1).toNat).toInt) < F 3 2); (by_cases q1 : (F (300 + (((xs (i + 1).toNat).toInt)).toNat) 4 = 0); (exact Or.inr (Or.inr (⟨q0, q1⟩))); exact Or.inr (Or.inl ⟨q0, q1⟩)); exact Or.inl q0) with hq | ⟨hq1, hq⟩ | ⟨hq1, hq2⟩
  · refine j_callSH C (vs := [aR 0, aI ((xs (i + 1).toNat).toInt), aR 90]) (st := []) clh_cancel (ab_t4 (List.mem_of_getElem? (i := 142) rfl) rfl) (fun _ => (h_cancel_IOB _ S F A (sC_0 hSC) h90 _ _ (fun _ => x_cancel _ S F A hSC nc hLW.1 hw9 _ (inX _) hq))) rfl ⟨rfl, rfl, by decide, by decide⟩ ⟨(by show k + 1 ≤ 601024; omega), (by show n + 6 ≤ 7293034; omega)⟩ (fun _ => Nat.le_of_ble_eq_true rfl) (fun v hv => by cases hv) (fun v hv => by simp only [List.mem_cons, List.not_mem_nil, or_false, Option.some.injEq, reduceCtorEq, false_or] at hv; rcases hv with rfl | rfl | rfl | rfl | rfl <;> first | exact (lS (sC_0 hSC)) | exact (lS (sM_100 hSM)) | exact (lS h90) | exact trivial) dL_law_846 (fun v_846 S_846 F_846 A_846 hP_846 => ?_)
    obtain ⟨rfl, rfl, rfl, rfl⟩ := hP_846
    show ab_J E 7 (k + 1) (n + 6) S F A 849 [some (aX (.ref b)), some (aR 0), some (aR 100), some (aR 90), some (aI i), none, none] [aI 1]
    refine j_istore C (lv' := [some (aX (.ref b)), some (aR 0), some (aR 100), some (aR 90), some (aI i), some (aI 1), none]) dL_law_849 (by decide) rfl ?_
    refine j_aload_n C dL_law_851 rfl rfl ?_
    refine j_xload_n C dL_law_852 rfl rfl ?_
    refine j_iload C dL_law_853 rfl ?_
    refine j_iconst C dL_law_855 ?_
    refine j_iadd C dL_law_856 ?_
    refine j_sld C hX (j := i + 1) (by omega) (by omega) (by omega) dL_law_857 ?_
    refine j_callV C (vs := [aI ((xs (i + 1).toNat).toInt)]) (st := []) cl_L_129 im_yX10_cancel se_yX10_cancel (fun _ => (m_cancel _ S F A hSM _ (inX _) (by show 0 ≤ F 100 18 ∧ F 100 18 ≤ 40; rw [hw3]; exact hw9) (fun w z1 z2 => by show inR (A 117 w); exact (hLW.2.2.2.2.2 w z1 z2).2))) (sM_100 hSM) rfl rfl rfl ⟨rfl, rfl, by decide, by decide⟩ ⟨(by show (k + 1) + 0 ≤ 601024; omega), (by show (n + 6) + 0 ≤ 7293034; omega)⟩ (fun _ => Nat.le_of_ble_eq_true rfl) (fun v hv => by cases hv) (fun v hv => by simp only [List.mem_cons, List.not_mem_nil, or_false, Option.some.injEq, reduceCtorEq, false_or] at hv; rcases hv with rfl | rfl | rfl | rfl | rfl | rfl <;> first | exact (lS (sC_0 hSC)) | exact (lS (sM_100 hSM)) | exact (lS h90) | exact trivial) dL_law_858 (fun v_858 S_858 F_858 A_858 hP_858 => ?_)
    obtain ⟨rfl, t9, r2, rfl, rfl, hm⟩ := hP_858
    obtain ⟨rfl, rfl⟩ : t9 = 1 ∧ A = A_858 := by rcases hm with h | h | h; exact ⟨h.1, h.2.2⟩; exact absurd h.2.1 (by rw [hw3]; exact hq); exact absurd h.2.1 (by rw [hw3]; exact hq)
    have ht9 : (upF F 100 0 1) 100 0 = 1 := rfl
    have hI9 := hI.to (F' := upF F 100 0 1) (A' := A) (fun i z => upF_o (by omega)) (fun k z => upF_ne (by omega)) (fun _ _ => rfl)
    show ab_J E 7 (k + 1) (n + 6) S (upF F 100 0 1) A 861 [some (aX (.ref b)), some (aR 0), some (aR 100), some (aR 90), some (aI i), some (aI 1), none] [aI r2]
    refine j_istore C (lv' := [some (aX (.ref b)), some (aR 0), some (aR 100), some (aR 90), some (aI i), some (aI 1), some (aI r2)]) dL_law_861 (by decide) rfl ?_
    refine j_aload_n C dL_law_863 rfl rfl ?_
    refine j_callV C (vs := []) (st := []) cl_L_82 im_yX10_thrown se_yX10_thrown (fun _ => (m_thrown _ S (upF F 100 0 1) A hSM)) (sM_100 hSM) rfl rfl rfl ⟨rfl, rfl, by decide, by decide⟩ ⟨(by show (k + 1) + 0 ≤ 601024; omega), (by show (n + 6) + 0 ≤ 7293034; omega)⟩ (fun _ => Nat.le_of_ble_eq_true rfl) (fun v hv => by cases hv) (fun v hv => by simp only [List.mem_cons, List.not_mem_nil, or_false, Option.some.injEq, reduceCtorEq, false_or] at hv; rcases hv with rfl | rfl | rfl | rfl | rfl | rfl | rfl <;> first | exact (lS (sC_0 hSC)) | exact (lS (sM_100 hSM)) | exact (lS h90) | exact trivial) dL_law_864 (fun v_864 S_864 F_864 A_864 hP_864 => ?_)
    obtain ⟨rfl, rfl, rfl, rfl⟩ := hP_864
    rw [ht9]
    show ab_J E 7 (k + 1) (n + 6) S (upF F 100 0 1) A 867 [some (aX (.ref b)), some (aR 0), some (aR 100), some (aR 90), some (aI i), some (aI 1), some (aI r2)] [aI 1]
    refine j_iload C dL_law_867 rfl ?_
    refine j_icmp_eq C (tgt := 874) dL_law_869 (by decide) ⟨by omega, by omega⟩ ⟨by omega, by omega⟩ (fun c869 => ?_) (fun c869 => ?_)
    · refine j_iload C dL_law_874 rfl ?_
      refine j_if_ne C (tgt := 898) dL_law_876 (by decide) ⟨by omega, by omega⟩ (fun c876 => ?_) (fun c876 => ?_)
      · refine j_goto C (tgt := 1175) dL_law_898 (by decide) ?_
        refine j_lv (lv' := [some (aX (.ref b)), some (aR 0), some (aR 100), some (aR 90), some (aI i), none, none]) ?_ ⟨rfl, rfl, rfl, rfl, rfl, trivial⟩
        exact j_widen (by omega) (by omega) (go _ _ _ _ _ hI9)
      · exact absurd c876 (by decide)
    · exact absurd c869 (by decide)
  · refine j_callSH C (vs := [aR 0, aI ((xs (i + 1).toNat).toInt), aR 90]) (st := []) clh_cancel (ab_t4 (List.mem_of_getElem? (i := 142) rfl) rfl) (fun _ => (h_cancel_ok _ S F A (sC_0 hSC) h90 _ _ (fun _ => c_cancel _ S F A hSC _ hq1 nc hLW.1 hw9 (hI.hv _ hq1.1 hq1.2).2.1) (fun v S' F' A' h => by obtain ⟨h1, -, z, e, hz⟩ := h; exact ⟨⟨z, e, by rcases hz with q | q; exact Or.inl q.1; exact Or.inr q.1⟩, h1 ▸ h90⟩))) rfl ⟨rfl, rfl, by decide, by decide⟩ ⟨(by show k + 0 ≤ 601024; omega), (by show n + 0 ≤ 7293034; omega)⟩ (fun _ => Nat.le_of_ble_eq_true rfl) (fun v hv => by cases hv) (fun v hv => by simp only [List.mem_cons, List.not_mem_nil, or_false, Option.some.injEq, reduceCtorEq, false_or] at hv; rcases hv with rfl | rfl | rfl | rfl | rfl <;> first | exact (lS (sC_0 hSC)) | exact (lS (sM_100 hSM)) | exact (lS h90) | exact trivial) dL_law_846 (fun v_846 S_846 F_846 A_846 hP_846 => ?_)
    obtain ⟨rfl, r9, A9, hc, rfl⟩ := hP_846
    obtain ⟨rfl, rfl, z8, hc4, hc5⟩ := hc
    obtain rfl := aI_inj hc4
    obtain ⟨rfl, rfl⟩ : r9 = 0 ∧ F = F_846 := by rcases hc5 with h | h; exact ⟨h.1, h.2.2⟩; exact absurd h.2.1 hq
    show ab_J E 7 k n S F (upA A 90 0 0) 849 [some (aX (.ref b)), some (aR 0), some (aR 100), some (aR 90), some (aI i), none, none] [aI 0]
    refine j_istore C (lv' := [some (aX (.ref b)), some (aR 0), some (aR 100), some (aR 90), some (aI i), some (aI 0), none]) dL_law_849 (by decide) rfl ?_
    refine j_aload_n C dL_law_851 rfl rfl ?_
    refine j_xload_n C dL_law_852 rfl rfl ?_
    refine j_iload C dL_law_853 rfl ?_
    refine j_iconst C dL_law_855 ?_
    refine j_iadd C dL_law_856 ?_
    refine j_sld C hX (j := i + 1) (by omega) (by omega) (by omega) dL_law_857 ?_
    refine j_callV C (vs := [aI ((xs (i + 1).toNat).toInt)]) (st := []) cl_L_129 im_yX10_cancel se_yX10_cancel (fun _ => (m_cancel _ S F (upA A 90 0 0) hSM _ (inX _) (by show 0 ≤ F 100 18 ∧ F 100 18 ≤ 40; rw [hw3]; exact hw9) (fun w z1 z2 => by show inR (A 117 w); exact (hLW.2.2.2.2.2 w z1 z2).2))) (sM_100 hSM) rfl rfl rfl ⟨rfl, rfl, by decide, by decide⟩ ⟨(by show k + 0 ≤ 601024; omega), (by show n + 0 ≤ 7293034; omega)⟩ (fun _ => Nat.le_of_ble_eq_true rfl) (fun v hv => by cases hv) (fun v hv => by simp only [List.mem_cons, List.not_mem_nil, or_false, Option.some.injEq, reduceCtorEq, false_or] at hv; rcases hv with rfl | rfl | rfl | rfl | rfl | rfl <;> first | exact (lS (sC_0 hSC)) | exact (lS (sM_100 hSM)) | exact (lS h90) | exact trivial) dL_law_858 (fun v_858 S_858 F_858 A_858 hP_858 => ?_)
    obtain ⟨rfl, t9, r2, rfl, rfl, hm⟩ := hP_858
    have hw1 := (hLW.2.2.2.1 _ hq1.1 hq1.2).2.2.2.2.1
    obtain ⟨rfl, rfl, rfl⟩ : t9 = 0 ∧ r2 = 0 ∧ (upA A 90 0 0) = A_858 := by rcases hm with h | h | h; exact absurd (by rw [hw3]; exact hq1) h.2.1; exact ⟨h.1, h.2.2.1, h.2.2.2.2⟩; (exfalso; have y : A 117 ((xs (i + 1).toNat).toInt) < 0 := h.2.2.2.1; rcases hw1 with q | q; exact hq q.1; omega)
    have h90r : (upA A 90 0 0) 90 0 = 0 := rfl
    have ht9 : (upF F 100 0 0) 100 0 = 0 := rfl
    have hI9 := hI.to (F' := upF F 100 0 0) (A' := upA A 90 0 0) (fun i z => upF_o (by omega)) (fun k z => upF_ne (by omega)) (fun i z => upA_other (by omega))
    show ab_J E 7 k n S (upF F 100 0 0) (upA A 90 0 0) 861 [some (aX (.ref b)), some (aR 0), some (aR 100), some (aR 90), some (aI i), some (aI 0), none] [aI 0]
    refine j_istore C (lv' := [some (aX (.ref b)), some (aR 0), some (aR 100), some (aR 90), some (aI i), some (aI 0), some (aI 0)]) dL_law_861 (by decide) rfl ?_
    refine j_aload_n C dL_law_863 rfl rfl ?_
    refine j_callV C (vs := []) (st := []) cl_L_82 im_yX10_thrown se_yX10_thrown (fun _ => (m_thrown _ S (upF F 100 0 0) (upA A 90 0 0) hSM)) (sM_100 hSM) rfl rfl rfl ⟨rfl, rfl, by decide, by decide⟩ ⟨(by show k + 0 ≤ 601024; omega), (by show n + 0 ≤ 7293034; omega)⟩ (fun _ => Nat.le_of_ble_eq_true rfl) (fun v hv => by cases hv) (fun v hv => by simp only [List.mem_cons, List.not_mem_nil, or_false, Option.some.injEq, reduceCtorEq, false_or] at hv; rcases hv with rfl | rfl | rfl | rfl | rfl | rfl | rfl <;> first | exact (lS (sC_0 hSC)) | exact (lS (sM_100 hSM)) | exact (lS h90) | exact trivial) dL_law_864 (fun v_864 S_864 F_864 A_864 hP_864 => ?_)
    obtain ⟨rfl, rfl, rfl, rfl⟩ := hP_864
    rw [ht9]
    show ab_J E 7 k n S (upF F 100 0 0) (upA A 90 0 0) 867 [some (aX (.ref b)), some (aR 0), some (aR 100), some (aR 90), some (aI i), some (aI 0), some (aI 0)] [aI 0]
    refine j_iload C dL_law_867 rfl ?_
    refine j_icmp_eq C (tgt := 874) dL_law_869 (by decide) ⟨by omega, by omega⟩ ⟨by omega, by omega⟩ (fun c869 => ?_) (fun c869 => ?_)
    · refine j_iload C dL_law_874 rfl ?_
      refine j_if_ne C (tgt := 898) dL_law_876 (by decide) ⟨by omega, by omega⟩ (fun c876 => ?_) (fun c876 => ?_)
      · exact absurd c876 (by decide)
      · refine j_aload_n C dL_law_879 rfl rfl ?_
        refine j_iconst C dL_law_880 ?_
        refine j_lald C h90 (by omega) (by omega) (by decide) dL_law_881 ?_
        refine j_iload C dL_law_882 rfl ?_
        refine j_if_eq C (tgt := 891) dL_law_884 (by decide) ⟨by omega, by omega⟩ (fun c884 => ?_) (fun c884 => ?_)
        · refine j_lconst C dL_law_891 ?_
          refine j_lcmpE C h90r dL_law_892 ?_
          refine j_if_eq C (tgt := 898) dL_law_893 (by decide) ⟨by omega, by omega⟩ (fun c893 => ?_) (fun c893 => ?_)
          · refine j_goto C (tgt := 1175) dL_law_898 (by decide) ?_
            refine j_lv (lv' := [some (aX (.ref b)), some (aR 0), some (aR 100), some (aR 90), some (aI i), none, none]) ?_ ⟨rfl, rfl, rfl, rfl, rfl, trivial⟩
            exact j_widen (by omega) (by omega) (go _ _ _ _ _ hI9)
          · exact absurd c893 (by decide)
        · exact absurd c884 (by decide)
    · exact absurd c869 (by decide)
  · refine j_callSH C (vs := [aR 0, aI ((xs (i + 1).toNat).toInt), aR 90]) (st := []) clh_cancel (ab_t4 (List.mem_of_getElem? (i := 142) rfl) rfl) (fun _ => (h_cancel_ok _ S F A (sC_0 hSC) h90 _ _ (fun _ => c_cancel _ S F A hSC _ hq1 nc hLW.1 hw9 (hI.hv _ hq1.1 hq1.2).2.1) (fun v S' F' A' h => by obtain ⟨h1, -, z, e, hz⟩ := h; exact ⟨⟨z, e, by rcases hz with q | q; exact Or.inl q.1; exact Or.inr q.1⟩, h1 ▸ h90⟩))) rfl ⟨rfl, rfl, by decide, by decide⟩ ⟨(by show k + 0 ≤ 601024; omega), (by show n + 0 ≤ 7293034; omega)⟩ (fun _ => Nat.le_of_ble_eq_true rfl) (fun v hv => by cases hv) (fun v hv => by simp only [List.mem_cons, List.not_mem_nil, or_false, Option.some.injEq, reduceCtorEq, false_or] at hv; rcases hv with rfl | rfl | rfl | rfl | rfl <;> first | exact (lS (sC_0 hSC)) | exact (lS (sM_100 hSM)) | exact (lS h90) | exact trivial) dL_law_846 (fun v_846 S_846 F_846 A_846 hP_846 => ?_)
    obtain ⟨rfl, r9, A9, hc, rfl⟩ := hP_846
    obtain ⟨rfl, rfl, z8, hc4, hc5⟩ := hc
    obtain rfl := aI_inj hc4
    obtain ⟨rfl, hc6⟩ : r9 = 1 ∧ F_846 = (upF (upF F (300 + (((xs (i + 1).toNat).toInt)).toNat) 4 1) (300 + (((xs (i + 1).toNat).toInt)).toNat) 5 (F 0 10)) := by rcases hc5 with h | h; (exfalso; omega); exact ⟨h.1, h.2.2⟩
    have e18 : F_846 100 18 = F 3 2 := by rw [hc6, upF_o (by omega), upF_o (by omega)]; exact hw3
    show ab_J E 7 k n S F_846 (upA A 90 0 1) 849 [some (aX (.ref b)), some (aR 0), some (aR 100), some (aR 90), some (aI i), none, none] [aI 0]
    refine j_istore C (lv' := [some (aX (.ref b)), some (aR 0), some (aR 100), some (aR 90), some (aI i), some (aI 0), none]) dL_law_849 (by decide) rfl ?_
    refine j_aload_n C dL_law_851 rfl rfl ?_
    refine j_xload_n C dL_law_852 rfl rfl ?_
    refine j_iload C dL_law_853 rfl ?_
    refine j_iconst C dL_law_855 ?_
    refine j_iadd C dL_law_856 ?_
    refine j_sld C hX (j := i + 1) (by omega) (by omega) (by omega) dL_law_857 ?_
    refine j_callV C (vs := [aI ((xs (i + 1).toNat).toInt)]) (st := []) cl_L_129 im_yX10_cancel se_yX10_cancel (fun _ => (m_cancel _ S F_846 (upA A 90 0 1) hSM _ (inX _) (by rw [e18]; exact hw9) (fun w z1 z2 => by show inR (A 117 w); exact (hLW.2.2.2.2.2 w z1 z2).2))) (sM_100 hSM) rfl rfl rfl ⟨rfl, rfl, by decide, by decide⟩ ⟨(by show k + 0 ≤ 601024; omega), (by show n + 0 ≤ 7293034; omega)⟩ (fun _ => Nat.le_of_ble_eq_true rfl) (fun v hv => by cases hv) (fun v hv => by simp only [List.mem_cons, List.not_mem_nil, or_false, Option.some.injEq, reduceCtorEq, false_or] at hv; rcases hv with rfl | rfl | rfl | rfl | rfl | rfl <;> first | exact (lS (sC_0 hSC)) | exact (lS (sM_100 hSM)) | exact (lS h90) | exact trivial) dL_law_858 (fun v_858 S_858 F_858 A_858 hP_858 => ?_)
    obtain ⟨rfl, t9, r2, rfl, hm1, hm⟩ := hP_858
    have hw1 := (hLW.2.2.2.1 _ hq1.1 hq1.2).2.2.2.2.1
    obtain ⟨rfl, rfl, hm2⟩ : t9 = 0 ∧ r2 = 1 ∧ A_858 = upA (upA A 90 0 1) 117 ((xs (i + 1).toNat).toInt) (F_846 100 5) := by rcases hm with h | h | h; exact absurd (by rw [e18]; exact hq1) h.2.1; (exfalso; have y : 0 ≤ A 117 ((xs (i + 1).toNat).toInt) := h.2.2.2.1; rcases hw1 with q | q; omega; omega); exact ⟨h.1, h.2.2.1, h.2.2.2.2⟩
    have h90r : A_858 90 0 = 1 := by rw [hm2, upA_other (by decide)]; rfl
    have ht9 : F_858 100 0 = 0 := by rw [hm1, upF_at]
    have hI9 := L_cancel hI hq1 hT hc6 (fun i z => upA_other z) hm1 hm2
    show ab_J E 7 k n S F_858 A_858 861 [some (aX (.ref b)), some (aR 0), some (aR 100), some (aR 90), some (aI i), some (aI 0), none] [aI 1]
    refine j_istore C (lv' := [some (aX (.ref b)), some (aR 0), some (aR 100), some (aR 90), some (aI i), some (aI 0), some (aI 1)]) dL_law_861 (by decide) rfl ?_
    refine j_aload_n C dL_law_863 rfl rfl ?_
    refine j_callV C (vs := []) (st := []) cl_L_82 im_yX10_thrown se_yX10_thrown (fun _ => (m_thrown _ S F_858 A_858 hSM)) (sM_100 hSM) rfl rfl rfl ⟨rfl, rfl, by decide, by decide⟩ ⟨(by show k + 0 ≤ 601024; omega), (by show n + 0 ≤ 7293034; omega)⟩ (fun _ => Nat.le_of_ble_eq_true rfl) (fun v hv => by cases hv) (fun v hv => by simp only [List.mem_cons, List.not_mem_nil, or_false, Option.some.injEq, reduceCtorEq, false_or] at hv; rcases hv with rfl | rfl | rfl | rfl | rfl | rfl | rfl <;> first | exact (lS (sC_0 hSC)) | exact (lS (sM_100 hSM)) | exact (lS h90) | exact trivial) dL_law_864 (fun v_864 S_864 F_864 A_864 hP_864 => ?_)
    obtain ⟨rfl, rfl, rfl, rfl⟩ := hP_864
    rw [ht9]
    show ab_J E 7 k n S F_858 A_858 867 [some (aX (.ref b)), some (aR 0), some (aR 100), some (aR 90), some (aI i), some (aI 0), some (aI 1)] [aI 0]
    refine j_iload C dL_law_867 rfl ?_
    refine j_icmp_eq C (tgt := 874) dL_law_869 (by decide) ⟨by omega, by omega⟩ ⟨by omega, by omega⟩ (fun c869 => ?_) (fun c869 => ?_)
    · refine j_iload C dL_law_874 rfl ?_
      refine j_if_ne C (tgt := 898) dL_law_876 (by decide) ⟨by omega, by omega⟩ (fun c876 => ?_) (fun c876 => ?_)
      · exact absurd c876 (by decide)
      · refine j_aload_n C dL_law_879 rfl rfl ?_
        refine j_iconst C dL_law_880 ?_
        refine j_lald C h90 (by omega) (by omega) (by decide) dL_law_881 ?_
        refine j_iload C dL_law_882 rfl ?_
        refine j_if_eq C (tgt := 891) dL_law_884 (by decide) ⟨by omega, by omega⟩ (fun c884 => ?_) (fun c884 => ?_)
        · exact absurd c884 (by decide)
        · refine j_lconst C dL_law_887 ?_
          refine j_goto C (tgt := 892) dL_law_888 (by decide) ?_
          refine j_lcmpE C h90r dL_law_892 ?_
          refine j_if_eq C (tgt := 898) dL_law_893 (by decide) ⟨by omega, by omega⟩ (fun c893 => ?_) (fun c893 => ?_)
          · refine j_goto C (tgt := 1175) dL_law_898 (by decide) ?_
            refine j_lv (lv' := [some (aX (.ref b)), some (aR 0), some (aR 100), some (aR 90), some (aI i), none, none]) ?_ ⟨rfl, rfl, rfl, rfl, rfl, trivial⟩
            exact j_widen (by omega) (by omega) (go _ _ _ _ _ hI9)
          · exact absurd c893 (by decide)
    · exact absurd c869 (by decide)

set_option maxHeartbeats 4000000 in
set_option maxRecDepth 100000 in
theorem lc_18 {E : ab_E} (C : ab_C E cL_law 7 yL_law room_1) {b L : Nat} {xs : Nat → Int32} (hX : ab_X E b L xs) (hL : L ≤ 3072) {k n : Nat} (hk : k + 5 ≤ 601024) (hn : n + 345 ≤ 7293034) {S : ab_St} {F : ab_Fn} {A : ab_An} {U : Int → bst} {nc : Nat → Nat} {T : Int} (hT : 0 ≤ T ∧ T ≤ 512) (hI : LI S F A U nc T) {i : Int} (hi : 0 ≤ i ∧ i + 6 ≤ L)
    (go : ∀ S2 F2 A2 U2 nc2, LI S2 F2 A2 U2 nc2 (T + 1) → ab_J E 7 (k + 5) (n + 345) S2 F2 A2 1175 [some (aX (.ref b)), some (aR 0), some (aR 100), some (aR 90), some (aI i), none, none] []) : ab_J E 7 k n S F A 1057 [some (aX (.ref b)), some (aR 0), some (aR 100), some (aR 90), some (aI i), none, none] [] := by
  obtain ⟨⟨hSC, hSM, h90⟩, hLB, hLW, hLT, hLS, hLF⟩ := id hI
  have hb := hLB.2.1
  have hb3 := hLB.2.2.1
  have hw9 := hLW.2.1
  have hw3 := hLW.2.2.1
  have ht := hLT.2.1
  have ht3 := hLT.1
  refine j_aload_n C dL_law_1057 rfl rfl ?_
  refine j_xload_n C dL_law_1058 rfl rfl ?_
  refine j_iload C dL_law_1059 rfl ?_
  refine j_iconst C dL_law_1061 ?_
  refine j_iadd C dL_law_1062 ?_
  refine j_sld C hX (j := i + 1) (by omega) (by omega) (by omega) dL_law_1063 ?_
  refine j_xload_n C dL_law_1064 rfl rfl ?_
  refine j_iload C dL_law_1065 rfl ?_
  refine j_iconst C dL_law_1067 ?_
  refine j_iadd C dL_law_1068 ?_
  refine j_sld C hX (j := i + 2) (by omega) (by omega) (by omega) dL_law_1069 ?_
  refine j_xload_n C dL_law_1070 rfl rfl ?_
  refine j_iload C dL_law_1071 rfl ?_
  refine j_iconst C dL_law_1073 ?_
  refine j_iadd C dL_law_1074 ?_
  refine j_sld C hX (j := i + 3) (by omega) (by omega) (by omega) dL_law_1075 ?_
  refine j_aload_n C dL_law_1076 rfl rfl ?_
  rcases (show (¬ (0 ≤ ((xs (i + 1).toNat).toInt) ∧ ((xs (i + 1).toNat).toInt) ≤ 279)) ∨ ((0 ≤ ((xs (i + 1).toNat).toInt) ∧ ((xs (i + 1).toNat).toInt) ≤ 279) ∧ ¬ (0 ≤ ((xs (i + 2).toNat).toInt) ∧ ((xs (i + 2).toNat).toInt) ≤ 279)) ∨ ((0 ≤ ((xs (i + 1).toNat).toInt) ∧ ((xs (i + 1).toNat).toInt) ≤ 279) ∧ (0 ≤ ((xs (i + 2).toNat).toInt) ∧ ((xs (i + 2).toNat).toInt) ≤ 279)) by by_cases q0 : (0 ≤ ((xs (i + 1).toNat).toInt) ∧ ((xs (i + 1).toNat).toInt) ≤ 279); (by_cases q1 : (0 ≤ ((xs (i + 2).toNat).toInt) ∧ ((xs (i + 2).toNat).toInt) ≤ 279); (exact Or.inr (Or.inr (⟨q0, q1⟩))); exact Or.inr (Or.inl ⟨q0, q1⟩)); exact Or.inl q0) with hq | ⟨hq1, hq⟩ | ⟨hq1, hq2⟩
  · refine j_callSH C (vs := [aR 0, aI ((xs (i + 1).toNat).toInt), aI ((xs (i + 2).toNat).toInt), aI ((xs (i + 3).toNat).toInt), aR 90]) (st := []) clh_way (ab_t4 (List.mem_of_getElem? (i := 181) rfl) rfl) (fun _ => (h_way_IOB _ S F A (sC_0 hSC) h90 _ _ _ _ (fun _ => x_way1 _ S F A hSC _ _ _ (inX _) hq))) rfl ⟨rfl, rfl, by decide, by decide⟩ ⟨(by show k + 1 ≤ 601024; omega), (by show n + 6 ≤ 7293034; omega)⟩ (fun _ => Nat.le_of_ble_eq_true rfl) (fun v hv => by cases hv) (fun v hv => by simp only [List.mem_cons, List.not_mem_nil, or_false, Option.some.injEq, reduceCtorEq, false_or] at hv; rcases hv with rfl | rfl | rfl | rfl | rfl <;> first | exact (lS (sC_0 hSC)) | exact (lS (sM_100 hSM)) | exact (lS h90) | exact trivial) dL_law_1077 (fun v_1077 S_1077 F_1077 A_1077 hP_1077 => ?_)
    obtain ⟨rfl, rfl, rfl, rfl⟩ := hP_1077
    show ab_J E 7 (k + 1) (n + 6) S F A 1080 [some (aX (.ref b)), some (aR 0), some (aR 100), some (aR 90), some (aI i), none, none] [aI 1]
    refine j_istore C (lv' := [some (aX (.ref b)), some (aR 0), some (aR 100), some (aR 90), some (aI i), some (aI 1), none]) dL_law_1080 (by decide) rfl ?_
    refine j_aload_n C dL_law_1082 rfl rfl ?_
    refine j_xload_n C dL_law_1083 rfl rfl ?_
    refine j_iload C dL_law_1084 rfl ?_
    refine j_iconst C dL_law_1086 ?_
    refine j_iadd C dL_law_1087 ?_
    refine j_sld C hX (j := i + 1) (by omega) (by omega) (by omega) dL_law_1088 ?_
    refine j_xload_n C dL_law_1089 rfl rfl ?_
    refine j_iload C dL_law_1090 rfl ?_
    refine j_iconst C dL_law_1092 ?_
    refine j_iadd C dL_law_1093 ?_
    refine j_sld C hX (j := i + 2) (by omega) (by omega) (by omega) dL_law_1094 ?_
    refine j_xload_n C dL_law_1095 rfl rfl ?_
    refine j_iload C dL_law_1096 rfl ?_
    refine j_iconst C dL_law_1098 ?_
    refine j_iadd C dL_law_1099 ?_
    refine j_sld C hX (j := i + 3) (by omega) (by omega) (by omega) dL_law_1100 ?_
    refine j_callV C (vs := [aI ((xs (i + 1).toNat).toInt), aI ((xs (i + 2).toNat).toInt), aI ((xs (i + 3).toNat).toInt)]) (st := []) cl_L_143 im_yX10_way se_yX10_way (fun _ => (m_way _ S F A hSM _ _ _ (inX _) (inX _) (inX _) (by show 0 ≤ F 100 18 ∧ F 100 18 ≤ 40; rw [hw3]; exact hw9) (fun k z1 z2 => by rw [hLS.1.1]; exact (hLS.2 k z1 z2).1) (fun w z1 z2 => by have y := hLW.2.2.2.1 w z1 (by omega); obtain ⟨q1, q2, q3, -⟩ := y; exact ⟨hLW.2.2.2.2.2 w z1 (by omega), by omega, fun k y1 y2 => by have := q3 k y1 (by omega); omega⟩))) (sM_100 hSM) rfl rfl rfl ⟨rfl, rfl, by decide, by decide⟩ ⟨(by show (k + 1) + 0 ≤ 601024; omega), (by show (n + 6) + 0 ≤ 7293034; omega)⟩ (fun _ => Nat.le_of_ble_eq_true rfl) (fun v hv => by cases hv) (fun v hv => by simp only [List.mem_cons, List.not_mem_nil, or_false, Option.some.injEq, reduceCtorEq, false_or] at hv; rcases hv with rfl | rfl | rfl | rfl | rfl | rfl <;> first | exact (lS (sC_0 hSC)) | exact (lS (sM_100 hSM)) | exact (lS h90) | exact trivial) dL_law_1101 (fun v_1101 S_1101 F_1101 A_1101 hP_1101 => ?_)
    obtain ⟨rfl, t9, r2, rfl, rfl, hm⟩ := hP_1101
    obtain ⟨rfl, rfl⟩ : t9 = 1 ∧ A = A_1101 := by rcases hm with h | h; exact ⟨h.1, h.2.2⟩; exact absurd h.2.1 hq
    have ht9 : (upF F 100 0 1) 100 0 = 1 := rfl
    have hI9 := hI.to (F' := upF F 100 0 1) (A' := A) (fun i z => upF_o (by omega)) (fun k z => upF_ne (by omega)) (fun _ _ => rfl)
    show ab_J E 7 (k + 1) (n + 6) S (upF F 100 0 1) A 1104 [some (aX (.ref b)), some (aR 0), some (aR 100), some (aR 90), some (aI i), some (aI 1), none] [aI r2]
    refine j_istore C (lv' := [some (aX (.ref b)), some (aR 0), some (aR 100), some (aR 90), some (aI i), some (aI 1), some (aI r2)]) dL_law_1104 (by decide) rfl ?_
    refine j_aload_n C dL_law_1106 rfl rfl ?_
    refine j_callV C (vs := []) (st := []) cl_L_82 im_yX10_thrown se_yX10_thrown (fun _ => (m_thrown _ S (upF F 100 0 1) A hSM)) (sM_100 hSM) rfl rfl rfl ⟨rfl, rfl, by decide, by decide⟩ ⟨(by show (k + 1) + 0 ≤ 601024; omega), (by show (n + 6) + 0 ≤ 7293034; omega)⟩ (fun _ => Nat.le_of_ble_eq_true rfl) (fun v hv => by cases hv) (fun v hv => by simp only [List.mem_cons, List.not_mem_nil, or_false, Option.some.injEq, reduceCtorEq, false_or] at hv; rcases hv with rfl | rfl | rfl | rfl | rfl | rfl | rfl <;> first | exact (lS (sC_0 hSC)) | exact (lS (sM_100 hSM)) | exact (lS h90) | exact trivial) dL_law_1107 (fun v_1107 S_1107 F_1107 A_1107 hP_1107 => ?_)
    obtain ⟨rfl, rfl, rfl, rfl⟩ := hP_1107
    rw [ht9]
    show ab_J E 7 (k + 1) (n + 6) S (upF F 100 0 1) A 1110 [some (aX (.ref b)), some (aR 0), some (aR 100), some (aR 90), some (aI i), some (aI 1), some (aI r2)] [aI 1]
    refine j_iload C dL_law_1110 rfl ?_
    refine j_icmp_eq C (tgt := 1117) dL_law_1112 (by decide) ⟨by omega, by omega⟩ ⟨by omega, by omega⟩ (fun c1112 => ?_) (fun c1112 => ?_)
    · refine j_iload C dL_law_1117 rfl ?_
      refine j_if_ne C (tgt := 1134) dL_law_1119 (by decide) ⟨by omega, by omega⟩ (fun c1119 => ?_) (fun c1119 => ?_)
      · refine j_goto C (tgt := 1175) dL_law_1134 (by decide) ?_
        refine j_lv (lv' := [some (aX (.ref b)), some (aR 0), some (aR 100), some (aR 90), some (aI i), none, none]) ?_ ⟨rfl, rfl, rfl, rfl, rfl, trivial⟩
        exact j_widen (by omega) (by omega) (go _ _ _ _ _ hI9)
      · exact absurd c1119 (by decide)
    · exact absurd c1112 (by decide)
  · refine j_callSH C (vs := [aR 0, aI ((xs (i + 1).toNat).toInt), aI ((xs (i + 2).toNat).toInt), aI ((xs (i + 3).toNat).toInt), aR 90]) (st := []) clh_way (ab_t4 (List.mem_of_getElem? (i := 181) rfl) rfl) (fun _ => (h_way_IOB _ S F A (sC_0 hSC) h90 _ _ _ _ (fun _ => x_way2 _ S F A hSC _ _ _ hq1 (inX _) hq))) rfl ⟨rfl, rfl, by decide, by decide⟩ ⟨(by show k + 1 ≤ 601024; omega), (by show n + 6 ≤ 7293034; omega)⟩ (fun _ => Nat.le_of_ble_eq_true rfl) (fun v hv => by cases hv) (fun v hv => by simp only [List.mem_cons, List.not_mem_nil, or_false, Option.some.injEq, reduceCtorEq, false_or] at hv; rcases hv with rfl | rfl | rfl | rfl | rfl <;> first | exact (lS (sC_0 hSC)) | exact (lS (sM_100 hSM)) | exact (lS h90) | exact trivial) dL_law_1077 (fun v_1077 S_1077 F_1077 A_1077 hP_1077 => ?_)
    obtain ⟨rfl, rfl, rfl, rfl⟩ := hP_1077
    show ab_J E 7 (k + 1) (n + 6) S F A 1080 [some (aX (.ref b)), some (aR 0), some (aR 100), some (aR 90), some (aI i), none, none] [aI 1]
    refine j_istore C (lv' := [some (aX (.ref b)), some (aR 0), some (aR 100), some (aR 90), some (aI i), some (aI 1), none]) dL_law_1080 (by decide) rfl ?_
    refine j_aload_n C dL_law_1082 rfl rfl ?_
    refine j_xload_n C dL_law_1083 rfl rfl ?_
    refine j_iload C dL_law_1084 rfl ?_
    refine j_iconst C dL_law_1086 ?_
    refine j_iadd C dL_law_1087 ?_
    refine j_sld C hX (j := i + 1) (by omega) (by omega) (by omega) dL_law_1088 ?_
    refine j_xload_n C dL_law_1089 rfl rfl ?_
    refine j_iload C dL_law_1090 rfl ?_
    refine j_iconst C dL_law_1092 ?_
    refine j_iadd C dL_law_1093 ?_
    refine j_sld C hX (j := i + 2) (by omega) (by omega) (by omega) dL_law_1094 ?_
    refine j_xload_n C dL_law_1095 rfl rfl ?_
    refine j_iload C dL_law_1096 rfl ?_
    refine j_iconst C dL_law_1098 ?_
    refine j_iadd C dL_law_1099 ?_
    refine j_sld C hX (j := i + 3) (by omega) (by omega) (by omega) dL_law_1100 ?_
    refine j_callV C (vs := [aI ((xs (i + 1).toNat).toInt), aI ((xs (i + 2).toNat).toInt), aI ((xs (i + 3).toNat).toInt)]) (st := []) cl_L_143 im_yX10_way se_yX10_way (fun _ => (m_way _ S F A hSM _ _ _ (inX _) (inX _) (inX _) (by show 0 ≤ F 100 18 ∧ F 100 18 ≤ 40; rw [hw3]; exact hw9) (fun k z1 z2 => by rw [hLS.1.1]; exact (hLS.2 k z1 z2).1) (fun w z1 z2 => by have y := hLW.2.2.2.1 w z1 (by omega); obtain ⟨q1, q2, q3, -⟩ := y; exact ⟨hLW.2.2.2.2.2 w z1 (by omega), by omega, fun k y1 y2 => by have := q3 k y1 (by omega); omega⟩))) (sM_100 hSM) rfl rfl rfl ⟨rfl, rfl, by decide, by decide⟩ ⟨(by show (k + 1) + 0 ≤ 601024; omega), (by show (n + 6) + 0 ≤ 7293034; omega)⟩ (fun _ => Nat.le_of_ble_eq_true rfl) (fun v hv => by cases hv) (fun v hv => by simp only [List.mem_cons, List.not_mem_nil, or_false, Option.some.injEq, reduceCtorEq, false_or] at hv; rcases hv with rfl | rfl | rfl | rfl | rfl | rfl <;> first | exact (lS (sC_0 hSC)) | exact (lS (sM_100 hSM)) | exact (lS h90) | exact trivial) dL_law_1101 (fun v_1101 S_1101 F_1101 A_1101 hP_1101 => ?_)
    obtain ⟨rfl, t9, r2, rfl, rfl, hm⟩ := hP_1101
    obtain ⟨rfl, rfl⟩ : t9 = 1 ∧ A = A_1101 := by rcases hm with h | h; exact ⟨h.1, h.2.2⟩; exact absurd h.2.2.1 hq
    have ht9 : (upF F 100 0 1) 100 0 = 1 := rfl
    have hI9 := hI.to (F' := upF F 100 0 1) (A' := A) (fun i z => upF_o (by omega)) (fun k z => upF_ne (by omega)) (fun _ _ => rfl)
    show ab_J E 7 (k + 1) (n + 6) S (upF F 100 0 1) A 1104 [some (aX (.ref b)), some (aR 0), some (aR 100), some (aR 90), some (aI i), some (aI 1), none] [aI r2]
    refine j_istore C (lv' := [some (aX (.ref b)), some (aR 0), some (aR 100), some (aR 90), some (aI i), some (aI 1), some (aI r2)]) dL_law_1104 (by decide) rfl ?_
    refine j_aload_n C dL_law_1106 rfl rfl ?_
    refine j_callV C (vs := []) (st := []) cl_L_82 im_yX10_thrown se_yX10_thrown (fun _ => (m_thrown _ S (upF F 100 0 1) A hSM)) (sM_100 hSM) rfl rfl rfl ⟨rfl, rfl, by decide, by decide⟩ ⟨(by show (k + 1) + 0 ≤ 601024; omega), (by show (n + 6) + 0 ≤ 7293034; omega)⟩ (fun _ => Nat.le_of_ble_eq_true rfl) (fun v hv => by cases hv) (fun v hv => by simp only [List.mem_cons, List.not_mem_nil, or_false, Option.some.injEq, reduceCtorEq, false_or] at hv; rcases hv with rfl | rfl | rfl | rfl | rfl | rfl | rfl <;> first | exact (lS (sC_0 hSC)) | exact (lS (sM_100 hSM)) | exact (lS h90) | exact trivial) dL_law_1107 (fun v_1107 S_1107 F_1107 A_1107 hP_1107 => ?_)
    obtain ⟨rfl, rfl, rfl, rfl⟩ := hP_1107
    rw [ht9]
    show ab_J E 7 (k + 1) (n + 6) S (upF F 100 0 1) A 1110 [some (aX (.ref b)), some (aR 0), some (aR 100), some (aR 90), some (aI i), some (aI 1), some (aI r2)] [aI 1]
    refine j_iload C dL_law_1110 rfl ?_
    refine j_icmp_eq C (tgt := 1117) dL_law_1112 (by decide) ⟨by omega, by omega⟩ ⟨by omega, by omega⟩ (fun c1112 => ?_) (fun c1112 => ?_)
    · refine j_iload C dL_law_1117 rfl ?_
      refine j_if_ne C (tgt := 1134) dL_law_1119 (by decide) ⟨by omega, by omega⟩ (fun c1119 => ?_) (fun c1119 => ?_)
      · refine j_goto C (tgt := 1175) dL_law_1134 (by decide) ?_
        refine j_lv (lv' := [some (aX (.ref b)), some (aR 0), some (aR 100), some (aR 90), some (aI i), none, none]) ?_ ⟨rfl, rfl, rfl, rfl, rfl, trivial⟩
        exact j_widen (by omega) (by omega) (go _ _ _ _ _ hI9)
      · exact absurd c1119 (by decide)
    · exact absurd c1112 (by decide)
  · refine j_callSH C (vs := [aR 0, aI ((xs (i + 1).toNat).toInt), aI ((xs (i + 2).toNat).toInt), aI ((xs (i + 3).toNat).toInt), aR 90]) (st := []) clh_way (ab_t4 (List.mem_of_getElem? (i := 181) rfl) rfl) (fun _ => (h_way_ok _ S F A (sC_0 hSC) h90 _ _ _ _ (fun _ => c_way _ S F A hSC _ _ _ hq1 hq2 (inX _) nc hLW.1 hw9 hI.hv (fun k z1 z2 => (hLS.2 k z1 z2).1) (fun w => wIn (A (350 + w.toNat)) (A (400 + w.toNat)) (nc w.toNat : Nat)) (fun _ _ => wIn_01) (fun w z1 z2 => (hLW.2.2.2.1 w z1 z2).2.2.2.2.2.2)) (fun v S' F' A' h => by obtain ⟨h1, r, e, -⟩ := h; exact ⟨⟨r, e⟩, h1 ▸ h90⟩))) rfl ⟨rfl, rfl, by decide, by decide⟩ ⟨(by show k + 0 ≤ 601024; omega), (by show n + 0 ≤ 7293034; omega)⟩ (fun _ => Nat.le_of_ble_eq_true rfl) (fun v hv => by cases hv) (fun v hv => by simp only [List.mem_cons, List.not_mem_nil, or_false, Option.some.injEq, reduceCtorEq, false_or] at hv; rcases hv with rfl | rfl | rfl | rfl | rfl <;> first | exact (lS (sC_0 hSC)) | exact (lS (sM_100 hSM)) | exact (lS h90) | exact trivial) dL_law_1077 (fun v_1077 S_1077 F_1077 A_1077 hP_1077 => ?_)
    obtain ⟨rfl, r9, A9, hc, rfl⟩ := hP_1077
    obtain ⟨rfl, r8, hc4, hc5, hc6, hc7⟩ := hc
    obtain rfl := aI_inj hc4
    have e100 : F_1077 100 = F 100 := hc6 100 (by decide)
    have eA : ∀ i, i ≠ 22 → i ≠ 23 → i ≠ 24 → i ≠ 90 → (upA A9 90 0 ((Int32.ofInt r9).toInt)) i = A i := fun i z1 z2 z3 z4 => (upA_other z4).trans (hc7 i z1 z2 z3)
    show ab_J E 7 k n S F_1077 (upA A9 90 0 ((Int32.ofInt r9).toInt)) 1080 [some (aX (.ref b)), some (aR 0), some (aR 100), some (aR 90), some (aI i), none, none] [aI 0]
    refine j_istore C (lv' := [some (aX (.ref b)), some (aR 0), some (aR 100), some (aR 90), some (aI i), some (aI 0), none]) dL_law_1080 (by decide) rfl ?_
    refine j_aload_n C dL_law_1082 rfl rfl ?_
    refine j_xload_n C dL_law_1083 rfl rfl ?_
    refine j_iload C dL_law_1084 rfl ?_
    refine j_iconst C dL_law_1086 ?_
    refine j_iadd C dL_law_1087 ?_
    refine j_sld C hX (j := i + 1) (by omega) (by omega) (by omega) dL_law_1088 ?_
    refine j_xload_n C dL_law_1089 rfl rfl ?_
    refine j_iload C dL_law_1090 rfl ?_
    refine j_iconst C dL_law_1092 ?_
    refine j_iadd C dL_law_1093 ?_
    refine j_sld C hX (j := i + 2) (by omega) (by omega) (by omega) dL_law_1094 ?_
    refine j_xload_n C dL_law_1095 rfl rfl ?_
    refine j_iload C dL_law_1096 rfl ?_
    refine j_iconst C dL_law_1098 ?_
    refine j_iadd C dL_law_1099 ?_
    refine j_sld C hX (j := i + 3) (by omega) (by omega) (by omega) dL_law_1100 ?_
    refine j_callV C (vs := [aI ((xs (i + 1).toNat).toInt), aI ((xs (i + 2).toNat).toInt), aI ((xs (i + 3).toNat).toInt)]) (st := []) cl_L_143 im_yX10_way se_yX10_way (fun _ => (m_way _ S F_1077 (upA A9 90 0 ((Int32.ofInt r9).toInt)) hSM _ _ _ (inX _) (inX _) (inX _) (by rw [e100]; rw [hw3]; exact hw9) (fun k z1 z2 => by rw [eA 101 (by decide) (by decide) (by decide) (by decide), hLS.1.1]; exact (hLS.2 k z1 z2).1) (fun w z1 z2 => by rw [e100] at z2; rw [eA 113 (by decide) (by decide) (by decide) (by decide), eA 114 (by decide) (by decide) (by decide) (by decide), eA 115 (by decide) (by decide) (by decide) (by decide), eA 116 (by decide) (by decide) (by decide) (by decide), eA 117 (by decide) (by decide) (by decide) (by decide)]; have y := hLW.2.2.2.1 w z1 (by omega); obtain ⟨q1, q2, q3, -⟩ := y; exact ⟨hLW.2.2.2.2.2 w z1 (by omega), by omega, fun k y1 y2 => by have := q3 k y1 (by omega); omega⟩))) (sM_100 hSM) rfl rfl rfl ⟨rfl, rfl, by decide, by decide⟩ ⟨(by show k + 0 ≤ 601024; omega), (by show n + 0 ≤ 7293034; omega)⟩ (fun _ => Nat.le_of_ble_eq_true rfl) (fun v hv => by cases hv) (fun v hv => by simp only [List.mem_cons, List.not_mem_nil, or_false, Option.some.injEq, reduceCtorEq, false_or] at hv; rcases hv with rfl | rfl | rfl | rfl | rfl | rfl <;> first | exact (lS (sC_0 hSC)) | exact (lS (sM_100 hSM)) | exact (lS h90) | exact trivial) dL_law_1101 (fun v_1101 S_1101 F_1101 A_1101 hP_1101 => ?_)
    obtain ⟨rfl, t9, r2, rfl, hm1, hm⟩ := hP_1101
    obtain ⟨rfl, hm2, hm3⟩ : t9 = 0 ∧ WR (opM (upA A9 90 0 ((Int32.ofInt r9).toInt)) ((xs (i + 3).toNat).toInt) (F_1077 100 18)) ((xs (i + 1).toNat).toInt) ((xs (i + 2).toNat).toInt) r2 ∧ ∀ i, i ≠ 135 → i ≠ 136 → A_1101 i = (upA A9 90 0 ((Int32.ofInt r9).toInt)) i := by rcases hm with h | h; exact absurd ⟨hq1, hq2⟩ h.2.1; exact ⟨h.1, h.2.2.2.1, h.2.2.2.2⟩
    rw [e100, opM_to (A := A) (fun i z => eA i (by omega) (by omega) (by omega) (by omega)), hI.opq] at hm2
    have e2 : r2 = r9 := WRc_eq hm2 hc5 Iff.rfl Iff.rfl (fun _ => Iff.rfl)
    have h90r : A_1101 90 0 = (Int32.ofInt r2).toInt := by rw [hm3 90 (by decide) (by decide), e2]; rfl
    have ht9 : F_1101 100 0 = 0 := by rw [hm1, upF_at]
    have hI9 := hI.to (F' := F_1101) (A' := A_1101) (fun i z => by rw [hm1, upF_o (by omega), hc6 i (by omega)]) (fun k z => by rw [hm1, upF_ne (by omega), e100]) (fun i z => (hm3 i (by omega) (by omega)).trans (eA i (by omega) (by omega) (by omega) (by omega)))
    show ab_J E 7 k n S F_1101 A_1101 1104 [some (aX (.ref b)), some (aR 0), some (aR 100), some (aR 90), some (aI i), some (aI 0), none] [aI r2]
    refine j_istore C (lv' := [some (aX (.ref b)), some (aR 0), some (aR 100), some (aR 90), some (aI i), some (aI 0), some (aI r2)]) dL_law_1104 (by decide) rfl ?_
    refine j_aload_n C dL_law_1106 rfl rfl ?_
    refine j_callV C (vs := []) (st := []) cl_L_82 im_yX10_thrown se_yX10_thrown (fun _ => (m_thrown _ S F_1101 A_1101 hSM)) (sM_100 hSM) rfl rfl rfl ⟨rfl, rfl, by decide, by decide⟩ ⟨(by show k + 0 ≤ 601024; omega), (by show n + 0 ≤ 7293034; omega)⟩ (fun _ => Nat.le_of_ble_eq_true rfl) (fun v hv => by cases hv) (fun v hv => by simp only [List.mem_cons, List.not_mem_nil, or_false, Option.some.injEq, reduceCtorEq, false_or] at hv; rcases hv with rfl | rfl | rfl | rfl | rfl | rfl | rfl <;> first | exact (lS (sC_0 hSC)) | exact (lS (sM_100 hSM)) | exact (lS h90) | exact trivial) dL_law_1107 (fun v_1107 S_1107 F_1107 A_1107 hP_1107 => ?_)
    obtain ⟨rfl, rfl, rfl, rfl⟩ := hP_1107
    rw [ht9]
    show ab_J E 7 k n S F_1101 A_1101 1110 [some (aX (.ref b)), some (aR 0), some (aR 100), some (aR 90), some (aI i), some (aI 0), some (aI r2)] [aI 0]
    refine j_iload C dL_law_1110 rfl ?_
    refine j_icmp_eq C (tgt := 1117) dL_law_1112 (by decide) ⟨by omega, by omega⟩ ⟨by omega, by omega⟩ (fun c1112 => ?_) (fun c1112 => ?_)
    · refine j_iload C dL_law_1117 rfl ?_
      refine j_if_ne C (tgt := 1134) dL_law_1119 (by decide) ⟨by omega, by omega⟩ (fun c1119 => ?_) (fun c1119 => ?_)
      · exact absurd c1119 (by decide)
      · refine j_aload_n C dL_law_1122 rfl rfl ?_
        refine j_iconst C dL_law_1123 ?_
        refine j_lald C h90 (by omega) (by omega) (by decide) dL_law_1124 ?_
        refine j_iload C dL_law_1125 rfl ?_
        refine j_i2l C dL_law_1127 ?_
        refine j_lcmpE C h90r dL_law_1128 ?_
        refine j_if_eq C (tgt := 1134) dL_law_1129 (by decide) ⟨by omega, by omega⟩ (fun c1129 => ?_) (fun c1129 => ?_)
        · refine j_goto C (tgt := 1175) dL_law_1134 (by decide) ?_
          refine j_lv (lv' := [some (aX (.ref b)), some (aR 0), some (aR 100), some (aR 90), some (aI i), none, none]) ?_ ⟨rfl, rfl, rfl, rfl, rfl, trivial⟩
          exact j_widen (by omega) (by omega) (go _ _ _ _ _ hI9)
        · exact absurd c1129 (by decide)
    · exact absurd c1112 (by decide)
