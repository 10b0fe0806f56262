/-! the nearest first: what the class's search holds -/
theorem nbr_sym {k j e : Int} (hk : 0 ≤ k ∧ k < 280) (h : nbr k j e) : nbr j k e := by
  obtain ⟨d, h1, h2, h3, h4, h5, h6⟩ := h
  rcases (show d = 0 ∨ d = 1 ∨ d = 2 ∨ d = 3 ∨ d = 5 ∨ d = 6 ∨ d = 7 ∨ d = 8 by omega) with q | q | q | q | q | q | q | q
  · subst q; exact ⟨8, by decide, by decide, by decide, by omega, by omega, h6⟩
  · subst q; exact ⟨7, by decide, by decide, by decide, by omega, by omega, h6⟩
  · subst q; exact ⟨6, by decide, by decide, by decide, by omega, by omega, h6⟩
  · subst q; exact ⟨5, by decide, by decide, by decide, by omega, by omega, h6⟩
  · subst q; exact ⟨3, by decide, by decide, by decide, by omega, by omega, h6⟩
  · subst q; exact ⟨2, by decide, by decide, by decide, by omega, by omega, h6⟩
  · subst q; exact ⟨1, by decide, by decide, by decide, by omega, by omega, h6⟩
  · subst q; exact ⟨0, by decide, by decide, by decide, by omega, by omega, h6⟩
/-- a square that was followed -/
def stl (far T : Int → Int) (n k : Int) : Prop := (0 ≤ k ∧ k < 280) ∧ ¬ far k = -1 ∧ ∀ j, 0 ≤ j → j < n → ¬ T j = k
def cnF (far : Int → Int) : Int := sm (fun k => if far k = -1 then 0 else 1) 280
theorem sm_set {f g : Int → Int} {j : Int} : ∀ {n : Nat}, 0 ≤ j → j < n → (∀ k, ¬ k = j → g k = f k) → sm g n = sm f n - f j + g j
  | 0, h1, h2, _ => by omega
  | n + 1, h1, h2, h => by
    by_cases q : j = n
    · simp only [sm]
      have e : sm g n = sm f n := sm_cong (fun k a b => h k (by omega))
      rw [e, ← q]; omega
    · simp only [sm]
      rw [sm_set h1 (by omega) h, h n (by omega)]; omega
theorem cnF_le (far : Int → Int) : 0 ≤ cnF far ∧ cnF far ≤ 280 := by
  refine ⟨sm_nonneg (fun k _ _ => by (try dsimp only); split <;> omega), ?_⟩
  have := sm_ge (f := fun k => if far k = -1 then 0 else 1) (c := 1) (n := 280) (fun k _ _ => by (try dsimp only); split <;> omega)
  show sm _ 280 ≤ 280
  omega
theorem cnF_new {far g : Int → Int} {j : Int} (h0 : 0 ≤ j ∧ j < 280) (h1 : far j = -1) (h2 : ¬ g j = -1) (h : ∀ k, ¬ k = j → g k = far k) : cnF g = cnF far + 1 := by
  unfold cnF
  rw [sm_set (f := fun k => if far k = -1 then 0 else 1) (j := j) h0.1 (by omega) (fun k q => by rw [h k q])]
  rw [if_pos h1, if_neg h2]; omega
theorem cnF_same {far g : Int → Int} {j : Int} (h1 : ¬ far j = -1) (h2 : ¬ g j = -1) (h : ∀ k, ¬ k = j → g k = far k) : cnF g = cnF far := by
  refine sm_cong (fun k a b => ?_)
  by_cases q : k = j
  · rw [q, if_neg h1, if_neg h2]
  · rw [h k q]
/-- all but the square u has followed what it must -/
def DJ (op : Int → Prop) (a b : Int) (far T : Int → Int) (n i u : Int) : Prop :=
  (0 ≤ n ∧ 0 ≤ i ∧ i + n = cnF far) ∧ (∀ k, 0 ≤ k → k < 280 → far k = -1 ∨ (0 ≤ far k ∧ far k ≤ 7 * i ∧ pathC op a k (far k))) ∧ (∀ j, 0 ≤ j → j < n → (0 ≤ T j ∧ T j < 280) ∧ ¬ far (T j) = -1) ∧ (∀ j j', 0 ≤ j → j < n → 0 ≤ j' → j' < n → T j = T j' → j = j') ∧ (∀ k, stl far T n k → ¬ k = u → ∀ j e, nbr k j e → op j → ¬ far j = -1 ∧ far j ≤ far k + e) ∧ (∀ k, stl far T n k → ∀ j, 0 ≤ j → j < n → far k ≤ far (T j)) ∧ far a = 0 ∧ ∀ k, stl far T n k → ¬ k = b
/-- j lies by direction d of u -/
def nbd (u d j e : Int) : Prop := (0 ≤ u % 20 + d % 3 - 1 ∧ u % 20 + d % 3 - 1 < 20 ∧ 0 ≤ u / 20 + d / 3 - 1 ∧ u / 20 + d / 3 - 1 < 14) ∧ j = 20 * (u / 20 + d / 3 - 1) + (u % 20 + d % 3 - 1) ∧ e = (if d % 2 = 1 then 5 else 7)
theorem nbd_nbr {u r j e : Int} (h0 : 0 ≤ r ∧ r < 8) (h : nbd u (dk r) j e) : nbr u j e := by
  have hd := dk_r h0.1 h0.2
  exact ⟨dk r, hd.1, hd.2.1, hd.2.2, h⟩
/-- u's first q neighbours are met -/
def FW (op : Int → Prop) (a b : Int) (far T : Int → Int) (n i u q : Int) : Prop :=
  DJ op a b far T n i u ∧ stl far T n u ∧ (∀ k, stl far T n k → far k ≤ far u) ∧ (0 ≤ far u ∧ far u + 7 ≤ 7 * i) ∧ ∀ r, 0 ≤ r → r < q → ∀ j e, nbd u (dk r) j e → op j → ¬ far j = -1 ∧ far j ≤ far u + e
theorem FW_end {op : Int → Prop} {a b : Int} {far T : Int → Int} {n i u : Int} (h : FW op a b far T n i u 8) : DJ op a b far T n i (-1) := by
  obtain ⟨⟨h1, h2, h3, h4, h5, h6, h7, h8⟩, g1, g2, g3, g4⟩ := h
  refine ⟨h1, h2, h3, h4, fun k hk _ j e hn ho => ?_, h6, h7, h8⟩
  by_cases q : k = u
  · subst q
    obtain ⟨d, d1, d2, d3, d4⟩ := hn
    obtain ⟨r, r1, r2, r3⟩ := dk_all d1 d2 d3
    exact g4 r r1 r2 j e (by rw [r3]; exact d4) ho
  · exact h5 k hk q j e hn ho
theorem FW_skip {op : Int → Prop} {a b : Int} {far T : Int → Int} {n i u q : Int} (h : FW op a b far T n i u q) (hs : ∀ j e, nbd u (dk q) j e → ¬ op j) : FW op a b far T n i u (q + 1) := by
  obtain ⟨h1, g1, g2, g3, g4⟩ := h
  refine ⟨h1, g1, g2, g3, fun r r1 r2 j e hn ho => ?_⟩
  by_cases e1 : r = q
  · rw [e1] at hn; exact absurd ho (hs j e hn)
  · exact g4 r r1 (by omega) j e hn ho
theorem nbd_one {u d j e j' e' : Int} (h : nbd u d j e) (h' : nbd u d j' e') : j' = j ∧ e' = e := ⟨h'.2.1.trans h.2.1.symm, h'.2.2.trans h.2.2.symm⟩
theorem FW_keep {op : Int → Prop} {a b : Int} {far T : Int → Int} {n i u q j e : Int} (h : FW op a b far T n i u q) (hn : nbd u (dk q) j e) (h1 : ¬ far j = -1) (h2 : ¬ far u + e < far j) : FW op a b far T n i u (q + 1) := by
  obtain ⟨h0, g1, g2, g3, g4⟩ := h
  refine ⟨h0, g1, g2, g3, fun r r1 r2 j' e' hn' ho => ?_⟩
  by_cases e1 : r = q
  · rw [e1] at hn'
    obtain ⟨z1, z2⟩ := nbd_one hn hn'
    rw [z1, z2]; exact ⟨h1, by omega⟩
  · exact g4 r r1 (by omega) j' e' hn' ho
/-- a square is met anew -/
theorem FW_new {op : Int → Prop} {a b : Int} {far T g V : Int → Int} {n i u q j e : Int} (h : FW op a b far T n i u q) (hq : 0 ≤ q ∧ q < 8) (hn : nbd u (dk q) j e) (ho : op j) (h1 : far j = -1) (hg : ∀ k, g k = if k = j then far u + e else far k) (hV : ∀ k, V k = if k = n then j else T k) : FW op a b g V (n + 1) i u (q + 1) := by
  obtain ⟨⟨d1, d2, d3, d4, d5, d6, d7, d8⟩, g1, g2, g3, g4⟩ := h
  have hr := nbr_rng (nbd_nbr hq hn)
  have hju : ¬ j = u := fun z => g1.2.1 (z ▸ h1)
  have hja : ¬ j = a := fun z => by rw [z, d7] at h1; omega
  have gj : g j = far u + e := by rw [hg, if_pos rfl]
  have go : ∀ k, ¬ k = j → g k = far k := fun k z => by rw [hg, if_neg z]
  have gu : g u = far u := go u (fun z => hju z.symm)
  have Vn : V n = j := by rw [hV, if_pos rfl]
  have Vo : ∀ k, k < n → V k = T k := fun k z => by rw [hV, if_neg (by omega)]
  have Tj : ∀ k, 0 ≤ k → k < n → ¬ T k = j := fun k z1 z2 z => (d3 k z1 z2).2 (z ▸ h1)
  have sto : ∀ k, stl g V (n + 1) k → stl far T n k ∧ ¬ k = j := fun k hk => by
    have kj : ¬ k = j := fun z => hk.2.2 n d1.1 (by omega) (Vn.trans z.symm)
    exact ⟨⟨hk.1, by rw [← go k kj]; exact hk.2.1, fun x z1 z2 => by rw [← Vo x z2]; exact hk.2.2 x z1 (by omega)⟩, kj⟩
  refine ⟨⟨⟨by omega, d1.2.1, ?_⟩, fun k z1 z2 => ?_, fun x z1 z2 => ?_, fun x y z1 z2 z3 z4 z5 => ?_, fun k hk ku x y hx hy => ?_, fun k hk x z1 z2 => ?_, ?_, fun k hk => d8 k (sto k hk).1⟩, ⟨g1.1, by rw [gu]; exact g1.2.1, fun x z1 z2 => ?_⟩, fun k hk => ?_, by rw [gu]; exact g3, fun r r1 r2 x y hx hy => ?_⟩
  · rw [cnF_new ⟨hr.1, hr.2.1⟩ h1 (by rw [gj]; omega) go]; omega
  · by_cases z : k = j
    · rw [z, gj]
      refine Or.inr ⟨by omega, by omega, pathC_step ?_ (nbr_sym g1.1 (nbd_nbr hq hn)) ho⟩
      rcases d2 u g1.1.1 g1.1.2 with y | y
      · exact absurd y g1.2.1
      · exact y.2.2
    · rw [go k z]; exact d2 k z1 z2
  · by_cases z : x = n
    · rw [z, Vn, gj]; exact ⟨⟨hr.1, hr.2.1⟩, by omega⟩
    · rw [Vo x (by omega), go _ (Tj x z1 (by omega))]; exact d3 x z1 (by omega)
  · by_cases za : x = n <;> by_cases zb : y = n
    · omega
    · rw [za, Vn, Vo y (by omega)] at z5; exact absurd z5.symm (Tj y z3 (by omega))
    · rw [zb, Vn, Vo x (by omega)] at z5; exact absurd z5 (Tj x z1 (by omega))
    · rw [Vo x (by omega), Vo y (by omega)] at z5; exact d4 x y z1 (by omega) z3 (by omega) z5
  · obtain ⟨ks, kj⟩ := sto k hk
    have := d5 k ks ku x y hx hy
    have xj : ¬ x = j := fun z => this.1 (z ▸ h1)
    rw [go x xj, go k kj]; exact this
  · obtain ⟨ks, kj⟩ := sto k hk
    rw [go k kj]
    by_cases z : x = n
    · rw [z, Vn, gj]; have := g2 k ks; omega
    · rw [Vo x (by omega), go _ (Tj x z1 (by omega))]; exact d6 k ks x z1 (by omega)
  · rw [go a (fun z => hja z.symm)]; exact d7
  · by_cases z : x = n
    · rw [z, Vn]; exact hju
    · rw [Vo x (by omega)]; exact g1.2.2 x z1 (by omega)
  · obtain ⟨ks, kj⟩ := sto k hk
    rw [go k kj, gu]; exact g2 k ks
  · rw [gu]
    by_cases z : r = q
    · rw [z] at hx
      obtain ⟨z1, z2⟩ := nbd_one hn hx
      rw [z1, z2, gj]; exact ⟨by omega, by omega⟩
    · have := g4 r r1 (by omega) x y hx hy
      have xj : ¬ x = j := fun z => this.1 (z ▸ h1)
      rw [go x xj]; exact this
/-- a nearer way to a square that waits -/
theorem FW_less {op : Int → Prop} {a b : Int} {far T g : Int → Int} {n i u q j e : Int} (h : FW op a b far T n i u q) (hq : 0 ≤ q ∧ q < 8) (hn : nbd u (dk q) j e) (ho : op j) (h1 : ¬ far j = -1) (h2 : far u + e < far j) (hg : ∀ k, g k = if k = j then far u + e else far k) : FW op a b g T n i u (q + 1) := by
  obtain ⟨⟨d1, d2, d3, d4, d5, d6, d7, d8⟩, g1, g2, g3, g4⟩ := h
  have hr := nbr_rng (nbd_nbr hq hn)
  have hju : ¬ j = u := fun z => by rw [z] at h2; omega
  have hja : ¬ j = a := fun z => by rw [z, d7] at h2; omega
  have gj : g j = far u + e := by rw [hg, if_pos rfl]
  have go : ∀ k, ¬ k = j → g k = far k := fun k z => by rw [hg, if_neg z]
  have gu : g u = far u := go u (fun z => hju z.symm)
  have gle : ∀ k, g k ≤ far k := fun k => by
    by_cases z : k = j
    · rw [z, gj]; omega
    · rw [go k z]; exact Int.le_refl _
  have gne : ∀ k, ¬ far k = -1 → ¬ g k = -1 := fun k hk => by
    by_cases z : k = j
    · rw [z, gj]; omega
    · rw [go k z]; exact hk
  have sto : ∀ k, stl g T n k → stl far T n k ∧ ¬ k = j := fun k hk => by
    have hf : ¬ far k = -1 := by
      by_cases z : k = j
      · rw [z]; exact h1
      · rw [← go k z]; exact hk.2.1
    have ks : stl far T n k := ⟨hk.1, hf, hk.2.2⟩
    exact ⟨ks, fun z => by have := g2 k ks; rw [z] at this; omega⟩
  refine ⟨⟨⟨d1.1, d1.2.1, ?_⟩, fun k z1 z2 => ?_, fun x z1 z2 => ⟨(d3 x z1 z2).1, gne _ (d3 x z1 z2).2⟩, d4, fun k hk ku x y hx hy => ?_, fun k hk x z1 z2 => ?_, ?_, fun k hk => d8 k (sto k hk).1⟩, ⟨g1.1, by rw [gu]; exact g1.2.1, g1.2.2⟩, fun k hk => ?_, by rw [gu]; exact g3, fun r r1 r2 x y hx hy => ?_⟩
  · rw [cnF_same h1 (gne j h1) go]; exact d1.2.2
  · by_cases z : k = j
    · rw [z, gj]
      refine Or.inr ⟨by omega, by omega, pathC_step ?_ (nbr_sym g1.1 (nbd_nbr hq hn)) ho⟩
      rcases d2 u g1.1.1 g1.1.2 with y | y
      · exact absurd y g1.2.1
      · exact y.2.2
    · rw [go k z]; exact d2 k z1 z2
  · obtain ⟨ks, kj⟩ := sto k hk
    have := d5 k ks ku x y hx hy
    have := gle x
    refine ⟨gne x (by omega), ?_⟩
    rw [go k kj]; omega
  · obtain ⟨ks, kj⟩ := sto k hk
    rw [go k kj]
    by_cases z : T x = j
    · rw [z, gj]; have := g2 k ks; omega
    · rw [go _ z]; exact d6 k ks x z1 z2
  · rw [go a (fun z => hja z.symm)]; exact d7
  · obtain ⟨ks, kj⟩ := sto k hk
    rw [go k kj, gu]; exact g2 k ks
  · rw [gu]
    by_cases z : r = q
    · rw [z] at hx
      obtain ⟨z1, z2⟩ := nbd_one hn hx
      rw [z1, z2, gj]; exact ⟨by omega, by omega⟩
    · have := g4 r r1 (by omega) x y hx hy
      have := gle x
      exact ⟨gne x (by omega), by omega⟩
/-- the nearest is taken -/
theorem DJ_take {op : Int → Prop} {a b : Int} {far T V : Int → Int} {n i m : Int} (h : DJ op a b far T n i (-1)) (hm : 0 ≤ m ∧ m < n) (hmin : ∀ j, 0 ≤ j → j < n → far (T m) ≤ far (T j)) (hb : ¬ T m = b) (hV : ∀ k, V k = if k = m then T (n - 1) else T k) : FW op a b far V (n - 1) (i + 1) (T m) 0 := by
  obtain ⟨d1, d2, d3, d4, d5, d6, d7, d8⟩ := h
  have hu := d3 m hm.1 hm.2
  have Vi : ∀ x, 0 ≤ x → x < n - 1 → ∃ y, 0 ≤ y ∧ y < n ∧ ¬ y = m ∧ V x = T y ∧ (x = m → y = n - 1) ∧ (¬ x = m → y = x) := fun x z1 z2 => by
    by_cases z : x = m
    · exact ⟨n - 1, by omega, by omega, by omega, by rw [hV, if_pos z], fun _ => rfl, fun q => absurd z q⟩
    · exact ⟨x, z1, by omega, z, by rw [hV, if_neg z], fun q => absurd q z, fun _ => rfl⟩
  have Vm : ∀ x, 0 ≤ x → x < n → ¬ x = m → ∃ y, 0 ≤ y ∧ y < n - 1 ∧ V y = T x := fun x z1 z2 z3 => by
    by_cases z : x = n - 1
    · exact ⟨m, hm.1, by omega, by rw [hV, if_pos rfl, z]⟩
    · exact ⟨x, z1, by omega, by rw [hV, if_neg z3]⟩
  have su : stl far V (n - 1) (T m) := ⟨hu.1, hu.2, fun x z1 z2 z3 => by
    obtain ⟨y, y1, y2, y3, y4, -⟩ := Vi x z1 z2
    exact y3 (d4 y m y1 y2 hm.1 hm.2 (y4.symm.trans z3))⟩
  have sto : ∀ k, stl far V (n - 1) k → k = T m ∨ stl far T n k := fun k hk => by
    by_cases z : k = T m
    · exact Or.inl z
    · refine Or.inr ⟨hk.1, hk.2.1, fun x z1 z2 z3 => ?_⟩
      by_cases xm : x = m
      · rw [xm] at z3; exact z z3.symm
      · obtain ⟨y, y1, y2, y3⟩ := Vm x z1 z2 xm
        exact hk.2.2 y y1 y2 (y3.trans z3)
  have hmax : ∀ k, stl far V (n - 1) k → far k ≤ far (T m) := fun k hk => by
    rcases sto k hk with z | z
    · rw [z]; exact Int.le_refl _
    · exact d6 k z m hm.1 hm.2
  refine ⟨⟨⟨by omega, by omega, by omega⟩, fun k z1 z2 => ?_, fun x z1 z2 => ?_, fun x y z1 z2 z3 z4 z5 => ?_, fun k hk ku x y hx hy => ?_, fun k hk x z1 z2 => ?_, d7, fun k hk => ?_⟩, su, hmax, ?_, fun r r1 r2 => by omega⟩
  · rcases d2 k z1 z2 with z | z
    · exact Or.inl z
    · exact Or.inr ⟨z.1, by omega, z.2.2⟩
  · obtain ⟨y, y1, y2, y3, y4, -⟩ := Vi x z1 z2
    rw [y4]; exact d3 y y1 y2
  · obtain ⟨x', x1, x2, x3, x4, x5, x6⟩ := Vi x z1 z2
    obtain ⟨y', y1, y2, y3, y4, y5, y6⟩ := Vi y z3 z4
    have := d4 x' y' x1 x2 y1 y2 (x4.symm.trans (z5.trans y4))
    by_cases xm : x = m <;> by_cases ym : y = m
    · omega
    · have := x5 xm; have := y6 ym; omega
    · have := x6 xm; have := y5 ym; omega
    · have := x6 xm; have := y6 ym; omega
  · rcases sto k hk with z | z
    · exact absurd z ku
    · exact d5 k z (by have := z.1.1; omega) x y hx hy
  · obtain ⟨y, y1, y2, y3, y4, -⟩ := Vi x z1 z2
    rw [y4]
    rcases sto k hk with z | z
    · rw [z]; exact hmin y y1 y2
    · exact d6 k z y y1 y2
  · rcases sto k hk with z | z
    · rw [z]; exact hb
    · exact d8 k z
  · rcases d2 (T m) hu.1.1 hu.1.2 with z | z
    · exact absurd z hu.2
    · omega
/-- any way leads to a square that was followed, or is no shorter than one that waits -/
theorem DJ_way {op : Int → Prop} {a b : Int} {far T : Int → Int} {n i : Int} (h : DJ op a b far T n i (-1)) (hop : ∀ k, op k → 0 ≤ k ∧ k < 280) (ha : 0 ≤ a ∧ a < 280) : ∀ (p : Nat) (k c : Int), pth op a p k c → (stl far T n k ∧ far k ≤ c) ∨ ∃ j, 0 ≤ j ∧ j < n ∧ far (T j) ≤ c
  | 0, k, c, q => by
    obtain ⟨d1, d2, d3, d4, d5, d6, d7, d8⟩ := h
    obtain ⟨q1, q2⟩ := q
    subst q1; subst q2
    by_cases z : ∃ j, 0 ≤ j ∧ j < n ∧ T j = k
    · obtain ⟨j, j1, j2, j3⟩ := z
      exact Or.inr ⟨j, j1, j2, by rw [j3, d7]; exact Int.le_refl _⟩
    · exact Or.inl ⟨⟨ha, by rw [d7]; decide, fun j j1 j2 j3 => z ⟨j, j1, j2, j3⟩⟩, by rw [d7]; exact Int.le_refl _⟩
  | p + 1, k, c, ⟨j, e, c', q1, q2, q3, q4⟩ => by
    have ih := DJ_way h hop ha p j c' q1
    obtain ⟨d1, d2, d3, d4, d5, d6, d7, d8⟩ := h
    have hr := nbr_rng q2
    rcases ih with ⟨s1, s2⟩ | ⟨x, x1, x2, x3⟩
    · have hs := nbr_sym (k := k) (j := j) (e := e) (hop k q3) q2
      have hk := nbr_rng hs
      have := d5 j s1 (by have := s1.1.1; omega) k e hs q3
      by_cases z : ∃ x, 0 ≤ x ∧ x < n ∧ T x = k
      · obtain ⟨x, x1, x2, x3⟩ := z
        exact Or.inr ⟨x, x1, x2, by rw [x3]; omega⟩
      · exact Or.inl ⟨⟨⟨hk.1, hk.2.1⟩, this.1, fun x x1 x2 x3 => z ⟨x, x1, x2, x3⟩⟩, by omega⟩
    · exact Or.inr ⟨x, x1, x2, by omega⟩
/-- the class's answer -/
def WRc (op : Int → Prop) (a b r : Int) : Prop := (r = -1 ∧ (¬ op a ∨ ¬ op b ∨ ∀ c, ¬ pathC op a b c)) ∨ (op a ∧ op b ∧ 0 ≤ r ∧ r < 1000000 ∧ pathC op a b r ∧ ∀ c, pathC op a b c → r ≤ c)
theorem DJ_found {op : Int → Prop} {a b : Int} {far T : Int → Int} {n i m : Int} (h : DJ op a b far T n i (-1)) (hop : ∀ k, op k → 0 ≤ k ∧ k < 280) (ha : 0 ≤ a ∧ a < 280) (hoa : op a) (hob : op b) (hm : 0 ≤ m ∧ m < n) (hmin : ∀ j, 0 ≤ j → j < n → far (T m) ≤ far (T j)) (hb : T m = b) (hi : i ≤ 280) : WRc op a b (far b) := by
  have hw := DJ_way h hop ha
  obtain ⟨d1, d2, d3, d4, d5, d6, d7, d8⟩ := h
  have hu := d3 m hm.1 hm.2
  rw [hb] at hu hmin
  rcases d2 b hu.1.1 hu.1.2 with z | z
  · exact absurd z hu.2
  · refine Or.inr ⟨hoa, hob, z.1, by omega, z.2.2, fun c ⟨p, hp⟩ => ?_⟩
    rcases hw p b c hp with y | ⟨x, x1, x2, x3⟩
    · exact absurd rfl (d8 b y.1)
    · have := hmin x x1 x2; omega
theorem DJ_none {op : Int → Prop} {a b : Int} {far T : Int → Int} {n i : Int} (h : DJ op a b far T n i (-1)) (hop : ∀ k, op k → 0 ≤ k ∧ k < 280) (ha : 0 ≤ a ∧ a < 280) (hn : n ≤ 0) : WRc op a b (-1) := by
  have hw := DJ_way h hop ha
  refine Or.inl ⟨rfl, Or.inr (Or.inr (fun c ⟨p, hp⟩ => ?_))⟩
  rcases hw p b c hp with y | ⟨x, x1, x2, x3⟩
  · exact absurd rfl (h.2.2.2.2.2.2.2 b y.1)
  · omega
theorem DJ_cnt {op : Int → Prop} {a b : Int} {far T : Int → Int} {n i u : Int} (h : DJ op a b far T n i u) : 0 ≤ n ∧ 0 ≤ i ∧ i + n ≤ 280 := by
  have := cnF_le far
  have := h.1
  omega
theorem DJ_room {op : Int → Prop} {a b : Int} {far T : Int → Int} {n i u j : Int} (h : DJ op a b far T n i u) (hj : 0 ≤ j ∧ j < 280) (h1 : far j = -1) : n < 280 := by
  have e := cnF_new (far := far) (g := fun k => if k = j then 0 else far k) hj h1 (by simp) (fun k q => by simp [q])
  have := cnF_le (fun k => if k = j then 0 else far k)
  have := h.1
  omega
theorem DJ_init {op : Int → Prop} {a b : Int} {far T : Int → Int} (ha : 0 ≤ a ∧ a < 280) (h1 : far a = 0) (h2 : ∀ k, 0 ≤ k → k < 280 → ¬ k = a → far k = -1) (h3 : T 0 = a) : DJ op a b far T 1 0 (-1) := by
  have st0 : ∀ k, ¬ stl far T 1 k := fun k hk => by
    by_cases z : k = a
    · exact hk.2.2 0 (by decide) (by decide) (h3.trans z.symm)
    · exact hk.2.1 (h2 k hk.1.1 hk.1.2 z)
  have T0 : ∀ j, 0 ≤ j → j < 1 → T j = a := fun j z1 z2 => by rw [show j = 0 by omega]; exact h3
  refine ⟨⟨by decide, by decide, ?_⟩, fun k z1 z2 => ?_, fun j z1 z2 => ?_, fun j j' z1 z2 z3 z4 _ => by omega, fun k hk => absurd hk (st0 k), fun k hk => absurd hk (st0 k), h1, fun k hk => absurd hk (st0 k)⟩
  · have e0 : cnF (fun _ => -1) = 0 := sm_zero 280
    have e : cnF (fun k => if k = a then 0 else -1) = cnF (fun _ => -1) + 1 := cnF_new (far := fun _ => -1) ha rfl (by simp) (fun k q => by simp [q])
    have e2 : cnF far = cnF (fun k => if k = a then 0 else -1) := sm_cong (fun k z1 z2 => by
      (try dsimp only)
      by_cases z : k = a
      · simp [z, h1]
      · simp [z, h2 k z1 (by omega) z])
    omega
  · by_cases z : k = a
    · rw [z, h1]; exact Or.inr ⟨by decide, by decide, pathC_0⟩
    · exact Or.inl (h2 k z1 z2 z)
  · rw [T0 j z1 z2, h1]; exact ⟨ha, by decide⟩
theorem WRc_eq {op op' : Int → Prop} {a b r s : Int} (h : WR op a b r) (g : WRc op' a b s) (ha : op a ↔ op' a) (hb : op b ↔ op' b) (hc : ∀ c, pathC op a b c ↔ pathC op' a b c) : r = s := by
  rcases h with ⟨h1, h2⟩ | ⟨h1, h2, h3, h4, h5⟩ <;> rcases g with ⟨g1, g2⟩ | ⟨g1, g2, g3, g4, g5, g6⟩
  · omega
  · rcases h2 with z | z | z
    · exact absurd (ha.mpr g1) z
    · exact absurd (hb.mpr g2) z
    · have := z s ((hc s).mpr g5); omega
  · rcases g2 with z | z | z
    · exact absurd (ha.mp h1) z
    · exact absurd (hb.mp h2) z
    · exact absurd ((hc r).mp h4) (z r)
  · have := h5 s ((hc s).mpr g5)
    have := g6 r ((hc r).mp h4)
    omega
theorem ab_and1 (a : Int) : (Int32.ofInt a &&& Int32.ofInt 1).toInt = a % 2 := by
  have e : (Int32.ofInt a &&& Int32.ofInt 1) = Int32.ofInt (a % 2) := by
    apply Int32.toBitVec_inj.mp
    show BitVec.ofInt 32 a &&& BitVec.ofInt 32 1 = BitVec.ofInt 32 (a % 2)
    apply BitVec.eq_of_toNat_eq
    rw [BitVec.toNat_and, show (BitVec.ofInt 32 1).toNat = 2 ^ 1 - 1 from rfl, Nat.and_two_pow_sub_one_eq_mod, BitVec.toNat_ofInt, BitVec.toNat_ofInt]
    omega
  rw [e, ab_toInt ⟨by omega, by omega⟩]
