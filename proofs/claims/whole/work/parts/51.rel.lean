-- deps: 50.inv5 43.c3
/-! THE PROGRAM'S CONTENT AGAINST THE REFERENCE'S -/
def KC (P : pm_C → Prop) (cs cs' : List pm_C) : Prop := ∀ p c, 74 ≤ p → P c → cs[p]? = some c → cs'[p]? = some c
def lkc (c : pm_C) : Prop := (∃ v, c = .inr (1, v)) ∨ (∃ v, c = .inr (2, v)) ∨ ∃ v, c = .inl (0, v)
def isM (c : pm_C) : Prop := ∃ v, c = .inr (3, v)
def isQ (c : pm_C) : Prop := (∃ v, c = .inr (6, v)) ∨ ∃ v, c = .inl (3, v)
abbrev KL (cs cs' : List pm_C) : Prop := KC lkc cs cs'
theorem KC.rf {P : pm_C → Prop} (cs : List pm_C) : KC P cs cs := fun _ _ _ _ h => h
theorem KC.tr {P : pm_C → Prop} {cs cs' cs'' : List pm_C} (h : KC P cs cs') (g : KC P cs' cs'') : KC P cs cs'' := fun p c h1 h2 h3 => g p c h1 h2 (h p c h1 h2 h3)
theorem KC.app {P : pm_C → Prop} {cs ys : List pm_C} : KC P cs (cs ++ ys) := fun _ _ _ _ h => ga_old h
theorem KC.set {P : pm_C → Prop} {cs : List pm_C} {p : Nat} {c0 x : pm_C} (h0 : cs[p]? = some c0) (hn : ¬ P c0) : KC P cs (cs.set p x) := fun q c _ h2 h3 => by
  by_cases e : p = q
  · subst e
    rw [h0] at h3
    cases h3
    exact absurd h2 hn
  · rw [gs_ne e]; exact h3
theorem KC.low {P : pm_C → Prop} {cs : List pm_C} {p : Nat} {x : pm_C} (hp : p < 74) : KC P cs (cs.set p x) := fun q c h1 _ h3 => by rw [gs_ne (by omega)]; exact h3
theorem nlk3 {v : List Value} : ¬ lkc (.inr (3, v)) := fun h => by
  rcases h with ⟨w, h⟩ | ⟨w, h⟩ | ⟨w, h⟩ <;> cases h
theorem nlk6 {v : List Value} : ¬ lkc (.inr (6, v)) := fun h => by
  rcases h with ⟨w, h⟩ | ⟨w, h⟩ | ⟨w, h⟩ <;> cases h
theorem nlkA {v : List Value} : ¬ lkc (.inl (3, v)) := fun h => by
  rcases h with ⟨w, h⟩ | ⟨w, h⟩ | ⟨w, h⟩ <;> cases h
theorem nM6 {v : List Value} : ¬ isM (.inr (6, v)) := fun h => by
  obtain ⟨w, h⟩ := h; cases h
theorem nMA {v : List Value} {t : Nat} : ¬ isM (.inl (t, v)) := fun h => by
  obtain ⟨w, h⟩ := h; cases h
theorem nQ3 {v : List Value} : ¬ isQ (.inr (3, v)) := fun h => by
  rcases h with ⟨w, h⟩ | ⟨w, h⟩ <;> cases h
theorem lk1 {v : List Value} : lkc (.inr (1, v)) := Or.inl ⟨v, rfl⟩
theorem lk2 {v : List Value} : lkc (.inr (2, v)) := Or.inr (Or.inl ⟨v, rfl⟩)
theorem lkI {v : List Value} : lkc (.inl (0, v)) := Or.inr (Or.inr ⟨v, rfl⟩)
theorem lkL {k v q l d e : Int32} {y : Option Nat} : lkc (letC k v q l d e y) := lk2
def HisX (cs : List pm_C) (y n : Nat) (f : Int32) (x : Int64) : Prop := 74 ≤ y ∧ ∃ q g, 74 ≤ q ∧ His cs y q n f g ∧ ∀ k, k < n → g k = m_at x (nI k)
theorem HisX.kl {cs cs' : List pm_C} {y n : Nat} {f : Int32} {x : Int64} (h : HisX cs y n f x) (k : KL cs cs') : HisX cs' y n f x := by
  obtain ⟨h1, q, g, h2, ⟨h3, h4, h5⟩, h6⟩ := h
  exact ⟨h1, q, g, h2, ⟨k _ _ h1 lk1 h3, k _ _ h2 lkI h4, h5⟩, h6⟩
def RA (s a : MS) : Prop := ∀ f j, f = 1 ∨ f = 2 ∨ f = 6 ∨ f = 7 ∨ f = 9 ∨ f = 10 ∨ f = 11 ∨ f = 12 ∨ (f = 17 ∧ j = 0) ∨ f = 29 → a.1 f j = s.1 f j
def RBx (s a : MS) (r : Nat) (x : Int64) (n : Nat) : Prop := (∀ k, k < n → a.1 50 (12 * r + k) = m_at x (nI k)) ∧ (∀ k, k < 4 → a.1 51 (4 * r + k) = (wkA s x n).1 k) ∧ ∀ k, k < n → a.1 52 (12 * r + k) = (wkA s x (k + 1)).2
def RE (cs : List pm_C) (Y : PT) (s : MS) (i : Nat) : Prop := (Y 12 i = none ∧ s.1 13 i = -1) ∨ ∃ l y q d e n, Y 12 i = some l ∧ 74 ≤ l ∧ cs[l]? = some (letC 6 (s.1 13 i) q (s.1 14 i) d e (some y)) ∧ s.1 14 i = nI n ∧ HisX cs y n (s.1 16 i) (s.2 15 i)
def RF (cs : List pm_C) (Y : PT) (s : MS) (j : Nat) : Prop := ∃ p l e y, Y 3 j = some p ∧ 74 ≤ p ∧ cs[p]? = some (.inr (3, [.int (s.1 19 j), .int (s.1 20 j), .ref l, .int (s.1 28 j)])) ∧ 74 ≤ l ∧ cs[l]? = some (letC (s.1 18 j) (s.1 21 j) (s.1 23 j) (s.1 22 j) (s.1 24 j) e y) ∧ (s.1 18 j = 2 → e = s.1 25 j) ∧ (s.1 18 j = 6 ∨ s.1 18 j = 7 → ∃ h n, y = some h ∧ s.1 22 j = nI n ∧ HisX cs h n (s.1 26 j) (s.2 27 j))
def RP (cs : List pm_C) (s : MS) (q u : Nat) (o : Option Nat) : Prop := (o = none ∧ s.1 30 (4 * q + u) = -1) ∨ ∃ l y, o = some l ∧ 74 ≤ l ∧ cs[l]? = some (letC 2 (s.1 30 (4 * q + u)) (nI q) (s.1 31 (4 * q + u)) (s.1 32 (4 * q + u)) (s.1 33 (4 * q + u)) y) ∧ ¬ s.1 30 (4 * q + u) < 0
def RQ (cs : List pm_C) (s : MS) (q : Nat) (o : Option Nat) : Prop := (o = none ∧ s.1 37 q = 0) ∨ ∃ l y, o = some l ∧ 74 ≤ l ∧ s.1 37 q = 1 ∧ cs[l]? = some (letC 2 (s.1 38 q) (nI q) (s.1 39 q) (s.1 40 q) (s.1 41 q) y) ∧ ¬ s.1 38 q < 0
def reqC (s : MS) (q p : Nat) (o : Option Nat) : pm_C := .inr (6, [.int (s.1 3 q), .int (s.1 4 q), .int (s.1 5 q), .ref (p + 1), pv o, .int (s.1 42 q), .int (s.1 43 q), .int (s.1 44 q)])
def arrC (g : Nat → Option Nat) : pm_C := .inl (3, (List.range 4).map fun u => pv (g u))
def RG (cs : List pm_C) (Y : PT) (s : MS) (q : Nat) : Prop := ∃ p o g, Y 1 q = some p ∧ 74 ≤ p ∧ cs[p]? = some (reqC s q p o) ∧ cs[p + 1]? = some (arrC g) ∧ (∀ u, u < 4 → RP cs s q u (g u)) ∧ RQ cs s q o
def RH (cs : List pm_C) (Y : PT) (s : MS) (u : Nat) : Prop := (Y 5 u = none ∧ s.1 34 u = -1) ∨ ∃ l k q e y, Y 5 u = some l ∧ 74 ≤ l ∧ cs[l]? = some (letC k (s.1 34 u) q (s.1 35 u) (s.1 36 u) e y)
def R (s : MS) (c : CX) : Prop := 73 < c.1.length ∧ RA s c.2.1 ∧ (∀ r, r < 4 → RBx s c.2.1 r (s.2 8 r) (lnN s r)) ∧ (∀ i, i < 16 → RE c.1 c.2.2.1 s i) ∧ (∀ j, j < mN s → RF c.1 c.2.2.1 s j) ∧ (∀ i j, i < mN s → j < mN s → c.2.2.1 3 i = c.2.2.1 3 j → i = j) ∧ (∀ q, q < nqN s → RG c.1 c.2.2.1 s q) ∧ (∀ i j, i < nqN s → j < nqN s → c.2.2.1 1 i = c.2.2.1 1 j → i = j) ∧ (∀ q, nqN s ≤ q → q < 12 → c.2.2.1 1 q = none) ∧ ∀ u, u < 4 → RH c.1 c.2.2.1 s u
theorem RE.cong {cs cs' : List pm_C} {Y Y' : PT} {s s' : MS} {i : Nat} (h : RE cs Y s i) (k : KL cs cs') (hY : Y' 12 i = Y 12 i) (h1 : ∀ a, a = 13 ∨ a = 14 ∨ a = 16 → s'.1 a i = s.1 a i) (h2 : s'.2 15 i = s.2 15 i) : RE cs' Y' s' i := by
  unfold RE
  rw [hY, h1 13 (by omega), h1 14 (by omega), h1 16 (by omega), h2]
  rcases h with h | ⟨l, y, q, d, e, n, b1, b2, b3, b4, b5⟩
  · exact Or.inl h
  · exact Or.inr ⟨l, y, q, d, e, n, b1, b2, k _ _ b2 lkL b3, b4, b5.kl k⟩
theorem RF.cong {cs cs' : List pm_C} {Y Y' : PT} {s s' : MS} {j : Nat} (h : RF cs Y s j) (k : KL cs cs') (km : KC isM cs cs') (hY : Y' 3 j = Y 3 j) (h1 : ∀ a, 18 ≤ a → a ≤ 28 → s'.1 a j = s.1 a j) (h2 : s'.2 27 j = s.2 27 j) : RF cs' Y' s' j := by
  unfold RF
  rw [hY, h1 18 (by omega) (by omega), h1 19 (by omega) (by omega), h1 20 (by omega) (by omega), h1 21 (by omega) (by omega), h1 22 (by omega) (by omega), h1 23 (by omega) (by omega), h1 24 (by omega) (by omega), h1 25 (by omega) (by omega), h1 26 (by omega) (by omega), h1 28 (by omega) (by omega), h2]
  obtain ⟨p, l, e, y, b1, b2, b3, b4, b5, b6, b7⟩ := h
  refine ⟨p, l, e, y, b1, b2, km _ _ b2 ⟨_, rfl⟩ b3, b4, k _ _ b4 lkL b5, b6, fun z => ?_⟩
  obtain ⟨h, n, c1, c2, c3⟩ := b7 z
  exact ⟨h, n, c1, c2, c3.kl k⟩
theorem RP.cong {cs cs' : List pm_C} {s s' : MS} {q u : Nat} {o : Option Nat} (h : RP cs s q u o) (k : KL cs cs') (h1 : ∀ a, 30 ≤ a → a ≤ 33 → s'.1 a (4 * q + u) = s.1 a (4 * q + u)) : RP cs' s' q u o := by
  unfold RP
  rw [h1 30 (by omega) (by omega), h1 31 (by omega) (by omega), h1 32 (by omega) (by omega), h1 33 (by omega) (by omega)]
  rcases h with h | ⟨l, y, b1, b2, b3, b4⟩
  · exact Or.inl h
  · exact Or.inr ⟨l, y, b1, b2, k _ _ b2 lkL b3, b4⟩
theorem RQ.cong {cs cs' : List pm_C} {s s' : MS} {q : Nat} {o : Option Nat} (h : RQ cs s q o) (k : KL cs cs') (h1 : ∀ a, 37 ≤ a → a ≤ 41 → s'.1 a q = s.1 a q) : RQ cs' s' q o := by
  unfold RQ
  rw [h1 37 (by omega) (by omega), h1 38 (by omega) (by omega), h1 39 (by omega) (by omega), h1 40 (by omega) (by omega), h1 41 (by omega) (by omega)]
  rcases h with h | ⟨l, y, b1, b2, b3, b4, b5⟩
  · exact Or.inl h
  · exact Or.inr ⟨l, y, b1, b2, b3, k _ _ b2 lkL b4, b5⟩
theorem RG.cong {cs cs' : List pm_C} {Y Y' : PT} {s s' : MS} {q : Nat} (h : RG cs Y s q) (k : KL cs cs') (kq : KC isQ cs cs') (hY : Y' 1 q = Y 1 q) (h1 : ∀ a, (3 ≤ a ∧ a ≤ 5) ∨ (37 ≤ a ∧ a ≤ 44) → s'.1 a q = s.1 a q) (h2 : ∀ a u, 30 ≤ a → a ≤ 33 → u < 4 → s'.1 a (4 * q + u) = s.1 a (4 * q + u)) : RG cs' Y' s' q := by
  unfold RG reqC
  rw [hY, h1 3 (by omega), h1 4 (by omega), h1 5 (by omega), h1 42 (by omega), h1 43 (by omega), h1 44 (by omega)]
  obtain ⟨p, o, g, b1, b2, b3, b4, b5, b6⟩ := h
  exact ⟨p, o, g, b1, b2, kq _ _ b2 (Or.inl ⟨_, rfl⟩) b3, kq _ _ (by omega) (Or.inr ⟨_, rfl⟩) b4, fun u hu => (b5 u hu).cong k (fun a g1 g2 => h2 a u g1 g2 hu), b6.cong k (fun a g1 g2 => h1 a (by omega))⟩
theorem RH.cong {cs cs' : List pm_C} {Y Y' : PT} {s s' : MS} {u : Nat} (h : RH cs Y s u) (k : KL cs cs') (hY : Y' 5 u = Y 5 u) (h1 : ∀ a, 34 ≤ a → a ≤ 36 → s'.1 a u = s.1 a u) : RH cs' Y' s' u := by
  unfold RH
  rw [hY, h1 34 (by omega) (by omega), h1 35 (by omega) (by omega), h1 36 (by omega) (by omega)]
  rcases h with h | ⟨l, kk, q, e, y, b1, b2, b3⟩
  · exact Or.inl h
  · exact Or.inr ⟨l, kk, q, e, y, b1, b2, k _ _ b2 lkL b3⟩
theorem RBx.cong {s s' a a' : MS} {r n : Nat} {x : Int64} (h : RBx s a r x n) (hs : ∀ k j, k = 3 ∨ k = 4 ∨ k = 5 → s'.1 k j = s.1 k j) (ha : ∀ k j, 50 ≤ k → k ≤ 52 → (k ≠ 51 → 12 * r ≤ j ∧ j < 12 * r + 12) → (k = 51 → 4 * r ≤ j ∧ j < 4 * r + 4) → a'.1 k j = a.1 k j) (hn : n ≤ 12) : RBx s' a' r x n := by
  obtain ⟨b1, b2, b3⟩ := h
  refine ⟨fun k hk => ?_, fun k hk => ?_, fun k hk => ?_⟩
  · rw [ha 50 _ (by omega) (by omega) (by omega) (by omega)]; exact b1 k hk
  · rw [ha 51 _ (by omega) (by omega) (by omega) (by omega), wkA_cong x hs]; exact b2 k hk
  · rw [ha 52 _ (by omega) (by omega) (by omega) (by omega), wkA_cong x hs]; exact b3 k hk
theorem RBx.eqa {s s' a : MS} {r n : Nat} {x : Int64} (h : RBx s a r x n) (hs : ∀ k j, k = 3 ∨ k = 4 ∨ k = 5 → s'.1 k j = s.1 k j) : RBx s' a r x n := by
  obtain ⟨b1, b2, b3⟩ := h
  exact ⟨b1, fun k hk => by rw [wkA_cong x hs]; exact b2 k hk, fun k hk => by rw [wkA_cong x hs]; exact b3 k hk⟩
theorem RBx.up {s a : MS} {r n f j : Nat} {x : Int64} {v : Int32} (h : RBx s a r x n) (hf : f < 50) : RBx s (up a f j v) r x n := by
  obtain ⟨b1, b2, b3⟩ := h
  exact ⟨fun k hk => by rw [up_n (by omega)]; exact b1 k hk, fun k hk => by rw [up_n (by omega)]; exact b2 k hk, fun k hk => by rw [up_n (by omega)]; exact b3 k hk⟩
/-! what is made, what it costs -/
def Ext (c c' : CX) (b : Nat) : Prop := (∀ p, 31 ≤ p → p < 74 → c'.1[p]? = c.1[p]?) ∧ c.1.length ≤ c'.1.length ∧ KL c.1 c'.1 ∧ c'.2.2.2.1 ≤ c.2.2.2.1 + b ∧ c'.2.2.2.2 ≤ c.2.2.2.2 + 12 * b
theorem Ext.rf (c : CX) : Ext c c 0 := ⟨fun _ _ _ => rfl, Nat.le_refl _, KC.rf _, by omega, by omega⟩
theorem Ext.tr {c c' c'' : CX} {b b' : Nat} (h : Ext c c' b) (g : Ext c' c'' b') : Ext c c'' (b + b') := by
  obtain ⟨h1, h2, h3, h4, h5⟩ := h
  obtain ⟨g1, g2, g3, g4, g5⟩ := g
  exact ⟨fun p p1 p2 => (g1 p p1 p2).trans (h1 p p1 p2), by omega, h3.tr g3, by omega, by omega⟩
theorem Ext.mono {c c' : CX} {b b' : Nat} (h : Ext c c' b) (hb : b ≤ b') : Ext c c' b' := by
  obtain ⟨h1, h2, h3, h4, h5⟩ := h
  exact ⟨h1, h2, h3, by omega, by omega⟩
theorem ext_eq {cs : List pm_C} {a a' : MS} {Y Y' : PT} {kn : Nat × Nat} : Ext (cs, a, Y, kn) (cs, a', Y', kn) 0 := ⟨fun _ _ _ => rfl, Nat.le_refl _, KC.rf _, by show kn.1 ≤ kn.1 + 0; omega, by show kn.2 ≤ kn.2 + 12 * 0; omega⟩
theorem ext_add {cs : List pm_C} {a : MS} {Y : PT} {k n m : Nat} {x : pm_C} (hc : 73 < cs.length) (hm : m ≤ 12) : Ext (cs, a, Y, k, n) (cs ++ [x], a, Y, k + 1, n + m) 1 := ⟨fun p _ h2 => List.getElem?_append_left (by show p < cs.length; omega), by show cs.length ≤ (cs ++ [x]).length; rw [List.length_append]; omega, KC.app, by show k + 1 ≤ k + 1; omega, by show n + m ≤ n + 12 * 1; omega⟩
theorem ext_snd {c : CX} (hc : 73 < c.1.length) (fr to : Int32) (l : Nat) : Ext c (sndC c fr to l) 1 := by
  unfold sndC
  split
  · exact (Ext.rf c).mono (by omega)
  · refine ⟨fun p _ h2 => List.getElem?_append_left (by omega), by show c.1.length ≤ (c.1 ++ [_]).length; rw [List.length_append]; omega, KC.app, by show c.2.2.2.1 + 1 ≤ _; omega, by show c.2.2.2.2 + 4 ≤ _; omega⟩
theorem ext_all {c : CX} (hc : 73 < c.1.length) (fr : Int32) (l : Nat) : ∀ t, Ext c (allC c fr l t) t
  | 0 => Ext.rf c
  | t + 1 => by
    rw [allC]; split
    · exact (ext_all hc fr l t).mono (by omega)
    · exact (ext_all hc fr l t).tr (ext_snd (Nat.lt_of_lt_of_le hc (ext_all hc fr l t).2.1) fr (nI t) l)
theorem ext_set {cs : List pm_C} {a a' : MS} {Y Y' : PT} {kn : Nat × Nat} {p : Nat} {c0 x : pm_C} (hp : 74 ≤ p) (h0 : cs[p]? = some c0) (hn : ¬ lkc c0) : Ext (cs, a, Y, kn) (cs.set p x, a', Y', kn) 0 := ⟨fun q _ h2 => gs_ne (by omega), by show cs.length ≤ (cs.set p x).length; rw [List.length_set]; exact Nat.le_refl _, KC.set h0 hn, by show kn.1 ≤ kn.1 + 0; omega, by show kn.2 ≤ kn.2 + 12 * 0; omega⟩
/-! the relation, step by step -/
theorem R.keep {s : MS} {cs cs' : List pm_C} {a : MS} {Y : PT} {kn kn' : Nat × Nat} (h : R s (cs, a, Y, kn)) (hc : 73 < cs'.length) (k : ∀ P, KC P cs cs') : R s (cs', a, Y, kn') := by
  obtain ⟨-, h2, h3, h4, h5, h6, h7, h8, h9, h10⟩ := h
  exact ⟨hc, h2, h3, fun i hi => (h4 i hi).cong (k _) rfl (fun _ _ => rfl) rfl, fun j hj => (h5 j hj).cong (k _) (k _) rfl (fun _ _ _ => rfl) rfl, h6, fun q hq => (h7 q hq).cong (k _) (k _) rfl (fun _ _ => rfl) (fun _ _ _ _ _ => rfl), h8, h9, fun u hu => (h10 u hu).cong (k _) rfl (fun _ _ _ => rfl)⟩
theorem R.add {s : MS} {cs : List pm_C} {a : MS} {Y : PT} {kn kn' : Nat × Nat} (x : pm_C) (h : R s (cs, a, Y, kn)) : R s (cs ++ [x], a, Y, kn') := h.keep (hcA h.1) (fun P => KC.app)
theorem R.scr {s s' : MS} {c : CX} (h : R s c) (h1 : ∀ a j, 1 ≤ a → a ≠ 45 → s'.1 a j = s.1 a j) (h2 : s'.2 = s.2) : R s' c := by
  have em : mN s' = mN s := m_cong (h1 17 0 (by omega) (by omega))
  have eq : nqN s' = nqN s := nq_cong (h1 2 0 (by omega) (by omega))
  obtain ⟨g1, g2, g3, g4, g5, g6, g7, g8, g9, g10⟩ := h
  refine ⟨g1, fun f j hf => (g2 f j hf).trans (h1 f j (by omega) (by omega)).symm, fun r hr => ?_, fun i hi => (g4 i hi).cong (KC.rf _) rfl (fun a _ => h1 a i (by omega) (by omega)) (by rw [h2]), fun j hj => (g5 j (by omega)).cong (KC.rf _) (KC.rf _) rfl (fun a _ _ => h1 a j (by omega) (by omega)) (by rw [h2]), by rw [em]; exact g6, fun q hq => (g7 q (by omega)).cong (KC.rf _) (KC.rf _) rfl (fun a _ => h1 a q (by omega) (by omega)) (fun a u _ _ _ => h1 a _ (by omega) (by omega)), by rw [eq]; exact g8, by rw [eq]; exact g9, fun u hu => (g10 u hu).cong (KC.rf _) rfl (fun a _ _ => h1 a u (by omega) (by omega))⟩
  have e8 : s'.2 8 r = s.2 8 r := by rw [h2]
  have e7 : lnN s' r = lnN s r := ln_cong (h1 7 r (by omega) (by omega))
  rw [e8, e7]
  exact (g3 r hr).eqa (fun k j _ => h1 k j (by omega) (by omega))
/-- a field that program and reference both bear -/
theorem R.fld {s : MS} {cs : List pm_C} {a : MS} {Y : PT} {kn kn' : Nat × Nat} (f j : Nat) (v : Int32) (h : R s (cs, a, Y, kn)) (hf : f = 6 ∨ f = 9 ∨ f = 10 ∨ f = 11 ∨ f = 12 ∨ f = 29) : R (up s f j v) (cs, up a f j v, Y, kn') := by
  obtain ⟨g1, g2, g3, g4, g5, g6, g7, g8, g9, g10⟩ := h
  have em : mN (up s f j v) = mN s := m_cong (up_n (by omega))
  have eq : nqN (up s f j v) = nqN s := nq_cong (up_n (by omega))
  refine ⟨g1, fun k i hk => ?_, fun r hr => ?_, fun i hi => (g4 i hi).cong (KC.rf _) rfl (fun a _ => up_n (by omega)) rfl, fun i hi => (g5 i (by omega)).cong (KC.rf _) (KC.rf _) rfl (fun a _ _ => up_n (by omega)) rfl, by rw [em]; exact g6, fun q hq => (g7 q (by omega)).cong (KC.rf _) (KC.rf _) rfl (fun a _ => up_n (by omega)) (fun a u _ _ _ => up_n (by omega)), by rw [eq]; exact g8, by rw [eq]; exact g9, fun u hu => (g10 u hu).cong (KC.rf _) rfl (fun a _ _ => up_n (by omega))⟩
  · show (up a f j v).1 k i = (up s f j v).1 k i
    by_cases e : k = f ∧ i = j
    · rw [e.1, e.2, up_i, up_i]
    · rw [up_n e, up_n e]; exact g2 k i hk
  · have e7 : lnN (up s f j v) r = lnN s r := ln_cong (up_n (by omega))
    rw [e7]
    exact ((g3 r hr).eqa (fun k i _ => up_n (by omega))).up (by omega)
/-- one message more -/
theorem R.put {s s' : MS} {c : CX} {m l : Nat} {fr to e : Int32} {y : Option Nat} (h : R s c) (hm : s.1 17 0 = nI m) (h6 : m < 600) (hf : Fr s s') (hm' : s'.1 17 0 = nI (m + 1)) (h1 : ∀ a j, 18 ≤ a → a ≤ 28 → j ≠ m → s'.1 a j = s.1 a j) (h28 : s'.1 28 m = 0) (h2 : ∀ j, j ≠ m → s'.2 27 j = s.2 27 j) (h19 : s'.1 19 m = fr) (h20 : s'.1 20 m = to) (hl : 74 ≤ l) (hL : c.1[l]? = some (letC (s'.1 18 m) (s'.1 21 m) (s'.1 23 m) (s'.1 22 m) (s'.1 24 m) e y)) (he : s'.1 18 m = 2 → e = s'.1 25 m) (hy : s'.1 18 m = 6 ∨ s'.1 18 m = 7 → ∃ x n, y = some x ∧ s'.1 22 m = nI n ∧ HisX c.1 x n (s'.1 26 m) (s'.2 27 m)) : R s' (sndC c fr to l) := by
  obtain ⟨cs, a, Y, k, n⟩ := c
  obtain ⟨g1, g2, g3, g4, g5, g6, g7, g8, g9, g10⟩ := h
  have g1' : 73 < cs.length := g1
  have em : mN s = m := mN_eq hm (by omega)
  have em' : mN s' = m + 1 := mN_eq hm' (by omega)
  have eq : nqN s' = nqN s := nq_cong (hf.1 2 0 (by omega) (by omega))
  have ha : a.1 17 0 = nI m := (g2 17 0 (by omega)).trans hm
  have eam : mN a = m := mN_eq ha (by omega)
  unfold sndC
  rw [if_neg (not600 ha h6)]
  show R s' (cs ++ [msgC fr to l], up a 17 0 (nI (mN a + 1)), uy Y 3 (mN a) (some cs.length), k + 1, n + 4)
  rw [eam]
  have hY : ∀ x i, ¬ (x = 3 ∧ i = m) → uy Y 3 m (some cs.length) x i = Y x i := fun x i h => uy_n h
  have hlt : ∀ j, j < m → ∃ p, Y 3 j = some p ∧ p < cs.length := fun j hj => by
    obtain ⟨p, l', e', y', b1, b2, b3, b4⟩ := g5 j (by omega)
    exact ⟨p, b1, g_lt b3⟩
  refine ⟨hcA g1, fun f j hf' => ?_, fun r hr => ?_, fun i hi => (g4 i hi).cong KC.app (hY 12 i (by omega)) (fun x _ => hf.1 x i (by omega) (by omega)) (hf.2 15 i (by omega)), fun j hj => ?_, fun i j hi hj e => ?_, fun q hq => (g7 q (by omega)).cong KC.app KC.app (hY 1 q (by omega)) (fun x _ => hf.1 x q (by omega) (by omega)) (fun x u _ _ _ => hf.1 x _ (by omega) (by omega)), fun i j hi hj e => ?_, fun q q1 q2 => ?_, fun u hu => (g10 u hu).cong KC.app (hY 5 u (by omega)) (fun x _ _ => hf.1 x u (by omega) (by omega))⟩
  · show (up a 17 0 (nI (m + 1))).1 f j = s'.1 f j
    by_cases e : f = 17 ∧ j = 0
    · rw [e.1, e.2, up_i, hm']
    · rw [up_n e, g2 f j hf']
      exact (hf.1 f j (by omega) (by omega)).symm
  · have e7 : lnN s' r = lnN s r := ln_cong (hf.1 7 r (by omega) (by omega))
    rw [e7, hf.2 8 r (by omega)]
    exact ((g3 r hr).eqa (fun k i _ => hf.1 k i (by omega) (by omega))).up (by omega)
  · by_cases e : j = m
    · subst e
      refine ⟨cs.length, l, _, _, uy_i, by omega, ?_, hl, ga_old hL, he, fun z => ?_⟩
      · rw [h19, h20, h28]; exact ga_new
      · obtain ⟨x, n', b1, b2, b3⟩ := hy z
        exact ⟨x, n', b1, b2, b3.kl KC.app⟩
    · exact (g5 j (by omega)).cong KC.app KC.app (hY 3 j (by omega)) (fun x x1 x2 => h1 x j x1 x2 e) (h2 j e)
  · have e' : uy Y 3 m (some cs.length) 3 i = uy Y 3 m (some cs.length) 3 j := e
    by_cases ei : i = m
    · by_cases ej : j = m
      · omega
      · rw [ei, uy_i, uy_n (by omega)] at e'
        obtain ⟨p, b1, b2⟩ := hlt j (by omega)
        rw [b1] at e'
        cases e'
        omega
    · by_cases ej : j = m
      · rw [ej, uy_i, uy_n (by omega)] at e'
        obtain ⟨p, b1, b2⟩ := hlt i (by omega)
        rw [b1] at e'
        cases e'
        omega
      · rw [uy_n (by omega), uy_n (by omega)] at e'
        exact g6 i j (by omega) (by omega) e'
  · have e' : uy Y 3 m (some cs.length) 1 i = uy Y 3 m (some cs.length) 1 j := e
    rw [uy_n (by omega), uy_n (by omega)] at e'
    exact g8 i j (by omega) (by omega) e'
  · show uy Y 3 m (some cs.length) 1 q = none
    rw [uy_n (by omega)]
    exact g9 q (by omega) q2
