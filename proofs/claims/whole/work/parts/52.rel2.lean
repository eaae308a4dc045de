-- deps: 51.rel
/-! what is sent, in both -/
theorem R.len {s : MS} {c : CX} (h : R s c) : 73 < c.1.length := h.1
theorem R.a {s : MS} {c : CX} (h : R s c) (f j : Nat) (hf : f = 1 ∨ f = 2 ∨ f = 6 ∨ f = 7 ∨ f = 9 ∨ f = 10 ∨ f = 11 ∨ f = 12 ∨ (f = 17 ∧ j = 0) ∨ f = 29) : c.2.1.1 f j = s.1 f j := h.2.1 f j hf
theorem R.am {s : MS} {c : CX} {t : Nat} (h : R s c) (hi : Inv s t) : c.2.1.1 17 0 = nI (mN s) ∧ mN s ≤ 600 := ⟨(h.a 17 0 (by omega)).trans hi.m.1, hi.m.2⟩
theorem snd_full {s : MS} {c : CX} {fr to : Int32} {l : Nat} (h : R s c) (e : s.1 17 0 = 600) : sndC c fr to l = c := by
  unfold sndC
  rw [if_pos ((h.a 17 0 (by omega)).trans e)]
theorem R_send {s : MS} {c : CX} {t l : Nat} {k v q p d e : Int32} (fr to : Int32) {y : Option Nat} (h : R s c) (hi : Inv s t) (hl : 74 ≤ l) (hL : c.1[l]? = some (letC k v q p d e y)) (hk : ¬ k = 2 ∧ ¬ (k = 6 ∨ k = 7)) : R (f_send s k fr to v q p d) (sndC c fr to l) := by
  unfold f_send
  by_cases e6 : s.1 17 0 = 600
  · rw [if_pos e6, snd_full h e6]; exact h
  · rw [if_neg e6]
    have hlt := is600 hi e6
    obtain ⟨e18, e19, e20, e21, e22, e23, e24⟩ := put_get s (mN s) k fr to v q p d
    exact h.put hi.m.1 hlt fr_put (put_17 hi.m.1) (fun a j _ _ _ => put_ne (by omega)) ((put_ne (by omega)).trans (hi.2.2.2.2.2.1 _ (Nat.le_refl _))) (fun j _ => rfl) e19 e20 hl (by rw [e18, e21, e23, e22, e24]; exact hL) (fun z => absurd (e18.symm.trans z) hk.1) (fun z => by rw [e18] at z; exact absurd z hk.2)
theorem R_row {s : MS} {c : CX} {t l n y : Nat} {k v e f d : Int32} {x : Int64} (fr to : Int32) (h : R s c) (hi : Inv s t) (hl : 74 ≤ l) (hL : c.1[l]? = some (letC k v (-1) (nI n) 0 e (some y))) (hk : ¬ k = 2) (hH : HisX c.1 y n f x) : R (f_row s k fr to v x (nI n) f) (sndC c fr to l) := by
  unfold f_row
  by_cases e6 : s.1 17 0 = 600
  · rw [if_pos e6, snd_full h e6]; exact h
  · rw [if_neg e6]
    have hlt := is600 hi e6
    obtain ⟨e18, e19, e20, e21, e22, e23, e24⟩ := put_get s (mN s) k fr to v (-1) (nI n) 0
    have q1 : ∀ a j, a ≠ 26 → (up (ul (put s (mN s) k fr to v (-1) (nI n) 0) 27 (mN s) x) 26 (mN s) f).1 a j = (put s (mN s) k fr to v (-1) (nI n) 0).1 a j := fun a j ha => up_n (fun z => ha z.1)
    refine h.put (e := e) (y := some y) hi.m.1 hlt ((fr_put.tr (fr_ul (by omega))).tr (fr_up (by omega))) ((q1 17 0 (by omega)).trans (put_17 hi.m.1)) (fun a j g1 g2 g3 => (up_n (by omega)).trans (put_ne (a := a) (j := j) (by omega))) ((q1 28 _ (by omega)).trans ((put_ne (by omega)).trans (hi.2.2.2.2.2.1 _ (Nat.le_refl _)))) (fun j hj => ul_n (by omega)) ((q1 19 _ (by omega)).trans e19) ((q1 20 _ (by omega)).trans e20) hl ?_ (fun z => absurd (e18.symm.trans ((q1 18 _ (by omega)).symm.trans z)) hk) (fun z => ⟨y, n, rfl, (q1 22 _ (by omega)).trans e22, ?_⟩)
    · rw [q1 18 _ (by omega), q1 21 _ (by omega), q1 23 _ (by omega), q1 22 _ (by omega), q1 24 _ (by omega), e18, e21, e23, e22, e24]; exact hL
    · rw [up_i]
      show HisX c.1 y n f ((ul (put s (mN s) k fr to v (-1) (nI n) 0) 27 (mN s) x).2 27 (mN s))
      rw [ul_i]
      exact hH
theorem R_reply {s : MS} {c : CX} {t l r p : Nat} {y : Option Nat} (h : R s c) (hi : Inv s t) (hl : 74 ≤ l) (hL : c.1[l]? = some (letC 2 (s.1 6 r) (m_at (s.2 8 r) (nI (p - 1))) (nI p) (digN (s.2 8 r) p) (wkA s (s.2 8 r) p).2 y)) : R (f_reply s r p) (sndC c (nI r) 4 l) := by
  unfold f_reply
  by_cases e6 : s.1 17 0 = 600
  · rw [if_pos e6, snd_full h e6]; exact h
  · rw [if_neg e6]
    have hlt := is600 hi e6
    obtain ⟨e18, e19, e20, e21, e22, e23, e24⟩ := put_get s (mN s) 2 (nI r) 4 (s.1 6 r) (m_at (s.2 8 r) (nI (p - 1))) (nI p) (digN (s.2 8 r) p)
    generalize hz : up (numset (put s (mN s) 2 (nI r) 4 (s.1 6 r) (m_at (s.2 8 r) (nI (p - 1))) (nI p) (digN (s.2 8 r) p)) (wkA s (s.2 8 r) p).1) 25 (mN s) (wkA s (s.2 8 r) p).2 = z
    have q1 : ∀ a j, a ≠ 25 → a ≠ 45 → z.1 a j = (put s (mN s) 2 (nI r) 4 (s.1 6 r) (m_at (s.2 8 r) (nI (p - 1))) (nI p) (digN (s.2 8 r) p)).1 a j := fun a j ha hb => by
      rw [← hz, up_n (by omega)]
      exact if_neg hb
    have g25 : z.1 25 (mN s) = (wkA s (s.2 8 r) p).2 := by rw [← hz]; exact up_i
    have hfr : Fr s z := by rw [← hz]; exact (fr_put.tr fr_num).tr (fr_up (by omega))
    refine h.put (y := y) hi.m.1 hlt hfr ((q1 17 0 (by omega) (by omega)).trans (put_17 hi.m.1)) (fun a j g1 g2 g3 => ?_) ((q1 28 _ (by omega) (by omega)).trans ((put_ne (by omega)).trans (hi.2.2.2.2.2.1 _ (Nat.le_refl _)))) (fun j hj => by rw [← hz]; rfl) ((q1 19 _ (by omega) (by omega)).trans e19) ((q1 20 _ (by omega) (by omega)).trans e20) hl ?_ (fun _ => g25.symm) (fun w => ?_)
    · by_cases e25 : a = 25
      · rw [← hz, up_n (by omega)]
        exact (if_neg (by omega)).trans (put_ne (a := a) (j := j) (by omega))
      · rw [q1 a j e25 (by omega)]; exact put_ne (by omega)
    · rw [q1 18 _ (by omega) (by omega), q1 21 _ (by omega) (by omega), q1 23 _ (by omega) (by omega), q1 22 _ (by omega) (by omega), q1 24 _ (by omega) (by omega), e18, e21, e23, e22, e24]; exact hL
    · rw [q1 18 _ (by omega) (by omega), e18] at w
      rcases w with w | w <;> exact absurd w (by decide)
theorem R_all {s : MS} {c : CX} {t l : Nat} {k v q p d e : Int32} (fr : Int32) {y : Option Nat} (h : R s c) (hi : ∀ n, n ≤ 4 → Inv (f_all s k fr v q p d n) t) (hl : 74 ≤ l) (hL : c.1[l]? = some (letC k v q p d e y)) (hk : ¬ k = 2 ∧ ¬ (k = 6 ∨ k = 7)) : ∀ n, n ≤ 4 → R (f_all s k fr v q p d n) (allC c fr l n)
  | 0, _ => h
  | n + 1, hn => by
    rw [f_all, allC]
    split
    · exact R_all fr h hi hl hL hk n (by omega)
    · exact R_send fr (nI n) (R_all fr h hi hl hL hk n (by omega)) (hi n (by omega)) hl ((ext_all h.1 fr l n).2.2.1 _ _ hl lkL hL) hk
theorem R_rwN {s : MS} {c : CX} {t l r n y : Nat} {f e : Int32} {x : Int64} (h : R s c) (hi : ∀ u, u ≤ 4 → Inv (rwN s r x (nI n) f u) t) (hl : 74 ≤ l) (hL : c.1[l]? = some (letC 7 (s.1 6 r) (-1) (nI n) 0 e (some y))) (hH : HisX c.1 y n f x) : ∀ u, u ≤ 4 → R (rwN s r x (nI n) f u) (allC c (nI r) l u)
  | 0, _ => h
  | u + 1, hu => by
    rw [rwN, allC]
    split
    · exact R_rwN h hi hl hL hH u (by omega)
    · have hx := ext_all h.1 (nI r) l u
      refine R_row (e := e) (d := 0) (nI r) (nI u) (R_rwN h hi hl hL hH u (by omega)) (hi u (by omega)) hl ?_ (by decide) (hH.kl hx.2.2.1)
      rw [(fr_rw u).1 6 r (by omega) (by omega)]
      exact hx.2.2.1 _ _ hl lkL hL
/-! digests, places -/
theorem dg_dig {g : Nat → Int32} {x : Int64} {n : Nat} (h : ∀ k, k < n → g k = m_at x (nI k)) : ∀ m, m ≤ n → dgG g m = digN x m
  | 0, _ => rfl
  | m + 1, hm => by rw [dgG, digN, dg_dig h m (by omega), h m (by omega)]
theorem pf_hit {g : Nat → Int32} {q : Int32} : ∀ (d i : Nat), (∃ k, i ≤ k ∧ k < i + d ∧ g k = q ∧ (∀ j, i ≤ j → j < k → g j ≠ q) ∧ pfG g q i d = k + 1) ∨ ((∀ k, i ≤ k → k < i + d → g k ≠ q) ∧ pfG g q i d = 0)
  | 0, i => Or.inr ⟨fun k h1 h2 => by omega, rfl⟩
  | d + 1, i => by
    rw [pfG]
    by_cases e : g i = q
    · rw [if_pos e]
      exact Or.inl ⟨i, by omega, by omega, e, fun j h1 h2 => by omega, rfl⟩
    · rw [if_neg e]
      rcases pf_hit d (i + 1) with ⟨k, h1, h2, h3, h4, h5⟩ | ⟨h1, h2⟩
      · refine Or.inl ⟨k, by omega, by omega, h3, fun j j1 j2 => ?_, h5⟩
        by_cases ej : j = i
        · subst ej; exact e
        · exact h4 j (by omega) j2
      · refine Or.inr ⟨fun k k1 k2 => ?_, h2⟩
        by_cases ek : k = i
        · subst ek; exact e
        · exact h1 k (by omega) (by omega)
theorem pl_hit {x : Int64} {q : Int32} : ∀ (n : Nat), (∃ k, k < n ∧ m_at x (nI k) = q ∧ plN x q n = nI (k + 1)) ∨ ((∀ k, k < n → m_at x (nI k) ≠ q) ∧ plN x q n = 0)
  | 0 => Or.inr ⟨fun k h => by omega, rfl⟩
  | n + 1 => by
    rw [plN]
    by_cases e : m_at x (nI n) = q
    · rw [if_pos e]; exact Or.inl ⟨n, by omega, e, rfl⟩
    · rw [if_neg e]
      rcases pl_hit (x := x) (q := q) n with ⟨k, h1, h2, h3⟩ | ⟨h1, h2⟩
      · exact Or.inl ⟨k, by omega, h2, h3⟩
      · refine Or.inr ⟨fun k hk => ?_, h2⟩
        by_cases ek : k = n
        · subst ek; exact e
        · exact h1 k (by omega)
theorem pf_pl {nq n : Nat} {x : Int64} {g : Nat → Int32} {q : Int32} (hr : Row nq x n) (h : ∀ k, k < n → g k = m_at x (nI k)) : nI (pfG g q 0 n) = plN x q n := by
  obtain ⟨f, f1, f2, f3⟩ := hr.at
  rcases pf_hit (g := g) (q := q) n 0 with ⟨k, h1, h2, h3, h4, h5⟩ | ⟨h1, h2⟩
  · rcases pl_hit (x := x) (q := q) n with ⟨j, j1, j2, j3⟩ | ⟨j1, j2⟩
    · rw [h5, j3]
      have e : k = j := by
        rw [h k (by omega)] at h3
        have e1 : f k = f j := by
          have := h3.trans j2.symm
          rw [(f1 k (by omega)).1, (f1 j j1).1] at this
          exact (nI_eq (Nat.lt_trans (f3 k) (by decide)) (Nat.lt_trans (f3 j) (by decide))).mp this
        rcases Nat.lt_trichotomy k j with z | z | z
        · exact absurd e1 (f2 k j z j1)
        · exact z
        · exact absurd e1.symm (f2 j k z (by omega))
      rw [e]
    · exact absurd (by rw [← h k (by omega)]; exact h3) (j1 k (by omega))
  · rcases pl_hit (x := x) (q := q) n with ⟨j, j1, j2, j3⟩ | ⟨j1, j2⟩
    · exact absurd (by rw [h j j1]; exact j2) (h1 j (by omega) (by omega))
    · rw [h2, j2]; rfl
/-! the program's own steps, as functions -/
def addC (c : CX) (x : pm_C) (m : Nat) : CX := (c.1 ++ [x], c.2.1, c.2.2.1, c.2.2.2.1 + 1, c.2.2.2.2 + m)
def setC (c : CX) (f j : Nat) (v : Int32) : CX := (c.1, up c.2.1 f j v, c.2.2.1, c.2.2.2)
def rwG (c : CX) (r : Nat) : Nat → Int32 := fun b => c.2.1.1 50 (12 * r + b)
def rplL (c : CX) (r p : Nat) : pm_C := letC 2 (c.2.1.1 6 r) (c.2.1.1 50 (12 * r + (p - 1))) (nI p) (dgG (rwG c r) p) (c.2.1.1 52 (12 * r + (p - 1))) none
def rplC (c : CX) (r p : Nat) : CX := sndC (addC c (rplL c r p) 7) (nI r) 4 c.1.length
def ordL (c : CX) (r p : Nat) : pm_C := letC 1 (c.2.1.1 6 r) (c.2.1.1 50 (12 * r + (p - 1))) (nI p) (dgG (rwG c r) p) 0 none
def ordC (c : CX) (r p : Nat) : CX := allC (addC c (ordL c r p) 7) (nI r) c.1.length 4
theorem R.addC {s : MS} {c : CX} (x : pm_C) (m : Nat) (h : R s c) : R s (addC c x m) := R.add x h
theorem ext_addC {c : CX} (hc : 73 < c.1.length) {m : Nat} (hm : m ≤ 12) (x : pm_C) : Ext c (addC c x m) 1 := ext_add hc hm
theorem rb_get {s : MS} {c : CX} {t r p : Nat} (h : R s c) (hi : Inv s t) (hr : r < 4) (h1 : 1 ≤ p) (h2 : p ≤ lnN s r) : c.2.1.1 50 (12 * r + (p - 1)) = m_at (s.2 8 r) (nI (p - 1)) ∧ dgG (rwG c r) p = digN (s.2 8 r) p ∧ c.2.1.1 52 (12 * r + (p - 1)) = (wkA s (s.2 8 r) p).2 := by
  obtain ⟨b1, b2, b3⟩ := h.2.2.1 r hr
  refine ⟨b1 (p - 1) (by omega), dg_dig b1 p h2, ?_⟩
  have := b3 (p - 1) (by omega)
  rw [show p - 1 + 1 = p by omega] at this
  exact this
theorem R_rpl {s : MS} {c : CX} {t r p : Nat} (h : R s c) (hi : Inv s t) (hr : r < 4) (h1 : 1 ≤ p) (h2 : p ≤ lnN s r) : R (f_reply s r p) (rplC c r p) ∧ Ext c (rplC c r p) 2 := by
  obtain ⟨g1, g2, g3⟩ := rb_get h hi hr h1 h2
  have hc := h.1
  refine ⟨R_reply (y := none) (h.addC _ _) hi (by omega) ?_, (ext_addC hc (by omega) _).tr (ext_snd (Nat.lt_of_lt_of_le hc (ext_addC hc (m := 7) (by omega) _).2.1) _ _ _)⟩
  have e : (addC c (rplL c r p) 7).1[c.1.length]? = some (rplL c r p) := ga_new
  rw [e]
  unfold rplL
  rw [g1, g2, g3, h.a 6 r (by omega)]
theorem R_ordC {s : MS} {c : CX} {t r p : Nat} (h : R s c) (hi : Inv s t) (hr : r < 4) (h1 : 1 ≤ p) (h2 : p ≤ lnN s r) : R (f_order s r p) (ordC c r p) ∧ Ext c (ordC c r p) 5 := by
  obtain ⟨g1, g2, g3⟩ := rb_get h hi hr h1 h2
  have hc := h.1
  obtain ⟨a1, a2, a3, a4, a5, a6, a7⟩ := hi.r hr
  obtain ⟨f, f1, -, -⟩ := a3.at
  refine ⟨R_all (e := 0) (y := none) (nI r) (h.addC _ _) (fun n hn => inv_all hi _ (fun x hx => ⟨a5, fun z => absurd z (nI_ne4 hx), fun _ => ⟨x, hx, rfl, Or.inl ⟨Or.inr rfl, f (p - 1), (f1 (p - 1) (by omega)).2, (f1 (p - 1) (by omega)).1⟩⟩⟩) n hn) (by omega) ?_ (by decide) 4 (by omega), (ext_addC hc (by omega) _).tr (ext_all (Nat.lt_of_lt_of_le hc (ext_addC hc (m := 7) (by omega) _).2.1) _ _ 4)⟩
  have e : (addC c (ordL c r p) 7).1[c.1.length]? = some (ordL c r p) := ga_new
  rw [e]
  unfold ordL
  rw [g1, g2, h.a 6 r (by omega)]
/-! what is done next: one entry more -/
theorem up_self (a : MS) (f j : Nat) : up a f j (a.1 f j) = a := by
  unfold up
  have : (fun x b => if x = f ∧ b = j then a.1 f j else a.1 x b) = a.1 := by
    funext x b
    by_cases e : x = f ∧ b = j
    · rw [if_pos e, e.1, e.2]
    · rw [if_neg e]
  rw [this]
def doV (o am b : Int32) : Int32 := if o = 0 then am else if o = 1 then b + am else b
def doR (o am b : Int32) : Int32 := if o = 0 then b else if o = 1 then b + am else b
def nxtA (a : MS) (r n q y : Nat) (o am : Int32) : MS := up (up (up (up (up a 51 (4 * r + y) (doV o am (a.1 51 (4 * r + y)))) 52 (12 * r + n) (doR o am (a.1 51 (4 * r + y)))) 50 (12 * r + n) (nI q)) 7 r (nI (n + 1))) 11 r (a.1 11 r &&& ((1 <<< (nI q &&& 31)) ^^^ (-1)))
theorem rb_next {s a : MS} {r n q y : Nat} {x : Int64} (h : RBx s a r x n) (hn : n < 12) (hq : m_at x (nI n) = nI q) (hq2 : q < 12) (hy : s.1 4 q = nI y) (hy4 : y < 4) : RBx s (nxtA a r n q y (s.1 3 q) (s.1 5 q)) r x (n + 1) := by
  obtain ⟨b1, b2, b3⟩ := h
  have ew := wkA_succ (s := s) hq hq2 hy hy4
  have ey := b2 y hy4
  unfold nxtA
  refine ⟨fun k hk => ?_, fun k hk => ?_, fun k hk => ?_⟩
  · rw [up_n (by omega), up_n (by omega)]
    by_cases e : k = n
    · subst e; rw [up_i, hq]
    · rw [up_n (by omega), up_n (by omega), up_n (by omega)]; exact b1 k (by omega)
  · rw [up_n (by omega), up_n (by omega), up_n (by omega), up_n (by omega), ew, ey]
    unfold doV
    by_cases e : k = y
    · subst e
      rw [up_i]
      by_cases c0 : s.1 3 q = 0
      · rw [if_pos c0, if_pos c0]; exact (if_pos rfl).symm
      · rw [if_neg c0, if_neg c0]
        by_cases c1 : s.1 3 q = 1
        · rw [if_pos c1, if_pos c1]; exact (if_pos rfl).symm
        · rw [if_neg c1, if_neg c1]
    · rw [up_n (by omega), b2 k hk]
      by_cases c0 : s.1 3 q = 0
      · rw [if_pos c0]; exact (if_neg e).symm
      · rw [if_neg c0]
        by_cases c1 : s.1 3 q = 1
        · rw [if_pos c1]; exact (if_neg e).symm
        · rw [if_neg c1]
  · rw [up_n (by omega), up_n (by omega), up_n (by omega)]
    by_cases e : k = n
    · subst e
      rw [up_i, ew, ey]
      unfold doR
      by_cases c0 : s.1 3 q = 0
      · rw [if_pos c0, if_pos c0]
      · rw [if_neg c0, if_neg c0]
        by_cases c1 : s.1 3 q = 1
        · rw [if_pos c1, if_pos c1]
        · rw [if_neg c1, if_neg c1]
    · rw [up_n (by omega), up_n (by omega)]; exact b3 k (by omega)
theorem nxtA_ne {a : MS} {r n q y f j : Nat} {o am : Int32} (h : ¬ (f = 51 ∧ j = 4 * r + y) ∧ ¬ (f = 52 ∧ j = 12 * r + n) ∧ ¬ (f = 50 ∧ j = 12 * r + n) ∧ ¬ (f = 7 ∧ j = r) ∧ ¬ (f = 11 ∧ j = r)) : (nxtA a r n q y o am).1 f j = a.1 f j := by
  unfold nxtA
  rw [up_n (by omega), up_n (by omega), up_n (by omega), up_n (by omega), up_n (by omega)]
/-- one entry more in replica r's row -/
theorem R.next {s s' : MS} {cs : List pm_C} {a : MS} {Y : PT} {kn : Nat × Nat} {r n q y : Nat} (h : R s (cs, a, Y, kn)) (hI : ∀ x, x < 4 → lnN s x ≤ 12) (hr : r < 4) (hn : lnN s r = n) (hn2 : n < 12) (hq2 : q < 12) (hy : s.1 4 q = nI y) (hy4 : y < 4) (h1 : ∀ f j, 1 ≤ f → ¬ ((f = 7 ∨ f = 11) ∧ j = r) → s'.1 f j = s.1 f j) (h2 : ∀ f j, ¬ (f = 8 ∧ j = r) → s'.2 f j = s.2 f j) (h7 : s'.1 7 r = nI (n + 1)) (h11 : s'.1 11 r = s.1 11 r &&& ((1 <<< (nI q &&& 31)) ^^^ (-1))) (h8 : ∀ k, k < n → m_at (s'.2 8 r) (nI k) = m_at (s.2 8 r) (nI k)) (h8n : m_at (s'.2 8 r) (nI n) = nI q) : R s' (cs, nxtA a r n q y (s.1 3 q) (s.1 5 q), Y, kn) := by
  obtain ⟨g1, g2, g3, g4, g5, g6, g7, g8, g9, g10⟩ := h
  have em : mN s' = mN s := m_cong (h1 17 0 (by omega) (by omega))
  have eq : nqN s' = nqN s := nq_cong (h1 2 0 (by omega) (by omega))
  refine ⟨g1, fun f j hf => ?_, fun x hx => ?_, fun i hi => (g4 i hi).cong (KC.rf _) rfl (fun f _ => h1 f i (by omega) (by omega)) (h2 15 i (by omega)), fun i hi => (g5 i (by omega)).cong (KC.rf _) (KC.rf _) rfl (fun f _ _ => h1 f i (by omega) (by omega)) (h2 27 i (by omega)), by rw [em]; exact g6, fun i hi => (g7 i (by omega)).cong (KC.rf _) (KC.rf _) rfl (fun f _ => h1 f i (by omega) (by omega)) (fun f u _ _ _ => h1 f _ (by omega) (by omega)), by rw [eq]; exact g8, by rw [eq]; exact g9, fun u hu => (g10 u hu).cong (KC.rf _) rfl (fun f _ _ => h1 f u (by omega) (by omega))⟩
  · show (nxtA a r n q y (s.1 3 q) (s.1 5 q)).1 f j = s'.1 f j
    by_cases e7 : f = 7 ∧ j = r
    · obtain ⟨rfl, rfl⟩ := e7
      rw [h7]
      unfold nxtA
      rw [up_n (by omega), up_i]
    · by_cases e11 : f = 11 ∧ j = r
      · obtain ⟨rfl, rfl⟩ := e11
        rw [h11]
        unfold nxtA
        rw [up_i, g2 11 j (by omega)]
      · rw [nxtA_ne (by omega), h1 f j (by omega) (by omega)]; exact g2 f j hf
  · show RBx s' (nxtA a r n q y (s.1 3 q) (s.1 5 q)) x (s'.2 8 x) (lnN s' x)
    have hs : ∀ k j, k = 3 ∨ k = 4 ∨ k = 5 → s'.1 k j = s.1 k j := fun k j _ => h1 k j (by omega) (by omega)
    by_cases e : x = r
    · subst e
      have e7 : lnN s' x = n + 1 := by rw [lnN, h7, nI_clamp (by omega)]
      rw [e7]
      have hb : RBx s a x (s'.2 8 x) n := by
        have := g3 x hx
        rw [hn] at this
        obtain ⟨b1, b2, b3⟩ := this
        have ew : ∀ m, m ≤ n → wkA s (s'.2 8 x) m = wkA s (s.2 8 x) m := by
          intro m
          induction m with
          | zero => intro _; rfl
          | succ m ih => intro hm; rw [wkA, wkA, ih (by omega), h8 m (by omega)]
        exact ⟨fun k hk => by rw [h8 k hk]; exact b1 k hk, fun k hk => by rw [ew n (Nat.le_refl _)]; exact b2 k hk, fun k hk => by rw [ew (k + 1) (by omega)]; exact b3 k hk⟩
      exact (rb_next hb hn2 h8n hq2 hy hy4).eqa hs
    · have e7 : lnN s' x = lnN s x := ln_cong (h1 7 x (by omega) (by omega))
      rw [e7, h2 8 x (by omega)]
      exact (g3 x hx).cong hs (fun k j k1 k2 k3 k4 => nxtA_ne (by omega)) (hI x hx)
